/-! the pool between two calls: the row of its State, the rows of its history -/
def pushH (m : Int → Int) (H : Int → Int → Int) : Int → Int → Int := fun j => if j = 0 then m else H (j - 1)
abbrev GV (K : Int) (μ : Int → Int → Int) (m : Int → Int) (H : Int → Int → Int) : Prop :=
  (RW K μ 1 m ∧ EX m) ∧ (∀ b, stB b → bgS μ b) ∧ (0 ≤ μ 79 1 ∧ μ 79 1 < 4) ∧ (0 ≤ μ 79 2 ∧ μ 79 2 ≤ 4) ∧ (∀ j, 0 ≤ j → j < μ 79 2 → RW K μ (hAt μ j) (H j) ∧ EX (H j)) ∧ (∀ k, 0 ≤ k → k < 3 → 0 ≤ μ 218 k ∧ 40000 * μ 218 k ≤ K)
theorem GV.now {K : Int} {μ : Int → Int → Int} {m : Int → Int} {H : Int → Int → Int} (h : GV K μ m H) : RW K μ 1 m := h.1.1
theorem GV.ex {K : Int} {μ : Int → Int → Int} {m : Int → Int} {H : Int → Int → Int} (h : GV K μ m H) : EX m := h.1.2
theorem GV.beg {K : Int} {μ : Int → Int → Int} {m : Int → Int} {H : Int → Int → Int} (h : GV K μ m H) : ∀ b, stB b → bgS μ b := h.2.1
theorem GV.nx {K : Int} {μ : Int → Int → Int} {m : Int → Int} {H : Int → Int → Int} (h : GV K μ m H) : 0 ≤ μ 79 1 ∧ μ 79 1 < 4 := h.2.2.1
theorem GV.ln {K : Int} {μ : Int → Int → Int} {m : Int → Int} {H : Int → Int → Int} (h : GV K μ m H) : 0 ≤ μ 79 2 ∧ μ 79 2 ≤ 4 := h.2.2.2.1
theorem GV.his {K : Int} {μ : Int → Int → Int} {m : Int → Int} {H : Int → Int → Int} (h : GV K μ m H) : ∀ j, 0 ≤ j → j < μ 79 2 → RW K μ (hAt μ j) (H j) ∧ EX (H j) := h.2.2.2.2.1
theorem GV.ref {K : Int} {μ : Int → Int → Int} {m : Int → Int} {H : Int → Int → Int} (h : GV K μ m H) : ∀ k, 0 ≤ k → k < 3 → 0 ≤ μ 218 k ∧ 40000 * μ 218 k ≤ K := h.2.2.2.2.2
theorem GV.mono {K K' : Int} {μ : Int → Int → Int} {m : Int → Int} {H : Int → Int → Int} (h : GV K μ m H) (h1 : K ≤ K') (h2 : K' ≤ 500000000) : GV K' μ m H :=
  ⟨⟨h.now.mono h1 h2, h.ex⟩, h.beg, h.nx, h.ln, fun j a b => ⟨(h.his j a b).1.mono h1 h2, (h.his j a b).2⟩, fun k a b => by have := h.ref k a b; exact ⟨this.1, by omega⟩⟩
/-- only the States now and before have changed -/
theorem GV_same {K : Int} {μ F : Int → Int → Int} {m : Int → Int} {H : Int → Int → Int} (h : GV K μ m H) (hF : ∀ o k, (o < 1 ∨ 53 ≤ o) → F o k = μ o k) (hR : RW K F 1 m) (h27 : bgS F 27) : GV K F m H := by
  have e79 := hF 79 1 (by decide)
  have hb : ∀ b, stB b → bgS F b := fun b hb => by
    by_cases e1 : b = 27
    · rw [e1]; exact h27
    · by_cases e2 : b = 1
      · rw [e2]
        intro i i0 i1
        exact (hR.1.1 i i0 i1).1
      · exact bgS_fr (h.beg b hb) (fun o k a c => hF o k (by unfold stB at hb; omega))
  refine ⟨⟨hR, h.ex⟩, hb, by rw [e79]; exact h.nx, by rw [hF 79 2 (by decide)]; exact h.ln, fun j j0 j1 => ?_, fun k k0 k1 => ?_⟩
  · have g := hAt_rg μ j
    have e4 : hAt F j = hAt μ j := by unfold hAt; rw [e79]
    rw [hF 79 2 (by decide)] at j1
    rw [e4]
    exact ⟨(h.his j j0 j1).1.fr (fun o k a b => hF o k (by omega)), (h.his j j0 j1).2⟩
  · rw [hF 218 _ (by decide)]
    exact h.ref k k0 k1
/-- the State before is put behind the history -/
theorem GV_push {K K' : Int} {μ F : Int → Int → Int} {m m' : Int → Int} {H : Int → Int → Int} (h : GV K μ m H) (hF : ∀ o k, (o < 1 ∨ 53 ≤ o) → F o k = μ o k) (h27 : RW K F 27 m) (hR : RW K' F 1 m') (hE : EX m') (hK : K ≤ K') (hK' : K' ≤ 500000000) : GV K' (recM F) m' (pushH m H) ∧ recM F 79 2 = if 4 < μ 79 2 + 1 then 4 else μ 79 2 + 1 := by
  have n0 := h.nx
  have l0 := h.ln
  have e1 := hF 79 1 (by decide)
  have e2 := hF 79 2 (by decide)
  have s0 : 81 ≤ 81 + 26 * F 79 1 ∧ 81 + 26 * F 79 1 + 26 ≤ 185 := by omega
  have hs : stB (81 + 26 * F 79 1) := stB_h (by omega) (by omega)
  have r_o : ∀ o k, (o < 81 + 26 * F 79 1 ∨ 81 + 26 * F 79 1 + 26 ≤ o) → o ≠ 79 → recM F o k = F o k := fun o k a b => by
    unfold recM
    rw [upM_ne (Or.inl b), upM_ne (Or.inl b), cS_o a]
  have r_s : ∀ o k, 81 + 26 * F 79 1 ≤ o → o < 81 + 26 * F 79 1 + 26 → recM F o k = cS F (81 + 26 * F 79 1) 27 o k := fun o k a b => by
    unfold recM
    rw [upM_ne (by omega), upM_ne (by omega)]
  have r1 : recM F 79 1 = (μ 79 1 + 1) % 4 := by
    unfold recM
    rw [upM_ne (Or.inr (by decide)), upM_eq, e1]
  have r2 : recM F 79 2 = if 4 < μ 79 2 + 1 then 4 else μ 79 2 + 1 := by
    unfold recM
    rw [upM_eq, e2]
  refine ⟨?_, r2⟩
  generalize recM F = T at *
  have hT : ∀ o k, (o < 1 ∨ 53 ≤ o) → (o < 81 + 26 * F 79 1 ∨ 81 + 26 * F 79 1 + 26 ≤ o) → o ≠ 79 → T o k = μ o k := fun o k a b c => by
    rw [r_o o k b c, hF o k a]
  have rI : ∀ o k, 1 ≤ o → o < 53 → T o k = F o k := fun o k a b => r_o o k (by omega) (by omega)
  have hbF : bgS F (81 + 26 * F 79 1) := bgS_fr (h.beg _ hs) (fun o k a b => hF o k (by omega))
  refine ⟨⟨hR.fr (fun o k a b => rI o k a (by omega)), hE⟩, fun b hb => ?_, by rw [r1]; omega, ?_, fun j j0 j1 => ?_, fun k k0 k1 => ?_⟩
  · by_cases q : b = 81 + 26 * F 79 1
    · subst q
      exact bgS_fr (bgS_cp hs hs hbF) r_s
    · have hq := st_far hb hs q
      by_cases q1 : b = 1
      · subst q1
        intro i i0 i1
        rw [rI _ _ (by omega) (by omega)]
        exact (hR.1.1 i i0 i1).1
      · by_cases q2 : b = 27
        · subst q2
          intro i i0 i1
          rw [rI _ _ (by omega) (by omega)]
          exact (h27.1.1 i i0 i1).1
        · refine bgS_fr (h.beg b hb) (fun o k a c => hT o k ?_ ?_ ?_) <;> (unfold stB at hb; omega)
  · rw [r2]
    split <;> omega
  · rw [r2] at j1
    have hj4 : j < 4 ∧ j ≤ μ 79 2 := by
      have : (if 4 < μ 79 2 + 1 then (4 : Int) else μ 79 2 + 1) ≤ 4 ∧ (if 4 < μ 79 2 + 1 then (4 : Int) else μ 79 2 + 1) ≤ μ 79 2 + 1 := by split <;> omega
      omega
    by_cases q : j = 0
    · subst q
      have b1 : hAt T 0 = 81 + 26 * F 79 1 := by
        unfold hAt
        rw [r1, e1]
        omega
      rw [b1]
      unfold pushH
      rw [if_pos rfl]
      exact ⟨((h27.cp (by omega) hbF).fr r_s).mono hK hK', h.ex⟩
    · have b1 : hAt T j = hAt μ (j - 1) := by
        unfold hAt
        rw [r1]
        omega
      have b2 : hAt μ (j - 1) ≠ 81 + 26 * F 79 1 := by
        unfold hAt
        omega
      have g := hAt_rg μ (j - 1)
      have far := st_far g.2.2 hs b2
      have c0 := h.his (j - 1) (by omega) (by omega)
      rw [b1]
      unfold pushH
      rw [if_neg q]
      exact ⟨(c0.1.fr (fun o k a b => hT o k (by omega) (by omega) (by omega))).mono hK hK', c0.2⟩
  · rw [hT 218 _ (by decide) (by omega) (by decide)]
    have := h.ref k k0 k1
    exact ⟨this.1, by omega⟩
theorem GV_undo {K : Int} {μ : Int → Int → Int} {m : Int → Int} {H : Int → Int → Int} (h : GV K μ m H) (q : 0 < μ 79 2) : MetC mi_Poo_undo [vR 0] (st μ) (some (vI (μ 79 2 - 1))) (st (tkM μ)) ∧ GV K (tkM μ) (H 0) (fun j => H (j + 1)) ∧ tkM μ 79 2 = μ 79 2 - 1 ∧ (∀ o k, (o < 1 ∨ 27 ≤ o) → o ≠ 79 → tkM μ o k = μ o k) := by
  have n0 := h.nx
  have l0 := h.ln
  have hj := h.his 0 (Int.le_refl _) q
  have ep : 81 + 26 * tkP μ = hAt μ 0 := by
    unfold tkP hAt
    split <;> omega
  have hp : 0 ≤ tkP μ ∧ tkP μ < 4 ∧ tkP μ = (μ 79 1 + 3) % 4 := by
    unfold tkP
    split <;> omega
  have g := hAt_rg μ 0
  have ca := c_Poo_undo_o (μ := μ) n0 (by omega) (by omega) (by rw [ep]; exact alS_of hj.1.1 hj.1.2.1)
  have r_o : ∀ o k, (o < 1 ∨ 27 ≤ o) → o ≠ 79 → tkM μ o k = μ o k := fun o k a b => by
    unfold tkM
    rw [upM_ne (Or.inl b), upM_ne (Or.inl b), cS_o (by omega)]
  have r_s : ∀ o k, 1 ≤ o → o < 27 → tkM μ o k = cS μ 1 (hAt μ 0) o k := fun o k a b => by
    unfold tkM
    rw [upM_ne (by omega), upM_ne (by omega), ep]
  have r1 : tkM μ 79 1 = tkP μ := by
    unfold tkM
    rw [upM_ne (Or.inr (by omega)), upM_eq]
  have r2 : tkM μ 79 2 = μ 79 2 - 1 := by
    unfold tkM
    rw [upM_eq]
  refine ⟨ca, ?_, r2, r_o⟩
  generalize tkM μ = T at *
  have far : (1 : Int) + 26 ≤ hAt μ 0 ∨ hAt μ 0 + 26 ≤ 1 := by omega
  have hnow : RW K T 1 (H 0) := (hj.1.cp far (h.beg 1 stB_1)).fr (fun o k a b => r_s o k a (by omega))
  refine ⟨⟨hnow, hj.2⟩, fun b hb => ?_, by rw [r1]; omega, by rw [r2]; omega, fun j j0 j1 => ?_, fun k k0 k1 => ?_⟩
  · by_cases e : b = 1
    · subst e
      intro i i0 i1
      exact (hnow.1.1 i i0 i1).1
    · exact bgS_fr (h.beg b hb) (fun o k a c => r_o o k (by unfold stB at hb; omega) (by unfold stB at hb; omega))
  · rw [r2] at j1
    have b1 : hAt T j = hAt μ (j + 1) := by
      unfold hAt
      rw [r1, hp.2.2]
      omega
    have g2 := hAt_rg μ (j + 1)
    have c0 := h.his (j + 1) (by omega) (by omega)
    rw [b1]
    refine ⟨c0.1.fr (fun o k a b => ?_), c0.2⟩
    have : o ≠ 79 := by omega
    exact r_o o k (by omega) this
  · rw [r_o 218 _ (by omega) (by omega)]
    exact h.ref k k0 k1
theorem gf_R {K : Int} {μ : Int → Int → Int} {m : Int → Int} {H : Int → Int → Int} (h : GV K μ m H) : RW K (cS μ 27 1) 1 m := h.now.fr (fun o k a b => cS_o (by omega))
theorem gf_27 {K : Int} {μ : Int → Int → Int} {m : Int → Int} {H : Int → Int → Int} (h : GV K μ m H) : RW K (cS μ 27 1) 27 m := h.now.cp (by omega) (h.beg 27 stB_27)
theorem gf_GV {K : Int} {μ : Int → Int → Int} {m : Int → Int} {H : Int → Int → Int} (h : GV K μ m H) : GV K (cS μ 27 1) m H := GV_same h (fun o k a => cS_o (by omega)) (gf_R h) (fun i i0 i1 => ((gf_27 h).1.1 i i0 i1).1)
/-- a call that is done: answer, new row, the old one in the history -/
def Dn (a : MI) (x : List Vv) (K : Int) (μ : Int → Int → Int) (m : Int → Int) (H : Int → Int → Int) (r : Int) (m' : Int → Int) : Prop := ∃ μ', MetC a x (st μ) (some (vI r)) (st μ') ∧ GV (K + 40000) μ' m' (pushH m H) ∧ (μ' 79 2 = if 4 < μ 79 2 + 1 then 4 else μ 79 2 + 1) ∧ (∀ k, μ' (-1) k = μ (-1) k)
/-- a call that is not done: answer, nothing changed but the State before and what refused() tells -/
def Nd (a : MI) (x : List Vv) (K : Int) (μ : Int → Int → Int) (m : Int → Int) (H : Int → Int → Int) (r : Int) : Prop := ∃ μ', MetC a x (st μ) (some (vI r)) (st μ') ∧ GV (K + 40000) μ' m H ∧ (∀ k, μ' (-1) k = μ (-1) k)
theorem Nd_e {a : MI} {x : List Vv} {K r : Int} {μ : Int → Int → Int} {m : Int → Int} {H : Int → Int → Int} (h : GV K μ m H) (hK : K + 40000 ≤ 500000000) (ca : MetC a x (st μ) (some (vI r)) (st (cS μ 27 1))) : Nd a x K μ m H r :=
  ⟨_, ca, (gf_GV h).mono (by omega) hK, fun k => cS_o (Or.inl (by decide))⟩
theorem Dn_o {a : MI} {x : List Vv} {K K1 r : Int} {μ F : Int → Int → Int} {m m' : Int → Int} {H : Int → Int → Int} (h : GV K μ m H) (hK : K + 40000 ≤ 500000000) (hF : Fr (cS μ 27 1) F) (hR : RI K1 F m') (hU : UO m') (hE : EX m') (h1 : K ≤ K1) (h2 : K1 ≤ K + 40000)
    (ca : (0 ≤ F 79 1 ∧ F 79 1 < 4) → (0 ≤ F 79 2 ∧ F 79 2 ≤ 4) → alS F 27 → MetC a x (st μ) (some (vI r)) (st (recM F))) : Dn a x K μ m H r m' := by
  have f1 : ∀ o k, (o < 1 ∨ 53 ≤ o) → F o k = μ o k := fun o k a => by rw [hF o k (by omega), cS_o (by omega)]
  have f27 : RW K F 27 m := (gf_27 h).fr (fun o k a b => hF o k (by omega))
  have n0 := h.nx
  have l0 := h.ln
  have hn : 0 ≤ F 79 1 ∧ F 79 1 < 4 := by rw [f1 79 1 (by decide)]; exact n0
  have hl : 0 ≤ F 79 2 ∧ F 79 2 ≤ 4 := by rw [f1 79 2 (by decide)]; exact l0
  obtain ⟨p1, p2⟩ := GV_push (K' := K + 40000) h f1 f27 ⟨hR.1, MW_mono hR.2.1 h2 hK, hR.2.2, hU⟩ hE (by omega) hK
  exact ⟨_, ca hn hl (alS_of f27.1 f27.2.1), p1, p2, fun k => by rw [recM_o hn (Or.inl (by decide)), f1 (-1) k (Or.inl (by decide))]⟩

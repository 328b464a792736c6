/-! class and reference side by side -/
/-- an owned block was used no later than now -/
def UO (m : Int → Int) : Prop := ∀ w, 0 ≤ w → w < 64 → owd m w → m (384 + w) ≤ m 466
theorem UO_ext {m m' : Int → Int} (h : UO m) (e : ∀ k, 0 ≤ k → k < 472 → m' k = m k) : UO m' := fun w w0 w1 ho => by
  unfold owd at ho
  rw [e _ (by omega) (by omega), e _ (by omega) (by omega)] at ho
  rw [e _ (by omega) (by omega), e _ (by omega) (by omega)]
  exact h w w0 w1 ho
abbrev RW (K : Int) (μ : Int → Int → Int) (b : Int) (m : Int → Int) : Prop := RS μ b m ∧ MW K m ∧ ML m ∧ UO m
theorem RW.ri {K : Int} {μ : Int → Int → Int} {m : Int → Int} (h : RW K μ 1 m) : RI K μ m := ⟨h.1, h.2.1, h.2.2.1⟩
theorem MW_ext {K : Int} {m m' : Int → Int} (h : MW K m) (e : ∀ k, 0 ≤ k → k < 472 → m' k = m k) : MW K m' := by
  obtain ⟨h1, h2, h3, h4, h5, h6, h7, h8, h9, h10⟩ := h
  refine ⟨fun w w0 w1 => ?_, fun t t0 t1 => ?_, ?_, ?_, ?_, ?_, ?_, ?_, h9, ?_⟩
  · rw [e (64 + w) (by omega) (by omega), e (128 + w) (by omega) (by omega), e (192 + w) (by omega) (by omega), e (256 + w) (by omega) (by omega), e (320 + w) (by omega) (by omega), e (384 + w) (by omega) (by omega)]
    exact h1 w w0 w1
  · rw [e (448 + t) (by omega) (by omega), e (454 + t) (by omega) (by omega), e (460 + t) (by omega) (by omega)]
    exact h2 t t0 t1
  · rw [e _ (by decide) (by decide)]; exact h3
  · rw [e _ (by decide) (by decide)]; exact h4
  · rw [e _ (by decide) (by decide)]; exact h5
  · rw [e _ (by decide) (by decide)]; exact h6
  · rw [e _ (by decide) (by decide)]; exact h7
  · rw [e _ (by decide) (by decide)]; exact h8
  · rw [e _ (by decide) (by decide)]; exact h10
theorem ML_ext {K : Int} {m m' : Int → Int} (hW : MW K m) (h : ML m) (e : ∀ k, 0 ≤ k → k < 472 → m' k = m k) : ML m' := by
  obtain ⟨a1, a2, a3, a4⟩ := h
  have b64 : ∀ u, 0 ≤ u → u < 64 → u + m (128 + u) ≤ 64 := fun u u0 u1 => (hW.1 u u0 u1).2.2.2.2.2.2.2
  refine ⟨fun u u0 u1 u2 => ?_, fun c c0 c1 c2 => ?_, fun u u0 u1 u2 => ?_, fun u q u0 u1 u2 q0 q1 => ?_⟩
  · rw [e _ (by omega) (by omega)]
    exact a1 u u0 u1 u2
  · rw [e _ (by omega) (by omega), e _ (by omega) (by omega), e _ (by omega) (by omega), e _ (by omega) (by omega)]
    exact a2 c c0 c1 c2
  · unfold owd at u2
    rw [e (128 + u) (by omega) (by omega), e (192 + u) (by omega) (by omega)] at u2
    have b := a3 u u0 u1 u2
    have b' := b64 u u0 u1
    rw [e (320 + u) (by omega) (by omega), e (128 + u) (by omega) (by omega), e (64 + u) (by omega) (by omega), e u (by omega) (by omega), e (64 + u + m (320 + u) + 1) (by omega) (by omega), e (u + m (320 + u) + 1) (by omega) (by omega)]
    exact b
  · unfold fre at u2
    rw [e (128 + u) (by omega) (by omega), e (192 + u) (by omega) (by omega)] at u2
    rw [e (128 + u) (by omega) (by omega)] at q1
    have b' := b64 u u0 u1
    rw [e (u + q) (by omega) (by omega), e (64 + (u + q)) (by omega) (by omega)]
    exact a4 u q u0 u1 u2 q0 q1
theorem RS_ext {μ : Int → Int → Int} {b : Int} {m m' : Int → Int} (h : RS μ b m) (e : ∀ k, 0 ≤ k → k < 472 → m' k = m k) : RS μ b m' := by
  obtain ⟨rb, rv, rt, r3, r4, r5, r6, r7, r8⟩ := h
  refine ⟨fun i i0 i1 => blk_keep (rb i i0 i1) (fun k => rfl) (e _ (by omega) (by omega)) (e _ (by omega) (by omega)) (e _ (by omega) (by omega)) (e _ (by omega) (by omega)) (e _ (by omega) (by omega)), fun w w0 w1 => ?_, fun t t0 t1 => tsk_keep (rt t t0 t1) (fun k => rfl) (e _ (by omega) (by omega)) (e _ (by omega) (by omega)) (e _ (by omega) (by omega)), ?_, ?_, ?_, ?_, ?_, ?_⟩
  · rw [e _ (by omega) (by omega)]
    exact rv w w0 w1
  all_goals rw [e _ (by decide) (by decide)]; assumption
theorem RW.ext {K : Int} {μ : Int → Int → Int} {b : Int} {m m' : Int → Int} (h : RW K μ b m) (e : ∀ k, 0 ≤ k → k < 472 → m' k = m k) : RW K μ b m' := ⟨RS_ext h.1 e, MW_ext h.2.1 e, ML_ext h.2.1 h.2.2.1 e, UO_ext h.2.2.2 e⟩
theorem RW.fr {K : Int} {μ μ' : Int → Int → Int} {b : Int} {m : Int → Int} (h : RW K μ b m) (e : ∀ o k, b ≤ o → o < b + 26 → μ' o k = μ o k) : RW K μ' b m := ⟨RS_fr h.1 e, h.2⟩
theorem RW.mono {K K' : Int} {μ : Int → Int → Int} {b : Int} {m : Int → Int} (h : RW K μ b m) (h1 : K ≤ K') (h2 : K' ≤ 500000000) : RW K' μ b m := ⟨h.1, MW_mono h.2.1 h1 h2, h.2.2⟩
theorem RW.cp {K : Int} {μ : Int → Int → Int} {b c : Int} {m : Int → Int} (h : RW K μ c m) (hd : b + 26 ≤ c ∨ c + 26 ≤ b) (hg : bgS μ b) : RW K (cS μ b c) b m := ⟨RS_cp hd hg h.1, h.2⟩
def hRow (μ : Int → Int → Int) (j : Int) : Int → Int := fun k => μ 222 (472 * (μ 219 3 - 1 - j) + k)
def hAt (μ : Int → Int → Int) (j : Int) : Int := 81 + 26 * ((μ 79 1 + 3 - j) % 4)
abbrev IV (K : Int) (μ : Int → Int → Int) : Prop :=
  (RW K μ 1 (μ 220)) ∧
  (∀ b, stB b → bgS μ b) ∧
  (0 ≤ μ 79 1 ∧ μ 79 1 < 4) ∧
  (μ 79 2 = μ 219 3 ∧ 0 ≤ μ 219 3 ∧ μ 219 3 ≤ 4) ∧
  (∀ j, 0 ≤ j → j < μ 219 3 → RW K μ (hAt μ j) (hRow μ j)) ∧
  ((μ 0 3 = 0 ∨ μ 0 3 = 1) ∧ μ 219 5 = μ 0 3 ∧ (μ 0 3 ≠ 0 → RW K μ 53 (μ 223))) ∧
  (∀ k, 1 ≤ k → k ≤ 3 → μ 218 (k - 1) = μ 224 k ∧ 0 ≤ μ 224 k ∧ 40000 * μ 224 k ≤ K) ∧
  ((μ 0 7 = 0 ∧ μ 219 9 = -5 ∧ μ 219 10 = -5) ∨ (μ 0 7 = 1 ∧ μ 219 9 = μ 0 8 ∧ μ 219 10 = μ 0 9)) ∧
  (μ 185 1 = μ 219 8 ∧ 0 ≤ μ 219 8 ∧ μ 219 8 ≤ 60) ∧
  (∀ k, 0 ≤ k → k < 60 → μ 186 k = μ 225 k ∧ 0 ≤ μ 225 k ∧ μ 225 k ≤ 65535)
theorem IV.now {K : Int} {μ : Int → Int → Int} (h : IV K μ) : RW K μ 1 (μ 220) := h.1
theorem IV.beg {K : Int} {μ : Int → Int → Int} (h : IV K μ) : ∀ b, stB b → bgS μ b := h.2.1
theorem IV.nx {K : Int} {μ : Int → Int → Int} (h : IV K μ) : 0 ≤ μ 79 1 ∧ μ 79 1 < 4 := h.2.2.1
theorem IV.ln {K : Int} {μ : Int → Int → Int} (h : IV K μ) : μ 79 2 = μ 219 3 ∧ 0 ≤ μ 219 3 ∧ μ 219 3 ≤ 4 := h.2.2.2.1
theorem IV.his {K : Int} {μ : Int → Int → Int} (h : IV K μ) : ∀ j, 0 ≤ j → j < μ 219 3 → RW K μ (hAt μ j) (hRow μ j) := h.2.2.2.2.1
theorem IV.snp {K : Int} {μ : Int → Int → Int} (h : IV K μ) : (μ 0 3 = 0 ∨ μ 0 3 = 1) ∧ μ 219 5 = μ 0 3 ∧ (μ 0 3 ≠ 0 → RW K μ 53 (μ 223)) := h.2.2.2.2.2.1
theorem IV.ref {K : Int} {μ : Int → Int → Int} (h : IV K μ) : ∀ k, 1 ≤ k → k ≤ 3 → μ 218 (k - 1) = μ 224 k ∧ 0 ≤ μ 224 k ∧ 40000 * μ 224 k ≤ K := h.2.2.2.2.2.2.1
theorem IV.stp {K : Int} {μ : Int → Int → Int} (h : IV K μ) : (μ 0 7 = 0 ∧ μ 219 9 = -5 ∧ μ 219 10 = -5) ∨ (μ 0 7 = 1 ∧ μ 219 9 = μ 0 8 ∧ μ 219 10 = μ 0 9) := h.2.2.2.2.2.2.2.1
theorem IV.txt {K : Int} {μ : Int → Int → Int} (h : IV K μ) : μ 185 1 = μ 219 8 ∧ 0 ≤ μ 219 8 ∧ μ 219 8 ≤ 60 := h.2.2.2.2.2.2.2.2.1
theorem IV.chr {K : Int} {μ : Int → Int → Int} (h : IV K μ) : ∀ k, 0 ≤ k → k < 60 → μ 186 k = μ 225 k ∧ 0 ≤ μ 225 k ∧ μ 225 k ≤ 65535 := h.2.2.2.2.2.2.2.2.2
theorem IV.mono {K K' : Int} {μ : Int → Int → Int} (h : IV K μ) (h1 : K ≤ K') (h2 : K' ≤ 500000000) : IV K' μ :=
  ⟨h.now.mono h1 h2, h.beg, h.nx, h.ln, fun j a b => (h.his j a b).mono h1 h2, ⟨h.snp.1, h.snp.2.1, fun a => (h.snp.2.2 a).mono h1 h2⟩, fun k a b => by have := h.ref k a b; exact ⟨this.1, this.2.1, by omega⟩, h.stp, h.txt, h.chr⟩
theorem hAt_rg (μ : Int → Int → Int) (j : Int) : 81 ≤ hAt μ j ∧ hAt μ j + 26 ≤ 185 ∧ stB (hAt μ j) := by
  unfold hAt
  have a : 0 ≤ (μ 79 1 + 3 - j) % 4 ∧ (μ 79 1 + 3 - j) % 4 < 4 := by omega
  exact ⟨by omega, by omega, stB_h a.1 a.2⟩
/-- only the States now and before have changed -/
theorem IV_same {K : Int} {μ F : Int → Int → Int} (h : IV K μ) (hF : ∀ o k, (o < 1 ∨ 53 ≤ o) → F o k = μ o k) (hR : RW K F 1 (μ 220)) (h27 : bgS F 27) : IV K F := by
  have e220 : F 220 = μ 220 := by funext k; exact hF 220 k (by decide)
  have e223 : F 223 = μ 223 := by funext k; exact hF 223 k (by decide)
  have e3 := hF 219 3 (by decide)
  have e79 := hF 79 1 (by decide)
  have hb : ∀ b, stB b → bgS F b := fun b hb => by
    by_cases e1 : b = 27
    · rw [e1]; exact h27
    · by_cases e2 : b = 1
      · rw [e2]
        intro i i0 i1
        exact (hR.1.1 i i0 i1).1
      · exact bgS_fr (h.beg b hb) (fun o k a c => hF o k (by unfold stB at hb; omega))
  refine ⟨by rw [e220]; exact hR, hb, by rw [e79]; exact h.nx, by rw [e3, hF 79 2 (by decide)]; exact h.ln, fun j j0 j1 => ?_, ?_, fun k k0 k1 => ?_, ?_, ?_, fun k k0 k1 => ?_⟩
  · have g := hAt_rg μ j
    have e4 : hAt F j = hAt μ j := by unfold hAt; rw [e79]
    have e5 : hRow F j = hRow μ j := by
      funext k
      unfold hRow
      rw [e3, hF 222 _ (by decide)]
    rw [e4, e5]
    rw [e3] at j1
    exact (h.his j j0 j1).fr (fun o k a b => hF o k (by omega))
  · rw [hF 0 3 (by decide), hF 219 5 (by decide), e223]
    exact ⟨h.snp.1, h.snp.2.1, fun a => (h.snp.2.2 a).fr (fun o k a b => hF o k (by omega))⟩
  · rw [hF 218 _ (by decide), hF 224 _ (by decide)]
    exact h.ref k k0 k1
  · rw [hF 0 7 (by decide), hF 219 9 (by decide), hF 219 10 (by decide), hF 0 8 (by decide), hF 0 9 (by decide)]
    exact h.stp
  · rw [hF 185 1 (by decide), hF 219 8 (by decide)]
    exact h.txt
  · rw [hF 186 _ (by decide), hF 225 _ (by decide)]
    exact h.chr k k0 k1
/-- the State before is put behind the history, on both sides -/
theorem IV_push {K K' : Int} {μ F : Int → Int → Int} {m' : Int → Int} (h : IV K μ) (hF : ∀ o k, (o < 1 ∨ 53 ≤ o) → F o k = μ o k) (h27 : RW K F 27 (μ 220)) (hR : RW K' F 1 m') (hK : K ≤ K') (hK' : K' ≤ 500000000) : IV K' (setO (knM (recM F) (μ 220)) 220 m') := by
  have n0 := h.nx
  have l0 := h.ln
  have e1 := hF 79 1 (by decide)
  have e2 := hF 79 2 (by decide)
  have e3 := hF 219 3 (by decide)
  have s0 : 81 ≤ 81 + 26 * F 79 1 ∧ 81 + 26 * F 79 1 + 26 ≤ 185 := by omega
  have hs : stB (81 + 26 * F 79 1) := stB_h (by omega) (by omega)
  have r_o : ∀ o k, (o < 81 + 26 * F 79 1 ∨ 81 + 26 * F 79 1 + 26 ≤ o) → o ≠ 79 → recM F o k = F o k := fun o k a b => by
    unfold recM
    rw [upM_ne (Or.inl b), upM_ne (Or.inl b), cS_o a]
  have r_s : ∀ o k, 81 + 26 * F 79 1 ≤ o → o < 81 + 26 * F 79 1 + 26 → recM F o k = cS F (81 + 26 * F 79 1) 27 o k := fun o k a b => by
    unfold recM
    rw [upM_ne (by omega), upM_ne (by omega)]
  have r1 : recM F 79 1 = (μ 79 1 + 1) % 4 := by
    unfold recM
    rw [upM_ne (Or.inr (by decide)), upM_eq, e1]
  have r2 : recM F 79 2 = if 4 < μ 79 2 + 1 then 4 else μ 79 2 + 1 := by
    unfold recM
    rw [upM_eq, e2]
  have r3 : recM F 219 3 = μ 219 3 := by rw [r_o 219 3 (by omega) (by decide), e3]
  have r222 : ∀ k, recM F 222 k = μ 222 k := fun k => by rw [r_o 222 k (by omega) (by decide), hF 222 k (by decide)]
  have kn : knN (recM F) = if 4 < μ 79 2 + 1 then 4 else μ 79 2 + 1 := by
    unfold knN
    rw [r3, l0.1]
    by_cases q : μ 219 3 = 4
    · rw [if_pos q, if_pos (by omega)]
    · rw [if_neg q, if_neg (by omega)]
  generalize hG : recM F = G at *
  have t_o : ∀ o k, o ≠ 219 → o ≠ 220 → o ≠ 222 → setO (knM G (μ 220)) 220 m' o k = G o k := fun o k a b c => by
    unfold knM setO
    rw [if_neg b, if_neg c, upM_ne (Or.inl a)]
  have t_219 : ∀ k, k ≠ 3 → setO (knM G (μ 220)) 220 m' 219 k = G 219 k := fun k a => by
    unfold knM setO
    rw [if_neg (by decide), if_neg (by decide), upM_ne (Or.inr a)]
  have t_3 : setO (knM G (μ 220)) 220 m' 219 3 = knN G := by
    unfold knM setO
    rw [if_neg (by decide), if_neg (by decide), upM_eq]
  have t_220 : setO (knM G (μ 220)) 220 m' 220 = m' := setO_at
  have t_222 : ∀ k, setO (knM G (μ 220)) 220 m' 222 k = knF G (μ 220) k := fun k => by
    unfold knM setO
    rw [if_neg (by decide), if_pos rfl]
  generalize setO (knM G (μ 220)) 220 m' = T at t_o t_219 t_3 t_220 t_222 ⊢
  have hT : ∀ o k, (o < 1 ∨ 53 ≤ o) → (o < 81 + 26 * F 79 1 ∨ 81 + 26 * F 79 1 + 26 ≤ o) → o ≠ 79 → o ≠ 219 → o ≠ 220 → o ≠ 222 → T o k = μ o k := fun o k a b c d e f => by
    rw [t_o o k d e f, r_o o k b c, hF o k a]
  have rI : ∀ o k, 1 ≤ o → o < 53 → T o k = F o k := fun o k a b => by
    rw [t_o o k (by omega) (by omega) (by omega), r_o o k (by omega) (by omega)]
  have rT : ∀ o k, 81 + 26 * F 79 1 ≤ o → o < 81 + 26 * F 79 1 + 26 → T o k = cS F (81 + 26 * F 79 1) 27 o k := fun o k a b => by
    rw [t_o o k (by omega) (by omega) (by omega), r_s o k a b]
  have hbF : bgS F (81 + 26 * F 79 1) := bgS_fr (h.beg _ hs) (fun o k a b => hF o k (by omega))
  refine ⟨by rw [t_220]; exact hR.fr (fun o k a b => rI o k a (by omega)), fun b hb => ?_, by rw [t_o 79 1 (by decide) (by decide) (by decide), r1]; omega, ?_, fun j j0 j1 => ?_, ?_, fun k k0 k1 => ?_, ?_, ?_, fun k k0 k1 => ?_⟩
  · by_cases q : b = 81 + 26 * F 79 1
    · subst q
      exact bgS_fr (bgS_cp hs hs hbF) rT
    · have hq := st_far hb hs q
      by_cases q1 : b = 1
      · subst q1
        intro i i0 i1
        rw [rI _ _ (by omega) (by omega)]
        exact (hR.1.1 i i0 i1).1
      · by_cases q2 : b = 27
        · subst q2
          intro i i0 i1
          rw [rI _ _ (by omega) (by omega)]
          exact (h27.1.1 i i0 i1).1
        · refine bgS_fr (h.beg b hb) (fun o k a c => hT o k ?_ ?_ ?_ ?_ ?_ ?_) <;> (unfold stB at hb; omega)
  · rw [t_o 79 2 (by decide) (by decide) (by decide), t_3, r2, kn]
    refine ⟨rfl, ?_⟩
    split <;> omega
  · rw [t_3, kn] at j1
    have a1 : T 79 1 = (μ 79 1 + 1) % 4 := by rw [t_o 79 1 (by decide) (by decide) (by decide), r1]
    have hj4 : j < 4 ∧ j ≤ μ 219 3 := by
      have : (if 4 < μ 79 2 + 1 then (4 : Int) else μ 79 2 + 1) ≤ 4 ∧ (if 4 < μ 79 2 + 1 then (4 : Int) else μ 79 2 + 1) ≤ μ 79 2 + 1 := by split <;> omega
      omega
    by_cases q : j = 0
    · subst q
      have b1 : hAt T 0 = 81 + 26 * F 79 1 := by
        unfold hAt
        rw [a1, e1]
        omega
      rw [b1]
      have c1 : RW K T (81 + 26 * F 79 1) (μ 220) := (h27.cp (by omega) hbF).fr rT
      refine (c1.mono hK hK').ext (fun k k0 k1 => ?_)
      unfold hRow
      rw [t_222, t_3, kn]
      unfold knF
      rw [r3]
      by_cases z : μ 219 3 = 4
      · rw [if_pos z, if_pos (by omega)]
        unfold cpy
        rw [if_pos (by omega), show 472 * ((4 : Int) - 1 - 0) + k - 1416 = k by omega]
      · rw [if_neg z, if_neg (by omega)]
        unfold cpy
        rw [if_pos (by omega), show 472 * (μ 79 2 + 1 - 1 - 0) + k - 472 * μ 219 3 = k by omega]
    · have b1 : hAt T j = hAt μ (j - 1) := by
        unfold hAt
        rw [a1]
        omega
      have b2 : hAt μ (j - 1) ≠ 81 + 26 * F 79 1 := by
        unfold hAt
        omega
      have g := hAt_rg μ (j - 1)
      have far := st_far g.2.2 hs b2
      rw [b1]
      have c1 : RW K T (hAt μ (j - 1)) (hRow μ (j - 1)) := (h.his (j - 1) (by omega) (by omega)).fr (fun o k a b => hT o k (by omega) (by omega) (by omega) (by omega) (by omega) (by omega))
      refine (c1.mono hK hK').ext (fun k k0 k1 => ?_)
      unfold hRow
      rw [t_222, t_3, kn]
      unfold knF
      rw [r3]
      by_cases z : μ 219 3 = 4
      · rw [if_pos z, if_pos (by omega)]
        unfold cpy
        rw [if_neg (by omega), if_pos (by omega)]
        show G 222 (472 + _) = _
        rw [r222]
        congr 1
        omega
      · rw [if_neg z, if_neg (by omega)]
        unfold cpy
        rw [if_neg (by omega), r222]
        congr 1
        omega
  · have a3 : T 223 = μ 223 := by funext k; exact hT 223 k (by decide) (by omega) (by decide) (by decide) (by decide) (by decide)
    rw [hT 0 3 (by decide) (by omega) (by decide) (by decide) (by decide) (by decide), t_219 5 (by decide), r_o 219 5 (by omega) (by decide), hF 219 5 (by decide), a3]
    exact ⟨h.snp.1, h.snp.2.1, fun a => ((h.snp.2.2 a).mono hK hK').fr (fun o k a b => hT o k (by omega) (by omega) (by omega) (by omega) (by omega) (by omega))⟩
  · rw [hT 218 _ (by decide) (by omega) (by decide) (by decide) (by decide) (by decide), hT 224 _ (by decide) (by omega) (by decide) (by decide) (by decide) (by decide)]
    have := h.ref k k0 k1
    exact ⟨this.1, this.2.1, by omega⟩
  · rw [hT 0 7 (by decide) (by omega) (by decide) (by decide) (by decide) (by decide), hT 0 8 (by decide) (by omega) (by decide) (by decide) (by decide) (by decide), hT 0 9 (by decide) (by omega) (by decide) (by decide) (by decide) (by decide), t_219 9 (by decide), t_219 10 (by decide), r_o 219 9 (by omega) (by decide), r_o 219 10 (by omega) (by decide), hF 219 9 (by decide), hF 219 10 (by decide)]
    exact h.stp
  · rw [hT 185 1 (by decide) (by omega) (by decide) (by decide) (by decide) (by decide), t_219 8 (by decide), r_o 219 8 (by omega) (by decide), hF 219 8 (by decide)]
    exact h.txt
  · rw [hT 186 _ (by decide) (by omega) (by decide) (by decide) (by decide) (by decide), hT 225 _ (by decide) (by omega) (by decide) (by decide) (by decide) (by decide)]
    exact h.chr k k0 k1


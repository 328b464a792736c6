/-! the steps of both sides -/
def Two (a b : MI) (x y : List Vv) (K : Int) (μ : Int → Int → Int) : Prop := ∃ (r : Int) (μ1 μ2 : Int → Int → Int), MetC a x (st μ) (some (vI r)) (st μ1) ∧ MetC b y (st μ1) (some (vI r)) (st μ2) ∧ IV (K + 40000) μ2 ∧ (∀ k, μ1 (-1) k = μ (-1) k) ∧ (∀ k, μ2 (-1) k = μ (-1) k)
theorem bf_R {K : Int} {μ : Int → Int → Int} (h : IV K μ) : RW K (cS μ 27 1) 1 (μ 220) := h.now.fr (fun o k a b => cS_o (by omega))
theorem bf_27 {K : Int} {μ : Int → Int → Int} (h : IV K μ) : RW K (cS μ 27 1) 27 (μ 220) := h.now.cp (by omega) (h.beg 27 stB_27)
theorem bf_IV {K : Int} {μ : Int → Int → Int} (h : IV K μ) : IV K (cS μ 27 1) := IV_same h (fun o k a => cS_o (by omega)) (bf_R h) (fun i i0 i1 => ((bf_27 h).1.1 i i0 i1).1)
theorem bf_e {μ : Int → Int → Int} : cS μ 27 1 220 = μ 220 := by
  funext k
  exact cS_o (by decide)
theorem bf_s {μ : Int → Int → Int} : setO (cS μ 27 1) 220 (μ 220) = cS μ 27 1 := by
  have h := setO_self (μ := cS μ 27 1) (o := 220)
  rw [bf_e] at h
  exact h
theorem recM_o {F : Int → Int → Int} {o k : Int} (hn : 0 ≤ F 79 1 ∧ F 79 1 < 4) (h : o < 79 ∨ 185 ≤ o) : recM F o k = F o k := by
  unfold recM
  rw [upM_ne (by omega), upM_ne (by omega), cS_o (by omega)]
theorem Two_e {a b : MI} {x y : List Vv} {K r : Int} {μ : Int → Int → Int} (h : IV K μ) (hK : K + 40000 ≤ 500000000) (ca : MetC a x (st μ) (some (vI r)) (st (cS μ 27 1))) (cb : ∀ ν : Int → Int → Int, MetC b y (st (setO ν 220 (μ 220))) (some (vI r)) (st (setO ν 220 (μ 220)))) : Two a b x y K μ := by
  have c := cb (cS μ 27 1)
  rw [bf_s] at c
  exact ⟨r, _, _, ca, c, (bf_IV h).mono (by omega) hK, fun k => cS_o (Or.inl (by decide)), fun k => cS_o (Or.inl (by decide))⟩
theorem Two_o {a b : MI} {x y : List Vv} {K K1 r : Int} {μ F : Int → Int → Int} {m' : Int → Int} (h : IV K μ) (hK : K + 40000 ≤ 500000000) (hF : Fr (cS μ 27 1) F) (hR : RI K1 F m') (hU : UO m') (h1 : K ≤ K1) (h2 : K1 ≤ K + 40000)
    (ca : (0 ≤ F 79 1 ∧ F 79 1 < 4) → (0 ≤ F 79 2 ∧ F 79 2 ≤ 4) → alS F 27 → MetC a x (st μ) (some (vI r)) (st (recM F)))
    (cb : ∀ ν : Int → Int → Int, (0 ≤ ν 219 3 ∧ ν 219 3 ≤ 4) → MetC b y (st (setO ν 220 (μ 220))) (some (vI r)) (st (setO (knM ν (μ 220)) 220 m'))) : Two a b x y K μ := by
  have f1 : ∀ o k, (o < 1 ∨ 53 ≤ o) → F o k = μ o k := fun o k a => by rw [hF o k (by omega), cS_o (by omega)]
  have f27 : RW K F 27 (μ 220) := (bf_27 h).fr (fun o k a b => hF o k (by omega))
  have n0 := h.nx
  have l0 := h.ln
  have hn : 0 ≤ F 79 1 ∧ F 79 1 < 4 := by rw [f1 79 1 (by decide)]; exact n0
  have hl : 0 ≤ F 79 2 ∧ F 79 2 ≤ 4 := by rw [f1 79 2 (by decide)]; omega
  have c := cb (recM F) (by rw [recM_o hn (by decide), f1 219 3 (by decide)]; exact l0.2)
  have e : recM F 220 = μ 220 := by
    funext k
    rw [recM_o hn (by decide), f1 220 k (by decide)]
  have e2 : setO (recM F) 220 (μ 220) = recM F := by
    have h := setO_self (μ := recM F) (o := 220)
    rw [e] at h
    exact h
  rw [e2] at c
  have e1 : ∀ k, recM F (-1) k = μ (-1) k := fun k => by rw [recM_o hn (Or.inl (by decide)), f1 (-1) k (Or.inl (by decide))]
  exact ⟨r, _, _, ca hn hl (alS_of f27.1 f27.2.1), c, IV_push h f1 f27 ⟨hR.1, MW_mono hR.2.1 h2 hK, hR.2.2, hU⟩ (by omega) hK, e1, fun k => by
    rw [setO_ne (by decide)]
    unfold knM
    rw [setO_ne (by decide), upM_ne (Or.inl (by decide))]
    exact e1 k⟩
theorem lks_up {K : Int} {m : Int → Int} {v : Int} (hW : MW K m) (h : m 466 ≤ v) : lksM m 6 ≤ lksM (up1 m 466 v) 6 := by
  have key : ∀ (n : Nat) (k : Int), 0 ≤ k → k + n = 64 → sumF n k (fun w => if lkM m w ∧ ((6 : Int) = 6 ∨ m (256 + w) = 6) then 1 else 0) ≤ sumF n k (fun w => if lkM (up1 m 466 v) w ∧ ((6 : Int) = 6 ∨ up1 m 466 v (256 + w) = 6) then 1 else 0) := by
    intro n
    induction n with
    | zero => exact fun _ _ _ => Int.le_refl _
    | succ n ih =>
      intro k k0 k1
      rw [sumF_s, sumF_s]
      have a := ih (k + 1) (by omega) (by omega)
      have b : (if lkM m k ∧ ((6 : Int) = 6 ∨ m (256 + k) = 6) then (1 : Int) else 0) ≤ (if lkM (up1 m 466 v) k ∧ ((6 : Int) = 6 ∨ up1 m 466 v (256 + k) = 6) then (1 : Int) else 0) := by
        by_cases q : lkM m k
        · have q2 : lkM (up1 m 466 v) k := by
            unfold lkM owd at q ⊢
            rw [up1_ne (show 128 + k ≠ 466 by omega), up1_ne (show 192 + k ≠ 466 by omega), up1_ne (show 384 + k ≠ 466 by omega), up1_ne (show 256 + k ≠ 466 by omega), up1_ne (show (467 : Int) ≠ 466 by decide), up1_at]
            refine ⟨q.1, ?_⟩
            rcases q.2 with z | z
            · have e := (hW.1 k k0 (by omega)).2.2.2.1
              left
              rw [up1_ne (by omega)]
              exact z
            · right
              omega
          rw [if_pos ⟨q, Or.inl rfl⟩, if_pos ⟨q2, Or.inl rfl⟩]
          exact Int.le_refl _
        · rw [if_neg (fun z => q z.1)]
          split <;> decide
      omega
  exact key 64 0 (Int.le_refl _) rfl


/-! the class: the sweep -/
def slC : Nat → Int → (Int → Int → Int) → (Int → Int) → Int → Int → Int
  | 0, _, μ, _ => μ
  | n + 1, i, μ, m => if lkM m (4 * i) then slC n (i + 1) (frC μ m i) (frM m (4 * i)) else slC n (i + 1) μ m
theorem slC_y {n : Nat} {i : Int} {μ : Int → Int → Int} {m : Int → Int} (h : lkM m (4 * i)) : slC (n + 1) i μ m = slC n (i + 1) (frC μ m i) (frM m (4 * i)) := if_pos h
theorem slC_n {n : Nat} {i : Int} {μ : Int → Int → Int} {m : Int → Int} (h : ¬ lkM m (4 * i)) : slC (n + 1) i μ m = slC n (i + 1) μ m := if_neg h
theorem lk_no {m : Int → Int} {w : Int} (h : m (128 + w) = 0) : ¬ lkM m w := fun q => by
  have := q.1.1
  omega
theorem sw3 {m : Int → Int} (hM : ML m) {i : Int} (h0 : 0 ≤ i) (h1 : i < 16) (k : Nat) : swM (k + 3) (4 * i + 1) m = swM k (4 * (i + 1)) m ∧ swN (k + 3) (4 * i + 1) m = swN k (4 * (i + 1)) m := by
  have a1 := lk_no (hM.1 (4 * i + 1) (by omega) (by omega) (by omega))
  have a2 := lk_no (hM.1 (4 * i + 1 + 1) (by omega) (by omega) (by omega))
  have a3 := lk_no (hM.1 (4 * i + 1 + 1 + 1) (by omega) (by omega) (by omega))
  rw [show k + 3 = (k + 1 + 1) + 1 from rfl, swM_n a1, swM_n a2, swM_n a3, swN_n a1, swN_n a2, swN_n a3, show 4 * i + 1 + 1 + 1 + 1 = 4 * (i + 1) by omega]
  exact ⟨rfl, rfl⟩
theorem sw4_y {m : Int → Int} {i : Int} (hM : ML (frM m (4 * i))) (h0 : 0 ≤ i) (h1 : i < 16) (n : Nat) (h : lkM m (4 * i)) : swM (4 * (n + 1)) (4 * i) m = swM (4 * n) (4 * (i + 1)) (frM m (4 * i)) ∧ swN (4 * (n + 1)) (4 * i) m = 1 + swN (4 * n) (4 * (i + 1)) (frM m (4 * i)) := by
  have g := sw3 hM h0 h1 (4 * n)
  rw [show 4 * (n + 1) = (4 * n + 3) + 1 from rfl, swM_y h, swN_y h, g.1, g.2]
  exact ⟨rfl, rfl⟩
theorem sw4_n {m : Int → Int} {i : Int} (hM : ML m) (h0 : 0 ≤ i) (h1 : i < 16) (n : Nat) (h : ¬ lkM m (4 * i)) : swM (4 * (n + 1)) (4 * i) m = swM (4 * n) (4 * (i + 1)) m ∧ swN (4 * (n + 1)) (4 * i) m = swN (4 * n) (4 * (i + 1)) m := by
  have g := sw3 hM h0 h1 (4 * n)
  rw [show 4 * (n + 1) = (4 * n + 3) + 1 from rfl, swM_n h, swN_n h, g.1, g.2]
  exact ⟨rfl, rfl⟩
theorem swN_0 : ∀ (n : Nat) (w : Int) (m : Int → Int), 0 ≤ swN n w m
  | 0, _, _ => Int.le_refl _
  | n + 1, w, m => by
    by_cases h : lkM m w
    · rw [swN_y h]
      have := swN_0 n (w + 1) (frM m w)
      omega
    · rw [swN_n h]
      exact swN_0 n (w + 1) m
theorem swN_none : ∀ (n : Nat) (w : Int) (m : Int → Int), swN n w m = 0 → ∀ u, w ≤ u → u < w + n → ¬ lkM m u
  | 0, w, m => fun _ u h0 h1 => by omega
  | n + 1, w, m => fun h u h0 h1 => by
    by_cases hl : lkM m w
    · rw [swN_y hl] at h
      have := swN_0 n (w + 1) (frM m w)
      omega
    · rw [swN_n hl] at h
      by_cases e : u = w
      · rw [e]
        exact hl
      · exact swN_none n (w + 1) m h u (by omega) (by omega)
theorem sw_none : ∀ (n : Nat) (w : Int) (m : Int → Int), (∀ u, w ≤ u → u < w + n → ¬ lkM m u) → swM n w m = m ∧ swN n w m = 0
  | 0, _, _ => fun _ => ⟨rfl, rfl⟩
  | n + 1, w, m => fun h => by
    have hl := h w (Int.le_refl _) (by omega)
    rw [swM_n hl, swN_n hl]
    exact sw_none n (w + 1) m (fun u a b => h u (by omega) (by omega))
theorem slC_none : ∀ (n : Nat) (i : Int) (μ : Int → Int → Int) (m : Int → Int), (∀ u, i ≤ u → u < i + n → ¬ lkM m (4 * u)) → slC n i μ m = μ
  | 0, _, _, _ => fun _ => rfl
  | n + 1, i, μ, m => fun h => by
    rw [slC_n (h i (Int.le_refl _) (by omega))]
    exact slC_none n (i + 1) μ m (fun u a b => h u (by omega) (by omega))
theorem sumF_z {f : Int → Int} (hf : ∀ j, 0 ≤ f j) : ∀ (n : Nat) (k : Int), sumF n k f = 0 → ∀ j, k ≤ j → j < k + n → f j = 0
  | 0, k => fun _ j h0 h1 => by omega
  | n + 1, k => fun h j h0 h1 => by
    rw [sumF_s] at h
    have p : 0 ≤ sumF n (k + 1) f := by
      have hp : ∀ (n : Nat) (k : Int), 0 ≤ sumF n k f := by
        intro n
        induction n with
        | zero => exact fun k => Int.le_refl _
        | succ n ih =>
          intro k
          rw [sumF_s]
          have := ih (k + 1)
          have := hf k
          omega
      exact hp n (k + 1)
    have q := hf k
    by_cases e : j = k
    · rw [e]
      omega
    · exact sumF_z hf n (k + 1) (by omega) j (by omega) (by omega)
theorem lks_no {m : Int → Int} (h : lksM m 6 = 0) : ∀ u, 0 ≤ u → u < 64 → ¬ lkM m u := by
  intro u h0 h1 hl
  have := sumF_z (f := fun w => if lkM m w ∧ ((6 : Int) = 6 ∨ m (256 + w) = 6) then 1 else 0) (fun j => by
    show (0 : Int) ≤ if lkM m j ∧ ((6 : Int) = 6 ∨ m (256 + j) = 6) then 1 else 0
    split <;> decide) 64 0 h u h0 (by omega)
  have e : (if lkM m u ∧ ((6 : Int) = 6 ∨ m (256 + u) = 6) then (1 : Int) else 0) = 0 := this
  rw [if_pos ⟨hl, Or.inl rfl⟩] at e
  exact absurd e (by decide)
theorem lks_yes {m : Int → Int} (h : lksM m 6 ≠ 0) : swN 64 0 m ≠ 0 := by
  intro q
  have hn := swN_none 64 0 m q
  apply h
  unfold lksM
  have key : ∀ (n : Nat) (k : Int), 0 ≤ k → k + n = 64 → sumF n k (fun w => if lkM m w ∧ ((6 : Int) = 6 ∨ m (256 + w) = 6) then 1 else 0) = 0 := by
    intro n
    induction n with
    | zero => exact fun _ _ _ => rfl
    | succ n ih =>
      intro k k0 k1
      rw [sumF_s, ih (k + 1) (by omega) (by omega), if_neg (fun z => hn k (by omega) (by omega) z.1)]
      rfl
  exact key 64 0 (Int.le_refl _) rfl
theorem RI_sl : ∀ (n : Nat) (i K : Int) (μ : Int → Int → Int) (m : Int → Int), RI K μ m → 0 ≤ i → i + n = 16 → K + 19 * n ≤ 500000000 → RI (K + 19 * n) (slC n i μ m) (swM (4 * n) (4 * i) m)
  | 0, i, K, μ, m => fun h _ _ _ => by
    rw [show K + 19 * ((0 : Nat) : Int) = K by omega]
    exact h
  | n + 1, i, K, μ, m => fun h h0 h1 hK => by
    by_cases hl : lkM m (4 * i)
    · have hF := RI_fr h (by omega) h0 (by omega) hl.1
      rw [slC_y hl, (sw4_y hF.2.2 h0 (by omega) n hl).1]
      have := RI_sl n (i + 1) (K + 19) _ _ hF (by omega) (by omega) (by omega)
      rw [show K + 19 + 19 * (n : Int) = K + 19 * ((n + 1 : Nat) : Int) by omega] at this
      exact this
    · rw [slC_n hl, (sw4_n h.2.2 h0 (by omega) n hl).1]
      have := RI_sl n (i + 1) K _ _ h (by omega) (by omega) (by omega)
      exact this.mono (by omega) (by omega)

theorem l_Sta_tlb {μ : Int → Int → Int}  : ∀ (n : Nat) (ν : Int → Int → Int) (m : Int → Int) (c i K : Int), (i + n = 16) → (0 ≤ i) → (RI K ν m) → (K + 20 * n ≤ 500000000) → (0 ≤ c ∧ c ≤ i) → SPW mi_Sta_takeLeaksBack 219 13 [some (vR 1), some (vI c), some (vR 2), some (vI 16), some (vI i), none] [] (st (ν)) (some (vI (if c + swN (4 * n) (4 * i) m = 0 then -5 else c + swN (4 * n) (4 * i) m))) (st (slC n i ν m)) := by
  intro n
  induction n with
  | zero =>
    intro ν m c i K hi h0 hR hK hc
    rw [show swN (4 * 0) (4 * i) m = 0 from rfl, Int.add_zero]
    refine r_iload dd_Sta_takeLeaksBack_13 rfl ?_
    refine r_iloadn dd_Sta_takeLeaksBack_15 rfl ?_
    refine r_icmp_ge dd_Sta_takeLeaksBack_16 (fun c_16 => ?_) (fun c_16 => ?_)
    · refine r_iloadn dd_Sta_takeLeaksBack_50 rfl ?_
      refine r_if_ne dd_Sta_takeLeaksBack_51 (fun c_51 => ?_) (fun c_51 => ?_)
      · refine r_iloadn dd_Sta_takeLeaksBack_59 rfl ?_
        exact r_retI dd_Sta_takeLeaksBack_60 (by (repeat (first | rw [if_pos (by omega)] | rw [if_neg (by omega)])); first | done | omega | (congr 1; omega) | exact (b2_t (by first | assumption | omega)).symm | exact (b2_f (by first | assumption | omega)).symm) rfl
      · refine r_bip dd_Sta_takeLeaksBack_54 ⟨by decide, by decide⟩ ?_
        refine r_goto dd_Sta_takeLeaksBack_56 ?_
        exact r_retI dd_Sta_takeLeaksBack_60 (by (repeat (first | rw [if_pos (by omega)] | rw [if_neg (by omega)])); first | done | omega | (congr 1; omega) | exact (b2_t (by first | assumption | omega)).symm | exact (b2_f (by first | assumption | omega)).symm) rfl
    · exfalso; omega
  | succ n ih =>
    intro ν m c i K hi h0 hR hK hc
    refine r_iload dd_Sta_takeLeaksBack_13 rfl ?_
    refine r_iloadn dd_Sta_takeLeaksBack_15 rfl ?_
    refine r_icmp_ge dd_Sta_takeLeaksBack_16 (fun c_16 => ?_) (fun c_16 => ?_)
    · exfalso; omega
    · refine r_aloadn dd_Sta_takeLeaksBack_19 rfl ?_
      refine r_iload dd_Sta_takeLeaksBack_20 rfl ?_
      refine r_aald dd_Sta_takeLeaksBack_22 (q := 17) (by decide) vk_2 (by omega) (by show _ < ((16 : Nat) : Int); omega) (by first | exact R0_2 | exact R0_20 | exact R0_80 | exact R0_187 | exact R0_b (by assumption) | exact R0_t (by assumption)) ?_
      refine r_astore (L' := [_, _, _, _, _, _]) dd_Sta_takeLeaksBack_23 rfl rfl ?_
      refine r_aloadn dd_Sta_takeLeaksBack_25 rfl ?_
      refine r_aload dd_Sta_takeLeaksBack_26 rfl ?_
      refine r_V1W dd_Sta_takeLeaksBack_28 ml_Sta_134 ok_Sta_isLeak vi_Sta_isLeak vk_1 (by decide) (clS rfl (Nat.le_refl _) (rmOK_self _ _)) rfl (c_Sta_isLeak hR h0 (by omega)) ?_
      refine r_if_eq_b dd_Sta_takeLeaksBack_31 (fun c_31 => ?_) (fun c_31 => ?_)
      · refine r_iinc (L' := [_, _, _, _, _, _]) dd_Sta_takeLeaksBack_44 rfl ⟨by omega, by omega⟩ rfl ?_
        refine r_goto dd_Sta_takeLeaksBack_47 ?_
        by_cases hl : lkM m (4 * i)
        · first
          | exact absurd hl c_31
          | (have hF := RI_fr hR (by omega) h0 (by omega) hl.1
             rw [slC_y hl, (sw4_y hF.2.2 h0 (by omega) n hl).2, ← Int.add_assoc]
             exact r_drop 5 (ih (frC ν m i) (frM m (4 * i)) (c + 1) (i + 1) (K + 19) (by omega) (by omega) hF (by omega) ⟨by omega, by omega⟩))
        · first
          | exact absurd c_31 hl
          | (rw [slC_n hl, (sw4_n hR.2.2 h0 (by omega) n hl).2]
             exact r_drop 5 (ih ν m c (i + 1) K (by omega) (by omega) hR (by omega) ⟨by omega, by omega⟩))
      · refine r_aloadn dd_Sta_takeLeaksBack_34 rfl ?_
        refine r_aload dd_Sta_takeLeaksBack_35 rfl ?_
        refine r_V1W dd_Sta_takeLeaksBack_37 ml_Sta_94 ok_Sta_free vi_Sta_free vk_1 (by decide) (clS rfl (Nat.le_refl _) (rmOK_self _ _)) rfl (c_Sta_free hR (by omega) h0 (by omega) c_31.1) ?_
        refine r_pop dd_Sta_takeLeaksBack_40 ?_
        refine r_iinc (L' := [_, _, _, _, _, _]) dd_Sta_takeLeaksBack_41 rfl ⟨by omega, by omega⟩ rfl ?_
        refine r_iinc (L' := [_, _, _, _, _, _]) dd_Sta_takeLeaksBack_44 rfl ⟨by omega, by omega⟩ rfl ?_
        refine r_goto dd_Sta_takeLeaksBack_47 ?_
        by_cases hl : lkM m (4 * i)
        · first
          | exact absurd hl c_31
          | (have hF := RI_fr hR (by omega) h0 (by omega) hl.1
             rw [slC_y hl, (sw4_y hF.2.2 h0 (by omega) n hl).2, ← Int.add_assoc]
             exact r_drop 5 (ih (frC ν m i) (frM m (4 * i)) (c + 1) (i + 1) (K + 19) (by omega) (by omega) hF (by omega) ⟨by omega, by omega⟩))
        · first
          | exact absurd c_31 hl
          | (rw [slC_n hl, (sw4_n hR.2.2 h0 (by omega) n hl).2]
             exact r_drop 5 (ih ν m c (i + 1) K (by omega) (by omega) hR (by omega) ⟨by omega, by omega⟩))

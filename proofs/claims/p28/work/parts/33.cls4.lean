/-! the class: totals over the tasks, sizes, rooms, reasons -/
theorem sumF6 {f0 f1 f2 f3 f4 f5 g : Int → Int} : ∀ (n : Nat) (k : Int), (∀ j, k ≤ j → j < k + n → f0 j + f1 j + f2 j + f3 j + f4 j + f5 j = g j) → sumF n k f0 + sumF n k f1 + sumF n k f2 + sumF n k f3 + sumF n k f4 + sumF n k f5 = sumF n k g
  | 0, k, _ => rfl
  | n + 1, k, h => by
    have ih := sumF6 (f0 := f0) (f1 := f1) (f2 := f2) (f3 := f3) (f4 := f4) (f5 := f5) (g := g) n (k + 1) (fun j h1 h2 => h j (by omega) (by omega))
    have h0 := h k (Int.le_refl _) (by omega)
    simp only [sumF_s]
    omega
theorem sumF_2 {f g h : Int → Int} : ∀ (n : Nat) (k : Int), (∀ j, k ≤ j → j < k + n → f j + g j = h j) → sumF n k f + sumF n k g = sumF n k h
  | 0, k, _ => rfl
  | n + 1, k, q => by
    have ih := sumF_2 (f := f) (g := g) (h := h) n (k + 1) (fun j h1 h2 => q j (by omega) (by omega))
    have h0 := q k (Int.le_refl _) (by omega)
    simp only [sumF_s]
    omega
def tot (g : Int → Int) : Int := sumF 6 0 g
theorem tot_eq (g : Int → Int) : tot g = g 0 + g 1 + g 2 + g 3 + g 4 + g 5 := by
  unfold tot
  simp only [sumF_s, sumF_0]
  show g 0 + (g 1 + (g 2 + (g 3 + (g 4 + (g 5 + 0))))) = _
  omega
theorem tot_blks {K : Int} {m : Int → Int} (hW : MW K m) : tot (blksM m) = owsM m := by
  rw [tot_eq]
  unfold blksM owsM
  refine sumF6 64 0 (fun j h1 h2 => ?_)
  have hb := (hW.1 j h1 (by omega)).2.2.2.1
  generalize m (256 + j) = o at hb
  by_cases ho : owd m j
  · rcases (show o = 0 ∨ o = 1 ∨ o = 2 ∨ o = 3 ∨ o = 4 ∨ o = 5 by omega) with rfl | rfl | rfl | rfl | rfl | rfl <;> simp [ho]
  · simp only [ho, false_and, if_false]
    rfl
theorem tot_wds {K : Int} {m : Int → Int} (hW : MW K m) : tot (wdsM m) = sumF 64 0 (fun w => if owd m w then m (128 + w) else 0) := by
  rw [tot_eq]
  unfold wdsM
  refine sumF6 64 0 (fun j h1 h2 => ?_)
  have hb := (hW.1 j h1 (by omega)).2.2.2.1
  generalize m (256 + j) = o at hb
  by_cases ho : owd m j
  · rcases (show o = 0 ∨ o = 1 ∨ o = 2 ∨ o = 3 ∨ o = 4 ∨ o = 5 by omega) with rfl | rfl | rfl | rfl | rfl | rfl <;> simp [ho]
  · simp only [ho, false_and, if_false]
    rfl
theorem tot_askd {K : Int} {m : Int → Int} (hW : MW K m) : tot (askdM m) = askdM m 6 := by
  rw [tot_eq]
  unfold askdM
  refine sumF6 64 0 (fun j h1 h2 => ?_)
  have hb := (hW.1 j h1 (by omega)).2.2.2.1
  generalize m (256 + j) = o at hb
  by_cases ho : owd m j
  · rcases (show o = 0 ∨ o = 1 ∨ o = 2 ∨ o = 3 ∨ o = 4 ∨ o = 5 by omega) with rfl | rfl | rfl | rfl | rfl | rfl <;> simp [ho]
  · simp only [ho, false_and, if_false]
    rfl
theorem tot_lks {K : Int} {m : Int → Int} (hW : MW K m) : tot (lksM m) = lksM m 6 := by
  rw [tot_eq]
  unfold lksM
  refine sumF6 64 0 (fun j h1 h2 => ?_)
  have hb := (hW.1 j h1 (by omega)).2.2.2.1
  by_cases ho : lkM m j
  · rcases (show m (256 + j) = 0 ∨ m (256 + j) = 1 ∨ m (256 + j) = 2 ∨ m (256 + j) = 3 ∨ m (256 + j) = 4 ∨ m (256 + j) = 5 by omega) with h | h | h | h | h | h <;> (repeat (first | rw [if_pos (by omega)] | rw [if_neg (by omega)])) <;> rfl
  · rw [if_neg (fun q => ho q.1), if_neg (fun q => ho q.1), if_neg (fun q => ho q.1), if_neg (fun q => ho q.1), if_neg (fun q => ho q.1), if_neg (fun q => ho q.1), if_neg (fun q => ho q.1)]
    rfl
theorem tot_sz {m : Int → Int} (h : ML m) : sumF 64 0 (fun w => m (128 + w)) = 64 := by
  have z : ∀ i : Int, 0 ≤ i → i < 16 → ∀ n : Nat, sumF (4 * (n + 1)) (4 * i) (fun w => m (128 + w)) = m (128 + 4 * i) + sumF (4 * n) (4 * (i + 1)) (fun w => m (128 + w)) := by
    intro i h0 h1 n
    exact sumF4 (h.z h0 h1 (Or.inl rfl)) (h.z h0 h1 (Or.inr (Or.inl rfl))) (h.z h0 h1 (Or.inr (Or.inr rfl)))
  have p0 := h.2.1 0 (by omega) (by omega) (by omega)
  have p1 := h.2.1 16 (by omega) (by omega) (by omega)
  have p2 := h.2.1 32 (by omega) (by omega) (by omega)
  have p3 := h.2.1 48 (by omega) (by omega) (by omega)
  show sumF (4 * (15 + 1)) (4 * 0) (fun w => m (128 + w)) = 64
  rw [z 0 (by omega) (by omega) 15, z (0 + 1) (by omega) (by omega) 14, z (0 + 1 + 1) (by omega) (by omega) 13, z (0 + 1 + 1 + 1) (by omega) (by omega) 12, z (0 + 1 + 1 + 1 + 1) (by omega) (by omega) 11, z (0 + 1 + 1 + 1 + 1 + 1) (by omega) (by omega) 10, z (0 + 1 + 1 + 1 + 1 + 1 + 1) (by omega) (by omega) 9, z (0 + 1 + 1 + 1 + 1 + 1 + 1 + 1) (by omega) (by omega) 8]
  rw [z (0 + 1 + 1 + 1 + 1 + 1 + 1 + 1 + 1) (by omega) (by omega) 7, z (0 + 1 + 1 + 1 + 1 + 1 + 1 + 1 + 1 + 1) (by omega) (by omega) 6, z (0 + 1 + 1 + 1 + 1 + 1 + 1 + 1 + 1 + 1 + 1) (by omega) (by omega) 5, z (0 + 1 + 1 + 1 + 1 + 1 + 1 + 1 + 1 + 1 + 1 + 1) (by omega) (by omega) 4, z (0 + 1 + 1 + 1 + 1 + 1 + 1 + 1 + 1 + 1 + 1 + 1 + 1) (by omega) (by omega) 3, z (0 + 1 + 1 + 1 + 1 + 1 + 1 + 1 + 1 + 1 + 1 + 1 + 1 + 1) (by omega) (by omega) 2, z (0 + 1 + 1 + 1 + 1 + 1 + 1 + 1 + 1 + 1 + 1 + 1 + 1 + 1 + 1) (by omega) (by omega) 1, z (0 + 1 + 1 + 1 + 1 + 1 + 1 + 1 + 1 + 1 + 1 + 1 + 1 + 1 + 1 + 1) (by omega) (by omega) 0]
  rw [show 4 * 0 = 0 from rfl, sumF_0]
  simp only [Int.reduceMul, Int.reduceAdd] at p0 p1 p2 p3 ⊢
  have q0 : m 128 + m 132 + m 136 + m 140 = 16 := by unfold pat at p0; omega
  have q1 : m 144 + m 148 + m 152 + m 156 = 16 := by unfold pat at p1; omega
  have q2 : m 160 + m 164 + m 168 + m 172 = 16 := by unfold pat at p2; omega
  have q3 : m 176 + m 180 + m 184 + m 188 = 16 := by unfold pat at p3; omega
  omega
theorem tot_own {K : Int} {m : Int → Int} (hW : MW K m) (h : ML m) : tot (wdsM m) = 64 - frwM m := by
  have e := sumF_2 (f := fun w => if owd m w then m (128 + w) else 0) (g := fun w => if fre m w then m (128 + w) else 0) (h := fun w => m (128 + w)) 64 0 (fun j h1 h2 => by
    have hb := (hW.1 j h1 (by omega)).2.1
    by_cases h0 : 0 < m (128 + j)
    · by_cases h5 : m (192 + j) = -5
      · rw [if_neg (by omega), if_pos ⟨h0, h5⟩, Int.zero_add]
      · rw [if_pos ⟨h0, h5⟩, if_neg (by omega), Int.add_zero]
    · rw [if_neg (by omega), if_neg (by omega)]
      omega)
  rw [tot_wds hW, ← tot_sz h, ← e]
  unfold frwM
  omega

theorem l_Sta_leaks {μ : Int → Int → Int} {K : Int} {m : Int → Int} (hR : RI K μ m) : ∀ (n : Nat) (t a : Int), (t + n = 6) → (0 ≤ t) → (0 ≤ a ∧ a ≤ 64 * t) → SPW mi_Sta_leaks 219 4 [some (vR 1), some (vI a), some (vI t)] [] (st (μ)) (some (vI (a + sumF n t (lksM m)))) (st (μ)) := by
  intro n
  induction n with
  | zero =>
    intro t a h0 h1 h2
    refine r_iloadn dd_Sta_leaks_4 rfl ?_
    refine r_bip dd_Sta_leaks_5 ⟨by decide, by decide⟩ ?_
    refine r_icmp_ge dd_Sta_leaks_7 (fun c_7 => ?_) (fun c_7 => ?_)
    · refine r_iloadn dd_Sta_leaks_24 rfl ?_
      exact r_retI dd_Sta_leaks_25 (by rw [sumF_0]; omega) rfl
    · exfalso; omega
  | succ n ih =>
    intro t a h0 h1 h2
    have hbd := lksM_bd m t
    refine r_iloadn dd_Sta_leaks_4 rfl ?_
    refine r_bip dd_Sta_leaks_5 ⟨by decide, by decide⟩ ?_
    refine r_icmp_ge dd_Sta_leaks_7 (fun c_7 => ?_) (fun c_7 => ?_)
    · exfalso; omega
    · refine r_iloadn dd_Sta_leaks_10 rfl ?_
      refine r_aloadn dd_Sta_leaks_11 rfl ?_
      refine r_iloadn dd_Sta_leaks_12 rfl ?_
      refine r_V1W dd_Sta_leaks_13 ml_Sta_189 ok_Sta_leaksOf vi_Sta_leaksOf vk_1 (by decide) (clS rfl (Nat.le_refl _) (rmOK_self _ _)) rfl (c_Sta_leaksOf hR (by omega)) ?_
      refine r_iadd dd_Sta_leaks_16 ⟨by omega, by omega⟩ ?_
      refine r_istoren (L' := [_, _, _]) dd_Sta_leaks_17 rfl rfl ?_
      refine r_iinc (L' := [_, _, _]) dd_Sta_leaks_18 rfl ⟨by omega, by omega⟩ rfl ?_
      refine r_goto dd_Sta_leaks_21 ?_
      refine r_eqr (by rw [sumF_s]; omega) (ih (t + 1) _ (by omega) (by omega) ⟨by omega, by omega⟩)
theorem c_Sta_leaks {μ : Int → Int → Int} {K : Int} {m : Int → Int} (hR : RI K μ m) : MetC mi_Sta_leaks [vR 1] (st μ) (some (vI (lksM m 6))) (st (μ)) := by
  refine met_of ?_ (Nat.le_of_ble_eq_true rfl) (by decide) trivial (by decide) (Nat.le_of_ble_eq_true rfl)
  show SPW mi_Sta_leaks 219 0 [some (vR 1), none, none] [] (st μ) (some (vI (lksM m 6))) (st (μ))
  refine r_iconst dd_Sta_leaks_0 ⟨by decide, by decide⟩ ?_
  refine r_istoren (L' := [_, _, _]) dd_Sta_leaks_1 rfl rfl ?_
  refine r_iconst dd_Sta_leaks_2 ⟨by decide, by decide⟩ ?_
  refine r_istoren (L' := [_, _, _]) dd_Sta_leaks_3 rfl rfl ?_
  exact r_eqr (show 0 + sumF 6 0 (lksM m) = lksM m 6 from (Int.zero_add _).trans (tot_lks hR.2.1)) (l_Sta_leaks hR 6 0 0 (by decide) (by decide) ⟨by decide, by decide⟩)
theorem l_Sta_ownedBlocks {μ : Int → Int → Int} {K : Int} {m : Int → Int} (hR : RI K μ m) : ∀ (n : Nat) (t a : Int), (t + n = 6) → (0 ≤ t) → (0 ≤ a ∧ a ≤ 64 * t) → SPW mi_Sta_ownedBlocks 219 4 [some (vR 1), some (vI a), some (vI t)] [] (st (μ)) (some (vI (a + sumF n t (blksM m)))) (st (μ)) := by
  intro n
  induction n with
  | zero =>
    intro t a h0 h1 h2
    refine r_iloadn dd_Sta_ownedBlocks_4 rfl ?_
    refine r_bip dd_Sta_ownedBlocks_5 ⟨by decide, by decide⟩ ?_
    refine r_icmp_ge dd_Sta_ownedBlocks_7 (fun c_7 => ?_) (fun c_7 => ?_)
    · refine r_iloadn dd_Sta_ownedBlocks_24 rfl ?_
      exact r_retI dd_Sta_ownedBlocks_25 (by rw [sumF_0]; omega) rfl
    · exfalso; omega
  | succ n ih =>
    intro t a h0 h1 h2
    have hbd := (show 0 ≤ blksM m t ∧ blksM m t ≤ 64 from sum1_bd (fun w => owd m w ∧ m (256 + w) = t))
    refine r_iloadn dd_Sta_ownedBlocks_4 rfl ?_
    refine r_bip dd_Sta_ownedBlocks_5 ⟨by decide, by decide⟩ ?_
    refine r_icmp_ge dd_Sta_ownedBlocks_7 (fun c_7 => ?_) (fun c_7 => ?_)
    · exfalso; omega
    · refine r_iloadn dd_Sta_ownedBlocks_10 rfl ?_
      refine r_aloadn dd_Sta_ownedBlocks_11 rfl ?_
      refine r_iloadn dd_Sta_ownedBlocks_12 rfl ?_
      refine r_V1W dd_Sta_ownedBlocks_13 ml_Sta_124 ok_Sta_blocksOf vi_Sta_blocksOf vk_1 (by decide) (clS rfl (Nat.le_refl _) (rmOK_self _ _)) rfl (c_Sta_blocksOf hR (by omega)) ?_
      refine r_iadd dd_Sta_ownedBlocks_16 ⟨by omega, by omega⟩ ?_
      refine r_istoren (L' := [_, _, _]) dd_Sta_ownedBlocks_17 rfl rfl ?_
      refine r_iinc (L' := [_, _, _]) dd_Sta_ownedBlocks_18 rfl ⟨by omega, by omega⟩ rfl ?_
      refine r_goto dd_Sta_ownedBlocks_21 ?_
      refine r_eqr (by rw [sumF_s]; omega) (ih (t + 1) _ (by omega) (by omega) ⟨by omega, by omega⟩)
theorem c_Sta_ownedBlocks {μ : Int → Int → Int} {K : Int} {m : Int → Int} (hR : RI K μ m) : MetC mi_Sta_ownedBlocks [vR 1] (st μ) (some (vI (owsM m))) (st (μ)) := by
  refine met_of ?_ (Nat.le_of_ble_eq_true rfl) (by decide) trivial (by decide) (Nat.le_of_ble_eq_true rfl)
  show SPW mi_Sta_ownedBlocks 219 0 [some (vR 1), none, none] [] (st μ) (some (vI (owsM m))) (st (μ))
  refine r_iconst dd_Sta_ownedBlocks_0 ⟨by decide, by decide⟩ ?_
  refine r_istoren (L' := [_, _, _]) dd_Sta_ownedBlocks_1 rfl rfl ?_
  refine r_iconst dd_Sta_ownedBlocks_2 ⟨by decide, by decide⟩ ?_
  refine r_istoren (L' := [_, _, _]) dd_Sta_ownedBlocks_3 rfl rfl ?_
  exact r_eqr (show 0 + sumF 6 0 (blksM m) = owsM m from (Int.zero_add _).trans (tot_blks hR.2.1)) (l_Sta_ownedBlocks hR 6 0 0 (by decide) (by decide) ⟨by decide, by decide⟩)
theorem l_Sta_ownedWords {μ : Int → Int → Int} {K : Int} {m : Int → Int} (hR : RI K μ m) : ∀ (n : Nat) (t a : Int), (t + n = 6) → (0 ≤ t) → (0 ≤ a ∧ a ≤ 1024 * t) → SPW mi_Sta_ownedWords 219 4 [some (vR 1), some (vI a), some (vI t)] [] (st (μ)) (some (vI (a + sumF n t (wdsM m)))) (st (μ)) := by
  intro n
  induction n with
  | zero =>
    intro t a h0 h1 h2
    refine r_iloadn dd_Sta_ownedWords_4 rfl ?_
    refine r_bip dd_Sta_ownedWords_5 ⟨by decide, by decide⟩ ?_
    refine r_icmp_ge dd_Sta_ownedWords_7 (fun c_7 => ?_) (fun c_7 => ?_)
    · refine r_iloadn dd_Sta_ownedWords_24 rfl ?_
      exact r_retI dd_Sta_ownedWords_25 (by rw [sumF_0]; omega) rfl
    · exfalso; omega
  | succ n ih =>
    intro t a h0 h1 h2
    have hbd := wdsM_bd hR.2.1 t
    refine r_iloadn dd_Sta_ownedWords_4 rfl ?_
    refine r_bip dd_Sta_ownedWords_5 ⟨by decide, by decide⟩ ?_
    refine r_icmp_ge dd_Sta_ownedWords_7 (fun c_7 => ?_) (fun c_7 => ?_)
    · exfalso; omega
    · refine r_iloadn dd_Sta_ownedWords_10 rfl ?_
      refine r_aloadn dd_Sta_ownedWords_11 rfl ?_
      refine r_iloadn dd_Sta_ownedWords_12 rfl ?_
      refine r_V1W dd_Sta_ownedWords_13 ml_Sta_185 ok_Sta_wordsOf vi_Sta_wordsOf vk_1 (by decide) (clS rfl (Nat.le_refl _) (rmOK_self _ _)) rfl (c_Sta_wordsOf hR (by omega)) ?_
      refine r_iadd dd_Sta_ownedWords_16 ⟨by omega, by omega⟩ ?_
      refine r_istoren (L' := [_, _, _]) dd_Sta_ownedWords_17 rfl rfl ?_
      refine r_iinc (L' := [_, _, _]) dd_Sta_ownedWords_18 rfl ⟨by omega, by omega⟩ rfl ?_
      refine r_goto dd_Sta_ownedWords_21 ?_
      refine r_eqr (by rw [sumF_s]; omega) (ih (t + 1) _ (by omega) (by omega) ⟨by omega, by omega⟩)
theorem c_Sta_ownedWords {μ : Int → Int → Int} {K : Int} {m : Int → Int} (hR : RI K μ m) : MetC mi_Sta_ownedWords [vR 1] (st μ) (some (vI (64 - frwM m))) (st (μ)) := by
  refine met_of ?_ (Nat.le_of_ble_eq_true rfl) (by decide) trivial (by decide) (Nat.le_of_ble_eq_true rfl)
  show SPW mi_Sta_ownedWords 219 0 [some (vR 1), none, none] [] (st μ) (some (vI (64 - frwM m))) (st (μ))
  refine r_iconst dd_Sta_ownedWords_0 ⟨by decide, by decide⟩ ?_
  refine r_istoren (L' := [_, _, _]) dd_Sta_ownedWords_1 rfl rfl ?_
  refine r_iconst dd_Sta_ownedWords_2 ⟨by decide, by decide⟩ ?_
  refine r_istoren (L' := [_, _, _]) dd_Sta_ownedWords_3 rfl rfl ?_
  exact r_eqr (show 0 + sumF 6 0 (wdsM m) = 64 - frwM m from (Int.zero_add _).trans (tot_own hR.2.1 hR.2.2)) (l_Sta_ownedWords hR 6 0 0 (by decide) (by decide) ⟨by decide, by decide⟩)
theorem l_Sta_askedWords {μ : Int → Int → Int} {K : Int} {m : Int → Int} (hR : RI K μ m) : ∀ (n : Nat) (t a : Int), (t + n = 6) → (0 ≤ t) → (0 ≤ a ∧ a ≤ 896 * t) → SPW mi_Sta_askedWords 219 4 [some (vR 1), some (vI a), some (vI t)] [] (st (μ)) (some (vI (a + sumF n t (askdM m)))) (st (μ)) := by
  intro n
  induction n with
  | zero =>
    intro t a h0 h1 h2
    refine r_iloadn dd_Sta_askedWords_4 rfl ?_
    refine r_bip dd_Sta_askedWords_5 ⟨by decide, by decide⟩ ?_
    refine r_icmp_ge dd_Sta_askedWords_7 (fun c_7 => ?_) (fun c_7 => ?_)
    · refine r_iloadn dd_Sta_askedWords_24 rfl ?_
      exact r_retI dd_Sta_askedWords_25 (by rw [sumF_0]; omega) rfl
    · exfalso; omega
  | succ n ih =>
    intro t a h0 h1 h2
    have hbd := askdM_bd hR.2.1 t
    refine r_iloadn dd_Sta_askedWords_4 rfl ?_
    refine r_bip dd_Sta_askedWords_5 ⟨by decide, by decide⟩ ?_
    refine r_icmp_ge dd_Sta_askedWords_7 (fun c_7 => ?_) (fun c_7 => ?_)
    · exfalso; omega
    · refine r_iloadn dd_Sta_askedWords_10 rfl ?_
      refine r_aloadn dd_Sta_askedWords_11 rfl ?_
      refine r_iloadn dd_Sta_askedWords_12 rfl ?_
      refine r_V1W dd_Sta_askedWords_13 ml_Sta_186 ok_Sta_askedBy vi_Sta_askedBy vk_1 (by decide) (clS rfl (Nat.le_refl _) (rmOK_self _ _)) rfl (c_Sta_askedBy hR (by omega)) ?_
      refine r_iadd dd_Sta_askedWords_16 ⟨by omega, by omega⟩ ?_
      refine r_istoren (L' := [_, _, _]) dd_Sta_askedWords_17 rfl rfl ?_
      refine r_iinc (L' := [_, _, _]) dd_Sta_askedWords_18 rfl ⟨by omega, by omega⟩ rfl ?_
      refine r_goto dd_Sta_askedWords_21 ?_
      refine r_eqr (by rw [sumF_s]; omega) (ih (t + 1) _ (by omega) (by omega) ⟨by omega, by omega⟩)
theorem c_Sta_askedWords {μ : Int → Int → Int} {K : Int} {m : Int → Int} (hR : RI K μ m) : MetC mi_Sta_askedWords [vR 1] (st μ) (some (vI (askdM m 6))) (st (μ)) := by
  refine met_of ?_ (Nat.le_of_ble_eq_true rfl) (by decide) trivial (by decide) (Nat.le_of_ble_eq_true rfl)
  show SPW mi_Sta_askedWords 219 0 [some (vR 1), none, none] [] (st μ) (some (vI (askdM m 6))) (st (μ))
  refine r_iconst dd_Sta_askedWords_0 ⟨by decide, by decide⟩ ?_
  refine r_istoren (L' := [_, _, _]) dd_Sta_askedWords_1 rfl rfl ?_
  refine r_iconst dd_Sta_askedWords_2 ⟨by decide, by decide⟩ ?_
  refine r_istoren (L' := [_, _, _]) dd_Sta_askedWords_3 rfl rfl ?_
  exact r_eqr (show 0 + sumF 6 0 (askdM m) = askdM m 6 from (Int.zero_add _).trans (tot_askd hR.2.1)) (l_Sta_askedWords hR 6 0 0 (by decide) (by decide) ⟨by decide, by decide⟩)

/-! the class: where a word lies; what is told -/
theorem bgF_ge {m : Int → Int} : ∀ (n : Nat) (w c : Int), c ≤ w → w - c < n → m (128 + c) ≠ 0 → c ≤ bgF m n w
  | 0, w, c, h1, h2, h3 => by omega
  | n + 1, w, c, h1, h2, h3 => by
    by_cases h : m (128 + w) = 0
    · rw [bgF_n h]
      have : w ≠ c := fun e => by subst e; exact h3 h
      exact bgF_ge n (w + -1) c (by omega) (by omega) h3
    · rw [bgF_y h]
      exact h1
/-- the block in which a word lies -/
theorem tile {K : Int} {m : Int → Int} (hW : MW K m) (h : ML m) {w : Int} (h0 : 0 ≤ w) (h1 : w < 64) : ∃ j, bgn m w = 4 * j ∧ 0 ≤ j ∧ j < 16 ∧ 4 * j ≤ w ∧ w < 4 * j + m (128 + 4 * j) ∧ ∀ i, 0 ≤ i → i < 16 → 4 * i ≤ w → w < 4 * i + m (128 + 4 * i) → i = j := by
  have hz := hW.2.2.2.2.2.2.2.2.2
  obtain ⟨a1, a2, a3⟩ := bgn_rg hz h0 h1
  have a4 : bgn m w % 4 = 0 := by
    by_cases q : bgn m w % 4 = 0
    · exact q
    · exact absurd (h.1 _ a1 (by omega) q) a3
  have key : ∀ c, 0 ≤ c → c ≤ w → m (128 + c) ≠ 0 → c ≤ bgn m w := fun c c0 c1 c2 => bgF_ge 64 w c c1 (by omega) c2
  obtain ⟨c, r, hc, hr, hcw, hc0⟩ : ∃ c r : Int, w = c + r ∧ (0 ≤ r ∧ r < 16) ∧ (0 ≤ c ∧ c < 64) ∧ c % 16 = 0 := ⟨w - w % 16, w % 16, by omega, by omega, by omega, by omega⟩
  have hp := h.2.1 c hcw.1 hcw.2 hc0
  rw [show 132 + c = 128 + (c + 4) by omega, show 136 + c = 128 + (c + 8) by omega, show 140 + c = 128 + (c + 12) by omega] at hp
  have k0 := key c hcw.1 (by omega) (by unfold pat at hp; omega)
  have k4 := key (c + 4) (by omega)
  have k8 := key (c + 8) (by omega)
  have k12 := key (c + 12) (by omega)
  have hb : bgn m w = c ∨ bgn m w = c + 4 ∨ bgn m w = c + 8 ∨ bgn m w = c + 12 := by omega
  have hcov : w < bgn m w + m (128 + bgn m w) := by
    unfold pat at hp
    rcases hb with e | e | e | e <;> rw [e] at a3 ⊢ <;> rw [e] at k4 k8 k12 <;> omega
  refine ⟨bgn m w / 4, by omega, by omega, by omega, by omega, ?_, ?_⟩
  · rw [show 4 * (bgn m w / 4) = bgn m w by omega]
    exact hcov
  · intro i i0 i1 i2 i3
    have hne : m (128 + 4 * i) ≠ 0 := by omega
    have kk := key (4 * i) (by omega) i2 hne
    by_cases e : 4 * i = bgn m w
    · omega
    · exfalso
      have hi : 4 * i = c ∨ 4 * i = c + 4 ∨ 4 * i = c + 8 ∨ 4 * i = c + 12 ∨ 4 * i < c := by omega
      rcases hi with q | q | q | q | q
      · rw [q] at i3 hne
        unfold pat at hp
        rcases hb with e2 | e2 | e2 | e2 <;> rw [e2] at a3 <;> omega
      · rw [q] at i3 hne
        unfold pat at hp
        rcases hb with e2 | e2 | e2 | e2 <;> rw [e2] at a3 <;> omega
      · rw [q] at i3 hne
        unfold pat at hp
        rcases hb with e2 | e2 | e2 | e2 <;> rw [e2] at a3 <;> omega
      · rw [q] at i3 hne
        unfold pat at hp
        rcases hb with e2 | e2 | e2 | e2 <;> rw [e2] at a3 <;> omega
      · -- a block of an earlier sixteen ends ahead of this one
        have hp2 := h.2.1 (4 * i - 4 * i % 16) (by omega) (by omega) (by omega)
        rw [show 132 + (4 * i - 4 * i % 16) = 128 + (4 * i - 4 * i % 16 + 4) by omega, show 136 + (4 * i - 4 * i % 16) = 128 + (4 * i - 4 * i % 16 + 8) by omega, show 140 + (4 * i - 4 * i % 16) = 128 + (4 * i - 4 * i % 16 + 12) by omega] at hp2
        obtain ⟨c2, e2⟩ : ∃ c2, c2 = 4 * i - 4 * i % 16 := ⟨_, rfl⟩
        rw [← e2] at hp2
        have hi2 : 4 * i = c2 ∨ 4 * i = c2 + 4 ∨ 4 * i = c2 + 8 ∨ 4 * i = c2 + 12 := by omega
        unfold pat at hp2
        rcases hi2 with q2 | q2 | q2 | q2 <;> rw [q2] at i3 <;> omega

theorem b2_eq0 {p : Prop} [Decidable p] : b2 p = 0 ↔ ¬ p := by
  by_cases h : p
  · rw [b2_t h]; simp [h]
  · rw [b2_f h]; simp [h]
theorem b2_eq1 {p : Prop} [Decidable p] : b2 p = 1 ↔ p := by
  by_cases h : p
  · rw [b2_t h]; simp [h]
  · rw [b2_f h]; simp [h]
theorem l_Sta_bos0 {μ : Int → Int → Int} {K : Int} {m : Int → Int} (hR : RI K μ m) {z : Int} (hz : 0 ≤ z ∧ z ≤ 2) : ∀ (n : Nat) (i a : Int), (i + n = 16) → (0 ≤ i) → (0 ≤ a ∧ a ≤ i) → SPW mi_Sta_blocksOfSize 219 16 [some (vR 1), some (vI z), some (vI 0), some (vI a), some (vR 2), some (vI 16), some (vI i), none] [] (st (μ)) (some (vI (a + sumF (4 * n) (4 * i) (fun w => if m (128 + w) = p4 z ∧ (((0 : Int) = 0 ∧ fre m w) ∨ ((0 : Int) ≠ 0 ∧ owd m w)) then 1 else 0)))) (st (μ)) := by
  intro n
  induction n with
  | zero =>
    intro i a h0 h1 h2
    refine r_iload dd_Sta_blocksOfSize_16 rfl ?_
    refine r_iload dd_Sta_blocksOfSize_18 rfl ?_
    refine r_icmp_ge dd_Sta_blocksOfSize_20 (fun c_20 => ?_) (fun c_20 => ?_)
    · refine r_iloadn dd_Sta_blocksOfSize_57 rfl ?_
      exact r_retI dd_Sta_blocksOfSize_58 (by show _ = a + sumF 0 _ _; rw [sumF_0]; omega) rfl
    · exfalso; omega
  | succ n ih =>
    intro i a h0 h1 h2
    have ho := hR.own h1 (by omega)
    have hb := hR.blk h1 (by omega)
    have hw := hR.2.1.1 (4 * i) (by omega) (by omega)
    have z1 := hR.2.2.z h1 (by omega : i < 16) (j := 1) (by omega)
    have z2 := hR.2.2.z h1 (by omega : i < 16) (j := 2) (by omega)
    have z3 := hR.2.2.z h1 (by omega : i < 16) (j := 3) (by omega)
    have hp := p4_rg (z := z)
    have hj := wz_inj hb.2.1 hz
    have e0 : b2 (μ (3 + i) 2 ≠ -1) = 0 ↔ ¬ (μ (3 + i) 2 ≠ -1) := b2_eq0
    have e1 : b2 (μ (3 + i) 2 ≠ -1) = 1 ↔ (μ (3 + i) 2 ≠ -1) := b2_eq1
    have e2 := b2_01 (p := μ (3 + i) 2 ≠ -1)
    refine r_iload dd_Sta_blocksOfSize_16 rfl ?_
    refine r_iload dd_Sta_blocksOfSize_18 rfl ?_
    refine r_icmp_ge dd_Sta_blocksOfSize_20 (fun c_20 => ?_) (fun c_20 => ?_)
    · exfalso; omega
    · refine r_aload dd_Sta_blocksOfSize_23 rfl ?_
      refine r_iload dd_Sta_blocksOfSize_25 rfl ?_
      refine r_aald dd_Sta_blocksOfSize_27 (q := 17) (by decide) vk_2 (by omega) (by show _ < ((16 : Nat) : Int); omega) (by first | exact R0_2 | exact R0_20 | exact R0_80 | exact R0_187 | exact R0_b (by assumption) | exact R0_t (by assumption)) ?_
      refine r_astore (L' := [_, _, _, _, _, _, _, _]) dd_Sta_blocksOfSize_28 rfl rfl ?_
      refine r_aload dd_Sta_blocksOfSize_30 rfl ?_
      refine r_getI dd_Sta_blocksOfSize_32 fl_Sta_151 (kI := 1) rfl fi_Blk_1 (by first | assumption | exact vk_blk (by omega) (by omega) | exact vk_tsk (by omega) (by omega) | exact vk_cmd (by omega) (by omega)) ?_
      refine r_iloadn dd_Sta_blocksOfSize_35 rfl ?_
      refine r_icmp_ne dd_Sta_blocksOfSize_36 (fun c_36 => ?_) (fun c_36 => ?_)
      · refine r_iinc (L' := [_, _, _, _, _, _, _, _]) dd_Sta_blocksOfSize_51 rfl ⟨by omega, by omega⟩ rfl ?_
        refine r_goto dd_Sta_blocksOfSize_54 ?_
        refine r_drop 7 (r_eqr (by rw [(sumF4 (by rw [if_neg (by omega)]) (by rw [if_neg (by omega)]) (by rw [if_neg (by omega)]))]; first | (rw [if_pos (by omega)]; omega) | (rw [if_neg (by omega)]; omega)) (ih (i + 1) _ (by omega) (by omega) ⟨by omega, by omega⟩))
      · refine r_aload dd_Sta_blocksOfSize_39 rfl ?_
        refine r_V0W dd_Sta_blocksOfSize_41 ml_Sta_169 ok_Blk_isOwned vi_Blk_isOwned (by first | assumption | exact vk_blk (by omega) (by omega) | exact vk_tsk (by omega) (by omega) | exact vk_cmd (by omega) (by omega)) (by decide) (clS rfl (Nat.le_refl _) (rmOK_self _ _)) rfl (c_Blk_isOwned (vk_blk h1 (by omega))) ?_
        refine r_iloadn dd_Sta_blocksOfSize_44 rfl ?_
        refine r_icmp_ne dd_Sta_blocksOfSize_45 (fun c_45 => ?_) (fun c_45 => ?_)
        · refine r_iinc (L' := [_, _, _, _, _, _, _, _]) dd_Sta_blocksOfSize_51 rfl ⟨by omega, by omega⟩ rfl ?_
          refine r_goto dd_Sta_blocksOfSize_54 ?_
          refine r_drop 7 (r_eqr (by rw [(sumF4 (by rw [if_neg (by omega)]) (by rw [if_neg (by omega)]) (by rw [if_neg (by omega)]))]; first | (rw [if_pos (by omega)]; omega) | (rw [if_neg (by omega)]; omega)) (ih (i + 1) _ (by omega) (by omega) ⟨by omega, by omega⟩))
        · refine r_iinc (L' := [_, _, _, _, _, _, _, _]) dd_Sta_blocksOfSize_48 rfl ⟨by omega, by omega⟩ rfl ?_
          refine r_iinc (L' := [_, _, _, _, _, _, _, _]) dd_Sta_blocksOfSize_51 rfl ⟨by omega, by omega⟩ rfl ?_
          refine r_goto dd_Sta_blocksOfSize_54 ?_
          refine r_drop 7 (r_eqr (by rw [(sumF4 (by rw [if_neg (by omega)]) (by rw [if_neg (by omega)]) (by rw [if_neg (by omega)]))]; first | (rw [if_pos (by omega)]; omega) | (rw [if_neg (by omega)]; omega)) (ih (i + 1) _ (by omega) (by omega) ⟨by omega, by omega⟩))
theorem c_Sta_bos0 {μ : Int → Int → Int} {K : Int} {m : Int → Int} (hR : RI K μ m) {z : Int} (hz : 0 ≤ z ∧ z ≤ 2) : MetC mi_Sta_blocksOfSize [vR 1, vI z, vI 0] (st μ) (some (vI (szcM m (p4 z) 0))) (st (μ)) := by
  refine met_of ?_ (Nat.le_of_ble_eq_true rfl) (by decide) trivial (by decide) (Nat.le_of_ble_eq_true rfl)
  show SPW mi_Sta_blocksOfSize 219 0 [some (vR 1), some (vI z), some (vI 0), none, none, none, none, none] [] (st μ) (some (vI (szcM m (p4 z) 0))) (st (μ))
  refine r_iconst dd_Sta_blocksOfSize_0 ⟨by decide, by decide⟩ ?_
  refine r_istoren (L' := [_, _, _, _, _, _, _, _]) dd_Sta_blocksOfSize_1 rfl rfl ?_
  refine r_aloadn dd_Sta_blocksOfSize_2 rfl ?_
  refine r_getR dd_Sta_blocksOfSize_3 fl_Sta_11 (kI := 0) rfl fr_Sta_0 vk_1 R0_1_0 ?_
  refine r_astore (L' := [_, _, _, _, _, _, _, _]) dd_Sta_blocksOfSize_6 rfl rfl ?_
  refine r_aload dd_Sta_blocksOfSize_8 rfl ?_
  refine r_alen dd_Sta_blocksOfSize_10 (q := 17) (n := 16) (by decide) vk_2 rfl ⟨by decide, by decide⟩ ?_
  refine r_istore (L' := [_, _, _, _, _, _, _, _]) dd_Sta_blocksOfSize_11 rfl rfl ?_
  refine r_iconst dd_Sta_blocksOfSize_13 ⟨by decide, by decide⟩ ?_
  refine r_istore (L' := [_, _, _, _, _, _, _, _]) dd_Sta_blocksOfSize_14 rfl rfl ?_
  exact r_eqr (show 0 + sumF (4 * 16) (4 * 0) (fun w => if m (128 + w) = p4 z ∧ (((0 : Int) = 0 ∧ fre m w) ∨ ((0 : Int) ≠ 0 ∧ owd m w)) then 1 else 0) = _ from Int.zero_add _) (l_Sta_bos0 hR hz 16 0 0 (by decide) (by decide) ⟨by decide, by decide⟩)
theorem l_Sta_bos1 {μ : Int → Int → Int} {K : Int} {m : Int → Int} (hR : RI K μ m) {z : Int} (hz : 0 ≤ z ∧ z ≤ 2) : ∀ (n : Nat) (i a : Int), (i + n = 16) → (0 ≤ i) → (0 ≤ a ∧ a ≤ i) → SPW mi_Sta_blocksOfSize 219 16 [some (vR 1), some (vI z), some (vI 1), some (vI a), some (vR 2), some (vI 16), some (vI i), none] [] (st (μ)) (some (vI (a + sumF (4 * n) (4 * i) (fun w => if m (128 + w) = p4 z ∧ (((1 : Int) = 0 ∧ fre m w) ∨ ((1 : Int) ≠ 0 ∧ owd m w)) then 1 else 0)))) (st (μ)) := by
  intro n
  induction n with
  | zero =>
    intro i a h0 h1 h2
    refine r_iload dd_Sta_blocksOfSize_16 rfl ?_
    refine r_iload dd_Sta_blocksOfSize_18 rfl ?_
    refine r_icmp_ge dd_Sta_blocksOfSize_20 (fun c_20 => ?_) (fun c_20 => ?_)
    · refine r_iloadn dd_Sta_blocksOfSize_57 rfl ?_
      exact r_retI dd_Sta_blocksOfSize_58 (by show _ = a + sumF 0 _ _; rw [sumF_0]; omega) rfl
    · exfalso; omega
  | succ n ih =>
    intro i a h0 h1 h2
    have ho := hR.own h1 (by omega)
    have hb := hR.blk h1 (by omega)
    have hw := hR.2.1.1 (4 * i) (by omega) (by omega)
    have z1 := hR.2.2.z h1 (by omega : i < 16) (j := 1) (by omega)
    have z2 := hR.2.2.z h1 (by omega : i < 16) (j := 2) (by omega)
    have z3 := hR.2.2.z h1 (by omega : i < 16) (j := 3) (by omega)
    have hp := p4_rg (z := z)
    have hj := wz_inj hb.2.1 hz
    have e0 : b2 (μ (3 + i) 2 ≠ -1) = 0 ↔ ¬ (μ (3 + i) 2 ≠ -1) := b2_eq0
    have e1 : b2 (μ (3 + i) 2 ≠ -1) = 1 ↔ (μ (3 + i) 2 ≠ -1) := b2_eq1
    have e2 := b2_01 (p := μ (3 + i) 2 ≠ -1)
    refine r_iload dd_Sta_blocksOfSize_16 rfl ?_
    refine r_iload dd_Sta_blocksOfSize_18 rfl ?_
    refine r_icmp_ge dd_Sta_blocksOfSize_20 (fun c_20 => ?_) (fun c_20 => ?_)
    · exfalso; omega
    · refine r_aload dd_Sta_blocksOfSize_23 rfl ?_
      refine r_iload dd_Sta_blocksOfSize_25 rfl ?_
      refine r_aald dd_Sta_blocksOfSize_27 (q := 17) (by decide) vk_2 (by omega) (by show _ < ((16 : Nat) : Int); omega) (by first | exact R0_2 | exact R0_20 | exact R0_80 | exact R0_187 | exact R0_b (by assumption) | exact R0_t (by assumption)) ?_
      refine r_astore (L' := [_, _, _, _, _, _, _, _]) dd_Sta_blocksOfSize_28 rfl rfl ?_
      refine r_aload dd_Sta_blocksOfSize_30 rfl ?_
      refine r_getI dd_Sta_blocksOfSize_32 fl_Sta_151 (kI := 1) rfl fi_Blk_1 (by first | assumption | exact vk_blk (by omega) (by omega) | exact vk_tsk (by omega) (by omega) | exact vk_cmd (by omega) (by omega)) ?_
      refine r_iloadn dd_Sta_blocksOfSize_35 rfl ?_
      refine r_icmp_ne dd_Sta_blocksOfSize_36 (fun c_36 => ?_) (fun c_36 => ?_)
      · refine r_iinc (L' := [_, _, _, _, _, _, _, _]) dd_Sta_blocksOfSize_51 rfl ⟨by omega, by omega⟩ rfl ?_
        refine r_goto dd_Sta_blocksOfSize_54 ?_
        refine r_drop 7 (r_eqr (by rw [(sumF4 (by rw [if_neg (by omega)]) (by rw [if_neg (by omega)]) (by rw [if_neg (by omega)]))]; first | (rw [if_pos (by omega)]; omega) | (rw [if_neg (by omega)]; omega)) (ih (i + 1) _ (by omega) (by omega) ⟨by omega, by omega⟩))
      · refine r_aload dd_Sta_blocksOfSize_39 rfl ?_
        refine r_V0W dd_Sta_blocksOfSize_41 ml_Sta_169 ok_Blk_isOwned vi_Blk_isOwned (by first | assumption | exact vk_blk (by omega) (by omega) | exact vk_tsk (by omega) (by omega) | exact vk_cmd (by omega) (by omega)) (by decide) (clS rfl (Nat.le_refl _) (rmOK_self _ _)) rfl (c_Blk_isOwned (vk_blk h1 (by omega))) ?_
        refine r_iloadn dd_Sta_blocksOfSize_44 rfl ?_
        refine r_icmp_ne dd_Sta_blocksOfSize_45 (fun c_45 => ?_) (fun c_45 => ?_)
        · refine r_iinc (L' := [_, _, _, _, _, _, _, _]) dd_Sta_blocksOfSize_51 rfl ⟨by omega, by omega⟩ rfl ?_
          refine r_goto dd_Sta_blocksOfSize_54 ?_
          refine r_drop 7 (r_eqr (by rw [(sumF4 (by rw [if_neg (by omega)]) (by rw [if_neg (by omega)]) (by rw [if_neg (by omega)]))]; first | (rw [if_pos (by omega)]; omega) | (rw [if_neg (by omega)]; omega)) (ih (i + 1) _ (by omega) (by omega) ⟨by omega, by omega⟩))
        · refine r_iinc (L' := [_, _, _, _, _, _, _, _]) dd_Sta_blocksOfSize_48 rfl ⟨by omega, by omega⟩ rfl ?_
          refine r_iinc (L' := [_, _, _, _, _, _, _, _]) dd_Sta_blocksOfSize_51 rfl ⟨by omega, by omega⟩ rfl ?_
          refine r_goto dd_Sta_blocksOfSize_54 ?_
          refine r_drop 7 (r_eqr (by rw [(sumF4 (by rw [if_neg (by omega)]) (by rw [if_neg (by omega)]) (by rw [if_neg (by omega)]))]; first | (rw [if_pos (by omega)]; omega) | (rw [if_neg (by omega)]; omega)) (ih (i + 1) _ (by omega) (by omega) ⟨by omega, by omega⟩))
theorem c_Sta_bos1 {μ : Int → Int → Int} {K : Int} {m : Int → Int} (hR : RI K μ m) {z : Int} (hz : 0 ≤ z ∧ z ≤ 2) : MetC mi_Sta_blocksOfSize [vR 1, vI z, vI 1] (st μ) (some (vI (szcM m (p4 z) 1))) (st (μ)) := by
  refine met_of ?_ (Nat.le_of_ble_eq_true rfl) (by decide) trivial (by decide) (Nat.le_of_ble_eq_true rfl)
  show SPW mi_Sta_blocksOfSize 219 0 [some (vR 1), some (vI z), some (vI 1), none, none, none, none, none] [] (st μ) (some (vI (szcM m (p4 z) 1))) (st (μ))
  refine r_iconst dd_Sta_blocksOfSize_0 ⟨by decide, by decide⟩ ?_
  refine r_istoren (L' := [_, _, _, _, _, _, _, _]) dd_Sta_blocksOfSize_1 rfl rfl ?_
  refine r_aloadn dd_Sta_blocksOfSize_2 rfl ?_
  refine r_getR dd_Sta_blocksOfSize_3 fl_Sta_11 (kI := 0) rfl fr_Sta_0 vk_1 R0_1_0 ?_
  refine r_astore (L' := [_, _, _, _, _, _, _, _]) dd_Sta_blocksOfSize_6 rfl rfl ?_
  refine r_aload dd_Sta_blocksOfSize_8 rfl ?_
  refine r_alen dd_Sta_blocksOfSize_10 (q := 17) (n := 16) (by decide) vk_2 rfl ⟨by decide, by decide⟩ ?_
  refine r_istore (L' := [_, _, _, _, _, _, _, _]) dd_Sta_blocksOfSize_11 rfl rfl ?_
  refine r_iconst dd_Sta_blocksOfSize_13 ⟨by decide, by decide⟩ ?_
  refine r_istore (L' := [_, _, _, _, _, _, _, _]) dd_Sta_blocksOfSize_14 rfl rfl ?_
  exact r_eqr (show 0 + sumF (4 * 16) (4 * 0) (fun w => if m (128 + w) = p4 z ∧ (((1 : Int) = 0 ∧ fre m w) ∨ ((1 : Int) ≠ 0 ∧ owd m w)) then 1 else 0) = _ from Int.zero_add _) (l_Sta_bos1 hR hz 16 0 0 (by decide) (by decide) ⟨by decide, by decide⟩)
theorem l_Sta_blockAt {μ : Int → Int → Int} {K : Int} {m : Int → Int} (hR : RI K μ m) {w j : Int} (j0 : 0 ≤ j ∧ j < 16) (hc : 4 * j ≤ w ∧ w < 4 * j + m (128 + 4 * j)) (hu : ∀ i, 0 ≤ i → i < 16 → 4 * i ≤ w → w < 4 * i + m (128 + 4 * i) → i = j) : ∀ (n : Nat) (i : Int), (i + n = 16) → (0 ≤ i) → (i ≤ j) → SPW mi_Sta_blockAt 219 11 [some (vR 1), some (vI w), some (vR 2), some (vI 16), some (vI i), none] [] (st (μ)) (some (vR (3 + j))) (st (μ)) := by
  intro n
  induction n with
  | zero =>
    intro i h0 h1 h2
    refine r_iload dd_Sta_blockAt_11 rfl ?_
    refine r_iloadn dd_Sta_blockAt_13 rfl ?_
    refine r_icmp_ge dd_Sta_blockAt_14 (fun c_14 => ?_) (fun c_14 => ?_)
    · exfalso; omega
    · exfalso; omega
  | succ n ih =>
    intro i h0 h1 h2
    have ho := hR.own h1 (by omega)
    have hb := hR.blk h1 (by omega)
    have hw := hR.2.1.1 (4 * i) (by omega) (by omega)
    have z1 := hR.2.2.z h1 (by omega : i < 16) (j := 1) (by omega)
    have z2 := hR.2.2.z h1 (by omega : i < 16) (j := 2) (by omega)
    have z3 := hR.2.2.z h1 (by omega : i < 16) (j := 3) (by omega)
    refine r_iload dd_Sta_blockAt_11 rfl ?_
    refine r_iloadn dd_Sta_blockAt_13 rfl ?_
    refine r_icmp_ge dd_Sta_blockAt_14 (fun c_14 => ?_) (fun c_14 => ?_)
    · exfalso; omega
    · refine r_aloadn dd_Sta_blockAt_17 rfl ?_
      refine r_iload dd_Sta_blockAt_18 rfl ?_
      refine r_aald dd_Sta_blockAt_20 (q := 17) (by decide) vk_2 (by omega) (by show _ < ((16 : Nat) : Int); omega) (by first | exact R0_2 | exact R0_20 | exact R0_80 | exact R0_187 | exact R0_b (by assumption) | exact R0_t (by assumption)) ?_
      refine r_astore (L' := [_, _, _, _, _, _]) dd_Sta_blockAt_21 rfl rfl ?_
      refine r_aload dd_Sta_blockAt_23 rfl ?_
      refine r_iloadn dd_Sta_blockAt_25 rfl ?_
      refine r_V1W dd_Sta_blockAt_26 ml_Sta_173 ok_Blk_holds vi_Blk_holds (by first | assumption | exact vk_blk (by omega) (by omega) | exact vk_tsk (by omega) (by omega) | exact vk_cmd (by omega) (by omega)) (by decide) (clS rfl (Nat.le_refl _) (rmOK_self _ _)) rfl (c_Blk_holds (vk_blk h1 (by omega)) (by omega)) ?_
      refine r_if_eq_b dd_Sta_blockAt_29 (fun c_29 => ?_) (fun c_29 => ?_)
      · refine r_iinc (L' := [_, _, _, _, _, _]) dd_Sta_blockAt_35 rfl ⟨by omega, by omega⟩ rfl ?_
        refine r_goto dd_Sta_blockAt_38 ?_
        have hne : i ≠ j := fun e => by subst e; omega
        exact r_drop 5 (ih (i + 1) (by omega) (by omega) (by omega))
      · refine r_aload dd_Sta_blockAt_32 rfl ?_
        exact r_retR dd_Sta_blockAt_34 (by rw [hu i h1 (by omega) (by omega) (by omega)]) rfl
theorem l_Sta_blockAtN {μ : Int → Int → Int} {K : Int} {m : Int → Int} (hR : RI K μ m) {w : Int} (hx : w < 0 ∨ 64 ≤ w) : ∀ (n : Nat) (i : Int), (i + n = 16) → (0 ≤ i) → SPW mi_Sta_blockAt 219 11 [some (vR 1), some (vI w), some (vR 2), some (vI 16), some (vI i), none] [] (st (μ)) (some (vN)) (st (μ)) := by
  intro n
  induction n with
  | zero =>
    intro i h0 h1
    refine r_iload dd_Sta_blockAt_11 rfl ?_
    refine r_iloadn dd_Sta_blockAt_13 rfl ?_
    refine r_icmp_ge dd_Sta_blockAt_14 (fun c_14 => ?_) (fun c_14 => ?_)
    · refine r_null dd_Sta_blockAt_41 ?_
      exact r_retR dd_Sta_blockAt_42 rfl rfl
    · exfalso; omega
  | succ n ih =>
    intro i h0 h1
    have ho := hR.own h1 (by omega)
    have hb := hR.blk h1 (by omega)
    have hw := hR.2.1.1 (4 * i) (by omega) (by omega)
    have z1 := hR.2.2.z h1 (by omega : i < 16) (j := 1) (by omega)
    have z2 := hR.2.2.z h1 (by omega : i < 16) (j := 2) (by omega)
    have z3 := hR.2.2.z h1 (by omega : i < 16) (j := 3) (by omega)
    refine r_iload dd_Sta_blockAt_11 rfl ?_
    refine r_iloadn dd_Sta_blockAt_13 rfl ?_
    refine r_icmp_ge dd_Sta_blockAt_14 (fun c_14 => ?_) (fun c_14 => ?_)
    · exfalso; omega
    · refine r_aloadn dd_Sta_blockAt_17 rfl ?_
      refine r_iload dd_Sta_blockAt_18 rfl ?_
      refine r_aald dd_Sta_blockAt_20 (q := 17) (by decide) vk_2 (by omega) (by show _ < ((16 : Nat) : Int); omega) (by first | exact R0_2 | exact R0_20 | exact R0_80 | exact R0_187 | exact R0_b (by assumption) | exact R0_t (by assumption)) ?_
      refine r_astore (L' := [_, _, _, _, _, _]) dd_Sta_blockAt_21 rfl rfl ?_
      refine r_aload dd_Sta_blockAt_23 rfl ?_
      refine r_iloadn dd_Sta_blockAt_25 rfl ?_
      refine r_V1W dd_Sta_blockAt_26 ml_Sta_173 ok_Blk_holds vi_Blk_holds (by first | assumption | exact vk_blk (by omega) (by omega) | exact vk_tsk (by omega) (by omega) | exact vk_cmd (by omega) (by omega)) (by decide) (clS rfl (Nat.le_refl _) (rmOK_self _ _)) rfl (c_Blk_holds (vk_blk h1 (by omega)) (by omega)) ?_
      refine r_if_eq_b dd_Sta_blockAt_29 (fun c_29 => ?_) (fun c_29 => ?_)
      · refine r_iinc (L' := [_, _, _, _, _, _]) dd_Sta_blockAt_35 rfl ⟨by omega, by omega⟩ rfl ?_
        refine r_goto dd_Sta_blockAt_38 ?_
        exact r_drop 5 (ih (i + 1) (by omega) (by omega))
      · exfalso; omega
theorem c_Sta_blockAt_s {μ : Int → Int → Int} {K : Int} {m : Int → Int} (hR : RI K μ m) {w j : Int} (j0 : 0 ≤ j ∧ j < 16) (hc : 4 * j ≤ w ∧ w < 4 * j + m (128 + 4 * j)) (hu : ∀ i, 0 ≤ i → i < 16 → 4 * i ≤ w → w < 4 * i + m (128 + 4 * i) → i = j) : MetC mi_Sta_blockAt [vR 1, vI w] (st μ) (some (vR (3 + j))) (st (μ)) := by
  refine met_of ?_ (Nat.le_of_ble_eq_true rfl) (by decide) trivial (by decide) (Nat.le_of_ble_eq_true rfl)
  show SPW mi_Sta_blockAt 219 0 [some (vR 1), some (vI w), none, none, none, none] [] (st μ) (some (vR (3 + j))) (st (μ))
  refine r_aloadn dd_Sta_blockAt_0 rfl ?_
  refine r_getR dd_Sta_blockAt_1 fl_Sta_11 (kI := 0) rfl fr_Sta_0 vk_1 R0_1_0 ?_
  refine r_astoren (L' := [_, _, _, _, _, _]) dd_Sta_blockAt_4 rfl rfl ?_
  refine r_aloadn dd_Sta_blockAt_5 rfl ?_
  refine r_alen dd_Sta_blockAt_6 (q := 17) (n := 16) (by decide) vk_2 rfl ⟨by decide, by decide⟩ ?_
  refine r_istoren (L' := [_, _, _, _, _, _]) dd_Sta_blockAt_7 rfl rfl ?_
  refine r_iconst dd_Sta_blockAt_8 ⟨by decide, by decide⟩ ?_
  refine r_istore (L' := [_, _, _, _, _, _]) dd_Sta_blockAt_9 rfl rfl ?_
  exact l_Sta_blockAt hR j0 hc hu 16 0 (by decide) (by decide) (by omega)
theorem c_Sta_blockAt_n {μ : Int → Int → Int} {K : Int} {m : Int → Int} (hR : RI K μ m) {w : Int} (hx : w < 0 ∨ 64 ≤ w) : MetC mi_Sta_blockAt [vR 1, vI w] (st μ) (some (vN)) (st (μ)) := by
  refine met_of ?_ (Nat.le_of_ble_eq_true rfl) (by decide) trivial (by decide) (Nat.le_of_ble_eq_true rfl)
  show SPW mi_Sta_blockAt 219 0 [some (vR 1), some (vI w), none, none, none, none] [] (st μ) (some (vN)) (st (μ))
  refine r_aloadn dd_Sta_blockAt_0 rfl ?_
  refine r_getR dd_Sta_blockAt_1 fl_Sta_11 (kI := 0) rfl fr_Sta_0 vk_1 R0_1_0 ?_
  refine r_astoren (L' := [_, _, _, _, _, _]) dd_Sta_blockAt_4 rfl rfl ?_
  refine r_aloadn dd_Sta_blockAt_5 rfl ?_
  refine r_alen dd_Sta_blockAt_6 (q := 17) (n := 16) (by decide) vk_2 rfl ⟨by decide, by decide⟩ ?_
  refine r_istoren (L' := [_, _, _, _, _, _]) dd_Sta_blockAt_7 rfl rfl ?_
  refine r_iconst dd_Sta_blockAt_8 ⟨by decide, by decide⟩ ?_
  refine r_istore (L' := [_, _, _, _, _, _]) dd_Sta_blockAt_9 rfl rfl ?_
  exact l_Sta_blockAtN hR hx 16 0 (by decide) (by decide)

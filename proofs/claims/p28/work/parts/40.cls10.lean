/-! the class: a block given back -/
def zC (μ : Int → Int → Int) (b j : Int) : Int → Int → Int := fun o k => if o = 19 ∧ b ≤ k ∧ k < b + j then 0 else μ o k
theorem zC_0 {μ : Int → Int → Int} {b : Int} : zC μ b 0 = μ := by
  funext o k
  exact if_neg (by omega)
theorem zC_s {μ : Int → Int → Int} {b j : Int} (h : 0 ≤ j) : upM (zC μ b j) 19 (b + j) 0 = zC μ b (j + 1) := by
  funext o k
  unfold upM zC
  by_cases h1 : o = 19 ∧ k = b + j
  · rw [if_pos h1, if_pos (by omega)]
  · rw [if_neg h1]
    by_cases h2 : o = 19 ∧ b ≤ k ∧ k < b + j
    · rw [if_pos h2, if_pos (by omega)]
    · rw [if_neg h2, if_neg (by omega)]
theorem zC_o {μ : Int → Int → Int} {b j o k : Int} (h : o ≠ 19) : zC μ b j o k = μ o k := if_neg (fun q => h q.1)
def f0C (μ : Int → Int → Int) (m : Int → Int) (i : Int) : Int → Int → Int := upM (zC (upM μ 1 8 (μ 1 8 + brkM m (4 * i))) (4 * i) (m (128 + 4 * i))) (3 + i) 2 (-1)
def frC (μ : Int → Int → Int) (m : Int → Int) (i : Int) : Int → Int → Int := joC (f0C μ m i) (fr0M m (4 * i)) i
theorem disj {K : Int} {m : Int → Int} (hW : MW K m) (hM : ML m) {i j x : Int} (i0 : 0 ≤ i ∧ i < 16) (j0 : 0 ≤ j ∧ j < 16) (hij : i ≠ j) (x0 : 0 ≤ x ∧ x < 64) (hx : 4 * i ≤ x ∧ x < 4 * i + m (128 + 4 * i)) : ¬ (4 * j ≤ x ∧ x < 4 * j + m (128 + 4 * j)) := by
  intro q
  obtain ⟨t, -, -, -, -, -, hu⟩ := tile hW hM x0.1 x0.2
  have a := hu i i0.1 i0.2 hx.1 hx.2
  have b := hu j j0.1 j0.2 q.1 q.2
  omega
theorem fr0_k {m : Int → Int} {b k : Int} (h1 : k ≠ 192 + b) (h2 : k ≠ 470) (h3 : ¬ ((b ≤ k ∧ k < b + m (128 + b)) ∨ (64 + b ≤ k ∧ k < 64 + b + m (128 + b)))) : fr0M m b k = m k := by
  unfold fr0M
  rw [up1_ne h1, clr_ne h3, up1_ne h2]
theorem fr0_z {m : Int → Int} {b k : Int} (h0 : 0 ≤ b) (hb : b + m (128 + b) ≤ 64) (h3 : (b ≤ k ∧ k < b + m (128 + b)) ∨ (64 + b ≤ k ∧ k < 64 + b + m (128 + b))) : fr0M m b k = 0 := by
  unfold fr0M
  rw [up1_ne (by omega)]
  exact if_pos h3
theorem fr0_n {m : Int → Int} {b : Int} : fr0M m b (192 + b) = -5 := up1_at
theorem fr0_f {m : Int → Int} {b : Int} (h0 : 0 ≤ b) (h1 : b < 64) (hb : b + m (128 + b) ≤ 64) : fr0M m b 470 = m 470 + brkM m b := by
  unfold fr0M
  rw [up1_ne (by omega), clr_ne (by omega), up1_at]
theorem RI_fr0 {K : Int} {μ : Int → Int → Int} {m : Int → Int} (hR : RI K μ m) (hK : K + 17 ≤ 500000000) {i : Int} (h0 : 0 ≤ i) (h1 : i < 16) (ho : owd m (4 * i)) : RI (K + 17) (f0C μ m i) (fr0M m (4 * i)) := by
  have hw := hR.2.1.1 (4 * i) (by omega) (by omega)
  have hb64 := hw.2.2.2.2.2.2.2
  have kk : ∀ k, 128 ≤ k → k ≠ 192 + 4 * i → k ≠ 470 → fr0M m (4 * i) k = m k := fun k a b c => fr0_k b c (by omega)
  have kn : fr0M m (4 * i) (192 + 4 * i) = -5 := fr0_n
  have kf : fr0M m (4 * i) 470 = m 470 + brkM m (4 * i) := fr0_f (by omega) (by omega) hb64
  refine ⟨?_, MW_fr0 hR.2.1 hK (by omega) (by omega), ?_⟩
  · have c1 : ∀ o k, o ≠ 3 + i → o ≠ 1 → o ≠ 19 → f0C μ m i o k = μ o k := fun o k a b c => by
      unfold f0C
      rw [upM_ne (Or.inl a), zC_o c, upM_ne (Or.inl b)]
    have ci : ∀ k, k ≠ 2 → f0C μ m i (3 + i) k = μ (3 + i) k := fun k a => by
      unfold f0C
      rw [upM_ne (Or.inr a), zC_o (by omega), upM_ne (by omega)]
    have ci2 : f0C μ m i (3 + i) 2 = -1 := by
      unfold f0C
      rw [upM_eq]
    have c8 : ∀ k, k ≠ 8 → f0C μ m i 1 k = μ 1 k := fun k a => by
      unfold f0C
      rw [upM_ne (by omega), zC_o (by omega), upM_ne (Or.inr a)]
    have c88 : f0C μ m i 1 8 = μ 1 8 + brkM m (4 * i) := by
      unfold f0C
      rw [upM_ne (by omega), zC_o (by omega), upM_eq]
    obtain ⟨rb, rv, rt, r3, r4, r5, r6, r7, r8⟩ := hR.1
    refine ⟨fun q q0 q1 => ?_, fun w w0 w1 => ?_, fun t t0 t1 => ?_, ?_, ?_, ?_, ?_, ?_, ?_⟩
    · rw [show (1 : Int) + 2 + q = 3 + q by omega]
      by_cases e : q = i
      · subst e
        have hb := hR.blk q0 q1
        refine ⟨by rw [ci 0 (by decide)]; exact hb.1, by rw [ci 1 (by decide)]; exact hb.2.1, by rw [ci 1 (by decide), kk _ (by omega) (by omega) (by omega)]; exact hb.2.2.1, fun z => absurd kn z.2, fun _ => ci2, by rw [ci 4 (by decide), kk _ (by omega) (by omega) (by omega)]; exact hb.2.2.2.2.2.1, by rw [ci 5 (by decide), kk _ (by omega) (by omega) (by omega)]; exact hb.2.2.2.2.2.2⟩
      · exact blk_keep (hR.blk q0 q1) (fun k => c1 _ _ (by omega) (by omega) (by omega)) (kk _ (by omega) (by omega) (by omega)) (kk _ (by omega) (by omega) (by omega)) (kk _ (by omega) (by omega) (by omega)) (kk _ (by omega) (by omega) (by omega)) (kk _ (by omega) (by omega) (by omega))
    · rw [show (1 : Int) + 18 = 19 by rfl]
      by_cases e : 4 * i ≤ w ∧ w < 4 * i + m (128 + 4 * i)
      · rw [fr0_z (by omega) hb64 (Or.inl e)]
        unfold f0C
        rw [upM_ne (by omega)]
        exact if_pos ⟨rfl, e⟩
      · rw [fr0_k (by omega) (by omega) (by omega)]
        unfold f0C
        rw [upM_ne (by omega)]
        unfold zC
        rw [if_neg (fun q => e q.2), upM_ne (by omega)]
        exact hR.val w0 w1
    · rw [show (1 : Int) + 20 + t = 21 + t by omega]
      exact tsk_keep (hR.tsk t0 t1) (fun k => c1 _ _ (by omega) (by omega) (by omega)) (kk _ (by omega) (by omega) (by omega)) (kk _ (by omega) (by omega) (by omega)) (kk _ (by omega) (by omega) (by omega))
    · rw [c8 3 (by decide), kk _ (by omega) (by omega) (by omega)]; exact r3
    · rw [c8 4 (by decide), kk _ (by omega) (by omega) (by omega)]; exact r4
    · rw [c8 5 (by decide), kk _ (by omega) (by omega) (by omega)]; exact r5
    · rw [c8 6 (by decide), kk _ (by omega) (by omega) (by omega)]; exact r6
    · rw [c8 7 (by decide), kk _ (by omega) (by omega) (by omega)]; exact r7
    · rw [c88, kf, r8]
  · obtain ⟨a1, a2, a3, a4⟩ := hR.2.2
    refine ⟨fun v v0 v1 v2 => ?_, fun c c0 c1 c2 => ?_, fun v v0 v1 v2 => ?_, fun v j v0 v1 v2 j0 j1 => ?_⟩
    · rw [kk _ (by omega) (by omega) (by omega)]
      exact a1 v v0 v1 v2
    · rw [kk _ (by omega) (by omega) (by omega), kk _ (by omega) (by omega) (by omega), kk _ (by omega) (by omega) (by omega), kk _ (by omega) (by omega) (by omega)]
      exact a2 c c0 c1 c2
    · have hne : v ≠ 4 * i := fun e => by subst e; exact v2.2 kn
      have e1 : fr0M m (4 * i) (128 + v) = m (128 + v) := kk _ (by omega) (by omega) (by omega)
      have e2 : fr0M m (4 * i) (192 + v) = m (192 + v) := kk _ (by omega) (by omega) (by omega)
      have hv : owd m v := ⟨by rw [← e1]; exact v2.1, by rw [← e2]; exact v2.2⟩
      have b := a3 v v0 v1 hv
      have b64 := (hR.2.1.1 v v0 v1).2.2.2.2.2.2.2
      have v4 : v % 4 = 0 := by
        by_cases q : v % 4 = 0
        · exact q
        · have := a1 v v0 v1 q
          omega
      obtain ⟨j, rfl⟩ : ∃ j, v = 4 * j := ⟨v / 4, by omega⟩
      have d1 := disj hR.2.1 hR.2.2 (i := j) (j := i) (x := 4 * j) ⟨by omega, by omega⟩ ⟨h0, h1⟩ (by omega) ⟨by omega, by omega⟩ ⟨by omega, by omega⟩
      have d2 := disj hR.2.1 hR.2.2 (i := j) (j := i) (x := 4 * j + m (320 + 4 * j) + 1) ⟨by omega, by omega⟩ ⟨h0, h1⟩ (by omega) ⟨by omega, by omega⟩ ⟨by omega, by omega⟩
      rw [kk (320 + 4 * j) (by omega) (by omega) (by omega), e1, fr0_k (k := 64 + 4 * j) (by omega) (by omega) (by omega), fr0_k (k := 4 * j) (by omega) (by omega) (by omega), fr0_k (k := 64 + 4 * j + m (320 + 4 * j) + 1) (by omega) (by omega) (by omega), fr0_k (k := 4 * j + m (320 + 4 * j) + 1) (by omega) (by omega) (by omega)]
      exact b
    · have e1 : fr0M m (4 * i) (128 + v) = m (128 + v) := kk _ (by omega) (by omega) (by omega)
      have b64 := (hR.2.1.1 v v0 v1).2.2.2.2.2.2.2
      rw [e1] at j1
      by_cases e : v = 4 * i
      · subst e
        exact ⟨fr0_z (by omega) hb64 (by omega), fr0_z (by omega) hb64 (by omega)⟩
      · have e2 : fr0M m (4 * i) (192 + v) = m (192 + v) := kk _ (by omega) (by omega) (by omega)
        have hv : fre m v := ⟨by rw [← e1]; exact v2.1, by rw [← e2]; exact v2.2⟩
        have v4 : v % 4 = 0 := by
          by_cases q : v % 4 = 0
          · exact q
          · have := a1 v v0 v1 q
            omega
        obtain ⟨t, rfl⟩ : ∃ t, v = 4 * t := ⟨v / 4, by omega⟩
        have d1 := disj hR.2.1 hR.2.2 (i := t) (j := i) (x := 4 * t + j) ⟨by omega, by omega⟩ ⟨h0, h1⟩ (by omega) ⟨by omega, by omega⟩ ⟨by omega, by omega⟩
        rw [fr0_k (k := 4 * t + j) (by omega) (by omega) (by omega), fr0_k (k := 64 + (4 * t + j)) (by omega) (by omega) (by omega)]
        exact a4 (4 * t) j v0 v1 hv j0 j1
theorem RI_fr {K : Int} {μ : Int → Int → Int} {m : Int → Int} (hR : RI K μ m) (hK : K + 19 ≤ 500000000) {i : Int} (h0 : 0 ≤ i) (h1 : i < 16) (ho : owd m (4 * i)) : RI (K + 19) (frC μ m i) (frM m (4 * i)) := by
  have h := RI_jo (RI_fr0 hR (by omega) h0 h1 ho) (by omega) h0 h1
  rw [show K + 17 + 2 = K + 19 by omega] at h
  exact h

theorem l_Sta_free {μ : Int → Int → Int} {i b nn z : Int} {F : Int → Int → Int} (h0 : 0 ≤ i) (h1 : i < 16) (hb : 0 ≤ b ∧ b + z ≤ 64) (hJ : MetC mi_Sta_joinTwins [vR 1, vR (3 + i)] (st (upM (zC μ b z) (3 + i) 2 (-1))) none (st F)) : ∀ (n : Nat) (j : Int), (j + n = z) → (0 ≤ j) → SPW mi_Sta_free 219 32 [some (vR 1), some (vR (3 + i)), some (vI nn), some (vI (b + z)), some (vI (b + j))] [] (st (zC μ b j)) (some (vI nn)) (st (F)) := by
  intro n
  induction n with
  | zero =>
    intro j g0 g1
    refine r_iload dd_Sta_free_32 rfl ?_
    refine r_iloadn dd_Sta_free_34 rfl ?_
    refine r_icmp_ge dd_Sta_free_35 (fun c_35 => ?_) (fun c_35 => ?_)
    · rw [show j = z by omega]
      refine r_aloadn dd_Sta_free_51 rfl ?_
      refine r_iconst dd_Sta_free_52 ⟨by decide, by decide⟩ ?_
      refine r_putI dd_Sta_free_53 fl_Sta_75 (kI := 2) rfl fc_Blk_2 ff_Blk_2 (pi_Blk_2 _) (vk_blk h0 h1) ?_
      refine r_aloadn dd_Sta_free_56 rfl ?_
      refine r_aloadn dd_Sta_free_57 rfl ?_
      refine r_V1N dd_Sta_free_58 ml_Sta_166 ok_Sta_joinTwins vi_Sta_joinTwins vk_1 (by decide) (clS rfl (Nat.le_refl _) (rmOK_self _ _)) rfl hJ ?_
      refine r_iloadn dd_Sta_free_61 rfl ?_
      exact r_retI dd_Sta_free_62 (by first | rfl | omega | exact (b2_t (by first | assumption | omega)).symm | exact (b2_f (by first | assumption | omega)).symm) rfl
    · exfalso; omega
  | succ n ih =>
    intro j g0 g1
    refine r_iload dd_Sta_free_32 rfl ?_
    refine r_iloadn dd_Sta_free_34 rfl ?_
    refine r_icmp_ge dd_Sta_free_35 (fun c_35 => ?_) (fun c_35 => ?_)
    · exfalso; omega
    · refine r_aloadn dd_Sta_free_38 rfl ?_
      refine r_iload dd_Sta_free_39 rfl ?_
      refine r_iconst dd_Sta_free_41 ⟨by decide, by decide⟩ ?_
      refine r_V2N dd_Sta_free_42 ml_Sta_118 ok_Sta_setValue vi_Sta_setValue vk_1 (by decide) (clS rfl (Nat.le_refl _) (rmOK_self _ _)) rfl (c_Sta_setValue ⟨by omega, by omega⟩) ?_
      refine r_iinc (L' := [_, _, _, _, _]) dd_Sta_free_45 rfl ⟨by omega, by omega⟩ rfl ?_
      refine r_goto dd_Sta_free_48 ?_
      refine r_to ?_ (r_loc (ih (j + 1) (by omega) (by omega)) (by rw [Int.add_assoc]))
      rw [zC_s g1]
theorem c_Sta_free {μ : Int → Int → Int} {K : Int} {m : Int → Int} (hR : RI K μ m) (hK : K + 20 ≤ 500000000){i : Int} (h0 : 0 ≤ i) (h1 : i < 16) (ho : owd m (4 * i)) : MetC mi_Sta_free [vR 1, vR (3 + i)] (st μ) (some (vI (brkM m (4 * i)))) (st (frC μ m i)) := by
  refine met_of ?_ (Nat.le_of_ble_eq_true rfl) (by decide) trivial (by decide) (Nat.le_of_ble_eq_true rfl)
  show SPW mi_Sta_free 219 0 [some (vR 1), some (vR (3 + i)), none, none, none] [] (st μ) (some (vI (brkM m (4 * i)))) (st (frC μ m i))
  have hb := hR.blk h0 h1
  have hw := hR.2.1.1 (4 * i) (by omega) (by omega)
  have hk := brkM_rg hR.2.1 (b := 4 * i) (by omega) (by omega)
  have h8 : μ 1 8 = m 470 := hR.1.2.2.2.2.2.2.2.2
  have hf := hR.2.1.2.2.2.2.2.2.1
  have hr0 := RI_fr0 hR (by omega) h0 h1 ho
  have e1 : fr0M m (4 * i) (128 + 4 * i) = m (128 + 4 * i) := fr0_sz (by omega) (by omega) ho.1
  have hJ : MetC mi_Sta_joinTwins [vR 1, vR (3 + i)] (st (f0C μ m i)) none (st (frC μ m i)) := jt_w hr0 (by omega) h0 h1 (by rw [e1]; exact ho.1) fr0_n
  refine r_aloadn dd_Sta_free_0 rfl ?_
  refine r_aloadn dd_Sta_free_1 rfl ?_
  refine r_V1W dd_Sta_free_2 ml_Sta_163 ok_Sta_brokenGuards vi_Sta_brokenGuards vk_1 (by decide) (clS rfl (Nat.le_refl _) (rmOK_self _ _)) rfl (c_Sta_brokenGuards hR h0 h1 ho) ?_
  refine r_istoren (L' := [_, _, _, _, _]) dd_Sta_free_5 rfl rfl ?_
  refine r_aloadn dd_Sta_free_6 rfl ?_
  refine r_dup dd_Sta_free_7 ?_
  refine r_getI dd_Sta_free_8 fl_Sta_60 (kI := 8) rfl fi_Sta_8 vk_1 ?_
  refine r_iloadn dd_Sta_free_11 rfl ?_
  refine r_iadd dd_Sta_free_12 ⟨by omega, by omega⟩ ?_
  refine r_putI dd_Sta_free_13 fl_Sta_60 (kI := 8) rfl fc_Sta_8 ff_Sta_8 (pi_Sta_8 _) vk_1 ?_
  refine r_aloadn dd_Sta_free_16 rfl ?_
  refine r_getI dd_Sta_free_17 fl_Sta_98 (kI := 0) rfl fi_Blk_0 (vk_blk h0 h1) ?_
  rw [upM_ne (Or.inl (by omega)), hb.1]
  refine r_aloadn dd_Sta_free_20 rfl ?_
  refine r_V0W dd_Sta_free_21 ml_Sta_157 ok_Blk_words vi_Blk_words (by first | assumption | exact vk_blk (by omega) (by omega) | exact vk_tsk (by omega) (by omega) | exact vk_cmd (by omega) (by omega)) (by decide) (clS rfl (Nat.le_refl _) (rmOK_self _ _)) rfl (c_Blk_words (vk_blk h0 h1)) ?_
  rw [upM_ne (Or.inl (by omega)), hb.2.2.1]
  refine r_iadd dd_Sta_free_24 ⟨by omega, by omega⟩ ?_
  refine r_istoren (L' := [_, _, _, _, _]) dd_Sta_free_25 rfl rfl ?_
  refine r_aloadn dd_Sta_free_26 rfl ?_
  refine r_getI dd_Sta_free_27 fl_Sta_98 (kI := 0) rfl fi_Blk_0 (vk_blk h0 h1) ?_
  rw [upM_ne (Or.inl (by omega)), hb.1]
  refine r_istore (L' := [_, _, _, _, _]) dd_Sta_free_30 rfl rfl ?_
  have k2 := l_Sta_free (μ := upM μ 1 8 (μ 1 8 + brkM m (4 * i))) (i := i) (b := 4 * i) (nn := brkM m (4 * i)) (z := m (128 + 4 * i)) (F := frC μ m i) h0 h1 (by omega) hJ (m (128 + 4 * i)).toNat 0 (by omega) (Int.le_refl 0)
  rw [zC_0, Int.add_zero] at k2
  exact k2
theorem c_Sta_takeBack_e {μ : Int → Int → Int} {K : Int} {m : Int → Int} (hR : RI K μ m) {t b : Int} (h : bkFM m t b ≠ 0) : MetC mi_Sta_takeBack [vR 1, vI t, vI b] (st μ) (some (vI (bkFM m t b))) (st (μ)) := by
  refine met_of ?_ (Nat.le_of_ble_eq_true rfl) (by decide) trivial (by decide) (Nat.le_of_ble_eq_true rfl)
  show SPW mi_Sta_takeBack 219 0 [some (vR 1), some (vI t), some (vI b), none] [] (st μ) (some (vI (bkFM m t b))) (st (μ))
  rcases (show ((t < 0 ∨ 6 ≤ t) ∧ begOf m b = -5) ∨ ((0 ≤ t ∧ t < 6) ∧ begOf m b = -5) ∨ ((t < 0 ∨ 6 ≤ t) ∧ begOf m b ≠ -5) ∨ ((0 ≤ t ∧ t < 6) ∧ begOf m b ≠ -5) by omega) with ⟨h1, h2⟩ | ⟨h1, h2⟩ | ⟨h1, h2⟩ | ⟨h1, h2⟩
  · refine r_aloadn dd_Sta_takeBack_0 rfl ?_
    refine r_iloadn dd_Sta_takeBack_1 rfl ?_
    refine r_V1W dd_Sta_takeBack_2 ml_Sta_87 ok_Sta_blockOf vi_Sta_blockOf vk_1 (by decide) (clS rfl (Nat.le_refl _) (rmOK_self _ _)) rfl (c_Sta_blockOf_n hR h2) ?_
    refine r_astoren (L' := [_, _, _, _]) dd_Sta_takeBack_5 rfl rfl ?_
    refine r_aloadn dd_Sta_takeBack_6 rfl ?_
    refine r_iloadn dd_Sta_takeBack_7 rfl ?_
    refine r_V1W dd_Sta_takeBack_8 ml_Sta_90 ok_Sta_taskOf vi_Sta_taskOf vk_1 (by decide) (clS rfl (Nat.le_refl _) (rmOK_self _ _)) rfl (c_Sta_taskOf_n (by omega)) ?_
    refine r_ifnullN dd_Sta_takeBack_11 ?_
    refine r_iconst dd_Sta_takeBack_18 ⟨by decide, by decide⟩ ?_
    exact r_retI dd_Sta_takeBack_19 (by unfold bkFM; (repeat (first | rw [if_pos (by omega)] | rw [if_neg (by omega)])); first | done | omega | (congr 1; omega) | exact (b2_t (by first | assumption | omega)).symm | exact (b2_f (by first | assumption | omega)).symm) rfl
  · refine r_aloadn dd_Sta_takeBack_0 rfl ?_
    refine r_iloadn dd_Sta_takeBack_1 rfl ?_
    refine r_V1W dd_Sta_takeBack_2 ml_Sta_87 ok_Sta_blockOf vi_Sta_blockOf vk_1 (by decide) (clS rfl (Nat.le_refl _) (rmOK_self _ _)) rfl (c_Sta_blockOf_n hR h2) ?_
    refine r_astoren (L' := [_, _, _, _]) dd_Sta_takeBack_5 rfl rfl ?_
    refine r_aloadn dd_Sta_takeBack_6 rfl ?_
    refine r_iloadn dd_Sta_takeBack_7 rfl ?_
    refine r_V1W dd_Sta_takeBack_8 ml_Sta_90 ok_Sta_taskOf vi_Sta_taskOf vk_1 (by decide) (clS rfl (Nat.le_refl _) (rmOK_self _ _)) rfl (c_Sta_taskOf_s (by omega)) ?_
    refine r_ifnullR dd_Sta_takeBack_11 ?_
    refine r_aloadn dd_Sta_takeBack_14 rfl ?_
    refine r_ifnonnullN dd_Sta_takeBack_15 ?_
    refine r_iconst dd_Sta_takeBack_18 ⟨by decide, by decide⟩ ?_
    exact r_retI dd_Sta_takeBack_19 (by unfold bkFM; (repeat (first | rw [if_pos (by omega)] | rw [if_neg (by omega)])); first | done | omega | (congr 1; omega) | exact (b2_t (by first | assumption | omega)).symm | exact (b2_f (by first | assumption | omega)).symm) rfl
  · obtain ⟨j, hj, j0, j1, ho, hn⟩ := begOf_4 hR.2.2 h2
    have hbj := hR.blk j0 j1
    refine r_aloadn dd_Sta_takeBack_0 rfl ?_
    refine r_iloadn dd_Sta_takeBack_1 rfl ?_
    refine r_V1W dd_Sta_takeBack_2 ml_Sta_87 ok_Sta_blockOf vi_Sta_blockOf vk_1 (by decide) (clS rfl (Nat.le_refl _) (rmOK_self _ _)) rfl (c_Sta_blockOf_s hR hj j0) ?_
    refine r_astoren (L' := [_, _, _, _]) dd_Sta_takeBack_5 rfl rfl ?_
    refine r_aloadn dd_Sta_takeBack_6 rfl ?_
    refine r_iloadn dd_Sta_takeBack_7 rfl ?_
    refine r_V1W dd_Sta_takeBack_8 ml_Sta_90 ok_Sta_taskOf vi_Sta_taskOf vk_1 (by decide) (clS rfl (Nat.le_refl _) (rmOK_self _ _)) rfl (c_Sta_taskOf_n (by omega)) ?_
    refine r_ifnullN dd_Sta_takeBack_11 ?_
    refine r_iconst dd_Sta_takeBack_18 ⟨by decide, by decide⟩ ?_
    exact r_retI dd_Sta_takeBack_19 (by unfold bkFM; (repeat (first | rw [if_pos (by omega)] | rw [if_neg (by omega)])); first | done | omega | (congr 1; omega) | exact (b2_t (by first | assumption | omega)).symm | exact (b2_f (by first | assumption | omega)).symm) rfl
  · obtain ⟨j, hj, j0, j1, ho, hn⟩ := begOf_4 hR.2.2 h2
    have hbj := hR.blk j0 j1
    have hoj := hbj.2.2.2.1 ho
    have hc := bkFM_c m t b
    rw [hj] at hc
    refine r_aloadn dd_Sta_takeBack_0 rfl ?_
    refine r_iloadn dd_Sta_takeBack_1 rfl ?_
    refine r_V1W dd_Sta_takeBack_2 ml_Sta_87 ok_Sta_blockOf vi_Sta_blockOf vk_1 (by decide) (clS rfl (Nat.le_refl _) (rmOK_self _ _)) rfl (c_Sta_blockOf_s hR hj j0) ?_
    refine r_astoren (L' := [_, _, _, _]) dd_Sta_takeBack_5 rfl rfl ?_
    refine r_aloadn dd_Sta_takeBack_6 rfl ?_
    refine r_iloadn dd_Sta_takeBack_7 rfl ?_
    refine r_V1W dd_Sta_takeBack_8 ml_Sta_90 ok_Sta_taskOf vi_Sta_taskOf vk_1 (by decide) (clS rfl (Nat.le_refl _) (rmOK_self _ _)) rfl (c_Sta_taskOf_s (by omega)) ?_
    refine r_ifnullR dd_Sta_takeBack_11 ?_
    refine r_aloadn dd_Sta_takeBack_14 rfl ?_
    refine r_ifnonnullR dd_Sta_takeBack_15 ?_
    refine r_aloadn dd_Sta_takeBack_20 rfl ?_
    refine r_getI dd_Sta_takeBack_21 fl_Sta_75 (kI := 2) rfl fi_Blk_2 (vk_blk j0 j1) ?_
    refine r_iloadn dd_Sta_takeBack_24 rfl ?_
    refine r_icmp_eq dd_Sta_takeBack_25 (fun c_25 => ?_) (fun c_25 => ?_)
    · exfalso; unfold bkFM at h; rw [if_neg (by omega), hj, if_neg (by omega)] at h; exact h rfl
    · refine r_bip dd_Sta_takeBack_28 ⟨by decide, by decide⟩ ?_
      exact r_retI dd_Sta_takeBack_30 (by unfold bkFM; rw [if_neg (by omega), hj, if_pos (by omega)]) rfl
theorem c_Sta_takeBack_o {μ : Int → Int → Int} {K : Int} {m : Int → Int} (hR : RI K μ m) (hK : K + 20 ≤ 500000000) {t b j : Int} (h : bkFM m t b = 0) (hj : begOf m b = 4 * j) (j0 : 0 ≤ j) (j1 : j < 16) (ho : owd m (4 * j)) : MetC mi_Sta_takeBack [vR 1, vI t, vI b] (st μ) (some (vI (brkM m (4 * j)))) (st (frC μ m j)) := by
  refine met_of ?_ (Nat.le_of_ble_eq_true rfl) (by decide) trivial (by decide) (Nat.le_of_ble_eq_true rfl)
  show SPW mi_Sta_takeBack 219 0 [some (vR 1), some (vI t), some (vI b), none] [] (st μ) (some (vI (brkM m (4 * j)))) (st (frC μ m j))
  have hc := bkFM_c m t b
  rw [hj] at hc
  have hbj := hR.blk j0 j1
  have hoj := hbj.2.2.2.1 ho
  refine r_aloadn dd_Sta_takeBack_0 rfl ?_
  refine r_iloadn dd_Sta_takeBack_1 rfl ?_
  refine r_V1W dd_Sta_takeBack_2 ml_Sta_87 ok_Sta_blockOf vi_Sta_blockOf vk_1 (by decide) (clS rfl (Nat.le_refl _) (rmOK_self _ _)) rfl (c_Sta_blockOf_s hR hj j0) ?_
  refine r_astoren (L' := [_, _, _, _]) dd_Sta_takeBack_5 rfl rfl ?_
  refine r_aloadn dd_Sta_takeBack_6 rfl ?_
  refine r_iloadn dd_Sta_takeBack_7 rfl ?_
  refine r_V1W dd_Sta_takeBack_8 ml_Sta_90 ok_Sta_taskOf vi_Sta_taskOf vk_1 (by decide) (clS rfl (Nat.le_refl _) (rmOK_self _ _)) rfl (c_Sta_taskOf_s (by omega)) ?_
  refine r_ifnullR dd_Sta_takeBack_11 ?_
  refine r_aloadn dd_Sta_takeBack_14 rfl ?_
  refine r_ifnonnullR dd_Sta_takeBack_15 ?_
  refine r_aloadn dd_Sta_takeBack_20 rfl ?_
  refine r_getI dd_Sta_takeBack_21 fl_Sta_75 (kI := 2) rfl fi_Blk_2 (vk_blk j0 j1) ?_
  refine r_iloadn dd_Sta_takeBack_24 rfl ?_
  refine r_icmp_eq dd_Sta_takeBack_25 (fun c_25 => ?_) (fun c_25 => ?_)
  · refine r_aloadn dd_Sta_takeBack_31 rfl ?_
    refine r_aloadn dd_Sta_takeBack_32 rfl ?_
    refine r_V1W dd_Sta_takeBack_33 ml_Sta_94 ok_Sta_free vi_Sta_free vk_1 (by decide) (clS rfl (Nat.le_refl _) (rmOK_self _ _)) rfl (c_Sta_free hR hK j0 j1 ho) ?_
    exact r_retI dd_Sta_takeBack_36 (by first | rfl | omega | exact (b2_t (by first | assumption | omega)).symm | exact (b2_f (by first | assumption | omega)).symm) rfl
  · exfalso; omega

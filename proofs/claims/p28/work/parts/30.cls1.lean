/-! the class: blocks; the row of numbers that describes a State -/
def wz (s : Int) : Int := if s < 0 ∨ 3 ≤ s then 0 else p4 s
theorem wz_rg (s : Int) : (wz s = 0 ∧ (s < 0 ∨ 3 ≤ s)) ∨ (wz s = 4 ∧ s = 0) ∨ (wz s = 8 ∧ s = 1) ∨ (wz s = 16 ∧ s = 2) := by
  unfold wz
  by_cases h : s < 0 ∨ 3 ≤ s
  · rw [if_pos h]
    exact Or.inl ⟨rfl, h⟩
  · rw [if_neg h]
    rcases (show s = 0 ∨ s = 1 ∨ s = 2 by omega) with rfl | rfl | rfl
    · exact Or.inr (Or.inl ⟨rfl, rfl⟩)
    · exact Or.inr (Or.inr (Or.inl ⟨rfl, rfl⟩))
    · exact Or.inr (Or.inr (Or.inr ⟨rfl, rfl⟩))
/-- the block at place i, as object o -/
abbrev blkR (μ : Int → Int → Int) (o i : Int) (m : Int → Int) : Prop :=
  μ o 0 = 4 * i ∧ (-1 ≤ μ o 1 ∧ μ o 1 ≤ 2) ∧ wz (μ o 1) = m (128 + 4 * i) ∧ (owd m (4 * i) → μ o 2 = m (256 + 4 * i) ∧ μ o 3 = m (192 + 4 * i)) ∧ (¬ owd m (4 * i) → μ o 2 = -1) ∧ μ o 4 = m (320 + 4 * i) ∧ μ o 5 = m (384 + 4 * i)
abbrev tskR (μ : Int → Int → Int) (o t : Int) (m : Int → Int) : Prop := μ o 0 = 1 - m (448 + t) ∧ μ o 1 = m (454 + t) ∧ μ o 2 = m (460 + t)
/-- the State at b is what the row m says -/
def RS (μ : Int → Int → Int) (b : Int) (m : Int → Int) : Prop :=
  (∀ i, 0 ≤ i → i < 16 → blkR μ (b + 2 + i) i m) ∧ (∀ w, 0 ≤ w → w < 64 → μ (b + 18) w = m w) ∧ (∀ t, 0 ≤ t → t < 6 → tskR μ (b + 20 + t) t m) ∧
  μ b 3 = m 466 ∧ μ b 4 = m 467 ∧ μ b 5 = m 471 ∧ μ b 6 = m 468 ∧ μ b 7 = m 469 ∧ μ b 8 = m 470
def pat (a b c d : Int) : Prop := (a = 16 ∧ b = 0 ∧ c = 0 ∧ d = 0) ∨ (a = 8 ∧ b = 0 ∧ c = 8 ∧ d = 0) ∨ (a = 4 ∧ b = 4 ∧ c = 8 ∧ d = 0) ∨ (a = 8 ∧ b = 0 ∧ c = 4 ∧ d = 4) ∨ (a = 4 ∧ b = 4 ∧ c = 4 ∧ d = 4)
/-- how blocks lie, what a free one holds, which guards are broken -/
def ML (m : Int → Int) : Prop :=
  (∀ w, 0 ≤ w → w < 64 → w % 4 ≠ 0 → m (128 + w) = 0) ∧
  (∀ c, 0 ≤ c → c < 64 → c % 16 = 0 → pat (m (128 + c)) (m (132 + c)) (m (136 + c)) (m (140 + c))) ∧
  (∀ w, 0 ≤ w → w < 64 → owd m w → 1 ≤ m (320 + w) ∧ m (320 + w) + 2 ≤ m (128 + w) ∧ m (64 + w) = b2 (m w ≠ 0) ∧ m (64 + w + m (320 + w) + 1) = b2 (m (w + m (320 + w) + 1) ≠ 0)) ∧
  (∀ w j, 0 ≤ w → w < 64 → fre m w → 0 ≤ j → j < m (128 + w) → m (w + j) = 0 ∧ m (64 + (w + j)) = 0)
abbrev RI (K : Int) (μ : Int → Int → Int) (m : Int → Int) : Prop := RS μ 1 m ∧ MW K m ∧ ML m
theorem RI.blk {K : Int} {μ : Int → Int → Int} {m : Int → Int} (h : RI K μ m) {i : Int} (h0 : 0 ≤ i) (h1 : i < 16) : blkR μ (3 + i) i m := h.1.1 i h0 h1
theorem RI.tsk {K : Int} {μ : Int → Int → Int} {m : Int → Int} (h : RI K μ m) {t : Int} (h0 : 0 ≤ t) (h1 : t < 6) : tskR μ (21 + t) t m := h.1.2.2.1 t h0 h1
theorem RI.val {K : Int} {μ : Int → Int → Int} {m : Int → Int} (h : RI K μ m) {w : Int} (h0 : 0 ≤ w) (h1 : w < 64) : μ 19 w = m w := h.1.2.1 w h0 h1
theorem RI.own {K : Int} {μ : Int → Int → Int} {m : Int → Int} (h : RI K μ m) {i : Int} (h0 : 0 ≤ i) (h1 : i < 16) : (owd m (4 * i) ∧ 0 ≤ μ (3 + i) 2 ∧ μ (3 + i) 2 ≤ 5) ∨ (¬ owd m (4 * i) ∧ μ (3 + i) 2 = -1) := by
  have hb := h.blk h0 h1
  have hw := h.2.1.1 (4 * i) (by omega) (by omega)
  by_cases ho : owd m (4 * i)
  · have := (hb.2.2.2.1 ho).1
    exact Or.inl ⟨ho, by omega, by omega⟩
  · exact Or.inr ⟨ho, hb.2.2.2.2.1 ho⟩
theorem sumF4 {f : Int → Int} {n : Nat} {i : Int} (h1 : f (4 * i + 1) = 0) (h2 : f (4 * i + 2) = 0) (h3 : f (4 * i + 3) = 0) : sumF (4 * (n + 1)) (4 * i) f = f (4 * i) + sumF (4 * n) (4 * (i + 1)) f := by
  rw [show 4 * (n + 1) = 4 * n + 3 + 1 by omega, sumF_s, sumF_s, sumF_s, sumF_s, h1, show 4 * i + 1 + 1 = 4 * i + 2 by omega, h2, show 4 * i + 2 + 1 = 4 * i + 3 by omega, h3, show 4 * i + 3 + 1 = 4 * (i + 1) by omega]
  omega
theorem fstF4 {p : Int → Prop} [DecidablePred p] {n : Nat} {i : Int} (h1 : ¬ p (4 * i + 1)) (h2 : ¬ p (4 * i + 2)) (h3 : ¬ p (4 * i + 3)) (h : ¬ p (4 * i)) : fstF p (4 * (n + 1)) (4 * i) = fstF p (4 * n) (4 * (i + 1)) := by
  rw [show 4 * (n + 1) = 4 * n + 3 + 1 by omega, fstF_n h, fstF_n h1, show 4 * i + 1 + 1 = 4 * i + 2 by omega, fstF_n h2, show 4 * i + 2 + 1 = 4 * i + 3 by omega, fstF_n h3, show 4 * i + 3 + 1 = 4 * (i + 1) by omega]
theorem fstF4y {p : Int → Prop} [DecidablePred p] {n : Nat} {i : Int} (h : p (4 * i)) : fstF p (4 * (n + 1)) (4 * i) = 4 * i := by
  rw [show 4 * (n + 1) = 4 * n + 3 + 1 by omega, fstF_y h]
theorem fstF_dec {p : Int → Prop} [DecidablePred p] {n : Nat} {k : Int} (d : DecidablePred p) : @fstF p d n k = fstF p n k := by
  have : d = ‹DecidablePred p› := Subsingleton.elim _ _
  rw [this]
theorem ML.z {m : Int → Int} (h : ML m) {i j : Int} (h0 : 0 ≤ i) (h1 : i < 16) (hj : j = 1 ∨ j = 2 ∨ j = 3) : m (128 + (4 * i + j)) = 0 := h.1 (4 * i + j) (by omega) (by omega) (by omega)

theorem c_Blk_wordsOf {μ : Int → Int → Int} {s : Int} : MetC mi_Blk_wordsOf [vI s] (st μ) (some (vI (wz s))) (st (μ)) := by
  refine met_of ?_ (Nat.le_of_ble_eq_true rfl) (by decide) trivial (by decide) (Nat.le_of_ble_eq_true rfl)
  show SPW mi_Blk_wordsOf 219 0 [some (vI s)] [] (st μ) (some (vI (wz s))) (st (μ))
  refine r_iloadn dd_Blk_wordsOf_0 rfl ?_
  refine r_if_lt dd_Blk_wordsOf_1 (fun c_1 => ?_) (fun c_1 => ?_)
  · refine r_iconst dd_Blk_wordsOf_9 ⟨by decide, by decide⟩ ?_
    refine r_goto dd_Blk_wordsOf_10 ?_
    exact r_retI dd_Blk_wordsOf_16 (by unfold wz; first | rw [if_pos (by omega)] | rw [if_neg (by omega)]) rfl
  · refine r_iloadn dd_Blk_wordsOf_4 rfl ?_
    refine r_iconst dd_Blk_wordsOf_5 ⟨by decide, by decide⟩ ?_
    refine r_icmp_lt dd_Blk_wordsOf_6 (fun c_6 => ?_) (fun c_6 => ?_)
    · refine r_iconst dd_Blk_wordsOf_13 ⟨by decide, by decide⟩ ?_
      refine r_iloadn dd_Blk_wordsOf_14 rfl ?_
      refine r_shl4 dd_Blk_wordsOf_15 (by omega) ?_
      exact r_retI dd_Blk_wordsOf_16 (by unfold wz; first | rw [if_pos (by omega)] | rw [if_neg (by omega)]) rfl
    · refine r_iconst dd_Blk_wordsOf_9 ⟨by decide, by decide⟩ ?_
      refine r_goto dd_Blk_wordsOf_10 ?_
      exact r_retI dd_Blk_wordsOf_16 (by unfold wz; first | rw [if_pos (by omega)] | rw [if_neg (by omega)]) rfl
theorem c_Blk_words {μ : Int → Int → Int} {o : Int} (hv : vk 219 o 0)  : MetC mi_Blk_words [vR (o)] (st μ) (some (vI (wz (μ o 1)))) (st (μ)) := by
  refine met_of ?_ (Nat.le_of_ble_eq_true rfl) (by decide) trivial (by decide) (Nat.le_of_ble_eq_true rfl)
  show SPW mi_Blk_words 219 0 [some (vR (o))] [] (st μ) (some (vI (wz (μ o 1)))) (st (μ))
  refine r_aloadn dd_Blk_words_0 rfl ?_
  refine r_getI dd_Blk_words_1 fl_Blk_15 (kI := 1) rfl fi_Blk_1 (by first | assumption | exact vk_blk (by omega) (by omega) | exact vk_tsk (by omega) (by omega) | exact vk_cmd (by omega) (by omega)) ?_
  refine r_S1W dd_Blk_words_4 ml_Blk_30 ok_Blk_wordsOf st_Blk_wordsOf (clS rfl (Nat.le_refl _) (rmOK_self _ _)) rfl c_Blk_wordsOf ?_
  exact r_retI dd_Blk_words_7 (by first | rfl | omega | exact (b2_t (by first | assumption | omega)).symm | exact (b2_f (by first | assumption | omega)).symm) rfl
theorem c_Blk_isOwned {μ : Int → Int → Int} {o : Int} (hv : vk 219 o 0)  : MetC mi_Blk_isOwned [vR (o)] (st μ) (some (vI (b2 (μ o 2 ≠ -1)))) (st (μ)) := by
  refine met_of ?_ (Nat.le_of_ble_eq_true rfl) (by decide) b2_01 (by decide) (Nat.le_of_ble_eq_true rfl)
  show SPW mi_Blk_isOwned 219 0 [some (vR (o))] [] (st μ) (some (vI (b2 (μ o 2 ≠ -1)))) (st (μ))
  refine r_aloadn dd_Blk_isOwned_0 rfl ?_
  refine r_getI dd_Blk_isOwned_1 fl_Blk_18 (kI := 2) rfl fi_Blk_2 (by first | assumption | exact vk_blk (by omega) (by omega) | exact vk_tsk (by omega) (by omega) | exact vk_cmd (by omega) (by omega)) ?_
  refine r_iconst dd_Blk_isOwned_4 ⟨by decide, by decide⟩ ?_
  refine r_icmp_eq dd_Blk_isOwned_5 (fun c_5 => ?_) (fun c_5 => ?_)
  · refine r_iconst dd_Blk_isOwned_12 ⟨by decide, by decide⟩ ?_
    exact r_retI dd_Blk_isOwned_13 (by first | rfl | omega | exact (b2_t (by first | assumption | omega)).symm | exact (b2_f (by first | assumption | omega)).symm) rfl
  · refine r_iconst dd_Blk_isOwned_8 ⟨by decide, by decide⟩ ?_
    refine r_goto dd_Blk_isOwned_9 ?_
    exact r_retI dd_Blk_isOwned_13 (by first | rfl | omega | exact (b2_t (by first | assumption | omega)).symm | exact (b2_f (by first | assumption | omega)).symm) rfl
theorem c_Blk_isFreeOf {μ : Int → Int → Int} {o : Int} (hv : vk 219 o 0) {s : Int} : MetC mi_Blk_isFreeOf [vR (o), vI s] (st μ) (some (vI (b2 (μ o 1 = s ∧ μ o 2 = -1)))) (st (μ)) := by
  refine met_of ?_ (Nat.le_of_ble_eq_true rfl) (by decide) b2_01 (by decide) (Nat.le_of_ble_eq_true rfl)
  show SPW mi_Blk_isFreeOf 219 0 [some (vR (o)), some (vI s)] [] (st μ) (some (vI (b2 (μ o 1 = s ∧ μ o 2 = -1)))) (st (μ))
  refine r_aloadn dd_Blk_isFreeOf_0 rfl ?_
  refine r_getI dd_Blk_isFreeOf_1 fl_Blk_15 (kI := 1) rfl fi_Blk_1 (by first | assumption | exact vk_blk (by omega) (by omega) | exact vk_tsk (by omega) (by omega) | exact vk_cmd (by omega) (by omega)) ?_
  refine r_iloadn dd_Blk_isFreeOf_4 rfl ?_
  refine r_icmp_ne dd_Blk_isFreeOf_5 (fun c_5 => ?_) (fun c_5 => ?_)
  · refine r_iconst dd_Blk_isFreeOf_20 ⟨by decide, by decide⟩ ?_
    exact r_retI dd_Blk_isFreeOf_21 (by first | rfl | omega | exact (b2_t (by first | assumption | omega)).symm | exact (b2_f (by first | assumption | omega)).symm) rfl
  · refine r_aloadn dd_Blk_isFreeOf_8 rfl ?_
    refine r_getI dd_Blk_isFreeOf_9 fl_Blk_18 (kI := 2) rfl fi_Blk_2 (by first | assumption | exact vk_blk (by omega) (by omega) | exact vk_tsk (by omega) (by omega) | exact vk_cmd (by omega) (by omega)) ?_
    refine r_iconst dd_Blk_isFreeOf_12 ⟨by decide, by decide⟩ ?_
    refine r_icmp_ne dd_Blk_isFreeOf_13 (fun c_13 => ?_) (fun c_13 => ?_)
    · refine r_iconst dd_Blk_isFreeOf_20 ⟨by decide, by decide⟩ ?_
      exact r_retI dd_Blk_isFreeOf_21 (by first | rfl | omega | exact (b2_t (by first | assumption | omega)).symm | exact (b2_f (by first | assumption | omega)).symm) rfl
    · refine r_iconst dd_Blk_isFreeOf_16 ⟨by decide, by decide⟩ ?_
      refine r_goto dd_Blk_isFreeOf_17 ?_
      exact r_retI dd_Blk_isFreeOf_21 (by first | rfl | omega | exact (b2_t (by first | assumption | omega)).symm | exact (b2_f (by first | assumption | omega)).symm) rfl
theorem c_Blk_holds {μ : Int → Int → Int} {o : Int} (hv : vk 219 o 0) {w : Int} (h0 : 0 ≤ μ o 0 ∧ μ o 0 ≤ 60) : MetC mi_Blk_holds [vR (o), vI w] (st μ) (some (vI (b2 (μ o 0 ≤ w ∧ w < μ o 0 + wz (μ o 1))))) (st (μ)) := by
  refine met_of ?_ (Nat.le_of_ble_eq_true rfl) (by decide) b2_01 (by decide) (Nat.le_of_ble_eq_true rfl)
  show SPW mi_Blk_holds 219 0 [some (vR (o)), some (vI w)] [] (st μ) (some (vI (b2 (μ o 0 ≤ w ∧ w < μ o 0 + wz (μ o 1))))) (st (μ))
  have hz := wz_rg (μ o 1)
  refine r_iloadn dd_Blk_holds_0 rfl ?_
  refine r_aloadn dd_Blk_holds_1 rfl ?_
  refine r_getI dd_Blk_holds_2 fl_Blk_9 (kI := 0) rfl fi_Blk_0 (by first | assumption | exact vk_blk (by omega) (by omega) | exact vk_tsk (by omega) (by omega) | exact vk_cmd (by omega) (by omega)) ?_
  refine r_icmp_lt dd_Blk_holds_5 (fun c_5 => ?_) (fun c_5 => ?_)
  · refine r_iconst dd_Blk_holds_25 ⟨by decide, by decide⟩ ?_
    exact r_retI dd_Blk_holds_26 (by first | rfl | omega | exact (b2_t (by first | assumption | omega)).symm | exact (b2_f (by first | assumption | omega)).symm) rfl
  · refine r_iloadn dd_Blk_holds_8 rfl ?_
    refine r_aloadn dd_Blk_holds_9 rfl ?_
    refine r_getI dd_Blk_holds_10 fl_Blk_9 (kI := 0) rfl fi_Blk_0 (by first | assumption | exact vk_blk (by omega) (by omega) | exact vk_tsk (by omega) (by omega) | exact vk_cmd (by omega) (by omega)) ?_
    refine r_aloadn dd_Blk_holds_13 rfl ?_
    refine r_V0W dd_Blk_holds_14 ml_Blk_34 ok_Blk_words vi_Blk_words (by first | assumption | exact vk_blk (by omega) (by omega) | exact vk_tsk (by omega) (by omega) | exact vk_cmd (by omega) (by omega)) (by decide) (clS rfl (Nat.le_refl _) (rmOK_self _ _)) rfl (c_Blk_words hv) ?_
    refine r_iadd dd_Blk_holds_17 ⟨by omega, by omega⟩ ?_
    refine r_icmp_ge dd_Blk_holds_18 (fun c_18 => ?_) (fun c_18 => ?_)
    · refine r_iconst dd_Blk_holds_25 ⟨by decide, by decide⟩ ?_
      exact r_retI dd_Blk_holds_26 (by first | rfl | omega | exact (b2_t (by first | assumption | omega)).symm | exact (b2_f (by first | assumption | omega)).symm) rfl
    · refine r_iconst dd_Blk_holds_21 ⟨by decide, by decide⟩ ?_
      refine r_goto dd_Blk_holds_22 ?_
      exact r_retI dd_Blk_holds_26 (by first | rfl | omega | exact (b2_t (by first | assumption | omega)).symm | exact (b2_f (by first | assumption | omega)).symm) rfl
theorem c_Blk_rearGuard {μ : Int → Int → Int} {o : Int} (hv : vk 219 o 0) (h0 : 0 ≤ μ o 0 ∧ μ o 0 ≤ 60) (h1 : 0 ≤ μ o 4 ∧ μ o 4 ≤ 14) : MetC mi_Blk_rearGuard [vR (o)] (st μ) (some (vI (μ o 0 + 1 + μ o 4))) (st (μ)) := by
  refine met_of ?_ (Nat.le_of_ble_eq_true rfl) (by decide) trivial (by decide) (Nat.le_of_ble_eq_true rfl)
  show SPW mi_Blk_rearGuard 219 0 [some (vR (o))] [] (st μ) (some (vI (μ o 0 + 1 + μ o 4))) (st (μ))
  refine r_aloadn dd_Blk_rearGuard_0 rfl ?_
  refine r_getI dd_Blk_rearGuard_1 fl_Blk_9 (kI := 0) rfl fi_Blk_0 (by first | assumption | exact vk_blk (by omega) (by omega) | exact vk_tsk (by omega) (by omega) | exact vk_cmd (by omega) (by omega)) ?_
  refine r_iconst dd_Blk_rearGuard_4 ⟨by decide, by decide⟩ ?_
  refine r_iadd dd_Blk_rearGuard_5 ⟨by omega, by omega⟩ ?_
  refine r_aloadn dd_Blk_rearGuard_6 rfl ?_
  refine r_getI dd_Blk_rearGuard_7 fl_Blk_24 (kI := 4) rfl fi_Blk_4 (by first | assumption | exact vk_blk (by omega) (by omega) | exact vk_tsk (by omega) (by omega) | exact vk_cmd (by omega) (by omega)) ?_
  refine r_iadd dd_Blk_rearGuard_10 ⟨by omega, by omega⟩ ?_
  exact r_retI dd_Blk_rearGuard_11 (by first | rfl | omega | exact (b2_t (by first | assumption | omega)).symm | exact (b2_f (by first | assumption | omega)).symm) rfl
theorem c_Blk_hasGuardAt {μ : Int → Int → Int} {o : Int} (hv : vk 219 o 0) {w : Int} (h0 : 0 ≤ μ o 0 ∧ μ o 0 ≤ 60) (h1 : 0 ≤ μ o 4 ∧ μ o 4 ≤ 14) : MetC mi_Blk_hasGuardAt [vR (o), vI w] (st μ) (some (vI (b2 (μ o 2 ≠ -1 ∧ (w = μ o 0 ∨ w = μ o 0 + 1 + μ o 4))))) (st (μ)) := by
  refine met_of ?_ (Nat.le_of_ble_eq_true rfl) (by decide) b2_01 (by decide) (Nat.le_of_ble_eq_true rfl)
  show SPW mi_Blk_hasGuardAt 219 0 [some (vR (o)), some (vI w)] [] (st μ) (some (vI (b2 (μ o 2 ≠ -1 ∧ (w = μ o 0 ∨ w = μ o 0 + 1 + μ o 4))))) (st (μ))
  refine r_aloadn dd_Blk_hasGuardAt_0 rfl ?_
  refine r_V0W dd_Blk_hasGuardAt_1 ml_Blk_38 ok_Blk_isOwned vi_Blk_isOwned (by first | assumption | exact vk_blk (by omega) (by omega) | exact vk_tsk (by omega) (by omega) | exact vk_cmd (by omega) (by omega)) (by decide) (clS rfl (Nat.le_refl _) (rmOK_self _ _)) rfl (c_Blk_isOwned hv) ?_
  refine r_if_eq_b dd_Blk_hasGuardAt_4 (fun c_4 => ?_) (fun c_4 => ?_)
  · refine r_iconst dd_Blk_hasGuardAt_27 ⟨by decide, by decide⟩ ?_
    exact r_retI dd_Blk_hasGuardAt_28 (by first | rfl | omega | exact (b2_t (by first | assumption | omega)).symm | exact (b2_f (by first | assumption | omega)).symm) rfl
  · refine r_iloadn dd_Blk_hasGuardAt_7 rfl ?_
    refine r_aloadn dd_Blk_hasGuardAt_8 rfl ?_
    refine r_getI dd_Blk_hasGuardAt_9 fl_Blk_9 (kI := 0) rfl fi_Blk_0 (by first | assumption | exact vk_blk (by omega) (by omega) | exact vk_tsk (by omega) (by omega) | exact vk_cmd (by omega) (by omega)) ?_
    refine r_icmp_eq dd_Blk_hasGuardAt_12 (fun c_12 => ?_) (fun c_12 => ?_)
    · refine r_iconst dd_Blk_hasGuardAt_23 ⟨by decide, by decide⟩ ?_
      refine r_goto dd_Blk_hasGuardAt_24 ?_
      exact r_retI dd_Blk_hasGuardAt_28 (by first | rfl | omega | exact (b2_t (by first | assumption | omega)).symm | exact (b2_f (by first | assumption | omega)).symm) rfl
    · refine r_iloadn dd_Blk_hasGuardAt_15 rfl ?_
      refine r_aloadn dd_Blk_hasGuardAt_16 rfl ?_
      refine r_V0W dd_Blk_hasGuardAt_17 ml_Blk_42 ok_Blk_rearGuard vi_Blk_rearGuard (by first | assumption | exact vk_blk (by omega) (by omega) | exact vk_tsk (by omega) (by omega) | exact vk_cmd (by omega) (by omega)) (by decide) (clS rfl (Nat.le_refl _) (rmOK_self _ _)) rfl (c_Blk_rearGuard hv h0 h1) ?_
      refine r_icmp_ne dd_Blk_hasGuardAt_20 (fun c_20 => ?_) (fun c_20 => ?_)
      · refine r_iconst dd_Blk_hasGuardAt_27 ⟨by decide, by decide⟩ ?_
        exact r_retI dd_Blk_hasGuardAt_28 (by first | rfl | omega | exact (b2_t (by first | assumption | omega)).symm | exact (b2_f (by first | assumption | omega)).symm) rfl
      · refine r_iconst dd_Blk_hasGuardAt_23 ⟨by decide, by decide⟩ ?_
        refine r_goto dd_Blk_hasGuardAt_24 ?_
        exact r_retI dd_Blk_hasGuardAt_28 (by first | rfl | omega | exact (b2_t (by first | assumption | omega)).symm | exact (b2_f (by first | assumption | omega)).symm) rfl
theorem c_Blk_wasAskedFor {μ : Int → Int → Int} {o : Int} (hv : vk 219 o 0) {w : Int} (h0 : 0 ≤ μ o 0 ∧ μ o 0 ≤ 60) (h1 : 0 ≤ μ o 4 ∧ μ o 4 ≤ 14) : MetC mi_Blk_wasAskedFor [vR (o), vI w] (st μ) (some (vI (b2 (μ o 2 ≠ -1 ∧ μ o 0 < w ∧ w < μ o 0 + 1 + μ o 4)))) (st (μ)) := by
  refine met_of ?_ (Nat.le_of_ble_eq_true rfl) (by decide) b2_01 (by decide) (Nat.le_of_ble_eq_true rfl)
  show SPW mi_Blk_wasAskedFor 219 0 [some (vR (o)), some (vI w)] [] (st μ) (some (vI (b2 (μ o 2 ≠ -1 ∧ μ o 0 < w ∧ w < μ o 0 + 1 + μ o 4)))) (st (μ))
  refine r_aloadn dd_Blk_wasAskedFor_0 rfl ?_
  refine r_V0W dd_Blk_wasAskedFor_1 ml_Blk_38 ok_Blk_isOwned vi_Blk_isOwned (by first | assumption | exact vk_blk (by omega) (by omega) | exact vk_tsk (by omega) (by omega) | exact vk_cmd (by omega) (by omega)) (by decide) (clS rfl (Nat.le_refl _) (rmOK_self _ _)) rfl (c_Blk_isOwned hv) ?_
  refine r_if_eq_b dd_Blk_wasAskedFor_4 (fun c_4 => ?_) (fun c_4 => ?_)
  · refine r_iconst dd_Blk_wasAskedFor_27 ⟨by decide, by decide⟩ ?_
    exact r_retI dd_Blk_wasAskedFor_28 (by first | rfl | omega | exact (b2_t (by first | assumption | omega)).symm | exact (b2_f (by first | assumption | omega)).symm) rfl
  · refine r_iloadn dd_Blk_wasAskedFor_7 rfl ?_
    refine r_aloadn dd_Blk_wasAskedFor_8 rfl ?_
    refine r_getI dd_Blk_wasAskedFor_9 fl_Blk_9 (kI := 0) rfl fi_Blk_0 (by first | assumption | exact vk_blk (by omega) (by omega) | exact vk_tsk (by omega) (by omega) | exact vk_cmd (by omega) (by omega)) ?_
    refine r_icmp_le dd_Blk_wasAskedFor_12 (fun c_12 => ?_) (fun c_12 => ?_)
    · refine r_iconst dd_Blk_wasAskedFor_27 ⟨by decide, by decide⟩ ?_
      exact r_retI dd_Blk_wasAskedFor_28 (by first | rfl | omega | exact (b2_t (by first | assumption | omega)).symm | exact (b2_f (by first | assumption | omega)).symm) rfl
    · refine r_iloadn dd_Blk_wasAskedFor_15 rfl ?_
      refine r_aloadn dd_Blk_wasAskedFor_16 rfl ?_
      refine r_V0W dd_Blk_wasAskedFor_17 ml_Blk_42 ok_Blk_rearGuard vi_Blk_rearGuard (by first | assumption | exact vk_blk (by omega) (by omega) | exact vk_tsk (by omega) (by omega) | exact vk_cmd (by omega) (by omega)) (by decide) (clS rfl (Nat.le_refl _) (rmOK_self _ _)) rfl (c_Blk_rearGuard hv h0 h1) ?_
      refine r_icmp_ge dd_Blk_wasAskedFor_20 (fun c_20 => ?_) (fun c_20 => ?_)
      · refine r_iconst dd_Blk_wasAskedFor_27 ⟨by decide, by decide⟩ ?_
        exact r_retI dd_Blk_wasAskedFor_28 (by first | rfl | omega | exact (b2_t (by first | assumption | omega)).symm | exact (b2_f (by first | assumption | omega)).symm) rfl
      · refine r_iconst dd_Blk_wasAskedFor_23 ⟨by decide, by decide⟩ ?_
        refine r_goto dd_Blk_wasAskedFor_24 ?_
        exact r_retI dd_Blk_wasAskedFor_28 (by first | rfl | omega | exact (b2_t (by first | assumption | omega)).symm | exact (b2_f (by first | assumption | omega)).symm) rfl

/-! the reference's own words: m is its row of numbers -/
def sumF : Nat → Int → (Int → Int) → Int
  | 0, _, _ => 0
  | n + 1, k, f => f k + sumF n (k + 1) f
def fstF (p : Int → Prop) [DecidablePred p] : Nat → Int → Int
  | 0, _ => -5
  | n + 1, k => if p k then k else fstF p n (k + 1)
theorem sumF_bd {f : Int → Int} {c : Int} : ∀ (n : Nat) (k : Int), (∀ j, k ≤ j → j < k + n → 0 ≤ f j ∧ f j ≤ c) → 0 ≤ sumF n k f ∧ sumF n k f ≤ n * c
  | 0, k, _ => ⟨Int.le_refl _, by simp [sumF]⟩
  | n + 1, k, h => by
    obtain ⟨a1, a2⟩ := sumF_bd n (k + 1) (fun j h1 h2 => h j (by omega) (by omega))
    obtain ⟨b1, b2⟩ := h k (Int.le_refl _) (by omega)
    have e : ((n + 1 : Nat) : Int) * c = n * c + c := by
      rw [Int.natCast_add, Int.add_mul]
      simp
    unfold sumF
    rw [e]
    generalize (n : Int) * c = z at a2 ⊢
    omega
theorem fstF_rg {p : Int → Prop} [DecidablePred p] : ∀ (n : Nat) (k : Int), fstF p n k = -5 ∨ (k ≤ fstF p n k ∧ fstF p n k < k + n ∧ p (fstF p n k))
  | 0, k => Or.inl rfl
  | n + 1, k => by
    unfold fstF
    by_cases h : p k
    · rw [if_pos h]
      exact Or.inr ⟨Int.le_refl _, by omega, h⟩
    · rw [if_neg h]
      rcases fstF_rg n (k + 1) (p := p) with e | ⟨e1, e2, e3⟩
      · exact Or.inl e
      · exact Or.inr ⟨by omega, by omega, e3⟩
theorem sumF_s {f : Int → Int} {n : Nat} {k : Int} : sumF (n + 1) k f = f k + sumF n (k + 1) f := rfl
theorem sumF_0 {f : Int → Int} {k : Int} : sumF 0 k f = 0 := rfl
theorem fstF_y {p : Int → Prop} [DecidablePred p] {n : Nat} {k : Int} (h : p k) : fstF p (n + 1) k = k := if_pos h
theorem fstF_n {p : Int → Prop} [DecidablePred p] {n : Nat} {k : Int} (h : ¬ p k) : fstF p (n + 1) k = fstF p n (k + 1) := if_neg h
theorem r_eqr {y : MI} {t0 pc : Nat} {L : List (Option Vv)} {S : List Vv} {M Mf : Mm} {a b : Int} (h : a = b) (kk : SPW y t0 pc L S M (some (vI a)) Mf) : SPW y t0 pc L S M (some (vI b)) Mf := h ▸ kk
abbrev owd (m : Int → Int) (w : Int) : Prop := 0 < m (128 + w) ∧ m (192 + w) ≠ -5
abbrev fre (m : Int → Int) (w : Int) : Prop := 0 < m (128 + w) ∧ m (192 + w) = -5
/-- the bounds of the row's numbers; K bounds what is only counted -/
def MW (K : Int) (m : Int → Int) : Prop :=
  (∀ w, 0 ≤ w → w < 64 → (0 ≤ m (64 + w) ∧ m (64 + w) ≤ 1) ∧ (0 ≤ m (128 + w) ∧ m (128 + w) ≤ 16) ∧ (-5 ≤ m (192 + w) ∧ m (192 + w) ≤ 299) ∧ (0 ≤ m (256 + w) ∧ m (256 + w) ≤ 5) ∧ (0 ≤ m (320 + w) ∧ m (320 + w) ≤ 14) ∧ (0 ≤ m (384 + w) ∧ m (384 + w) ≤ 9999) ∧ (m (128 + w) = 0 ∨ m (128 + w) = 4 ∨ m (128 + w) = 8 ∨ m (128 + w) = 16) ∧ w + m (128 + w) ≤ 64) ∧
  (∀ t, 0 ≤ t → t < 6 → (0 ≤ m (448 + t) ∧ m (448 + t) ≤ 1) ∧ (0 ≤ m (454 + t) ∧ m (454 + t) ≤ 64) ∧ (0 ≤ m (460 + t) ∧ m (460 + t) ≤ K)) ∧
  (0 ≤ m 466 ∧ m 466 ≤ 9999) ∧ (1 ≤ m 467 ∧ m 467 ≤ 500) ∧ (0 ≤ m 468 ∧ m 468 ≤ K) ∧ (0 ≤ m 469 ∧ m 469 ≤ K) ∧ (0 ≤ m 470 ∧ m 470 ≤ K) ∧ (0 ≤ m 471 ∧ m 471 ≤ 300) ∧ K ≤ 500000000 ∧ m 128 ≠ 0
def begOf (m : Int → Int) (b : Int) : Int := fstF (fun w => owd m w ∧ m (192 + w) = b) 64 0
def lowF (m : Int → Int) (z : Int) : Int := fstF (fun w => fre m w ∧ m (128 + w) = z) 64 0
def bgF (m : Int → Int) : Nat → Int → Int
  | 0, w => w
  | n + 1, w => if m (128 + w) = 0 then bgF m n (w - 1) else w
def bgn (m : Int → Int) (w : Int) : Int := bgF m 64 w
def szM (words : Int) : Int := if words ≤ 2 then 4 else if words ≤ 6 then 8 else 16
def wdsM (m : Int → Int) (t : Int) : Int := sumF 64 0 (fun w => if owd m w ∧ m (256 + w) = t then m (128 + w) else 0)
def whyM (m : Int → Int) (t words : Int) : Int :=
  if m (448 + t) = 1 then 1 else if m (454 + t) < wdsM m t + szM words then 2
  else if lowF m (szM words) = -5 ∧ (8 < szM words ∨ lowF m 16 = -5) ∧ (4 < szM words ∨ lowF m 8 = -5) then 3 else 0
def brkM (m : Int → Int) (w : Int) : Int := m (64 + w) + m (64 + w + m (320 + w) + 1)
abbrev lkM (m : Int → Int) (w : Int) : Prop := owd m w ∧ (m (448 + m (256 + w)) = 1 ∨ m 467 ≤ m 466 - m (384 + w))
def lksM (m : Int → Int) (t : Int) : Int := sumF 64 0 (fun w => if lkM m w ∧ (t = 6 ∨ m (256 + w) = t) then 1 else 0)
def owsM (m : Int → Int) : Int := sumF 64 0 (fun w => if owd m w then 1 else 0)
def blksM (m : Int → Int) (t : Int) : Int := sumF 64 0 (fun w => if owd m w ∧ m (256 + w) = t then 1 else 0)
def askdM (m : Int → Int) (t : Int) : Int := sumF 64 0 (fun w => if owd m w ∧ (t = 6 ∨ m (256 + w) = t) then m (320 + w) else 0)
def frwM (m : Int → Int) : Int := sumF 64 0 (fun w => if fre m w then m (128 + w) else 0)
abbrev grdM (m : Int → Int) (w : Int) : Prop := owd m (bgn m w) ∧ (w = bgn m w ∨ w = bgn m w + m (320 + bgn m w) + 1)
def ahdM (m : Int → Int) (b : Int) : Int := sumF 64 0 (fun w => if lkM m w ∧ (m (384 + w) < m (384 + b) ∨ (m (384 + w) = m (384 + b) ∧ m (192 + w) < m (192 + b))) then 1 else 0)

theorem c_Mod_in {μ : Int → Int → Int} {v a b : Int} : MetC mi_Mod_in [vI v, vI a, vI b] (st μ) (some (vI (b2 (a ≤ v ∧ v ≤ b)))) (st (μ)) := by
  refine met_of ?_ (Nat.le_of_ble_eq_true rfl) (by decide) b2_01 (by decide) (Nat.le_of_ble_eq_true rfl)
  show SPW mi_Mod_in 226 0 [some (vI v), some (vI a), some (vI b)] [] (st μ) (some (vI (b2 (a ≤ v ∧ v ≤ b)))) (st (μ))
  refine r_iloadn dd_Mod_in_0 rfl ?_
  refine r_iloadn dd_Mod_in_1 rfl ?_
  refine r_icmp_lt dd_Mod_in_2 (fun c_2 => ?_) (fun c_2 => ?_)
  · refine r_iconst dd_Mod_in_14 ⟨by decide, by decide⟩ ?_
    exact r_retI dd_Mod_in_15 (by first | rfl | omega | exact (b2_t (by first | assumption | omega)).symm | exact (b2_f (by first | assumption | omega)).symm) rfl
  · refine r_iloadn dd_Mod_in_5 rfl ?_
    refine r_iloadn dd_Mod_in_6 rfl ?_
    refine r_icmp_gt dd_Mod_in_7 (fun c_7 => ?_) (fun c_7 => ?_)
    · refine r_iconst dd_Mod_in_14 ⟨by decide, by decide⟩ ?_
      exact r_retI dd_Mod_in_15 (by first | rfl | omega | exact (b2_t (by first | assumption | omega)).symm | exact (b2_f (by first | assumption | omega)).symm) rfl
    · refine r_iconst dd_Mod_in_10 ⟨by decide, by decide⟩ ?_
      refine r_goto dd_Mod_in_11 ?_
      exact r_retI dd_Mod_in_15 (by first | rfl | omega | exact (b2_t (by first | assumption | omega)).symm | exact (b2_f (by first | assumption | omega)).symm) rfl
theorem c_Mod_isTask {μ : Int → Int → Int} {t : Int} : MetC mi_Mod_isTask [vI t] (st μ) (some (vI (b2 (0 ≤ t ∧ t ≤ 5)))) (st (μ)) := by
  refine met_of ?_ (Nat.le_of_ble_eq_true rfl) (by decide) b2_01 (by decide) (Nat.le_of_ble_eq_true rfl)
  show SPW mi_Mod_isTask 226 0 [some (vI t)] [] (st μ) (some (vI (b2 (0 ≤ t ∧ t ≤ 5)))) (st (μ))
  refine r_iloadn dd_Mod_isTask_0 rfl ?_
  refine r_iconst dd_Mod_isTask_1 ⟨by decide, by decide⟩ ?_
  refine r_iconst dd_Mod_isTask_2 ⟨by decide, by decide⟩ ?_
  refine r_S3W dd_Mod_isTask_3 ml_Mod_35 ok_Mod_in st_Mod_in (clS rfl (Nat.le_refl _) (rmOK_self _ _)) rfl c_Mod_in ?_
  exact r_retI dd_Mod_isTask_6 rfl rfl
theorem c_Mod_isFree {μ : Int → Int → Int} {w : Int} (h0 : 0 ≤ w) (h1 : w < 64) : MetC mi_Mod_isFree [vR 219, vI w] (st μ) (some (vI (b2 (fre (μ 220) w)))) (st (μ)) := by
  refine met_of ?_ (Nat.le_of_ble_eq_true rfl) (by decide) b2_01 (by decide) (Nat.le_of_ble_eq_true rfl)
  show SPW mi_Mod_isFree 226 0 [some (vR 219), some (vI w)] [] (st μ) (some (vI (b2 (fre (μ 220) w)))) (st (μ))
  refine r_aloadn dd_Mod_isFree_0 rfl ?_
  refine r_getR dd_Mod_isFree_1 fl_Mod_7 (kI := 0) rfl fr_Mod_0 vk_219 R0_219_0 ?_
  refine r_sip dd_Mod_isFree_4 ⟨by decide, by decide⟩ ?_
  refine r_iloadn dd_Mod_isFree_7 rfl ?_
  refine r_iadd dd_Mod_isFree_8 ⟨by omega, by omega⟩ ?_
  refine r_iald dd_Mod_isFree_9 (q := 12) (by decide) vk_220 (by omega) (by show _ < ((472 : Nat) : Int); omega) ?_
  refine r_if_le dd_Mod_isFree_10 (fun c_10 => ?_) (fun c_10 => ?_)
  · refine r_iconst dd_Mod_isFree_32 ⟨by decide, by decide⟩ ?_
    exact r_retI dd_Mod_isFree_33 (by first | rfl | omega | exact (b2_t (by first | assumption | omega)).symm | exact (b2_f (by first | assumption | omega)).symm) rfl
  · refine r_aloadn dd_Mod_isFree_13 rfl ?_
    refine r_getR dd_Mod_isFree_14 fl_Mod_7 (kI := 0) rfl fr_Mod_0 vk_219 R0_219_0 ?_
    refine r_sip dd_Mod_isFree_17 ⟨by decide, by decide⟩ ?_
    refine r_iloadn dd_Mod_isFree_20 rfl ?_
    refine r_iadd dd_Mod_isFree_21 ⟨by omega, by omega⟩ ?_
    refine r_iald dd_Mod_isFree_22 (q := 12) (by decide) vk_220 (by omega) (by show _ < ((472 : Nat) : Int); omega) ?_
    refine r_bip dd_Mod_isFree_23 ⟨by decide, by decide⟩ ?_
    refine r_icmp_ne dd_Mod_isFree_25 (fun c_25 => ?_) (fun c_25 => ?_)
    · refine r_iconst dd_Mod_isFree_32 ⟨by decide, by decide⟩ ?_
      exact r_retI dd_Mod_isFree_33 (by first | rfl | omega | exact (b2_t (by first | assumption | omega)).symm | exact (b2_f (by first | assumption | omega)).symm) rfl
    · refine r_iconst dd_Mod_isFree_28 ⟨by decide, by decide⟩ ?_
      refine r_goto dd_Mod_isFree_29 ?_
      exact r_retI dd_Mod_isFree_33 (by first | rfl | omega | exact (b2_t (by first | assumption | omega)).symm | exact (b2_f (by first | assumption | omega)).symm) rfl
theorem c_Mod_isOwned {μ : Int → Int → Int} {w : Int} (h0 : 0 ≤ w) (h1 : w < 64) : MetC mi_Mod_isOwned [vR 219, vI w] (st μ) (some (vI (b2 (owd (μ 220) w)))) (st (μ)) := by
  refine met_of ?_ (Nat.le_of_ble_eq_true rfl) (by decide) b2_01 (by decide) (Nat.le_of_ble_eq_true rfl)
  show SPW mi_Mod_isOwned 226 0 [some (vR 219), some (vI w)] [] (st μ) (some (vI (b2 (owd (μ 220) w)))) (st (μ))
  refine r_aloadn dd_Mod_isOwned_0 rfl ?_
  refine r_getR dd_Mod_isOwned_1 fl_Mod_7 (kI := 0) rfl fr_Mod_0 vk_219 R0_219_0 ?_
  refine r_sip dd_Mod_isOwned_4 ⟨by decide, by decide⟩ ?_
  refine r_iloadn dd_Mod_isOwned_7 rfl ?_
  refine r_iadd dd_Mod_isOwned_8 ⟨by omega, by omega⟩ ?_
  refine r_iald dd_Mod_isOwned_9 (q := 12) (by decide) vk_220 (by omega) (by show _ < ((472 : Nat) : Int); omega) ?_
  refine r_if_le dd_Mod_isOwned_10 (fun c_10 => ?_) (fun c_10 => ?_)
  · refine r_iconst dd_Mod_isOwned_32 ⟨by decide, by decide⟩ ?_
    exact r_retI dd_Mod_isOwned_33 (by first | rfl | omega | exact (b2_t (by first | assumption | omega)).symm | exact (b2_f (by first | assumption | omega)).symm) rfl
  · refine r_aloadn dd_Mod_isOwned_13 rfl ?_
    refine r_getR dd_Mod_isOwned_14 fl_Mod_7 (kI := 0) rfl fr_Mod_0 vk_219 R0_219_0 ?_
    refine r_sip dd_Mod_isOwned_17 ⟨by decide, by decide⟩ ?_
    refine r_iloadn dd_Mod_isOwned_20 rfl ?_
    refine r_iadd dd_Mod_isOwned_21 ⟨by omega, by omega⟩ ?_
    refine r_iald dd_Mod_isOwned_22 (q := 12) (by decide) vk_220 (by omega) (by show _ < ((472 : Nat) : Int); omega) ?_
    refine r_bip dd_Mod_isOwned_23 ⟨by decide, by decide⟩ ?_
    refine r_icmp_eq dd_Mod_isOwned_25 (fun c_25 => ?_) (fun c_25 => ?_)
    · refine r_iconst dd_Mod_isOwned_32 ⟨by decide, by decide⟩ ?_
      exact r_retI dd_Mod_isOwned_33 (by first | rfl | omega | exact (b2_t (by first | assumption | omega)).symm | exact (b2_f (by first | assumption | omega)).symm) rfl
    · refine r_iconst dd_Mod_isOwned_28 ⟨by decide, by decide⟩ ?_
      refine r_goto dd_Mod_isOwned_29 ?_
      exact r_retI dd_Mod_isOwned_33 (by first | rfl | omega | exact (b2_t (by first | assumption | omega)).symm | exact (b2_f (by first | assumption | omega)).symm) rfl
theorem l_Mod_beginOf {μ : Int → Int → Int} {b : Int} : ∀ (n : Nat) (w : Int), (w + n = 64) → (0 ≤ w) → SPW mi_Mod_beginOf 226 2 [some (vR 219), some (vI b), some (vI w)] [] (st (μ)) (some (vI (fstF (fun w => owd (μ 220) w ∧ μ 220 (192 + w) = b) (n) w))) (st (μ)) := by
  intro n
  induction n with
  | zero =>
    intro w h0 h1
    refine r_iloadn dd_Mod_beginOf_2 rfl ?_
    refine r_bip dd_Mod_beginOf_3 ⟨by decide, by decide⟩ ?_
    refine r_icmp_ge dd_Mod_beginOf_5 (fun c_5 => ?_) (fun c_5 => ?_)
    · refine r_bip dd_Mod_beginOf_38 ⟨by decide, by decide⟩ ?_
      exact r_retI dd_Mod_beginOf_40 (by first | exact (fstF_y (by omega)).symm | rfl) rfl
    · exfalso; omega
  | succ n ih =>
    intro w h0 h1
    refine r_iloadn dd_Mod_beginOf_2 rfl ?_
    refine r_bip dd_Mod_beginOf_3 ⟨by decide, by decide⟩ ?_
    refine r_icmp_ge dd_Mod_beginOf_5 (fun c_5 => ?_) (fun c_5 => ?_)
    · exfalso; omega
    · refine r_aloadn dd_Mod_beginOf_8 rfl ?_
      refine r_iloadn dd_Mod_beginOf_9 rfl ?_
      refine r_V1W dd_Mod_beginOf_10 ml_Mod_42 ok_Mod_isOwned vi_Mod_isOwned vk_219 (by decide) (clS rfl (Nat.le_refl _) (rmOK_self _ _)) rfl (c_Mod_isOwned (by omega) (by omega)) ?_
      refine r_if_eq_b dd_Mod_beginOf_13 (fun c_13 => ?_) (fun c_13 => ?_)
      · refine r_iinc (L' := [_, _, _]) dd_Mod_beginOf_32 rfl ⟨by omega, by omega⟩ rfl ?_
        refine r_goto dd_Mod_beginOf_35 ?_
        refine r_eqr (fstF_n (by omega)).symm (ih (w + 1) (by omega) (by omega))
      · refine r_aloadn dd_Mod_beginOf_16 rfl ?_
        refine r_getR dd_Mod_beginOf_17 fl_Mod_7 (kI := 0) rfl fr_Mod_0 vk_219 R0_219_0 ?_
        refine r_sip dd_Mod_beginOf_20 ⟨by decide, by decide⟩ ?_
        refine r_iloadn dd_Mod_beginOf_23 rfl ?_
        refine r_iadd dd_Mod_beginOf_24 ⟨by omega, by omega⟩ ?_
        refine r_iald dd_Mod_beginOf_25 (q := 12) (by decide) vk_220 (by omega) (by show _ < ((472 : Nat) : Int); omega) ?_
        refine r_iloadn dd_Mod_beginOf_26 rfl ?_
        refine r_icmp_ne dd_Mod_beginOf_27 (fun c_27 => ?_) (fun c_27 => ?_)
        · refine r_iinc (L' := [_, _, _]) dd_Mod_beginOf_32 rfl ⟨by omega, by omega⟩ rfl ?_
          refine r_goto dd_Mod_beginOf_35 ?_
          refine r_eqr (fstF_n (by omega)).symm (ih (w + 1) (by omega) (by omega))
        · refine r_iloadn dd_Mod_beginOf_30 rfl ?_
          exact r_retI dd_Mod_beginOf_31 (by first | exact (fstF_y (by omega)).symm | rfl) rfl
theorem c_Mod_beginOf {μ : Int → Int → Int} {b : Int} : MetC mi_Mod_beginOf [vR 219, vI b] (st μ) (some (vI (begOf (μ 220) b))) (st (μ)) := by
  refine met_of ?_ (Nat.le_of_ble_eq_true rfl) (by decide) trivial (by decide) (Nat.le_of_ble_eq_true rfl)
  show SPW mi_Mod_beginOf 226 0 [some (vR 219), some (vI b), none] [] (st μ) (some (vI (begOf (μ 220) b))) (st (μ))
  refine r_iconst dd_Mod_beginOf_0 ⟨by decide, by decide⟩ ?_
  refine r_istoren (L' := [_, _, _]) dd_Mod_beginOf_1 rfl rfl ?_
  exact l_Mod_beginOf 64 0 (by decide) (by decide)
theorem l_Mod_lowestFree {μ : Int → Int → Int} {z : Int} : ∀ (n : Nat) (w : Int), (w + n = 64) → (0 ≤ w) → SPW mi_Mod_lowestFree 226 2 [some (vR 219), some (vI z), some (vI w)] [] (st (μ)) (some (vI (fstF (fun w => fre (μ 220) w ∧ μ 220 (128 + w) = z) (n) w))) (st (μ)) := by
  intro n
  induction n with
  | zero =>
    intro w h0 h1
    refine r_iloadn dd_Mod_lowestFree_2 rfl ?_
    refine r_bip dd_Mod_lowestFree_3 ⟨by decide, by decide⟩ ?_
    refine r_icmp_ge dd_Mod_lowestFree_5 (fun c_5 => ?_) (fun c_5 => ?_)
    · refine r_bip dd_Mod_lowestFree_38 ⟨by decide, by decide⟩ ?_
      exact r_retI dd_Mod_lowestFree_40 (by first | exact (fstF_y (by omega)).symm | rfl) rfl
    · exfalso; omega
  | succ n ih =>
    intro w h0 h1
    refine r_iloadn dd_Mod_lowestFree_2 rfl ?_
    refine r_bip dd_Mod_lowestFree_3 ⟨by decide, by decide⟩ ?_
    refine r_icmp_ge dd_Mod_lowestFree_5 (fun c_5 => ?_) (fun c_5 => ?_)
    · exfalso; omega
    · refine r_aloadn dd_Mod_lowestFree_8 rfl ?_
      refine r_iloadn dd_Mod_lowestFree_9 rfl ?_
      refine r_V1W dd_Mod_lowestFree_10 ml_Mod_50 ok_Mod_isFree vi_Mod_isFree vk_219 (by decide) (clS rfl (Nat.le_refl _) (rmOK_self _ _)) rfl (c_Mod_isFree (by omega) (by omega)) ?_
      refine r_if_eq_b dd_Mod_lowestFree_13 (fun c_13 => ?_) (fun c_13 => ?_)
      · refine r_iinc (L' := [_, _, _]) dd_Mod_lowestFree_32 rfl ⟨by omega, by omega⟩ rfl ?_
        refine r_goto dd_Mod_lowestFree_35 ?_
        refine r_eqr (fstF_n (by omega)).symm (ih (w + 1) (by omega) (by omega))
      · refine r_aloadn dd_Mod_lowestFree_16 rfl ?_
        refine r_getR dd_Mod_lowestFree_17 fl_Mod_7 (kI := 0) rfl fr_Mod_0 vk_219 R0_219_0 ?_
        refine r_sip dd_Mod_lowestFree_20 ⟨by decide, by decide⟩ ?_
        refine r_iloadn dd_Mod_lowestFree_23 rfl ?_
        refine r_iadd dd_Mod_lowestFree_24 ⟨by omega, by omega⟩ ?_
        refine r_iald dd_Mod_lowestFree_25 (q := 12) (by decide) vk_220 (by omega) (by show _ < ((472 : Nat) : Int); omega) ?_
        refine r_iloadn dd_Mod_lowestFree_26 rfl ?_
        refine r_icmp_ne dd_Mod_lowestFree_27 (fun c_27 => ?_) (fun c_27 => ?_)
        · refine r_iinc (L' := [_, _, _]) dd_Mod_lowestFree_32 rfl ⟨by omega, by omega⟩ rfl ?_
          refine r_goto dd_Mod_lowestFree_35 ?_
          refine r_eqr (fstF_n (by omega)).symm (ih (w + 1) (by omega) (by omega))
        · refine r_iloadn dd_Mod_lowestFree_30 rfl ?_
          exact r_retI dd_Mod_lowestFree_31 (by first | exact (fstF_y (by omega)).symm | rfl) rfl
theorem c_Mod_lowestFree {μ : Int → Int → Int} {z : Int} : MetC mi_Mod_lowestFree [vR 219, vI z] (st μ) (some (vI (lowF (μ 220) z))) (st (μ)) := by
  refine met_of ?_ (Nat.le_of_ble_eq_true rfl) (by decide) trivial (by decide) (Nat.le_of_ble_eq_true rfl)
  show SPW mi_Mod_lowestFree 226 0 [some (vR 219), some (vI z), none] [] (st μ) (some (vI (lowF (μ 220) z))) (st (μ))
  refine r_iconst dd_Mod_lowestFree_0 ⟨by decide, by decide⟩ ?_
  refine r_istoren (L' := [_, _, _]) dd_Mod_lowestFree_1 rfl rfl ?_
  exact l_Mod_lowestFree 64 0 (by decide) (by decide)
theorem c_Mod_sizeFor {μ : Int → Int → Int} {words : Int} : MetC mi_Mod_sizeFor [vI words] (st μ) (some (vI (szM words))) (st (μ)) := by
  refine met_of ?_ (Nat.le_of_ble_eq_true rfl) (by decide) trivial (by decide) (Nat.le_of_ble_eq_true rfl)
  show SPW mi_Mod_sizeFor 226 0 [some (vI words)] [] (st μ) (some (vI (szM words))) (st (μ))
  refine r_iloadn dd_Mod_sizeFor_0 rfl ?_
  refine r_iconst dd_Mod_sizeFor_1 ⟨by decide, by decide⟩ ?_
  refine r_icmp_gt dd_Mod_sizeFor_2 (fun c_2 => ?_) (fun c_2 => ?_)
  · refine r_iloadn dd_Mod_sizeFor_9 rfl ?_
    refine r_bip dd_Mod_sizeFor_10 ⟨by decide, by decide⟩ ?_
    refine r_icmp_gt dd_Mod_sizeFor_12 (fun c_12 => ?_) (fun c_12 => ?_)
    · refine r_bip dd_Mod_sizeFor_20 ⟨by decide, by decide⟩ ?_
      exact r_retI dd_Mod_sizeFor_22 (by unfold szM; first | (rw [if_pos (by omega)]; done) | (rw [if_neg (by omega), if_pos (by omega)]; done) | (rw [if_neg (by omega), if_neg (by omega)]; done)) rfl
    · refine r_bip dd_Mod_sizeFor_15 ⟨by decide, by decide⟩ ?_
      refine r_goto dd_Mod_sizeFor_17 ?_
      exact r_retI dd_Mod_sizeFor_22 (by unfold szM; first | (rw [if_pos (by omega)]; done) | (rw [if_neg (by omega), if_pos (by omega)]; done) | (rw [if_neg (by omega), if_neg (by omega)]; done)) rfl
  · refine r_iconst dd_Mod_sizeFor_5 ⟨by decide, by decide⟩ ?_
    refine r_goto dd_Mod_sizeFor_6 ?_
    exact r_retI dd_Mod_sizeFor_22 (by unfold szM; first | (rw [if_pos (by omega)]; done) | (rw [if_neg (by omega), if_pos (by omega)]; done) | (rw [if_neg (by omega), if_neg (by omega)]; done)) rfl
theorem l_Mod_wordsOf {μ : Int → Int → Int} {K : Int} {t : Int} (hW : MW K (μ 220)) : ∀ (n : Nat) (w a : Int), (w + n = 64) → (0 ≤ w) → (0 ≤ a ∧ a ≤ w * 16) → SPW mi_Mod_wordsOf 226 4 [some (vR 219), some (vI t), some (vI a), some (vI w)] [] (st (μ)) (some (vI (a + sumF (n) w (fun w => if owd (μ 220) w ∧ μ 220 (256 + w) = t then μ 220 (128 + w) else 0)))) (st (μ)) := by
  intro n
  induction n with
  | zero =>
    intro w a h0 h1 h2
    refine r_iloadn dd_Mod_wordsOf_4 rfl ?_
    refine r_bip dd_Mod_wordsOf_5 ⟨by decide, by decide⟩ ?_
    refine r_icmp_ge dd_Mod_wordsOf_7 (fun c_7 => ?_) (fun c_7 => ?_)
    · refine r_iloadn dd_Mod_wordsOf_55 rfl ?_
      exact r_retI dd_Mod_wordsOf_56 (by rw [sumF_0]; omega) rfl
    · exfalso; omega
  | succ n ih =>
    intro w a h0 h1 h2
    have hb := hW.1 w h1 (by omega)
    refine r_iloadn dd_Mod_wordsOf_4 rfl ?_
    refine r_bip dd_Mod_wordsOf_5 ⟨by decide, by decide⟩ ?_
    refine r_icmp_ge dd_Mod_wordsOf_7 (fun c_7 => ?_) (fun c_7 => ?_)
    · exfalso; omega
    · refine r_iloadn dd_Mod_wordsOf_10 rfl ?_
      refine r_aloadn dd_Mod_wordsOf_11 rfl ?_
      refine r_iloadn dd_Mod_wordsOf_12 rfl ?_
      refine r_V1W dd_Mod_wordsOf_13 ml_Mod_42 ok_Mod_isOwned vi_Mod_isOwned vk_219 (by decide) (clS rfl (Nat.le_refl _) (rmOK_self _ _)) rfl (c_Mod_isOwned (by omega) (by omega)) ?_
      refine r_if_eq_b dd_Mod_wordsOf_16 (fun c_16 => ?_) (fun c_16 => ?_)
      · refine r_iconst dd_Mod_wordsOf_46 ⟨by decide, by decide⟩ ?_
        refine r_iadd dd_Mod_wordsOf_47 ⟨by omega, by omega⟩ ?_
        refine r_istoren (L' := [_, _, _, _]) dd_Mod_wordsOf_48 rfl rfl ?_
        refine r_iinc (L' := [_, _, _, _]) dd_Mod_wordsOf_49 rfl ⟨by omega, by omega⟩ rfl ?_
        refine r_goto dd_Mod_wordsOf_52 ?_
        refine r_eqr (by rw [sumF_s]; first | (rw [if_pos (by omega)]; omega) | (rw [if_neg (by omega)]; omega)) (ih (w + 1) _ (by omega) (by omega) ⟨by omega, by omega⟩)
      · refine r_aloadn dd_Mod_wordsOf_19 rfl ?_
        refine r_getR dd_Mod_wordsOf_20 fl_Mod_7 (kI := 0) rfl fr_Mod_0 vk_219 R0_219_0 ?_
        refine r_sip dd_Mod_wordsOf_23 ⟨by decide, by decide⟩ ?_
        refine r_iloadn dd_Mod_wordsOf_26 rfl ?_
        refine r_iadd dd_Mod_wordsOf_27 ⟨by omega, by omega⟩ ?_
        refine r_iald dd_Mod_wordsOf_28 (q := 12) (by decide) vk_220 (by omega) (by show _ < ((472 : Nat) : Int); omega) ?_
        refine r_iloadn dd_Mod_wordsOf_29 rfl ?_
        refine r_icmp_ne dd_Mod_wordsOf_30 (fun c_30 => ?_) (fun c_30 => ?_)
        · refine r_iconst dd_Mod_wordsOf_46 ⟨by decide, by decide⟩ ?_
          refine r_iadd dd_Mod_wordsOf_47 ⟨by omega, by omega⟩ ?_
          refine r_istoren (L' := [_, _, _, _]) dd_Mod_wordsOf_48 rfl rfl ?_
          refine r_iinc (L' := [_, _, _, _]) dd_Mod_wordsOf_49 rfl ⟨by omega, by omega⟩ rfl ?_
          refine r_goto dd_Mod_wordsOf_52 ?_
          refine r_eqr (by rw [sumF_s]; first | (rw [if_pos (by omega)]; omega) | (rw [if_neg (by omega)]; omega)) (ih (w + 1) _ (by omega) (by omega) ⟨by omega, by omega⟩)
        · refine r_aloadn dd_Mod_wordsOf_33 rfl ?_
          refine r_getR dd_Mod_wordsOf_34 fl_Mod_7 (kI := 0) rfl fr_Mod_0 vk_219 R0_219_0 ?_
          refine r_sip dd_Mod_wordsOf_37 ⟨by decide, by decide⟩ ?_
          refine r_iloadn dd_Mod_wordsOf_40 rfl ?_
          refine r_iadd dd_Mod_wordsOf_41 ⟨by omega, by omega⟩ ?_
          refine r_iald dd_Mod_wordsOf_42 (q := 12) (by decide) vk_220 (by omega) (by show _ < ((472 : Nat) : Int); omega) ?_
          refine r_goto dd_Mod_wordsOf_43 ?_
          refine r_iadd dd_Mod_wordsOf_47 ⟨by omega, by omega⟩ ?_
          refine r_istoren (L' := [_, _, _, _]) dd_Mod_wordsOf_48 rfl rfl ?_
          refine r_iinc (L' := [_, _, _, _]) dd_Mod_wordsOf_49 rfl ⟨by omega, by omega⟩ rfl ?_
          refine r_goto dd_Mod_wordsOf_52 ?_
          refine r_eqr (by rw [sumF_s]; first | (rw [if_pos (by omega)]; omega) | (rw [if_neg (by omega)]; omega)) (ih (w + 1) _ (by omega) (by omega) ⟨by omega, by omega⟩)
theorem c_Mod_wordsOf {μ : Int → Int → Int} {K t : Int} (hW : MW K (μ 220)) : MetC mi_Mod_wordsOf [vR 219, vI t] (st μ) (some (vI (wdsM (μ 220) t))) (st (μ)) := by
  refine met_of ?_ (Nat.le_of_ble_eq_true rfl) (by decide) trivial (by decide) (Nat.le_of_ble_eq_true rfl)
  show SPW mi_Mod_wordsOf 226 0 [some (vR 219), some (vI t), none, none] [] (st μ) (some (vI (wdsM (μ 220) t))) (st (μ))
  refine r_iconst dd_Mod_wordsOf_0 ⟨by decide, by decide⟩ ?_
  refine r_istoren (L' := [_, _, _, _]) dd_Mod_wordsOf_1 rfl rfl ?_
  refine r_iconst dd_Mod_wordsOf_2 ⟨by decide, by decide⟩ ?_
  refine r_istoren (L' := [_, _, _, _]) dd_Mod_wordsOf_3 rfl rfl ?_
  exact r_eqr (Int.zero_add _) (l_Mod_wordsOf hW 64 0 0 (by decide) (by decide) ⟨by decide, by decide⟩)
theorem l_Mod_blocksOf {μ : Int → Int → Int} {K : Int} {t : Int} (hW : MW K (μ 220)) : ∀ (n : Nat) (w a : Int), (w + n = 64) → (0 ≤ w) → (0 ≤ a ∧ a ≤ w * 1) → SPW mi_Mod_blocksOf 226 4 [some (vR 219), some (vI t), some (vI a), some (vI w)] [] (st (μ)) (some (vI (a + sumF (n) w (fun w => if owd (μ 220) w ∧ μ 220 (256 + w) = t then 1 else 0)))) (st (μ)) := by
  intro n
  induction n with
  | zero =>
    intro w a h0 h1 h2
    refine r_iloadn dd_Mod_blocksOf_4 rfl ?_
    refine r_bip dd_Mod_blocksOf_5 ⟨by decide, by decide⟩ ?_
    refine r_icmp_ge dd_Mod_blocksOf_7 (fun c_7 => ?_) (fun c_7 => ?_)
    · refine r_iloadn dd_Mod_blocksOf_46 rfl ?_
      exact r_retI dd_Mod_blocksOf_47 (by rw [sumF_0]; omega) rfl
    · exfalso; omega
  | succ n ih =>
    intro w a h0 h1 h2
    have hb := hW.1 w h1 (by omega)
    refine r_iloadn dd_Mod_blocksOf_4 rfl ?_
    refine r_bip dd_Mod_blocksOf_5 ⟨by decide, by decide⟩ ?_
    refine r_icmp_ge dd_Mod_blocksOf_7 (fun c_7 => ?_) (fun c_7 => ?_)
    · exfalso; omega
    · refine r_iloadn dd_Mod_blocksOf_10 rfl ?_
      refine r_aloadn dd_Mod_blocksOf_11 rfl ?_
      refine r_iloadn dd_Mod_blocksOf_12 rfl ?_
      refine r_V1W dd_Mod_blocksOf_13 ml_Mod_42 ok_Mod_isOwned vi_Mod_isOwned vk_219 (by decide) (clS rfl (Nat.le_refl _) (rmOK_self _ _)) rfl (c_Mod_isOwned (by omega) (by omega)) ?_
      refine r_if_eq_b dd_Mod_blocksOf_16 (fun c_16 => ?_) (fun c_16 => ?_)
      · refine r_iconst dd_Mod_blocksOf_37 ⟨by decide, by decide⟩ ?_
        refine r_iadd dd_Mod_blocksOf_38 ⟨by omega, by omega⟩ ?_
        refine r_istoren (L' := [_, _, _, _]) dd_Mod_blocksOf_39 rfl rfl ?_
        refine r_iinc (L' := [_, _, _, _]) dd_Mod_blocksOf_40 rfl ⟨by omega, by omega⟩ rfl ?_
        refine r_goto dd_Mod_blocksOf_43 ?_
        refine r_eqr (by rw [sumF_s]; first | (rw [if_pos (by omega)]; omega) | (rw [if_neg (by omega)]; omega)) (ih (w + 1) _ (by omega) (by omega) ⟨by omega, by omega⟩)
      · refine r_aloadn dd_Mod_blocksOf_19 rfl ?_
        refine r_getR dd_Mod_blocksOf_20 fl_Mod_7 (kI := 0) rfl fr_Mod_0 vk_219 R0_219_0 ?_
        refine r_sip dd_Mod_blocksOf_23 ⟨by decide, by decide⟩ ?_
        refine r_iloadn dd_Mod_blocksOf_26 rfl ?_
        refine r_iadd dd_Mod_blocksOf_27 ⟨by omega, by omega⟩ ?_
        refine r_iald dd_Mod_blocksOf_28 (q := 12) (by decide) vk_220 (by omega) (by show _ < ((472 : Nat) : Int); omega) ?_
        refine r_iloadn dd_Mod_blocksOf_29 rfl ?_
        refine r_icmp_ne dd_Mod_blocksOf_30 (fun c_30 => ?_) (fun c_30 => ?_)
        · refine r_iconst dd_Mod_blocksOf_37 ⟨by decide, by decide⟩ ?_
          refine r_iadd dd_Mod_blocksOf_38 ⟨by omega, by omega⟩ ?_
          refine r_istoren (L' := [_, _, _, _]) dd_Mod_blocksOf_39 rfl rfl ?_
          refine r_iinc (L' := [_, _, _, _]) dd_Mod_blocksOf_40 rfl ⟨by omega, by omega⟩ rfl ?_
          refine r_goto dd_Mod_blocksOf_43 ?_
          refine r_eqr (by rw [sumF_s]; first | (rw [if_pos (by omega)]; omega) | (rw [if_neg (by omega)]; omega)) (ih (w + 1) _ (by omega) (by omega) ⟨by omega, by omega⟩)
        · refine r_iconst dd_Mod_blocksOf_33 ⟨by decide, by decide⟩ ?_
          refine r_goto dd_Mod_blocksOf_34 ?_
          refine r_iadd dd_Mod_blocksOf_38 ⟨by omega, by omega⟩ ?_
          refine r_istoren (L' := [_, _, _, _]) dd_Mod_blocksOf_39 rfl rfl ?_
          refine r_iinc (L' := [_, _, _, _]) dd_Mod_blocksOf_40 rfl ⟨by omega, by omega⟩ rfl ?_
          refine r_goto dd_Mod_blocksOf_43 ?_
          refine r_eqr (by rw [sumF_s]; first | (rw [if_pos (by omega)]; omega) | (rw [if_neg (by omega)]; omega)) (ih (w + 1) _ (by omega) (by omega) ⟨by omega, by omega⟩)
theorem c_Mod_blocksOf {μ : Int → Int → Int} {K t : Int} (hW : MW K (μ 220)) : MetC mi_Mod_blocksOf [vR 219, vI t] (st μ) (some (vI (blksM (μ 220) t))) (st (μ)) := by
  refine met_of ?_ (Nat.le_of_ble_eq_true rfl) (by decide) trivial (by decide) (Nat.le_of_ble_eq_true rfl)
  show SPW mi_Mod_blocksOf 226 0 [some (vR 219), some (vI t), none, none] [] (st μ) (some (vI (blksM (μ 220) t))) (st (μ))
  refine r_iconst dd_Mod_blocksOf_0 ⟨by decide, by decide⟩ ?_
  refine r_istoren (L' := [_, _, _, _]) dd_Mod_blocksOf_1 rfl rfl ?_
  refine r_iconst dd_Mod_blocksOf_2 ⟨by decide, by decide⟩ ?_
  refine r_istoren (L' := [_, _, _, _]) dd_Mod_blocksOf_3 rfl rfl ?_
  exact r_eqr (Int.zero_add _) (l_Mod_blocksOf hW 64 0 0 (by decide) (by decide) ⟨by decide, by decide⟩)
theorem l_Mod_owned {μ : Int → Int → Int} {K : Int} (hW : MW K (μ 220)) : ∀ (n : Nat) (w a : Int), (w + n = 64) → (0 ≤ w) → (0 ≤ a ∧ a ≤ w * 1) → SPW mi_Mod_owned 226 4 [some (vR 219), some (vI a), some (vI w)] [] (st (μ)) (some (vI (a + sumF (n) w (fun w => if owd (μ 220) w then 1 else 0)))) (st (μ)) := by
  intro n
  induction n with
  | zero =>
    intro w a h0 h1 h2
    refine r_iloadn dd_Mod_owned_4 rfl ?_
    refine r_bip dd_Mod_owned_5 ⟨by decide, by decide⟩ ?_
    refine r_icmp_ge dd_Mod_owned_7 (fun c_7 => ?_) (fun c_7 => ?_)
    · refine r_iloadn dd_Mod_owned_32 rfl ?_
      exact r_retI dd_Mod_owned_33 (by rw [sumF_0]; omega) rfl
    · exfalso; omega
  | succ n ih =>
    intro w a h0 h1 h2
    have hb := hW.1 w h1 (by omega)
    refine r_iloadn dd_Mod_owned_4 rfl ?_
    refine r_bip dd_Mod_owned_5 ⟨by decide, by decide⟩ ?_
    refine r_icmp_ge dd_Mod_owned_7 (fun c_7 => ?_) (fun c_7 => ?_)
    · exfalso; omega
    · refine r_iloadn dd_Mod_owned_10 rfl ?_
      refine r_aloadn dd_Mod_owned_11 rfl ?_
      refine r_iloadn dd_Mod_owned_12 rfl ?_
      refine r_V1W dd_Mod_owned_13 ml_Mod_42 ok_Mod_isOwned vi_Mod_isOwned vk_219 (by decide) (clS rfl (Nat.le_refl _) (rmOK_self _ _)) rfl (c_Mod_isOwned (by omega) (by omega)) ?_
      refine r_if_eq_b dd_Mod_owned_16 (fun c_16 => ?_) (fun c_16 => ?_)
      · refine r_iconst dd_Mod_owned_23 ⟨by decide, by decide⟩ ?_
        refine r_iadd dd_Mod_owned_24 ⟨by omega, by omega⟩ ?_
        refine r_istoren (L' := [_, _, _]) dd_Mod_owned_25 rfl rfl ?_
        refine r_iinc (L' := [_, _, _]) dd_Mod_owned_26 rfl ⟨by omega, by omega⟩ rfl ?_
        refine r_goto dd_Mod_owned_29 ?_
        refine r_eqr (by rw [sumF_s]; first | (rw [if_pos (by omega)]; omega) | (rw [if_neg (by omega)]; omega)) (ih (w + 1) _ (by omega) (by omega) ⟨by omega, by omega⟩)
      · refine r_iconst dd_Mod_owned_19 ⟨by decide, by decide⟩ ?_
        refine r_goto dd_Mod_owned_20 ?_
        refine r_iadd dd_Mod_owned_24 ⟨by omega, by omega⟩ ?_
        refine r_istoren (L' := [_, _, _]) dd_Mod_owned_25 rfl rfl ?_
        refine r_iinc (L' := [_, _, _]) dd_Mod_owned_26 rfl ⟨by omega, by omega⟩ rfl ?_
        refine r_goto dd_Mod_owned_29 ?_
        refine r_eqr (by rw [sumF_s]; first | (rw [if_pos (by omega)]; omega) | (rw [if_neg (by omega)]; omega)) (ih (w + 1) _ (by omega) (by omega) ⟨by omega, by omega⟩)
theorem c_Mod_owned {μ : Int → Int → Int} {K : Int} (hW : MW K (μ 220)) : MetC mi_Mod_owned [vR 219] (st μ) (some (vI (owsM (μ 220)))) (st (μ)) := by
  refine met_of ?_ (Nat.le_of_ble_eq_true rfl) (by decide) trivial (by decide) (Nat.le_of_ble_eq_true rfl)
  show SPW mi_Mod_owned 226 0 [some (vR 219), none, none] [] (st μ) (some (vI (owsM (μ 220)))) (st (μ))
  refine r_iconst dd_Mod_owned_0 ⟨by decide, by decide⟩ ?_
  refine r_istoren (L' := [_, _, _]) dd_Mod_owned_1 rfl rfl ?_
  refine r_iconst dd_Mod_owned_2 ⟨by decide, by decide⟩ ?_
  refine r_istoren (L' := [_, _, _]) dd_Mod_owned_3 rfl rfl ?_
  exact r_eqr (Int.zero_add _) (l_Mod_owned hW 64 0 0 (by decide) (by decide) ⟨by decide, by decide⟩)
theorem l_Mod_asked {μ : Int → Int → Int} {K : Int} {t : Int} (hW : MW K (μ 220)) : ∀ (n : Nat) (w a : Int), (w + n = 64) → (0 ≤ w) → (0 ≤ a ∧ a ≤ w * 14) → SPW mi_Mod_asked 226 4 [some (vR 219), some (vI t), some (vI a), some (vI w)] [] (st (μ)) (some (vI (a + sumF (n) w (fun w => if owd (μ 220) w ∧ (t = 6 ∨ μ 220 (256 + w) = t) then μ 220 (320 + w) else 0)))) (st (μ)) := by
  intro n
  induction n with
  | zero =>
    intro w a h0 h1 h2
    refine r_iloadn dd_Mod_asked_4 rfl ?_
    refine r_bip dd_Mod_asked_5 ⟨by decide, by decide⟩ ?_
    refine r_icmp_ge dd_Mod_asked_7 (fun c_7 => ?_) (fun c_7 => ?_)
    · refine r_iloadn dd_Mod_asked_61 rfl ?_
      exact r_retI dd_Mod_asked_62 (by rw [sumF_0]; omega) rfl
    · exfalso; omega
  | succ n ih =>
    intro w a h0 h1 h2
    have hb := hW.1 w h1 (by omega)
    refine r_iloadn dd_Mod_asked_4 rfl ?_
    refine r_bip dd_Mod_asked_5 ⟨by decide, by decide⟩ ?_
    refine r_icmp_ge dd_Mod_asked_7 (fun c_7 => ?_) (fun c_7 => ?_)
    · exfalso; omega
    · refine r_iloadn dd_Mod_asked_10 rfl ?_
      refine r_aloadn dd_Mod_asked_11 rfl ?_
      refine r_iloadn dd_Mod_asked_12 rfl ?_
      refine r_V1W dd_Mod_asked_13 ml_Mod_42 ok_Mod_isOwned vi_Mod_isOwned vk_219 (by decide) (clS rfl (Nat.le_refl _) (rmOK_self _ _)) rfl (c_Mod_isOwned (by omega) (by omega)) ?_
      refine r_if_eq_b dd_Mod_asked_16 (fun c_16 => ?_) (fun c_16 => ?_)
      · refine r_iconst dd_Mod_asked_52 ⟨by decide, by decide⟩ ?_
        refine r_iadd dd_Mod_asked_53 ⟨by omega, by omega⟩ ?_
        refine r_istoren (L' := [_, _, _, _]) dd_Mod_asked_54 rfl rfl ?_
        refine r_iinc (L' := [_, _, _, _]) dd_Mod_asked_55 rfl ⟨by omega, by omega⟩ rfl ?_
        refine r_goto dd_Mod_asked_58 ?_
        refine r_eqr (by rw [sumF_s]; first | (rw [if_pos (by omega)]; omega) | (rw [if_neg (by omega)]; omega)) (ih (w + 1) _ (by omega) (by omega) ⟨by omega, by omega⟩)
      · refine r_iloadn dd_Mod_asked_19 rfl ?_
        refine r_bip dd_Mod_asked_20 ⟨by decide, by decide⟩ ?_
        refine r_icmp_eq dd_Mod_asked_22 (fun c_22 => ?_) (fun c_22 => ?_)
        · refine r_aloadn dd_Mod_asked_39 rfl ?_
          refine r_getR dd_Mod_asked_40 fl_Mod_7 (kI := 0) rfl fr_Mod_0 vk_219 R0_219_0 ?_
          refine r_sip dd_Mod_asked_43 ⟨by decide, by decide⟩ ?_
          refine r_iloadn dd_Mod_asked_46 rfl ?_
          refine r_iadd dd_Mod_asked_47 ⟨by omega, by omega⟩ ?_
          refine r_iald dd_Mod_asked_48 (q := 12) (by decide) vk_220 (by omega) (by show _ < ((472 : Nat) : Int); omega) ?_
          refine r_goto dd_Mod_asked_49 ?_
          refine r_iadd dd_Mod_asked_53 ⟨by omega, by omega⟩ ?_
          refine r_istoren (L' := [_, _, _, _]) dd_Mod_asked_54 rfl rfl ?_
          refine r_iinc (L' := [_, _, _, _]) dd_Mod_asked_55 rfl ⟨by omega, by omega⟩ rfl ?_
          refine r_goto dd_Mod_asked_58 ?_
          refine r_eqr (by rw [sumF_s]; first | (rw [if_pos (by omega)]; omega) | (rw [if_neg (by omega)]; omega)) (ih (w + 1) _ (by omega) (by omega) ⟨by omega, by omega⟩)
        · refine r_aloadn dd_Mod_asked_25 rfl ?_
          refine r_getR dd_Mod_asked_26 fl_Mod_7 (kI := 0) rfl fr_Mod_0 vk_219 R0_219_0 ?_
          refine r_sip dd_Mod_asked_29 ⟨by decide, by decide⟩ ?_
          refine r_iloadn dd_Mod_asked_32 rfl ?_
          refine r_iadd dd_Mod_asked_33 ⟨by omega, by omega⟩ ?_
          refine r_iald dd_Mod_asked_34 (q := 12) (by decide) vk_220 (by omega) (by show _ < ((472 : Nat) : Int); omega) ?_
          refine r_iloadn dd_Mod_asked_35 rfl ?_
          refine r_icmp_ne dd_Mod_asked_36 (fun c_36 => ?_) (fun c_36 => ?_)
          · refine r_iconst dd_Mod_asked_52 ⟨by decide, by decide⟩ ?_
            refine r_iadd dd_Mod_asked_53 ⟨by omega, by omega⟩ ?_
            refine r_istoren (L' := [_, _, _, _]) dd_Mod_asked_54 rfl rfl ?_
            refine r_iinc (L' := [_, _, _, _]) dd_Mod_asked_55 rfl ⟨by omega, by omega⟩ rfl ?_
            refine r_goto dd_Mod_asked_58 ?_
            refine r_eqr (by rw [sumF_s]; first | (rw [if_pos (by omega)]; omega) | (rw [if_neg (by omega)]; omega)) (ih (w + 1) _ (by omega) (by omega) ⟨by omega, by omega⟩)
          · refine r_aloadn dd_Mod_asked_39 rfl ?_
            refine r_getR dd_Mod_asked_40 fl_Mod_7 (kI := 0) rfl fr_Mod_0 vk_219 R0_219_0 ?_
            refine r_sip dd_Mod_asked_43 ⟨by decide, by decide⟩ ?_
            refine r_iloadn dd_Mod_asked_46 rfl ?_
            refine r_iadd dd_Mod_asked_47 ⟨by omega, by omega⟩ ?_
            refine r_iald dd_Mod_asked_48 (q := 12) (by decide) vk_220 (by omega) (by show _ < ((472 : Nat) : Int); omega) ?_
            refine r_goto dd_Mod_asked_49 ?_
            refine r_iadd dd_Mod_asked_53 ⟨by omega, by omega⟩ ?_
            refine r_istoren (L' := [_, _, _, _]) dd_Mod_asked_54 rfl rfl ?_
            refine r_iinc (L' := [_, _, _, _]) dd_Mod_asked_55 rfl ⟨by omega, by omega⟩ rfl ?_
            refine r_goto dd_Mod_asked_58 ?_
            refine r_eqr (by rw [sumF_s]; first | (rw [if_pos (by omega)]; omega) | (rw [if_neg (by omega)]; omega)) (ih (w + 1) _ (by omega) (by omega) ⟨by omega, by omega⟩)
theorem c_Mod_asked {μ : Int → Int → Int} {K t : Int} (hW : MW K (μ 220)) : MetC mi_Mod_asked [vR 219, vI t] (st μ) (some (vI (askdM (μ 220) t))) (st (μ)) := by
  refine met_of ?_ (Nat.le_of_ble_eq_true rfl) (by decide) trivial (by decide) (Nat.le_of_ble_eq_true rfl)
  show SPW mi_Mod_asked 226 0 [some (vR 219), some (vI t), none, none] [] (st μ) (some (vI (askdM (μ 220) t))) (st (μ))
  refine r_iconst dd_Mod_asked_0 ⟨by decide, by decide⟩ ?_
  refine r_istoren (L' := [_, _, _, _]) dd_Mod_asked_1 rfl rfl ?_
  refine r_iconst dd_Mod_asked_2 ⟨by decide, by decide⟩ ?_
  refine r_istoren (L' := [_, _, _, _]) dd_Mod_asked_3 rfl rfl ?_
  exact r_eqr (Int.zero_add _) (l_Mod_asked hW 64 0 0 (by decide) (by decide) ⟨by decide, by decide⟩)
theorem l_Mod_freeWords {μ : Int → Int → Int} {K : Int} (hW : MW K (μ 220)) : ∀ (n : Nat) (w a : Int), (w + n = 64) → (0 ≤ w) → (0 ≤ a ∧ a ≤ w * 16) → SPW mi_Mod_freeWords 226 4 [some (vR 219), some (vI a), some (vI w)] [] (st (μ)) (some (vI (a + sumF (n) w (fun w => if fre (μ 220) w then μ 220 (128 + w) else 0)))) (st (μ)) := by
  intro n
  induction n with
  | zero =>
    intro w a h0 h1 h2
    refine r_iloadn dd_Mod_freeWords_4 rfl ?_
    refine r_bip dd_Mod_freeWords_5 ⟨by decide, by decide⟩ ?_
    refine r_icmp_ge dd_Mod_freeWords_7 (fun c_7 => ?_) (fun c_7 => ?_)
    · refine r_iloadn dd_Mod_freeWords_41 rfl ?_
      exact r_retI dd_Mod_freeWords_42 (by rw [sumF_0]; omega) rfl
    · exfalso; omega
  | succ n ih =>
    intro w a h0 h1 h2
    have hb := hW.1 w h1 (by omega)
    refine r_iloadn dd_Mod_freeWords_4 rfl ?_
    refine r_bip dd_Mod_freeWords_5 ⟨by decide, by decide⟩ ?_
    refine r_icmp_ge dd_Mod_freeWords_7 (fun c_7 => ?_) (fun c_7 => ?_)
    · exfalso; omega
    · refine r_iloadn dd_Mod_freeWords_10 rfl ?_
      refine r_aloadn dd_Mod_freeWords_11 rfl ?_
      refine r_iloadn dd_Mod_freeWords_12 rfl ?_
      refine r_V1W dd_Mod_freeWords_13 ml_Mod_50 ok_Mod_isFree vi_Mod_isFree vk_219 (by decide) (clS rfl (Nat.le_refl _) (rmOK_self _ _)) rfl (c_Mod_isFree (by omega) (by omega)) ?_
      refine r_if_eq_b dd_Mod_freeWords_16 (fun c_16 => ?_) (fun c_16 => ?_)
      · refine r_iconst dd_Mod_freeWords_32 ⟨by decide, by decide⟩ ?_
        refine r_iadd dd_Mod_freeWords_33 ⟨by omega, by omega⟩ ?_
        refine r_istoren (L' := [_, _, _]) dd_Mod_freeWords_34 rfl rfl ?_
        refine r_iinc (L' := [_, _, _]) dd_Mod_freeWords_35 rfl ⟨by omega, by omega⟩ rfl ?_
        refine r_goto dd_Mod_freeWords_38 ?_
        refine r_eqr (by rw [sumF_s]; first | (rw [if_pos (by omega)]; omega) | (rw [if_neg (by omega)]; omega)) (ih (w + 1) _ (by omega) (by omega) ⟨by omega, by omega⟩)
      · refine r_aloadn dd_Mod_freeWords_19 rfl ?_
        refine r_getR dd_Mod_freeWords_20 fl_Mod_7 (kI := 0) rfl fr_Mod_0 vk_219 R0_219_0 ?_
        refine r_sip dd_Mod_freeWords_23 ⟨by decide, by decide⟩ ?_
        refine r_iloadn dd_Mod_freeWords_26 rfl ?_
        refine r_iadd dd_Mod_freeWords_27 ⟨by omega, by omega⟩ ?_
        refine r_iald dd_Mod_freeWords_28 (q := 12) (by decide) vk_220 (by omega) (by show _ < ((472 : Nat) : Int); omega) ?_
        refine r_goto dd_Mod_freeWords_29 ?_
        refine r_iadd dd_Mod_freeWords_33 ⟨by omega, by omega⟩ ?_
        refine r_istoren (L' := [_, _, _]) dd_Mod_freeWords_34 rfl rfl ?_
        refine r_iinc (L' := [_, _, _]) dd_Mod_freeWords_35 rfl ⟨by omega, by omega⟩ rfl ?_
        refine r_goto dd_Mod_freeWords_38 ?_
        refine r_eqr (by rw [sumF_s]; first | (rw [if_pos (by omega)]; omega) | (rw [if_neg (by omega)]; omega)) (ih (w + 1) _ (by omega) (by omega) ⟨by omega, by omega⟩)
theorem c_Mod_freeWords {μ : Int → Int → Int} {K : Int} (hW : MW K (μ 220)) : MetC mi_Mod_freeWords [vR 219] (st μ) (some (vI (frwM (μ 220)))) (st (μ)) := by
  refine met_of ?_ (Nat.le_of_ble_eq_true rfl) (by decide) trivial (by decide) (Nat.le_of_ble_eq_true rfl)
  show SPW mi_Mod_freeWords 226 0 [some (vR 219), none, none] [] (st μ) (some (vI (frwM (μ 220)))) (st (μ))
  refine r_iconst dd_Mod_freeWords_0 ⟨by decide, by decide⟩ ?_
  refine r_istoren (L' := [_, _, _]) dd_Mod_freeWords_1 rfl rfl ?_
  refine r_iconst dd_Mod_freeWords_2 ⟨by decide, by decide⟩ ?_
  refine r_istoren (L' := [_, _, _]) dd_Mod_freeWords_3 rfl rfl ?_
  exact r_eqr (Int.zero_add _) (l_Mod_freeWords hW 64 0 0 (by decide) (by decide) ⟨by decide, by decide⟩)
theorem c_Mod_isLeak {μ : Int → Int → Int} {K w : Int} (hW : MW K (μ 220)) (h1 : 0 ≤ w) (h2 : w < 64) : MetC mi_Mod_isLeak [vR 219, vI w] (st μ) (some (vI (b2 (lkM (μ 220) w)))) (st (μ)) := by
  refine met_of ?_ (Nat.le_of_ble_eq_true rfl) (by decide) b2_01 (by decide) (Nat.le_of_ble_eq_true rfl)
  show SPW mi_Mod_isLeak 226 0 [some (vR 219), some (vI w)] [] (st μ) (some (vI (b2 (lkM (μ 220) w)))) (st (μ))
  have hb := hW.1 w h1 h2
  have hc := hW.2.2.1
  have hp := hW.2.2.2.1
  refine r_aloadn dd_Mod_isLeak_0 rfl ?_
  refine r_iloadn dd_Mod_isLeak_1 rfl ?_
  refine r_V1W dd_Mod_isLeak_2 ml_Mod_42 ok_Mod_isOwned vi_Mod_isOwned vk_219 (by decide) (clS rfl (Nat.le_refl _) (rmOK_self _ _)) rfl (c_Mod_isOwned (by omega) (by omega)) ?_
  refine r_if_eq_b dd_Mod_isLeak_5 (fun c_5 => ?_) (fun c_5 => ?_)
  · refine r_iconst dd_Mod_isLeak_65 ⟨by decide, by decide⟩ ?_
    exact r_retI dd_Mod_isLeak_66 (by first | rfl | omega | exact (b2_t (by first | assumption | omega)).symm | exact (b2_f (by first | assumption | omega)).symm) rfl
  · refine r_aloadn dd_Mod_isLeak_8 rfl ?_
    refine r_getR dd_Mod_isLeak_9 fl_Mod_7 (kI := 0) rfl fr_Mod_0 vk_219 R0_219_0 ?_
    refine r_sip dd_Mod_isLeak_12 ⟨by decide, by decide⟩ ?_
    refine r_aloadn dd_Mod_isLeak_15 rfl ?_
    refine r_getR dd_Mod_isLeak_16 fl_Mod_7 (kI := 0) rfl fr_Mod_0 vk_219 R0_219_0 ?_
    refine r_sip dd_Mod_isLeak_19 ⟨by decide, by decide⟩ ?_
    refine r_iloadn dd_Mod_isLeak_22 rfl ?_
    refine r_iadd dd_Mod_isLeak_23 ⟨by omega, by omega⟩ ?_
    refine r_iald dd_Mod_isLeak_24 (q := 12) (by decide) vk_220 (by omega) (by show _ < ((472 : Nat) : Int); omega) ?_
    refine r_iadd dd_Mod_isLeak_25 ⟨by omega, by omega⟩ ?_
    refine r_iald dd_Mod_isLeak_26 (q := 12) (by decide) vk_220 (by omega) (by show _ < ((472 : Nat) : Int); omega) ?_
    refine r_iconst dd_Mod_isLeak_27 ⟨by decide, by decide⟩ ?_
    refine r_icmp_eq dd_Mod_isLeak_28 (fun c_28 => ?_) (fun c_28 => ?_)
    · refine r_iconst dd_Mod_isLeak_61 ⟨by decide, by decide⟩ ?_
      refine r_goto dd_Mod_isLeak_62 ?_
      exact r_retI dd_Mod_isLeak_66 (by first | rfl | omega | exact (b2_t (by first | assumption | omega)).symm | exact (b2_f (by first | assumption | omega)).symm) rfl
    · refine r_aloadn dd_Mod_isLeak_31 rfl ?_
      refine r_getR dd_Mod_isLeak_32 fl_Mod_7 (kI := 0) rfl fr_Mod_0 vk_219 R0_219_0 ?_
      refine r_sip dd_Mod_isLeak_35 ⟨by decide, by decide⟩ ?_
      refine r_iald dd_Mod_isLeak_38 (q := 12) (by decide) vk_220 (by omega) (by show _ < ((472 : Nat) : Int); omega) ?_
      refine r_aloadn dd_Mod_isLeak_39 rfl ?_
      refine r_getR dd_Mod_isLeak_40 fl_Mod_7 (kI := 0) rfl fr_Mod_0 vk_219 R0_219_0 ?_
      refine r_sip dd_Mod_isLeak_43 ⟨by decide, by decide⟩ ?_
      refine r_iloadn dd_Mod_isLeak_46 rfl ?_
      refine r_iadd dd_Mod_isLeak_47 ⟨by omega, by omega⟩ ?_
      refine r_iald dd_Mod_isLeak_48 (q := 12) (by decide) vk_220 (by omega) (by show _ < ((472 : Nat) : Int); omega) ?_
      refine r_isub dd_Mod_isLeak_49 ⟨by omega, by omega⟩ ?_
      refine r_aloadn dd_Mod_isLeak_50 rfl ?_
      refine r_getR dd_Mod_isLeak_51 fl_Mod_7 (kI := 0) rfl fr_Mod_0 vk_219 R0_219_0 ?_
      refine r_sip dd_Mod_isLeak_54 ⟨by decide, by decide⟩ ?_
      refine r_iald dd_Mod_isLeak_57 (q := 12) (by decide) vk_220 (by omega) (by show _ < ((472 : Nat) : Int); omega) ?_
      refine r_icmp_lt dd_Mod_isLeak_58 (fun c_58 => ?_) (fun c_58 => ?_)
      · refine r_iconst dd_Mod_isLeak_65 ⟨by decide, by decide⟩ ?_
        exact r_retI dd_Mod_isLeak_66 (by first | rfl | omega | exact (b2_t (by first | assumption | omega)).symm | exact (b2_f (by first | assumption | omega)).symm) rfl
      · refine r_iconst dd_Mod_isLeak_61 ⟨by decide, by decide⟩ ?_
        refine r_goto dd_Mod_isLeak_62 ?_
        exact r_retI dd_Mod_isLeak_66 (by first | rfl | omega | exact (b2_t (by first | assumption | omega)).symm | exact (b2_f (by first | assumption | omega)).symm) rfl
theorem l_Mod_leaks {μ : Int → Int → Int} {K : Int} {t : Int} (hW : MW K (μ 220)) : ∀ (n : Nat) (w a : Int), (w + n = 64) → (0 ≤ w) → (0 ≤ a ∧ a ≤ w * 1) → SPW mi_Mod_leaks 226 4 [some (vR 219), some (vI t), some (vI a), some (vI w)] [] (st (μ)) (some (vI (a + sumF (n) w (fun w => if lkM (μ 220) w ∧ (t = 6 ∨ μ 220 (256 + w) = t) then 1 else 0)))) (st (μ)) := by
  intro n
  induction n with
  | zero =>
    intro w a h0 h1 h2
    refine r_iloadn dd_Mod_leaks_4 rfl ?_
    refine r_bip dd_Mod_leaks_5 ⟨by decide, by decide⟩ ?_
    refine r_icmp_ge dd_Mod_leaks_7 (fun c_7 => ?_) (fun c_7 => ?_)
    · refine r_iloadn dd_Mod_leaks_52 rfl ?_
      exact r_retI dd_Mod_leaks_53 (by rw [sumF_0]; omega) rfl
    · exfalso; omega
  | succ n ih =>
    intro w a h0 h1 h2
    have hb := hW.1 w h1 (by omega)
    refine r_iloadn dd_Mod_leaks_4 rfl ?_
    refine r_bip dd_Mod_leaks_5 ⟨by decide, by decide⟩ ?_
    refine r_icmp_ge dd_Mod_leaks_7 (fun c_7 => ?_) (fun c_7 => ?_)
    · exfalso; omega
    · refine r_iloadn dd_Mod_leaks_10 rfl ?_
      refine r_aloadn dd_Mod_leaks_11 rfl ?_
      refine r_iloadn dd_Mod_leaks_12 rfl ?_
      refine r_V1W dd_Mod_leaks_13 ml_Mod_68 ok_Mod_isLeak vi_Mod_isLeak vk_219 (by decide) (clS rfl (Nat.le_refl _) (rmOK_self _ _)) rfl (c_Mod_isLeak hW (by omega) (by omega)) ?_
      refine r_if_eq_b dd_Mod_leaks_16 (fun c_16 => ?_) (fun c_16 => ?_)
      · refine r_iconst dd_Mod_leaks_43 ⟨by decide, by decide⟩ ?_
        refine r_iadd dd_Mod_leaks_44 ⟨by omega, by omega⟩ ?_
        refine r_istoren (L' := [_, _, _, _]) dd_Mod_leaks_45 rfl rfl ?_
        refine r_iinc (L' := [_, _, _, _]) dd_Mod_leaks_46 rfl ⟨by omega, by omega⟩ rfl ?_
        refine r_goto dd_Mod_leaks_49 ?_
        refine r_eqr (by rw [sumF_s]; first | (rw [if_pos (by omega)]; omega) | (rw [if_neg (by omega)]; omega)) (ih (w + 1) _ (by omega) (by omega) ⟨by omega, by omega⟩)
      · refine r_iloadn dd_Mod_leaks_19 rfl ?_
        refine r_bip dd_Mod_leaks_20 ⟨by decide, by decide⟩ ?_
        refine r_icmp_eq dd_Mod_leaks_22 (fun c_22 => ?_) (fun c_22 => ?_)
        · refine r_iconst dd_Mod_leaks_39 ⟨by decide, by decide⟩ ?_
          refine r_goto dd_Mod_leaks_40 ?_
          refine r_iadd dd_Mod_leaks_44 ⟨by omega, by omega⟩ ?_
          refine r_istoren (L' := [_, _, _, _]) dd_Mod_leaks_45 rfl rfl ?_
          refine r_iinc (L' := [_, _, _, _]) dd_Mod_leaks_46 rfl ⟨by omega, by omega⟩ rfl ?_
          refine r_goto dd_Mod_leaks_49 ?_
          refine r_eqr (by rw [sumF_s]; first | (rw [if_pos (by omega)]; omega) | (rw [if_neg (by omega)]; omega)) (ih (w + 1) _ (by omega) (by omega) ⟨by omega, by omega⟩)
        · refine r_aloadn dd_Mod_leaks_25 rfl ?_
          refine r_getR dd_Mod_leaks_26 fl_Mod_7 (kI := 0) rfl fr_Mod_0 vk_219 R0_219_0 ?_
          refine r_sip dd_Mod_leaks_29 ⟨by decide, by decide⟩ ?_
          refine r_iloadn dd_Mod_leaks_32 rfl ?_
          refine r_iadd dd_Mod_leaks_33 ⟨by omega, by omega⟩ ?_
          refine r_iald dd_Mod_leaks_34 (q := 12) (by decide) vk_220 (by omega) (by show _ < ((472 : Nat) : Int); omega) ?_
          refine r_iloadn dd_Mod_leaks_35 rfl ?_
          refine r_icmp_ne dd_Mod_leaks_36 (fun c_36 => ?_) (fun c_36 => ?_)
          · refine r_iconst dd_Mod_leaks_43 ⟨by decide, by decide⟩ ?_
            refine r_iadd dd_Mod_leaks_44 ⟨by omega, by omega⟩ ?_
            refine r_istoren (L' := [_, _, _, _]) dd_Mod_leaks_45 rfl rfl ?_
            refine r_iinc (L' := [_, _, _, _]) dd_Mod_leaks_46 rfl ⟨by omega, by omega⟩ rfl ?_
            refine r_goto dd_Mod_leaks_49 ?_
            refine r_eqr (by rw [sumF_s]; first | (rw [if_pos (by omega)]; omega) | (rw [if_neg (by omega)]; omega)) (ih (w + 1) _ (by omega) (by omega) ⟨by omega, by omega⟩)
          · refine r_iconst dd_Mod_leaks_39 ⟨by decide, by decide⟩ ?_
            refine r_goto dd_Mod_leaks_40 ?_
            refine r_iadd dd_Mod_leaks_44 ⟨by omega, by omega⟩ ?_
            refine r_istoren (L' := [_, _, _, _]) dd_Mod_leaks_45 rfl rfl ?_
            refine r_iinc (L' := [_, _, _, _]) dd_Mod_leaks_46 rfl ⟨by omega, by omega⟩ rfl ?_
            refine r_goto dd_Mod_leaks_49 ?_
            refine r_eqr (by rw [sumF_s]; first | (rw [if_pos (by omega)]; omega) | (rw [if_neg (by omega)]; omega)) (ih (w + 1) _ (by omega) (by omega) ⟨by omega, by omega⟩)
theorem c_Mod_leaks {μ : Int → Int → Int} {K t : Int} (hW : MW K (μ 220)) : MetC mi_Mod_leaks [vR 219, vI t] (st μ) (some (vI (lksM (μ 220) t))) (st (μ)) := by
  refine met_of ?_ (Nat.le_of_ble_eq_true rfl) (by decide) trivial (by decide) (Nat.le_of_ble_eq_true rfl)
  show SPW mi_Mod_leaks 226 0 [some (vR 219), some (vI t), none, none] [] (st μ) (some (vI (lksM (μ 220) t))) (st (μ))
  refine r_iconst dd_Mod_leaks_0 ⟨by decide, by decide⟩ ?_
  refine r_istoren (L' := [_, _, _, _]) dd_Mod_leaks_1 rfl rfl ?_
  refine r_iconst dd_Mod_leaks_2 ⟨by decide, by decide⟩ ?_
  refine r_istoren (L' := [_, _, _, _]) dd_Mod_leaks_3 rfl rfl ?_
  exact r_eqr (Int.zero_add _) (l_Mod_leaks hW 64 0 0 (by decide) (by decide) ⟨by decide, by decide⟩)

/-! more of the reference that only reads -/
theorem begOf_rg (m : Int → Int) (b : Int) : begOf m b = -5 ∨ (0 ≤ begOf m b ∧ begOf m b < 64 ∧ owd m (begOf m b) ∧ m (192 + begOf m b) = b) := by
  rcases fstF_rg (p := fun w => owd m w ∧ m (192 + w) = b) 64 0 with h | ⟨h1, h2, h3⟩
  · exact Or.inl h
  · exact Or.inr ⟨h1, h2, h3.1, h3.2⟩
theorem lowF_rg (m : Int → Int) (z : Int) : lowF m z = -5 ∨ (0 ≤ lowF m z ∧ lowF m z < 64 ∧ fre m (lowF m z) ∧ m (128 + lowF m z) = z) := by
  rcases fstF_rg (p := fun w => fre m w ∧ m (128 + w) = z) 64 0 with h | ⟨h1, h2, h3⟩
  · exact Or.inl h
  · exact Or.inr ⟨h1, h2, h3.1, h3.2⟩
theorem szM_rg (words : Int) : szM words = 4 ∨ szM words = 8 ∨ szM words = 16 := by
  unfold szM
  split
  · exact Or.inl rfl
  · split
    · exact Or.inr (Or.inl rfl)
    · exact Or.inr (Or.inr rfl)
theorem wdsM_bd {K : Int} {m : Int → Int} (hW : MW K m) (t : Int) : 0 ≤ wdsM m t ∧ wdsM m t ≤ 1024 := by
  have h := sumF_bd (c := 16) (f := fun w => if owd m w ∧ m (256 + w) = t then m (128 + w) else 0) 64 0 (fun j h1 h2 => by
    have hb := hW.1 j h1 (by omega)
    split <;> omega)
  unfold wdsM
  omega
theorem sum1_bd (p : Int → Prop) [DecidablePred p] : 0 ≤ sumF 64 0 (fun w => if p w then 1 else 0) ∧ sumF 64 0 (fun w => if p w then 1 else 0) ≤ 64 := by
  have h := sumF_bd (c := 1) (f := fun w => if p w then 1 else 0) 64 0 (fun j h1 h2 => by
    split <;> omega)
  omega
theorem lksM_bd (m : Int → Int) (t : Int) : 0 ≤ lksM m t ∧ lksM m t ≤ 64 := sum1_bd _
theorem frwM_bd {K : Int} {m : Int → Int} (hW : MW K m) : 0 ≤ frwM m ∧ frwM m ≤ 1024 := by
  have h := sumF_bd (c := 16) (f := fun w => if fre m w then m (128 + w) else 0) 64 0 (fun j h1 h2 => by
    have hb := hW.1 j h1 (by omega)
    split <;> omega)
  unfold frwM
  omega
theorem askdM_bd {K : Int} {m : Int → Int} (hW : MW K m) (t : Int) : 0 ≤ askdM m t ∧ askdM m t ≤ 896 := by
  have h := sumF_bd (c := 14) (f := fun w => if owd m w ∧ (t = 6 ∨ m (256 + w) = t) then m (320 + w) else 0) 64 0 (fun j h1 h2 => by
    have hb := hW.1 j h1 (by omega)
    split <;> omega)
  unfold askdM
  omega
theorem brk_bd {K : Int} {m : Int → Int} (hW : MW K m) {w : Int} (h0 : 0 ≤ w) (h1 : w < 64) : 0 ≤ m (64 + w + m (320 + w) + 1) ∧ m (64 + w + m (320 + w) + 1) ≤ 16 := by
  have hb := hW.1 w h0 h1
  by_cases h : w + m (320 + w) + 1 < 64
  · have h2 := (hW.1 (w + m (320 + w) + 1) (by omega) h).1
    rw [show 64 + w + m (320 + w) + 1 = 64 + (w + m (320 + w) + 1) by omega]
    omega
  · have h2 := (hW.1 (w + m (320 + w) + 1 - 64) (by omega) (by omega)).2.1
    rw [show 64 + w + m (320 + w) + 1 = 128 + (w + m (320 + w) + 1 - 64) by omega]
    exact h2
theorem bgF_y {m : Int → Int} {n : Nat} {w : Int} (h : m (128 + w) ≠ 0) : bgF m (n + 1) w = w := if_neg h
theorem bgF_n {m : Int → Int} {n : Nat} {w : Int} (h : m (128 + w) = 0) : bgF m (n + 1) w = bgF m n (w + -1) := if_pos h
theorem bgF_rg {m : Int → Int} (hz : m 128 ≠ 0) : ∀ (n : Nat) (w : Int), 0 ≤ w → w < n → 0 ≤ bgF m n w ∧ bgF m n w ≤ w ∧ m (128 + bgF m n w) ≠ 0
  | 0, w, h0, h1 => by omega
  | n + 1, w, h0, h1 => by
    by_cases h : m (128 + w) = 0
    · rw [bgF_n h]
      have hw : w ≠ 0 := fun e => by subst e; exact hz h
      have := bgF_rg hz n (w + -1) (by omega) (by omega)
      omega
    · rw [bgF_y h]
      exact ⟨h0, Int.le_refl _, h⟩
theorem bgn_rg {m : Int → Int} (hz : m 128 ≠ 0) {w : Int} (h0 : 0 ≤ w) (h1 : w < 64) : 0 ≤ bgn m w ∧ bgn m w ≤ w ∧ m (128 + bgn m w) ≠ 0 := bgF_rg hz 64 w h0 h1
def askFM (m : Int → Int) (t words : Int) : Int := if t < 0 ∨ 5 < t then -1 else if words < 1 ∨ 14 < words then -2 else if m 471 = 300 then -3 else if 0 < whyM m t words then -6 else 0
def bkFM (m : Int → Int) (t b : Int) : Int := if (t < 0 ∨ 5 < t) ∨ begOf m b = -5 then -1 else if m (256 + begOf m b) ≠ t then -4 else 0
def psFM (m : Int → Int) (ticks : Int) : Int := if ticks < 1 ∨ 500 < ticks then -2 else if 9999 < m 466 + ticks then -3 else 0
def snM (z : Int) : Int := if z = 4 then 0 else if z = 8 then 1 else 2
def blockS (m : Int → Int) (b what : Int) : Int :=
  if begOf m b = -5 then -1 else if what = 0 then begOf m b else if what = 1 then snM (m (128 + begOf m b)) else if what = 2 then m (256 + begOf m b) else if what = 3 then m (320 + begOf m b)
  else if what = 4 then brkM m (begOf m b) else if what = 5 then m 466 - m (384 + begOf m b) else if what = 6 then b2 (lkM m (begOf m b)) else -2
def wordS (m : Int → Int) (w what : Int) : Int :=
  if w < 0 ∨ 63 < w then -1 else if what = 0 then m (0 + w) else if what = 1 then m (192 + bgn m w) else if what = 2 then b2 (grdM m w) else if what = 3 then snM (m (128 + bgn m w)) else -2
def taskS (m : Int → Int) (t what : Int) : Int :=
  if t < 0 ∨ 5 < t then -1 else if what = 0 then 1 - m (448 + t) else if what = 1 then blksM m t else if what = 2 then wdsM m t else if what = 3 then askdM m t else if what = 4 then m (454 + t) else if what = 5 then lksM m t else if what = 6 then m (460 + t) else -2
def reasS (m : Int → Int) (t words : Int) : Int := if t < 0 ∨ 5 < t then -1 else if words < 1 ∨ 14 < words then -2 else whyM m t words
def grF (m : Int → Int) (t : Int) : Nat → Int
  | 0 => -5
  | n + 1 => if whyM m t ((n + 1 : Nat) : Int) = 0 then ((n + 1 : Nat) : Int) else grF m t n
def greaS (m : Int → Int) (t : Int) : Int := if t < 0 ∨ 5 < t then -1 else grF m t 14
def lkF (m : Int → Int) (rank : Int) : Int := fstF (fun w => lkM m w ∧ ahdM m w = rank) 64 0
def leakS (m : Int → Int) (rank : Int) : Int := if rank < 0 then -2 else if lkF m rank = -5 then -5 else m (192 + lkF m rank)
def countS (μ : Int → Int → Int) (what : Int) : Int :=
  if what = 0 then owsM (μ 220) else if what = 1 then frwM (μ 220) else if what = 2 then 64 - frwM (μ 220) - askdM (μ 220) 6 else if what = 3 then lksM (μ 220) 6 else if what = 4 then μ 220 466
  else if what = 5 then μ 220 468 else if what = 6 then μ 220 469 else if what = 7 then μ 220 470 else if what = 8 then μ 220 471 else if what = 9 then μ 220 467 else if what = 10 then μ 219 3 else if what = 11 then μ 219 8 else -2
def szcM (m : Int → Int) (z what : Int) : Int := sumF 64 0 (fun w => if m (128 + w) = z ∧ ((what = 0 ∧ fre m w) ∨ (what ≠ 0 ∧ owd m w)) then 1 else 0)
def sizeS (m : Int → Int) (z what : Int) : Int := if z < 0 ∨ 2 < z then -1 else if what = 2 then lowF m (p4 z) else if what = 0 ∨ what = 1 then szcM m (p4 z) what else -2

theorem l_Mod_beginAt {μ : Int → Int → Int} {word : Int} (hz : μ 220 128 ≠ 0) : ∀ (n : Nat) (w : Int), 0 ≤ w → w < n → w < 64 → SPW mi_Mod_beginAt 226 2 [some (vR 219), some (vI word), some (vI w)] [] (st μ) (some (vI (bgF (μ 220) n w))) (st μ) := by
  intro n
  induction n with
  | zero => intro w h0 h1 h2; exfalso; omega
  | succ n ih =>
    intro w h0 h1 h2
    have hw : μ 220 (128 + w) = 0 → w ≠ 0 := fun h e => by subst e; exact hz h
    refine r_aloadn dd_Mod_beginAt_2 rfl ?_
    refine r_getR dd_Mod_beginAt_3 fl_Mod_7 (kI := 0) rfl fr_Mod_0 vk_219 R0_219_0 ?_
    refine r_sip dd_Mod_beginAt_6 ⟨by decide, by decide⟩ ?_
    refine r_iloadn dd_Mod_beginAt_9 rfl ?_
    refine r_iadd dd_Mod_beginAt_10 ⟨by omega, by omega⟩ ?_
    refine r_iald dd_Mod_beginAt_11 (q := 12) (by decide) vk_220 (by omega) (by show _ < ((472 : Nat) : Int); omega) ?_
    refine r_if_ne dd_Mod_beginAt_12 (fun c_12 => ?_) (fun c_12 => ?_)
    · refine r_iloadn dd_Mod_beginAt_21 rfl ?_
      exact r_retI dd_Mod_beginAt_22 (bgF_y (by omega)).symm rfl
    · refine r_iinc (L' := [_, _, _]) dd_Mod_beginAt_15 rfl ⟨by omega, by omega⟩ rfl ?_
      refine r_goto dd_Mod_beginAt_18 ?_
      refine r_eqr (bgF_n (by omega)).symm (ih (w + -1) (by omega) (by omega) (by omega))
theorem c_Mod_beginAt {μ : Int → Int → Int} {word : Int} (hz : μ 220 128 ≠ 0) (h0 : 0 ≤ word) (h1 : word < 64) : MetC mi_Mod_beginAt [vR 219, vI word] (st μ) (some (vI (bgn (μ 220) word))) (st (μ)) := by
  refine met_of ?_ (Nat.le_of_ble_eq_true rfl) (by decide) trivial (by decide) (Nat.le_of_ble_eq_true rfl)
  show SPW mi_Mod_beginAt 226 0 [some (vR 219), some (vI word), none] [] (st μ) (some (vI (bgn (μ 220) word))) (st (μ))
  refine r_iloadn dd_Mod_beginAt_0 rfl ?_
  refine r_istoren (L' := [_, _, _]) dd_Mod_beginAt_1 rfl rfl ?_
  exact l_Mod_beginAt hz 64 word h0 (by omega) h1
theorem c_Mod_isGuard {μ : Int → Int → Int} {K word : Int} (hW : MW K (μ 220)) (hz : μ 220 128 ≠ 0) (h0 : 0 ≤ word) (h1 : word < 64) : MetC mi_Mod_isGuard [vR 219, vI word] (st μ) (some (vI (b2 (grdM (μ 220) word)))) (st (μ)) := by
  refine met_of ?_ (Nat.le_of_ble_eq_true rfl) (by decide) b2_01 (by decide) (Nat.le_of_ble_eq_true rfl)
  show SPW mi_Mod_isGuard 226 0 [some (vR 219), some (vI word), none] [] (st μ) (some (vI (b2 (grdM (μ 220) word)))) (st (μ))
  have hr := bgn_rg hz h0 h1
  have hb := hW.1 (bgn (μ 220) word) (by omega) (by omega)
  refine r_aloadn dd_Mod_isGuard_0 rfl ?_
  refine r_iloadn dd_Mod_isGuard_1 rfl ?_
  refine r_V1W dd_Mod_isGuard_2 ml_Mod_46 ok_Mod_beginAt vi_Mod_beginAt vk_219 (by decide) (clS rfl (Nat.le_refl _) (rmOK_self _ _)) rfl (c_Mod_beginAt hz h0 h1) ?_
  refine r_istoren (L' := [_, _, _]) dd_Mod_isGuard_5 rfl rfl ?_
  refine r_aloadn dd_Mod_isGuard_6 rfl ?_
  refine r_iloadn dd_Mod_isGuard_7 rfl ?_
  refine r_V1W dd_Mod_isGuard_8 ml_Mod_42 ok_Mod_isOwned vi_Mod_isOwned vk_219 (by decide) (clS rfl (Nat.le_refl _) (rmOK_self _ _)) rfl (c_Mod_isOwned (by omega) (by omega)) ?_
  refine r_if_eq_b dd_Mod_isGuard_11 (fun c_11 => ?_) (fun c_11 => ?_)
  · refine r_iconst dd_Mod_isGuard_41 ⟨by decide, by decide⟩ ?_
    exact r_retI dd_Mod_isGuard_42 (by first | rfl | omega | exact (b2_t (by first | assumption | omega)).symm | exact (b2_f (by first | assumption | omega)).symm) rfl
  · refine r_iloadn dd_Mod_isGuard_14 rfl ?_
    refine r_iloadn dd_Mod_isGuard_15 rfl ?_
    refine r_icmp_eq dd_Mod_isGuard_16 (fun c_16 => ?_) (fun c_16 => ?_)
    · refine r_iconst dd_Mod_isGuard_37 ⟨by decide, by decide⟩ ?_
      refine r_goto dd_Mod_isGuard_38 ?_
      exact r_retI dd_Mod_isGuard_42 (by first | rfl | omega | exact (b2_t (by first | assumption | omega)).symm | exact (b2_f (by first | assumption | omega)).symm) rfl
    · refine r_iloadn dd_Mod_isGuard_19 rfl ?_
      refine r_iloadn dd_Mod_isGuard_20 rfl ?_
      refine r_aloadn dd_Mod_isGuard_21 rfl ?_
      refine r_getR dd_Mod_isGuard_22 fl_Mod_7 (kI := 0) rfl fr_Mod_0 vk_219 R0_219_0 ?_
      refine r_sip dd_Mod_isGuard_25 ⟨by decide, by decide⟩ ?_
      refine r_iloadn dd_Mod_isGuard_28 rfl ?_
      refine r_iadd dd_Mod_isGuard_29 ⟨by omega, by omega⟩ ?_
      refine r_iald dd_Mod_isGuard_30 (q := 12) (by decide) vk_220 (by omega) (by show _ < ((472 : Nat) : Int); omega) ?_
      refine r_iadd dd_Mod_isGuard_31 ⟨by omega, by omega⟩ ?_
      refine r_iconst dd_Mod_isGuard_32 ⟨by decide, by decide⟩ ?_
      refine r_iadd dd_Mod_isGuard_33 ⟨by omega, by omega⟩ ?_
      refine r_icmp_ne dd_Mod_isGuard_34 (fun c_34 => ?_) (fun c_34 => ?_)
      · refine r_iconst dd_Mod_isGuard_41 ⟨by decide, by decide⟩ ?_
        exact r_retI dd_Mod_isGuard_42 (by first | rfl | omega | exact (b2_t (by first | assumption | omega)).symm | exact (b2_f (by first | assumption | omega)).symm) rfl
      · refine r_iconst dd_Mod_isGuard_37 ⟨by decide, by decide⟩ ?_
        refine r_goto dd_Mod_isGuard_38 ?_
        exact r_retI dd_Mod_isGuard_42 (by first | rfl | omega | exact (b2_t (by first | assumption | omega)).symm | exact (b2_f (by first | assumption | omega)).symm) rfl
theorem c_Mod_broken {μ : Int → Int → Int} {K w : Int} (hW : MW K (μ 220)) (h0 : 0 ≤ w) (h1 : w < 64) : MetC mi_Mod_broken [vR 219, vI w] (st μ) (some (vI (brkM (μ 220) w))) (st (μ)) := by
  refine met_of ?_ (Nat.le_of_ble_eq_true rfl) (by decide) trivial (by decide) (Nat.le_of_ble_eq_true rfl)
  show SPW mi_Mod_broken 226 0 [some (vR 219), some (vI w)] [] (st μ) (some (vI (brkM (μ 220) w))) (st (μ))
  have hb := hW.1 w h0 h1
  have hk := brk_bd hW h0 h1
  refine r_aloadn dd_Mod_broken_0 rfl ?_
  refine r_getR dd_Mod_broken_1 fl_Mod_7 (kI := 0) rfl fr_Mod_0 vk_219 R0_219_0 ?_
  refine r_bip dd_Mod_broken_4 ⟨by decide, by decide⟩ ?_
  refine r_iloadn dd_Mod_broken_6 rfl ?_
  refine r_iadd dd_Mod_broken_7 ⟨by omega, by omega⟩ ?_
  refine r_iald dd_Mod_broken_8 (q := 12) (by decide) vk_220 (by omega) (by show _ < ((472 : Nat) : Int); omega) ?_
  refine r_aloadn dd_Mod_broken_9 rfl ?_
  refine r_getR dd_Mod_broken_10 fl_Mod_7 (kI := 0) rfl fr_Mod_0 vk_219 R0_219_0 ?_
  refine r_bip dd_Mod_broken_13 ⟨by decide, by decide⟩ ?_
  refine r_iloadn dd_Mod_broken_15 rfl ?_
  refine r_iadd dd_Mod_broken_16 ⟨by omega, by omega⟩ ?_
  refine r_aloadn dd_Mod_broken_17 rfl ?_
  refine r_getR dd_Mod_broken_18 fl_Mod_7 (kI := 0) rfl fr_Mod_0 vk_219 R0_219_0 ?_
  refine r_sip dd_Mod_broken_21 ⟨by decide, by decide⟩ ?_
  refine r_iloadn dd_Mod_broken_24 rfl ?_
  refine r_iadd dd_Mod_broken_25 ⟨by omega, by omega⟩ ?_
  refine r_iald dd_Mod_broken_26 (q := 12) (by decide) vk_220 (by omega) (by show _ < ((472 : Nat) : Int); omega) ?_
  refine r_iadd dd_Mod_broken_27 ⟨by omega, by omega⟩ ?_
  refine r_iconst dd_Mod_broken_28 ⟨by decide, by decide⟩ ?_
  refine r_iadd dd_Mod_broken_29 ⟨by omega, by omega⟩ ?_
  refine r_iald dd_Mod_broken_30 (q := 12) (by decide) vk_220 (by omega) (by show _ < ((472 : Nat) : Int); omega) ?_
  refine r_iadd dd_Mod_broken_31 ⟨by omega, by omega⟩ ?_
  exact r_retI dd_Mod_broken_32 (by unfold brkM; omega) rfl
theorem c_Mod_why {μ : Int → Int → Int} {K t words : Int} (hW : MW K (μ 220)) (h0 : 0 ≤ t) (h1 : t < 6) : MetC mi_Mod_why [vR 219, vI t, vI words] (st μ) (some (vI (whyM (μ 220) t words))) (st (μ)) := by
  refine met_of ?_ (Nat.le_of_ble_eq_true rfl) (by decide) trivial (by decide) (Nat.le_of_ble_eq_true rfl)
  show SPW mi_Mod_why 226 0 [some (vR 219), some (vI t), some (vI words), none] [] (st μ) (some (vI (whyM (μ 220) t words))) (st (μ))
  have hb := wdsM_bd hW t
  have hc := hW.2.1 t h0 h1
  have hs := szM_rg words
  refine r_iloadn dd_Mod_why_0 rfl ?_
  refine r_S1W dd_Mod_why_1 ml_Mod_53 ok_Mod_sizeFor st_Mod_sizeFor (clS rfl (Nat.le_refl _) (rmOK_self _ _)) rfl c_Mod_sizeFor ?_
  refine r_istoren (L' := [_, _, _, _]) dd_Mod_why_4 rfl rfl ?_
  refine r_aloadn dd_Mod_why_5 rfl ?_
  refine r_getR dd_Mod_why_6 fl_Mod_7 (kI := 0) rfl fr_Mod_0 vk_219 R0_219_0 ?_
  refine r_sip dd_Mod_why_9 ⟨by decide, by decide⟩ ?_
  refine r_iloadn dd_Mod_why_12 rfl ?_
  refine r_iadd dd_Mod_why_13 ⟨by omega, by omega⟩ ?_
  refine r_iald dd_Mod_why_14 (q := 12) (by decide) vk_220 (by omega) (by show _ < ((472 : Nat) : Int); omega) ?_
  refine r_iconst dd_Mod_why_15 ⟨by decide, by decide⟩ ?_
  refine r_icmp_ne dd_Mod_why_16 (fun c_16 => ?_) (fun c_16 => ?_)
  · refine r_aloadn dd_Mod_why_21 rfl ?_
    refine r_iloadn dd_Mod_why_22 rfl ?_
    refine r_V1W dd_Mod_why_23 ml_Mod_56 ok_Mod_wordsOf vi_Mod_wordsOf vk_219 (by decide) (clS rfl (Nat.le_refl _) (rmOK_self _ _)) rfl (c_Mod_wordsOf hW) ?_
    refine r_iloadn dd_Mod_why_26 rfl ?_
    refine r_iadd dd_Mod_why_27 ⟨by omega, by omega⟩ ?_
    refine r_aloadn dd_Mod_why_28 rfl ?_
    refine r_getR dd_Mod_why_29 fl_Mod_7 (kI := 0) rfl fr_Mod_0 vk_219 R0_219_0 ?_
    refine r_sip dd_Mod_why_32 ⟨by decide, by decide⟩ ?_
    refine r_iloadn dd_Mod_why_35 rfl ?_
    refine r_iadd dd_Mod_why_36 ⟨by omega, by omega⟩ ?_
    refine r_iald dd_Mod_why_37 (q := 12) (by decide) vk_220 (by omega) (by show _ < ((472 : Nat) : Int); omega) ?_
    refine r_icmp_le dd_Mod_why_38 (fun c_38 => ?_) (fun c_38 => ?_)
    · refine r_aloadn dd_Mod_why_43 rfl ?_
      refine r_iloadn dd_Mod_why_44 rfl ?_
      refine r_V1W dd_Mod_why_45 ml_Mod_59 ok_Mod_lowestFree vi_Mod_lowestFree vk_219 (by decide) (clS rfl (Nat.le_refl _) (rmOK_self _ _)) rfl c_Mod_lowestFree ?_
      refine r_bip dd_Mod_why_48 ⟨by decide, by decide⟩ ?_
      refine r_icmp_ne dd_Mod_why_50 (fun c_50 => ?_) (fun c_50 => ?_)
      · refine r_iconst dd_Mod_why_90 ⟨by decide, by decide⟩ ?_
        exact r_retI dd_Mod_why_91 (by unfold whyM; (repeat (first | rw [if_pos (by omega)] | rw [if_neg (by omega)])); first | done | omega | exact (b2_t (by first | assumption | omega)).symm | exact (b2_f (by first | assumption | omega)).symm) rfl
      · refine r_iloadn dd_Mod_why_53 rfl ?_
        refine r_bip dd_Mod_why_54 ⟨by decide, by decide⟩ ?_
        refine r_icmp_gt dd_Mod_why_56 (fun c_56 => ?_) (fun c_56 => ?_)
        · refine r_iloadn dd_Mod_why_70 rfl ?_
          refine r_iconst dd_Mod_why_71 ⟨by decide, by decide⟩ ?_
          refine r_icmp_gt dd_Mod_why_72 (fun c_72 => ?_) (fun c_72 => ?_)
          · refine r_iconst dd_Mod_why_86 ⟨by decide, by decide⟩ ?_
            refine r_goto dd_Mod_why_87 ?_
            exact r_retI dd_Mod_why_91 (by unfold whyM; (repeat (first | rw [if_pos (by omega)] | rw [if_neg (by omega)])); first | done | omega | exact (b2_t (by first | assumption | omega)).symm | exact (b2_f (by first | assumption | omega)).symm) rfl
          · refine r_aloadn dd_Mod_why_75 rfl ?_
            refine r_bip dd_Mod_why_76 ⟨by decide, by decide⟩ ?_
            refine r_V1W dd_Mod_why_78 ml_Mod_59 ok_Mod_lowestFree vi_Mod_lowestFree vk_219 (by decide) (clS rfl (Nat.le_refl _) (rmOK_self _ _)) rfl c_Mod_lowestFree ?_
            refine r_bip dd_Mod_why_81 ⟨by decide, by decide⟩ ?_
            refine r_icmp_ne dd_Mod_why_83 (fun c_83 => ?_) (fun c_83 => ?_)
            · refine r_iconst dd_Mod_why_90 ⟨by decide, by decide⟩ ?_
              exact r_retI dd_Mod_why_91 (by unfold whyM; (repeat (first | rw [if_pos (by omega)] | rw [if_neg (by omega)])); first | done | omega | exact (b2_t (by first | assumption | omega)).symm | exact (b2_f (by first | assumption | omega)).symm) rfl
            · refine r_iconst dd_Mod_why_86 ⟨by decide, by decide⟩ ?_
              refine r_goto dd_Mod_why_87 ?_
              exact r_retI dd_Mod_why_91 (by unfold whyM; (repeat (first | rw [if_pos (by omega)] | rw [if_neg (by omega)])); first | done | omega | exact (b2_t (by first | assumption | omega)).symm | exact (b2_f (by first | assumption | omega)).symm) rfl
        · refine r_aloadn dd_Mod_why_59 rfl ?_
          refine r_bip dd_Mod_why_60 ⟨by decide, by decide⟩ ?_
          refine r_V1W dd_Mod_why_62 ml_Mod_59 ok_Mod_lowestFree vi_Mod_lowestFree vk_219 (by decide) (clS rfl (Nat.le_refl _) (rmOK_self _ _)) rfl c_Mod_lowestFree ?_
          refine r_bip dd_Mod_why_65 ⟨by decide, by decide⟩ ?_
          refine r_icmp_ne dd_Mod_why_67 (fun c_67 => ?_) (fun c_67 => ?_)
          · refine r_iconst dd_Mod_why_90 ⟨by decide, by decide⟩ ?_
            exact r_retI dd_Mod_why_91 (by unfold whyM; (repeat (first | rw [if_pos (by omega)] | rw [if_neg (by omega)])); first | done | omega | exact (b2_t (by first | assumption | omega)).symm | exact (b2_f (by first | assumption | omega)).symm) rfl
          · refine r_iloadn dd_Mod_why_70 rfl ?_
            refine r_iconst dd_Mod_why_71 ⟨by decide, by decide⟩ ?_
            refine r_icmp_gt dd_Mod_why_72 (fun c_72 => ?_) (fun c_72 => ?_)
            · refine r_iconst dd_Mod_why_86 ⟨by decide, by decide⟩ ?_
              refine r_goto dd_Mod_why_87 ?_
              exact r_retI dd_Mod_why_91 (by unfold whyM; (repeat (first | rw [if_pos (by omega)] | rw [if_neg (by omega)])); first | done | omega | exact (b2_t (by first | assumption | omega)).symm | exact (b2_f (by first | assumption | omega)).symm) rfl
            · refine r_aloadn dd_Mod_why_75 rfl ?_
              refine r_bip dd_Mod_why_76 ⟨by decide, by decide⟩ ?_
              refine r_V1W dd_Mod_why_78 ml_Mod_59 ok_Mod_lowestFree vi_Mod_lowestFree vk_219 (by decide) (clS rfl (Nat.le_refl _) (rmOK_self _ _)) rfl c_Mod_lowestFree ?_
              refine r_bip dd_Mod_why_81 ⟨by decide, by decide⟩ ?_
              refine r_icmp_ne dd_Mod_why_83 (fun c_83 => ?_) (fun c_83 => ?_)
              · refine r_iconst dd_Mod_why_90 ⟨by decide, by decide⟩ ?_
                exact r_retI dd_Mod_why_91 (by unfold whyM; (repeat (first | rw [if_pos (by omega)] | rw [if_neg (by omega)])); first | done | omega | exact (b2_t (by first | assumption | omega)).symm | exact (b2_f (by first | assumption | omega)).symm) rfl
              · refine r_iconst dd_Mod_why_86 ⟨by decide, by decide⟩ ?_
                refine r_goto dd_Mod_why_87 ?_
                exact r_retI dd_Mod_why_91 (by unfold whyM; (repeat (first | rw [if_pos (by omega)] | rw [if_neg (by omega)])); first | done | omega | exact (b2_t (by first | assumption | omega)).symm | exact (b2_f (by first | assumption | omega)).symm) rfl
    · refine r_iconst dd_Mod_why_41 ⟨by decide, by decide⟩ ?_
      exact r_retI dd_Mod_why_42 (by unfold whyM; (repeat (first | rw [if_pos (by omega)] | rw [if_neg (by omega)])); first | done | omega | exact (b2_t (by first | assumption | omega)).symm | exact (b2_f (by first | assumption | omega)).symm) rfl
  · refine r_iconst dd_Mod_why_19 ⟨by decide, by decide⟩ ?_
    exact r_retI dd_Mod_why_20 (by unfold whyM; (repeat (first | rw [if_pos (by omega)] | rw [if_neg (by omega)])); first | done | omega | exact (b2_t (by first | assumption | omega)).symm | exact (b2_f (by first | assumption | omega)).symm) rfl
theorem c_Mod_askFault {μ : Int → Int → Int} {K t words : Int} (hW : MW K (μ 220)) : MetC mi_Mod_askFault [vR 219, vI t, vI words] (st μ) (some (vI (askFM (μ 220) t words))) (st (μ)) := by
  refine met_of ?_ (Nat.le_of_ble_eq_true rfl) (by decide) trivial (by decide) (Nat.le_of_ble_eq_true rfl)
  show SPW mi_Mod_askFault 226 0 [some (vR 219), some (vI t), some (vI words)] [] (st μ) (some (vI (askFM (μ 220) t words))) (st (μ))
  refine r_iloadn dd_Mod_askFault_0 rfl ?_
  refine r_S1W dd_Mod_askFault_1 ml_Mod_71 ok_Mod_isTask st_Mod_isTask (clS rfl (Nat.le_refl _) (rmOK_self _ _)) rfl c_Mod_isTask ?_
  refine r_if_ne_b dd_Mod_askFault_4 (fun c_4 => ?_) (fun c_4 => ?_)
  · refine r_iloadn dd_Mod_askFault_9 rfl ?_
    refine r_iconst dd_Mod_askFault_10 ⟨by decide, by decide⟩ ?_
    refine r_bip dd_Mod_askFault_11 ⟨by decide, by decide⟩ ?_
    refine r_S3W dd_Mod_askFault_13 ml_Mod_35 ok_Mod_in st_Mod_in (clS rfl (Nat.le_refl _) (rmOK_self _ _)) rfl c_Mod_in ?_
    refine r_if_ne_b dd_Mod_askFault_16 (fun c_16 => ?_) (fun c_16 => ?_)
    · refine r_aloadn dd_Mod_askFault_22 rfl ?_
      refine r_getR dd_Mod_askFault_23 fl_Mod_7 (kI := 0) rfl fr_Mod_0 vk_219 R0_219_0 ?_
      refine r_sip dd_Mod_askFault_26 ⟨by decide, by decide⟩ ?_
      refine r_iald dd_Mod_askFault_29 (q := 12) (by decide) vk_220 (by omega) (by show _ < ((472 : Nat) : Int); omega) ?_
      refine r_sip dd_Mod_askFault_30 ⟨by decide, by decide⟩ ?_
      refine r_icmp_ne dd_Mod_askFault_33 (fun c_33 => ?_) (fun c_33 => ?_)
      · refine r_aloadn dd_Mod_askFault_41 rfl ?_
        refine r_iloadn dd_Mod_askFault_42 rfl ?_
        refine r_iloadn dd_Mod_askFault_43 rfl ?_
        refine r_V2W dd_Mod_askFault_44 ml_Mod_74 ok_Mod_why vi_Mod_why vk_219 (by decide) (clS rfl (Nat.le_refl _) (rmOK_self _ _)) rfl (c_Mod_why hW (by omega) (by omega)) ?_
        refine r_if_le dd_Mod_askFault_47 (fun c_47 => ?_) (fun c_47 => ?_)
        · refine r_iconst dd_Mod_askFault_55 ⟨by decide, by decide⟩ ?_
          exact r_retI dd_Mod_askFault_56 (by unfold askFM; (repeat (first | rw [if_pos (by omega)] | rw [if_neg (by omega)])); first | done | omega | exact (b2_t (by first | assumption | omega)).symm | exact (b2_f (by first | assumption | omega)).symm) rfl
        · refine r_bip dd_Mod_askFault_50 ⟨by decide, by decide⟩ ?_
          refine r_goto dd_Mod_askFault_52 ?_
          exact r_retI dd_Mod_askFault_56 (by unfold askFM; (repeat (first | rw [if_pos (by omega)] | rw [if_neg (by omega)])); first | done | omega | exact (b2_t (by first | assumption | omega)).symm | exact (b2_f (by first | assumption | omega)).symm) rfl
      · refine r_bip dd_Mod_askFault_36 ⟨by decide, by decide⟩ ?_
        refine r_goto dd_Mod_askFault_38 ?_
        exact r_retI dd_Mod_askFault_56 (by unfold askFM; (repeat (first | rw [if_pos (by omega)] | rw [if_neg (by omega)])); first | done | omega | exact (b2_t (by first | assumption | omega)).symm | exact (b2_f (by first | assumption | omega)).symm) rfl
    · refine r_bip dd_Mod_askFault_19 ⟨by decide, by decide⟩ ?_
      exact r_retI dd_Mod_askFault_21 (by unfold askFM; (repeat (first | rw [if_pos (by omega)] | rw [if_neg (by omega)])); first | done | omega | exact (b2_t (by first | assumption | omega)).symm | exact (b2_f (by first | assumption | omega)).symm) rfl
  · refine r_iconst dd_Mod_askFault_7 ⟨by decide, by decide⟩ ?_
    exact r_retI dd_Mod_askFault_8 (by unfold askFM; (repeat (first | rw [if_pos (by omega)] | rw [if_neg (by omega)])); first | done | omega | exact (b2_t (by first | assumption | omega)).symm | exact (b2_f (by first | assumption | omega)).symm) rfl
theorem c_Mod_backFault {μ : Int → Int → Int} {t b : Int} : MetC mi_Mod_backFault [vR 219, vI t, vI b] (st μ) (some (vI (bkFM (μ 220) t b))) (st (μ)) := by
  refine met_of ?_ (Nat.le_of_ble_eq_true rfl) (by decide) trivial (by decide) (Nat.le_of_ble_eq_true rfl)
  show SPW mi_Mod_backFault 226 0 [some (vR 219), some (vI t), some (vI b), none] [] (st μ) (some (vI (bkFM (μ 220) t b))) (st (μ))
  have hr := begOf_rg (μ 220) b
  refine r_aloadn dd_Mod_backFault_0 rfl ?_
  refine r_iloadn dd_Mod_backFault_1 rfl ?_
  refine r_V1W dd_Mod_backFault_2 ml_Mod_78 ok_Mod_beginOf vi_Mod_beginOf vk_219 (by decide) (clS rfl (Nat.le_refl _) (rmOK_self _ _)) rfl c_Mod_beginOf ?_
  refine r_istoren (L' := [_, _, _, _]) dd_Mod_backFault_5 rfl rfl ?_
  refine r_iloadn dd_Mod_backFault_6 rfl ?_
  refine r_S1W dd_Mod_backFault_7 ml_Mod_71 ok_Mod_isTask st_Mod_isTask (clS rfl (Nat.le_refl _) (rmOK_self _ _)) rfl c_Mod_isTask ?_
  refine r_if_eq_b dd_Mod_backFault_10 (fun c_10 => ?_) (fun c_10 => ?_)
  · refine r_iconst dd_Mod_backFault_19 ⟨by decide, by decide⟩ ?_
    refine r_goto dd_Mod_backFault_20 ?_
    exact r_retI dd_Mod_backFault_43 (by unfold bkFM; (repeat (first | rw [if_pos (by omega)] | rw [if_neg (by omega)])); first | done | omega | exact (b2_t (by first | assumption | omega)).symm | exact (b2_f (by first | assumption | omega)).symm) rfl
  · refine r_iloadn dd_Mod_backFault_13 rfl ?_
    refine r_bip dd_Mod_backFault_14 ⟨by decide, by decide⟩ ?_
    refine r_icmp_ne dd_Mod_backFault_16 (fun c_16 => ?_) (fun c_16 => ?_)
    · refine r_aloadn dd_Mod_backFault_23 rfl ?_
      refine r_getR dd_Mod_backFault_24 fl_Mod_7 (kI := 0) rfl fr_Mod_0 vk_219 R0_219_0 ?_
      refine r_sip dd_Mod_backFault_27 ⟨by decide, by decide⟩ ?_
      refine r_iloadn dd_Mod_backFault_30 rfl ?_
      refine r_iadd dd_Mod_backFault_31 ⟨by omega, by omega⟩ ?_
      refine r_iald dd_Mod_backFault_32 (q := 12) (by decide) vk_220 (by omega) (by show _ < ((472 : Nat) : Int); omega) ?_
      refine r_iloadn dd_Mod_backFault_33 rfl ?_
      refine r_icmp_eq dd_Mod_backFault_34 (fun c_34 => ?_) (fun c_34 => ?_)
      · refine r_iconst dd_Mod_backFault_42 ⟨by decide, by decide⟩ ?_
        exact r_retI dd_Mod_backFault_43 (by unfold bkFM; (repeat (first | rw [if_pos (by omega)] | rw [if_neg (by omega)])); first | done | omega | exact (b2_t (by first | assumption | omega)).symm | exact (b2_f (by first | assumption | omega)).symm) rfl
      · refine r_bip dd_Mod_backFault_37 ⟨by decide, by decide⟩ ?_
        refine r_goto dd_Mod_backFault_39 ?_
        exact r_retI dd_Mod_backFault_43 (by unfold bkFM; (repeat (first | rw [if_pos (by omega)] | rw [if_neg (by omega)])); first | done | omega | exact (b2_t (by first | assumption | omega)).symm | exact (b2_f (by first | assumption | omega)).symm) rfl
    · refine r_iconst dd_Mod_backFault_19 ⟨by decide, by decide⟩ ?_
      refine r_goto dd_Mod_backFault_20 ?_
      exact r_retI dd_Mod_backFault_43 (by unfold bkFM; (repeat (first | rw [if_pos (by omega)] | rw [if_neg (by omega)])); first | done | omega | exact (b2_t (by first | assumption | omega)).symm | exact (b2_f (by first | assumption | omega)).symm) rfl
theorem c_Mod_passFault {μ : Int → Int → Int} {K ticks : Int} (hW : MW K (μ 220)) : MetC mi_Mod_passFault [vR 219, vI ticks] (st μ) (some (vI (psFM (μ 220) ticks))) (st (μ)) := by
  refine met_of ?_ (Nat.le_of_ble_eq_true rfl) (by decide) trivial (by decide) (Nat.le_of_ble_eq_true rfl)
  show SPW mi_Mod_passFault 226 0 [some (vR 219), some (vI ticks)] [] (st μ) (some (vI (psFM (μ 220) ticks))) (st (μ))
  have hc := hW.2.2.1
  refine r_iloadn dd_Mod_passFault_0 rfl ?_
  refine r_iconst dd_Mod_passFault_1 ⟨by decide, by decide⟩ ?_
  refine r_sip dd_Mod_passFault_2 ⟨by decide, by decide⟩ ?_
  refine r_S3W dd_Mod_passFault_5 ml_Mod_35 ok_Mod_in st_Mod_in (clS rfl (Nat.le_refl _) (rmOK_self _ _)) rfl c_Mod_in ?_
  refine r_if_ne_b dd_Mod_passFault_8 (fun c_8 => ?_) (fun c_8 => ?_)
  · refine r_aloadn dd_Mod_passFault_16 rfl ?_
    refine r_getR dd_Mod_passFault_17 fl_Mod_7 (kI := 0) rfl fr_Mod_0 vk_219 R0_219_0 ?_
    refine r_sip dd_Mod_passFault_20 ⟨by decide, by decide⟩ ?_
    refine r_iald dd_Mod_passFault_23 (q := 12) (by decide) vk_220 (by omega) (by show _ < ((472 : Nat) : Int); omega) ?_
    refine r_iloadn dd_Mod_passFault_24 rfl ?_
    refine r_iadd dd_Mod_passFault_25 ⟨by omega, by omega⟩ ?_
    refine r_sip dd_Mod_passFault_26 ⟨by decide, by decide⟩ ?_
    refine r_icmp_le dd_Mod_passFault_29 (fun c_29 => ?_) (fun c_29 => ?_)
    · refine r_iconst dd_Mod_passFault_37 ⟨by decide, by decide⟩ ?_
      exact r_retI dd_Mod_passFault_38 (by unfold psFM; (repeat (first | rw [if_pos (by omega)] | rw [if_neg (by omega)])); first | done | omega | exact (b2_t (by first | assumption | omega)).symm | exact (b2_f (by first | assumption | omega)).symm) rfl
    · refine r_bip dd_Mod_passFault_32 ⟨by decide, by decide⟩ ?_
      refine r_goto dd_Mod_passFault_34 ?_
      exact r_retI dd_Mod_passFault_38 (by unfold psFM; (repeat (first | rw [if_pos (by omega)] | rw [if_neg (by omega)])); first | done | omega | exact (b2_t (by first | assumption | omega)).symm | exact (b2_f (by first | assumption | omega)).symm) rfl
  · refine r_bip dd_Mod_passFault_11 ⟨by decide, by decide⟩ ?_
    refine r_goto dd_Mod_passFault_13 ?_
    exact r_retI dd_Mod_passFault_38 (by unfold psFM; (repeat (first | rw [if_pos (by omega)] | rw [if_neg (by omega)])); first | done | omega | exact (b2_t (by first | assumption | omega)).symm | exact (b2_f (by first | assumption | omega)).symm) rfl
theorem c_Mod_sizeNumber {μ : Int → Int → Int} {z : Int} : MetC mi_Mod_sizeNumber [vI z] (st μ) (some (vI (snM z))) (st (μ)) := by
  refine met_of ?_ (Nat.le_of_ble_eq_true rfl) (by decide) trivial (by decide) (Nat.le_of_ble_eq_true rfl)
  show SPW mi_Mod_sizeNumber 226 0 [some (vI z)] [] (st μ) (some (vI (snM z))) (st (μ))
  refine r_iloadn dd_Mod_sizeNumber_0 rfl ?_
  refine r_iconst dd_Mod_sizeNumber_1 ⟨by decide, by decide⟩ ?_
  refine r_icmp_ne dd_Mod_sizeNumber_2 (fun c_2 => ?_) (fun c_2 => ?_)
  · refine r_iloadn dd_Mod_sizeNumber_9 rfl ?_
    refine r_bip dd_Mod_sizeNumber_10 ⟨by decide, by decide⟩ ?_
    refine r_icmp_ne dd_Mod_sizeNumber_12 (fun c_12 => ?_) (fun c_12 => ?_)
    · refine r_iconst dd_Mod_sizeNumber_19 ⟨by decide, by decide⟩ ?_
      exact r_retI dd_Mod_sizeNumber_20 (by unfold snM; (repeat (first | rw [if_pos (by omega)] | rw [if_neg (by omega)])); first | done | omega | exact (b2_t (by first | assumption | omega)).symm | exact (b2_f (by first | assumption | omega)).symm) rfl
    · refine r_iconst dd_Mod_sizeNumber_15 ⟨by decide, by decide⟩ ?_
      refine r_goto dd_Mod_sizeNumber_16 ?_
      exact r_retI dd_Mod_sizeNumber_20 (by unfold snM; (repeat (first | rw [if_pos (by omega)] | rw [if_neg (by omega)])); first | done | omega | exact (b2_t (by first | assumption | omega)).symm | exact (b2_f (by first | assumption | omega)).symm) rfl
  · refine r_iconst dd_Mod_sizeNumber_5 ⟨by decide, by decide⟩ ?_
    refine r_goto dd_Mod_sizeNumber_6 ?_
    exact r_retI dd_Mod_sizeNumber_20 (by unfold snM; (repeat (first | rw [if_pos (by omega)] | rw [if_neg (by omega)])); first | done | omega | exact (b2_t (by first | assumption | omega)).symm | exact (b2_f (by first | assumption | omega)).symm) rfl
theorem c_Mod_block {μ : Int → Int → Int} {K b what : Int} (hW : MW K (μ 220)) : MetC mi_Mod_block [vR 219, vI b, vI what] (st μ) (some (vI (blockS (μ 220) b what))) (st (μ)) := by
  refine met_of ?_ (Nat.le_of_ble_eq_true rfl) (by decide) trivial (by decide) (Nat.le_of_ble_eq_true rfl)
  show SPW mi_Mod_block 226 0 [some (vR 219), some (vI b), some (vI what), none] [] (st μ) (some (vI (blockS (μ 220) b what))) (st (μ))
  have hr := begOf_rg (μ 220) b
  have hc := hW.2.2.1
  have hb := hW.1 (begOf (μ 220) b)
  refine r_aloadn dd_Mod_block_0 rfl ?_
  refine r_iloadn dd_Mod_block_1 rfl ?_
  refine r_V1W dd_Mod_block_2 ml_Mod_78 ok_Mod_beginOf vi_Mod_beginOf vk_219 (by decide) (clS rfl (Nat.le_refl _) (rmOK_self _ _)) rfl c_Mod_beginOf ?_
  refine r_istoren (L' := [_, _, _, _]) dd_Mod_block_5 rfl rfl ?_
  refine r_iloadn dd_Mod_block_6 rfl ?_
  refine r_bip dd_Mod_block_7 ⟨by decide, by decide⟩ ?_
  refine r_icmp_ne dd_Mod_block_9 (fun c_9 => ?_) (fun c_9 => ?_)
  · refine r_iloadn dd_Mod_block_14 rfl ?_
    by_cases s15_0 : what = 0
    · refine r_tabAt (tgt := 56) (off := 41) dd_Mod_block_15 s15_0 (by decide) rfl rfl ?_
      refine r_iloadn dd_Mod_block_56 rfl ?_
      exact r_retI dd_Mod_block_57 (by unfold blockS; (repeat (first | rw [if_pos (by omega)] | rw [if_neg (by omega)])); first | done | omega | exact (b2_t (by first | assumption | omega)).symm | exact (b2_f (by first | assumption | omega)).symm) rfl
    by_cases s15_1 : what = 1
    · refine r_tabAt (tgt := 58) (off := 43) dd_Mod_block_15 s15_1 (by decide) rfl rfl ?_
      refine r_aloadn dd_Mod_block_58 rfl ?_
      refine r_getR dd_Mod_block_59 fl_Mod_7 (kI := 0) rfl fr_Mod_0 vk_219 R0_219_0 ?_
      refine r_sip dd_Mod_block_62 ⟨by decide, by decide⟩ ?_
      refine r_iloadn dd_Mod_block_65 rfl ?_
      refine r_iadd dd_Mod_block_66 ⟨by omega, by omega⟩ ?_
      refine r_iald dd_Mod_block_67 (q := 12) (by decide) vk_220 (by omega) (by show _ < ((472 : Nat) : Int); omega) ?_
      refine r_S1W dd_Mod_block_68 ml_Mod_168 ok_Mod_sizeNumber st_Mod_sizeNumber (clS rfl (Nat.le_refl _) (rmOK_self _ _)) rfl c_Mod_sizeNumber ?_
      exact r_retI dd_Mod_block_71 (by unfold blockS; (repeat (first | rw [if_pos (by omega)] | rw [if_neg (by omega)])); first | done | omega | exact (b2_t (by first | assumption | omega)).symm | exact (b2_f (by first | assumption | omega)).symm) rfl
    by_cases s15_2 : what = 2
    · refine r_tabAt (tgt := 72) (off := 57) dd_Mod_block_15 s15_2 (by decide) rfl rfl ?_
      refine r_aloadn dd_Mod_block_72 rfl ?_
      refine r_getR dd_Mod_block_73 fl_Mod_7 (kI := 0) rfl fr_Mod_0 vk_219 R0_219_0 ?_
      refine r_sip dd_Mod_block_76 ⟨by decide, by decide⟩ ?_
      refine r_iloadn dd_Mod_block_79 rfl ?_
      refine r_iadd dd_Mod_block_80 ⟨by omega, by omega⟩ ?_
      refine r_iald dd_Mod_block_81 (q := 12) (by decide) vk_220 (by omega) (by show _ < ((472 : Nat) : Int); omega) ?_
      exact r_retI dd_Mod_block_82 (by unfold blockS; (repeat (first | rw [if_pos (by omega)] | rw [if_neg (by omega)])); first | done | omega | exact (b2_t (by first | assumption | omega)).symm | exact (b2_f (by first | assumption | omega)).symm) rfl
    by_cases s15_3 : what = 3
    · refine r_tabAt (tgt := 83) (off := 68) dd_Mod_block_15 s15_3 (by decide) rfl rfl ?_
      refine r_aloadn dd_Mod_block_83 rfl ?_
      refine r_getR dd_Mod_block_84 fl_Mod_7 (kI := 0) rfl fr_Mod_0 vk_219 R0_219_0 ?_
      refine r_sip dd_Mod_block_87 ⟨by decide, by decide⟩ ?_
      refine r_iloadn dd_Mod_block_90 rfl ?_
      refine r_iadd dd_Mod_block_91 ⟨by omega, by omega⟩ ?_
      refine r_iald dd_Mod_block_92 (q := 12) (by decide) vk_220 (by omega) (by show _ < ((472 : Nat) : Int); omega) ?_
      exact r_retI dd_Mod_block_93 (by unfold blockS; (repeat (first | rw [if_pos (by omega)] | rw [if_neg (by omega)])); first | done | omega | exact (b2_t (by first | assumption | omega)).symm | exact (b2_f (by first | assumption | omega)).symm) rfl
    by_cases s15_4 : what = 4
    · refine r_tabAt (tgt := 94) (off := 79) dd_Mod_block_15 s15_4 (by decide) rfl rfl ?_
      refine r_aloadn dd_Mod_block_94 rfl ?_
      refine r_iloadn dd_Mod_block_95 rfl ?_
      refine r_V1W dd_Mod_block_96 ml_Mod_65 ok_Mod_broken vi_Mod_broken vk_219 (by decide) (clS rfl (Nat.le_refl _) (rmOK_self _ _)) rfl (c_Mod_broken hW (by omega) (by omega)) ?_
      exact r_retI dd_Mod_block_99 (by unfold blockS; (repeat (first | rw [if_pos (by omega)] | rw [if_neg (by omega)])); first | done | omega | exact (b2_t (by first | assumption | omega)).symm | exact (b2_f (by first | assumption | omega)).symm) rfl
    by_cases s15_5 : what = 5
    · refine r_tabAt (tgt := 100) (off := 85) dd_Mod_block_15 s15_5 (by decide) rfl rfl ?_
      refine r_aloadn dd_Mod_block_100 rfl ?_
      refine r_getR dd_Mod_block_101 fl_Mod_7 (kI := 0) rfl fr_Mod_0 vk_219 R0_219_0 ?_
      refine r_sip dd_Mod_block_104 ⟨by decide, by decide⟩ ?_
      refine r_iald dd_Mod_block_107 (q := 12) (by decide) vk_220 (by omega) (by show _ < ((472 : Nat) : Int); omega) ?_
      refine r_aloadn dd_Mod_block_108 rfl ?_
      refine r_getR dd_Mod_block_109 fl_Mod_7 (kI := 0) rfl fr_Mod_0 vk_219 R0_219_0 ?_
      refine r_sip dd_Mod_block_112 ⟨by decide, by decide⟩ ?_
      refine r_iloadn dd_Mod_block_115 rfl ?_
      refine r_iadd dd_Mod_block_116 ⟨by omega, by omega⟩ ?_
      refine r_iald dd_Mod_block_117 (q := 12) (by decide) vk_220 (by omega) (by show _ < ((472 : Nat) : Int); omega) ?_
      refine r_isub dd_Mod_block_118 ⟨by omega, by omega⟩ ?_
      exact r_retI dd_Mod_block_119 (by unfold blockS; (repeat (first | rw [if_pos (by omega)] | rw [if_neg (by omega)])); first | done | omega | exact (b2_t (by first | assumption | omega)).symm | exact (b2_f (by first | assumption | omega)).symm) rfl
    by_cases s15_6 : what = 6
    · refine r_tabAt (tgt := 120) (off := 105) dd_Mod_block_15 s15_6 (by decide) rfl rfl ?_
      refine r_aloadn dd_Mod_block_120 rfl ?_
      refine r_iloadn dd_Mod_block_121 rfl ?_
      refine r_V1W dd_Mod_block_122 ml_Mod_68 ok_Mod_isLeak vi_Mod_isLeak vk_219 (by decide) (clS rfl (Nat.le_refl _) (rmOK_self _ _)) rfl (c_Mod_isLeak hW (by omega) (by omega)) ?_
      refine r_if_eq_b dd_Mod_block_125 (fun c_125 => ?_) (fun c_125 => ?_)
      · refine r_iconst dd_Mod_block_132 ⟨by decide, by decide⟩ ?_
        exact r_retI dd_Mod_block_133 (by unfold blockS; (repeat (first | rw [if_pos (by omega)] | rw [if_neg (by omega)])); first | done | omega | exact (b2_t (by first | assumption | omega)).symm | exact (b2_f (by first | assumption | omega)).symm) rfl
      · refine r_iconst dd_Mod_block_128 ⟨by decide, by decide⟩ ?_
        refine r_goto dd_Mod_block_129 ?_
        exact r_retI dd_Mod_block_133 (by unfold blockS; (repeat (first | rw [if_pos (by omega)] | rw [if_neg (by omega)])); first | done | omega | exact (b2_t (by first | assumption | omega)).symm | exact (b2_f (by first | assumption | omega)).symm) rfl
    refine r_tabOut (tgt := 134) dd_Mod_block_15 (by omega) rfl ?_
    refine r_bip dd_Mod_block_134 ⟨by decide, by decide⟩ ?_
    exact r_retI dd_Mod_block_136 (by unfold blockS; (repeat (first | rw [if_pos (by omega)] | rw [if_neg (by omega)])); first | done | omega | exact (b2_t (by first | assumption | omega)).symm | exact (b2_f (by first | assumption | omega)).symm) rfl
  · refine r_iconst dd_Mod_block_12 ⟨by decide, by decide⟩ ?_
    exact r_retI dd_Mod_block_13 (by unfold blockS; (repeat (first | rw [if_pos (by omega)] | rw [if_neg (by omega)])); first | done | omega | exact (b2_t (by first | assumption | omega)).symm | exact (b2_f (by first | assumption | omega)).symm) rfl
theorem c_Mod_word {μ : Int → Int → Int} {K word what : Int} (hW : MW K (μ 220)) (hz : μ 220 128 ≠ 0) : MetC mi_Mod_word [vR 219, vI word, vI what] (st μ) (some (vI (wordS (μ 220) word what))) (st (μ)) := by
  refine met_of ?_ (Nat.le_of_ble_eq_true rfl) (by decide) trivial (by decide) (Nat.le_of_ble_eq_true rfl)
  show SPW mi_Mod_word 226 0 [some (vR 219), some (vI word), some (vI what), none] [] (st μ) (some (vI (wordS (μ 220) word what))) (st (μ))
  have hr : (word < 0 ∨ 63 < word) ∨ (0 ≤ bgn (μ 220) word ∧ bgn (μ 220) word ≤ word) := by
    by_cases h : word < 0 ∨ 63 < word
    · exact Or.inl h
    · have := bgn_rg (w := word) hz (by omega) (by omega); exact Or.inr ⟨this.1, this.2.1⟩
  refine r_iloadn dd_Mod_word_0 rfl ?_
  refine r_iconst dd_Mod_word_1 ⟨by decide, by decide⟩ ?_
  refine r_bip dd_Mod_word_2 ⟨by decide, by decide⟩ ?_
  refine r_S3W dd_Mod_word_4 ml_Mod_35 ok_Mod_in st_Mod_in (clS rfl (Nat.le_refl _) (rmOK_self _ _)) rfl c_Mod_in ?_
  refine r_if_ne_b dd_Mod_word_7 (fun c_7 => ?_) (fun c_7 => ?_)
  · refine r_aloadn dd_Mod_word_12 rfl ?_
    refine r_iloadn dd_Mod_word_13 rfl ?_
    refine r_V1W dd_Mod_word_14 ml_Mod_46 ok_Mod_beginAt vi_Mod_beginAt vk_219 (by decide) (clS rfl (Nat.le_refl _) (rmOK_self _ _)) rfl (c_Mod_beginAt hz (by omega) (by omega)) ?_
    refine r_istoren (L' := [_, _, _, _]) dd_Mod_word_17 rfl rfl ?_
    refine r_iloadn dd_Mod_word_18 rfl ?_
    by_cases s19_0 : what = 0
    · refine r_tabAt (tgt := 48) (off := 29) dd_Mod_word_19 s19_0 (by decide) rfl rfl ?_
      refine r_aloadn dd_Mod_word_48 rfl ?_
      refine r_getR dd_Mod_word_49 fl_Mod_7 (kI := 0) rfl fr_Mod_0 vk_219 R0_219_0 ?_
      refine r_iconst dd_Mod_word_52 ⟨by decide, by decide⟩ ?_
      refine r_iloadn dd_Mod_word_53 rfl ?_
      refine r_iadd dd_Mod_word_54 ⟨by omega, by omega⟩ ?_
      refine r_iald dd_Mod_word_55 (q := 12) (by decide) vk_220 (by omega) (by show _ < ((472 : Nat) : Int); omega) ?_
      exact r_retI dd_Mod_word_56 (by unfold wordS; (repeat (first | rw [if_pos (by omega)] | rw [if_neg (by omega)])); first | done | omega | exact (b2_t (by first | assumption | omega)).symm | exact (b2_f (by first | assumption | omega)).symm) rfl
    by_cases s19_1 : what = 1
    · refine r_tabAt (tgt := 57) (off := 38) dd_Mod_word_19 s19_1 (by decide) rfl rfl ?_
      refine r_aloadn dd_Mod_word_57 rfl ?_
      refine r_getR dd_Mod_word_58 fl_Mod_7 (kI := 0) rfl fr_Mod_0 vk_219 R0_219_0 ?_
      refine r_sip dd_Mod_word_61 ⟨by decide, by decide⟩ ?_
      refine r_iloadn dd_Mod_word_64 rfl ?_
      refine r_iadd dd_Mod_word_65 ⟨by omega, by omega⟩ ?_
      refine r_iald dd_Mod_word_66 (q := 12) (by decide) vk_220 (by omega) (by show _ < ((472 : Nat) : Int); omega) ?_
      exact r_retI dd_Mod_word_67 (by unfold wordS; (repeat (first | rw [if_pos (by omega)] | rw [if_neg (by omega)])); first | done | omega | exact (b2_t (by first | assumption | omega)).symm | exact (b2_f (by first | assumption | omega)).symm) rfl
    by_cases s19_2 : what = 2
    · refine r_tabAt (tgt := 68) (off := 49) dd_Mod_word_19 s19_2 (by decide) rfl rfl ?_
      refine r_aloadn dd_Mod_word_68 rfl ?_
      refine r_iloadn dd_Mod_word_69 rfl ?_
      refine r_V1W dd_Mod_word_70 ml_Mod_99 ok_Mod_isGuard vi_Mod_isGuard vk_219 (by decide) (clS rfl (Nat.le_refl _) (rmOK_self _ _)) rfl (c_Mod_isGuard hW hz (by omega) (by omega)) ?_
      refine r_if_eq_b dd_Mod_word_73 (fun c_73 => ?_) (fun c_73 => ?_)
      · refine r_iconst dd_Mod_word_80 ⟨by decide, by decide⟩ ?_
        exact r_retI dd_Mod_word_81 (by unfold wordS; (repeat (first | rw [if_pos (by omega)] | rw [if_neg (by omega)])); first | done | omega | exact (b2_t (by first | assumption | omega)).symm | exact (b2_f (by first | assumption | omega)).symm) rfl
      · refine r_iconst dd_Mod_word_76 ⟨by decide, by decide⟩ ?_
        refine r_goto dd_Mod_word_77 ?_
        exact r_retI dd_Mod_word_81 (by unfold wordS; (repeat (first | rw [if_pos (by omega)] | rw [if_neg (by omega)])); first | done | omega | exact (b2_t (by first | assumption | omega)).symm | exact (b2_f (by first | assumption | omega)).symm) rfl
    by_cases s19_3 : what = 3
    · refine r_tabAt (tgt := 82) (off := 63) dd_Mod_word_19 s19_3 (by decide) rfl rfl ?_
      refine r_aloadn dd_Mod_word_82 rfl ?_
      refine r_getR dd_Mod_word_83 fl_Mod_7 (kI := 0) rfl fr_Mod_0 vk_219 R0_219_0 ?_
      refine r_sip dd_Mod_word_86 ⟨by decide, by decide⟩ ?_
      refine r_iloadn dd_Mod_word_89 rfl ?_
      refine r_iadd dd_Mod_word_90 ⟨by omega, by omega⟩ ?_
      refine r_iald dd_Mod_word_91 (q := 12) (by decide) vk_220 (by omega) (by show _ < ((472 : Nat) : Int); omega) ?_
      refine r_S1W dd_Mod_word_92 ml_Mod_168 ok_Mod_sizeNumber st_Mod_sizeNumber (clS rfl (Nat.le_refl _) (rmOK_self _ _)) rfl c_Mod_sizeNumber ?_
      exact r_retI dd_Mod_word_95 (by unfold wordS; (repeat (first | rw [if_pos (by omega)] | rw [if_neg (by omega)])); first | done | omega | exact (b2_t (by first | assumption | omega)).symm | exact (b2_f (by first | assumption | omega)).symm) rfl
    refine r_tabOut (tgt := 96) dd_Mod_word_19 (by omega) rfl ?_
    refine r_bip dd_Mod_word_96 ⟨by decide, by decide⟩ ?_
    exact r_retI dd_Mod_word_98 (by unfold wordS; (repeat (first | rw [if_pos (by omega)] | rw [if_neg (by omega)])); first | done | omega | exact (b2_t (by first | assumption | omega)).symm | exact (b2_f (by first | assumption | omega)).symm) rfl
  · refine r_iconst dd_Mod_word_10 ⟨by decide, by decide⟩ ?_
    exact r_retI dd_Mod_word_11 (by unfold wordS; (repeat (first | rw [if_pos (by omega)] | rw [if_neg (by omega)])); first | done | omega | exact (b2_t (by first | assumption | omega)).symm | exact (b2_f (by first | assumption | omega)).symm) rfl
theorem c_Mod_task {μ : Int → Int → Int} {K t what : Int} (hW : MW K (μ 220)) : MetC mi_Mod_task [vR 219, vI t, vI what] (st μ) (some (vI (taskS (μ 220) t what))) (st (μ)) := by
  refine met_of ?_ (Nat.le_of_ble_eq_true rfl) (by decide) trivial (by decide) (Nat.le_of_ble_eq_true rfl)
  show SPW mi_Mod_task 226 0 [some (vR 219), some (vI t), some (vI what)] [] (st μ) (some (vI (taskS (μ 220) t what))) (st (μ))
  have hc := hW.2.1 t
  refine r_iloadn dd_Mod_task_0 rfl ?_
  refine r_S1W dd_Mod_task_1 ml_Mod_71 ok_Mod_isTask st_Mod_isTask (clS rfl (Nat.le_refl _) (rmOK_self _ _)) rfl c_Mod_isTask ?_
  refine r_if_ne_b dd_Mod_task_4 (fun c_4 => ?_) (fun c_4 => ?_)
  · refine r_iloadn dd_Mod_task_9 rfl ?_
    by_cases s10_0 : what = 0
    · refine r_tabAt (tgt := 52) (off := 42) dd_Mod_task_10 s10_0 (by decide) rfl rfl ?_
      refine r_iconst dd_Mod_task_52 ⟨by decide, by decide⟩ ?_
      refine r_aloadn dd_Mod_task_53 rfl ?_
      refine r_getR dd_Mod_task_54 fl_Mod_7 (kI := 0) rfl fr_Mod_0 vk_219 R0_219_0 ?_
      refine r_sip dd_Mod_task_57 ⟨by decide, by decide⟩ ?_
      refine r_iloadn dd_Mod_task_60 rfl ?_
      refine r_iadd dd_Mod_task_61 ⟨by omega, by omega⟩ ?_
      refine r_iald dd_Mod_task_62 (q := 12) (by decide) vk_220 (by omega) (by show _ < ((472 : Nat) : Int); omega) ?_
      refine r_isub dd_Mod_task_63 ⟨by omega, by omega⟩ ?_
      exact r_retI dd_Mod_task_64 (by unfold taskS; (repeat (first | rw [if_pos (by omega)] | rw [if_neg (by omega)])); first | done | omega | exact (b2_t (by first | assumption | omega)).symm | exact (b2_f (by first | assumption | omega)).symm) rfl
    by_cases s10_1 : what = 1
    · refine r_tabAt (tgt := 65) (off := 55) dd_Mod_task_10 s10_1 (by decide) rfl rfl ?_
      refine r_aloadn dd_Mod_task_65 rfl ?_
      refine r_iloadn dd_Mod_task_66 rfl ?_
      refine r_V1W dd_Mod_task_67 ml_Mod_105 ok_Mod_blocksOf vi_Mod_blocksOf vk_219 (by decide) (clS rfl (Nat.le_refl _) (rmOK_self _ _)) rfl (c_Mod_blocksOf hW) ?_
      exact r_retI dd_Mod_task_70 (by unfold taskS; (repeat (first | rw [if_pos (by omega)] | rw [if_neg (by omega)])); first | done | omega | exact (b2_t (by first | assumption | omega)).symm | exact (b2_f (by first | assumption | omega)).symm) rfl
    by_cases s10_2 : what = 2
    · refine r_tabAt (tgt := 71) (off := 61) dd_Mod_task_10 s10_2 (by decide) rfl rfl ?_
      refine r_aloadn dd_Mod_task_71 rfl ?_
      refine r_iloadn dd_Mod_task_72 rfl ?_
      refine r_V1W dd_Mod_task_73 ml_Mod_56 ok_Mod_wordsOf vi_Mod_wordsOf vk_219 (by decide) (clS rfl (Nat.le_refl _) (rmOK_self _ _)) rfl (c_Mod_wordsOf hW) ?_
      exact r_retI dd_Mod_task_76 (by unfold taskS; (repeat (first | rw [if_pos (by omega)] | rw [if_neg (by omega)])); first | done | omega | exact (b2_t (by first | assumption | omega)).symm | exact (b2_f (by first | assumption | omega)).symm) rfl
    by_cases s10_3 : what = 3
    · refine r_tabAt (tgt := 77) (off := 67) dd_Mod_task_10 s10_3 (by decide) rfl rfl ?_
      refine r_aloadn dd_Mod_task_77 rfl ?_
      refine r_iloadn dd_Mod_task_78 rfl ?_
      refine r_V1W dd_Mod_task_79 ml_Mod_171 ok_Mod_asked vi_Mod_asked vk_219 (by decide) (clS rfl (Nat.le_refl _) (rmOK_self _ _)) rfl (c_Mod_asked hW) ?_
      exact r_retI dd_Mod_task_82 (by unfold taskS; (repeat (first | rw [if_pos (by omega)] | rw [if_neg (by omega)])); first | done | omega | exact (b2_t (by first | assumption | omega)).symm | exact (b2_f (by first | assumption | omega)).symm) rfl
    by_cases s10_4 : what = 4
    · refine r_tabAt (tgt := 83) (off := 73) dd_Mod_task_10 s10_4 (by decide) rfl rfl ?_
      refine r_aloadn dd_Mod_task_83 rfl ?_
      refine r_getR dd_Mod_task_84 fl_Mod_7 (kI := 0) rfl fr_Mod_0 vk_219 R0_219_0 ?_
      refine r_sip dd_Mod_task_87 ⟨by decide, by decide⟩ ?_
      refine r_iloadn dd_Mod_task_90 rfl ?_
      refine r_iadd dd_Mod_task_91 ⟨by omega, by omega⟩ ?_
      refine r_iald dd_Mod_task_92 (q := 12) (by decide) vk_220 (by omega) (by show _ < ((472 : Nat) : Int); omega) ?_
      exact r_retI dd_Mod_task_93 (by unfold taskS; (repeat (first | rw [if_pos (by omega)] | rw [if_neg (by omega)])); first | done | omega | exact (b2_t (by first | assumption | omega)).symm | exact (b2_f (by first | assumption | omega)).symm) rfl
    by_cases s10_5 : what = 5
    · refine r_tabAt (tgt := 94) (off := 84) dd_Mod_task_10 s10_5 (by decide) rfl rfl ?_
      refine r_aloadn dd_Mod_task_94 rfl ?_
      refine r_iloadn dd_Mod_task_95 rfl ?_
      refine r_V1W dd_Mod_task_96 ml_Mod_81 ok_Mod_leaks vi_Mod_leaks vk_219 (by decide) (clS rfl (Nat.le_refl _) (rmOK_self _ _)) rfl (c_Mod_leaks hW) ?_
      exact r_retI dd_Mod_task_99 (by unfold taskS; (repeat (first | rw [if_pos (by omega)] | rw [if_neg (by omega)])); first | done | omega | exact (b2_t (by first | assumption | omega)).symm | exact (b2_f (by first | assumption | omega)).symm) rfl
    by_cases s10_6 : what = 6
    · refine r_tabAt (tgt := 100) (off := 90) dd_Mod_task_10 s10_6 (by decide) rfl rfl ?_
      refine r_aloadn dd_Mod_task_100 rfl ?_
      refine r_getR dd_Mod_task_101 fl_Mod_7 (kI := 0) rfl fr_Mod_0 vk_219 R0_219_0 ?_
      refine r_sip dd_Mod_task_104 ⟨by decide, by decide⟩ ?_
      refine r_iloadn dd_Mod_task_107 rfl ?_
      refine r_iadd dd_Mod_task_108 ⟨by omega, by omega⟩ ?_
      refine r_iald dd_Mod_task_109 (q := 12) (by decide) vk_220 (by omega) (by show _ < ((472 : Nat) : Int); omega) ?_
      exact r_retI dd_Mod_task_110 (by unfold taskS; (repeat (first | rw [if_pos (by omega)] | rw [if_neg (by omega)])); first | done | omega | exact (b2_t (by first | assumption | omega)).symm | exact (b2_f (by first | assumption | omega)).symm) rfl
    refine r_tabOut (tgt := 111) dd_Mod_task_10 (by omega) rfl ?_
    refine r_bip dd_Mod_task_111 ⟨by decide, by decide⟩ ?_
    exact r_retI dd_Mod_task_113 (by unfold taskS; (repeat (first | rw [if_pos (by omega)] | rw [if_neg (by omega)])); first | done | omega | exact (b2_t (by first | assumption | omega)).symm | exact (b2_f (by first | assumption | omega)).symm) rfl
  · refine r_iconst dd_Mod_task_7 ⟨by decide, by decide⟩ ?_
    exact r_retI dd_Mod_task_8 (by unfold taskS; (repeat (first | rw [if_pos (by omega)] | rw [if_neg (by omega)])); first | done | omega | exact (b2_t (by first | assumption | omega)).symm | exact (b2_f (by first | assumption | omega)).symm) rfl
theorem c_Mod_reason {μ : Int → Int → Int} {K t words : Int} (hW : MW K (μ 220)) : MetC mi_Mod_reason [vR 219, vI t, vI words] (st μ) (some (vI (reasS (μ 220) t words))) (st (μ)) := by
  refine met_of ?_ (Nat.le_of_ble_eq_true rfl) (by decide) trivial (by decide) (Nat.le_of_ble_eq_true rfl)
  show SPW mi_Mod_reason 226 0 [some (vR 219), some (vI t), some (vI words)] [] (st μ) (some (vI (reasS (μ 220) t words))) (st (μ))
  refine r_iloadn dd_Mod_reason_0 rfl ?_
  refine r_S1W dd_Mod_reason_1 ml_Mod_71 ok_Mod_isTask st_Mod_isTask (clS rfl (Nat.le_refl _) (rmOK_self _ _)) rfl c_Mod_isTask ?_
  refine r_if_ne_b dd_Mod_reason_4 (fun c_4 => ?_) (fun c_4 => ?_)
  · refine r_iloadn dd_Mod_reason_11 rfl ?_
    refine r_iconst dd_Mod_reason_12 ⟨by decide, by decide⟩ ?_
    refine r_bip dd_Mod_reason_13 ⟨by decide, by decide⟩ ?_
    refine r_S3W dd_Mod_reason_15 ml_Mod_35 ok_Mod_in st_Mod_in (clS rfl (Nat.le_refl _) (rmOK_self _ _)) rfl c_Mod_in ?_
    refine r_if_ne_b dd_Mod_reason_18 (fun c_18 => ?_) (fun c_18 => ?_)
    · refine r_aloadn dd_Mod_reason_26 rfl ?_
      refine r_iloadn dd_Mod_reason_27 rfl ?_
      refine r_iloadn dd_Mod_reason_28 rfl ?_
      refine r_V2W dd_Mod_reason_29 ml_Mod_74 ok_Mod_why vi_Mod_why vk_219 (by decide) (clS rfl (Nat.le_refl _) (rmOK_self _ _)) rfl (c_Mod_why hW (by omega) (by omega)) ?_
      exact r_retI dd_Mod_reason_32 (by unfold reasS; (repeat (first | rw [if_pos (by omega)] | rw [if_neg (by omega)])); first | done | omega | exact (b2_t (by first | assumption | omega)).symm | exact (b2_f (by first | assumption | omega)).symm) rfl
    · refine r_bip dd_Mod_reason_21 ⟨by decide, by decide⟩ ?_
      refine r_goto dd_Mod_reason_23 ?_
      exact r_retI dd_Mod_reason_32 (by unfold reasS; (repeat (first | rw [if_pos (by omega)] | rw [if_neg (by omega)])); first | done | omega | exact (b2_t (by first | assumption | omega)).symm | exact (b2_f (by first | assumption | omega)).symm) rfl
  · refine r_iconst dd_Mod_reason_7 ⟨by decide, by decide⟩ ?_
    refine r_goto dd_Mod_reason_8 ?_
    exact r_retI dd_Mod_reason_32 (by unfold reasS; (repeat (first | rw [if_pos (by omega)] | rw [if_neg (by omega)])); first | done | omega | exact (b2_t (by first | assumption | omega)).symm | exact (b2_f (by first | assumption | omega)).symm) rfl
theorem l_Mod_greatest {μ : Int → Int → Int} {K t : Int} (hW : MW K (μ 220)) (ht : 0 ≤ t) (ht1 : t < 6) : ∀ (n : Nat), n ≤ 14 → SPW mi_Mod_greatest 226 12 [some (vR 219), some (vI t), some (vI (n : Int))] [] (st μ) (some (vI (grF (μ 220) t n))) (st μ) := by
  intro n
  induction n with
  | zero =>
    intro h0
    refine r_iloadn dd_Mod_greatest_12 rfl ?_
    refine r_if_le dd_Mod_greatest_13 (fun c_13 => ?_) (fun c_13 => ?_)
    · refine r_bip dd_Mod_greatest_33 ⟨by decide, by decide⟩ ?_
      exact r_retI dd_Mod_greatest_35 rfl rfl
    · exfalso; omega
  | succ n ih =>
    intro h0
    refine r_iloadn dd_Mod_greatest_12 rfl ?_
    refine r_if_le dd_Mod_greatest_13 (fun c_13 => ?_) (fun c_13 => ?_)
    · exfalso; omega
    · refine r_aloadn dd_Mod_greatest_16 rfl ?_
      refine r_iloadn dd_Mod_greatest_17 rfl ?_
      refine r_iloadn dd_Mod_greatest_18 rfl ?_
      refine r_V2W dd_Mod_greatest_19 ml_Mod_74 ok_Mod_why vi_Mod_why vk_219 (by decide) (clS rfl (Nat.le_refl _) (rmOK_self _ _)) rfl (c_Mod_why hW (by omega) (by omega)) ?_
      refine r_if_ne dd_Mod_greatest_22 (fun c_22 => ?_) (fun c_22 => ?_)
      · refine r_iinc (L' := [_, _, _]) dd_Mod_greatest_27 rfl ⟨by omega, by omega⟩ rfl ?_
        refine r_goto dd_Mod_greatest_30 ?_
        have e : ((n + 1 : Nat) : Int) + -1 = (n : Int) := by omega
        rw [e]
        exact r_eqr (if_neg c_22).symm (ih (by omega))
      · refine r_iloadn dd_Mod_greatest_25 rfl ?_
        exact r_retI dd_Mod_greatest_26 (if_pos (by omega)).symm rfl
theorem c_Mod_greatest {μ : Int → Int → Int} {K t : Int} (hW : MW K (μ 220)) : MetC mi_Mod_greatest [vR 219, vI t] (st μ) (some (vI (greaS (μ 220) t))) (st (μ)) := by
  refine met_of ?_ (Nat.le_of_ble_eq_true rfl) (by decide) trivial (by decide) (Nat.le_of_ble_eq_true rfl)
  show SPW mi_Mod_greatest 226 0 [some (vR 219), some (vI t), none] [] (st μ) (some (vI (greaS (μ 220) t))) (st (μ))
  refine r_iloadn dd_Mod_greatest_0 rfl ?_
  refine r_S1W dd_Mod_greatest_1 ml_Mod_71 ok_Mod_isTask st_Mod_isTask (clS rfl (Nat.le_refl _) (rmOK_self _ _)) rfl c_Mod_isTask ?_
  refine r_if_ne_b dd_Mod_greatest_4 (fun c_4 => ?_) (fun c_4 => ?_)
  · refine r_bip dd_Mod_greatest_9 ⟨by decide, by decide⟩ ?_
    refine r_istoren (L' := [_, _, _]) dd_Mod_greatest_11 rfl rfl ?_
    exact r_eqr (by unfold greaS; rw [if_neg (by omega)]) (l_Mod_greatest hW (by omega) (by omega) 14 (by decide))
  · refine r_iconst dd_Mod_greatest_7 ⟨by decide, by decide⟩ ?_
    exact r_retI dd_Mod_greatest_8 (by unfold greaS; (repeat (first | rw [if_pos (by omega)] | rw [if_neg (by omega)])); first | done | omega | exact (b2_t (by first | assumption | omega)).symm | exact (b2_f (by first | assumption | omega)).symm) rfl
theorem l_Mod_ahead {μ : Int → Int → Int} {K b : Int} (hW : MW K (μ 220)) (hb0 : 0 ≤ b) (hb1 : b < 64) : ∀ (n : Nat) (w a : Int), (w + n = 64) → (0 ≤ w) → (0 ≤ a ∧ a ≤ w) → SPW mi_Mod_ahead 226 4 [some (vR 219), some (vI b), some (vI a), some (vI w), none] [] (st (μ)) (some (vI (a + sumF (n) w (fun w => if lkM (μ 220) w ∧ (μ 220 (384 + w) < μ 220 (384 + b) ∨ (μ 220 (384 + w) = μ 220 (384 + b) ∧ μ 220 (192 + w) < μ 220 (192 + b))) then 1 else 0)))) (st (μ)) := by
  intro n
  induction n with
  | zero =>
    intro w a h0 h1 h2
    refine r_iloadn dd_Mod_ahead_4 rfl ?_
    refine r_bip dd_Mod_ahead_5 ⟨by decide, by decide⟩ ?_
    refine r_icmp_ge dd_Mod_ahead_7 (fun c_7 => ?_) (fun c_7 => ?_)
    · refine r_iloadn dd_Mod_ahead_113 rfl ?_
      exact r_retI dd_Mod_ahead_114 (by rw [sumF_0]; omega) rfl
    · exfalso; omega
  | succ n ih =>
    intro w a h0 h1 h2
    refine r_iloadn dd_Mod_ahead_4 rfl ?_
    refine r_bip dd_Mod_ahead_5 ⟨by decide, by decide⟩ ?_
    refine r_icmp_ge dd_Mod_ahead_7 (fun c_7 => ?_) (fun c_7 => ?_)
    · exfalso; omega
    · refine r_aloadn dd_Mod_ahead_10 rfl ?_
      refine r_getR dd_Mod_ahead_11 fl_Mod_7 (kI := 0) rfl fr_Mod_0 vk_219 R0_219_0 ?_
      refine r_sip dd_Mod_ahead_14 ⟨by decide, by decide⟩ ?_
      refine r_iloadn dd_Mod_ahead_17 rfl ?_
      refine r_iadd dd_Mod_ahead_18 ⟨by omega, by omega⟩ ?_
      refine r_iald dd_Mod_ahead_19 (q := 12) (by decide) vk_220 (by omega) (by show _ < ((472 : Nat) : Int); omega) ?_
      refine r_aloadn dd_Mod_ahead_20 rfl ?_
      refine r_getR dd_Mod_ahead_21 fl_Mod_7 (kI := 0) rfl fr_Mod_0 vk_219 R0_219_0 ?_
      refine r_sip dd_Mod_ahead_24 ⟨by decide, by decide⟩ ?_
      refine r_iloadn dd_Mod_ahead_27 rfl ?_
      refine r_iadd dd_Mod_ahead_28 ⟨by omega, by omega⟩ ?_
      refine r_iald dd_Mod_ahead_29 (q := 12) (by decide) vk_220 (by omega) (by show _ < ((472 : Nat) : Int); omega) ?_
      refine r_icmp_lt dd_Mod_ahead_30 (fun c_30 => ?_) (fun c_30 => ?_)
      · refine r_iconst dd_Mod_ahead_79 ⟨by decide, by decide⟩ ?_
        refine r_goto dd_Mod_ahead_80 ?_
        refine r_istore (L' := [_, _, _, _, _]) dd_Mod_ahead_84 rfl rfl ?_
        refine r_iloadn dd_Mod_ahead_86 rfl ?_
        refine r_aloadn dd_Mod_ahead_87 rfl ?_
        refine r_iloadn dd_Mod_ahead_88 rfl ?_
        refine r_V1W dd_Mod_ahead_89 ml_Mod_68 ok_Mod_isLeak vi_Mod_isLeak vk_219 (by decide) (clS rfl (Nat.le_refl _) (rmOK_self _ _)) rfl (c_Mod_isLeak hW (by omega) (by omega)) ?_
        refine r_if_eq_b dd_Mod_ahead_92 (fun c_92 => ?_) (fun c_92 => ?_)
        · refine r_iconst dd_Mod_ahead_104 ⟨by decide, by decide⟩ ?_
          refine r_iadd dd_Mod_ahead_105 ⟨by omega, by omega⟩ ?_
          refine r_istoren (L' := [_, _, _, _, _]) dd_Mod_ahead_106 rfl rfl ?_
          refine r_iinc (L' := [_, _, _, _, _]) dd_Mod_ahead_107 rfl ⟨by omega, by omega⟩ rfl ?_
          refine r_goto dd_Mod_ahead_110 ?_
          refine r_drop 4 (r_eqr (by rw [sumF_s]; first | (rw [if_pos (by omega)]; omega) | (rw [if_neg (by omega)]; omega)) (ih (w + 1) _ (by omega) (by omega) ⟨by omega, by omega⟩))
        · refine r_iload dd_Mod_ahead_95 rfl ?_
          refine r_if_eq dd_Mod_ahead_97 (fun c_97 => ?_) (fun c_97 => ?_)
          · refine r_iconst dd_Mod_ahead_104 ⟨by decide, by decide⟩ ?_
            refine r_iadd dd_Mod_ahead_105 ⟨by omega, by omega⟩ ?_
            refine r_istoren (L' := [_, _, _, _, _]) dd_Mod_ahead_106 rfl rfl ?_
            refine r_iinc (L' := [_, _, _, _, _]) dd_Mod_ahead_107 rfl ⟨by omega, by omega⟩ rfl ?_
            refine r_goto dd_Mod_ahead_110 ?_
            refine r_drop 4 (r_eqr (by rw [sumF_s]; first | (rw [if_pos (by omega)]; omega) | (rw [if_neg (by omega)]; omega)) (ih (w + 1) _ (by omega) (by omega) ⟨by omega, by omega⟩))
          · refine r_iconst dd_Mod_ahead_100 ⟨by decide, by decide⟩ ?_
            refine r_goto dd_Mod_ahead_101 ?_
            refine r_iadd dd_Mod_ahead_105 ⟨by omega, by omega⟩ ?_
            refine r_istoren (L' := [_, _, _, _, _]) dd_Mod_ahead_106 rfl rfl ?_
            refine r_iinc (L' := [_, _, _, _, _]) dd_Mod_ahead_107 rfl ⟨by omega, by omega⟩ rfl ?_
            refine r_goto dd_Mod_ahead_110 ?_
            refine r_drop 4 (r_eqr (by rw [sumF_s]; first | (rw [if_pos (by omega)]; omega) | (rw [if_neg (by omega)]; omega)) (ih (w + 1) _ (by omega) (by omega) ⟨by omega, by omega⟩))
      · refine r_aloadn dd_Mod_ahead_33 rfl ?_
        refine r_getR dd_Mod_ahead_34 fl_Mod_7 (kI := 0) rfl fr_Mod_0 vk_219 R0_219_0 ?_
        refine r_sip dd_Mod_ahead_37 ⟨by decide, by decide⟩ ?_
        refine r_iloadn dd_Mod_ahead_40 rfl ?_
        refine r_iadd dd_Mod_ahead_41 ⟨by omega, by omega⟩ ?_
        refine r_iald dd_Mod_ahead_42 (q := 12) (by decide) vk_220 (by omega) (by show _ < ((472 : Nat) : Int); omega) ?_
        refine r_aloadn dd_Mod_ahead_43 rfl ?_
        refine r_getR dd_Mod_ahead_44 fl_Mod_7 (kI := 0) rfl fr_Mod_0 vk_219 R0_219_0 ?_
        refine r_sip dd_Mod_ahead_47 ⟨by decide, by decide⟩ ?_
        refine r_iloadn dd_Mod_ahead_50 rfl ?_
        refine r_iadd dd_Mod_ahead_51 ⟨by omega, by omega⟩ ?_
        refine r_iald dd_Mod_ahead_52 (q := 12) (by decide) vk_220 (by omega) (by show _ < ((472 : Nat) : Int); omega) ?_
        refine r_icmp_ne dd_Mod_ahead_53 (fun c_53 => ?_) (fun c_53 => ?_)
        · refine r_iconst dd_Mod_ahead_83 ⟨by decide, by decide⟩ ?_
          refine r_istore (L' := [_, _, _, _, _]) dd_Mod_ahead_84 rfl rfl ?_
          refine r_iloadn dd_Mod_ahead_86 rfl ?_
          refine r_aloadn dd_Mod_ahead_87 rfl ?_
          refine r_iloadn dd_Mod_ahead_88 rfl ?_
          refine r_V1W dd_Mod_ahead_89 ml_Mod_68 ok_Mod_isLeak vi_Mod_isLeak vk_219 (by decide) (clS rfl (Nat.le_refl _) (rmOK_self _ _)) rfl (c_Mod_isLeak hW (by omega) (by omega)) ?_
          refine r_if_eq_b dd_Mod_ahead_92 (fun c_92 => ?_) (fun c_92 => ?_)
          · refine r_iconst dd_Mod_ahead_104 ⟨by decide, by decide⟩ ?_
            refine r_iadd dd_Mod_ahead_105 ⟨by omega, by omega⟩ ?_
            refine r_istoren (L' := [_, _, _, _, _]) dd_Mod_ahead_106 rfl rfl ?_
            refine r_iinc (L' := [_, _, _, _, _]) dd_Mod_ahead_107 rfl ⟨by omega, by omega⟩ rfl ?_
            refine r_goto dd_Mod_ahead_110 ?_
            refine r_drop 4 (r_eqr (by rw [sumF_s]; first | (rw [if_pos (by omega)]; omega) | (rw [if_neg (by omega)]; omega)) (ih (w + 1) _ (by omega) (by omega) ⟨by omega, by omega⟩))
          · refine r_iload dd_Mod_ahead_95 rfl ?_
            refine r_if_eq dd_Mod_ahead_97 (fun c_97 => ?_) (fun c_97 => ?_)
            · refine r_iconst dd_Mod_ahead_104 ⟨by decide, by decide⟩ ?_
              refine r_iadd dd_Mod_ahead_105 ⟨by omega, by omega⟩ ?_
              refine r_istoren (L' := [_, _, _, _, _]) dd_Mod_ahead_106 rfl rfl ?_
              refine r_iinc (L' := [_, _, _, _, _]) dd_Mod_ahead_107 rfl ⟨by omega, by omega⟩ rfl ?_
              refine r_goto dd_Mod_ahead_110 ?_
              refine r_drop 4 (r_eqr (by rw [sumF_s]; first | (rw [if_pos (by omega)]; omega) | (rw [if_neg (by omega)]; omega)) (ih (w + 1) _ (by omega) (by omega) ⟨by omega, by omega⟩))
            · refine r_iconst dd_Mod_ahead_100 ⟨by decide, by decide⟩ ?_
              refine r_goto dd_Mod_ahead_101 ?_
              refine r_iadd dd_Mod_ahead_105 ⟨by omega, by omega⟩ ?_
              refine r_istoren (L' := [_, _, _, _, _]) dd_Mod_ahead_106 rfl rfl ?_
              refine r_iinc (L' := [_, _, _, _, _]) dd_Mod_ahead_107 rfl ⟨by omega, by omega⟩ rfl ?_
              refine r_goto dd_Mod_ahead_110 ?_
              refine r_drop 4 (r_eqr (by rw [sumF_s]; first | (rw [if_pos (by omega)]; omega) | (rw [if_neg (by omega)]; omega)) (ih (w + 1) _ (by omega) (by omega) ⟨by omega, by omega⟩))
        · refine r_aloadn dd_Mod_ahead_56 rfl ?_
          refine r_getR dd_Mod_ahead_57 fl_Mod_7 (kI := 0) rfl fr_Mod_0 vk_219 R0_219_0 ?_
          refine r_sip dd_Mod_ahead_60 ⟨by decide, by decide⟩ ?_
          refine r_iloadn dd_Mod_ahead_63 rfl ?_
          refine r_iadd dd_Mod_ahead_64 ⟨by omega, by omega⟩ ?_
          refine r_iald dd_Mod_ahead_65 (q := 12) (by decide) vk_220 (by omega) (by show _ < ((472 : Nat) : Int); omega) ?_
          refine r_aloadn dd_Mod_ahead_66 rfl ?_
          refine r_getR dd_Mod_ahead_67 fl_Mod_7 (kI := 0) rfl fr_Mod_0 vk_219 R0_219_0 ?_
          refine r_sip dd_Mod_ahead_70 ⟨by decide, by decide⟩ ?_
          refine r_iloadn dd_Mod_ahead_73 rfl ?_
          refine r_iadd dd_Mod_ahead_74 ⟨by omega, by omega⟩ ?_
          refine r_iald dd_Mod_ahead_75 (q := 12) (by decide) vk_220 (by omega) (by show _ < ((472 : Nat) : Int); omega) ?_
          refine r_icmp_ge dd_Mod_ahead_76 (fun c_76 => ?_) (fun c_76 => ?_)
          · refine r_iconst dd_Mod_ahead_83 ⟨by decide, by decide⟩ ?_
            refine r_istore (L' := [_, _, _, _, _]) dd_Mod_ahead_84 rfl rfl ?_
            refine r_iloadn dd_Mod_ahead_86 rfl ?_
            refine r_aloadn dd_Mod_ahead_87 rfl ?_
            refine r_iloadn dd_Mod_ahead_88 rfl ?_
            refine r_V1W dd_Mod_ahead_89 ml_Mod_68 ok_Mod_isLeak vi_Mod_isLeak vk_219 (by decide) (clS rfl (Nat.le_refl _) (rmOK_self _ _)) rfl (c_Mod_isLeak hW (by omega) (by omega)) ?_
            refine r_if_eq_b dd_Mod_ahead_92 (fun c_92 => ?_) (fun c_92 => ?_)
            · refine r_iconst dd_Mod_ahead_104 ⟨by decide, by decide⟩ ?_
              refine r_iadd dd_Mod_ahead_105 ⟨by omega, by omega⟩ ?_
              refine r_istoren (L' := [_, _, _, _, _]) dd_Mod_ahead_106 rfl rfl ?_
              refine r_iinc (L' := [_, _, _, _, _]) dd_Mod_ahead_107 rfl ⟨by omega, by omega⟩ rfl ?_
              refine r_goto dd_Mod_ahead_110 ?_
              refine r_drop 4 (r_eqr (by rw [sumF_s]; first | (rw [if_pos (by omega)]; omega) | (rw [if_neg (by omega)]; omega)) (ih (w + 1) _ (by omega) (by omega) ⟨by omega, by omega⟩))
            · refine r_iload dd_Mod_ahead_95 rfl ?_
              refine r_if_eq dd_Mod_ahead_97 (fun c_97 => ?_) (fun c_97 => ?_)
              · refine r_iconst dd_Mod_ahead_104 ⟨by decide, by decide⟩ ?_
                refine r_iadd dd_Mod_ahead_105 ⟨by omega, by omega⟩ ?_
                refine r_istoren (L' := [_, _, _, _, _]) dd_Mod_ahead_106 rfl rfl ?_
                refine r_iinc (L' := [_, _, _, _, _]) dd_Mod_ahead_107 rfl ⟨by omega, by omega⟩ rfl ?_
                refine r_goto dd_Mod_ahead_110 ?_
                refine r_drop 4 (r_eqr (by rw [sumF_s]; first | (rw [if_pos (by omega)]; omega) | (rw [if_neg (by omega)]; omega)) (ih (w + 1) _ (by omega) (by omega) ⟨by omega, by omega⟩))
              · refine r_iconst dd_Mod_ahead_100 ⟨by decide, by decide⟩ ?_
                refine r_goto dd_Mod_ahead_101 ?_
                refine r_iadd dd_Mod_ahead_105 ⟨by omega, by omega⟩ ?_
                refine r_istoren (L' := [_, _, _, _, _]) dd_Mod_ahead_106 rfl rfl ?_
                refine r_iinc (L' := [_, _, _, _, _]) dd_Mod_ahead_107 rfl ⟨by omega, by omega⟩ rfl ?_
                refine r_goto dd_Mod_ahead_110 ?_
                refine r_drop 4 (r_eqr (by rw [sumF_s]; first | (rw [if_pos (by omega)]; omega) | (rw [if_neg (by omega)]; omega)) (ih (w + 1) _ (by omega) (by omega) ⟨by omega, by omega⟩))
          · refine r_iconst dd_Mod_ahead_79 ⟨by decide, by decide⟩ ?_
            refine r_goto dd_Mod_ahead_80 ?_
            refine r_istore (L' := [_, _, _, _, _]) dd_Mod_ahead_84 rfl rfl ?_
            refine r_iloadn dd_Mod_ahead_86 rfl ?_
            refine r_aloadn dd_Mod_ahead_87 rfl ?_
            refine r_iloadn dd_Mod_ahead_88 rfl ?_
            refine r_V1W dd_Mod_ahead_89 ml_Mod_68 ok_Mod_isLeak vi_Mod_isLeak vk_219 (by decide) (clS rfl (Nat.le_refl _) (rmOK_self _ _)) rfl (c_Mod_isLeak hW (by omega) (by omega)) ?_
            refine r_if_eq_b dd_Mod_ahead_92 (fun c_92 => ?_) (fun c_92 => ?_)
            · refine r_iconst dd_Mod_ahead_104 ⟨by decide, by decide⟩ ?_
              refine r_iadd dd_Mod_ahead_105 ⟨by omega, by omega⟩ ?_
              refine r_istoren (L' := [_, _, _, _, _]) dd_Mod_ahead_106 rfl rfl ?_
              refine r_iinc (L' := [_, _, _, _, _]) dd_Mod_ahead_107 rfl ⟨by omega, by omega⟩ rfl ?_
              refine r_goto dd_Mod_ahead_110 ?_
              refine r_drop 4 (r_eqr (by rw [sumF_s]; first | (rw [if_pos (by omega)]; omega) | (rw [if_neg (by omega)]; omega)) (ih (w + 1) _ (by omega) (by omega) ⟨by omega, by omega⟩))
            · refine r_iload dd_Mod_ahead_95 rfl ?_
              refine r_if_eq dd_Mod_ahead_97 (fun c_97 => ?_) (fun c_97 => ?_)
              · refine r_iconst dd_Mod_ahead_104 ⟨by decide, by decide⟩ ?_
                refine r_iadd dd_Mod_ahead_105 ⟨by omega, by omega⟩ ?_
                refine r_istoren (L' := [_, _, _, _, _]) dd_Mod_ahead_106 rfl rfl ?_
                refine r_iinc (L' := [_, _, _, _, _]) dd_Mod_ahead_107 rfl ⟨by omega, by omega⟩ rfl ?_
                refine r_goto dd_Mod_ahead_110 ?_
                refine r_drop 4 (r_eqr (by rw [sumF_s]; first | (rw [if_pos (by omega)]; omega) | (rw [if_neg (by omega)]; omega)) (ih (w + 1) _ (by omega) (by omega) ⟨by omega, by omega⟩))
              · refine r_iconst dd_Mod_ahead_100 ⟨by decide, by decide⟩ ?_
                refine r_goto dd_Mod_ahead_101 ?_
                refine r_iadd dd_Mod_ahead_105 ⟨by omega, by omega⟩ ?_
                refine r_istoren (L' := [_, _, _, _, _]) dd_Mod_ahead_106 rfl rfl ?_
                refine r_iinc (L' := [_, _, _, _, _]) dd_Mod_ahead_107 rfl ⟨by omega, by omega⟩ rfl ?_
                refine r_goto dd_Mod_ahead_110 ?_
                refine r_drop 4 (r_eqr (by rw [sumF_s]; first | (rw [if_pos (by omega)]; omega) | (rw [if_neg (by omega)]; omega)) (ih (w + 1) _ (by omega) (by omega) ⟨by omega, by omega⟩))
theorem c_Mod_ahead {μ : Int → Int → Int} {K b : Int} (hW : MW K (μ 220)) (h0 : 0 ≤ b) (h1 : b < 64) : MetC mi_Mod_ahead [vR 219, vI b] (st μ) (some (vI (ahdM (μ 220) b))) (st (μ)) := by
  refine met_of ?_ (Nat.le_of_ble_eq_true rfl) (by decide) trivial (by decide) (Nat.le_of_ble_eq_true rfl)
  show SPW mi_Mod_ahead 226 0 [some (vR 219), some (vI b), none, none, none] [] (st μ) (some (vI (ahdM (μ 220) b))) (st (μ))
  refine r_iconst dd_Mod_ahead_0 ⟨by decide, by decide⟩ ?_
  refine r_istoren (L' := [_, _, _, _, _]) dd_Mod_ahead_1 rfl rfl ?_
  refine r_iconst dd_Mod_ahead_2 ⟨by decide, by decide⟩ ?_
  refine r_istoren (L' := [_, _, _, _, _]) dd_Mod_ahead_3 rfl rfl ?_
  exact r_eqr (Int.zero_add _) (l_Mod_ahead hW h0 h1 64 0 0 (by decide) (by decide) ⟨by decide, by decide⟩)

/-! the reference: copies, history, blocks taken and given back -/
theorem t221_219 {μ : Int → Int → Int} {f : Int → Int} : setO μ 221 f 219 = μ 219 := setO_ne (by decide)
theorem t221_220 {μ : Int → Int → Int} {f : Int → Int} : setO μ 221 f 220 = μ 220 := setO_ne (by decide)
theorem t221_222 {μ : Int → Int → Int} {f : Int → Int} : setO μ 221 f 222 = μ 222 := setO_ne (by decide)
theorem t221_223 {μ : Int → Int → Int} {f : Int → Int} : setO μ 221 f 223 = μ 223 := setO_ne (by decide)
theorem t221_224 {μ : Int → Int → Int} {f : Int → Int} : setO μ 221 f 224 = μ 224 := setO_ne (by decide)
theorem t221_225 {μ : Int → Int → Int} {f : Int → Int} : setO μ 221 f 225 = μ 225 := setO_ne (by decide)
theorem v221 {μ : Int → Int → Int} {f : Int → Int} {k v : Int} : upM (setO μ 221 f) 219 k v = setO (upM μ 219 k v) 221 f := by
  rw [upM_to, setO_ne (by decide), upM_to, setO_comm (by decide)]
theorem t222_219 {μ : Int → Int → Int} {f : Int → Int} : setO μ 222 f 219 = μ 219 := setO_ne (by decide)
theorem t222_220 {μ : Int → Int → Int} {f : Int → Int} : setO μ 222 f 220 = μ 220 := setO_ne (by decide)
theorem t222_221 {μ : Int → Int → Int} {f : Int → Int} : setO μ 222 f 221 = μ 221 := setO_ne (by decide)
theorem t222_223 {μ : Int → Int → Int} {f : Int → Int} : setO μ 222 f 223 = μ 223 := setO_ne (by decide)
theorem t222_224 {μ : Int → Int → Int} {f : Int → Int} : setO μ 222 f 224 = μ 224 := setO_ne (by decide)
theorem t222_225 {μ : Int → Int → Int} {f : Int → Int} : setO μ 222 f 225 = μ 225 := setO_ne (by decide)
theorem v222 {μ : Int → Int → Int} {f : Int → Int} {k v : Int} : upM (setO μ 222 f) 219 k v = setO (upM μ 219 k v) 222 f := by
  rw [upM_to, setO_ne (by decide), upM_to, setO_comm (by decide)]
theorem t223_219 {μ : Int → Int → Int} {f : Int → Int} : setO μ 223 f 219 = μ 219 := setO_ne (by decide)
theorem t223_220 {μ : Int → Int → Int} {f : Int → Int} : setO μ 223 f 220 = μ 220 := setO_ne (by decide)
theorem t223_221 {μ : Int → Int → Int} {f : Int → Int} : setO μ 223 f 221 = μ 221 := setO_ne (by decide)
theorem t223_222 {μ : Int → Int → Int} {f : Int → Int} : setO μ 223 f 222 = μ 222 := setO_ne (by decide)
theorem t223_224 {μ : Int → Int → Int} {f : Int → Int} : setO μ 223 f 224 = μ 224 := setO_ne (by decide)
theorem t223_225 {μ : Int → Int → Int} {f : Int → Int} : setO μ 223 f 225 = μ 225 := setO_ne (by decide)
theorem v223 {μ : Int → Int → Int} {f : Int → Int} {k v : Int} : upM (setO μ 223 f) 219 k v = setO (upM μ 219 k v) 223 f := by
  rw [upM_to, setO_ne (by decide), upM_to, setO_comm (by decide)]
theorem w_220 {μ : Int → Int → Int} {k v : Int} : upM μ 219 k v 220 = μ 220 := by
  rw [upM_to, setO_ne (by decide)]
theorem w_221 {μ : Int → Int → Int} {k v : Int} : upM μ 219 k v 221 = μ 221 := by
  rw [upM_to, setO_ne (by decide)]
theorem w_222 {μ : Int → Int → Int} {k v : Int} : upM μ 219 k v 222 = μ 222 := by
  rw [upM_to, setO_ne (by decide)]
theorem w_223 {μ : Int → Int → Int} {k v : Int} : upM μ 219 k v 223 = μ 223 := by
  rw [upM_to, setO_ne (by decide)]
theorem w_224 {μ : Int → Int → Int} {k v : Int} : upM μ 219 k v 224 = μ 224 := by
  rw [upM_to, setO_ne (by decide)]
theorem w_225 {μ : Int → Int → Int} {k v : Int} : upM μ 219 k v 225 = μ 225 := by
  rw [upM_to, setO_ne (by decide)]
theorem upM_uu {μ : Int → Int → Int} {o k v v' : Int} : upM (upM μ o k v) o k v' = upM μ o k v' := by
  funext o' k'
  unfold upM
  by_cases h : o' = o ∧ k' = k
  · rw [if_pos h, if_pos h]
  · rw [if_neg h, if_neg h, if_neg h]
theorem cpy_out {g f : Int → Int} {off j k : Int} (h : ¬ (off ≤ k ∧ k < off + j)) : cpy g f off j k = f k := if_neg h
theorem l_Mod_putAside {μ : Int → Int → Int} {m : Int → Int} : ∀ (n : Nat) (w : Int), (w + n = 472) → (0 ≤ w) → SPW mi_Mod_putAside 226 2 [some (vR 219), some (vI w)] [] (st (setO (setO μ 221 (cpy m (μ 221) 0 w)) 220 m)) (none) (st (setO (setO μ 221 (cpy m (μ 221) 0 472)) 220 m)) := by
  intro n
  induction n with
  | zero =>
    intro w h0 h1
    refine r_iloadn dd_Mod_putAside_2 rfl ?_
    refine r_sip dd_Mod_putAside_3 ⟨by decide, by decide⟩ ?_
    refine r_icmp_ge dd_Mod_putAside_6 (fun c_6 => ?_) (fun c_6 => ?_)
    · exact r_retV dd_Mod_putAside_27 (by rw [show w = 472 by omega])
    · exfalso; omega
  | succ n ih =>
    intro w h0 h1
    refine r_iloadn dd_Mod_putAside_2 rfl ?_
    refine r_sip dd_Mod_putAside_3 ⟨by decide, by decide⟩ ?_
    refine r_icmp_ge dd_Mod_putAside_6 (fun c_6 => ?_) (fun c_6 => ?_)
    · exfalso; omega
    · refine r_aloadn dd_Mod_putAside_9 rfl ?_
      refine r_getR dd_Mod_putAside_10 fl_Mod_13 (kI := 1) rfl fr_Mod_1 vk_219 R0_219_1 ?_
      refine r_iloadn dd_Mod_putAside_13 rfl ?_
      refine r_aloadn dd_Mod_putAside_14 rfl ?_
      refine r_getR dd_Mod_putAside_15 fl_Mod_7 (kI := 0) rfl fr_Mod_0 vk_219 R0_219_0 ?_
      refine r_iloadn dd_Mod_putAside_18 rfl ?_
      refine r_iald dd_Mod_putAside_19 (q := 12) (by decide) vk_220 (by omega) (by show _ < ((472 : Nat) : Int); omega) ?_
      simp only [setO_at, setO_ss, upM_on, so_219, so_221, so_222, so_223, so_224, so_225, uo_219, uo_221, uo_222, uo_223, uo_224, uo_225, upM_eq, upM_uu, t221_219, t221_220, t221_222, t221_223, t221_224, t221_225, v221, t222_219, t222_220, t222_221, t222_223, t222_224, t222_225, v222, t223_219, t223_220, t223_221, t223_222, t223_224, t223_225, v223, w_220, w_221, w_222, w_223, w_224, w_225]
      refine r_iast dd_Mod_putAside_20 (q := 12) (by decide) vk_221 (by omega) (by show _ < ((472 : Nat) : Int); omega) ?_
      simp only [setO_at, setO_ss, upM_on, so_219, so_221, so_222, so_223, so_224, so_225, uo_219, uo_221, uo_222, uo_223, uo_224, uo_225, upM_eq, upM_uu, t221_219, t221_220, t221_222, t221_223, t221_224, t221_225, v221, t222_219, t222_220, t222_221, t222_223, t222_224, t222_225, v222, t223_219, t223_220, t223_221, t223_222, t223_224, t223_225, v223, w_220, w_221, w_222, w_223, w_224, w_225]
      refine r_iinc (L' := [_, _]) dd_Mod_putAside_21 rfl ⟨by omega, by omega⟩ rfl ?_
      refine r_goto dd_Mod_putAside_24 ?_
      refine r_to ?_ (ih (w + 1) (by omega) (by omega))
      rw [cpy_s0 h1]
theorem c_Mod_putAside {μ : Int → Int → Int} {m : Int → Int} : MetC mi_Mod_putAside [vR 219] (st (setO μ 220 m)) (none) (st (setO (setO μ 221 (cpy m (μ 221) 0 472)) 220 m)) := by
  refine met_of ?_ (Nat.le_of_ble_eq_true rfl) (by decide) trivial (by decide) (Nat.le_of_ble_eq_true rfl)
  show SPW mi_Mod_putAside 226 0 [some (vR 219), none] [] (st (setO μ 220 m)) (none) (st (setO (setO μ 221 (cpy m (μ 221) 0 472)) 220 m))
  refine r_iconst dd_Mod_putAside_0 ⟨by decide, by decide⟩ ?_
  refine r_istoren (L' := [_, _]) dd_Mod_putAside_1 rfl rfl ?_
  refine r_to ?_ (l_Mod_putAside 472 0 (by decide) (by decide))
  rw [cpy_0, setO_self]
theorem l_Mod_putBack {μ : Int → Int → Int} {m : Int → Int} : ∀ (n : Nat) (w : Int), (w + n = 472) → (0 ≤ w) → SPW mi_Mod_putBack 226 2 [some (vR 219), some (vI w)] [] (st (setO μ 220 (cpy (μ 221) m 0 w))) (none) (st (setO μ 220 (cpy (μ 221) m 0 472))) := by
  intro n
  induction n with
  | zero =>
    intro w h0 h1
    refine r_iloadn dd_Mod_putBack_2 rfl ?_
    refine r_sip dd_Mod_putBack_3 ⟨by decide, by decide⟩ ?_
    refine r_icmp_ge dd_Mod_putBack_6 (fun c_6 => ?_) (fun c_6 => ?_)
    · exact r_retV dd_Mod_putBack_27 (by rw [show w = 472 by omega])
    · exfalso; omega
  | succ n ih =>
    intro w h0 h1
    refine r_iloadn dd_Mod_putBack_2 rfl ?_
    refine r_sip dd_Mod_putBack_3 ⟨by decide, by decide⟩ ?_
    refine r_icmp_ge dd_Mod_putBack_6 (fun c_6 => ?_) (fun c_6 => ?_)
    · exfalso; omega
    · refine r_aloadn dd_Mod_putBack_9 rfl ?_
      refine r_getR dd_Mod_putBack_10 fl_Mod_7 (kI := 0) rfl fr_Mod_0 vk_219 R0_219_0 ?_
      refine r_iloadn dd_Mod_putBack_13 rfl ?_
      refine r_aloadn dd_Mod_putBack_14 rfl ?_
      refine r_getR dd_Mod_putBack_15 fl_Mod_13 (kI := 1) rfl fr_Mod_1 vk_219 R0_219_1 ?_
      refine r_iloadn dd_Mod_putBack_18 rfl ?_
      refine r_iald dd_Mod_putBack_19 (q := 12) (by decide) vk_221 (by omega) (by show _ < ((472 : Nat) : Int); omega) ?_
      simp only [setO_at, setO_ss, upM_on, so_219, so_221, so_222, so_223, so_224, so_225, uo_219, uo_221, uo_222, uo_223, uo_224, uo_225, upM_eq, upM_uu, t221_219, t221_220, t221_222, t221_223, t221_224, t221_225, v221, t222_219, t222_220, t222_221, t222_223, t222_224, t222_225, v222, t223_219, t223_220, t223_221, t223_222, t223_224, t223_225, v223, w_220, w_221, w_222, w_223, w_224, w_225]
      refine r_iast dd_Mod_putBack_20 (q := 12) (by decide) vk_220 (by omega) (by show _ < ((472 : Nat) : Int); omega) ?_
      simp only [setO_at, setO_ss, upM_on, so_219, so_221, so_222, so_223, so_224, so_225, uo_219, uo_221, uo_222, uo_223, uo_224, uo_225, upM_eq, upM_uu, t221_219, t221_220, t221_222, t221_223, t221_224, t221_225, v221, t222_219, t222_220, t222_221, t222_223, t222_224, t222_225, v222, t223_219, t223_220, t223_221, t223_222, t223_224, t223_225, v223, w_220, w_221, w_222, w_223, w_224, w_225]
      refine r_iinc (L' := [_, _]) dd_Mod_putBack_21 rfl ⟨by omega, by omega⟩ rfl ?_
      refine r_goto dd_Mod_putBack_24 ?_
      refine r_to ?_ (ih (w + 1) (by omega) (by omega))
      rw [cpy_s0 h1]
theorem c_Mod_putBack {μ : Int → Int → Int} {m : Int → Int} : MetC mi_Mod_putBack [vR 219] (st (setO μ 220 m)) (none) (st (setO μ 220 (cpy (μ 221) m 0 472))) := by
  refine met_of ?_ (Nat.le_of_ble_eq_true rfl) (by decide) trivial (by decide) (Nat.le_of_ble_eq_true rfl)
  show SPW mi_Mod_putBack 226 0 [some (vR 219), none] [] (st (setO μ 220 m)) (none) (st (setO μ 220 (cpy (μ 221) m 0 472)))
  refine r_iconst dd_Mod_putBack_0 ⟨by decide, by decide⟩ ?_
  refine r_istoren (L' := [_, _]) dd_Mod_putBack_1 rfl rfl ?_
  refine r_to ?_ (l_Mod_putBack 472 0 (by decide) (by decide))
  rw [cpy_0]
theorem l_Mod_know2 {μ : Int → Int → Int} {m f : Int → Int} (hk : 0 ≤ μ 219 3 ∧ μ 219 3 ≤ 3) : ∀ (n : Nat) (w : Int), (w + n = 472) → (0 ≤ w) → SPW mi_Mod_know 226 51 [some (vR 219), some (vI w)] [] (st (setO (setO μ 222 (cpy m f (472 * μ 219 3) w)) 220 m)) (none) (st (setO (setO (upM μ 219 3 (μ 219 3 + 1)) 222 (cpy m f (472 * μ 219 3) 472)) 220 m)) := by
  intro n
  induction n with
  | zero =>
    intro w h0 h1
    refine r_iloadn dd_Mod_know_51 rfl ?_
    refine r_sip dd_Mod_know_52 ⟨by decide, by decide⟩ ?_
    refine r_icmp_ge dd_Mod_know_55 (fun c_55 => ?_) (fun c_55 => ?_)
    · refine r_aloadn dd_Mod_know_85 rfl ?_
      refine r_dup dd_Mod_know_86 ?_
      refine r_getI dd_Mod_know_87 fl_Mod_39 (kI := 3) rfl fi_Mod_3 vk_219 ?_
      simp only [setO_at, setO_ss, upM_on, so_219, so_221, so_222, so_223, so_224, so_225, uo_219, uo_221, uo_222, uo_223, uo_224, uo_225, upM_eq, upM_uu, t221_219, t221_220, t221_222, t221_223, t221_224, t221_225, v221, t222_219, t222_220, t222_221, t222_223, t222_224, t222_225, v222, t223_219, t223_220, t223_221, t223_222, t223_224, t223_225, v223, w_220, w_221, w_222, w_223, w_224, w_225]
      refine r_iconst dd_Mod_know_90 ⟨by decide, by decide⟩ ?_
      refine r_iadd dd_Mod_know_91 ⟨by omega, by omega⟩ ?_
      refine r_putI dd_Mod_know_92 fl_Mod_39 (kI := 3) rfl fc_Mod_3 ff_Mod_3 (pi_Mod_3 _) vk_219 ?_
      simp only [setO_at, setO_ss, upM_on, so_219, so_221, so_222, so_223, so_224, so_225, uo_219, uo_221, uo_222, uo_223, uo_224, uo_225, upM_eq, upM_uu, t221_219, t221_220, t221_222, t221_223, t221_224, t221_225, v221, t222_219, t222_220, t222_221, t222_223, t222_224, t222_225, v222, t223_219, t223_220, t223_221, t223_222, t223_224, t223_225, v223, w_220, w_221, w_222, w_223, w_224, w_225]
      exact r_retV dd_Mod_know_95 (by rw [show w = 472 by omega])
    · exfalso; omega
  | succ n ih =>
    intro w h0 h1
    refine r_iloadn dd_Mod_know_51 rfl ?_
    refine r_sip dd_Mod_know_52 ⟨by decide, by decide⟩ ?_
    refine r_icmp_ge dd_Mod_know_55 (fun c_55 => ?_) (fun c_55 => ?_)
    · exfalso; omega
    · refine r_aloadn dd_Mod_know_58 rfl ?_
      refine r_getR dd_Mod_know_59 fl_Mod_16 (kI := 2) rfl fr_Mod_2 vk_219 R0_219_2 ?_
      refine r_sip dd_Mod_know_62 ⟨by decide, by decide⟩ ?_
      refine r_aloadn dd_Mod_know_65 rfl ?_
      refine r_getI dd_Mod_know_66 fl_Mod_39 (kI := 3) rfl fi_Mod_3 vk_219 ?_
      simp only [setO_at, setO_ss, upM_on, so_219, so_221, so_222, so_223, so_224, so_225, uo_219, uo_221, uo_222, uo_223, uo_224, uo_225, upM_eq, upM_uu, t221_219, t221_220, t221_222, t221_223, t221_224, t221_225, v221, t222_219, t222_220, t222_221, t222_223, t222_224, t222_225, v222, t223_219, t223_220, t223_221, t223_222, t223_224, t223_225, v223, w_220, w_221, w_222, w_223, w_224, w_225]
      refine r_imul dd_Mod_know_69 ⟨by omega, by omega⟩ ?_
      refine r_iloadn dd_Mod_know_70 rfl ?_
      refine r_iadd dd_Mod_know_71 ⟨by omega, by omega⟩ ?_
      refine r_aloadn dd_Mod_know_72 rfl ?_
      refine r_getR dd_Mod_know_73 fl_Mod_7 (kI := 0) rfl fr_Mod_0 vk_219 R0_219_0 ?_
      refine r_iloadn dd_Mod_know_76 rfl ?_
      refine r_iald dd_Mod_know_77 (q := 12) (by decide) vk_220 (by omega) (by show _ < ((472 : Nat) : Int); omega) ?_
      simp only [setO_at, setO_ss, upM_on, so_219, so_221, so_222, so_223, so_224, so_225, uo_219, uo_221, uo_222, uo_223, uo_224, uo_225, upM_eq, upM_uu, t221_219, t221_220, t221_222, t221_223, t221_224, t221_225, v221, t222_219, t222_220, t222_221, t222_223, t222_224, t222_225, v222, t223_219, t223_220, t223_221, t223_222, t223_224, t223_225, v223, w_220, w_221, w_222, w_223, w_224, w_225]
      refine r_iast dd_Mod_know_78 (q := 13) (by decide) vk_222 (by omega) (by show _ < ((1888 : Nat) : Int); omega) ?_
      simp only [setO_at, setO_ss, upM_on, so_219, so_221, so_222, so_223, so_224, so_225, uo_219, uo_221, uo_222, uo_223, uo_224, uo_225, upM_eq, upM_uu, t221_219, t221_220, t221_222, t221_223, t221_224, t221_225, v221, t222_219, t222_220, t222_221, t222_223, t222_224, t222_225, v222, t223_219, t223_220, t223_221, t223_222, t223_224, t223_225, v223, w_220, w_221, w_222, w_223, w_224, w_225]
      refine r_iinc (L' := [_, _]) dd_Mod_know_79 rfl ⟨by omega, by omega⟩ rfl ?_
      refine r_goto dd_Mod_know_82 ?_
      refine r_to ?_ (ih (w + 1) (by omega) (by omega))
      rw [cpy_s h1]
theorem l_Mod_know1 {μ : Int → Int → Int} {m : Int → Int} (hk : μ 219 3 = 4) : ∀ (n : Nat) (w : Int), (w + n = 1416) → (0 ≤ w) → SPW mi_Mod_know 226 10 [some (vR 219), some (vI w)] [] (st (setO (setO μ 222 (cpy (fun k => μ 222 (472 + k)) (μ 222) 0 w)) 220 m)) (none) (st (setO (setO (upM μ 219 3 4) 222 (cpy m (cpy (fun k => μ 222 (472 + k)) (μ 222) 0 1416) 1416 472)) 220 m)) := by
  intro n
  induction n with
  | zero =>
    intro w h0 h1
    refine r_iloadn dd_Mod_know_10 rfl ?_
    refine r_sip dd_Mod_know_11 ⟨by decide, by decide⟩ ?_
    refine r_icmp_ge dd_Mod_know_14 (fun c_14 => ?_) (fun c_14 => ?_)
    · refine r_aloadn dd_Mod_know_39 rfl ?_
      refine r_dup dd_Mod_know_40 ?_
      refine r_getI dd_Mod_know_41 fl_Mod_39 (kI := 3) rfl fi_Mod_3 vk_219 ?_
      simp only [setO_at, setO_ss, upM_on, so_219, so_221, so_222, so_223, so_224, so_225, uo_219, uo_221, uo_222, uo_223, uo_224, uo_225, upM_eq, upM_uu, t221_219, t221_220, t221_222, t221_223, t221_224, t221_225, v221, t222_219, t222_220, t222_221, t222_223, t222_224, t222_225, v222, t223_219, t223_220, t223_221, t223_222, t223_224, t223_225, v223, w_220, w_221, w_222, w_223, w_224, w_225]
      refine r_iconst dd_Mod_know_44 ⟨by decide, by decide⟩ ?_
      refine r_isub dd_Mod_know_45 ⟨by omega, by omega⟩ ?_
      refine r_putI dd_Mod_know_46 fl_Mod_39 (kI := 3) rfl fc_Mod_3 ff_Mod_3 (pi_Mod_3 _) vk_219 ?_
      simp only [setO_at, setO_ss, upM_on, so_219, so_221, so_222, so_223, so_224, so_225, uo_219, uo_221, uo_222, uo_223, uo_224, uo_225, upM_eq, upM_uu, t221_219, t221_220, t221_222, t221_223, t221_224, t221_225, v221, t222_219, t222_220, t222_221, t222_223, t222_224, t222_225, v222, t223_219, t223_220, t223_221, t223_222, t223_224, t223_225, v223, w_220, w_221, w_222, w_223, w_224, w_225]
      refine r_iconst dd_Mod_know_49 ⟨by decide, by decide⟩ ?_
      refine r_istoren (L' := [_, _]) dd_Mod_know_50 rfl rfl ?_
      have hw : w = 1416 := by omega
      subst hw
      have e3 : μ 219 3 - 1 = 3 := by omega
      rw [e3]
      have k2 := l_Mod_know2 (μ := upM μ 219 3 3) (m := m) (f := cpy (fun k => μ 222 (472 + k)) (μ 222) 0 1416) (by rw [upM_eq]; decide) 472 0 (by decide) (by decide)
      rw [upM_eq, upM_uu, cpy_0] at k2
      exact k2
    · exfalso; omega
  | succ n ih =>
    intro w h0 h1
    refine r_iloadn dd_Mod_know_10 rfl ?_
    refine r_sip dd_Mod_know_11 ⟨by decide, by decide⟩ ?_
    refine r_icmp_ge dd_Mod_know_14 (fun c_14 => ?_) (fun c_14 => ?_)
    · exfalso; omega
    · refine r_aloadn dd_Mod_know_17 rfl ?_
      refine r_getR dd_Mod_know_18 fl_Mod_16 (kI := 2) rfl fr_Mod_2 vk_219 R0_219_2 ?_
      refine r_iloadn dd_Mod_know_21 rfl ?_
      refine r_aloadn dd_Mod_know_22 rfl ?_
      refine r_getR dd_Mod_know_23 fl_Mod_16 (kI := 2) rfl fr_Mod_2 vk_219 R0_219_2 ?_
      refine r_sip dd_Mod_know_26 ⟨by decide, by decide⟩ ?_
      refine r_iloadn dd_Mod_know_29 rfl ?_
      refine r_iadd dd_Mod_know_30 ⟨by omega, by omega⟩ ?_
      refine r_iald dd_Mod_know_31 (q := 13) (by decide) vk_222 (by omega) (by show _ < ((1888 : Nat) : Int); omega) ?_
      simp only [setO_at, setO_ss, upM_on, so_219, so_221, so_222, so_223, so_224, so_225, uo_219, uo_221, uo_222, uo_223, uo_224, uo_225, upM_eq, upM_uu, t221_219, t221_220, t221_222, t221_223, t221_224, t221_225, v221, t222_219, t222_220, t222_221, t222_223, t222_224, t222_225, v222, t223_219, t223_220, t223_221, t223_222, t223_224, t223_225, v223, w_220, w_221, w_222, w_223, w_224, w_225]
      refine r_iast dd_Mod_know_32 (q := 13) (by decide) vk_222 (by omega) (by show _ < ((1888 : Nat) : Int); omega) ?_
      simp only [setO_at, setO_ss, upM_on, so_219, so_221, so_222, so_223, so_224, so_225, uo_219, uo_221, uo_222, uo_223, uo_224, uo_225, upM_eq, upM_uu, t221_219, t221_220, t221_222, t221_223, t221_224, t221_225, v221, t222_219, t222_220, t222_221, t222_223, t222_224, t222_225, v222, t223_219, t223_220, t223_221, t223_222, t223_224, t223_225, v223, w_220, w_221, w_222, w_223, w_224, w_225]
      refine r_iinc (L' := [_, _]) dd_Mod_know_33 rfl ⟨by omega, by omega⟩ rfl ?_
      refine r_goto dd_Mod_know_36 ?_
      refine r_to ?_ (ih (w + 1) (by omega) (by omega))
      rw [cpy_out (by omega), cpy_s0 (g := fun k => μ 222 (472 + k)) h1]
def knN (μ : Int → Int → Int) : Int := if μ 219 3 = 4 then 4 else μ 219 3 + 1
def knF (μ : Int → Int → Int) (m : Int → Int) : Int → Int := if μ 219 3 = 4 then cpy m (cpy (fun k => μ 222 (472 + k)) (μ 222) 0 1416) 1416 472 else cpy m (μ 222) (472 * μ 219 3) 472
/-- the state is put behind the history -/
def knM (μ : Int → Int → Int) (m : Int → Int) : Int → Int → Int := setO (upM μ 219 3 (knN μ)) 222 (knF μ m)
theorem c_Mod_know {μ : Int → Int → Int} {m : Int → Int} (hk : 0 ≤ μ 219 3 ∧ μ 219 3 ≤ 4) : MetC mi_Mod_know [vR 219] (st (setO μ 220 m)) (none) (st (setO (knM μ m) 220 m)) := by
  refine met_of ?_ (Nat.le_of_ble_eq_true rfl) (by decide) trivial (by decide) (Nat.le_of_ble_eq_true rfl)
  show SPW mi_Mod_know 226 0 [some (vR 219), none] [] (st (setO μ 220 m)) (none) (st (setO (knM μ m) 220 m))
  refine r_aloadn dd_Mod_know_0 rfl ?_
  refine r_getI dd_Mod_know_1 fl_Mod_39 (kI := 3) rfl fi_Mod_3 vk_219 ?_
  simp only [setO_at, setO_ss, upM_on, so_219, so_221, so_222, so_223, so_224, so_225, uo_219, uo_221, uo_222, uo_223, uo_224, uo_225, upM_eq, upM_uu, t221_219, t221_220, t221_222, t221_223, t221_224, t221_225, v221, t222_219, t222_220, t222_221, t222_223, t222_224, t222_225, v222, t223_219, t223_220, t223_221, t223_222, t223_224, t223_225, v223, w_220, w_221, w_222, w_223, w_224, w_225]
  refine r_iconst dd_Mod_know_4 ⟨by decide, by decide⟩ ?_
  refine r_icmp_ne dd_Mod_know_5 (fun c_5 => ?_) (fun c_5 => ?_)
  · refine r_iconst dd_Mod_know_49 ⟨by decide, by decide⟩ ?_
    refine r_istoren (L' := [_, _]) dd_Mod_know_50 rfl rfl ?_
    have k2 := l_Mod_know2 (μ := μ) (m := m) (f := μ 222) (by omega) 472 0 (by decide) (by decide)
    rw [cpy_0, setO_self] at k2
    unfold knM knN knF
    rw [if_neg (by omega), if_neg (by omega)]
    exact k2
  · refine r_iconst dd_Mod_know_8 ⟨by decide, by decide⟩ ?_
    refine r_istoren (L' := [_, _]) dd_Mod_know_9 rfl rfl ?_
    have k1 := l_Mod_know1 (μ := μ) (m := m) (by omega) 1416 0 (by decide) (by decide)
    rw [cpy_0, setO_self] at k1
    unfold knM knN knF
    rw [if_pos (by omega), if_pos (by omega)]
    exact k1
theorem c_Mod_puts {μ : Int → Int → Int} {m : Int → Int} {a v : Int} (h0 : 0 ≤ a) (h1 : a < 472) : MetC mi_Mod_puts [vR 219, vI a, vI v] (st (setO μ 220 m)) (some (vI (m a))) (st (setO μ 220 (up1 m a v))) := by
  refine met_of ?_ (Nat.le_of_ble_eq_true rfl) (by decide) trivial (by decide) (Nat.le_of_ble_eq_true rfl)
  show SPW mi_Mod_puts 226 0 [some (vR 219), some (vI a), some (vI v), none] [] (st (setO μ 220 m)) (some (vI (m a))) (st (setO μ 220 (up1 m a v)))
  refine r_aloadn dd_Mod_puts_0 rfl ?_
  refine r_getR dd_Mod_puts_1 fl_Mod_7 (kI := 0) rfl fr_Mod_0 vk_219 R0_219_0 ?_
  refine r_iloadn dd_Mod_puts_4 rfl ?_
  refine r_iald dd_Mod_puts_5 (q := 12) (by decide) vk_220 (by omega) (by show _ < ((472 : Nat) : Int); omega) ?_
  simp only [setO_at, setO_ss, upM_on, so_219, so_221, so_222, so_223, so_224, so_225, uo_219, uo_221, uo_222, uo_223, uo_224, uo_225, upM_eq, upM_uu, t221_219, t221_220, t221_222, t221_223, t221_224, t221_225, v221, t222_219, t222_220, t222_221, t222_223, t222_224, t222_225, v222, t223_219, t223_220, t223_221, t223_222, t223_224, t223_225, v223, w_220, w_221, w_222, w_223, w_224, w_225]
  refine r_istoren (L' := [_, _, _, _]) dd_Mod_puts_6 rfl rfl ?_
  refine r_aloadn dd_Mod_puts_7 rfl ?_
  refine r_getR dd_Mod_puts_8 fl_Mod_7 (kI := 0) rfl fr_Mod_0 vk_219 R0_219_0 ?_
  refine r_iloadn dd_Mod_puts_11 rfl ?_
  refine r_iloadn dd_Mod_puts_12 rfl ?_
  refine r_iast dd_Mod_puts_13 (q := 12) (by decide) vk_220 (by omega) (by show _ < ((472 : Nat) : Int); omega) ?_
  simp only [setO_at, setO_ss, upM_on, so_219, so_221, so_222, so_223, so_224, so_225, uo_219, uo_221, uo_222, uo_223, uo_224, uo_225, upM_eq, upM_uu, t221_219, t221_220, t221_222, t221_223, t221_224, t221_225, v221, t222_219, t222_220, t222_221, t222_223, t222_224, t222_225, v222, t223_219, t223_220, t223_221, t223_222, t223_224, t223_225, v223, w_220, w_221, w_222, w_223, w_224, w_225]
  refine r_iloadn dd_Mod_puts_14 rfl ?_
  exact r_retI dd_Mod_puts_15 (by first | rfl | omega | exact (b2_t (by first | assumption | omega)).symm | exact (b2_f (by first | assumption | omega)).symm) rfl

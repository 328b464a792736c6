/-! a text read by the class -/
theorem tF_3 {μ : Int → Int → Int} {x f v : Int} : upM (tF μ x f) 185 3 v = tF (upM μ 185 3 v) x f := by
  unfold tF
  rw [upM_cm (o := 185) (k := 5) (o' := 185) (k' := 3) (Or.inr (by decide)), upM_cm (o := 185) (k := 4) (o' := 185) (k' := 3) (Or.inr (by decide))]
theorem rd_0 {μ : Int → Int → Int} {x : Int} : SPW mi_Txt_read 226 17 [some (vR 185), some (vI 30)] [] (st (tF μ x 0)) (some (vI x)) (st (tF μ x 0)) := by
  refine r_iloadn dd_Txt_read_17 rfl ?_
  refine r_bip dd_Txt_read_18 ⟨by decide, by decide⟩ ?_
  refine r_icmp_ge dd_Txt_read_20 (fun c_20 => ?_) (fun c_20 => ?_)
  · refine r_aloadn dd_Txt_read_92 rfl ?_
    refine r_getI dd_Txt_read_93 fl_Txt_29 (kI := 4) rfl fi_Txt_4 vk_185 ?_
    rw [tF_4]
    exact r_retI dd_Txt_read_96 (by first | rfl | omega | exact (b2_t (by first | assumption | omega)).symm | exact (b2_f (by first | assumption | omega)).symm) rfl
  · exfalso; omega
theorem rd_f {μ μ1 : Int → Int → Int} {i x x1 : Int} (i0 : 0 ≤ i) (i1 : i < 30) (c : MetC mi_Txt_readCommand [vR 185, vR (188 + i)] (st (tF μ x 0)) none (st (tF μ1 x1 1))) : SPW mi_Txt_read 226 17 [some (vR 185), some (vI i)] [] (st (tF μ x 0)) (some (vI x1)) (st (tF μ1 x1 1)) := by
  refine r_iloadn dd_Txt_read_17 rfl ?_
  refine r_bip dd_Txt_read_18 ⟨by decide, by decide⟩ ?_
  refine r_icmp_ge dd_Txt_read_20 (fun c_20 => ?_) (fun c_20 => ?_)
  · exfalso; omega
  · refine r_aloadn dd_Txt_read_23 rfl ?_
    refine r_aloadn dd_Txt_read_24 rfl ?_
    refine r_getR dd_Txt_read_25 fl_Txt_17 (kI := 2) rfl fr_Txt_2 vk_185 R0_185_2 ?_
    refine r_iloadn dd_Txt_read_28 rfl ?_
    refine r_aald dd_Txt_read_29 (q := 20) (by decide) vk_187 (by omega) (by show _ < ((30 : Nat) : Int); omega) (by first | exact R0_2 | exact R0_20 | exact R0_80 | exact R0_187 | exact R0_b (by assumption) | exact R0_t (by assumption)) ?_
    refine r_V1N dd_Txt_read_30 ml_Txt_36 ok_Txt_readCommand vi_Txt_readCommand vk_185 (by decide) (clS rfl (Nat.le_refl _) (rmOK_self _ _)) rfl c ?_
    refine r_aloadn dd_Txt_read_33 rfl ?_
    refine r_getI dd_Txt_read_34 fl_Txt_32 (kI := 5) rfl fi_Txt_5 vk_185 ?_
    rw [tF_5]
    refine r_if_eq dd_Txt_read_37 (fun c_37 => ?_) (fun c_37 => ?_)
    · exfalso; omega
    · refine r_aloadn dd_Txt_read_40 rfl ?_
      refine r_getI dd_Txt_read_41 fl_Txt_29 (kI := 4) rfl fi_Txt_4 vk_185 ?_
      rw [tF_4]
      exact r_retI dd_Txt_read_44 (by first | rfl | omega | exact (b2_t (by first | assumption | omega)).symm | exact (b2_f (by first | assumption | omega)).symm) rfl
theorem rd_e {μ μ1 : Int → Int → Int} {i x x1 : Int} (i0 : 0 ≤ i) (i1 : i < 30) (h3 : 0 ≤ μ1 185 3 ∧ μ1 185 3 ≤ 30) (hx : x1 = μ1 185 1) (c : MetC mi_Txt_readCommand [vR 185, vR (188 + i)] (st (tF μ x 0)) none (st (tF μ1 x1 0))) : SPW mi_Txt_read 226 17 [some (vR 185), some (vI i)] [] (st (tF μ x 0)) (some (vI (-1))) (st (tF (upM μ1 185 3 (μ1 185 3 + 1)) x1 0)) := by
  refine r_iloadn dd_Txt_read_17 rfl ?_
  refine r_bip dd_Txt_read_18 ⟨by decide, by decide⟩ ?_
  refine r_icmp_ge dd_Txt_read_20 (fun c_20 => ?_) (fun c_20 => ?_)
  · exfalso; omega
  · refine r_aloadn dd_Txt_read_23 rfl ?_
    refine r_aloadn dd_Txt_read_24 rfl ?_
    refine r_getR dd_Txt_read_25 fl_Txt_17 (kI := 2) rfl fr_Txt_2 vk_185 R0_185_2 ?_
    refine r_iloadn dd_Txt_read_28 rfl ?_
    refine r_aald dd_Txt_read_29 (q := 20) (by decide) vk_187 (by omega) (by show _ < ((30 : Nat) : Int); omega) (by first | exact R0_2 | exact R0_20 | exact R0_80 | exact R0_187 | exact R0_b (by assumption) | exact R0_t (by assumption)) ?_
    refine r_V1N dd_Txt_read_30 ml_Txt_36 ok_Txt_readCommand vi_Txt_readCommand vk_185 (by decide) (clS rfl (Nat.le_refl _) (rmOK_self _ _)) rfl c ?_
    refine r_aloadn dd_Txt_read_33 rfl ?_
    refine r_getI dd_Txt_read_34 fl_Txt_32 (kI := 5) rfl fi_Txt_5 vk_185 ?_
    rw [tF_5]
    refine r_if_eq dd_Txt_read_37 (fun c_37 => ?_) (fun c_37 => ?_)
    · refine r_aloadn dd_Txt_read_45 rfl ?_
      refine r_dup dd_Txt_read_46 ?_
      refine r_getI dd_Txt_read_47 fl_Txt_26 (kI := 3) rfl fi_Txt_3 vk_185 ?_
      rw [tF_o (Or.inr ⟨by decide, by decide⟩)]
      refine r_iconst dd_Txt_read_50 ⟨by decide, by decide⟩ ?_
      refine r_iadd dd_Txt_read_51 ⟨by omega, by omega⟩ ?_
      refine r_putI dd_Txt_read_52 fl_Txt_26 (kI := 3) rfl fc_Txt_3 ff_Txt_3 (pi_Txt_3 _) vk_185 ?_
      rw [tF_3]
      refine r_aloadn dd_Txt_read_55 rfl ?_
      refine r_getI dd_Txt_read_56 fl_Txt_29 (kI := 4) rfl fi_Txt_4 vk_185 ?_
      rw [tF_4]
      refine r_aloadn dd_Txt_read_59 rfl ?_
      refine r_getI dd_Txt_read_60 fl_Txt_22 (kI := 1) rfl fi_Txt_1 vk_185 ?_
      rw [tF_o (Or.inr ⟨by decide, by decide⟩), upM_ne (Or.inr (by decide))]
      refine r_icmp_ne dd_Txt_read_63 (fun c_63 => ?_) (fun c_63 => ?_)
      · exfalso; omega
      · refine r_iconst dd_Txt_read_66 ⟨by decide, by decide⟩ ?_
        exact r_retI dd_Txt_read_67 (by first | rfl | omega | exact (b2_t (by first | assumption | omega)).symm | exact (b2_f (by first | assumption | omega)).symm) rfl
    · exfalso; omega
theorem rd_n {μ μ1 : Int → Int → Int} {i x x1 : Int} (i0 : 0 ≤ i) (i1 : i < 30) (h3 : 0 ≤ μ1 185 3 ∧ μ1 185 3 ≤ 30) (hx : x1 ≠ μ1 185 1) (c : MetC mi_Txt_readCommand [vR 185, vR (188 + i)] (st (tF μ x 0)) none (st (tF μ1 x1 0))) (c2 : MetC mi_Txt_readSign [vR 185, vI 44] (st (tF (upM μ1 185 3 (μ1 185 3 + 1)) x1 0)) none (st (tF (upM μ1 185 3 (μ1 185 3 + 1)) x1 1))) : SPW mi_Txt_read 226 17 [some (vR 185), some (vI i)] [] (st (tF μ x 0)) (some (vI x1)) (st (tF (upM μ1 185 3 (μ1 185 3 + 1)) x1 1)) := by
  refine r_iloadn dd_Txt_read_17 rfl ?_
  refine r_bip dd_Txt_read_18 ⟨by decide, by decide⟩ ?_
  refine r_icmp_ge dd_Txt_read_20 (fun c_20 => ?_) (fun c_20 => ?_)
  · exfalso; omega
  · refine r_aloadn dd_Txt_read_23 rfl ?_
    refine r_aloadn dd_Txt_read_24 rfl ?_
    refine r_getR dd_Txt_read_25 fl_Txt_17 (kI := 2) rfl fr_Txt_2 vk_185 R0_185_2 ?_
    refine r_iloadn dd_Txt_read_28 rfl ?_
    refine r_aald dd_Txt_read_29 (q := 20) (by decide) vk_187 (by omega) (by show _ < ((30 : Nat) : Int); omega) (by first | exact R0_2 | exact R0_20 | exact R0_80 | exact R0_187 | exact R0_b (by assumption) | exact R0_t (by assumption)) ?_
    refine r_V1N dd_Txt_read_30 ml_Txt_36 ok_Txt_readCommand vi_Txt_readCommand vk_185 (by decide) (clS rfl (Nat.le_refl _) (rmOK_self _ _)) rfl c ?_
    refine r_aloadn dd_Txt_read_33 rfl ?_
    refine r_getI dd_Txt_read_34 fl_Txt_32 (kI := 5) rfl fi_Txt_5 vk_185 ?_
    rw [tF_5]
    refine r_if_eq dd_Txt_read_37 (fun c_37 => ?_) (fun c_37 => ?_)
    · refine r_aloadn dd_Txt_read_45 rfl ?_
      refine r_dup dd_Txt_read_46 ?_
      refine r_getI dd_Txt_read_47 fl_Txt_26 (kI := 3) rfl fi_Txt_3 vk_185 ?_
      rw [tF_o (Or.inr ⟨by decide, by decide⟩)]
      refine r_iconst dd_Txt_read_50 ⟨by decide, by decide⟩ ?_
      refine r_iadd dd_Txt_read_51 ⟨by omega, by omega⟩ ?_
      refine r_putI dd_Txt_read_52 fl_Txt_26 (kI := 3) rfl fc_Txt_3 ff_Txt_3 (pi_Txt_3 _) vk_185 ?_
      rw [tF_3]
      refine r_aloadn dd_Txt_read_55 rfl ?_
      refine r_getI dd_Txt_read_56 fl_Txt_29 (kI := 4) rfl fi_Txt_4 vk_185 ?_
      rw [tF_4]
      refine r_aloadn dd_Txt_read_59 rfl ?_
      refine r_getI dd_Txt_read_60 fl_Txt_22 (kI := 1) rfl fi_Txt_1 vk_185 ?_
      rw [tF_o (Or.inr ⟨by decide, by decide⟩), upM_ne (Or.inr (by decide))]
      refine r_icmp_ne dd_Txt_read_63 (fun c_63 => ?_) (fun c_63 => ?_)
      · refine r_aloadn dd_Txt_read_68 rfl ?_
        refine r_bip dd_Txt_read_69 ⟨by decide, by decide⟩ ?_
        refine r_V1N dd_Txt_read_71 ml_Txt_40 ok_Txt_readSign vi_Txt_readSign vk_185 (by decide) (clS rfl (Nat.le_refl _) (rmOK_self _ _)) rfl c2 ?_
        refine r_aloadn dd_Txt_read_74 rfl ?_
        refine r_getI dd_Txt_read_75 fl_Txt_32 (kI := 5) rfl fi_Txt_5 vk_185 ?_
        rw [tF_5]
        refine r_if_eq dd_Txt_read_78 (fun c_78 => ?_) (fun c_78 => ?_)
        · exfalso; omega
        · refine r_aloadn dd_Txt_read_81 rfl ?_
          refine r_getI dd_Txt_read_82 fl_Txt_29 (kI := 4) rfl fi_Txt_4 vk_185 ?_
          rw [tF_4]
          exact r_retI dd_Txt_read_85 (by first | rfl | omega | exact (b2_t (by first | assumption | omega)).symm | exact (b2_f (by first | assumption | omega)).symm) rfl
      · exfalso; omega
    · exfalso; omega
theorem rd_c {r : Option Vv} {Mf : Mm} {μ μ1 : Int → Int → Int} {i x x1 : Int} (i0 : 0 ≤ i) (i1 : i < 30) (h3 : 0 ≤ μ1 185 3 ∧ μ1 185 3 ≤ 30) (hx : x1 ≠ μ1 185 1) (c : MetC mi_Txt_readCommand [vR 185, vR (188 + i)] (st (tF μ x 0)) none (st (tF μ1 x1 0))) (c2 : MetC mi_Txt_readSign [vR 185, vI 44] (st (tF (upM μ1 185 3 (μ1 185 3 + 1)) x1 0)) none (st (tF (upM μ1 185 3 (μ1 185 3 + 1)) (x1 + 1) 0))) (kk : SPW mi_Txt_read 226 17 [some (vR 185), some (vI (i + 1))] [] (st (tF (upM μ1 185 3 (μ1 185 3 + 1)) (x1 + 1) 0)) r Mf) : SPW mi_Txt_read 226 17 [some (vR 185), some (vI i)] [] (st (tF μ x 0)) r Mf := by
  refine r_iloadn dd_Txt_read_17 rfl ?_
  refine r_bip dd_Txt_read_18 ⟨by decide, by decide⟩ ?_
  refine r_icmp_ge dd_Txt_read_20 (fun c_20 => ?_) (fun c_20 => ?_)
  · exfalso; omega
  · refine r_aloadn dd_Txt_read_23 rfl ?_
    refine r_aloadn dd_Txt_read_24 rfl ?_
    refine r_getR dd_Txt_read_25 fl_Txt_17 (kI := 2) rfl fr_Txt_2 vk_185 R0_185_2 ?_
    refine r_iloadn dd_Txt_read_28 rfl ?_
    refine r_aald dd_Txt_read_29 (q := 20) (by decide) vk_187 (by omega) (by show _ < ((30 : Nat) : Int); omega) (by first | exact R0_2 | exact R0_20 | exact R0_80 | exact R0_187 | exact R0_b (by assumption) | exact R0_t (by assumption)) ?_
    refine r_V1N dd_Txt_read_30 ml_Txt_36 ok_Txt_readCommand vi_Txt_readCommand vk_185 (by decide) (clS rfl (Nat.le_refl _) (rmOK_self _ _)) rfl c ?_
    refine r_aloadn dd_Txt_read_33 rfl ?_
    refine r_getI dd_Txt_read_34 fl_Txt_32 (kI := 5) rfl fi_Txt_5 vk_185 ?_
    rw [tF_5]
    refine r_if_eq dd_Txt_read_37 (fun c_37 => ?_) (fun c_37 => ?_)
    · refine r_aloadn dd_Txt_read_45 rfl ?_
      refine r_dup dd_Txt_read_46 ?_
      refine r_getI dd_Txt_read_47 fl_Txt_26 (kI := 3) rfl fi_Txt_3 vk_185 ?_
      rw [tF_o (Or.inr ⟨by decide, by decide⟩)]
      refine r_iconst dd_Txt_read_50 ⟨by decide, by decide⟩ ?_
      refine r_iadd dd_Txt_read_51 ⟨by omega, by omega⟩ ?_
      refine r_putI dd_Txt_read_52 fl_Txt_26 (kI := 3) rfl fc_Txt_3 ff_Txt_3 (pi_Txt_3 _) vk_185 ?_
      rw [tF_3]
      refine r_aloadn dd_Txt_read_55 rfl ?_
      refine r_getI dd_Txt_read_56 fl_Txt_29 (kI := 4) rfl fi_Txt_4 vk_185 ?_
      rw [tF_4]
      refine r_aloadn dd_Txt_read_59 rfl ?_
      refine r_getI dd_Txt_read_60 fl_Txt_22 (kI := 1) rfl fi_Txt_1 vk_185 ?_
      rw [tF_o (Or.inr ⟨by decide, by decide⟩), upM_ne (Or.inr (by decide))]
      refine r_icmp_ne dd_Txt_read_63 (fun c_63 => ?_) (fun c_63 => ?_)
      · refine r_aloadn dd_Txt_read_68 rfl ?_
        refine r_bip dd_Txt_read_69 ⟨by decide, by decide⟩ ?_
        refine r_V1N dd_Txt_read_71 ml_Txt_40 ok_Txt_readSign vi_Txt_readSign vk_185 (by decide) (clS rfl (Nat.le_refl _) (rmOK_self _ _)) rfl c2 ?_
        refine r_aloadn dd_Txt_read_74 rfl ?_
        refine r_getI dd_Txt_read_75 fl_Txt_32 (kI := 5) rfl fi_Txt_5 vk_185 ?_
        rw [tF_5]
        refine r_if_eq dd_Txt_read_78 (fun c_78 => ?_) (fun c_78 => ?_)
        · refine r_iinc (L' := [_, _]) dd_Txt_read_86 rfl ⟨by omega, by omega⟩ rfl ?_
          refine r_goto dd_Txt_read_89 ?_
          exact kk
        · exfalso; omega
      · exfalso; omega
    · exfalso; omega
def rdR (c : Int → Int) (T : Int) : Nat → Int → Int
  | 0, x => x
  | n + 1, x => if cFl c T x = 1 then cX c T x else if cX c T x = T then -1 else if sgF c T (cX c T x) ≠ 44 then cX c T x else rdR c T n (cX c T x + 1)
def rdN (c : Int → Int) (T : Int) : Nat → Int → Nat
  | 0, _ => 0
  | n + 1, x => if cX c T x = T then 1 else rdN c T n (cX c T x + 1) + 1
def ps (c : Int → Int) (T : Int) : Nat → Int → Int
  | 0, x => x
  | j + 1, x => ps c T j (cX c T x + 1)
theorem twX_rg {c : Int → Int} {T lo hi x : Int} (h0 : 0 ≤ lo) (hx : x < T) : x + 1 ≤ twX c T lo hi x ∧ twX c T lo hi x ≤ T := by
  have q1 := nmQ_rg (c := c) (T := T) (lo := 0) (hi := 5) (x := x + 1) (Int.le_refl _) (by omega)
  unfold twX
  by_cases b : nmF c T 0 5 (x + 1) = 1 ∨ sgF c T (nmQ c T 0 5 (x + 1)) ≠ 58
  · rw [if_pos b]
    exact q1
  · rw [if_neg b]
    have hs : sgF c T (nmQ c T 0 5 (x + 1)) = 58 := by omega
    have hlt := sgF_lt (c := c) (T := T) (x := nmQ c T 0 5 (x + 1)) (by rw [hs]; decide)
    have q2 := nmQ_rg (c := c) (T := T) (lo := lo) (hi := hi) (x := nmQ c T 0 5 (x + 1) + 1) h0 (by omega)
    omega
theorem cX_rg {c : Int → Int} {T x : Int} (hx : x ≤ T) : x ≤ cX c T x ∧ cX c T x ≤ T ∧ (cFl c T x = 0 → x + 1 ≤ cX c T x) := by
  unfold cX cFl
  by_cases z1 : sgF c T x = 97
  · have hlt := sgF_lt (c := c) (T := T) (x := x) (by rw [z1]; decide)
    rw [if_pos z1, if_pos z1]
    have := twX_rg (c := c) (lo := 1) (hi := 14) (by decide) hlt
    omega
  · rw [if_neg z1, if_neg z1]
    by_cases z2 : sgF c T x = 102
    · have hlt := sgF_lt (c := c) (T := T) (x := x) (by rw [z2]; decide)
      rw [if_pos z2, if_pos z2]
      have := twX_rg (c := c) (lo := 0) (hi := 299) (by decide) hlt
      omega
    · rw [if_neg z2, if_neg z2]
      by_cases z3 : sgF c T x = 116
      · have hlt := sgF_lt (c := c) (T := T) (x := x) (by rw [z3]; decide)
        rw [if_pos z3, if_pos z3]
        have := nmQ_rg (c := c) (T := T) (lo := 1) (hi := 500) (x := x + 1) (by decide) (by omega)
        omega
      · rw [if_neg z3, if_neg z3]
        by_cases z4 : sgF c T x = 101
        · have hlt := sgF_lt (c := c) (T := T) (x := x) (by rw [z4]; decide)
          rw [if_pos z4, if_pos z4]
          have := nmQ_rg (c := c) (T := T) (lo := 0) (hi := 5) (x := x + 1) (by decide) (by omega)
          omega
        · rw [if_neg z4, if_neg z4]
          by_cases z5 : sgF c T x = 115
          · have hlt := sgF_lt (c := c) (T := T) (x := x) (by rw [z5]; decide)
            rw [if_pos z5, if_pos z5]
            omega
          · rw [if_neg z5, if_neg z5]
            exact ⟨Int.le_refl _, hx, fun q => absurd q (by decide)⟩
theorem cFl_01 (c : Int → Int) (T x : Int) : cFl c T x = 0 ∨ cFl c T x = 1 := by
  have t : ∀ lo hi, twF c T lo hi x = 0 ∨ twF c T lo hi x = 1 := fun lo hi => by
    unfold twF
    split
    · exact Or.inr rfl
    · exact nmF_01 _ _ _ _ _
  unfold cFl
  split
  · exact t _ _
  · split
    · exact t _ _
    · split
      · exact nmF_01 _ _ _ _ _
      · split
        · exact nmF_01 _ _ _ _ _
        · split
          · exact Or.inl rfl
          · exact Or.inr rfl
theorem cOK_fr {c : Int → Int} {T x : Int} {μ μ' : Int → Int → Int} {o : Int} (h : cOK c T x μ o) (e : ∀ k, μ' o k = μ o k) : cOK c T x μ' o := by
  unfold cOK at h ⊢
  rw [e, e, e]
  exact h
theorem rd_l {c : Int → Int} {T : Int} : ∀ (n : Nat) (i x : Int) (μ : Int → Int → Int), μ 186 = c → μ 185 1 = T → TB μ → i + n = 30 → 0 ≤ i → μ 185 3 = i → 0 ≤ x → x ≤ T → ∃ μ' x' f', SPW mi_Txt_read 226 17 [some (vR 185), some (vI i)] [] (st (tF μ x 0)) (some (vI (rdR c T n x))) (st (tF μ' x' f')) ∧ (∀ o k, (o < 188 + i ∨ 218 ≤ o) → (o ≠ 185 ∨ k ≠ 3) → μ' o k = μ o k) ∧ (rdR c T n x = -1 → μ' 185 3 = i + rdN c T n x ∧ ∀ j : Nat, j < rdN c T n x → cOK c T (ps c T j x) μ' (188 + i + j))
  | 0, i, x, μ => fun ec eT hB hi i0 h3 x0 x1 => by
    have : i = 30 := by omega
    subst this
    refine ⟨μ, x, 0, rd_0, fun o k _ _ => rfl, fun q => ?_⟩
    have q' : x = -1 := q
    omega
  | n + 1, i, x, μ => fun ec eT hB hi i0 h3 x0 x1 => by
    have hg := cX_rg (c := c) (T := T) x1
    have f01 := cFl_01 c T x
    obtain ⟨μ1, cc, fr, ok⟩ := c_cmd hB (o := 188 + i) (x := x) (vk_cmd i0 (by omega)) ⟨by omega, by omega⟩ (by rw [eT]; exact ⟨x0, x1⟩)
    rw [ec, eT] at cc ok
    have m3 : μ1 185 3 = i := by rw [fr 185 3 (by omega)]; exact h3
    have m1 : μ1 185 1 = T := by rw [fr 185 1 (by omega)]; exact eT
    have m186 : μ1 186 = c := by
      rw [← ec]
      funext k
      exact fr 186 k (by omega)
    by_cases a : cFl c T x = 1
    · have er : rdR c T (n + 1) x = cX c T x := if_pos a
      rw [a] at cc
      rw [er]
      exact ⟨μ1, _, _, rd_f i0 (by omega) cc, fun o k p _ => fr o k (by omega), fun q => by omega⟩
    · have a0 : cFl c T x = 0 := by omega
      rw [a0] at cc
      by_cases b : cX c T x = T
      · have er : rdR c T (n + 1) x = -1 := (if_neg a).trans (if_pos b)
        have en : rdN c T (n + 1) x = 1 := if_pos b
        rw [er, en]
        refine ⟨_, _, _, rd_e i0 (by omega) (by omega) (by omega) cc, fun o k p p2 => by rw [upM_ne (by omega)]; exact fr o k (by omega), fun _ => ⟨by rw [upM_eq, m3]; rfl, fun j hj => ?_⟩⟩
        have : j = 0 := by omega
        subst this
        rw [show 188 + i + ((0 : Nat) : Int) = 188 + i by omega]
        exact cOK_fr (ok a0) (fun k => upM_ne (Or.inl (by omega)))
      · have hB2 : TB (upM μ1 185 3 (μ1 185 3 + 1)) := by
          unfold TB
          rw [upM_ne (Or.inr (by decide)), m1, u186 (by decide), m186, ← eT, ← ec]
          exact hB
        have k1 : upM μ1 185 3 (μ1 185 3 + 1) 186 = c := by rw [u186 (by decide), m186]
        have k2 : upM μ1 185 3 (μ1 185 3 + 1) 185 1 = T := by rw [upM_ne (Or.inr (by decide)), m1]
        by_cases d : sgF c T (cX c T x) = 44
        · have er : rdR c T (n + 1) x = rdR c T n (cX c T x + 1) := ((if_neg a).trans (if_neg b)).trans (if_neg (fun z => z d))
          have en : rdN c T (n + 1) x = rdN c T n (cX c T x + 1) + 1 := if_neg b
          have hlt := sgF_lt (c := c) (T := T) (x := cX c T x) (by rw [d]; decide)
          obtain ⟨μ', x', f', s1, s2, s3⟩ := rd_l n (i + 1) (cX c T x + 1) (upM μ1 185 3 (μ1 185 3 + 1)) k1 k2 hB2 (by omega) (by omega) (by rw [upM_eq, m3]) (by omega) (by omega)
          rw [er, en]
          refine ⟨μ', x', f', rd_c i0 (by omega) (by omega) (by omega) cc (c_sgn_o hB2 (by rw [k2]; omega) (by rw [k1, k2]; exact d)) s1, fun o k p p2 => by rw [s2 o k (by omega) p2, upM_ne (by omega)]; exact fr o k (by omega), fun q => ?_⟩
          obtain ⟨t1, t2⟩ := s3 q
          refine ⟨by rw [t1]; omega, fun j hj => ?_⟩
          cases j with
          | zero =>
            rw [show 188 + i + ((0 : Nat) : Int) = 188 + i by omega]
            exact cOK_fr (ok a0) (fun k => by rw [s2 _ k (by omega) (by omega), upM_ne (Or.inl (by omega))])
          | succ j =>
            have := t2 j (by omega)
            rw [show 188 + (i + 1) + (j : Int) = 188 + i + ((j + 1 : Nat) : Int) by omega] at this
            exact this
        · have er : rdR c T (n + 1) x = cX c T x := ((if_neg a).trans (if_neg b)).trans (if_pos d)
          rw [er]
          exact ⟨_, _, _, rd_n i0 (by omega) (by omega) (by omega) cc (c_sgn_e hB2 (by rw [k2]; omega) (by rw [k1, k2]; exact d)), fun o k p p2 => by rw [upM_ne (by omega)]; exact fr o k (by omega), fun q => by omega⟩


/-! numbers read: what both sides do, and the class -/
/-- one more digit fits -/
abbrev nst (c : Int → Int) (T hi q z : Int) : Prop := 0 < z ∧ q < T ∧ (48 ≤ c q ∧ c q ≤ 57) ∧ 10 * z + (c q - 48) ≤ hi
def nQ (c : Int → Int) (T hi : Int) : Nat → Int → Int → Int
  | 0, q, _ => q
  | n + 1, q, z => if nst c T hi q z then nQ c T hi n (q + 1) (10 * z + (c q - 48)) else q
def nZ (c : Int → Int) (T hi : Int) : Nat → Int → Int → Int
  | 0, _, z => z
  | n + 1, q, z => if nst c T hi q z then nZ c T hi n (q + 1) (10 * z + (c q - 48)) else z
theorem nQ_y {c : Int → Int} {T hi q z : Int} {n : Nat} (h : nst c T hi q z) : nQ c T hi (n + 1) q z = nQ c T hi n (q + 1) (10 * z + (c q - 48)) := if_pos h
theorem nQ_n {c : Int → Int} {T hi q z : Int} {n : Nat} (h : ¬ nst c T hi q z) : nQ c T hi (n + 1) q z = q := if_neg h
theorem nZ_y {c : Int → Int} {T hi q z : Int} {n : Nat} (h : nst c T hi q z) : nZ c T hi (n + 1) q z = nZ c T hi n (q + 1) (10 * z + (c q - 48)) := if_pos h
theorem nZ_n {c : Int → Int} {T hi q z : Int} {n : Nat} (h : ¬ nst c T hi q z) : nZ c T hi (n + 1) q z = z := if_neg h
theorem nQ_rg {c : Int → Int} {T hi : Int} : ∀ (n : Nat) (q z : Int), q ≤ T → q ≤ nQ c T hi n q z ∧ nQ c T hi n q z ≤ T
  | 0, q, z => fun h => ⟨Int.le_refl _, h⟩
  | n + 1, q, z => fun h => by
    by_cases a : nst c T hi q z
    · rw [nQ_y a]
      have := nQ_rg (c := c) (T := T) (hi := hi) n (q + 1) (10 * z + (c q - 48)) (by omega)
      omega
    · rw [nQ_n a]
      omega
theorem dg_y {c : Int → Int} {T q : Int} (h : 0 ≤ dgF (sgF c T q)) : q < T ∧ (48 ≤ c q ∧ c q ≤ 57) ∧ dgF (sgF c T q) = c q - 48 := by
  unfold dgF sgF at h ⊢
  by_cases a : q < T
  · rw [if_pos a] at h ⊢
    by_cases b : 48 ≤ c q ∧ c q ≤ 57
    · rw [if_pos b]
      exact ⟨a, b, rfl⟩
    · rw [if_neg b] at h
      exact absurd h (by decide)
  · rw [if_neg a] at h
    exact absurd h (by decide)
theorem dg_n {c : Int → Int} {T q : Int} (h : ¬ 0 ≤ dgF (sgF c T q)) : ¬ (q < T ∧ 48 ≤ c q ∧ c q ≤ 57) := by
  intro k
  apply h
  unfold dgF sgF
  rw [if_pos k.1, if_pos k.2]
  omega
theorem dg_rg (z : Int) : -1 ≤ dgF z ∧ dgF z ≤ 9 := by
  unfold dgF
  split <;> omega
theorem TX_q {μ : Int → Int → Int} (h : TX μ) {q : Int} (hq : 0 ≤ q ∧ q ≤ μ 185 1) : TX (upM μ 185 4 q) := by
  unfold TX
  rw [upM_ne (Or.inr (by decide)), upM_eq]
  refine ⟨h.1, fun k a b => ?_, hq⟩
  rw [upM_ne (Or.inl (by decide))]
  exact h.2.1 k a b
theorem e186 {μ : Int → Int → Int} {k v : Int} : upM μ 185 k v 186 = μ 186 := by
  funext j
  exact upM_ne (Or.inl (by decide))
theorem c_dig {μ : Int → Int → Int} (h : TX μ) {q : Int} (hq : 0 ≤ q ∧ q ≤ μ 185 1) : MetC mi_Txt_digitHere [vR 185] (st (upM μ 185 4 q)) (some (vI (dgF (sgF (μ 186) (μ 185 1) q)))) (st (upM μ 185 4 q)) := by
  have c := c_Txt_digitHere (TX_q h hq)
  rw [e186, upM_eq, upM_ne (Or.inr (by decide))] at c
  exact c

theorem l_Txt_num_o {μ : Int → Int → Int} {lo hi : Int} (h : TX μ) (h5 : hi ≤ 500) : ∀ (n : Nat) (i q z : Int), (i + n = 4) → (0 ≤ q ∧ q ≤ μ 185 1) → ((i = 1 ∧ 0 ≤ z) ∨ (i = 2 ∧ 10 ≤ z) ∨ (i = 3 ∧ 100 ≤ z) ∨ (i = 4 ∧ 1000 ≤ z)) → (z ≤ hi) → (¬ 0 ≤ dgF (sgF (μ 186) (μ 185 1) (nQ (μ 186) (μ 185 1) hi n q z))) → SPW mi_Txt_readNumber 226 42 [some (vR 185), some (vI lo), some (vI hi), some (vI z), some (vI i), none] [] (st (upM μ 185 4 q)) (some (vI (nZ (μ 186) (μ 185 1) hi n q z))) (st (upM μ 185 4 (nQ (μ 186) (μ 185 1) hi n q z))) := by
  intro n
  induction n with
  | zero =>
    intro i q z hi4 hq hz hh hd2
    refine r_iload dd_Txt_readNumber_42 rfl ?_
    refine r_iconst dd_Txt_readNumber_44 ⟨by decide, by decide⟩ ?_
    refine r_icmp_gt dd_Txt_readNumber_45 (fun c_45 => ?_) (fun c_45 => ?_)
    · exfalso; omega
    · exfalso; omega
  | succ n ih =>
    intro i q z hi4 hq hz hh hd2
    have hT := h.1
    have hr := dg_rg (sgF (μ 186) (μ 185 1) q)
    refine r_iload dd_Txt_readNumber_42 rfl ?_
    refine r_iconst dd_Txt_readNumber_44 ⟨by decide, by decide⟩ ?_
    refine r_icmp_gt dd_Txt_readNumber_45 (fun c_45 => ?_) (fun c_45 => ?_)
    · exfalso; omega
    · refine r_aloadn dd_Txt_readNumber_48 rfl ?_
      refine r_V0W dd_Txt_readNumber_49 ml_Txt_65 ok_Txt_digitHere vi_Txt_digitHere vk_185 (by decide) (clS rfl (Nat.le_refl _) (rmOK_self _ _)) rfl (c_dig h hq) ?_
      refine r_istore (L' := [_, _, _, _, _, _]) dd_Txt_readNumber_52 rfl rfl ?_
      refine r_iload dd_Txt_readNumber_54 rfl ?_
      refine r_if_ge dd_Txt_readNumber_56 (fun c_56 => ?_) (fun c_56 => ?_)
      · refine r_iloadn dd_Txt_readNumber_61 rfl ?_
        refine r_if_eq dd_Txt_readNumber_62 (fun c_62 => ?_) (fun c_62 => ?_)
        · exfalso; rw [nQ_n (fun k => by omega)] at hd2; exact hd2 c_56
        · refine r_iloadn dd_Txt_readNumber_65 rfl ?_
          refine r_bip dd_Txt_readNumber_66 ⟨by decide, by decide⟩ ?_
          refine r_imul dd_Txt_readNumber_68 ⟨by omega, by omega⟩ ?_
          refine r_iload dd_Txt_readNumber_69 rfl ?_
          refine r_iadd dd_Txt_readNumber_71 ⟨by omega, by omega⟩ ?_
          refine r_iloadn dd_Txt_readNumber_72 rfl ?_
          refine r_icmp_le dd_Txt_readNumber_73 (fun c_73 => ?_) (fun c_73 => ?_)
          · refine r_iloadn dd_Txt_readNumber_83 rfl ?_
            refine r_bip dd_Txt_readNumber_84 ⟨by decide, by decide⟩ ?_
            refine r_imul dd_Txt_readNumber_86 ⟨by omega, by omega⟩ ?_
            refine r_iload dd_Txt_readNumber_87 rfl ?_
            refine r_iadd dd_Txt_readNumber_89 ⟨by omega, by omega⟩ ?_
            refine r_istoren (L' := [_, _, _, _, _, _]) dd_Txt_readNumber_90 rfl rfl ?_
            refine r_aloadn dd_Txt_readNumber_91 rfl ?_
            refine r_dup dd_Txt_readNumber_92 ?_
            refine r_getI dd_Txt_readNumber_93 fl_Txt_29 (kI := 4) rfl fi_Txt_4 vk_185 ?_
            rw [upM_eq]
            refine r_iconst dd_Txt_readNumber_96 ⟨by decide, by decide⟩ ?_
            refine r_iadd dd_Txt_readNumber_97 ⟨by omega, by omega⟩ ?_
            skip
            refine r_putI dd_Txt_readNumber_98 fl_Txt_29 (kI := 4) rfl fc_Txt_4 ff_Txt_4 (pi_Txt_4 _) vk_185 ?_
            refine r_iinc (L' := [_, _, _, _, _, _]) dd_Txt_readNumber_101 rfl ⟨by omega, by omega⟩ rfl ?_
            refine r_goto dd_Txt_readNumber_104 ?_
            have hd := dg_y c_56
            have hn : nst (μ 186) (μ 185 1) hi q z := ⟨by omega, hd.1, hd.2.1, by omega⟩
            rw [nQ_y hn] at hd2 ⊢
            rw [nZ_y hn, upM_uu, hd.2.2, show z * 10 + (μ 186 q - 48) = 10 * z + (μ 186 q - 48) by omega]
            exact r_drop 5 (ih (i + 1) (q + 1) _ (by omega) ⟨by omega, by omega⟩ (by omega) (by omega) hd2)
          · exfalso; have hd := dg_y c_56; rw [nQ_n (fun k => by omega)] at hd2; exact hd2 c_56
      · refine r_iloadn dd_Txt_readNumber_59 rfl ?_
        exact r_retI dd_Txt_readNumber_60 (by rw [nZ_n (fun k => dg_n c_56 ⟨k.2.1, k.2.2.1⟩)]) (by rw [nQ_n (fun k => dg_n c_56 ⟨k.2.1, k.2.2.1⟩)])
theorem l_Txt_num_e {μ : Int → Int → Int} {lo hi : Int} (h : TX μ) (h5 : hi ≤ 500) : ∀ (n : Nat) (i q z : Int), (i + n = 4) → (0 ≤ q ∧ q ≤ μ 185 1) → ((i = 1 ∧ 0 ≤ z) ∨ (i = 2 ∧ 10 ≤ z) ∨ (i = 3 ∧ 100 ≤ z) ∨ (i = 4 ∧ 1000 ≤ z)) → (z ≤ hi) → (0 ≤ dgF (sgF (μ 186) (μ 185 1) (nQ (μ 186) (μ 185 1) hi n q z))) → SPW mi_Txt_readNumber 226 42 [some (vR 185), some (vI lo), some (vI hi), some (vI z), some (vI i), none] [] (st (upM μ 185 4 q)) (some (vI 0)) (st (upM (upM μ 185 4 (nQ (μ 186) (μ 185 1) hi n q z)) 185 5 1)) := by
  intro n
  induction n with
  | zero =>
    intro i q z hi4 hq hz hh hd2
    refine r_iload dd_Txt_readNumber_42 rfl ?_
    refine r_iconst dd_Txt_readNumber_44 ⟨by decide, by decide⟩ ?_
    refine r_icmp_gt dd_Txt_readNumber_45 (fun c_45 => ?_) (fun c_45 => ?_)
    · exfalso; omega
    · exfalso; omega
  | succ n ih =>
    intro i q z hi4 hq hz hh hd2
    have hT := h.1
    have hr := dg_rg (sgF (μ 186) (μ 185 1) q)
    refine r_iload dd_Txt_readNumber_42 rfl ?_
    refine r_iconst dd_Txt_readNumber_44 ⟨by decide, by decide⟩ ?_
    refine r_icmp_gt dd_Txt_readNumber_45 (fun c_45 => ?_) (fun c_45 => ?_)
    · exfalso; omega
    · refine r_aloadn dd_Txt_readNumber_48 rfl ?_
      refine r_V0W dd_Txt_readNumber_49 ml_Txt_65 ok_Txt_digitHere vi_Txt_digitHere vk_185 (by decide) (clS rfl (Nat.le_refl _) (rmOK_self _ _)) rfl (c_dig h hq) ?_
      refine r_istore (L' := [_, _, _, _, _, _]) dd_Txt_readNumber_52 rfl rfl ?_
      refine r_iload dd_Txt_readNumber_54 rfl ?_
      refine r_if_ge dd_Txt_readNumber_56 (fun c_56 => ?_) (fun c_56 => ?_)
      · refine r_iloadn dd_Txt_readNumber_61 rfl ?_
        refine r_if_eq dd_Txt_readNumber_62 (fun c_62 => ?_) (fun c_62 => ?_)
        · refine r_aloadn dd_Txt_readNumber_76 rfl ?_
          refine r_iconst dd_Txt_readNumber_77 ⟨by decide, by decide⟩ ?_
          refine r_putI dd_Txt_readNumber_78 fl_Txt_32 (kI := 5) rfl fc_Txt_5 ff_Txt_5 (pb_Txt_5 (by first | exact b2_01 | omega)) vk_185 ?_
          refine r_iconst dd_Txt_readNumber_81 ⟨by decide, by decide⟩ ?_
          exact r_retI dd_Txt_readNumber_82 (by first | rfl | omega | exact (b2_t (by first | assumption | omega)).symm | exact (b2_f (by first | assumption | omega)).symm) (by rw [nQ_n (fun k => by first | omega | (have hd := dg_y c_56; omega))])
        · refine r_iloadn dd_Txt_readNumber_65 rfl ?_
          refine r_bip dd_Txt_readNumber_66 ⟨by decide, by decide⟩ ?_
          refine r_imul dd_Txt_readNumber_68 ⟨by omega, by omega⟩ ?_
          refine r_iload dd_Txt_readNumber_69 rfl ?_
          refine r_iadd dd_Txt_readNumber_71 ⟨by omega, by omega⟩ ?_
          refine r_iloadn dd_Txt_readNumber_72 rfl ?_
          refine r_icmp_le dd_Txt_readNumber_73 (fun c_73 => ?_) (fun c_73 => ?_)
          · refine r_iloadn dd_Txt_readNumber_83 rfl ?_
            refine r_bip dd_Txt_readNumber_84 ⟨by decide, by decide⟩ ?_
            refine r_imul dd_Txt_readNumber_86 ⟨by omega, by omega⟩ ?_
            refine r_iload dd_Txt_readNumber_87 rfl ?_
            refine r_iadd dd_Txt_readNumber_89 ⟨by omega, by omega⟩ ?_
            refine r_istoren (L' := [_, _, _, _, _, _]) dd_Txt_readNumber_90 rfl rfl ?_
            refine r_aloadn dd_Txt_readNumber_91 rfl ?_
            refine r_dup dd_Txt_readNumber_92 ?_
            refine r_getI dd_Txt_readNumber_93 fl_Txt_29 (kI := 4) rfl fi_Txt_4 vk_185 ?_
            rw [upM_eq]
            refine r_iconst dd_Txt_readNumber_96 ⟨by decide, by decide⟩ ?_
            refine r_iadd dd_Txt_readNumber_97 ⟨by omega, by omega⟩ ?_
            skip
            refine r_putI dd_Txt_readNumber_98 fl_Txt_29 (kI := 4) rfl fc_Txt_4 ff_Txt_4 (pi_Txt_4 _) vk_185 ?_
            refine r_iinc (L' := [_, _, _, _, _, _]) dd_Txt_readNumber_101 rfl ⟨by omega, by omega⟩ rfl ?_
            refine r_goto dd_Txt_readNumber_104 ?_
            have hd := dg_y c_56
            have hn : nst (μ 186) (μ 185 1) hi q z := ⟨by omega, hd.1, hd.2.1, by omega⟩
            rw [nQ_y hn] at hd2 ⊢
            rw [upM_uu, hd.2.2, show z * 10 + (μ 186 q - 48) = 10 * z + (μ 186 q - 48) by omega]
            exact r_drop 5 (ih (i + 1) (q + 1) _ (by omega) ⟨by omega, by omega⟩ (by omega) (by omega) hd2)
          · refine r_aloadn dd_Txt_readNumber_76 rfl ?_
            refine r_iconst dd_Txt_readNumber_77 ⟨by decide, by decide⟩ ?_
            refine r_putI dd_Txt_readNumber_78 fl_Txt_32 (kI := 5) rfl fc_Txt_5 ff_Txt_5 (pb_Txt_5 (by first | exact b2_01 | omega)) vk_185 ?_
            refine r_iconst dd_Txt_readNumber_81 ⟨by decide, by decide⟩ ?_
            exact r_retI dd_Txt_readNumber_82 (by first | rfl | omega | exact (b2_t (by first | assumption | omega)).symm | exact (b2_f (by first | assumption | omega)).symm) (by rw [nQ_n (fun k => by first | omega | (have hd := dg_y c_56; omega))])
      · exfalso; rw [nQ_n (fun k => dg_n c_56 ⟨k.2.1, k.2.2.1⟩)] at hd2; exact c_56 hd2

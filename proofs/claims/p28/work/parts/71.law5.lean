/-! the law: the tasks of the pool are so -/
section TA
variable {K : Int} {μ : Int → Int → Int} {m : Int → Int} {x1 x2 x3 t y s k : Int} {R : Option Vv} {Mf : Mm}
theorem tl_in (hR : RI K μ m) (t0 : 0 ≤ t) (t1 : t < 6) (kk : SPW mi_Law_areTasksSo 219 121 [some (vR 0), some (vI x1), some (vI x2), some (vI x3), some (vI 1), some (vI t), some (vI (grF m t 14)), some (vI 15), none] [] (st μ) R Mf) : ∀ (n : Nat) (i : Int), i + n = 15 → 1 ≤ i → SPW mi_Law_areTasksSo 219 60 [some (vR 0), some (vI x1), some (vI x2), some (vI x3), some (vI 1), some (vI t), some (vI (grF m t 14)), some (vI i), none] [] (st μ) R Mf := by
  intro n
  induction n with
  | zero =>
    intro i hi i0
    obtain rfl : i = 15 := by omega
    refine r_iload dd_Law_areTasksSo_60 rfl ?_
    refine r_bip dd_Law_areTasksSo_62 ⟨by decide, by decide⟩ ?_
    refine r_icmp_ge dd_Law_areTasksSo_64 (fun c_64 => ?_) (fun c_64 => ?_)
    · exact kk
    · exfalso; omega
  | succ n ih =>
    intro i hi i0
    have z := ih (i + 1) (by omega) (by omega)
    have hg := gr_le (m := m) (t := t) (n := i) i0 (by omega)
    have e := c_rea hR t0 t1 i0 (by omega)
    by_cases h1 : whyM m t i = 0
    · by_cases h2 : i = grF m t 14
      · refine r_iload dd_Law_areTasksSo_60 rfl ?_
        refine r_bip dd_Law_areTasksSo_62 ⟨by decide, by decide⟩ ?_
        refine r_icmp_ge dd_Law_areTasksSo_64 (fun c_64 => ?_) (fun c_64 => ?_)
        · exfalso; omega
        · refine r_iload dd_Law_areTasksSo_67 rfl ?_
          refine r_if_eq dd_Law_areTasksSo_69 (fun c_69 => ?_) (fun c_69 => ?_)
          · exfalso; omega
          · refine r_aloadn dd_Law_areTasksSo_72 rfl ?_
            refine r_iload dd_Law_areTasksSo_73 rfl ?_
            refine r_iload dd_Law_areTasksSo_75 rfl ?_
            refine r_V2W dd_Law_areTasksSo_77 ml_Law_66 ok_Poo_reason vi_Poo_reason vk_0 (by decide) (clS rfl (Nat.le_refl _) (rmOK_self _ _)) rfl e ?_
            refine r_if_eq dd_Law_areTasksSo_80 (fun c_80 => ?_) (fun c_80 => ?_)
            · refine r_iload dd_Law_areTasksSo_90 rfl ?_
              refine r_iload dd_Law_areTasksSo_92 rfl ?_
              refine r_icmp_ne dd_Law_areTasksSo_94 (fun c_94 => ?_) (fun c_94 => ?_)
              · exfalso; omega
              · refine r_aloadn dd_Law_areTasksSo_97 rfl ?_
                refine r_iload dd_Law_areTasksSo_98 rfl ?_
                refine r_iload dd_Law_areTasksSo_100 rfl ?_
                refine r_V2W dd_Law_areTasksSo_102 ml_Law_66 ok_Poo_reason vi_Poo_reason vk_0 (by decide) (clS rfl (Nat.le_refl _) (rmOK_self _ _)) rfl e ?_
                refine r_if_ne dd_Law_areTasksSo_105 (fun c_105 => ?_) (fun c_105 => ?_)
                · exfalso; omega
                · refine r_iconst dd_Law_areTasksSo_108 ⟨by decide, by decide⟩ ?_
                  refine r_goto dd_Law_areTasksSo_109 ?_
                  refine r_istore (L' := [_, _, _, _, _, _, _, _, _]) dd_Law_areTasksSo_113 rfl rfl ?_
                  refine r_iinc (L' := [_, _, _, _, _, _, _, _, _]) dd_Law_areTasksSo_115 rfl ⟨by omega, by omega⟩ rfl ?_
                  refine r_goto dd_Law_areTasksSo_118 ?_
                  exact z
            · exfalso; omega
      · refine r_iload dd_Law_areTasksSo_60 rfl ?_
        refine r_bip dd_Law_areTasksSo_62 ⟨by decide, by decide⟩ ?_
        refine r_icmp_ge dd_Law_areTasksSo_64 (fun c_64 => ?_) (fun c_64 => ?_)
        · exfalso; omega
        · refine r_iload dd_Law_areTasksSo_67 rfl ?_
          refine r_if_eq dd_Law_areTasksSo_69 (fun c_69 => ?_) (fun c_69 => ?_)
          · exfalso; omega
          · refine r_aloadn dd_Law_areTasksSo_72 rfl ?_
            refine r_iload dd_Law_areTasksSo_73 rfl ?_
            refine r_iload dd_Law_areTasksSo_75 rfl ?_
            refine r_V2W dd_Law_areTasksSo_77 ml_Law_66 ok_Poo_reason vi_Poo_reason vk_0 (by decide) (clS rfl (Nat.le_refl _) (rmOK_self _ _)) rfl e ?_
            refine r_if_eq dd_Law_areTasksSo_80 (fun c_80 => ?_) (fun c_80 => ?_)
            · refine r_iload dd_Law_areTasksSo_90 rfl ?_
              refine r_iload dd_Law_areTasksSo_92 rfl ?_
              refine r_icmp_ne dd_Law_areTasksSo_94 (fun c_94 => ?_) (fun c_94 => ?_)
              · refine r_iconst dd_Law_areTasksSo_108 ⟨by decide, by decide⟩ ?_
                refine r_goto dd_Law_areTasksSo_109 ?_
                refine r_istore (L' := [_, _, _, _, _, _, _, _, _]) dd_Law_areTasksSo_113 rfl rfl ?_
                refine r_iinc (L' := [_, _, _, _, _, _, _, _, _]) dd_Law_areTasksSo_115 rfl ⟨by omega, by omega⟩ rfl ?_
                refine r_goto dd_Law_areTasksSo_118 ?_
                exact z
              · exfalso; omega
            · exfalso; omega
    · have h2 : ¬ i ≤ grF m t 14 := fun q => h1 (hg q)
      refine r_iload dd_Law_areTasksSo_60 rfl ?_
      refine r_bip dd_Law_areTasksSo_62 ⟨by decide, by decide⟩ ?_
      refine r_icmp_ge dd_Law_areTasksSo_64 (fun c_64 => ?_) (fun c_64 => ?_)
      · exfalso; omega
      · refine r_iload dd_Law_areTasksSo_67 rfl ?_
        refine r_if_eq dd_Law_areTasksSo_69 (fun c_69 => ?_) (fun c_69 => ?_)
        · exfalso; omega
        · refine r_aloadn dd_Law_areTasksSo_72 rfl ?_
          refine r_iload dd_Law_areTasksSo_73 rfl ?_
          refine r_iload dd_Law_areTasksSo_75 rfl ?_
          refine r_V2W dd_Law_areTasksSo_77 ml_Law_66 ok_Poo_reason vi_Poo_reason vk_0 (by decide) (clS rfl (Nat.le_refl _) (rmOK_self _ _)) rfl e ?_
          refine r_if_eq dd_Law_areTasksSo_80 (fun c_80 => ?_) (fun c_80 => ?_)
          · exfalso; omega
          · refine r_iload dd_Law_areTasksSo_83 rfl ?_
            refine r_iload dd_Law_areTasksSo_85 rfl ?_
            refine r_icmp_le dd_Law_areTasksSo_87 (fun c_87 => ?_) (fun c_87 => ?_)
            · exfalso; omega
            · refine r_iload dd_Law_areTasksSo_90 rfl ?_
              refine r_iload dd_Law_areTasksSo_92 rfl ?_
              refine r_icmp_ne dd_Law_areTasksSo_94 (fun c_94 => ?_) (fun c_94 => ?_)
              · refine r_iconst dd_Law_areTasksSo_108 ⟨by decide, by decide⟩ ?_
                refine r_goto dd_Law_areTasksSo_109 ?_
                refine r_istore (L' := [_, _, _, _, _, _, _, _, _]) dd_Law_areTasksSo_113 rfl rfl ?_
                refine r_iinc (L' := [_, _, _, _, _, _, _, _, _]) dd_Law_areTasksSo_115 rfl ⟨by omega, by omega⟩ rfl ?_
                refine r_goto dd_Law_areTasksSo_118 ?_
                exact z
              · exfalso; omega
theorem tl_out (hR : RI K μ m) (kk : SPW mi_Law_areTasksSo 219 168 [some (vR 0), some (vI (64 - frwM m)), some (vI (owsM m)), some (vI (lksM m 6)), some (vI 1), none, none, none, none] [] (st μ) R Mf) : ∀ (n : Nat) (t x1 x2 x3 : Int), t + n = 6 → 0 ≤ t → (0 ≤ x1 ∧ x1 ≤ 1024 * t) → (0 ≤ x2 ∧ x2 ≤ 64 * t) → (0 ≤ x3 ∧ x3 ≤ 64 * t) → x1 + sumF n t (wdsM m) = 64 - frwM m → x2 + sumF n t (blksM m) = owsM m → x3 + sumF n t (lksM m) = lksM m 6 → SPW mi_Law_areTasksSo 219 12 [some (vR 0), some (vI x1), some (vI x2), some (vI x3), some (vI 1), some (vI t), none, none, none] [] (st μ) R Mf := by
  intro n
  induction n with
  | zero =>
    intro t x1 x2 x3 hn t0 b1 b2 b3 s1 s2 s3
    rw [sumF_0, Int.add_zero] at s1 s2 s3
    obtain rfl : t = 6 := by omega
    rw [← s1, ← s2, ← s3] at kk
    refine r_iload dd_Law_areTasksSo_12 rfl ?_
    refine r_bip dd_Law_areTasksSo_14 ⟨by decide, by decide⟩ ?_
    refine r_icmp_ge dd_Law_areTasksSo_16 (fun c_16 => ?_) (fun c_16 => ?_)
    · refine r_drop 5 ?_
      exact kk
    · exfalso; omega
  | succ n ih =>
    intro t x1 x2 x3 hn t0 b1 b2 b3 s1 s2 s3
    rw [sumF_s] at s1 s2 s3
    have t1 : t < 6 := by omega
    have g1 := wdsM_bd hR.2.1 t
    have g2 : 0 ≤ blksM m t ∧ blksM m t ≤ 64 := sum1_bd (fun w => owd m w ∧ m (256 + w) = t)
    have g3 := lksM_bd m t
    have gt := (hR.2.1.2.1 t t0 t1).1
    have z := ih (t + 1) (x1 + wdsM m t) (x2 + blksM m t) (x3 + lksM m t) (by omega) (by omega) (by omega) (by omega) (by omega) (by omega) (by omega) (by omega)
    have q : SPW mi_Law_areTasksSo 219 121 [some (vR 0), some (vI (x1 + wdsM m t)), some (vI (x2 + blksM m t)), some (vI (x3 + lksM m t)), some (vI 1), some (vI t), some (vI (grF m t 14)), some (vI 15), none] [] (st μ) R Mf := by
      by_cases h1 : m (448 + t) = 1
      · obtain ⟨h2, h3⟩ := gr_end h1
        refine r_iload dd_Law_areTasksSo_121 rfl ?_
        refine r_if_eq dd_Law_areTasksSo_123 (fun c_123 => ?_) (fun c_123 => ?_)
        · exfalso; omega
        · refine r_aloadn dd_Law_areTasksSo_126 rfl ?_
          refine r_iload dd_Law_areTasksSo_127 rfl ?_
          refine r_iconst dd_Law_areTasksSo_129 ⟨by decide, by decide⟩ ?_
          refine r_V2W dd_Law_areTasksSo_130 ml_Law_60 ok_Poo_task vi_Poo_task vk_0 (by decide) (clS rfl (Nat.le_refl _) (rmOK_self _ _)) rfl (c_tk0 hR t0 t1) ?_
          refine r_iconst dd_Law_areTasksSo_133 ⟨by decide, by decide⟩ ?_
          refine r_icmp_eq dd_Law_areTasksSo_134 (fun c_134 => ?_) (fun c_134 => ?_)
          · exfalso; omega
          · refine r_iload dd_Law_areTasksSo_137 rfl ?_
            refine r_bip dd_Law_areTasksSo_139 ⟨by decide, by decide⟩ ?_
            refine r_icmp_ne dd_Law_areTasksSo_141 (fun c_141 => ?_) (fun c_141 => ?_)
            · exfalso; omega
            · refine r_aloadn dd_Law_areTasksSo_144 rfl ?_
              refine r_iload dd_Law_areTasksSo_145 rfl ?_
              refine r_iconst dd_Law_areTasksSo_147 ⟨by decide, by decide⟩ ?_
              refine r_V2W dd_Law_areTasksSo_148 ml_Law_66 ok_Poo_reason vi_Poo_reason vk_0 (by decide) (clS rfl (Nat.le_refl _) (rmOK_self _ _)) rfl (c_rea hR t0 t1 (by decide) (by decide)) ?_
              refine r_iconst dd_Law_areTasksSo_151 ⟨by decide, by decide⟩ ?_
              refine r_icmp_ne dd_Law_areTasksSo_152 (fun c_152 => ?_) (fun c_152 => ?_)
              · exfalso; omega
              · refine r_iconst dd_Law_areTasksSo_155 ⟨by decide, by decide⟩ ?_
                refine r_goto dd_Law_areTasksSo_156 ?_
                refine r_istore (L' := [_, _, _, _, _, _, _, _, _]) dd_Law_areTasksSo_160 rfl rfl ?_
                refine r_iinc (L' := [_, _, _, _, _, _, _, _, _]) dd_Law_areTasksSo_162 rfl ⟨by omega, by omega⟩ rfl ?_
                refine r_goto dd_Law_areTasksSo_165 ?_
                refine r_drop 6 ?_
                refine r_drop 7 ?_
                exact z
      · refine r_iload dd_Law_areTasksSo_121 rfl ?_
        refine r_if_eq dd_Law_areTasksSo_123 (fun c_123 => ?_) (fun c_123 => ?_)
        · exfalso; omega
        · refine r_aloadn dd_Law_areTasksSo_126 rfl ?_
          refine r_iload dd_Law_areTasksSo_127 rfl ?_
          refine r_iconst dd_Law_areTasksSo_129 ⟨by decide, by decide⟩ ?_
          refine r_V2W dd_Law_areTasksSo_130 ml_Law_60 ok_Poo_task vi_Poo_task vk_0 (by decide) (clS rfl (Nat.le_refl _) (rmOK_self _ _)) rfl (c_tk0 hR t0 t1) ?_
          refine r_iconst dd_Law_areTasksSo_133 ⟨by decide, by decide⟩ ?_
          refine r_icmp_eq dd_Law_areTasksSo_134 (fun c_134 => ?_) (fun c_134 => ?_)
          · refine r_iconst dd_Law_areTasksSo_155 ⟨by decide, by decide⟩ ?_
            refine r_goto dd_Law_areTasksSo_156 ?_
            refine r_istore (L' := [_, _, _, _, _, _, _, _, _]) dd_Law_areTasksSo_160 rfl rfl ?_
            refine r_iinc (L' := [_, _, _, _, _, _, _, _, _]) dd_Law_areTasksSo_162 rfl ⟨by omega, by omega⟩ rfl ?_
            refine r_goto dd_Law_areTasksSo_165 ?_
            refine r_drop 6 ?_
            refine r_drop 7 ?_
            exact z
          · exfalso; omega
    have q2 := tl_in hR t0 t1 q 14 1 rfl (Int.le_refl _)
    refine r_iload dd_Law_areTasksSo_12 rfl ?_
    refine r_bip dd_Law_areTasksSo_14 ⟨by decide, by decide⟩ ?_
    refine r_icmp_ge dd_Law_areTasksSo_16 (fun c_16 => ?_) (fun c_16 => ?_)
    · exfalso; omega
    · refine r_aloadn dd_Law_areTasksSo_19 rfl ?_
      refine r_iload dd_Law_areTasksSo_20 rfl ?_
      refine r_V1W dd_Law_areTasksSo_22 ml_Law_63 ok_Poo_greatest vi_Poo_greatest vk_0 (by decide) (clS rfl (Nat.le_refl _) (rmOK_self _ _)) rfl (c_gre hR t0 t1) ?_
      refine r_istore (L' := [_, _, _, _, _, _, _, _, _]) dd_Law_areTasksSo_25 rfl rfl ?_
      refine r_iloadn dd_Law_areTasksSo_27 rfl ?_
      refine r_aloadn dd_Law_areTasksSo_28 rfl ?_
      refine r_iload dd_Law_areTasksSo_29 rfl ?_
      refine r_iconst dd_Law_areTasksSo_31 ⟨by decide, by decide⟩ ?_
      refine r_V2W dd_Law_areTasksSo_32 ml_Law_60 ok_Poo_task vi_Poo_task vk_0 (by decide) (clS rfl (Nat.le_refl _) (rmOK_self _ _)) rfl (c_tk2 hR t0 t1) ?_
      refine r_iadd dd_Law_areTasksSo_35 ⟨by omega, by omega⟩ ?_
      refine r_istoren (L' := [_, _, _, _, _, _, _, _, _]) dd_Law_areTasksSo_36 rfl rfl ?_
      refine r_iloadn dd_Law_areTasksSo_37 rfl ?_
      refine r_aloadn dd_Law_areTasksSo_38 rfl ?_
      refine r_iload dd_Law_areTasksSo_39 rfl ?_
      refine r_iconst dd_Law_areTasksSo_41 ⟨by decide, by decide⟩ ?_
      refine r_V2W dd_Law_areTasksSo_42 ml_Law_60 ok_Poo_task vi_Poo_task vk_0 (by decide) (clS rfl (Nat.le_refl _) (rmOK_self _ _)) rfl (c_tk1 hR t0 t1) ?_
      refine r_iadd dd_Law_areTasksSo_45 ⟨by omega, by omega⟩ ?_
      refine r_istoren (L' := [_, _, _, _, _, _, _, _, _]) dd_Law_areTasksSo_46 rfl rfl ?_
      refine r_iloadn dd_Law_areTasksSo_47 rfl ?_
      refine r_aloadn dd_Law_areTasksSo_48 rfl ?_
      refine r_iload dd_Law_areTasksSo_49 rfl ?_
      refine r_iconst dd_Law_areTasksSo_51 ⟨by decide, by decide⟩ ?_
      refine r_V2W dd_Law_areTasksSo_52 ml_Law_60 ok_Poo_task vi_Poo_task vk_0 (by decide) (clS rfl (Nat.le_refl _) (rmOK_self _ _)) rfl (c_tk5 hR t0 t1) ?_
      refine r_iadd dd_Law_areTasksSo_55 ⟨by omega, by omega⟩ ?_
      refine r_istoren (L' := [_, _, _, _, _, _, _, _, _]) dd_Law_areTasksSo_56 rfl rfl ?_
      refine r_iconst dd_Law_areTasksSo_57 ⟨by decide, by decide⟩ ?_
      refine r_istore (L' := [_, _, _, _, _, _, _, _, _]) dd_Law_areTasksSo_58 rfl rfl ?_
      exact q2
theorem tl_sz (hR : RI K μ m) (kk : SPW mi_Law_areTasksSo 219 291 [some (vR 0), some (vI x1), some (vI x2), some (vI x3), some (vI 1), some (vI 64), none, none, none] [] (st μ) R Mf) : ∀ (n : Nat) (k s : Int), k + n = 3 → 0 ≤ k → (0 ≤ s ∧ s ≤ 2048 * k) → s + sumF n k (fun k => p4 k * (szcM m (p4 k) 0 + szcM m (p4 k) 1)) = 64 → SPW mi_Law_areTasksSo 219 174 [some (vR 0), some (vI x1), some (vI x2), some (vI x3), some (vI 1), some (vI s), some (vI k), none, none] [] (st μ) R Mf := by
  intro n
  induction n with
  | zero =>
    intro k s hn k0 b s1
    rw [sumF_0, Int.add_zero] at s1
    subst s1
    refine r_iload dd_Law_areTasksSo_174 rfl ?_
    refine r_iconst dd_Law_areTasksSo_176 ⟨by decide, by decide⟩ ?_
    refine r_icmp_ge dd_Law_areTasksSo_177 (fun c_177 => ?_) (fun c_177 => ?_)
    · refine r_drop 6 ?_
      exact kk
    · exfalso; omega
  | succ n ih =>
    intro k s hn k0 b s1
    rw [sumF_s] at s1
    have k1 : k ≤ 2 := by omega
    have c0 : 0 ≤ szcM m (p4 k) 0 ∧ szcM m (p4 k) 0 ≤ 64 := sum1_bd (fun w => m (128 + w) = p4 k ∧ (((0 : Int) = 0 ∧ fre m w) ∨ ((0 : Int) ≠ 0 ∧ owd m w)))
    have c1 : 0 ≤ szcM m (p4 k) 1 ∧ szcM m (p4 k) 1 ≤ 64 := sum1_bd (fun w => m (128 + w) = p4 k ∧ (((1 : Int) = 0 ∧ fre m w) ∨ ((1 : Int) ≠ 0 ∧ owd m w)))
    have cb : 0 ≤ p4 k * (szcM m (p4 k) 0 + szcM m (p4 k) 1) ∧ p4 k * (szcM m (p4 k) 0 + szcM m (p4 k) 1) ≤ 2048 := by
      rcases p4_rg (z := k) with e | e | e <;> rw [e] at c0 c1 ⊢ <;> omega
    have z := ih (k + 1) (s + p4 k * (szcM m (p4 k) 0 + szcM m (p4 k) 1)) (by omega) (by omega) (by omega) (by omega)
    have h2 := szc_0 (m := m) (z := p4 k)
    rcases lowF_rg m (p4 k) with h1 | ⟨h3, h4, h5, h6⟩
    · refine r_iload dd_Law_areTasksSo_174 rfl ?_
      refine r_iconst dd_Law_areTasksSo_176 ⟨by decide, by decide⟩ ?_
      refine r_icmp_ge dd_Law_areTasksSo_177 (fun c_177 => ?_) (fun c_177 => ?_)
      · exfalso; omega
      · refine r_iload dd_Law_areTasksSo_180 rfl ?_
        refine r_iconst dd_Law_areTasksSo_182 ⟨by decide, by decide⟩ ?_
        refine r_iload dd_Law_areTasksSo_183 rfl ?_
        refine r_shl4 dd_Law_areTasksSo_185 ⟨k0, k1⟩ ?_
        refine r_aloadn dd_Law_areTasksSo_186 rfl ?_
        refine r_iload dd_Law_areTasksSo_187 rfl ?_
        refine r_iconst dd_Law_areTasksSo_189 ⟨by decide, by decide⟩ ?_
        refine r_V2W dd_Law_areTasksSo_190 ml_Law_69 ok_Poo_size vi_Poo_size vk_0 (by decide) (clS rfl (Nat.le_refl _) (rmOK_self _ _)) rfl (c_sz0 hR k0 k1) ?_
        refine r_aloadn dd_Law_areTasksSo_193 rfl ?_
        refine r_iload dd_Law_areTasksSo_194 rfl ?_
        refine r_iconst dd_Law_areTasksSo_196 ⟨by decide, by decide⟩ ?_
        refine r_V2W dd_Law_areTasksSo_197 ml_Law_69 ok_Poo_size vi_Poo_size vk_0 (by decide) (clS rfl (Nat.le_refl _) (rmOK_self _ _)) rfl (c_sz1 hR k0 k1) ?_
        refine r_iadd dd_Law_areTasksSo_200 ⟨by omega, by omega⟩ ?_
        refine r_imul dd_Law_areTasksSo_201 ⟨by omega, by omega⟩ ?_
        refine r_iadd dd_Law_areTasksSo_202 ⟨by omega, by omega⟩ ?_
        refine r_istore (L' := [_, _, _, _, _, _, _, _, _]) dd_Law_areTasksSo_203 rfl rfl ?_
        refine r_aloadn dd_Law_areTasksSo_205 rfl ?_
        refine r_iload dd_Law_areTasksSo_206 rfl ?_
        refine r_iconst dd_Law_areTasksSo_208 ⟨by decide, by decide⟩ ?_
        refine r_V2W dd_Law_areTasksSo_209 ml_Law_69 ok_Poo_size vi_Poo_size vk_0 (by decide) (clS rfl (Nat.le_refl _) (rmOK_self _ _)) rfl (c_sz2 hR k0 k1) ?_
        refine r_istore (L' := [_, _, _, _, _, _, _, _, _]) dd_Law_areTasksSo_212 rfl rfl ?_
        refine r_iload dd_Law_areTasksSo_214 rfl ?_
        refine r_if_eq dd_Law_areTasksSo_216 (fun c_216 => ?_) (fun c_216 => ?_)
        · exfalso; omega
        · refine r_iload dd_Law_areTasksSo_219 rfl ?_
          refine r_bip dd_Law_areTasksSo_221 ⟨by decide, by decide⟩ ?_
          refine r_icmp_ne dd_Law_areTasksSo_223 (fun c_223 => ?_) (fun c_223 => ?_)
          · exfalso; omega
          · refine r_iconst dd_Law_areTasksSo_226 ⟨by decide, by decide⟩ ?_
            refine r_goto dd_Law_areTasksSo_227 ?_
            refine r_aloadn dd_Law_areTasksSo_231 rfl ?_
            refine r_iload dd_Law_areTasksSo_232 rfl ?_
            refine r_iconst dd_Law_areTasksSo_234 ⟨by decide, by decide⟩ ?_
            refine r_V2W dd_Law_areTasksSo_235 ml_Law_69 ok_Poo_size vi_Poo_size vk_0 (by decide) (clS rfl (Nat.le_refl _) (rmOK_self _ _)) rfl (c_sz0 hR k0 k1) ?_
            refine r_if_ne dd_Law_areTasksSo_238 (fun c_238 => ?_) (fun c_238 => ?_)
            · exfalso; omega
            · refine r_iconst dd_Law_areTasksSo_241 ⟨by decide, by decide⟩ ?_
              refine r_goto dd_Law_areTasksSo_242 ?_
              refine r_icmp_ne dd_Law_areTasksSo_246 (fun c_246 => ?_) (fun c_246 => ?_)
              · exfalso; omega
              · refine r_iload dd_Law_areTasksSo_249 rfl ?_
                refine r_if_lt dd_Law_areTasksSo_251 (fun c_251 => ?_) (fun c_251 => ?_)
                · refine r_iconst dd_Law_areTasksSo_278 ⟨by decide, by decide⟩ ?_
                  refine r_goto dd_Law_areTasksSo_279 ?_
                  refine r_istore (L' := [_, _, _, _, _, _, _, _, _]) dd_Law_areTasksSo_283 rfl rfl ?_
                  refine r_iinc (L' := [_, _, _, _, _, _, _, _, _]) dd_Law_areTasksSo_285 rfl ⟨by omega, by omega⟩ rfl ?_
                  refine r_goto dd_Law_areTasksSo_288 ?_
                  refine r_drop 7 ?_
                  exact z
                · exfalso; omega
    · have bl := (bgn_in hR.2.1 hR.2.2 h3 h4 (Int.le_refl _) (by have := h5.1; omega)).1
      have e5 := h5.2
      have e6 : snM (m (128 + lowF m (p4 k))) = k := by
        rw [h6]
        rcases (show k = 0 ∨ k = 1 ∨ k = 2 by omega) with rfl | rfl | rfl <;> decide
      refine r_iload dd_Law_areTasksSo_174 rfl ?_
      refine r_iconst dd_Law_areTasksSo_176 ⟨by decide, by decide⟩ ?_
      refine r_icmp_ge dd_Law_areTasksSo_177 (fun c_177 => ?_) (fun c_177 => ?_)
      · exfalso; omega
      · refine r_iload dd_Law_areTasksSo_180 rfl ?_
        refine r_iconst dd_Law_areTasksSo_182 ⟨by decide, by decide⟩ ?_
        refine r_iload dd_Law_areTasksSo_183 rfl ?_
        refine r_shl4 dd_Law_areTasksSo_185 ⟨k0, k1⟩ ?_
        refine r_aloadn dd_Law_areTasksSo_186 rfl ?_
        refine r_iload dd_Law_areTasksSo_187 rfl ?_
        refine r_iconst dd_Law_areTasksSo_189 ⟨by decide, by decide⟩ ?_
        refine r_V2W dd_Law_areTasksSo_190 ml_Law_69 ok_Poo_size vi_Poo_size vk_0 (by decide) (clS rfl (Nat.le_refl _) (rmOK_self _ _)) rfl (c_sz0 hR k0 k1) ?_
        refine r_aloadn dd_Law_areTasksSo_193 rfl ?_
        refine r_iload dd_Law_areTasksSo_194 rfl ?_
        refine r_iconst dd_Law_areTasksSo_196 ⟨by decide, by decide⟩ ?_
        refine r_V2W dd_Law_areTasksSo_197 ml_Law_69 ok_Poo_size vi_Poo_size vk_0 (by decide) (clS rfl (Nat.le_refl _) (rmOK_self _ _)) rfl (c_sz1 hR k0 k1) ?_
        refine r_iadd dd_Law_areTasksSo_200 ⟨by omega, by omega⟩ ?_
        refine r_imul dd_Law_areTasksSo_201 ⟨by omega, by omega⟩ ?_
        refine r_iadd dd_Law_areTasksSo_202 ⟨by omega, by omega⟩ ?_
        refine r_istore (L' := [_, _, _, _, _, _, _, _, _]) dd_Law_areTasksSo_203 rfl rfl ?_
        refine r_aloadn dd_Law_areTasksSo_205 rfl ?_
        refine r_iload dd_Law_areTasksSo_206 rfl ?_
        refine r_iconst dd_Law_areTasksSo_208 ⟨by decide, by decide⟩ ?_
        refine r_V2W dd_Law_areTasksSo_209 ml_Law_69 ok_Poo_size vi_Poo_size vk_0 (by decide) (clS rfl (Nat.le_refl _) (rmOK_self _ _)) rfl (c_sz2 hR k0 k1) ?_
        refine r_istore (L' := [_, _, _, _, _, _, _, _, _]) dd_Law_areTasksSo_212 rfl rfl ?_
        refine r_iload dd_Law_areTasksSo_214 rfl ?_
        refine r_if_eq dd_Law_areTasksSo_216 (fun c_216 => ?_) (fun c_216 => ?_)
        · exfalso; omega
        · refine r_iload dd_Law_areTasksSo_219 rfl ?_
          refine r_bip dd_Law_areTasksSo_221 ⟨by decide, by decide⟩ ?_
          refine r_icmp_ne dd_Law_areTasksSo_223 (fun c_223 => ?_) (fun c_223 => ?_)
          · refine r_iconst dd_Law_areTasksSo_230 ⟨by decide, by decide⟩ ?_
            refine r_aloadn dd_Law_areTasksSo_231 rfl ?_
            refine r_iload dd_Law_areTasksSo_232 rfl ?_
            refine r_iconst dd_Law_areTasksSo_234 ⟨by decide, by decide⟩ ?_
            refine r_V2W dd_Law_areTasksSo_235 ml_Law_69 ok_Poo_size vi_Poo_size vk_0 (by decide) (clS rfl (Nat.le_refl _) (rmOK_self _ _)) rfl (c_sz0 hR k0 k1) ?_
            refine r_if_ne dd_Law_areTasksSo_238 (fun c_238 => ?_) (fun c_238 => ?_)
            · refine r_iconst dd_Law_areTasksSo_245 ⟨by decide, by decide⟩ ?_
              refine r_icmp_ne dd_Law_areTasksSo_246 (fun c_246 => ?_) (fun c_246 => ?_)
              · exfalso; omega
              · refine r_iload dd_Law_areTasksSo_249 rfl ?_
                refine r_if_lt dd_Law_areTasksSo_251 (fun c_251 => ?_) (fun c_251 => ?_)
                · exfalso; omega
                · refine r_aloadn dd_Law_areTasksSo_254 rfl ?_
                  refine r_iload dd_Law_areTasksSo_255 rfl ?_
                  refine r_iconst dd_Law_areTasksSo_257 ⟨by decide, by decide⟩ ?_
                  refine r_V2W dd_Law_areTasksSo_258 ml_Law_20 ok_Poo_word vi_Poo_word vk_0 (by decide) (clS rfl (Nat.le_refl _) (rmOK_self _ _)) rfl (c_wd1 hR h3 h4 bl) ?_
                  refine r_bip dd_Law_areTasksSo_261 ⟨by decide, by decide⟩ ?_
                  refine r_icmp_ne dd_Law_areTasksSo_263 (fun c_263 => ?_) (fun c_263 => ?_)
                  · exfalso; omega
                  · refine r_aloadn dd_Law_areTasksSo_266 rfl ?_
                    refine r_iload dd_Law_areTasksSo_267 rfl ?_
                    refine r_iconst dd_Law_areTasksSo_269 ⟨by decide, by decide⟩ ?_
                    refine r_V2W dd_Law_areTasksSo_270 ml_Law_20 ok_Poo_word vi_Poo_word vk_0 (by decide) (clS rfl (Nat.le_refl _) (rmOK_self _ _)) rfl (c_wd3 hR h3 h4 bl) ?_
                    refine r_iload dd_Law_areTasksSo_273 rfl ?_
                    refine r_icmp_ne dd_Law_areTasksSo_275 (fun c_275 => ?_) (fun c_275 => ?_)
                    · exfalso; omega
                    · refine r_iconst dd_Law_areTasksSo_278 ⟨by decide, by decide⟩ ?_
                      refine r_goto dd_Law_areTasksSo_279 ?_
                      refine r_istore (L' := [_, _, _, _, _, _, _, _, _]) dd_Law_areTasksSo_283 rfl rfl ?_
                      refine r_iinc (L' := [_, _, _, _, _, _, _, _, _]) dd_Law_areTasksSo_285 rfl ⟨by omega, by omega⟩ rfl ?_
                      refine r_goto dd_Law_areTasksSo_288 ?_
                      refine r_drop 7 ?_
                      exact z
            · exfalso; omega
          · exfalso; omega
theorem tl_lk (hR : RI K μ m) (hN : NB m) (kk : ∀ l, SPW mi_Law_areTasksSo 219 397 [some (vR 0), some (vI x1), some (vI x2), some (vI (lksM m 6)), some (vI 1), some (vI 64), some (vI l), some (vI (lksM m 6)), none] [] (st μ) R Mf) : ∀ (n : Nat) (k l : Int), k + n = lksM m 6 → 0 ≤ k → (k = 0 ∨ l = m (192 + lkF m (k - 1))) → SPW mi_Law_areTasksSo 219 298 [some (vR 0), some (vI x1), some (vI x2), some (vI (lksM m 6)), some (vI 1), some (vI 64), some (vI l), some (vI k), none] [] (st μ) R Mf := by
  have hb := lksM_bd m 6
  intro n
  induction n with
  | zero =>
    intro k l hn k0 hl
    obtain rfl : k = lksM m 6 := by omega
    have kk := kk l
    refine r_iload dd_Law_areTasksSo_298 rfl ?_
    refine r_iloadn dd_Law_areTasksSo_300 rfl ?_
    refine r_icmp_ge dd_Law_areTasksSo_301 (fun c_301 => ?_) (fun c_301 => ?_)
    · exact kk
    · exfalso; omega
  | succ n ih =>
    intro k l hn k0 hl
    obtain ⟨y1, y2, y3, y4, y5⟩ := lkF_yes hN (r := k) k0 (by omega)
    have z := ih (k + 1) (m (192 + lkF m k)) (by omega) (by omega) (Or.inr (by rw [show k + 1 - 1 = k by omega]))
    have eb := hN.beg y2 y3 y4.1
    have nb := (hN.2.1 _ y2 y3 y4.1).1
    have cl := c_lkn hR k0
    rw [if_neg y1] at cl
    have c6 := c_bk6 hR y2 eb
    rw [b2_t y4] at c6
    by_cases h1 : k = 0
    · refine r_iload dd_Law_areTasksSo_298 rfl ?_
      refine r_iloadn dd_Law_areTasksSo_300 rfl ?_
      refine r_icmp_ge dd_Law_areTasksSo_301 (fun c_301 => ?_) (fun c_301 => ?_)
      · exfalso; omega
      · refine r_aloadn dd_Law_areTasksSo_304 rfl ?_
        refine r_iload dd_Law_areTasksSo_305 rfl ?_
        refine r_V1W dd_Law_areTasksSo_307 ml_Law_72 ok_Poo_leak vi_Poo_leak vk_0 (by decide) (clS rfl (Nat.le_refl _) (rmOK_self _ _)) rfl cl ?_
        refine r_istore (L' := [_, _, _, _, _, _, _, _, _]) dd_Law_areTasksSo_310 rfl rfl ?_
        refine r_iload dd_Law_areTasksSo_312 rfl ?_
        refine r_if_eq dd_Law_areTasksSo_314 (fun c_314 => ?_) (fun c_314 => ?_)
        · exfalso; omega
        · refine r_iload dd_Law_areTasksSo_317 rfl ?_
          refine r_if_lt dd_Law_areTasksSo_319 (fun c_319 => ?_) (fun c_319 => ?_)
          · exfalso; omega
          · refine r_aloadn dd_Law_areTasksSo_322 rfl ?_
            refine r_iload dd_Law_areTasksSo_323 rfl ?_
            refine r_bip dd_Law_areTasksSo_325 ⟨by decide, by decide⟩ ?_
            refine r_V2W dd_Law_areTasksSo_327 ml_Law_23 ok_Poo_block vi_Poo_block vk_0 (by decide) (clS rfl (Nat.le_refl _) (rmOK_self _ _)) rfl c6 ?_
            refine r_iconst dd_Law_areTasksSo_330 ⟨by decide, by decide⟩ ?_
            refine r_icmp_ne dd_Law_areTasksSo_331 (fun c_331 => ?_) (fun c_331 => ?_)
            · exfalso; omega
            · refine r_iload dd_Law_areTasksSo_334 rfl ?_
              refine r_if_eq dd_Law_areTasksSo_336 (fun c_336 => ?_) (fun c_336 => ?_)
              · refine r_iconst dd_Law_areTasksSo_380 ⟨by decide, by decide⟩ ?_
                refine r_goto dd_Law_areTasksSo_381 ?_
                refine r_istore (L' := [_, _, _, _, _, _, _, _, _]) dd_Law_areTasksSo_385 rfl rfl ?_
                refine r_iload dd_Law_areTasksSo_387 rfl ?_
                refine r_istore (L' := [_, _, _, _, _, _, _, _, _]) dd_Law_areTasksSo_389 rfl rfl ?_
                refine r_iinc (L' := [_, _, _, _, _, _, _, _, _]) dd_Law_areTasksSo_391 rfl ⟨by omega, by omega⟩ rfl ?_
                refine r_goto dd_Law_areTasksSo_394 ?_
                refine r_drop 8 ?_
                exact z
              · exfalso; omega
    · obtain ⟨q1, q2, q3, q4, q5⟩ := lkF_yes hN (r := k - 1) (by omega) (by omega)
      have el := hl.resolve_left h1
      subst el
      have eq := hN.beg q2 q3 q4.1
      have ord := lk_ord hN (r := k) (by omega) (by omega)
      have u0 := hR.2.1.2.2.1
      have u1 := (hR.2.1.1 _ y2 y3).2.2.2.2.2.1
      have u2 := (hR.2.1.1 _ q2 q3).2.2.2.2.2.1
      by_cases h2 : m (384 + lkF m (k - 1)) < m (384 + lkF m k)
      · refine r_iload dd_Law_areTasksSo_298 rfl ?_
        refine r_iloadn dd_Law_areTasksSo_300 rfl ?_
        refine r_icmp_ge dd_Law_areTasksSo_301 (fun c_301 => ?_) (fun c_301 => ?_)
        · exfalso; omega
        · refine r_aloadn dd_Law_areTasksSo_304 rfl ?_
          refine r_iload dd_Law_areTasksSo_305 rfl ?_
          refine r_V1W dd_Law_areTasksSo_307 ml_Law_72 ok_Poo_leak vi_Poo_leak vk_0 (by decide) (clS rfl (Nat.le_refl _) (rmOK_self _ _)) rfl cl ?_
          refine r_istore (L' := [_, _, _, _, _, _, _, _, _]) dd_Law_areTasksSo_310 rfl rfl ?_
          refine r_iload dd_Law_areTasksSo_312 rfl ?_
          refine r_if_eq dd_Law_areTasksSo_314 (fun c_314 => ?_) (fun c_314 => ?_)
          · exfalso; omega
          · refine r_iload dd_Law_areTasksSo_317 rfl ?_
            refine r_if_lt dd_Law_areTasksSo_319 (fun c_319 => ?_) (fun c_319 => ?_)
            · exfalso; omega
            · refine r_aloadn dd_Law_areTasksSo_322 rfl ?_
              refine r_iload dd_Law_areTasksSo_323 rfl ?_
              refine r_bip dd_Law_areTasksSo_325 ⟨by decide, by decide⟩ ?_
              refine r_V2W dd_Law_areTasksSo_327 ml_Law_23 ok_Poo_block vi_Poo_block vk_0 (by decide) (clS rfl (Nat.le_refl _) (rmOK_self _ _)) rfl c6 ?_
              refine r_iconst dd_Law_areTasksSo_330 ⟨by decide, by decide⟩ ?_
              refine r_icmp_ne dd_Law_areTasksSo_331 (fun c_331 => ?_) (fun c_331 => ?_)
              · exfalso; omega
              · refine r_iload dd_Law_areTasksSo_334 rfl ?_
                refine r_if_eq dd_Law_areTasksSo_336 (fun c_336 => ?_) (fun c_336 => ?_)
                · exfalso; omega
                · refine r_aloadn dd_Law_areTasksSo_339 rfl ?_
                  refine r_iload dd_Law_areTasksSo_340 rfl ?_
                  refine r_iconst dd_Law_areTasksSo_342 ⟨by decide, by decide⟩ ?_
                  refine r_V2W dd_Law_areTasksSo_343 ml_Law_23 ok_Poo_block vi_Poo_block vk_0 (by decide) (clS rfl (Nat.le_refl _) (rmOK_self _ _)) rfl (c_bk5 hR q2 eq) ?_
                  refine r_aloadn dd_Law_areTasksSo_346 rfl ?_
                  refine r_iload dd_Law_areTasksSo_347 rfl ?_
                  refine r_iconst dd_Law_areTasksSo_349 ⟨by decide, by decide⟩ ?_
                  refine r_V2W dd_Law_areTasksSo_350 ml_Law_23 ok_Poo_block vi_Poo_block vk_0 (by decide) (clS rfl (Nat.le_refl _) (rmOK_self _ _)) rfl (c_bk5 hR y2 eb) ?_
                  refine r_icmp_gt dd_Law_areTasksSo_353 (fun c_353 => ?_) (fun c_353 => ?_)
                  · refine r_iconst dd_Law_areTasksSo_380 ⟨by decide, by decide⟩ ?_
                    refine r_goto dd_Law_areTasksSo_381 ?_
                    refine r_istore (L' := [_, _, _, _, _, _, _, _, _]) dd_Law_areTasksSo_385 rfl rfl ?_
                    refine r_iload dd_Law_areTasksSo_387 rfl ?_
                    refine r_istore (L' := [_, _, _, _, _, _, _, _, _]) dd_Law_areTasksSo_389 rfl rfl ?_
                    refine r_iinc (L' := [_, _, _, _, _, _, _, _, _]) dd_Law_areTasksSo_391 rfl ⟨by omega, by omega⟩ rfl ?_
                    refine r_goto dd_Law_areTasksSo_394 ?_
                    refine r_drop 8 ?_
                    exact z
                  · exfalso; omega
      · refine r_iload dd_Law_areTasksSo_298 rfl ?_
        refine r_iloadn dd_Law_areTasksSo_300 rfl ?_
        refine r_icmp_ge dd_Law_areTasksSo_301 (fun c_301 => ?_) (fun c_301 => ?_)
        · exfalso; omega
        · refine r_aloadn dd_Law_areTasksSo_304 rfl ?_
          refine r_iload dd_Law_areTasksSo_305 rfl ?_
          refine r_V1W dd_Law_areTasksSo_307 ml_Law_72 ok_Poo_leak vi_Poo_leak vk_0 (by decide) (clS rfl (Nat.le_refl _) (rmOK_self _ _)) rfl cl ?_
          refine r_istore (L' := [_, _, _, _, _, _, _, _, _]) dd_Law_areTasksSo_310 rfl rfl ?_
          refine r_iload dd_Law_areTasksSo_312 rfl ?_
          refine r_if_eq dd_Law_areTasksSo_314 (fun c_314 => ?_) (fun c_314 => ?_)
          · exfalso; omega
          · refine r_iload dd_Law_areTasksSo_317 rfl ?_
            refine r_if_lt dd_Law_areTasksSo_319 (fun c_319 => ?_) (fun c_319 => ?_)
            · exfalso; omega
            · refine r_aloadn dd_Law_areTasksSo_322 rfl ?_
              refine r_iload dd_Law_areTasksSo_323 rfl ?_
              refine r_bip dd_Law_areTasksSo_325 ⟨by decide, by decide⟩ ?_
              refine r_V2W dd_Law_areTasksSo_327 ml_Law_23 ok_Poo_block vi_Poo_block vk_0 (by decide) (clS rfl (Nat.le_refl _) (rmOK_self _ _)) rfl c6 ?_
              refine r_iconst dd_Law_areTasksSo_330 ⟨by decide, by decide⟩ ?_
              refine r_icmp_ne dd_Law_areTasksSo_331 (fun c_331 => ?_) (fun c_331 => ?_)
              · exfalso; omega
              · refine r_iload dd_Law_areTasksSo_334 rfl ?_
                refine r_if_eq dd_Law_areTasksSo_336 (fun c_336 => ?_) (fun c_336 => ?_)
                · exfalso; omega
                · refine r_aloadn dd_Law_areTasksSo_339 rfl ?_
                  refine r_iload dd_Law_areTasksSo_340 rfl ?_
                  refine r_iconst dd_Law_areTasksSo_342 ⟨by decide, by decide⟩ ?_
                  refine r_V2W dd_Law_areTasksSo_343 ml_Law_23 ok_Poo_block vi_Poo_block vk_0 (by decide) (clS rfl (Nat.le_refl _) (rmOK_self _ _)) rfl (c_bk5 hR q2 eq) ?_
                  refine r_aloadn dd_Law_areTasksSo_346 rfl ?_
                  refine r_iload dd_Law_areTasksSo_347 rfl ?_
                  refine r_iconst dd_Law_areTasksSo_349 ⟨by decide, by decide⟩ ?_
                  refine r_V2W dd_Law_areTasksSo_350 ml_Law_23 ok_Poo_block vi_Poo_block vk_0 (by decide) (clS rfl (Nat.le_refl _) (rmOK_self _ _)) rfl (c_bk5 hR y2 eb) ?_
                  refine r_icmp_gt dd_Law_areTasksSo_353 (fun c_353 => ?_) (fun c_353 => ?_)
                  · exfalso; omega
                  · refine r_aloadn dd_Law_areTasksSo_356 rfl ?_
                    refine r_iload dd_Law_areTasksSo_357 rfl ?_
                    refine r_iconst dd_Law_areTasksSo_359 ⟨by decide, by decide⟩ ?_
                    refine r_V2W dd_Law_areTasksSo_360 ml_Law_23 ok_Poo_block vi_Poo_block vk_0 (by decide) (clS rfl (Nat.le_refl _) (rmOK_self _ _)) rfl (c_bk5 hR q2 eq) ?_
                    refine r_aloadn dd_Law_areTasksSo_363 rfl ?_
                    refine r_iload dd_Law_areTasksSo_364 rfl ?_
                    refine r_iconst dd_Law_areTasksSo_366 ⟨by decide, by decide⟩ ?_
                    refine r_V2W dd_Law_areTasksSo_367 ml_Law_23 ok_Poo_block vi_Poo_block vk_0 (by decide) (clS rfl (Nat.le_refl _) (rmOK_self _ _)) rfl (c_bk5 hR y2 eb) ?_
                    refine r_icmp_ne dd_Law_areTasksSo_370 (fun c_370 => ?_) (fun c_370 => ?_)
                    · exfalso; omega
                    · refine r_iload dd_Law_areTasksSo_373 rfl ?_
                      refine r_iload dd_Law_areTasksSo_375 rfl ?_
                      refine r_icmp_ge dd_Law_areTasksSo_377 (fun c_377 => ?_) (fun c_377 => ?_)
                      · exfalso; omega
                      · refine r_iconst dd_Law_areTasksSo_380 ⟨by decide, by decide⟩ ?_
                        refine r_goto dd_Law_areTasksSo_381 ?_
                        refine r_istore (L' := [_, _, _, _, _, _, _, _, _]) dd_Law_areTasksSo_385 rfl rfl ?_
                        refine r_iload dd_Law_areTasksSo_387 rfl ?_
                        refine r_istore (L' := [_, _, _, _, _, _, _, _, _]) dd_Law_areTasksSo_389 rfl rfl ?_
                        refine r_iinc (L' := [_, _, _, _, _, _, _, _, _]) dd_Law_areTasksSo_391 rfl ⟨by omega, by omega⟩ rfl ?_
                        refine r_goto dd_Law_areTasksSo_394 ?_
                        refine r_drop 8 ?_
                        exact z
theorem c_Law_tasks (hR : RI K μ m) (hE : EX m) : MetC mi_Law_areTasksSo [vR 0] (st μ) (some (vI 1)) (st μ) := by
  have hb := lksM_bd m 6
  have ho : 0 ≤ owsM m ∧ owsM m ≤ 64 := sum1_bd (fun w => owd m w)
  have hf := frwM_bd hR.2.1
  have ce := c_lkn hR hb.1
  rw [if_pos lkF_end] at ce
  have e : ∀ l, SPW mi_Law_areTasksSo 219 397 [some (vR 0), some (vI (64 - frwM m)), some (vI (owsM m)), some (vI (lksM m 6)), some (vI 1), some (vI 64), some (vI l), some (vI (lksM m 6)), none] [] (st μ) (some (vI 1)) (st μ) := fun l => by
    refine r_iload dd_Law_areTasksSo_397 rfl ?_
    refine r_if_eq dd_Law_areTasksSo_399 (fun c_399 => ?_) (fun c_399 => ?_)
    · exfalso; omega
    · refine r_iloadn dd_Law_areTasksSo_402 rfl ?_
      refine r_bip dd_Law_areTasksSo_403 ⟨by decide, by decide⟩ ?_
      refine r_aloadn dd_Law_areTasksSo_405 rfl ?_
      refine r_iconst dd_Law_areTasksSo_406 ⟨by decide, by decide⟩ ?_
      refine r_V1W dd_Law_areTasksSo_407 ml_Law_8 ok_Poo_count vi_Poo_count vk_0 (by decide) (clS rfl (Nat.le_refl _) (rmOK_self _ _)) rfl (c_cnt1 hR) ?_
      refine r_isub dd_Law_areTasksSo_410 ⟨by omega, by omega⟩ ?_
      refine r_icmp_ne dd_Law_areTasksSo_411 (fun c_411 => ?_) (fun c_411 => ?_)
      · exfalso; omega
      · refine r_iloadn dd_Law_areTasksSo_414 rfl ?_
        refine r_aloadn dd_Law_areTasksSo_415 rfl ?_
        refine r_iconst dd_Law_areTasksSo_416 ⟨by decide, by decide⟩ ?_
        refine r_V1W dd_Law_areTasksSo_417 ml_Law_8 ok_Poo_count vi_Poo_count vk_0 (by decide) (clS rfl (Nat.le_refl _) (rmOK_self _ _)) rfl (c_cnt0 hR) ?_
        refine r_icmp_ne dd_Law_areTasksSo_420 (fun c_420 => ?_) (fun c_420 => ?_)
        · exfalso; omega
        · refine r_iloadn dd_Law_areTasksSo_423 rfl ?_
          refine r_aloadn dd_Law_areTasksSo_424 rfl ?_
          refine r_iconst dd_Law_areTasksSo_425 ⟨by decide, by decide⟩ ?_
          refine r_V1W dd_Law_areTasksSo_426 ml_Law_8 ok_Poo_count vi_Poo_count vk_0 (by decide) (clS rfl (Nat.le_refl _) (rmOK_self _ _)) rfl (c_cnt3 hR) ?_
          refine r_icmp_ne dd_Law_areTasksSo_429 (fun c_429 => ?_) (fun c_429 => ?_)
          · exfalso; omega
          · refine r_iload dd_Law_areTasksSo_432 rfl ?_
            refine r_bip dd_Law_areTasksSo_434 ⟨by decide, by decide⟩ ?_
            refine r_icmp_ne dd_Law_areTasksSo_436 (fun c_436 => ?_) (fun c_436 => ?_)
            · exfalso; omega
            · refine r_aloadn dd_Law_areTasksSo_439 rfl ?_
              refine r_iloadn dd_Law_areTasksSo_440 rfl ?_
              refine r_V1W dd_Law_areTasksSo_441 ml_Law_72 ok_Poo_leak vi_Poo_leak vk_0 (by decide) (clS rfl (Nat.le_refl _) (rmOK_self _ _)) rfl ce ?_
              refine r_bip dd_Law_areTasksSo_444 ⟨by decide, by decide⟩ ?_
              refine r_icmp_ne dd_Law_areTasksSo_446 (fun c_446 => ?_) (fun c_446 => ?_)
              · exfalso; omega
              · refine r_iconst dd_Law_areTasksSo_449 ⟨by decide, by decide⟩ ?_
                refine r_goto dd_Law_areTasksSo_450 ?_
                exact r_retI dd_Law_areTasksSo_454 (by first | rfl | omega | exact (b2_t (by first | assumption | omega)).symm | exact (b2_f (by first | assumption | omega)).symm) rfl
  have s3 := tl_lk hR hE.1 e (lksM m 6).toNat 0 (-5) (by omega) (Int.le_refl _) (Or.inl rfl)
  have s2 := tl_sz hR (x1 := 64 - frwM m) (x2 := owsM m) (x3 := lksM m 6) (μ := μ) (R := some (vI 1)) (Mf := st μ) (by
    refine r_bip dd_Law_areTasksSo_291 ⟨by decide, by decide⟩ ?_
    refine r_istore (L' := [_, _, _, _, _, _, _, _, _]) dd_Law_areTasksSo_293 rfl rfl ?_
    refine r_iconst dd_Law_areTasksSo_295 ⟨by decide, by decide⟩ ?_
    refine r_istore (L' := [_, _, _, _, _, _, _, _, _]) dd_Law_areTasksSo_296 rfl rfl ?_
    exact s3) 3 0 0 rfl (Int.le_refl _) (by decide) (by rw [Int.zero_add]; exact szc_64 hR.2.1 hR.2.2)
  have s1 := tl_out hR (μ := μ) (R := some (vI 1)) (Mf := st μ) (by
    refine r_iconst dd_Law_areTasksSo_168 ⟨by decide, by decide⟩ ?_
    refine r_istore (L' := [_, _, _, _, _, _, _, _, _]) dd_Law_areTasksSo_169 rfl rfl ?_
    refine r_iconst dd_Law_areTasksSo_171 ⟨by decide, by decide⟩ ?_
    refine r_istore (L' := [_, _, _, _, _, _, _, _, _]) dd_Law_areTasksSo_172 rfl rfl ?_
    exact s2) 6 0 0 0 0 rfl (Int.le_refl _) (by decide) (by decide) (by decide) (by rw [Int.zero_add]; exact tot_own hR.2.1 hR.2.2) (by rw [Int.zero_add]; exact tot_blks hR.2.1) (by rw [Int.zero_add]; exact tot_lks hR.2.1)
  refine met_of ?_ (Nat.le_of_ble_eq_true rfl) (by decide) (Or.inr rfl) (by decide) (Nat.le_of_ble_eq_true rfl)
  show SPW mi_Law_areTasksSo 219 0 [some (vR 0), none, none, none, none, none, none, none, none] [] (st μ) (some (vI 1)) (st μ)
  refine r_iconst dd_Law_areTasksSo_0 ⟨by decide, by decide⟩ ?_
  refine r_istoren (L' := [_, _, _, _, _, _, _, _, _]) dd_Law_areTasksSo_1 rfl rfl ?_
  refine r_iconst dd_Law_areTasksSo_2 ⟨by decide, by decide⟩ ?_
  refine r_istoren (L' := [_, _, _, _, _, _, _, _, _]) dd_Law_areTasksSo_3 rfl rfl ?_
  refine r_iconst dd_Law_areTasksSo_4 ⟨by decide, by decide⟩ ?_
  refine r_istoren (L' := [_, _, _, _, _, _, _, _, _]) dd_Law_areTasksSo_5 rfl rfl ?_
  refine r_iconst dd_Law_areTasksSo_6 ⟨by decide, by decide⟩ ?_
  refine r_istore (L' := [_, _, _, _, _, _, _, _, _]) dd_Law_areTasksSo_7 rfl rfl ?_
  refine r_iconst dd_Law_areTasksSo_9 ⟨by decide, by decide⟩ ?_
  refine r_istore (L' := [_, _, _, _, _, _, _, _, _]) dd_Law_areTasksSo_10 rfl rfl ?_
  exact s1
end TA

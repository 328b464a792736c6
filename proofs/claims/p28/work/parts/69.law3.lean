/-! the law: the parts of the pool are so -/
section PA
variable {K : Int} {μ : Int → Int → Int} {m : Int → Int} {a1 a2 a3 a4 a5 a6 a7 w z b a l q d : Int} {R : Option Vv} {Mf : Mm}
/-- what is known of the block at w -/
abbrev BK (m : Int → Int) (w z b : Int) : Prop := 0 ≤ w ∧ w + z ≤ 64 ∧ (z = 4 ∨ z = 8 ∨ z = 16) ∧ m (128 + w) = z ∧ m (192 + w) = b ∧ (∀ k, w ≤ k → k < w + z → bgn m k = w) ∧ ((b = -5 ∧ fre m w ∧ ∀ k, w ≤ k → k < w + z → m k = 0) ∨ (0 ≤ b ∧ owd m w ∧ begOf m b = w ∧ 1 ≤ m (320 + w) ∧ m (320 + w) + 2 ≤ z))
theorem BK_of (hR : RI K μ m) (hN : NB m) (w0 : 0 ≤ w) (w1 : w < 64) (hz : m (128 + w) ≠ 0) : BK m w (m (128 + w)) (m (192 + w)) := by
  have g := hR.2.1.1 w w0 w1
  have hs : m (128 + w) = 4 ∨ m (128 + w) = 8 ∨ m (128 + w) = 16 := by omega
  refine ⟨w0, g.2.2.2.2.2.2.2, hs, rfl, rfl, fun k a c => (bgn_in hR.2.1 hR.2.2 w0 w1 a c).1, ?_⟩
  by_cases q : m (192 + w) = -5
  · have hf : fre m w := ⟨by omega, q⟩
    refine Or.inl ⟨q, hf, fun k a c => ?_⟩
    have := (hR.2.2.2.2.2 w (k - w) w0 w1 hf (by omega) (by omega)).1
    rw [show w + (k - w) = k by omega] at this
    exact this
  · have ho : owd m w := ⟨by omega, q⟩
    have h3 := hR.2.2.2.2.1 w w0 w1 ho
    exact Or.inr ⟨(hN.2.1 w w0 w1 ho).1, ho, hN.beg w0 w1 ho, h3.1, h3.2.1⟩
theorem pt_0 (hR : RI K μ m) (hB : BK m w z b) (hal : w % z = 0) (ha : 0 ≤ a2 ∧ a2 ≤ 64) (kk : SPW mi_Law_arePartsSo 219 78 [some (vR 0), some (vI a1), some (vI (a2 + 1)), some (vI a3), some (vI a4), some (vI a5), some (vI a6), some (vI a7), some (vI 1), some (vI w), some (vI z), some (vI b), some (vI w), none, none, none] [] (st μ) R Mf) : SPW mi_Law_arePartsSo 219 24 [some (vR 0), some (vI a1), some (vI a2), some (vI a3), some (vI a4), some (vI a5), some (vI a6), some (vI a7), some (vI 1), some (vI w), none, none, none, none, none, none] [] (st μ) R Mf := by
  obtain ⟨w0, w1, hz, hm, hb, hg, -⟩ := hB
  have bw := hg w (Int.le_refl _) (by omega)
  have hsn : p4 (snM (m (128 + w))) = z ∧ 0 ≤ snM (m (128 + w)) ∧ snM (m (128 + w)) ≤ 2 := by rw [hm]; exact sn_sz hz
  refine r_iload dd_Law_arePartsSo_24 rfl ?_
  refine r_bip dd_Law_arePartsSo_26 ⟨by decide, by decide⟩ ?_
  refine r_icmp_ge dd_Law_arePartsSo_28 (fun c_28 => ?_) (fun c_28 => ?_)
  · exfalso; omega
  · refine r_iconst dd_Law_arePartsSo_31 ⟨by decide, by decide⟩ ?_
    refine r_aloadn dd_Law_arePartsSo_32 rfl ?_
    refine r_iload dd_Law_arePartsSo_33 rfl ?_
    refine r_iconst dd_Law_arePartsSo_35 ⟨by decide, by decide⟩ ?_
    refine r_V2W dd_Law_arePartsSo_36 ml_Law_20 ok_Poo_word vi_Poo_word vk_0 (by decide) (clS rfl (Nat.le_refl _) (rmOK_self _ _)) rfl (c_wd3 hR w0 (by omega) bw) ?_
    refine r_shl4 dd_Law_arePartsSo_39 hsn.2 ?_
    rw [hsn.1]
    refine r_istore (L' := [_, _, _, _, _, _, _, _, _, _, _, _, _, _, _, _]) dd_Law_arePartsSo_40 rfl rfl ?_
    refine r_aloadn dd_Law_arePartsSo_42 rfl ?_
    refine r_iload dd_Law_arePartsSo_43 rfl ?_
    refine r_iconst dd_Law_arePartsSo_45 ⟨by decide, by decide⟩ ?_
    refine r_V2W dd_Law_arePartsSo_46 ml_Law_20 ok_Poo_word vi_Poo_word vk_0 (by decide) (clS rfl (Nat.le_refl _) (rmOK_self _ _)) rfl (c_wd1 hR w0 (by omega) bw) ?_
    rw [hb]
    refine r_istore (L' := [_, _, _, _, _, _, _, _, _, _, _, _, _, _, _, _]) dd_Law_arePartsSo_49 rfl rfl ?_
    refine r_iinc (L' := [_, _, _, _, _, _, _, _, _, _, _, _, _, _, _, _]) dd_Law_arePartsSo_51 rfl ⟨by omega, by omega⟩ rfl ?_
    refine r_iload dd_Law_arePartsSo_54 rfl ?_
    refine r_if_eq dd_Law_arePartsSo_56 (fun c_56 => ?_) (fun c_56 => ?_)
    · exfalso; omega
    · refine r_iload dd_Law_arePartsSo_59 rfl ?_
      refine r_iload dd_Law_arePartsSo_61 rfl ?_
      refine r_irem dd_Law_arePartsSo_63 w0 (by omega) ?_
      refine r_if_ne dd_Law_arePartsSo_64 (fun c_64 => ?_) (fun c_64 => ?_)
      · exfalso; omega
      · refine r_iconst dd_Law_arePartsSo_67 ⟨by decide, by decide⟩ ?_
        refine r_goto dd_Law_arePartsSo_68 ?_
        refine r_istore (L' := [_, _, _, _, _, _, _, _, _, _, _, _, _, _, _, _]) dd_Law_arePartsSo_72 rfl rfl ?_
        refine r_iload dd_Law_arePartsSo_74 rfl ?_
        refine r_istore (L' := [_, _, _, _, _, _, _, _, _, _, _, _, _, _, _, _]) dd_Law_arePartsSo_76 rfl rfl ?_
        exact kk
theorem l_in (hR : RI K μ m) (hB : BK m w z b) (kk : SPW mi_Law_arePartsSo 219 207 [some (vR 0), some (vI a1), some (vI a2), some (vI a3), some (vI a4), some (vI a5), some (vI a6), some (vI a7), some (vI 1), some (vI w), some (vI z), some (vI b), some (vI (w + z)), none, none, none] [] (st μ) R Mf) : ∀ (n : Nat) (k : Int), k + n = w + z → w ≤ k → SPW mi_Law_arePartsSo 219 78 [some (vR 0), some (vI a1), some (vI a2), some (vI a3), some (vI a4), some (vI a5), some (vI a6), some (vI a7), some (vI 1), some (vI w), some (vI z), some (vI b), some (vI k), none, none, none] [] (st μ) R Mf := by
  obtain ⟨w0, w1, hz, hm, hb, hg, hc⟩ := hB
  have bw := hg w (Int.le_refl _) (by omega)
  intro n
  induction n with
  | zero =>
    intro k hk k0
    obtain rfl : k = w + z := by omega
    refine r_iload dd_Law_arePartsSo_78 rfl ?_
    refine r_iload dd_Law_arePartsSo_80 rfl ?_
    refine r_iload dd_Law_arePartsSo_82 rfl ?_
    refine r_iadd dd_Law_arePartsSo_84 ⟨by omega, by omega⟩ ?_
    refine r_icmp_ge dd_Law_arePartsSo_85 (fun c_85 => ?_) (fun c_85 => ?_)
    · exact kk
    · exfalso; omega
  | succ n ih =>
    intro k hk k0
    have s := ih (k + 1) (by omega) (by omega)
    have k1 : k < w + z := by omega
    have bk := hg k k0 k1
    have e2 := c_wd2 hR (k := k) (by omega) (by omega)
    rcases hc with ⟨hb5, hf, hv⟩ | ⟨hb0, ho, hbe, ha1, ha2⟩
    · have g : ¬ grdM m k := fun x => by
        have := x.1.2
        rw [bk] at this
        omega
      have hv0 := hv k k0 k1
      rw [b2_f g] at e2
      refine r_iload dd_Law_arePartsSo_78 rfl ?_
      refine r_iload dd_Law_arePartsSo_80 rfl ?_
      refine r_iload dd_Law_arePartsSo_82 rfl ?_
      refine r_iadd dd_Law_arePartsSo_84 ⟨by omega, by omega⟩ ?_
      refine r_icmp_ge dd_Law_arePartsSo_85 (fun c_85 => ?_) (fun c_85 => ?_)
      · exfalso; omega
      · refine r_iload dd_Law_arePartsSo_88 rfl ?_
        refine r_if_lt dd_Law_arePartsSo_90 (fun c_90 => ?_) (fun c_90 => ?_)
        · refine r_iconst dd_Law_arePartsSo_121 ⟨by decide, by decide⟩ ?_
          refine r_istore (L' := [_, _, _, _, _, _, _, _, _, _, _, _, _, _, _, _]) dd_Law_arePartsSo_122 rfl rfl ?_
          refine r_iload dd_Law_arePartsSo_124 rfl ?_
          refine r_if_eq dd_Law_arePartsSo_126 (fun c_126 => ?_) (fun c_126 => ?_)
          · exfalso; omega
          · refine r_aloadn dd_Law_arePartsSo_129 rfl ?_
            refine r_iload dd_Law_arePartsSo_130 rfl ?_
            refine r_iconst dd_Law_arePartsSo_132 ⟨by decide, by decide⟩ ?_
            refine r_V2W dd_Law_arePartsSo_133 ml_Law_20 ok_Poo_word vi_Poo_word vk_0 (by decide) (clS rfl (Nat.le_refl _) (rmOK_self _ _)) rfl (c_wd3 hR (by omega) (by omega) bk) ?_
            refine r_aloadn dd_Law_arePartsSo_136 rfl ?_
            refine r_iload dd_Law_arePartsSo_137 rfl ?_
            refine r_iconst dd_Law_arePartsSo_139 ⟨by decide, by decide⟩ ?_
            refine r_V2W dd_Law_arePartsSo_140 ml_Law_20 ok_Poo_word vi_Poo_word vk_0 (by decide) (clS rfl (Nat.le_refl _) (rmOK_self _ _)) rfl (c_wd3 hR w0 (by omega) bw) ?_
            refine r_icmp_ne dd_Law_arePartsSo_143 (fun c_143 => ?_) (fun c_143 => ?_)
            · exfalso; omega
            · refine r_aloadn dd_Law_arePartsSo_146 rfl ?_
              refine r_iload dd_Law_arePartsSo_147 rfl ?_
              refine r_iconst dd_Law_arePartsSo_149 ⟨by decide, by decide⟩ ?_
              refine r_V2W dd_Law_arePartsSo_150 ml_Law_20 ok_Poo_word vi_Poo_word vk_0 (by decide) (clS rfl (Nat.le_refl _) (rmOK_self _ _)) rfl (c_wd1 hR (by omega) (by omega) bk) ?_
              refine r_iload dd_Law_arePartsSo_153 rfl ?_
              refine r_icmp_ne dd_Law_arePartsSo_155 (fun c_155 => ?_) (fun c_155 => ?_)
              · exfalso; omega
              · refine r_aloadn dd_Law_arePartsSo_158 rfl ?_
                refine r_iload dd_Law_arePartsSo_159 rfl ?_
                refine r_iconst dd_Law_arePartsSo_161 ⟨by decide, by decide⟩ ?_
                refine r_V2W dd_Law_arePartsSo_162 ml_Law_20 ok_Poo_word vi_Poo_word vk_0 (by decide) (clS rfl (Nat.le_refl _) (rmOK_self _ _)) rfl e2 ?_
                refine r_iconst dd_Law_arePartsSo_165 ⟨by decide, by decide⟩ ?_
                refine r_icmp_ne dd_Law_arePartsSo_166 (fun c_166 => ?_) (fun c_166 => ?_)
                · refine r_iconst dd_Law_arePartsSo_173 ⟨by decide, by decide⟩ ?_
                  refine r_iload dd_Law_arePartsSo_174 rfl ?_
                  refine r_icmp_ne dd_Law_arePartsSo_176 (fun c_176 => ?_) (fun c_176 => ?_)
                  · exfalso; omega
                  · refine r_iload dd_Law_arePartsSo_179 rfl ?_
                    refine r_if_ge dd_Law_arePartsSo_181 (fun c_181 => ?_) (fun c_181 => ?_)
                    · exfalso; omega
                    · refine r_aloadn dd_Law_arePartsSo_184 rfl ?_
                      refine r_iload dd_Law_arePartsSo_185 rfl ?_
                      refine r_iconst dd_Law_arePartsSo_187 ⟨by decide, by decide⟩ ?_
                      refine r_V2W dd_Law_arePartsSo_188 ml_Law_20 ok_Poo_word vi_Poo_word vk_0 (by decide) (clS rfl (Nat.le_refl _) (rmOK_self _ _)) rfl (c_wd0 hR (by omega) (by omega)) ?_
                      refine r_if_ne dd_Law_arePartsSo_191 (fun c_191 => ?_) (fun c_191 => ?_)
                      · exfalso; omega
                      · refine r_iconst dd_Law_arePartsSo_194 ⟨by decide, by decide⟩ ?_
                        refine r_goto dd_Law_arePartsSo_195 ?_
                        refine r_istore (L' := [_, _, _, _, _, _, _, _, _, _, _, _, _, _, _, _]) dd_Law_arePartsSo_199 rfl rfl ?_
                        refine r_iinc (L' := [_, _, _, _, _, _, _, _, _, _, _, _, _, _, _, _]) dd_Law_arePartsSo_201 rfl ⟨by omega, by omega⟩ rfl ?_
                        refine r_goto dd_Law_arePartsSo_204 ?_
                        refine r_drop 13 ?_
                        exact s
                · exfalso; omega
        · exfalso; omega
    · have gi : grdM m k ↔ (k = w ∨ k = w + m (320 + w) + 1) := by
        unfold grdM
        rw [bk]
        exact ⟨fun x => x.2, fun x => ⟨ho, x⟩⟩
      by_cases h1 : k = w
      · rw [b2_t (gi.mpr (Or.inl h1))] at e2
        refine r_iload dd_Law_arePartsSo_78 rfl ?_
        refine r_iload dd_Law_arePartsSo_80 rfl ?_
        refine r_iload dd_Law_arePartsSo_82 rfl ?_
        refine r_iadd dd_Law_arePartsSo_84 ⟨by omega, by omega⟩ ?_
        refine r_icmp_ge dd_Law_arePartsSo_85 (fun c_85 => ?_) (fun c_85 => ?_)
        · exfalso; omega
        · refine r_iload dd_Law_arePartsSo_88 rfl ?_
          refine r_if_lt dd_Law_arePartsSo_90 (fun c_90 => ?_) (fun c_90 => ?_)
          · exfalso; omega
          · refine r_iload dd_Law_arePartsSo_93 rfl ?_
            refine r_iload dd_Law_arePartsSo_95 rfl ?_
            refine r_icmp_eq dd_Law_arePartsSo_97 (fun c_97 => ?_) (fun c_97 => ?_)
            · refine r_iconst dd_Law_arePartsSo_117 ⟨by decide, by decide⟩ ?_
              refine r_goto dd_Law_arePartsSo_118 ?_
              refine r_istore (L' := [_, _, _, _, _, _, _, _, _, _, _, _, _, _, _, _]) dd_Law_arePartsSo_122 rfl rfl ?_
              refine r_iload dd_Law_arePartsSo_124 rfl ?_
              refine r_if_eq dd_Law_arePartsSo_126 (fun c_126 => ?_) (fun c_126 => ?_)
              · exfalso; omega
              · refine r_aloadn dd_Law_arePartsSo_129 rfl ?_
                refine r_iload dd_Law_arePartsSo_130 rfl ?_
                refine r_iconst dd_Law_arePartsSo_132 ⟨by decide, by decide⟩ ?_
                refine r_V2W dd_Law_arePartsSo_133 ml_Law_20 ok_Poo_word vi_Poo_word vk_0 (by decide) (clS rfl (Nat.le_refl _) (rmOK_self _ _)) rfl (c_wd3 hR (by omega) (by omega) bk) ?_
                refine r_aloadn dd_Law_arePartsSo_136 rfl ?_
                refine r_iload dd_Law_arePartsSo_137 rfl ?_
                refine r_iconst dd_Law_arePartsSo_139 ⟨by decide, by decide⟩ ?_
                refine r_V2W dd_Law_arePartsSo_140 ml_Law_20 ok_Poo_word vi_Poo_word vk_0 (by decide) (clS rfl (Nat.le_refl _) (rmOK_self _ _)) rfl (c_wd3 hR w0 (by omega) bw) ?_
                refine r_icmp_ne dd_Law_arePartsSo_143 (fun c_143 => ?_) (fun c_143 => ?_)
                · exfalso; omega
                · refine r_aloadn dd_Law_arePartsSo_146 rfl ?_
                  refine r_iload dd_Law_arePartsSo_147 rfl ?_
                  refine r_iconst dd_Law_arePartsSo_149 ⟨by decide, by decide⟩ ?_
                  refine r_V2W dd_Law_arePartsSo_150 ml_Law_20 ok_Poo_word vi_Poo_word vk_0 (by decide) (clS rfl (Nat.le_refl _) (rmOK_self _ _)) rfl (c_wd1 hR (by omega) (by omega) bk) ?_
                  refine r_iload dd_Law_arePartsSo_153 rfl ?_
                  refine r_icmp_ne dd_Law_arePartsSo_155 (fun c_155 => ?_) (fun c_155 => ?_)
                  · exfalso; omega
                  · refine r_aloadn dd_Law_arePartsSo_158 rfl ?_
                    refine r_iload dd_Law_arePartsSo_159 rfl ?_
                    refine r_iconst dd_Law_arePartsSo_161 ⟨by decide, by decide⟩ ?_
                    refine r_V2W dd_Law_arePartsSo_162 ml_Law_20 ok_Poo_word vi_Poo_word vk_0 (by decide) (clS rfl (Nat.le_refl _) (rmOK_self _ _)) rfl e2 ?_
                    refine r_iconst dd_Law_arePartsSo_165 ⟨by decide, by decide⟩ ?_
                    refine r_icmp_ne dd_Law_arePartsSo_166 (fun c_166 => ?_) (fun c_166 => ?_)
                    · exfalso; omega
                    · refine r_iconst dd_Law_arePartsSo_169 ⟨by decide, by decide⟩ ?_
                      refine r_goto dd_Law_arePartsSo_170 ?_
                      refine r_iload dd_Law_arePartsSo_174 rfl ?_
                      refine r_icmp_ne dd_Law_arePartsSo_176 (fun c_176 => ?_) (fun c_176 => ?_)
                      · exfalso; omega
                      · refine r_iload dd_Law_arePartsSo_179 rfl ?_
                        refine r_if_ge dd_Law_arePartsSo_181 (fun c_181 => ?_) (fun c_181 => ?_)
                        · refine r_iconst dd_Law_arePartsSo_194 ⟨by decide, by decide⟩ ?_
                          refine r_goto dd_Law_arePartsSo_195 ?_
                          refine r_istore (L' := [_, _, _, _, _, _, _, _, _, _, _, _, _, _, _, _]) dd_Law_arePartsSo_199 rfl rfl ?_
                          refine r_iinc (L' := [_, _, _, _, _, _, _, _, _, _, _, _, _, _, _, _]) dd_Law_arePartsSo_201 rfl ⟨by omega, by omega⟩ rfl ?_
                          refine r_goto dd_Law_arePartsSo_204 ?_
                          refine r_drop 13 ?_
                          exact s
                        · exfalso; omega
            · exfalso; omega
      · by_cases h2 : k = w + m (320 + w) + 1
        · rw [b2_t (gi.mpr (Or.inr h2))] at e2
          refine r_iload dd_Law_arePartsSo_78 rfl ?_
          refine r_iload dd_Law_arePartsSo_80 rfl ?_
          refine r_iload dd_Law_arePartsSo_82 rfl ?_
          refine r_iadd dd_Law_arePartsSo_84 ⟨by omega, by omega⟩ ?_
          refine r_icmp_ge dd_Law_arePartsSo_85 (fun c_85 => ?_) (fun c_85 => ?_)
          · exfalso; omega
          · refine r_iload dd_Law_arePartsSo_88 rfl ?_
            refine r_if_lt dd_Law_arePartsSo_90 (fun c_90 => ?_) (fun c_90 => ?_)
            · exfalso; omega
            · refine r_iload dd_Law_arePartsSo_93 rfl ?_
              refine r_iload dd_Law_arePartsSo_95 rfl ?_
              refine r_icmp_eq dd_Law_arePartsSo_97 (fun c_97 => ?_) (fun c_97 => ?_)
              · exfalso; omega
              · refine r_iload dd_Law_arePartsSo_100 rfl ?_
                refine r_iload dd_Law_arePartsSo_102 rfl ?_
                refine r_aloadn dd_Law_arePartsSo_104 rfl ?_
                refine r_iload dd_Law_arePartsSo_105 rfl ?_
                refine r_iconst dd_Law_arePartsSo_107 ⟨by decide, by decide⟩ ?_
                refine r_V2W dd_Law_arePartsSo_108 ml_Law_23 ok_Poo_block vi_Poo_block vk_0 (by decide) (clS rfl (Nat.le_refl _) (rmOK_self _ _)) rfl (c_bk3 hR w0 hbe) ?_
                refine r_iadd dd_Law_arePartsSo_111 ⟨by omega, by omega⟩ ?_
                refine r_iconst dd_Law_arePartsSo_112 ⟨by decide, by decide⟩ ?_
                refine r_iadd dd_Law_arePartsSo_113 ⟨by omega, by omega⟩ ?_
                refine r_icmp_ne dd_Law_arePartsSo_114 (fun c_114 => ?_) (fun c_114 => ?_)
                · exfalso; omega
                · refine r_iconst dd_Law_arePartsSo_117 ⟨by decide, by decide⟩ ?_
                  refine r_goto dd_Law_arePartsSo_118 ?_
                  refine r_istore (L' := [_, _, _, _, _, _, _, _, _, _, _, _, _, _, _, _]) dd_Law_arePartsSo_122 rfl rfl ?_
                  refine r_iload dd_Law_arePartsSo_124 rfl ?_
                  refine r_if_eq dd_Law_arePartsSo_126 (fun c_126 => ?_) (fun c_126 => ?_)
                  · exfalso; omega
                  · refine r_aloadn dd_Law_arePartsSo_129 rfl ?_
                    refine r_iload dd_Law_arePartsSo_130 rfl ?_
                    refine r_iconst dd_Law_arePartsSo_132 ⟨by decide, by decide⟩ ?_
                    refine r_V2W dd_Law_arePartsSo_133 ml_Law_20 ok_Poo_word vi_Poo_word vk_0 (by decide) (clS rfl (Nat.le_refl _) (rmOK_self _ _)) rfl (c_wd3 hR (by omega) (by omega) bk) ?_
                    refine r_aloadn dd_Law_arePartsSo_136 rfl ?_
                    refine r_iload dd_Law_arePartsSo_137 rfl ?_
                    refine r_iconst dd_Law_arePartsSo_139 ⟨by decide, by decide⟩ ?_
                    refine r_V2W dd_Law_arePartsSo_140 ml_Law_20 ok_Poo_word vi_Poo_word vk_0 (by decide) (clS rfl (Nat.le_refl _) (rmOK_self _ _)) rfl (c_wd3 hR w0 (by omega) bw) ?_
                    refine r_icmp_ne dd_Law_arePartsSo_143 (fun c_143 => ?_) (fun c_143 => ?_)
                    · exfalso; omega
                    · refine r_aloadn dd_Law_arePartsSo_146 rfl ?_
                      refine r_iload dd_Law_arePartsSo_147 rfl ?_
                      refine r_iconst dd_Law_arePartsSo_149 ⟨by decide, by decide⟩ ?_
                      refine r_V2W dd_Law_arePartsSo_150 ml_Law_20 ok_Poo_word vi_Poo_word vk_0 (by decide) (clS rfl (Nat.le_refl _) (rmOK_self _ _)) rfl (c_wd1 hR (by omega) (by omega) bk) ?_
                      refine r_iload dd_Law_arePartsSo_153 rfl ?_
                      refine r_icmp_ne dd_Law_arePartsSo_155 (fun c_155 => ?_) (fun c_155 => ?_)
                      · exfalso; omega
                      · refine r_aloadn dd_Law_arePartsSo_158 rfl ?_
                        refine r_iload dd_Law_arePartsSo_159 rfl ?_
                        refine r_iconst dd_Law_arePartsSo_161 ⟨by decide, by decide⟩ ?_
                        refine r_V2W dd_Law_arePartsSo_162 ml_Law_20 ok_Poo_word vi_Poo_word vk_0 (by decide) (clS rfl (Nat.le_refl _) (rmOK_self _ _)) rfl e2 ?_
                        refine r_iconst dd_Law_arePartsSo_165 ⟨by decide, by decide⟩ ?_
                        refine r_icmp_ne dd_Law_arePartsSo_166 (fun c_166 => ?_) (fun c_166 => ?_)
                        · exfalso; omega
                        · refine r_iconst dd_Law_arePartsSo_169 ⟨by decide, by decide⟩ ?_
                          refine r_goto dd_Law_arePartsSo_170 ?_
                          refine r_iload dd_Law_arePartsSo_174 rfl ?_
                          refine r_icmp_ne dd_Law_arePartsSo_176 (fun c_176 => ?_) (fun c_176 => ?_)
                          · exfalso; omega
                          · refine r_iload dd_Law_arePartsSo_179 rfl ?_
                            refine r_if_ge dd_Law_arePartsSo_181 (fun c_181 => ?_) (fun c_181 => ?_)
                            · refine r_iconst dd_Law_arePartsSo_194 ⟨by decide, by decide⟩ ?_
                              refine r_goto dd_Law_arePartsSo_195 ?_
                              refine r_istore (L' := [_, _, _, _, _, _, _, _, _, _, _, _, _, _, _, _]) dd_Law_arePartsSo_199 rfl rfl ?_
                              refine r_iinc (L' := [_, _, _, _, _, _, _, _, _, _, _, _, _, _, _, _]) dd_Law_arePartsSo_201 rfl ⟨by omega, by omega⟩ rfl ?_
                              refine r_goto dd_Law_arePartsSo_204 ?_
                              refine r_drop 13 ?_
                              exact s
                            · exfalso; omega
        · rw [b2_f (fun x => by rcases gi.mp x with y | y; exact h1 y; exact h2 y)] at e2
          refine r_iload dd_Law_arePartsSo_78 rfl ?_
          refine r_iload dd_Law_arePartsSo_80 rfl ?_
          refine r_iload dd_Law_arePartsSo_82 rfl ?_
          refine r_iadd dd_Law_arePartsSo_84 ⟨by omega, by omega⟩ ?_
          refine r_icmp_ge dd_Law_arePartsSo_85 (fun c_85 => ?_) (fun c_85 => ?_)
          · exfalso; omega
          · refine r_iload dd_Law_arePartsSo_88 rfl ?_
            refine r_if_lt dd_Law_arePartsSo_90 (fun c_90 => ?_) (fun c_90 => ?_)
            · exfalso; omega
            · refine r_iload dd_Law_arePartsSo_93 rfl ?_
              refine r_iload dd_Law_arePartsSo_95 rfl ?_
              refine r_icmp_eq dd_Law_arePartsSo_97 (fun c_97 => ?_) (fun c_97 => ?_)
              · exfalso; omega
              · refine r_iload dd_Law_arePartsSo_100 rfl ?_
                refine r_iload dd_Law_arePartsSo_102 rfl ?_
                refine r_aloadn dd_Law_arePartsSo_104 rfl ?_
                refine r_iload dd_Law_arePartsSo_105 rfl ?_
                refine r_iconst dd_Law_arePartsSo_107 ⟨by decide, by decide⟩ ?_
                refine r_V2W dd_Law_arePartsSo_108 ml_Law_23 ok_Poo_block vi_Poo_block vk_0 (by decide) (clS rfl (Nat.le_refl _) (rmOK_self _ _)) rfl (c_bk3 hR w0 hbe) ?_
                refine r_iadd dd_Law_arePartsSo_111 ⟨by omega, by omega⟩ ?_
                refine r_iconst dd_Law_arePartsSo_112 ⟨by decide, by decide⟩ ?_
                refine r_iadd dd_Law_arePartsSo_113 ⟨by omega, by omega⟩ ?_
                refine r_icmp_ne dd_Law_arePartsSo_114 (fun c_114 => ?_) (fun c_114 => ?_)
                · refine r_iconst dd_Law_arePartsSo_121 ⟨by decide, by decide⟩ ?_
                  refine r_istore (L' := [_, _, _, _, _, _, _, _, _, _, _, _, _, _, _, _]) dd_Law_arePartsSo_122 rfl rfl ?_
                  refine r_iload dd_Law_arePartsSo_124 rfl ?_
                  refine r_if_eq dd_Law_arePartsSo_126 (fun c_126 => ?_) (fun c_126 => ?_)
                  · exfalso; omega
                  · refine r_aloadn dd_Law_arePartsSo_129 rfl ?_
                    refine r_iload dd_Law_arePartsSo_130 rfl ?_
                    refine r_iconst dd_Law_arePartsSo_132 ⟨by decide, by decide⟩ ?_
                    refine r_V2W dd_Law_arePartsSo_133 ml_Law_20 ok_Poo_word vi_Poo_word vk_0 (by decide) (clS rfl (Nat.le_refl _) (rmOK_self _ _)) rfl (c_wd3 hR (by omega) (by omega) bk) ?_
                    refine r_aloadn dd_Law_arePartsSo_136 rfl ?_
                    refine r_iload dd_Law_arePartsSo_137 rfl ?_
                    refine r_iconst dd_Law_arePartsSo_139 ⟨by decide, by decide⟩ ?_
                    refine r_V2W dd_Law_arePartsSo_140 ml_Law_20 ok_Poo_word vi_Poo_word vk_0 (by decide) (clS rfl (Nat.le_refl _) (rmOK_self _ _)) rfl (c_wd3 hR w0 (by omega) bw) ?_
                    refine r_icmp_ne dd_Law_arePartsSo_143 (fun c_143 => ?_) (fun c_143 => ?_)
                    · exfalso; omega
                    · refine r_aloadn dd_Law_arePartsSo_146 rfl ?_
                      refine r_iload dd_Law_arePartsSo_147 rfl ?_
                      refine r_iconst dd_Law_arePartsSo_149 ⟨by decide, by decide⟩ ?_
                      refine r_V2W dd_Law_arePartsSo_150 ml_Law_20 ok_Poo_word vi_Poo_word vk_0 (by decide) (clS rfl (Nat.le_refl _) (rmOK_self _ _)) rfl (c_wd1 hR (by omega) (by omega) bk) ?_
                      refine r_iload dd_Law_arePartsSo_153 rfl ?_
                      refine r_icmp_ne dd_Law_arePartsSo_155 (fun c_155 => ?_) (fun c_155 => ?_)
                      · exfalso; omega
                      · refine r_aloadn dd_Law_arePartsSo_158 rfl ?_
                        refine r_iload dd_Law_arePartsSo_159 rfl ?_
                        refine r_iconst dd_Law_arePartsSo_161 ⟨by decide, by decide⟩ ?_
                        refine r_V2W dd_Law_arePartsSo_162 ml_Law_20 ok_Poo_word vi_Poo_word vk_0 (by decide) (clS rfl (Nat.le_refl _) (rmOK_self _ _)) rfl e2 ?_
                        refine r_iconst dd_Law_arePartsSo_165 ⟨by decide, by decide⟩ ?_
                        refine r_icmp_ne dd_Law_arePartsSo_166 (fun c_166 => ?_) (fun c_166 => ?_)
                        · refine r_iconst dd_Law_arePartsSo_173 ⟨by decide, by decide⟩ ?_
                          refine r_iload dd_Law_arePartsSo_174 rfl ?_
                          refine r_icmp_ne dd_Law_arePartsSo_176 (fun c_176 => ?_) (fun c_176 => ?_)
                          · exfalso; omega
                          · refine r_iload dd_Law_arePartsSo_179 rfl ?_
                            refine r_if_ge dd_Law_arePartsSo_181 (fun c_181 => ?_) (fun c_181 => ?_)
                            · refine r_iconst dd_Law_arePartsSo_194 ⟨by decide, by decide⟩ ?_
                              refine r_goto dd_Law_arePartsSo_195 ?_
                              refine r_istore (L' := [_, _, _, _, _, _, _, _, _, _, _, _, _, _, _, _]) dd_Law_arePartsSo_199 rfl rfl ?_
                              refine r_iinc (L' := [_, _, _, _, _, _, _, _, _, _, _, _, _, _, _, _]) dd_Law_arePartsSo_201 rfl ⟨by omega, by omega⟩ rfl ?_
                              refine r_goto dd_Law_arePartsSo_204 ?_
                              refine r_drop 13 ?_
                              exact s
                            · exfalso; omega
                        · exfalso; omega
                · exfalso; omega
theorem pt_free (hz : z = 4 ∨ z = 8 ∨ z = 16) (w0 : 0 ≤ w) (w1 : w + z ≤ 64) (hb : b = -5) (ha : 0 ≤ a1 ∧ a1 ≤ 2000) (hT : a6 = w - z → a7 = z → z < 16 → 0 ≤ a6 ∧ a6 % (2 * z) ≠ 0) (kk : SPW mi_Law_arePartsSo 219 24 [some (vR 0), some (vI (a1 + z)), some (vI a2), some (vI a3), some (vI a4), some (vI a5), some (vI w), some (vI z), some (vI 1), some (vI (w + z)), none, none, none, none, none, none] [] (st μ) R Mf) : SPW mi_Law_arePartsSo 219 207 [some (vR 0), some (vI a1), some (vI a2), some (vI a3), some (vI a4), some (vI a5), some (vI a6), some (vI a7), some (vI 1), some (vI w), some (vI z), some (vI b), some (vI (w + z)), none, none, none] [] (st μ) R Mf := by
  by_cases h1 : 16 ≤ z
  · refine r_iload dd_Law_arePartsSo_207 rfl ?_
    refine r_if_ge dd_Law_arePartsSo_209 (fun c_209 => ?_) (fun c_209 => ?_)
    · exfalso; omega
    · refine r_iload dd_Law_arePartsSo_212 rfl ?_
      refine r_if_eq dd_Law_arePartsSo_214 (fun c_214 => ?_) (fun c_214 => ?_)
      · exfalso; omega
      · refine r_iload dd_Law_arePartsSo_217 rfl ?_
        refine r_bip dd_Law_arePartsSo_219 ⟨by decide, by decide⟩ ?_
        refine r_icmp_ge dd_Law_arePartsSo_221 (fun c_221 => ?_) (fun c_221 => ?_)
        · refine r_iconst dd_Law_arePartsSo_251 ⟨by decide, by decide⟩ ?_
          refine r_goto dd_Law_arePartsSo_252 ?_
          refine r_istore (L' := [_, _, _, _, _, _, _, _, _, _, _, _, _, _, _, _]) dd_Law_arePartsSo_256 rfl rfl ?_
          refine r_iloadn dd_Law_arePartsSo_258 rfl ?_
          refine r_iload dd_Law_arePartsSo_259 rfl ?_
          refine r_iadd dd_Law_arePartsSo_261 ⟨by omega, by omega⟩ ?_
          refine r_istoren (L' := [_, _, _, _, _, _, _, _, _, _, _, _, _, _, _, _]) dd_Law_arePartsSo_262 rfl rfl ?_
          refine r_iload dd_Law_arePartsSo_263 rfl ?_
          refine r_istore (L' := [_, _, _, _, _, _, _, _, _, _, _, _, _, _, _, _]) dd_Law_arePartsSo_265 rfl rfl ?_
          refine r_iload dd_Law_arePartsSo_267 rfl ?_
          refine r_istore (L' := [_, _, _, _, _, _, _, _, _, _, _, _, _, _, _, _]) dd_Law_arePartsSo_269 rfl rfl ?_
          refine r_goto dd_Law_arePartsSo_271 ?_
          refine r_iload dd_Law_arePartsSo_478 rfl ?_
          refine r_iload dd_Law_arePartsSo_480 rfl ?_
          refine r_iadd dd_Law_arePartsSo_482 ⟨by omega, by omega⟩ ?_
          refine r_istore (L' := [_, _, _, _, _, _, _, _, _, _, _, _, _, _, _, _]) dd_Law_arePartsSo_483 rfl rfl ?_
          refine r_goto dd_Law_arePartsSo_485 ?_
          refine r_drop 10 ?_
          refine r_drop 11 ?_
          refine r_drop 12 ?_
          exact kk
        · exfalso; omega
  · by_cases h2 : a6 = w - z
    · by_cases h3 : a7 = z
      · obtain ⟨t1, t2⟩ := hT h2 h3 (by omega)
        refine r_iload dd_Law_arePartsSo_207 rfl ?_
        refine r_if_ge dd_Law_arePartsSo_209 (fun c_209 => ?_) (fun c_209 => ?_)
        · exfalso; omega
        · refine r_iload dd_Law_arePartsSo_212 rfl ?_
          refine r_if_eq dd_Law_arePartsSo_214 (fun c_214 => ?_) (fun c_214 => ?_)
          · exfalso; omega
          · refine r_iload dd_Law_arePartsSo_217 rfl ?_
            refine r_bip dd_Law_arePartsSo_219 ⟨by decide, by decide⟩ ?_
            refine r_icmp_ge dd_Law_arePartsSo_221 (fun c_221 => ?_) (fun c_221 => ?_)
            · exfalso; omega
            · refine r_iload dd_Law_arePartsSo_224 rfl ?_
              refine r_iload dd_Law_arePartsSo_226 rfl ?_
              refine r_iload dd_Law_arePartsSo_228 rfl ?_
              refine r_isub dd_Law_arePartsSo_230 ⟨by omega, by omega⟩ ?_
              refine r_icmp_ne dd_Law_arePartsSo_231 (fun c_231 => ?_) (fun c_231 => ?_)
              · exfalso; omega
              · refine r_iload dd_Law_arePartsSo_234 rfl ?_
                refine r_iload dd_Law_arePartsSo_236 rfl ?_
                refine r_icmp_ne dd_Law_arePartsSo_238 (fun c_238 => ?_) (fun c_238 => ?_)
                · exfalso; omega
                · refine r_iload dd_Law_arePartsSo_241 rfl ?_
                  refine r_iconst dd_Law_arePartsSo_243 ⟨by decide, by decide⟩ ?_
                  refine r_iload dd_Law_arePartsSo_244 rfl ?_
                  refine r_imul dd_Law_arePartsSo_246 ⟨by omega, by omega⟩ ?_
                  refine r_irem dd_Law_arePartsSo_247 t1 (by omega) ?_
                  refine r_if_eq dd_Law_arePartsSo_248 (fun c_248 => ?_) (fun c_248 => ?_)
                  · exfalso; omega
                  · refine r_iconst dd_Law_arePartsSo_251 ⟨by decide, by decide⟩ ?_
                    refine r_goto dd_Law_arePartsSo_252 ?_
                    refine r_istore (L' := [_, _, _, _, _, _, _, _, _, _, _, _, _, _, _, _]) dd_Law_arePartsSo_256 rfl rfl ?_
                    refine r_iloadn dd_Law_arePartsSo_258 rfl ?_
                    refine r_iload dd_Law_arePartsSo_259 rfl ?_
                    refine r_iadd dd_Law_arePartsSo_261 ⟨by omega, by omega⟩ ?_
                    refine r_istoren (L' := [_, _, _, _, _, _, _, _, _, _, _, _, _, _, _, _]) dd_Law_arePartsSo_262 rfl rfl ?_
                    refine r_iload dd_Law_arePartsSo_263 rfl ?_
                    refine r_istore (L' := [_, _, _, _, _, _, _, _, _, _, _, _, _, _, _, _]) dd_Law_arePartsSo_265 rfl rfl ?_
                    refine r_iload dd_Law_arePartsSo_267 rfl ?_
                    refine r_istore (L' := [_, _, _, _, _, _, _, _, _, _, _, _, _, _, _, _]) dd_Law_arePartsSo_269 rfl rfl ?_
                    refine r_goto dd_Law_arePartsSo_271 ?_
                    refine r_iload dd_Law_arePartsSo_478 rfl ?_
                    refine r_iload dd_Law_arePartsSo_480 rfl ?_
                    refine r_iadd dd_Law_arePartsSo_482 ⟨by omega, by omega⟩ ?_
                    refine r_istore (L' := [_, _, _, _, _, _, _, _, _, _, _, _, _, _, _, _]) dd_Law_arePartsSo_483 rfl rfl ?_
                    refine r_goto dd_Law_arePartsSo_485 ?_
                    refine r_drop 10 ?_
                    refine r_drop 11 ?_
                    refine r_drop 12 ?_
                    exact kk
      · refine r_iload dd_Law_arePartsSo_207 rfl ?_
        refine r_if_ge dd_Law_arePartsSo_209 (fun c_209 => ?_) (fun c_209 => ?_)
        · exfalso; omega
        · refine r_iload dd_Law_arePartsSo_212 rfl ?_
          refine r_if_eq dd_Law_arePartsSo_214 (fun c_214 => ?_) (fun c_214 => ?_)
          · exfalso; omega
          · refine r_iload dd_Law_arePartsSo_217 rfl ?_
            refine r_bip dd_Law_arePartsSo_219 ⟨by decide, by decide⟩ ?_
            refine r_icmp_ge dd_Law_arePartsSo_221 (fun c_221 => ?_) (fun c_221 => ?_)
            · exfalso; omega
            · refine r_iload dd_Law_arePartsSo_224 rfl ?_
              refine r_iload dd_Law_arePartsSo_226 rfl ?_
              refine r_iload dd_Law_arePartsSo_228 rfl ?_
              refine r_isub dd_Law_arePartsSo_230 ⟨by omega, by omega⟩ ?_
              refine r_icmp_ne dd_Law_arePartsSo_231 (fun c_231 => ?_) (fun c_231 => ?_)
              · exfalso; omega
              · refine r_iload dd_Law_arePartsSo_234 rfl ?_
                refine r_iload dd_Law_arePartsSo_236 rfl ?_
                refine r_icmp_ne dd_Law_arePartsSo_238 (fun c_238 => ?_) (fun c_238 => ?_)
                · refine r_iconst dd_Law_arePartsSo_251 ⟨by decide, by decide⟩ ?_
                  refine r_goto dd_Law_arePartsSo_252 ?_
                  refine r_istore (L' := [_, _, _, _, _, _, _, _, _, _, _, _, _, _, _, _]) dd_Law_arePartsSo_256 rfl rfl ?_
                  refine r_iloadn dd_Law_arePartsSo_258 rfl ?_
                  refine r_iload dd_Law_arePartsSo_259 rfl ?_
                  refine r_iadd dd_Law_arePartsSo_261 ⟨by omega, by omega⟩ ?_
                  refine r_istoren (L' := [_, _, _, _, _, _, _, _, _, _, _, _, _, _, _, _]) dd_Law_arePartsSo_262 rfl rfl ?_
                  refine r_iload dd_Law_arePartsSo_263 rfl ?_
                  refine r_istore (L' := [_, _, _, _, _, _, _, _, _, _, _, _, _, _, _, _]) dd_Law_arePartsSo_265 rfl rfl ?_
                  refine r_iload dd_Law_arePartsSo_267 rfl ?_
                  refine r_istore (L' := [_, _, _, _, _, _, _, _, _, _, _, _, _, _, _, _]) dd_Law_arePartsSo_269 rfl rfl ?_
                  refine r_goto dd_Law_arePartsSo_271 ?_
                  refine r_iload dd_Law_arePartsSo_478 rfl ?_
                  refine r_iload dd_Law_arePartsSo_480 rfl ?_
                  refine r_iadd dd_Law_arePartsSo_482 ⟨by omega, by omega⟩ ?_
                  refine r_istore (L' := [_, _, _, _, _, _, _, _, _, _, _, _, _, _, _, _]) dd_Law_arePartsSo_483 rfl rfl ?_
                  refine r_goto dd_Law_arePartsSo_485 ?_
                  refine r_drop 10 ?_
                  refine r_drop 11 ?_
                  refine r_drop 12 ?_
                  exact kk
                · exfalso; omega
    · refine r_iload dd_Law_arePartsSo_207 rfl ?_
      refine r_if_ge dd_Law_arePartsSo_209 (fun c_209 => ?_) (fun c_209 => ?_)
      · exfalso; omega
      · refine r_iload dd_Law_arePartsSo_212 rfl ?_
        refine r_if_eq dd_Law_arePartsSo_214 (fun c_214 => ?_) (fun c_214 => ?_)
        · exfalso; omega
        · refine r_iload dd_Law_arePartsSo_217 rfl ?_
          refine r_bip dd_Law_arePartsSo_219 ⟨by decide, by decide⟩ ?_
          refine r_icmp_ge dd_Law_arePartsSo_221 (fun c_221 => ?_) (fun c_221 => ?_)
          · exfalso; omega
          · refine r_iload dd_Law_arePartsSo_224 rfl ?_
            refine r_iload dd_Law_arePartsSo_226 rfl ?_
            refine r_iload dd_Law_arePartsSo_228 rfl ?_
            refine r_isub dd_Law_arePartsSo_230 ⟨by omega, by omega⟩ ?_
            refine r_icmp_ne dd_Law_arePartsSo_231 (fun c_231 => ?_) (fun c_231 => ?_)
            · refine r_iconst dd_Law_arePartsSo_251 ⟨by decide, by decide⟩ ?_
              refine r_goto dd_Law_arePartsSo_252 ?_
              refine r_istore (L' := [_, _, _, _, _, _, _, _, _, _, _, _, _, _, _, _]) dd_Law_arePartsSo_256 rfl rfl ?_
              refine r_iloadn dd_Law_arePartsSo_258 rfl ?_
              refine r_iload dd_Law_arePartsSo_259 rfl ?_
              refine r_iadd dd_Law_arePartsSo_261 ⟨by omega, by omega⟩ ?_
              refine r_istoren (L' := [_, _, _, _, _, _, _, _, _, _, _, _, _, _, _, _]) dd_Law_arePartsSo_262 rfl rfl ?_
              refine r_iload dd_Law_arePartsSo_263 rfl ?_
              refine r_istore (L' := [_, _, _, _, _, _, _, _, _, _, _, _, _, _, _, _]) dd_Law_arePartsSo_265 rfl rfl ?_
              refine r_iload dd_Law_arePartsSo_267 rfl ?_
              refine r_istore (L' := [_, _, _, _, _, _, _, _, _, _, _, _, _, _, _, _]) dd_Law_arePartsSo_269 rfl rfl ?_
              refine r_goto dd_Law_arePartsSo_271 ?_
              refine r_iload dd_Law_arePartsSo_478 rfl ?_
              refine r_iload dd_Law_arePartsSo_480 rfl ?_
              refine r_iadd dd_Law_arePartsSo_482 ⟨by omega, by omega⟩ ?_
              refine r_istore (L' := [_, _, _, _, _, _, _, _, _, _, _, _, _, _, _, _]) dd_Law_arePartsSo_483 rfl rfl ?_
              refine r_goto dd_Law_arePartsSo_485 ?_
              refine r_drop 10 ?_
              refine r_drop 11 ?_
              refine r_drop 12 ?_
              exact kk
            · exfalso; omega
theorem pt_s1 (hR : RI K μ m) (hv : ∀ k, 0 ≤ k → k < 64 → 0 ≤ m k) (w0 : 0 ≤ w) (w1 : w + z ≤ 64) (hb : 0 ≤ b) (ho : owd m w) (hbe : begOf m b = w) (ha1 : 1 ≤ m (320 + w)) (ha2 : m (320 + w) + 2 ≤ z) (kk : SPW mi_Law_arePartsSo 219 321 [some (vR 0), some (vI a1), some (vI a2), some (vI a3), some (vI a4), some (vI a5), some (vI a6), some (vI a7), some (vI 1), some (vI w), some (vI z), some (vI b), some (vI (m (320 + w))), some (vI (brkM m w)), none, none] [] (st μ) R Mf) : SPW mi_Law_arePartsSo 219 207 [some (vR 0), some (vI a1), some (vI a2), some (vI a3), some (vI a4), some (vI a5), some (vI a6), some (vI a7), some (vI 1), some (vI w), some (vI z), some (vI b), some (vI (w + z)), none, none, none] [] (st μ) R Mf := by
  have h3 := hR.2.2.2.2.1 w w0 (by omega) ho
  have v1 := hv w w0 (by omega)
  have v2 := hv (w + m (320 + w) + 1) (by omega) (by omega)
  have hq : brkM m w = b2 (m w ≠ 0) + b2 (m (w + m (320 + w) + 1) ≠ 0) := by
    unfold brkM
    rw [h3.2.2.1, h3.2.2.2]
  rw [hq] at kk
  clear h3 hq
  by_cases q1 : m w = 0
  · rw [b2_f (fun x => x q1)] at kk
    by_cases q2 : m (w + m (320 + w) + 1) = 0
    · rw [b2_f (fun x => x q2)] at kk
      refine r_iload dd_Law_arePartsSo_207 rfl ?_
      refine r_if_ge dd_Law_arePartsSo_209 (fun c_209 => ?_) (fun c_209 => ?_)
      · refine r_aloadn dd_Law_arePartsSo_274 rfl ?_
        refine r_iload dd_Law_arePartsSo_275 rfl ?_
        refine r_iconst dd_Law_arePartsSo_277 ⟨by decide, by decide⟩ ?_
        refine r_V2W dd_Law_arePartsSo_278 ml_Law_23 ok_Poo_block vi_Poo_block vk_0 (by decide) (clS rfl (Nat.le_refl _) (rmOK_self _ _)) rfl (c_bk3 hR w0 hbe) ?_
        refine r_istore (L' := [_, _, _, _, _, _, _, _, _, _, _, _, _, _, _, _]) dd_Law_arePartsSo_281 rfl rfl ?_
        refine r_aloadn dd_Law_arePartsSo_283 rfl ?_
        refine r_iload dd_Law_arePartsSo_284 rfl ?_
        refine r_iconst dd_Law_arePartsSo_286 ⟨by decide, by decide⟩ ?_
        refine r_V2W dd_Law_arePartsSo_287 ml_Law_20 ok_Poo_word vi_Poo_word vk_0 (by decide) (clS rfl (Nat.le_refl _) (rmOK_self _ _)) rfl (c_wd0 hR w0 (by omega)) ?_
        refine r_if_le dd_Law_arePartsSo_290 (fun c_290 => ?_) (fun c_290 => ?_)
        · refine r_iconst dd_Law_arePartsSo_297 ⟨by decide, by decide⟩ ?_
          refine r_aloadn dd_Law_arePartsSo_298 rfl ?_
          refine r_iload dd_Law_arePartsSo_299 rfl ?_
          refine r_iload dd_Law_arePartsSo_301 rfl ?_
          refine r_iadd dd_Law_arePartsSo_303 ⟨by omega, by omega⟩ ?_
          refine r_iconst dd_Law_arePartsSo_304 ⟨by decide, by decide⟩ ?_
          refine r_iadd dd_Law_arePartsSo_305 ⟨by omega, by omega⟩ ?_
          refine r_iconst dd_Law_arePartsSo_306 ⟨by decide, by decide⟩ ?_
          refine r_V2W dd_Law_arePartsSo_307 ml_Law_20 ok_Poo_word vi_Poo_word vk_0 (by decide) (clS rfl (Nat.le_refl _) (rmOK_self _ _)) rfl (c_wd0 hR (by omega) (by omega)) ?_
          refine r_if_le dd_Law_arePartsSo_310 (fun c_310 => ?_) (fun c_310 => ?_)
          · refine r_iconst dd_Law_arePartsSo_317 ⟨by decide, by decide⟩ ?_
            refine r_iadd dd_Law_arePartsSo_318 ⟨by omega, by omega⟩ ?_
            refine r_istore (L' := [_, _, _, _, _, _, _, _, _, _, _, _, _, _, _, _]) dd_Law_arePartsSo_319 rfl rfl ?_
            exact kk
          · exfalso; omega
        · exfalso; omega
      · exfalso; omega
    · rw [b2_t q2] at kk
      refine r_iload dd_Law_arePartsSo_207 rfl ?_
      refine r_if_ge dd_Law_arePartsSo_209 (fun c_209 => ?_) (fun c_209 => ?_)
      · refine r_aloadn dd_Law_arePartsSo_274 rfl ?_
        refine r_iload dd_Law_arePartsSo_275 rfl ?_
        refine r_iconst dd_Law_arePartsSo_277 ⟨by decide, by decide⟩ ?_
        refine r_V2W dd_Law_arePartsSo_278 ml_Law_23 ok_Poo_block vi_Poo_block vk_0 (by decide) (clS rfl (Nat.le_refl _) (rmOK_self _ _)) rfl (c_bk3 hR w0 hbe) ?_
        refine r_istore (L' := [_, _, _, _, _, _, _, _, _, _, _, _, _, _, _, _]) dd_Law_arePartsSo_281 rfl rfl ?_
        refine r_aloadn dd_Law_arePartsSo_283 rfl ?_
        refine r_iload dd_Law_arePartsSo_284 rfl ?_
        refine r_iconst dd_Law_arePartsSo_286 ⟨by decide, by decide⟩ ?_
        refine r_V2W dd_Law_arePartsSo_287 ml_Law_20 ok_Poo_word vi_Poo_word vk_0 (by decide) (clS rfl (Nat.le_refl _) (rmOK_self _ _)) rfl (c_wd0 hR w0 (by omega)) ?_
        refine r_if_le dd_Law_arePartsSo_290 (fun c_290 => ?_) (fun c_290 => ?_)
        · refine r_iconst dd_Law_arePartsSo_297 ⟨by decide, by decide⟩ ?_
          refine r_aloadn dd_Law_arePartsSo_298 rfl ?_
          refine r_iload dd_Law_arePartsSo_299 rfl ?_
          refine r_iload dd_Law_arePartsSo_301 rfl ?_
          refine r_iadd dd_Law_arePartsSo_303 ⟨by omega, by omega⟩ ?_
          refine r_iconst dd_Law_arePartsSo_304 ⟨by decide, by decide⟩ ?_
          refine r_iadd dd_Law_arePartsSo_305 ⟨by omega, by omega⟩ ?_
          refine r_iconst dd_Law_arePartsSo_306 ⟨by decide, by decide⟩ ?_
          refine r_V2W dd_Law_arePartsSo_307 ml_Law_20 ok_Poo_word vi_Poo_word vk_0 (by decide) (clS rfl (Nat.le_refl _) (rmOK_self _ _)) rfl (c_wd0 hR (by omega) (by omega)) ?_
          refine r_if_le dd_Law_arePartsSo_310 (fun c_310 => ?_) (fun c_310 => ?_)
          · exfalso; omega
          · refine r_iconst dd_Law_arePartsSo_313 ⟨by decide, by decide⟩ ?_
            refine r_goto dd_Law_arePartsSo_314 ?_
            refine r_iadd dd_Law_arePartsSo_318 ⟨by omega, by omega⟩ ?_
            refine r_istore (L' := [_, _, _, _, _, _, _, _, _, _, _, _, _, _, _, _]) dd_Law_arePartsSo_319 rfl rfl ?_
            exact kk
        · exfalso; omega
      · exfalso; omega
  · rw [b2_t q1] at kk
    by_cases q2 : m (w + m (320 + w) + 1) = 0
    · rw [b2_f (fun x => x q2)] at kk
      refine r_iload dd_Law_arePartsSo_207 rfl ?_
      refine r_if_ge dd_Law_arePartsSo_209 (fun c_209 => ?_) (fun c_209 => ?_)
      · refine r_aloadn dd_Law_arePartsSo_274 rfl ?_
        refine r_iload dd_Law_arePartsSo_275 rfl ?_
        refine r_iconst dd_Law_arePartsSo_277 ⟨by decide, by decide⟩ ?_
        refine r_V2W dd_Law_arePartsSo_278 ml_Law_23 ok_Poo_block vi_Poo_block vk_0 (by decide) (clS rfl (Nat.le_refl _) (rmOK_self _ _)) rfl (c_bk3 hR w0 hbe) ?_
        refine r_istore (L' := [_, _, _, _, _, _, _, _, _, _, _, _, _, _, _, _]) dd_Law_arePartsSo_281 rfl rfl ?_
        refine r_aloadn dd_Law_arePartsSo_283 rfl ?_
        refine r_iload dd_Law_arePartsSo_284 rfl ?_
        refine r_iconst dd_Law_arePartsSo_286 ⟨by decide, by decide⟩ ?_
        refine r_V2W dd_Law_arePartsSo_287 ml_Law_20 ok_Poo_word vi_Poo_word vk_0 (by decide) (clS rfl (Nat.le_refl _) (rmOK_self _ _)) rfl (c_wd0 hR w0 (by omega)) ?_
        refine r_if_le dd_Law_arePartsSo_290 (fun c_290 => ?_) (fun c_290 => ?_)
        · exfalso; omega
        · refine r_iconst dd_Law_arePartsSo_293 ⟨by decide, by decide⟩ ?_
          refine r_goto dd_Law_arePartsSo_294 ?_
          refine r_aloadn dd_Law_arePartsSo_298 rfl ?_
          refine r_iload dd_Law_arePartsSo_299 rfl ?_
          refine r_iload dd_Law_arePartsSo_301 rfl ?_
          refine r_iadd dd_Law_arePartsSo_303 ⟨by omega, by omega⟩ ?_
          refine r_iconst dd_Law_arePartsSo_304 ⟨by decide, by decide⟩ ?_
          refine r_iadd dd_Law_arePartsSo_305 ⟨by omega, by omega⟩ ?_
          refine r_iconst dd_Law_arePartsSo_306 ⟨by decide, by decide⟩ ?_
          refine r_V2W dd_Law_arePartsSo_307 ml_Law_20 ok_Poo_word vi_Poo_word vk_0 (by decide) (clS rfl (Nat.le_refl _) (rmOK_self _ _)) rfl (c_wd0 hR (by omega) (by omega)) ?_
          refine r_if_le dd_Law_arePartsSo_310 (fun c_310 => ?_) (fun c_310 => ?_)
          · refine r_iconst dd_Law_arePartsSo_317 ⟨by decide, by decide⟩ ?_
            refine r_iadd dd_Law_arePartsSo_318 ⟨by omega, by omega⟩ ?_
            refine r_istore (L' := [_, _, _, _, _, _, _, _, _, _, _, _, _, _, _, _]) dd_Law_arePartsSo_319 rfl rfl ?_
            exact kk
          · exfalso; omega
      · exfalso; omega
    · rw [b2_t q2] at kk
      refine r_iload dd_Law_arePartsSo_207 rfl ?_
      refine r_if_ge dd_Law_arePartsSo_209 (fun c_209 => ?_) (fun c_209 => ?_)
      · refine r_aloadn dd_Law_arePartsSo_274 rfl ?_
        refine r_iload dd_Law_arePartsSo_275 rfl ?_
        refine r_iconst dd_Law_arePartsSo_277 ⟨by decide, by decide⟩ ?_
        refine r_V2W dd_Law_arePartsSo_278 ml_Law_23 ok_Poo_block vi_Poo_block vk_0 (by decide) (clS rfl (Nat.le_refl _) (rmOK_self _ _)) rfl (c_bk3 hR w0 hbe) ?_
        refine r_istore (L' := [_, _, _, _, _, _, _, _, _, _, _, _, _, _, _, _]) dd_Law_arePartsSo_281 rfl rfl ?_
        refine r_aloadn dd_Law_arePartsSo_283 rfl ?_
        refine r_iload dd_Law_arePartsSo_284 rfl ?_
        refine r_iconst dd_Law_arePartsSo_286 ⟨by decide, by decide⟩ ?_
        refine r_V2W dd_Law_arePartsSo_287 ml_Law_20 ok_Poo_word vi_Poo_word vk_0 (by decide) (clS rfl (Nat.le_refl _) (rmOK_self _ _)) rfl (c_wd0 hR w0 (by omega)) ?_
        refine r_if_le dd_Law_arePartsSo_290 (fun c_290 => ?_) (fun c_290 => ?_)
        · exfalso; omega
        · refine r_iconst dd_Law_arePartsSo_293 ⟨by decide, by decide⟩ ?_
          refine r_goto dd_Law_arePartsSo_294 ?_
          refine r_aloadn dd_Law_arePartsSo_298 rfl ?_
          refine r_iload dd_Law_arePartsSo_299 rfl ?_
          refine r_iload dd_Law_arePartsSo_301 rfl ?_
          refine r_iadd dd_Law_arePartsSo_303 ⟨by omega, by omega⟩ ?_
          refine r_iconst dd_Law_arePartsSo_304 ⟨by decide, by decide⟩ ?_
          refine r_iadd dd_Law_arePartsSo_305 ⟨by omega, by omega⟩ ?_
          refine r_iconst dd_Law_arePartsSo_306 ⟨by decide, by decide⟩ ?_
          refine r_V2W dd_Law_arePartsSo_307 ml_Law_20 ok_Poo_word vi_Poo_word vk_0 (by decide) (clS rfl (Nat.le_refl _) (rmOK_self _ _)) rfl (c_wd0 hR (by omega) (by omega)) ?_
          refine r_if_le dd_Law_arePartsSo_310 (fun c_310 => ?_) (fun c_310 => ?_)
          · exfalso; omega
          · refine r_iconst dd_Law_arePartsSo_313 ⟨by decide, by decide⟩ ?_
            refine r_goto dd_Law_arePartsSo_314 ?_
            refine r_iadd dd_Law_arePartsSo_318 ⟨by omega, by omega⟩ ?_
            refine r_istore (L' := [_, _, _, _, _, _, _, _, _, _, _, _, _, _, _, _]) dd_Law_arePartsSo_319 rfl rfl ?_
            exact kk
      · exfalso; omega
theorem pt_s2 (kk : SPW mi_Law_arePartsSo 219 347 [some (vR 0), some (vI a1), some (vI a2), some (vI a3), some (vI a4), some (vI a5), some (vI a6), some (vI a7), some (vI 1), some (vI w), some (vI z), some (vI b), some (vI a), some (vI q), some (vI (szM a)), none] [] (st μ) R Mf) : SPW mi_Law_arePartsSo 219 321 [some (vR 0), some (vI a1), some (vI a2), some (vI a3), some (vI a4), some (vI a5), some (vI a6), some (vI a7), some (vI 1), some (vI w), some (vI z), some (vI b), some (vI a), some (vI q), none, none] [] (st μ) R Mf := by
  unfold szM at kk
  by_cases h1 : a ≤ 2
  · rw [if_pos h1] at kk
    refine r_iload dd_Law_arePartsSo_321 rfl ?_
    refine r_iconst dd_Law_arePartsSo_323 ⟨by decide, by decide⟩ ?_
    refine r_icmp_gt dd_Law_arePartsSo_324 (fun c_324 => ?_) (fun c_324 => ?_)
    · exfalso; omega
    · refine r_iconst dd_Law_arePartsSo_327 ⟨by decide, by decide⟩ ?_
      refine r_goto dd_Law_arePartsSo_328 ?_
      refine r_istore (L' := [_, _, _, _, _, _, _, _, _, _, _, _, _, _, _, _]) dd_Law_arePartsSo_345 rfl rfl ?_
      exact kk
  · rw [if_neg h1] at kk
    by_cases h2 : a ≤ 6
    · rw [if_pos h2] at kk
      refine r_iload dd_Law_arePartsSo_321 rfl ?_
      refine r_iconst dd_Law_arePartsSo_323 ⟨by decide, by decide⟩ ?_
      refine r_icmp_gt dd_Law_arePartsSo_324 (fun c_324 => ?_) (fun c_324 => ?_)
      · refine r_iload dd_Law_arePartsSo_331 rfl ?_
        refine r_bip dd_Law_arePartsSo_333 ⟨by decide, by decide⟩ ?_
        refine r_icmp_gt dd_Law_arePartsSo_335 (fun c_335 => ?_) (fun c_335 => ?_)
        · exfalso; omega
        · refine r_bip dd_Law_arePartsSo_338 ⟨by decide, by decide⟩ ?_
          refine r_goto dd_Law_arePartsSo_340 ?_
          refine r_istore (L' := [_, _, _, _, _, _, _, _, _, _, _, _, _, _, _, _]) dd_Law_arePartsSo_345 rfl rfl ?_
          exact kk
      · exfalso; omega
    · rw [if_neg h2] at kk
      refine r_iload dd_Law_arePartsSo_321 rfl ?_
      refine r_iconst dd_Law_arePartsSo_323 ⟨by decide, by decide⟩ ?_
      refine r_icmp_gt dd_Law_arePartsSo_324 (fun c_324 => ?_) (fun c_324 => ?_)
      · refine r_iload dd_Law_arePartsSo_331 rfl ?_
        refine r_bip dd_Law_arePartsSo_333 ⟨by decide, by decide⟩ ?_
        refine r_icmp_gt dd_Law_arePartsSo_335 (fun c_335 => ?_) (fun c_335 => ?_)
        · refine r_bip dd_Law_arePartsSo_343 ⟨by decide, by decide⟩ ?_
          refine r_istore (L' := [_, _, _, _, _, _, _, _, _, _, _, _, _, _, _, _]) dd_Law_arePartsSo_345 rfl rfl ?_
          exact kk
        · exfalso; omega
      · exfalso; omega
theorem pt_s3 (hR : RI K μ m) (w0 : 0 ≤ w) (w1 : w < 64) (ho : owd m w) (hbe : begOf m b = w) (kk : SPW mi_Law_arePartsSo 219 385 [some (vR 0), some (vI a1), some (vI a2), some (vI a3), some (vI a4), some (vI a5), some (vI a6), some (vI a7), some (vI 1), some (vI w), some (vI z), some (vI b), some (vI a), some (vI q), some (vI d), some (vI (b2 (lkM m w)))] [] (st μ) R Mf) : SPW mi_Law_arePartsSo 219 347 [some (vR 0), some (vI a1), some (vI a2), some (vI a3), some (vI a4), some (vI a5), some (vI a6), some (vI a7), some (vI 1), some (vI w), some (vI z), some (vI b), some (vI a), some (vI q), some (vI d), none] [] (st μ) R Mf := by
  have g := hR.2.1.1 w w0 w1
  have gt := (hR.2.1.2.1 (m (256 + w)) (by omega) (by omega)).1
  by_cases h1 : m (448 + m (256 + w)) = 1
  · rw [b2_t (show lkM m w from ⟨ho, Or.inl h1⟩)] at kk
    refine r_aloadn dd_Law_arePartsSo_347 rfl ?_
    refine r_aloadn dd_Law_arePartsSo_348 rfl ?_
    refine r_iload dd_Law_arePartsSo_349 rfl ?_
    refine r_iconst dd_Law_arePartsSo_351 ⟨by decide, by decide⟩ ?_
    refine r_V2W dd_Law_arePartsSo_352 ml_Law_23 ok_Poo_block vi_Poo_block vk_0 (by decide) (clS rfl (Nat.le_refl _) (rmOK_self _ _)) rfl (c_bk2 hR w0 hbe) ?_
    refine r_iconst dd_Law_arePartsSo_355 ⟨by decide, by decide⟩ ?_
    refine r_V2W dd_Law_arePartsSo_356 ml_Law_60 ok_Poo_task vi_Poo_task vk_0 (by decide) (clS rfl (Nat.le_refl _) (rmOK_self _ _)) rfl (c_tk0 hR (by omega) (by omega)) ?_
    refine r_if_eq dd_Law_arePartsSo_359 (fun c_359 => ?_) (fun c_359 => ?_)
    · refine r_iconst dd_Law_arePartsSo_378 ⟨by decide, by decide⟩ ?_
      refine r_goto dd_Law_arePartsSo_379 ?_
      refine r_istore (L' := [_, _, _, _, _, _, _, _, _, _, _, _, _, _, _, _]) dd_Law_arePartsSo_383 rfl rfl ?_
      exact kk
    · exfalso; omega
  · by_cases h2 : m 467 ≤ m 466 - m (384 + w)
    · rw [b2_t (show lkM m w from ⟨ho, Or.inr h2⟩)] at kk
      refine r_aloadn dd_Law_arePartsSo_347 rfl ?_
      refine r_aloadn dd_Law_arePartsSo_348 rfl ?_
      refine r_iload dd_Law_arePartsSo_349 rfl ?_
      refine r_iconst dd_Law_arePartsSo_351 ⟨by decide, by decide⟩ ?_
      refine r_V2W dd_Law_arePartsSo_352 ml_Law_23 ok_Poo_block vi_Poo_block vk_0 (by decide) (clS rfl (Nat.le_refl _) (rmOK_self _ _)) rfl (c_bk2 hR w0 hbe) ?_
      refine r_iconst dd_Law_arePartsSo_355 ⟨by decide, by decide⟩ ?_
      refine r_V2W dd_Law_arePartsSo_356 ml_Law_60 ok_Poo_task vi_Poo_task vk_0 (by decide) (clS rfl (Nat.le_refl _) (rmOK_self _ _)) rfl (c_tk0 hR (by omega) (by omega)) ?_
      refine r_if_eq dd_Law_arePartsSo_359 (fun c_359 => ?_) (fun c_359 => ?_)
      · exfalso; omega
      · refine r_aloadn dd_Law_arePartsSo_362 rfl ?_
        refine r_iload dd_Law_arePartsSo_363 rfl ?_
        refine r_iconst dd_Law_arePartsSo_365 ⟨by decide, by decide⟩ ?_
        refine r_V2W dd_Law_arePartsSo_366 ml_Law_23 ok_Poo_block vi_Poo_block vk_0 (by decide) (clS rfl (Nat.le_refl _) (rmOK_self _ _)) rfl (c_bk5 hR w0 hbe) ?_
        refine r_aloadn dd_Law_arePartsSo_369 rfl ?_
        refine r_bip dd_Law_arePartsSo_370 ⟨by decide, by decide⟩ ?_
        refine r_V1W dd_Law_arePartsSo_372 ml_Law_8 ok_Poo_count vi_Poo_count vk_0 (by decide) (clS rfl (Nat.le_refl _) (rmOK_self _ _)) rfl (c_cnt9 hR) ?_
        refine r_icmp_lt dd_Law_arePartsSo_375 (fun c_375 => ?_) (fun c_375 => ?_)
        · exfalso; omega
        · refine r_iconst dd_Law_arePartsSo_378 ⟨by decide, by decide⟩ ?_
          refine r_goto dd_Law_arePartsSo_379 ?_
          refine r_istore (L' := [_, _, _, _, _, _, _, _, _, _, _, _, _, _, _, _]) dd_Law_arePartsSo_383 rfl rfl ?_
          exact kk
    · rw [b2_f (show ¬ lkM m w from fun x => by rcases x.2 with y | y; exact h1 y; exact h2 y)] at kk
      refine r_aloadn dd_Law_arePartsSo_347 rfl ?_
      refine r_aloadn dd_Law_arePartsSo_348 rfl ?_
      refine r_iload dd_Law_arePartsSo_349 rfl ?_
      refine r_iconst dd_Law_arePartsSo_351 ⟨by decide, by decide⟩ ?_
      refine r_V2W dd_Law_arePartsSo_352 ml_Law_23 ok_Poo_block vi_Poo_block vk_0 (by decide) (clS rfl (Nat.le_refl _) (rmOK_self _ _)) rfl (c_bk2 hR w0 hbe) ?_
      refine r_iconst dd_Law_arePartsSo_355 ⟨by decide, by decide⟩ ?_
      refine r_V2W dd_Law_arePartsSo_356 ml_Law_60 ok_Poo_task vi_Poo_task vk_0 (by decide) (clS rfl (Nat.le_refl _) (rmOK_self _ _)) rfl (c_tk0 hR (by omega) (by omega)) ?_
      refine r_if_eq dd_Law_arePartsSo_359 (fun c_359 => ?_) (fun c_359 => ?_)
      · exfalso; omega
      · refine r_aloadn dd_Law_arePartsSo_362 rfl ?_
        refine r_iload dd_Law_arePartsSo_363 rfl ?_
        refine r_iconst dd_Law_arePartsSo_365 ⟨by decide, by decide⟩ ?_
        refine r_V2W dd_Law_arePartsSo_366 ml_Law_23 ok_Poo_block vi_Poo_block vk_0 (by decide) (clS rfl (Nat.le_refl _) (rmOK_self _ _)) rfl (c_bk5 hR w0 hbe) ?_
        refine r_aloadn dd_Law_arePartsSo_369 rfl ?_
        refine r_bip dd_Law_arePartsSo_370 ⟨by decide, by decide⟩ ?_
        refine r_V1W dd_Law_arePartsSo_372 ml_Law_8 ok_Poo_count vi_Poo_count vk_0 (by decide) (clS rfl (Nat.le_refl _) (rmOK_self _ _)) rfl (c_cnt9 hR) ?_
        refine r_icmp_lt dd_Law_arePartsSo_375 (fun c_375 => ?_) (fun c_375 => ?_)
        · refine r_iconst dd_Law_arePartsSo_382 ⟨by decide, by decide⟩ ?_
          refine r_istore (L' := [_, _, _, _, _, _, _, _, _, _, _, _, _, _, _, _]) dd_Law_arePartsSo_383 rfl rfl ?_
          exact kk
        · exfalso; omega
theorem pt_s4 (hR : RI K μ m) (w0 : 0 ≤ w) (hbe : begOf m b = w) (hd : z = d) (hq : brkM m w = q) (hl : b2 (lkM m w) = l) (kk : SPW mi_Law_arePartsSo 219 450 [some (vR 0), some (vI a1), some (vI a2), some (vI a3), some (vI a4), some (vI a5), some (vI a6), some (vI a7), some (vI 1), some (vI w), some (vI z), some (vI b), some (vI a), some (vI q), some (vI d), some (vI l)] [] (st μ) R Mf) : SPW mi_Law_arePartsSo 219 385 [some (vR 0), some (vI a1), some (vI a2), some (vI a3), some (vI a4), some (vI a5), some (vI a6), some (vI a7), some (vI 1), some (vI w), some (vI z), some (vI b), some (vI a), some (vI q), some (vI d), some (vI l)] [] (st μ) R Mf := by
  have e6 := c_bk6 hR w0 hbe
  rw [hl] at e6
  have hl01 : l = 0 ∨ l = 1 := by rw [← hl]; exact b2_01
  rcases hl01 with rfl | rfl
  · refine r_iload dd_Law_arePartsSo_385 rfl ?_
    refine r_if_eq dd_Law_arePartsSo_387 (fun c_387 => ?_) (fun c_387 => ?_)
    · exfalso; omega
    · refine r_iload dd_Law_arePartsSo_390 rfl ?_
      refine r_iload dd_Law_arePartsSo_392 rfl ?_
      refine r_icmp_ne dd_Law_arePartsSo_394 (fun c_394 => ?_) (fun c_394 => ?_)
      · exfalso; omega
      · refine r_aloadn dd_Law_arePartsSo_397 rfl ?_
        refine r_iload dd_Law_arePartsSo_398 rfl ?_
        refine r_iconst dd_Law_arePartsSo_400 ⟨by decide, by decide⟩ ?_
        refine r_V2W dd_Law_arePartsSo_401 ml_Law_23 ok_Poo_block vi_Poo_block vk_0 (by decide) (clS rfl (Nat.le_refl _) (rmOK_self _ _)) rfl (c_bk0 hR w0 hbe) ?_
        refine r_iload dd_Law_arePartsSo_404 rfl ?_
        refine r_icmp_ne dd_Law_arePartsSo_406 (fun c_406 => ?_) (fun c_406 => ?_)
        · exfalso; omega
        · refine r_aloadn dd_Law_arePartsSo_409 rfl ?_
          refine r_iload dd_Law_arePartsSo_410 rfl ?_
          refine r_iconst dd_Law_arePartsSo_412 ⟨by decide, by decide⟩ ?_
          refine r_V2W dd_Law_arePartsSo_413 ml_Law_23 ok_Poo_block vi_Poo_block vk_0 (by decide) (clS rfl (Nat.le_refl _) (rmOK_self _ _)) rfl (c_bk4 hR w0 hbe) ?_
          refine r_iload dd_Law_arePartsSo_416 rfl ?_
          refine r_icmp_ne dd_Law_arePartsSo_418 (fun c_418 => ?_) (fun c_418 => ?_)
          · exfalso; omega
          · refine r_aloadn dd_Law_arePartsSo_421 rfl ?_
            refine r_iload dd_Law_arePartsSo_422 rfl ?_
            refine r_bip dd_Law_arePartsSo_424 ⟨by decide, by decide⟩ ?_
            refine r_V2W dd_Law_arePartsSo_426 ml_Law_23 ok_Poo_block vi_Poo_block vk_0 (by decide) (clS rfl (Nat.le_refl _) (rmOK_self _ _)) rfl e6 ?_
            refine r_iconst dd_Law_arePartsSo_429 ⟨by decide, by decide⟩ ?_
            refine r_icmp_ne dd_Law_arePartsSo_430 (fun c_430 => ?_) (fun c_430 => ?_)
            · refine r_iconst dd_Law_arePartsSo_437 ⟨by decide, by decide⟩ ?_
              refine r_iload dd_Law_arePartsSo_438 rfl ?_
              refine r_icmp_ne dd_Law_arePartsSo_440 (fun c_440 => ?_) (fun c_440 => ?_)
              · exfalso; omega
              · refine r_iconst dd_Law_arePartsSo_443 ⟨by decide, by decide⟩ ?_
                refine r_goto dd_Law_arePartsSo_444 ?_
                refine r_istore (L' := [_, _, _, _, _, _, _, _, _, _, _, _, _, _, _, _]) dd_Law_arePartsSo_448 rfl rfl ?_
                exact kk
            · exfalso; omega
  · refine r_iload dd_Law_arePartsSo_385 rfl ?_
    refine r_if_eq dd_Law_arePartsSo_387 (fun c_387 => ?_) (fun c_387 => ?_)
    · exfalso; omega
    · refine r_iload dd_Law_arePartsSo_390 rfl ?_
      refine r_iload dd_Law_arePartsSo_392 rfl ?_
      refine r_icmp_ne dd_Law_arePartsSo_394 (fun c_394 => ?_) (fun c_394 => ?_)
      · exfalso; omega
      · refine r_aloadn dd_Law_arePartsSo_397 rfl ?_
        refine r_iload dd_Law_arePartsSo_398 rfl ?_
        refine r_iconst dd_Law_arePartsSo_400 ⟨by decide, by decide⟩ ?_
        refine r_V2W dd_Law_arePartsSo_401 ml_Law_23 ok_Poo_block vi_Poo_block vk_0 (by decide) (clS rfl (Nat.le_refl _) (rmOK_self _ _)) rfl (c_bk0 hR w0 hbe) ?_
        refine r_iload dd_Law_arePartsSo_404 rfl ?_
        refine r_icmp_ne dd_Law_arePartsSo_406 (fun c_406 => ?_) (fun c_406 => ?_)
        · exfalso; omega
        · refine r_aloadn dd_Law_arePartsSo_409 rfl ?_
          refine r_iload dd_Law_arePartsSo_410 rfl ?_
          refine r_iconst dd_Law_arePartsSo_412 ⟨by decide, by decide⟩ ?_
          refine r_V2W dd_Law_arePartsSo_413 ml_Law_23 ok_Poo_block vi_Poo_block vk_0 (by decide) (clS rfl (Nat.le_refl _) (rmOK_self _ _)) rfl (c_bk4 hR w0 hbe) ?_
          refine r_iload dd_Law_arePartsSo_416 rfl ?_
          refine r_icmp_ne dd_Law_arePartsSo_418 (fun c_418 => ?_) (fun c_418 => ?_)
          · exfalso; omega
          · refine r_aloadn dd_Law_arePartsSo_421 rfl ?_
            refine r_iload dd_Law_arePartsSo_422 rfl ?_
            refine r_bip dd_Law_arePartsSo_424 ⟨by decide, by decide⟩ ?_
            refine r_V2W dd_Law_arePartsSo_426 ml_Law_23 ok_Poo_block vi_Poo_block vk_0 (by decide) (clS rfl (Nat.le_refl _) (rmOK_self _ _)) rfl e6 ?_
            refine r_iconst dd_Law_arePartsSo_429 ⟨by decide, by decide⟩ ?_
            refine r_icmp_ne dd_Law_arePartsSo_430 (fun c_430 => ?_) (fun c_430 => ?_)
            · exfalso; omega
            · refine r_iconst dd_Law_arePartsSo_433 ⟨by decide, by decide⟩ ?_
              refine r_goto dd_Law_arePartsSo_434 ?_
              refine r_iload dd_Law_arePartsSo_438 rfl ?_
              refine r_icmp_ne dd_Law_arePartsSo_440 (fun c_440 => ?_) (fun c_440 => ?_)
              · exfalso; omega
              · refine r_iconst dd_Law_arePartsSo_443 ⟨by decide, by decide⟩ ?_
                refine r_goto dd_Law_arePartsSo_444 ?_
                refine r_istore (L' := [_, _, _, _, _, _, _, _, _, _, _, _, _, _, _, _]) dd_Law_arePartsSo_448 rfl rfl ?_
                exact kk
theorem pt_s5 (hz : z = 4 ∨ z = 8 ∨ z = 16) (w0 : 0 ≤ w) (w1 : w + z ≤ 64) (ha1 : 1 ≤ a) (ha2 : a + 2 ≤ z) (hl : l = 0 ∨ l = 1) (h3 : 0 ≤ a3 ∧ a3 ≤ 64) (h4 : 0 ≤ a4 ∧ a4 ≤ 2000) (h5 : 0 ≤ a5 ∧ a5 ≤ 64) (kk : SPW mi_Law_arePartsSo 219 24 [some (vR 0), some (vI a1), some (vI a2), some (vI (a3 + 1)), some (vI (a4 + (z - a))), some (vI (a5 + l)), some (vI a6), some (vI a7), some (vI 1), some (vI (w + z)), none, none, none, none, none, none] [] (st μ) R Mf) : SPW mi_Law_arePartsSo 219 450 [some (vR 0), some (vI a1), some (vI a2), some (vI a3), some (vI a4), some (vI a5), some (vI a6), some (vI a7), some (vI 1), some (vI w), some (vI z), some (vI b), some (vI a), some (vI q), some (vI d), some (vI l)] [] (st μ) R Mf := by
  rcases hl with rfl | rfl
  · refine r_iinc (L' := [_, _, _, _, _, _, _, _, _, _, _, _, _, _, _, _]) dd_Law_arePartsSo_450 rfl ⟨by omega, by omega⟩ rfl ?_
    refine r_iload dd_Law_arePartsSo_453 rfl ?_
    refine r_iload dd_Law_arePartsSo_455 rfl ?_
    refine r_iload dd_Law_arePartsSo_457 rfl ?_
    refine r_isub dd_Law_arePartsSo_459 ⟨by omega, by omega⟩ ?_
    refine r_iadd dd_Law_arePartsSo_460 ⟨by omega, by omega⟩ ?_
    refine r_istore (L' := [_, _, _, _, _, _, _, _, _, _, _, _, _, _, _, _]) dd_Law_arePartsSo_461 rfl rfl ?_
    refine r_iload dd_Law_arePartsSo_463 rfl ?_
    refine r_iload dd_Law_arePartsSo_465 rfl ?_
    refine r_if_eq dd_Law_arePartsSo_467 (fun c_467 => ?_) (fun c_467 => ?_)
    · refine r_iconst dd_Law_arePartsSo_474 ⟨by decide, by decide⟩ ?_
      refine r_iadd dd_Law_arePartsSo_475 ⟨by omega, by omega⟩ ?_
      refine r_istore (L' := [_, _, _, _, _, _, _, _, _, _, _, _, _, _, _, _]) dd_Law_arePartsSo_476 rfl rfl ?_
      refine r_iload dd_Law_arePartsSo_478 rfl ?_
      refine r_iload dd_Law_arePartsSo_480 rfl ?_
      refine r_iadd dd_Law_arePartsSo_482 ⟨by omega, by omega⟩ ?_
      refine r_istore (L' := [_, _, _, _, _, _, _, _, _, _, _, _, _, _, _, _]) dd_Law_arePartsSo_483 rfl rfl ?_
      refine r_goto dd_Law_arePartsSo_485 ?_
      refine r_drop 10 ?_
      refine r_drop 11 ?_
      refine r_drop 12 ?_
      refine r_drop 13 ?_
      refine r_drop 14 ?_
      refine r_drop 15 ?_
      exact kk
    · exfalso; omega
  · refine r_iinc (L' := [_, _, _, _, _, _, _, _, _, _, _, _, _, _, _, _]) dd_Law_arePartsSo_450 rfl ⟨by omega, by omega⟩ rfl ?_
    refine r_iload dd_Law_arePartsSo_453 rfl ?_
    refine r_iload dd_Law_arePartsSo_455 rfl ?_
    refine r_iload dd_Law_arePartsSo_457 rfl ?_
    refine r_isub dd_Law_arePartsSo_459 ⟨by omega, by omega⟩ ?_
    refine r_iadd dd_Law_arePartsSo_460 ⟨by omega, by omega⟩ ?_
    refine r_istore (L' := [_, _, _, _, _, _, _, _, _, _, _, _, _, _, _, _]) dd_Law_arePartsSo_461 rfl rfl ?_
    refine r_iload dd_Law_arePartsSo_463 rfl ?_
    refine r_iload dd_Law_arePartsSo_465 rfl ?_
    refine r_if_eq dd_Law_arePartsSo_467 (fun c_467 => ?_) (fun c_467 => ?_)
    · exfalso; omega
    · refine r_iconst dd_Law_arePartsSo_470 ⟨by decide, by decide⟩ ?_
      refine r_goto dd_Law_arePartsSo_471 ?_
      refine r_iadd dd_Law_arePartsSo_475 ⟨by omega, by omega⟩ ?_
      refine r_istore (L' := [_, _, _, _, _, _, _, _, _, _, _, _, _, _, _, _]) dd_Law_arePartsSo_476 rfl rfl ?_
      refine r_iload dd_Law_arePartsSo_478 rfl ?_
      refine r_iload dd_Law_arePartsSo_480 rfl ?_
      refine r_iadd dd_Law_arePartsSo_482 ⟨by omega, by omega⟩ ?_
      refine r_istore (L' := [_, _, _, _, _, _, _, _, _, _, _, _, _, _, _, _]) dd_Law_arePartsSo_483 rfl rfl ?_
      refine r_goto dd_Law_arePartsSo_485 ?_
      refine r_drop 10 ?_
      refine r_drop 11 ?_
      refine r_drop 12 ?_
      refine r_drop 13 ?_
      refine r_drop 14 ?_
      refine r_drop 15 ?_
      exact kk
theorem l_parts (hR : RI K μ m) (hE : EX m) : ∀ (n : Nat) (w a1 a2 a3 a4 a5 a6 a7 : Int), w + n = 64 → 0 ≤ w → (w < 64 → m (128 + w) ≠ 0) → (0 ≤ a1 ∧ a1 ≤ 16 * w) → (0 ≤ a2 ∧ a2 ≤ w) → (0 ≤ a3 ∧ a3 ≤ w) → (0 ≤ a4 ∧ a4 ≤ 16 * w) → (0 ≤ a5 ∧ a5 ≤ w) → (a6 = -1 ∨ (0 ≤ a6 ∧ fre m a6 ∧ m (128 + a6) = a7)) → a1 + sumF n w (fun w => if fre m w then m (128 + w) else 0) = frwM m → a2 + sumF n w (fun w => if m (128 + w) = 0 then 0 else 1) = nbM m → a3 + sumF n w (fun w => if owd m w then 1 else 0) = owsM m → a4 + sumF n w (fun w => if owd m w then m (128 + w) - m (320 + w) else 0) = 64 - frwM m - askdM m 6 → a5 + sumF n w (fun w => if lkM m w ∧ ((6 : Int) = 6 ∨ m (256 + w) = 6) then 1 else 0) = lksM m 6 → SPW mi_Law_arePartsSo 219 24 [some (vR 0), some (vI a1), some (vI a2), some (vI a3), some (vI a4), some (vI a5), some (vI a6), some (vI a7), some (vI 1), some (vI w), none, none, none, none, none, none] [] (st μ) (some (vI 1)) (st μ) := by
  intro n
  induction n using Nat.strongRecOn with
  | ind n ih =>
    intro w a1 a2 a3 a4 a5 a6 a7 hn w0 hz u1 u2 u3 u4 u5 hl s1 s2 s3 s4 s5
    by_cases hw : w < 64
    · have hB := BK_of hR hE.1 w0 hw (hz hw)
      obtain ⟨-, g1, g2, -, -, g5, g6⟩ := id hB
      have hal := ML.al hR.2.1 hR.2.2 w0 hw (hz hw)
      have hnx := bgn_nx hR.2.1 hR.2.2 w0 hw (hz hw)
      have h0 : ∀ k, w < k → k < w + m (128 + w) → m (128 + k) = 0 := fun k x y => (bgn_in hR.2.1 hR.2.2 w0 hw (by omega) y).2 (by omega)
      have n0 : m (128 + w) ≤ (n : Int) := by omega
      have nz : ∀ k, w < k → k < w + m (128 + w) → ¬ fre m k ∧ ¬ owd m k ∧ ¬ lkM m k := fun k x y => by
        have e := h0 k x y
        have e1 : ¬ owd m k := fun q => by have := q.1; omega
        exact ⟨fun q => by have := q.1; omega, e1, fun q => e1 q.1⟩
      rw [sumF_bk (z := m (128 + w)) (by omega) n0 (fun k x y => if_neg (nz k x y).1)] at s1
      rw [sumF_bk (z := m (128 + w)) (by omega) n0 (fun k x y => if_pos (h0 k x y))] at s2
      rw [sumF_bk (z := m (128 + w)) (by omega) n0 (fun k x y => if_neg (nz k x y).2.1)] at s3
      rw [sumF_bk (z := m (128 + w)) (by omega) n0 (fun k x y => if_neg (nz k x y).2.1)] at s4
      rw [sumF_bk (z := m (128 + w)) (by omega) n0 (fun k x y => if_neg (fun q => (nz k x y).2.2 q.1))] at s5
      rw [if_neg (hz hw)] at s2
      have hih := ih (n - (m (128 + w)).toNat) (by omega) (w + m (128 + w))
      refine pt_0 hR hB hal (by omega) (l_in hR hB ?_ (m (128 + w)).toNat w (by omega) (Int.le_refl _))
      rcases g6 with ⟨hb5, hf, -⟩ | ⟨hb0, ho, hbe, ha1, ha2⟩
      · rw [if_pos hf] at s1
        have no : ¬ owd m w := fun q => q.2 hf.2
        rw [if_neg no] at s3 s4
        rw [if_neg (fun q => no q.1.1)] at s5
        refine pt_free g2 w0 g1 hb5 (by omega) (fun x y _ => ?_) (hih _ _ _ _ _ _ _ (by omega) (by omega) (by omega) (by omega) (by omega) (by omega) (by omega) (by omega) (Or.inr ⟨w0, hf, rfl⟩) (by omega) (by omega) (by omega) (by omega) (by omega))
        rcases hl with e | ⟨l0, l1, l2⟩
        · exfalso
          rcases g2 with e2 | e2 | e2 <;> rw [e2] at x hal <;> omega
        · refine ⟨l0, fun q => ?_⟩
          have ew : a6 + m (128 + w) = w := by omega
          refine hE.2.1.no (z := m (128 + w)) (by omega) l0 (by omega) q ⟨l1, l2.trans y, ?_, ?_⟩
          · rw [ew]; exact hf
          · rw [ew]
      · have nf : ¬ fre m w := fun q => ho.2 q.2
        rw [if_neg nf] at s1
        rw [if_pos ho] at s3 s4
        have hb01 : b2 (lkM m w) = 0 ∨ b2 (lkM m w) = 1 := b2_01
        have e5 : (if lkM m w ∧ ((6 : Int) = 6 ∨ m (256 + w) = 6) then (1 : Int) else 0) = b2 (lkM m w) := by
          by_cases q : lkM m w
          · rw [if_pos ⟨q, Or.inl rfl⟩, b2_t q]
          · rw [if_neg (fun x => q x.1), b2_f q]
        rw [e5] at s5
        have hdue := (hE.1.2.1 w w0 hw ho).2.2
        refine pt_s1 hR hE.1.1 w0 g1 hb0 ho hbe ha1 ha2 (pt_s2 (pt_s3 hR w0 hw ho hbe (pt_s4 hR w0 hbe hdue rfl rfl (pt_s5 g2 w0 g1 ha1 ha2 hb01 (by omega) (by omega) (by omega) ?_))))
        exact hih _ _ _ _ _ _ _ (by omega) (by omega) (by omega) (by omega) (by omega) (by omega) (by omega) (by omega) hl (by omega) (by omega) (by omega) (by omega) (by omega)
    · have en : n = 0 := by omega
      subst en
      rw [sumF_0] at s1 s2 s3 s4 s5
      have hj := hE.2.2
      unfold SJ at hj
      have k1 := hR.2.1.2.2.2.2.1
      have k2 := hR.2.1.2.2.2.2.2.1
      have k3 := hR.2.1.2.2.2.2.2.2.2.2.1
      refine r_iload dd_Law_arePartsSo_24 rfl ?_
      refine r_bip dd_Law_arePartsSo_26 ⟨by decide, by decide⟩ ?_
      refine r_icmp_ge dd_Law_arePartsSo_28 (fun c_28 => ?_) (fun c_28 => ?_)
      · refine r_iload dd_Law_arePartsSo_488 rfl ?_
        refine r_if_eq dd_Law_arePartsSo_490 (fun c_490 => ?_) (fun c_490 => ?_)
        · exfalso; omega
        · refine r_iloadn dd_Law_arePartsSo_493 rfl ?_
          refine r_aloadn dd_Law_arePartsSo_494 rfl ?_
          refine r_iconst dd_Law_arePartsSo_495 ⟨by decide, by decide⟩ ?_
          refine r_V1W dd_Law_arePartsSo_496 ml_Law_8 ok_Poo_count vi_Poo_count vk_0 (by decide) (clS rfl (Nat.le_refl _) (rmOK_self _ _)) rfl (c_cnt1 hR) ?_
          refine r_icmp_ne dd_Law_arePartsSo_499 (fun c_499 => ?_) (fun c_499 => ?_)
          · exfalso; omega
          · refine r_iloadn dd_Law_arePartsSo_502 rfl ?_
            refine r_aloadn dd_Law_arePartsSo_503 rfl ?_
            refine r_iconst dd_Law_arePartsSo_504 ⟨by decide, by decide⟩ ?_
            refine r_V1W dd_Law_arePartsSo_505 ml_Law_8 ok_Poo_count vi_Poo_count vk_0 (by decide) (clS rfl (Nat.le_refl _) (rmOK_self _ _)) rfl (c_cnt0 hR) ?_
            refine r_icmp_ne dd_Law_arePartsSo_508 (fun c_508 => ?_) (fun c_508 => ?_)
            · exfalso; omega
            · refine r_iload dd_Law_arePartsSo_511 rfl ?_
              refine r_aloadn dd_Law_arePartsSo_513 rfl ?_
              refine r_iconst dd_Law_arePartsSo_514 ⟨by decide, by decide⟩ ?_
              refine r_V1W dd_Law_arePartsSo_515 ml_Law_8 ok_Poo_count vi_Poo_count vk_0 (by decide) (clS rfl (Nat.le_refl _) (rmOK_self _ _)) rfl (c_cnt2 hR) ?_
              refine r_icmp_ne dd_Law_arePartsSo_518 (fun c_518 => ?_) (fun c_518 => ?_)
              · exfalso; omega
              · refine r_iload dd_Law_arePartsSo_521 rfl ?_
                refine r_aloadn dd_Law_arePartsSo_523 rfl ?_
                refine r_iconst dd_Law_arePartsSo_524 ⟨by decide, by decide⟩ ?_
                refine r_V1W dd_Law_arePartsSo_525 ml_Law_8 ok_Poo_count vi_Poo_count vk_0 (by decide) (clS rfl (Nat.le_refl _) (rmOK_self _ _)) rfl (c_cnt3 hR) ?_
                refine r_icmp_ne dd_Law_arePartsSo_528 (fun c_528 => ?_) (fun c_528 => ?_)
                · exfalso; omega
                · refine r_aloadn dd_Law_arePartsSo_531 rfl ?_
                  refine r_iconst dd_Law_arePartsSo_532 ⟨by decide, by decide⟩ ?_
                  refine r_V1W dd_Law_arePartsSo_533 ml_Law_8 ok_Poo_count vi_Poo_count vk_0 (by decide) (clS rfl (Nat.le_refl _) (rmOK_self _ _)) rfl (c_cnt5 hR) ?_
                  refine r_aloadn dd_Law_arePartsSo_536 rfl ?_
                  refine r_bip dd_Law_arePartsSo_537 ⟨by decide, by decide⟩ ?_
                  refine r_V1W dd_Law_arePartsSo_539 ml_Law_8 ok_Poo_count vi_Poo_count vk_0 (by decide) (clS rfl (Nat.le_refl _) (rmOK_self _ _)) rfl (c_cnt6 hR) ?_
                  refine r_isub dd_Law_arePartsSo_542 ⟨by omega, by omega⟩ ?_
                  refine r_iloadn dd_Law_arePartsSo_543 rfl ?_
                  refine r_iconst dd_Law_arePartsSo_544 ⟨by decide, by decide⟩ ?_
                  refine r_isub dd_Law_arePartsSo_545 ⟨by omega, by omega⟩ ?_
                  refine r_icmp_ne dd_Law_arePartsSo_546 (fun c_546 => ?_) (fun c_546 => ?_)
                  · exfalso; omega
                  · refine r_iconst dd_Law_arePartsSo_549 ⟨by decide, by decide⟩ ?_
                    refine r_goto dd_Law_arePartsSo_550 ?_
                    exact r_retI dd_Law_arePartsSo_554 (by first | rfl | omega | exact (b2_t (by first | assumption | omega)).symm | exact (b2_f (by first | assumption | omega)).symm) rfl
      · exfalso; omega
theorem c_Law_parts (hR : RI K μ m) (hE : EX m) : MetC mi_Law_arePartsSo [vR 0] (st μ) (some (vI 1)) (st μ) := by
  have hz := hR.2.1.2.2.2.2.2.2.2.2.2
  have t1 := tot_wds hR.2.1
  have t2 := tot_own hR.2.1 hR.2.2
  have t3 : sumF 64 0 (fun w => if owd m w then m (128 + w) - m (320 + w) else 0) + askdM m 6 = sumF 64 0 (fun w => if owd m w then m (128 + w) else 0) := sumF_2 64 0 (fun j x y => by
    by_cases q : owd m j
    · rw [if_pos q, if_pos ⟨q, Or.inl rfl⟩, if_pos q]
      omega
    · rw [if_neg q, if_neg (fun x => q x.1), if_neg q]
      rfl)
  have s := l_parts hR hE 64 0 0 0 0 0 0 (-1) 0 (by omega) (Int.le_refl _) (fun _ => hz) (by omega) (by omega) (by omega) (by omega) (by omega) (Or.inl rfl) (Int.zero_add _) (Int.zero_add _) (Int.zero_add _) (by omega) (Int.zero_add _)
  refine met_of ?_ (Nat.le_of_ble_eq_true rfl) (by decide) (Or.inr rfl) (by decide) (Nat.le_of_ble_eq_true rfl)
  show SPW mi_Law_arePartsSo 219 0 [some (vR 0), none, none, none, none, none, none, none, none, none, none, none, none, none, none, none] [] (st μ) (some (vI 1)) (st μ)
  refine r_iconst dd_Law_arePartsSo_0 ⟨by decide, by decide⟩ ?_
  refine r_istoren (L' := [_, _, _, _, _, _, _, _, _, _, _, _, _, _, _, _]) dd_Law_arePartsSo_1 rfl rfl ?_
  refine r_iconst dd_Law_arePartsSo_2 ⟨by decide, by decide⟩ ?_
  refine r_istoren (L' := [_, _, _, _, _, _, _, _, _, _, _, _, _, _, _, _]) dd_Law_arePartsSo_3 rfl rfl ?_
  refine r_iconst dd_Law_arePartsSo_4 ⟨by decide, by decide⟩ ?_
  refine r_istoren (L' := [_, _, _, _, _, _, _, _, _, _, _, _, _, _, _, _]) dd_Law_arePartsSo_5 rfl rfl ?_
  refine r_iconst dd_Law_arePartsSo_6 ⟨by decide, by decide⟩ ?_
  refine r_istore (L' := [_, _, _, _, _, _, _, _, _, _, _, _, _, _, _, _]) dd_Law_arePartsSo_7 rfl rfl ?_
  refine r_iconst dd_Law_arePartsSo_9 ⟨by decide, by decide⟩ ?_
  refine r_istore (L' := [_, _, _, _, _, _, _, _, _, _, _, _, _, _, _, _]) dd_Law_arePartsSo_10 rfl rfl ?_
  refine r_iconst dd_Law_arePartsSo_12 ⟨by decide, by decide⟩ ?_
  refine r_istore (L' := [_, _, _, _, _, _, _, _, _, _, _, _, _, _, _, _]) dd_Law_arePartsSo_13 rfl rfl ?_
  refine r_iconst dd_Law_arePartsSo_15 ⟨by decide, by decide⟩ ?_
  refine r_istore (L' := [_, _, _, _, _, _, _, _, _, _, _, _, _, _, _, _]) dd_Law_arePartsSo_16 rfl rfl ?_
  refine r_iconst dd_Law_arePartsSo_18 ⟨by decide, by decide⟩ ?_
  refine r_istore (L' := [_, _, _, _, _, _, _, _, _, _, _, _, _, _, _, _]) dd_Law_arePartsSo_19 rfl rfl ?_
  refine r_iconst dd_Law_arePartsSo_21 ⟨by decide, by decide⟩ ?_
  refine r_istore (L' := [_, _, _, _, _, _, _, _, _, _, _, _, _, _, _, _]) dd_Law_arePartsSo_22 rfl rfl ?_
  exact s
end PA

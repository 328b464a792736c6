/-! the reference: blocks given back, leaks swept -/
def clrM (m : Int → Int) (b j : Int) : Int → Int := fun k => if (b ≤ k ∧ k < b + j) ∨ (64 + b ≤ k ∧ k < 64 + b + j) then 0 else m k
theorem clr_0 {m : Int → Int} {b : Int} : clrM m b 0 = m := by
  funext k
  exact if_neg (by omega)
theorem clr_s {m : Int → Int} {b j : Int} (h : 0 ≤ j) : up1 (up1 (clrM m b j) (0 + (b + j)) 0) (64 + (b + j)) 0 = clrM m b (j + 1) := by
  funext k
  unfold up1 clrM
  by_cases h1 : k = 64 + (b + j)
  · rw [if_pos h1, if_pos (by omega)]
  · rw [if_neg h1]
    by_cases h2 : k = 0 + (b + j)
    · rw [if_pos h2, if_pos (by omega)]
    · rw [if_neg h2]
      by_cases h3 : (b ≤ k ∧ k < b + j) ∨ (64 + b ≤ k ∧ k < 64 + b + j)
      · rw [if_pos h3, if_pos (by omega)]
      · rw [if_neg h3, if_neg (by omega)]
theorem clr_ne {m : Int → Int} {b j k : Int} (h : ¬ ((b ≤ k ∧ k < b + j) ∨ (64 + b ≤ k ∧ k < 64 + b + j))) : clrM m b j k = m k := if_neg h
/-- where the lower of two twins begins -/
def lwM (m : Int → Int) (w : Int) : Int := w - w % (2 * m (128 + w))
abbrev jcM (m : Int → Int) (w : Int) : Prop := fre m (lwM m w) ∧ fre m (lwM m w + m (128 + w)) ∧ m (128 + lwM m w) = m (128 + w) ∧ m (128 + (lwM m w + m (128 + w))) = m (128 + w)
def jsM (m : Int → Int) (w : Int) : Int → Int := up1 (up1 (up1 m (128 + lwM m w) (2 * m (128 + w))) (128 + (lwM m w + m (128 + w))) 0) 469 (m 469 + 1)

/-- twins joined, as far as it goes -/
def jn8 (m : Int → Int) (w : Int) : Int → Int := if jcM m w then jsM m w else m
def jn4 (m : Int → Int) (w : Int) : Int → Int := if jcM m w then jn8 (jsM m w) (lwM m w) else m
def jnM (m : Int → Int) (w : Int) : Int → Int := if m (128 + w) = 4 then jn4 m w else if m (128 + w) = 8 then jn8 m w else m
def fr0M (m : Int → Int) (b : Int) : Int → Int := up1 (clrM (up1 m 470 (m 470 + brkM m b)) b (m (128 + b))) (192 + b) (-5)
def frM (m : Int → Int) (b : Int) : Int → Int := jnM (fr0M m b) b
theorem js_eq {m : Int → Int} {low hi z : Int} (hl : 0 ≤ low ∧ low < 64) (hh : 0 ≤ hi ∧ hi < 64) : up1 (up1 (up1 m (128 + low) z) (128 + hi) 0) 469 (up1 (up1 m (128 + low) z) (128 + hi) 0 469 + 1) = up1 (up1 (up1 m (128 + low) z) (128 + hi) 0) 469 (m 469 + 1) := by
  rw [up1_ne (show (469 : Int) ≠ 128 + hi by omega), up1_ne (show (469 : Int) ≠ 128 + low by omega)]
theorem lw_rg {m : Int → Int} {w z : Int} (h0 : 0 ≤ w) (h1 : w < 64) (hz : z = 4 ∨ z = 8) (hm : m (128 + w) = z) : 0 ≤ lwM m w ∧ lwM m w ≤ w ∧ lwM m w + 2 * z ≤ 64 ∧ lwM m w = w - w % (2 * z) := by
  unfold lwM
  rw [hm]
  rcases hz with rfl | rfl <;> omega
theorem jc_iff {m : Int → Int} {w z : Int} (hm : m (128 + w) = z) : jcM m w ↔ (fre m (lwM m w) ∧ fre m (lwM m w + z) ∧ m (128 + lwM m w) = z ∧ m (128 + (lwM m w + z)) = z) := by
  unfold jcM
  rw [hm]
theorem js_lw {m : Int → Int} {w z : Int} (h0 : 0 ≤ w) (h1 : w < 64) (hz : z = 4 ∨ z = 8) (hm : m (128 + w) = z) : jsM m w (128 + lwM m w) = 2 * z := by
  have h := lw_rg h0 h1 hz hm
  unfold jsM
  rw [up1_ne (by omega), up1_ne (by omega), up1_at, hm]

theorem jl_8 {μ : Int → Int → Int} {m : Int → Int} {b nn w : Int} (h0 : 0 ≤ w) (h1 : w < 64) (hm : m (128 + w) = 8) (hb : 0 ≤ m 469 ∧ m 469 ≤ 2000000000 + 8) : SPW mi_Mod_frees 226 97 [some (vR 219), some (vI b), some (vI nn), some (vI w), some (vI 1), none, none, none] [] (st (setO μ 220 m)) (some (vI nn)) (st (setO μ 220 (jn8 m w))) := by
  have hl := lw_rg h0 h1 (by omega) hm
  have hlw : w - w % (2 * 8) = lwM m w := by omega
  refine r_iload dd_Mod_frees_97 rfl ?_
  refine r_if_eq dd_Mod_frees_99 (fun c_99 => ?_) (fun c_99 => ?_)
  · exfalso; omega
  · refine r_aloadn dd_Mod_frees_102 rfl ?_
    refine r_getR dd_Mod_frees_103 fl_Mod_7 (kI := 0) rfl fr_Mod_0 vk_219 R0_219_0 ?_
    refine r_sip dd_Mod_frees_106 ⟨by decide, by decide⟩ ?_
    refine r_iloadn dd_Mod_frees_109 rfl ?_
    refine r_iadd dd_Mod_frees_110 ⟨by omega, by omega⟩ ?_
    refine r_iald dd_Mod_frees_111 (q := 12) (by decide) vk_220 (by omega) (by show _ < ((472 : Nat) : Int); omega) ?_
    try simp only [setO_at, setO_ss, upM_on, so_219, so_221, so_222, so_223, so_224, so_225, uo_219, uo_221, uo_222, uo_223, uo_224, uo_225, upM_eq, upM_uu, t221_219, t221_220, t221_222, t221_223, t221_224, t221_225, v221, t222_219, t222_220, t222_221, t222_223, t222_224, t222_225, v222, t223_219, t223_220, t223_221, t223_222, t223_224, t223_225, v223, w_220, w_221, w_222, w_223, w_224, w_225]
    refine r_istore (L' := [_, _, _, _, _, _, _, _]) dd_Mod_frees_112 rfl rfl ?_
    rw [hm]
    refine r_iloadn dd_Mod_frees_114 rfl ?_
    refine r_iloadn dd_Mod_frees_115 rfl ?_
    refine r_iconst dd_Mod_frees_116 ⟨by decide, by decide⟩ ?_
    refine r_iload dd_Mod_frees_117 rfl ?_
    refine r_imul dd_Mod_frees_119 ⟨by omega, by omega⟩ ?_
    refine r_irem dd_Mod_frees_120 (by omega) (by omega) ?_
    refine r_isub dd_Mod_frees_121 ⟨by omega, by omega⟩ ?_
    refine r_istore (L' := [_, _, _, _, _, _, _, _]) dd_Mod_frees_122 rfl rfl ?_
    rw [hlw]
    refine r_iload dd_Mod_frees_124 rfl ?_
    refine r_iload dd_Mod_frees_126 rfl ?_
    refine r_iadd dd_Mod_frees_128 ⟨by omega, by omega⟩ ?_
    refine r_istore (L' := [_, _, _, _, _, _, _, _]) dd_Mod_frees_129 rfl rfl ?_
    refine r_aloadn dd_Mod_frees_131 rfl ?_
    refine r_iload dd_Mod_frees_132 rfl ?_
    refine r_V1W dd_Mod_frees_134 ml_Mod_50 ok_Mod_isFree vi_Mod_isFree vk_219 (by decide) (clS rfl (Nat.le_refl _) (rmOK_self _ _)) rfl (c_Mod_isFree (by omega) (by omega)) ?_
    try simp only [setO_at, setO_ss, upM_on, so_219, so_221, so_222, so_223, so_224, so_225, uo_219, uo_221, uo_222, uo_223, uo_224, uo_225, upM_eq, upM_uu, t221_219, t221_220, t221_222, t221_223, t221_224, t221_225, v221, t222_219, t222_220, t222_221, t222_223, t222_224, t222_225, v222, t223_219, t223_220, t223_221, t223_222, t223_224, t223_225, v223, w_220, w_221, w_222, w_223, w_224, w_225]
    refine r_if_eq_b dd_Mod_frees_137 (fun c_137 => ?_) (fun c_137 => ?_)
    · refine r_iconst dd_Mod_frees_185 ⟨by decide, by decide⟩ ?_
      refine r_istore (L' := [_, _, _, _, _, _, _, _]) dd_Mod_frees_186 rfl rfl ?_
      refine r_iload dd_Mod_frees_188 rfl ?_
      refine r_if_eq dd_Mod_frees_190 (fun c_190 => ?_) (fun c_190 => ?_)
      · refine r_goto dd_Mod_frees_251 ?_
        refine r_iload dd_Mod_frees_97 rfl ?_
        refine r_if_eq dd_Mod_frees_99 (fun c_99 => ?_) (fun c_99 => ?_)
        · refine r_iloadn dd_Mod_frees_254 rfl ?_
          exact r_retI dd_Mod_frees_255 (by first | rfl | omega | exact (b2_t (by first | assumption | omega)).symm | exact (b2_f (by first | assumption | omega)).symm) (by unfold jn8; rw [if_neg (fun q => by have q := (jc_iff hm).mp q; omega)])
        · exfalso; omega
      · exfalso; omega
    · refine r_aloadn dd_Mod_frees_140 rfl ?_
      refine r_iload dd_Mod_frees_141 rfl ?_
      refine r_V1W dd_Mod_frees_143 ml_Mod_50 ok_Mod_isFree vi_Mod_isFree vk_219 (by decide) (clS rfl (Nat.le_refl _) (rmOK_self _ _)) rfl (c_Mod_isFree (by omega) (by omega)) ?_
      try simp only [setO_at, setO_ss, upM_on, so_219, so_221, so_222, so_223, so_224, so_225, uo_219, uo_221, uo_222, uo_223, uo_224, uo_225, upM_eq, upM_uu, t221_219, t221_220, t221_222, t221_223, t221_224, t221_225, v221, t222_219, t222_220, t222_221, t222_223, t222_224, t222_225, v222, t223_219, t223_220, t223_221, t223_222, t223_224, t223_225, v223, w_220, w_221, w_222, w_223, w_224, w_225]
      refine r_if_eq_b dd_Mod_frees_146 (fun c_146 => ?_) (fun c_146 => ?_)
      · refine r_iconst dd_Mod_frees_185 ⟨by decide, by decide⟩ ?_
        refine r_istore (L' := [_, _, _, _, _, _, _, _]) dd_Mod_frees_186 rfl rfl ?_
        refine r_iload dd_Mod_frees_188 rfl ?_
        refine r_if_eq dd_Mod_frees_190 (fun c_190 => ?_) (fun c_190 => ?_)
        · refine r_goto dd_Mod_frees_251 ?_
          refine r_iload dd_Mod_frees_97 rfl ?_
          refine r_if_eq dd_Mod_frees_99 (fun c_99 => ?_) (fun c_99 => ?_)
          · refine r_iloadn dd_Mod_frees_254 rfl ?_
            exact r_retI dd_Mod_frees_255 (by first | rfl | omega | exact (b2_t (by first | assumption | omega)).symm | exact (b2_f (by first | assumption | omega)).symm) (by unfold jn8; rw [if_neg (fun q => by have q := (jc_iff hm).mp q; omega)])
          · exfalso; omega
        · exfalso; omega
      · refine r_aloadn dd_Mod_frees_149 rfl ?_
        refine r_getR dd_Mod_frees_150 fl_Mod_7 (kI := 0) rfl fr_Mod_0 vk_219 R0_219_0 ?_
        refine r_sip dd_Mod_frees_153 ⟨by decide, by decide⟩ ?_
        refine r_iload dd_Mod_frees_156 rfl ?_
        refine r_iadd dd_Mod_frees_158 ⟨by omega, by omega⟩ ?_
        refine r_iald dd_Mod_frees_159 (q := 12) (by decide) vk_220 (by omega) (by show _ < ((472 : Nat) : Int); omega) ?_
        try simp only [setO_at, setO_ss, upM_on, so_219, so_221, so_222, so_223, so_224, so_225, uo_219, uo_221, uo_222, uo_223, uo_224, uo_225, upM_eq, upM_uu, t221_219, t221_220, t221_222, t221_223, t221_224, t221_225, v221, t222_219, t222_220, t222_221, t222_223, t222_224, t222_225, v222, t223_219, t223_220, t223_221, t223_222, t223_224, t223_225, v223, w_220, w_221, w_222, w_223, w_224, w_225]
        refine r_iload dd_Mod_frees_160 rfl ?_
        refine r_icmp_ne dd_Mod_frees_162 (fun c_162 => ?_) (fun c_162 => ?_)
        · refine r_iconst dd_Mod_frees_185 ⟨by decide, by decide⟩ ?_
          refine r_istore (L' := [_, _, _, _, _, _, _, _]) dd_Mod_frees_186 rfl rfl ?_
          refine r_iload dd_Mod_frees_188 rfl ?_
          refine r_if_eq dd_Mod_frees_190 (fun c_190 => ?_) (fun c_190 => ?_)
          · refine r_goto dd_Mod_frees_251 ?_
            refine r_iload dd_Mod_frees_97 rfl ?_
            refine r_if_eq dd_Mod_frees_99 (fun c_99 => ?_) (fun c_99 => ?_)
            · refine r_iloadn dd_Mod_frees_254 rfl ?_
              exact r_retI dd_Mod_frees_255 (by first | rfl | omega | exact (b2_t (by first | assumption | omega)).symm | exact (b2_f (by first | assumption | omega)).symm) (by unfold jn8; rw [if_neg (fun q => by have q := (jc_iff hm).mp q; omega)])
            · exfalso; omega
          · exfalso; omega
        · refine r_aloadn dd_Mod_frees_165 rfl ?_
          refine r_getR dd_Mod_frees_166 fl_Mod_7 (kI := 0) rfl fr_Mod_0 vk_219 R0_219_0 ?_
          refine r_sip dd_Mod_frees_169 ⟨by decide, by decide⟩ ?_
          refine r_iload dd_Mod_frees_172 rfl ?_
          refine r_iadd dd_Mod_frees_174 ⟨by omega, by omega⟩ ?_
          refine r_iald dd_Mod_frees_175 (q := 12) (by decide) vk_220 (by omega) (by show _ < ((472 : Nat) : Int); omega) ?_
          try simp only [setO_at, setO_ss, upM_on, so_219, so_221, so_222, so_223, so_224, so_225, uo_219, uo_221, uo_222, uo_223, uo_224, uo_225, upM_eq, upM_uu, t221_219, t221_220, t221_222, t221_223, t221_224, t221_225, v221, t222_219, t222_220, t222_221, t222_223, t222_224, t222_225, v222, t223_219, t223_220, t223_221, t223_222, t223_224, t223_225, v223, w_220, w_221, w_222, w_223, w_224, w_225]
          refine r_iload dd_Mod_frees_176 rfl ?_
          refine r_icmp_ne dd_Mod_frees_178 (fun c_178 => ?_) (fun c_178 => ?_)
          · refine r_iconst dd_Mod_frees_185 ⟨by decide, by decide⟩ ?_
            refine r_istore (L' := [_, _, _, _, _, _, _, _]) dd_Mod_frees_186 rfl rfl ?_
            refine r_iload dd_Mod_frees_188 rfl ?_
            refine r_if_eq dd_Mod_frees_190 (fun c_190 => ?_) (fun c_190 => ?_)
            · refine r_goto dd_Mod_frees_251 ?_
              refine r_iload dd_Mod_frees_97 rfl ?_
              refine r_if_eq dd_Mod_frees_99 (fun c_99 => ?_) (fun c_99 => ?_)
              · refine r_iloadn dd_Mod_frees_254 rfl ?_
                exact r_retI dd_Mod_frees_255 (by first | rfl | omega | exact (b2_t (by first | assumption | omega)).symm | exact (b2_f (by first | assumption | omega)).symm) (by unfold jn8; rw [if_neg (fun q => by have q := (jc_iff hm).mp q; omega)])
              · exfalso; omega
            · exfalso; omega
          · refine r_iconst dd_Mod_frees_181 ⟨by decide, by decide⟩ ?_
            refine r_goto dd_Mod_frees_182 ?_
            refine r_istore (L' := [_, _, _, _, _, _, _, _]) dd_Mod_frees_186 rfl rfl ?_
            refine r_iload dd_Mod_frees_188 rfl ?_
            refine r_if_eq dd_Mod_frees_190 (fun c_190 => ?_) (fun c_190 => ?_)
            · exfalso; omega
            · refine r_aloadn dd_Mod_frees_193 rfl ?_
              refine r_getR dd_Mod_frees_194 fl_Mod_7 (kI := 0) rfl fr_Mod_0 vk_219 R0_219_0 ?_
              refine r_sip dd_Mod_frees_197 ⟨by decide, by decide⟩ ?_
              refine r_iload dd_Mod_frees_200 rfl ?_
              refine r_iadd dd_Mod_frees_202 ⟨by omega, by omega⟩ ?_
              refine r_iconst dd_Mod_frees_203 ⟨by decide, by decide⟩ ?_
              refine r_iload dd_Mod_frees_204 rfl ?_
              refine r_imul dd_Mod_frees_206 ⟨by omega, by omega⟩ ?_
              refine r_iast dd_Mod_frees_207 (q := 12) (by decide) vk_220 (by omega) (by show _ < ((472 : Nat) : Int); omega) ?_
              try simp only [setO_at, setO_ss, upM_on, so_219, so_221, so_222, so_223, so_224, so_225, uo_219, uo_221, uo_222, uo_223, uo_224, uo_225, upM_eq, upM_uu, t221_219, t221_220, t221_222, t221_223, t221_224, t221_225, v221, t222_219, t222_220, t222_221, t222_223, t222_224, t222_225, v222, t223_219, t223_220, t223_221, t223_222, t223_224, t223_225, v223, w_220, w_221, w_222, w_223, w_224, w_225]
              refine r_aloadn dd_Mod_frees_208 rfl ?_
              refine r_getR dd_Mod_frees_209 fl_Mod_7 (kI := 0) rfl fr_Mod_0 vk_219 R0_219_0 ?_
              refine r_sip dd_Mod_frees_212 ⟨by decide, by decide⟩ ?_
              refine r_iload dd_Mod_frees_215 rfl ?_
              refine r_iadd dd_Mod_frees_217 ⟨by omega, by omega⟩ ?_
              refine r_iconst dd_Mod_frees_218 ⟨by decide, by decide⟩ ?_
              refine r_iast dd_Mod_frees_219 (q := 12) (by decide) vk_220 (by omega) (by show _ < ((472 : Nat) : Int); omega) ?_
              try simp only [setO_at, setO_ss, upM_on, so_219, so_221, so_222, so_223, so_224, so_225, uo_219, uo_221, uo_222, uo_223, uo_224, uo_225, upM_eq, upM_uu, t221_219, t221_220, t221_222, t221_223, t221_224, t221_225, v221, t222_219, t222_220, t222_221, t222_223, t222_224, t222_225, v222, t223_219, t223_220, t223_221, t223_222, t223_224, t223_225, v223, w_220, w_221, w_222, w_223, w_224, w_225]
              refine r_aloadn dd_Mod_frees_220 rfl ?_
              refine r_getR dd_Mod_frees_221 fl_Mod_7 (kI := 0) rfl fr_Mod_0 vk_219 R0_219_0 ?_
              refine r_sip dd_Mod_frees_224 ⟨by decide, by decide⟩ ?_
              refine r_dup2 dd_Mod_frees_227 ?_
              refine r_iald dd_Mod_frees_228 (q := 12) (by decide) vk_220 (by omega) (by show _ < ((472 : Nat) : Int); omega) ?_
              try simp only [setO_at, setO_ss, upM_on, so_219, so_221, so_222, so_223, so_224, so_225, uo_219, uo_221, uo_222, uo_223, uo_224, uo_225, upM_eq, upM_uu, t221_219, t221_220, t221_222, t221_223, t221_224, t221_225, v221, t222_219, t222_220, t222_221, t222_223, t222_224, t222_225, v222, t223_219, t223_220, t223_221, t223_222, t223_224, t223_225, v223, w_220, w_221, w_222, w_223, w_224, w_225]
              rw [up1_ne (show (469 : Int) ≠ 128 + (lwM m w + 8) by omega), up1_ne (show (469 : Int) ≠ 128 + lwM m w by omega)]
              refine r_iconst dd_Mod_frees_229 ⟨by decide, by decide⟩ ?_
              refine r_iadd dd_Mod_frees_230 ⟨by omega, by omega⟩ ?_
              refine r_iast dd_Mod_frees_231 (q := 12) (by decide) vk_220 (by omega) (by show _ < ((472 : Nat) : Int); omega) ?_
              try simp only [setO_at, setO_ss, upM_on, so_219, so_221, so_222, so_223, so_224, so_225, uo_219, uo_221, uo_222, uo_223, uo_224, uo_225, upM_eq, upM_uu, t221_219, t221_220, t221_222, t221_223, t221_224, t221_225, v221, t222_219, t222_220, t222_221, t222_223, t222_224, t222_225, v222, t223_219, t223_220, t223_221, t223_222, t223_224, t223_225, v223, w_220, w_221, w_222, w_223, w_224, w_225]
              refine r_iload dd_Mod_frees_232 rfl ?_
              refine r_istoren (L' := [_, _, _, _, _, _, _, _]) dd_Mod_frees_234 rfl rfl ?_
              refine r_iconst dd_Mod_frees_235 ⟨by decide, by decide⟩ ?_
              refine r_iload dd_Mod_frees_236 rfl ?_
              refine r_imul dd_Mod_frees_238 ⟨by omega, by omega⟩ ?_
              refine r_bip dd_Mod_frees_239 ⟨by decide, by decide⟩ ?_
              refine r_icmp_ge dd_Mod_frees_241 (fun c_241 => ?_) (fun c_241 => ?_)
              · refine r_iconst dd_Mod_frees_248 ⟨by decide, by decide⟩ ?_
                refine r_istore (L' := [_, _, _, _, _, _, _, _]) dd_Mod_frees_249 rfl rfl ?_
                refine r_goto dd_Mod_frees_251 ?_
                refine r_iload dd_Mod_frees_97 rfl ?_
                refine r_if_eq dd_Mod_frees_99 (fun c_99 => ?_) (fun c_99 => ?_)
                · refine r_iloadn dd_Mod_frees_254 rfl ?_
                  exact r_retI dd_Mod_frees_255 (by first | rfl | omega | exact (b2_t (by first | assumption | omega)).symm | exact (b2_f (by first | assumption | omega)).symm) (by unfold jn8; rw [if_pos ((jc_iff hm).mpr (by omega))]; unfold jsM; rw [hm])
                · exfalso; omega
              · exfalso; omega
theorem jl_4 {μ : Int → Int → Int} {m : Int → Int} {b nn w : Int} (h0 : 0 ≤ w) (h1 : w < 64) (hm : m (128 + w) = 4) (hb : 0 ≤ m 469 ∧ m 469 ≤ 2000000000 + 4) : SPW mi_Mod_frees 226 97 [some (vR 219), some (vI b), some (vI nn), some (vI w), some (vI 1), none, none, none] [] (st (setO μ 220 m)) (some (vI nn)) (st (setO μ 220 (jn4 m w))) := by
  have hl := lw_rg h0 h1 (by omega) hm
  have hlw : w - w % (2 * 4) = lwM m w := by omega
  refine r_iload dd_Mod_frees_97 rfl ?_
  refine r_if_eq dd_Mod_frees_99 (fun c_99 => ?_) (fun c_99 => ?_)
  · exfalso; omega
  · refine r_aloadn dd_Mod_frees_102 rfl ?_
    refine r_getR dd_Mod_frees_103 fl_Mod_7 (kI := 0) rfl fr_Mod_0 vk_219 R0_219_0 ?_
    refine r_sip dd_Mod_frees_106 ⟨by decide, by decide⟩ ?_
    refine r_iloadn dd_Mod_frees_109 rfl ?_
    refine r_iadd dd_Mod_frees_110 ⟨by omega, by omega⟩ ?_
    refine r_iald dd_Mod_frees_111 (q := 12) (by decide) vk_220 (by omega) (by show _ < ((472 : Nat) : Int); omega) ?_
    try simp only [setO_at, setO_ss, upM_on, so_219, so_221, so_222, so_223, so_224, so_225, uo_219, uo_221, uo_222, uo_223, uo_224, uo_225, upM_eq, upM_uu, t221_219, t221_220, t221_222, t221_223, t221_224, t221_225, v221, t222_219, t222_220, t222_221, t222_223, t222_224, t222_225, v222, t223_219, t223_220, t223_221, t223_222, t223_224, t223_225, v223, w_220, w_221, w_222, w_223, w_224, w_225]
    refine r_istore (L' := [_, _, _, _, _, _, _, _]) dd_Mod_frees_112 rfl rfl ?_
    rw [hm]
    refine r_iloadn dd_Mod_frees_114 rfl ?_
    refine r_iloadn dd_Mod_frees_115 rfl ?_
    refine r_iconst dd_Mod_frees_116 ⟨by decide, by decide⟩ ?_
    refine r_iload dd_Mod_frees_117 rfl ?_
    refine r_imul dd_Mod_frees_119 ⟨by omega, by omega⟩ ?_
    refine r_irem dd_Mod_frees_120 (by omega) (by omega) ?_
    refine r_isub dd_Mod_frees_121 ⟨by omega, by omega⟩ ?_
    refine r_istore (L' := [_, _, _, _, _, _, _, _]) dd_Mod_frees_122 rfl rfl ?_
    rw [hlw]
    refine r_iload dd_Mod_frees_124 rfl ?_
    refine r_iload dd_Mod_frees_126 rfl ?_
    refine r_iadd dd_Mod_frees_128 ⟨by omega, by omega⟩ ?_
    refine r_istore (L' := [_, _, _, _, _, _, _, _]) dd_Mod_frees_129 rfl rfl ?_
    refine r_aloadn dd_Mod_frees_131 rfl ?_
    refine r_iload dd_Mod_frees_132 rfl ?_
    refine r_V1W dd_Mod_frees_134 ml_Mod_50 ok_Mod_isFree vi_Mod_isFree vk_219 (by decide) (clS rfl (Nat.le_refl _) (rmOK_self _ _)) rfl (c_Mod_isFree (by omega) (by omega)) ?_
    try simp only [setO_at, setO_ss, upM_on, so_219, so_221, so_222, so_223, so_224, so_225, uo_219, uo_221, uo_222, uo_223, uo_224, uo_225, upM_eq, upM_uu, t221_219, t221_220, t221_222, t221_223, t221_224, t221_225, v221, t222_219, t222_220, t222_221, t222_223, t222_224, t222_225, v222, t223_219, t223_220, t223_221, t223_222, t223_224, t223_225, v223, w_220, w_221, w_222, w_223, w_224, w_225]
    refine r_if_eq_b dd_Mod_frees_137 (fun c_137 => ?_) (fun c_137 => ?_)
    · refine r_iconst dd_Mod_frees_185 ⟨by decide, by decide⟩ ?_
      refine r_istore (L' := [_, _, _, _, _, _, _, _]) dd_Mod_frees_186 rfl rfl ?_
      refine r_iload dd_Mod_frees_188 rfl ?_
      refine r_if_eq dd_Mod_frees_190 (fun c_190 => ?_) (fun c_190 => ?_)
      · refine r_goto dd_Mod_frees_251 ?_
        refine r_iload dd_Mod_frees_97 rfl ?_
        refine r_if_eq dd_Mod_frees_99 (fun c_99 => ?_) (fun c_99 => ?_)
        · refine r_iloadn dd_Mod_frees_254 rfl ?_
          exact r_retI dd_Mod_frees_255 (by first | rfl | omega | exact (b2_t (by first | assumption | omega)).symm | exact (b2_f (by first | assumption | omega)).symm) (by unfold jn4; rw [if_neg (fun q => by have q := (jc_iff hm).mp q; omega)])
        · exfalso; omega
      · exfalso; omega
    · refine r_aloadn dd_Mod_frees_140 rfl ?_
      refine r_iload dd_Mod_frees_141 rfl ?_
      refine r_V1W dd_Mod_frees_143 ml_Mod_50 ok_Mod_isFree vi_Mod_isFree vk_219 (by decide) (clS rfl (Nat.le_refl _) (rmOK_self _ _)) rfl (c_Mod_isFree (by omega) (by omega)) ?_
      try simp only [setO_at, setO_ss, upM_on, so_219, so_221, so_222, so_223, so_224, so_225, uo_219, uo_221, uo_222, uo_223, uo_224, uo_225, upM_eq, upM_uu, t221_219, t221_220, t221_222, t221_223, t221_224, t221_225, v221, t222_219, t222_220, t222_221, t222_223, t222_224, t222_225, v222, t223_219, t223_220, t223_221, t223_222, t223_224, t223_225, v223, w_220, w_221, w_222, w_223, w_224, w_225]
      refine r_if_eq_b dd_Mod_frees_146 (fun c_146 => ?_) (fun c_146 => ?_)
      · refine r_iconst dd_Mod_frees_185 ⟨by decide, by decide⟩ ?_
        refine r_istore (L' := [_, _, _, _, _, _, _, _]) dd_Mod_frees_186 rfl rfl ?_
        refine r_iload dd_Mod_frees_188 rfl ?_
        refine r_if_eq dd_Mod_frees_190 (fun c_190 => ?_) (fun c_190 => ?_)
        · refine r_goto dd_Mod_frees_251 ?_
          refine r_iload dd_Mod_frees_97 rfl ?_
          refine r_if_eq dd_Mod_frees_99 (fun c_99 => ?_) (fun c_99 => ?_)
          · refine r_iloadn dd_Mod_frees_254 rfl ?_
            exact r_retI dd_Mod_frees_255 (by first | rfl | omega | exact (b2_t (by first | assumption | omega)).symm | exact (b2_f (by first | assumption | omega)).symm) (by unfold jn4; rw [if_neg (fun q => by have q := (jc_iff hm).mp q; omega)])
          · exfalso; omega
        · exfalso; omega
      · refine r_aloadn dd_Mod_frees_149 rfl ?_
        refine r_getR dd_Mod_frees_150 fl_Mod_7 (kI := 0) rfl fr_Mod_0 vk_219 R0_219_0 ?_
        refine r_sip dd_Mod_frees_153 ⟨by decide, by decide⟩ ?_
        refine r_iload dd_Mod_frees_156 rfl ?_
        refine r_iadd dd_Mod_frees_158 ⟨by omega, by omega⟩ ?_
        refine r_iald dd_Mod_frees_159 (q := 12) (by decide) vk_220 (by omega) (by show _ < ((472 : Nat) : Int); omega) ?_
        try simp only [setO_at, setO_ss, upM_on, so_219, so_221, so_222, so_223, so_224, so_225, uo_219, uo_221, uo_222, uo_223, uo_224, uo_225, upM_eq, upM_uu, t221_219, t221_220, t221_222, t221_223, t221_224, t221_225, v221, t222_219, t222_220, t222_221, t222_223, t222_224, t222_225, v222, t223_219, t223_220, t223_221, t223_222, t223_224, t223_225, v223, w_220, w_221, w_222, w_223, w_224, w_225]
        refine r_iload dd_Mod_frees_160 rfl ?_
        refine r_icmp_ne dd_Mod_frees_162 (fun c_162 => ?_) (fun c_162 => ?_)
        · refine r_iconst dd_Mod_frees_185 ⟨by decide, by decide⟩ ?_
          refine r_istore (L' := [_, _, _, _, _, _, _, _]) dd_Mod_frees_186 rfl rfl ?_
          refine r_iload dd_Mod_frees_188 rfl ?_
          refine r_if_eq dd_Mod_frees_190 (fun c_190 => ?_) (fun c_190 => ?_)
          · refine r_goto dd_Mod_frees_251 ?_
            refine r_iload dd_Mod_frees_97 rfl ?_
            refine r_if_eq dd_Mod_frees_99 (fun c_99 => ?_) (fun c_99 => ?_)
            · refine r_iloadn dd_Mod_frees_254 rfl ?_
              exact r_retI dd_Mod_frees_255 (by first | rfl | omega | exact (b2_t (by first | assumption | omega)).symm | exact (b2_f (by first | assumption | omega)).symm) (by unfold jn4; rw [if_neg (fun q => by have q := (jc_iff hm).mp q; omega)])
            · exfalso; omega
          · exfalso; omega
        · refine r_aloadn dd_Mod_frees_165 rfl ?_
          refine r_getR dd_Mod_frees_166 fl_Mod_7 (kI := 0) rfl fr_Mod_0 vk_219 R0_219_0 ?_
          refine r_sip dd_Mod_frees_169 ⟨by decide, by decide⟩ ?_
          refine r_iload dd_Mod_frees_172 rfl ?_
          refine r_iadd dd_Mod_frees_174 ⟨by omega, by omega⟩ ?_
          refine r_iald dd_Mod_frees_175 (q := 12) (by decide) vk_220 (by omega) (by show _ < ((472 : Nat) : Int); omega) ?_
          try simp only [setO_at, setO_ss, upM_on, so_219, so_221, so_222, so_223, so_224, so_225, uo_219, uo_221, uo_222, uo_223, uo_224, uo_225, upM_eq, upM_uu, t221_219, t221_220, t221_222, t221_223, t221_224, t221_225, v221, t222_219, t222_220, t222_221, t222_223, t222_224, t222_225, v222, t223_219, t223_220, t223_221, t223_222, t223_224, t223_225, v223, w_220, w_221, w_222, w_223, w_224, w_225]
          refine r_iload dd_Mod_frees_176 rfl ?_
          refine r_icmp_ne dd_Mod_frees_178 (fun c_178 => ?_) (fun c_178 => ?_)
          · refine r_iconst dd_Mod_frees_185 ⟨by decide, by decide⟩ ?_
            refine r_istore (L' := [_, _, _, _, _, _, _, _]) dd_Mod_frees_186 rfl rfl ?_
            refine r_iload dd_Mod_frees_188 rfl ?_
            refine r_if_eq dd_Mod_frees_190 (fun c_190 => ?_) (fun c_190 => ?_)
            · refine r_goto dd_Mod_frees_251 ?_
              refine r_iload dd_Mod_frees_97 rfl ?_
              refine r_if_eq dd_Mod_frees_99 (fun c_99 => ?_) (fun c_99 => ?_)
              · refine r_iloadn dd_Mod_frees_254 rfl ?_
                exact r_retI dd_Mod_frees_255 (by first | rfl | omega | exact (b2_t (by first | assumption | omega)).symm | exact (b2_f (by first | assumption | omega)).symm) (by unfold jn4; rw [if_neg (fun q => by have q := (jc_iff hm).mp q; omega)])
              · exfalso; omega
            · exfalso; omega
          · refine r_iconst dd_Mod_frees_181 ⟨by decide, by decide⟩ ?_
            refine r_goto dd_Mod_frees_182 ?_
            refine r_istore (L' := [_, _, _, _, _, _, _, _]) dd_Mod_frees_186 rfl rfl ?_
            refine r_iload dd_Mod_frees_188 rfl ?_
            refine r_if_eq dd_Mod_frees_190 (fun c_190 => ?_) (fun c_190 => ?_)
            · exfalso; omega
            · refine r_aloadn dd_Mod_frees_193 rfl ?_
              refine r_getR dd_Mod_frees_194 fl_Mod_7 (kI := 0) rfl fr_Mod_0 vk_219 R0_219_0 ?_
              refine r_sip dd_Mod_frees_197 ⟨by decide, by decide⟩ ?_
              refine r_iload dd_Mod_frees_200 rfl ?_
              refine r_iadd dd_Mod_frees_202 ⟨by omega, by omega⟩ ?_
              refine r_iconst dd_Mod_frees_203 ⟨by decide, by decide⟩ ?_
              refine r_iload dd_Mod_frees_204 rfl ?_
              refine r_imul dd_Mod_frees_206 ⟨by omega, by omega⟩ ?_
              refine r_iast dd_Mod_frees_207 (q := 12) (by decide) vk_220 (by omega) (by show _ < ((472 : Nat) : Int); omega) ?_
              try simp only [setO_at, setO_ss, upM_on, so_219, so_221, so_222, so_223, so_224, so_225, uo_219, uo_221, uo_222, uo_223, uo_224, uo_225, upM_eq, upM_uu, t221_219, t221_220, t221_222, t221_223, t221_224, t221_225, v221, t222_219, t222_220, t222_221, t222_223, t222_224, t222_225, v222, t223_219, t223_220, t223_221, t223_222, t223_224, t223_225, v223, w_220, w_221, w_222, w_223, w_224, w_225]
              refine r_aloadn dd_Mod_frees_208 rfl ?_
              refine r_getR dd_Mod_frees_209 fl_Mod_7 (kI := 0) rfl fr_Mod_0 vk_219 R0_219_0 ?_
              refine r_sip dd_Mod_frees_212 ⟨by decide, by decide⟩ ?_
              refine r_iload dd_Mod_frees_215 rfl ?_
              refine r_iadd dd_Mod_frees_217 ⟨by omega, by omega⟩ ?_
              refine r_iconst dd_Mod_frees_218 ⟨by decide, by decide⟩ ?_
              refine r_iast dd_Mod_frees_219 (q := 12) (by decide) vk_220 (by omega) (by show _ < ((472 : Nat) : Int); omega) ?_
              try simp only [setO_at, setO_ss, upM_on, so_219, so_221, so_222, so_223, so_224, so_225, uo_219, uo_221, uo_222, uo_223, uo_224, uo_225, upM_eq, upM_uu, t221_219, t221_220, t221_222, t221_223, t221_224, t221_225, v221, t222_219, t222_220, t222_221, t222_223, t222_224, t222_225, v222, t223_219, t223_220, t223_221, t223_222, t223_224, t223_225, v223, w_220, w_221, w_222, w_223, w_224, w_225]
              refine r_aloadn dd_Mod_frees_220 rfl ?_
              refine r_getR dd_Mod_frees_221 fl_Mod_7 (kI := 0) rfl fr_Mod_0 vk_219 R0_219_0 ?_
              refine r_sip dd_Mod_frees_224 ⟨by decide, by decide⟩ ?_
              refine r_dup2 dd_Mod_frees_227 ?_
              refine r_iald dd_Mod_frees_228 (q := 12) (by decide) vk_220 (by omega) (by show _ < ((472 : Nat) : Int); omega) ?_
              try simp only [setO_at, setO_ss, upM_on, so_219, so_221, so_222, so_223, so_224, so_225, uo_219, uo_221, uo_222, uo_223, uo_224, uo_225, upM_eq, upM_uu, t221_219, t221_220, t221_222, t221_223, t221_224, t221_225, v221, t222_219, t222_220, t222_221, t222_223, t222_224, t222_225, v222, t223_219, t223_220, t223_221, t223_222, t223_224, t223_225, v223, w_220, w_221, w_222, w_223, w_224, w_225]
              rw [up1_ne (show (469 : Int) ≠ 128 + (lwM m w + 4) by omega), up1_ne (show (469 : Int) ≠ 128 + lwM m w by omega)]
              refine r_iconst dd_Mod_frees_229 ⟨by decide, by decide⟩ ?_
              refine r_iadd dd_Mod_frees_230 ⟨by omega, by omega⟩ ?_
              refine r_iast dd_Mod_frees_231 (q := 12) (by decide) vk_220 (by omega) (by show _ < ((472 : Nat) : Int); omega) ?_
              try simp only [setO_at, setO_ss, upM_on, so_219, so_221, so_222, so_223, so_224, so_225, uo_219, uo_221, uo_222, uo_223, uo_224, uo_225, upM_eq, upM_uu, t221_219, t221_220, t221_222, t221_223, t221_224, t221_225, v221, t222_219, t222_220, t222_221, t222_223, t222_224, t222_225, v222, t223_219, t223_220, t223_221, t223_222, t223_224, t223_225, v223, w_220, w_221, w_222, w_223, w_224, w_225]
              refine r_iload dd_Mod_frees_232 rfl ?_
              refine r_istoren (L' := [_, _, _, _, _, _, _, _]) dd_Mod_frees_234 rfl rfl ?_
              refine r_iconst dd_Mod_frees_235 ⟨by decide, by decide⟩ ?_
              refine r_iload dd_Mod_frees_236 rfl ?_
              refine r_imul dd_Mod_frees_238 ⟨by omega, by omega⟩ ?_
              refine r_bip dd_Mod_frees_239 ⟨by decide, by decide⟩ ?_
              refine r_icmp_ge dd_Mod_frees_241 (fun c_241 => ?_) (fun c_241 => ?_)
              · exfalso; omega
              · refine r_iconst dd_Mod_frees_244 ⟨by decide, by decide⟩ ?_
                refine r_goto dd_Mod_frees_245 ?_
                refine r_istore (L' := [_, _, _, _, _, _, _, _]) dd_Mod_frees_249 rfl rfl ?_
                refine r_goto dd_Mod_frees_251 ?_
                refine r_drop 5 (r_drop 6 (r_drop 7 ?_))
                have h8 := js_lw h0 h1 (by omega) hm
                have hj9 : jsM m w 469 = m 469 + 1 := up1_at
                unfold jn4
                rw [if_pos ((jc_iff hm).mpr (by omega))]
                have k2 := jl_8 (μ := μ) (m := jsM m w) (b := b) (nn := nn) (w := lwM m w) (by omega) (by omega) h8 (by omega)
                have e9 : up1 (up1 (up1 m (128 + lwM m w) (2 * 4)) (128 + (lwM m w + 4)) 0) 469 (m 469 + 1) = jsM m w := by unfold jsM; rw [hm]
                rw [e9]
                exact k2
theorem fr0_469 {m : Int → Int} {b : Int} (h0 : 0 ≤ b) (h1 : b + m (128 + b) ≤ 64) (h2 : 0 ≤ m (128 + b)) : fr0M m b 469 = m 469 := by
  unfold fr0M
  rw [up1_ne (by omega), clr_ne (by omega), up1_ne (by omega)]
theorem fr0_sz {m : Int → Int} {b : Int} (h0 : 0 ≤ b) (h1 : b + m (128 + b) ≤ 64) (h2 : 0 < m (128 + b)) : fr0M m b (128 + b) = m (128 + b) := by
  unfold fr0M
  rw [up1_ne (by omega), clr_ne (by omega), up1_ne (by omega)]

theorem l_Mod_frees {μ : Int → Int → Int} {m f : Int → Int} {b nn : Int} (b0 : 0 ≤ b) (b1 : b + f (128 + b) ≤ 64) (b2 : f (128 + b) = 4 ∨ f (128 + b) = 8 ∨ f (128 + b) = 16) (hm : ∀ k, m k = up1 (clrM f b (f (128 + b))) (192 + b) (-5) k) (hj : 0 ≤ f 469 ∧ f 469 ≤ 1000000000) : ∀ (n : Nat) (w : Int), (w + n = f (128 + b)) → (0 ≤ w) → SPW mi_Mod_frees 226 20 [some (vR 219), some (vI b), some (vI nn), some (vI (b + w)), none, none, none, none] [] (st (setO μ 220 (clrM f b w))) (some (vI nn)) (st (setO μ 220 (jnM m b))) := by
  intro n
  induction n with
  | zero =>
    intro w h0 h1
    refine r_iloadn dd_Mod_frees_20 rfl ?_
    refine r_iloadn dd_Mod_frees_21 rfl ?_
    refine r_aloadn dd_Mod_frees_22 rfl ?_
    refine r_getR dd_Mod_frees_23 fl_Mod_7 (kI := 0) rfl fr_Mod_0 vk_219 R0_219_0 ?_
    refine r_sip dd_Mod_frees_26 ⟨by decide, by decide⟩ ?_
    refine r_iloadn dd_Mod_frees_29 rfl ?_
    refine r_iadd dd_Mod_frees_30 ⟨by omega, by omega⟩ ?_
    refine r_iald dd_Mod_frees_31 (q := 12) (by decide) vk_220 (by omega) (by show _ < ((472 : Nat) : Int); omega) ?_
    try simp only [setO_at, setO_ss, upM_on, so_219, so_221, so_222, so_223, so_224, so_225, uo_219, uo_221, uo_222, uo_223, uo_224, uo_225, upM_eq, upM_uu, t221_219, t221_220, t221_222, t221_223, t221_224, t221_225, v221, t222_219, t222_220, t222_221, t222_223, t222_224, t222_225, v222, t223_219, t223_220, t223_221, t223_222, t223_224, t223_225, v223, w_220, w_221, w_222, w_223, w_224, w_225]
    rw [clr_ne (by omega)]
    refine r_iadd dd_Mod_frees_32 ⟨by omega, by omega⟩ ?_
    refine r_icmp_ge dd_Mod_frees_33 (fun c_33 => ?_) (fun c_33 => ?_)
    · refine r_aloadn dd_Mod_frees_61 rfl ?_
      refine r_getR dd_Mod_frees_62 fl_Mod_7 (kI := 0) rfl fr_Mod_0 vk_219 R0_219_0 ?_
      refine r_sip dd_Mod_frees_65 ⟨by decide, by decide⟩ ?_
      refine r_iloadn dd_Mod_frees_68 rfl ?_
      refine r_iadd dd_Mod_frees_69 ⟨by omega, by omega⟩ ?_
      refine r_bip dd_Mod_frees_70 ⟨by decide, by decide⟩ ?_
      refine r_iast dd_Mod_frees_72 (q := 12) (by decide) vk_220 (by omega) (by show _ < ((472 : Nat) : Int); omega) ?_
      try simp only [setO_at, setO_ss, upM_on, so_219, so_221, so_222, so_223, so_224, so_225, uo_219, uo_221, uo_222, uo_223, uo_224, uo_225, upM_eq, upM_uu, t221_219, t221_220, t221_222, t221_223, t221_224, t221_225, v221, t222_219, t222_220, t222_221, t222_223, t222_224, t222_225, v222, t223_219, t223_220, t223_221, t223_222, t223_224, t223_225, v223, w_220, w_221, w_222, w_223, w_224, w_225]
      have hw : w = f (128 + b) := by omega
      subst hw
      rw [show up1 (clrM f b (f (128 + b))) (192 + b) (-5) = m from (funext hm).symm]
      have hmz : m (128 + b) = f (128 + b) := by rw [hm, up1_ne (by omega), clr_ne (by omega)]
      have hmj : m 469 = f 469 := by rw [hm, up1_ne (by omega), clr_ne (by omega)]
      clear hm
      refine r_iloadn dd_Mod_frees_73 rfl ?_
      refine r_istoren (L' := [_, _, _, _, _, _, _, _]) dd_Mod_frees_74 rfl rfl ?_
      refine r_aloadn dd_Mod_frees_75 rfl ?_
      refine r_getR dd_Mod_frees_76 fl_Mod_7 (kI := 0) rfl fr_Mod_0 vk_219 R0_219_0 ?_
      refine r_sip dd_Mod_frees_79 ⟨by decide, by decide⟩ ?_
      refine r_iloadn dd_Mod_frees_82 rfl ?_
      refine r_iadd dd_Mod_frees_83 ⟨by omega, by omega⟩ ?_
      refine r_iald dd_Mod_frees_84 (q := 12) (by decide) vk_220 (by omega) (by show _ < ((472 : Nat) : Int); omega) ?_
      try simp only [setO_at, setO_ss, upM_on, so_219, so_221, so_222, so_223, so_224, so_225, uo_219, uo_221, uo_222, uo_223, uo_224, uo_225, upM_eq, upM_uu, t221_219, t221_220, t221_222, t221_223, t221_224, t221_225, v221, t222_219, t222_220, t222_221, t222_223, t222_224, t222_225, v222, t223_219, t223_220, t223_221, t223_222, t223_224, t223_225, v223, w_220, w_221, w_222, w_223, w_224, w_225]
      refine r_bip dd_Mod_frees_85 ⟨by decide, by decide⟩ ?_
      refine r_icmp_ge dd_Mod_frees_87 (fun c_87 => ?_) (fun c_87 => ?_)
      · refine r_iconst dd_Mod_frees_94 ⟨by decide, by decide⟩ ?_
        refine r_istore (L' := [_, _, _, _, _, _, _, _]) dd_Mod_frees_95 rfl rfl ?_
        refine r_iload dd_Mod_frees_97 rfl ?_
        refine r_if_eq dd_Mod_frees_99 (fun c_99 => ?_) (fun c_99 => ?_)
        · refine r_iloadn dd_Mod_frees_254 rfl ?_
          exact r_retI dd_Mod_frees_255 (by first | rfl | omega | exact (b2_t (by first | assumption | omega)).symm | exact (b2_f (by first | assumption | omega)).symm) (by unfold jnM; rw [if_neg (by omega), if_neg (by omega)])
        · exfalso; omega
      · refine r_iconst dd_Mod_frees_90 ⟨by decide, by decide⟩ ?_
        refine r_goto dd_Mod_frees_91 ?_
        refine r_istore (L' := [_, _, _, _, _, _, _, _]) dd_Mod_frees_95 rfl rfl ?_
        unfold jnM
        by_cases h4 : m (128 + b) = 4
        · rw [if_pos h4]
          exact jl_4 b0 (by omega) h4 (by omega)
        · rw [if_neg h4, if_pos (by omega)]
          exact jl_8 b0 (by omega) (by omega) (by omega)
    · exfalso; omega
  | succ n ih =>
    intro w h0 h1
    refine r_iloadn dd_Mod_frees_20 rfl ?_
    refine r_iloadn dd_Mod_frees_21 rfl ?_
    refine r_aloadn dd_Mod_frees_22 rfl ?_
    refine r_getR dd_Mod_frees_23 fl_Mod_7 (kI := 0) rfl fr_Mod_0 vk_219 R0_219_0 ?_
    refine r_sip dd_Mod_frees_26 ⟨by decide, by decide⟩ ?_
    refine r_iloadn dd_Mod_frees_29 rfl ?_
    refine r_iadd dd_Mod_frees_30 ⟨by omega, by omega⟩ ?_
    refine r_iald dd_Mod_frees_31 (q := 12) (by decide) vk_220 (by omega) (by show _ < ((472 : Nat) : Int); omega) ?_
    try simp only [setO_at, setO_ss, upM_on, so_219, so_221, so_222, so_223, so_224, so_225, uo_219, uo_221, uo_222, uo_223, uo_224, uo_225, upM_eq, upM_uu, t221_219, t221_220, t221_222, t221_223, t221_224, t221_225, v221, t222_219, t222_220, t222_221, t222_223, t222_224, t222_225, v222, t223_219, t223_220, t223_221, t223_222, t223_224, t223_225, v223, w_220, w_221, w_222, w_223, w_224, w_225]
    rw [clr_ne (by omega)]
    refine r_iadd dd_Mod_frees_32 ⟨by omega, by omega⟩ ?_
    refine r_icmp_ge dd_Mod_frees_33 (fun c_33 => ?_) (fun c_33 => ?_)
    · exfalso; omega
    · refine r_aloadn dd_Mod_frees_36 rfl ?_
      refine r_getR dd_Mod_frees_37 fl_Mod_7 (kI := 0) rfl fr_Mod_0 vk_219 R0_219_0 ?_
      refine r_iconst dd_Mod_frees_40 ⟨by decide, by decide⟩ ?_
      refine r_iloadn dd_Mod_frees_41 rfl ?_
      refine r_iadd dd_Mod_frees_42 ⟨by omega, by omega⟩ ?_
      refine r_iconst dd_Mod_frees_43 ⟨by decide, by decide⟩ ?_
      refine r_iast dd_Mod_frees_44 (q := 12) (by decide) vk_220 (by omega) (by show _ < ((472 : Nat) : Int); omega) ?_
      try simp only [setO_at, setO_ss, upM_on, so_219, so_221, so_222, so_223, so_224, so_225, uo_219, uo_221, uo_222, uo_223, uo_224, uo_225, upM_eq, upM_uu, t221_219, t221_220, t221_222, t221_223, t221_224, t221_225, v221, t222_219, t222_220, t222_221, t222_223, t222_224, t222_225, v222, t223_219, t223_220, t223_221, t223_222, t223_224, t223_225, v223, w_220, w_221, w_222, w_223, w_224, w_225]
      refine r_aloadn dd_Mod_frees_45 rfl ?_
      refine r_getR dd_Mod_frees_46 fl_Mod_7 (kI := 0) rfl fr_Mod_0 vk_219 R0_219_0 ?_
      refine r_bip dd_Mod_frees_49 ⟨by decide, by decide⟩ ?_
      refine r_iloadn dd_Mod_frees_51 rfl ?_
      refine r_iadd dd_Mod_frees_52 ⟨by omega, by omega⟩ ?_
      refine r_iconst dd_Mod_frees_53 ⟨by decide, by decide⟩ ?_
      refine r_iast dd_Mod_frees_54 (q := 12) (by decide) vk_220 (by omega) (by show _ < ((472 : Nat) : Int); omega) ?_
      try simp only [setO_at, setO_ss, upM_on, so_219, so_221, so_222, so_223, so_224, so_225, uo_219, uo_221, uo_222, uo_223, uo_224, uo_225, upM_eq, upM_uu, t221_219, t221_220, t221_222, t221_223, t221_224, t221_225, v221, t222_219, t222_220, t222_221, t222_223, t222_224, t222_225, v222, t223_219, t223_220, t223_221, t223_222, t223_224, t223_225, v223, w_220, w_221, w_222, w_223, w_224, w_225]
      refine r_iinc (L' := [_, _, _, _, _, _, _, _]) dd_Mod_frees_55 rfl ⟨by omega, by omega⟩ rfl ?_
      refine r_goto dd_Mod_frees_58 ?_
      refine r_to ?_ (r_loc (ih (w + 1) (by omega) (by omega)) (by rw [Int.add_assoc]))
      rw [clr_s h1]

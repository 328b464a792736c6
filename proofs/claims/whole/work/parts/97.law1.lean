/-! the law: one turn for each method -/
theorem rmL {t : Nat} (h : t ≤ 226) : rmOK mi_Law_law 0 t := rmOK_mono (t := 226) ⟨by decide +kernel, by decide +kernel⟩ h
theorem rmL_ : rmOK mi_Law_law 0 226 := rmL (Nat.le_refl _)
theorem law_out {μ : Int → Int → Int} {i : Int} (i0 : 0 ≤ i) (i1 : i ≤ 3000) (hl : 0 ≤ μ (-1) (-1) ∧ μ (-1) (-1) ≤ 2560) (h : μ (-1) (-1) - 5 < i) : SPW mi_Law_law 0 18 [some (vR (-1)), some (vR 0), some (vR 219), some (vI i)] [] (st μ) (some (vI 1)) (st μ) := by
  refine r_iloadn dd_Law_law_18 rfl ?_
  refine r_aloadn dd_Law_law_19 rfl ?_
  refine r_slen dd_Law_law_20 rfl ?_
  refine r_iconst dd_Law_law_21 ⟨by decide, by decide⟩ ?_
  refine r_isub dd_Law_law_22 ⟨by omega, by omega⟩ ?_
  refine r_icmp_gt dd_Law_law_23 (fun c_23 => ?_) (fun c_23 => ?_)
  · refine r_iconst dd_Law_law_807 ⟨by decide, by decide⟩ ?_
    exact r_retI dd_Law_law_808 (by first | rfl | omega | exact (b2_t (by first | assumption | omega)).symm | exact (b2_f (by first | assumption | omega)).symm) rfl
  · exfalso; omega
theorem law_in {μ : Int → Int → Int} {i : Int} {R : Option Vv} {Mf : Mm} (i0 : 0 ≤ i) (hl : 0 ≤ μ (-1) (-1) ∧ μ (-1) (-1) ≤ 2560) (h : ¬ μ (-1) (-1) - 5 < i) (kk : SPW mi_Law_law 0 32 [some (vR (-1)), some (vR 0), some (vR 219), some (vI i)] [vI (μ (-1) i % 32)] (st μ) R Mf) : SPW mi_Law_law 0 18 [some (vR (-1)), some (vR 0), some (vR 219), some (vI i)] [] (st μ) R Mf := by
  refine r_iloadn dd_Law_law_18 rfl ?_
  refine r_aloadn dd_Law_law_19 rfl ?_
  refine r_slen dd_Law_law_20 rfl ?_
  refine r_iconst dd_Law_law_21 ⟨by decide, by decide⟩ ?_
  refine r_isub dd_Law_law_22 ⟨by omega, by omega⟩ ?_
  refine r_icmp_gt dd_Law_law_23 (fun c_23 => ?_) (fun c_23 => ?_)
  · exfalso; omega
  · refine r_aloadn dd_Law_law_26 rfl ?_
    refine r_iloadn dd_Law_law_27 rfl ?_
    refine r_sld dd_Law_law_28 rfl (by omega) (by omega) ?_
    refine r_bip dd_Law_law_29 ⟨by decide, by decide⟩ ?_
    refine r_and31 dd_Law_law_31 ?_
    exact kk
theorem law_ask {μ μ1 μ2 : Int → Int → Int} {i r : Int} {R : Option Vv} {Mf : Mm} (i0 : 0 ≤ i) (hl : 0 ≤ μ (-1) (-1) ∧ μ (-1) (-1) ≤ 2560) (h : ¬ μ (-1) (-1) - 5 < i) (hz : μ (-1) i % 32 = 0)  (ca : MetC mi_Poo_ask [vR 0, vI (μ (-1) (i + 1)), vI (μ (-1) (i + 2))] (st μ) (some (vI r)) (st μ1)) (cb : MetC mi_Mod_ask [vR 219, vI (μ (-1) (i + 1)), vI (μ (-1) (i + 2))] (st μ1) (some (vI r)) (st μ2)) (e1 : ∀ k, μ1 (-1) k = μ (-1) k) (kk : SPW mi_Law_law 0 18 [some (vR (-1)), some (vR 0), some (vR 219), some (vI (i + 5))] [] (st μ2) R Mf) : SPW mi_Law_law 0 32 [some (vR (-1)), some (vR 0), some (vR 219), some (vI i)] [vI (μ (-1) i % 32)] (st μ) R Mf := by
  refine r_tabAt (tgt := 148) (off := 116) dd_Law_law_32 hz (by decide) rfl rfl ?_
  refine r_aloadn dd_Law_law_148 rfl ?_
  refine r_aloadn dd_Law_law_149 rfl ?_
  refine r_iloadn dd_Law_law_150 rfl ?_
  refine r_iconst dd_Law_law_151 ⟨by decide, by decide⟩ ?_
  refine r_iadd dd_Law_law_152 ⟨by omega, by omega⟩ ?_
  refine r_sld dd_Law_law_153 rfl (by omega) (by omega) ?_
  refine r_aloadn dd_Law_law_154 rfl ?_
  refine r_iloadn dd_Law_law_155 rfl ?_
  refine r_iconst dd_Law_law_156 ⟨by decide, by decide⟩ ?_
  refine r_iadd dd_Law_law_157 ⟨by omega, by omega⟩ ?_
  refine r_sld dd_Law_law_158 rfl (by omega) (by omega) ?_
  refine r_V2W dd_Law_law_159 ml_Law_13 ok_Poo_ask vi_Poo_ask vk_0 (by decide) (clS rfl (by decide) rmL_) rfl ca ?_
  refine r_aloadn dd_Law_law_162 rfl ?_
  refine r_aloadn dd_Law_law_163 rfl ?_
  refine r_iloadn dd_Law_law_164 rfl ?_
  refine r_iconst dd_Law_law_165 ⟨by decide, by decide⟩ ?_
  refine r_iadd dd_Law_law_166 ⟨by omega, by omega⟩ ?_
  refine r_sld dd_Law_law_167 rfl (by omega) (by rw [e1]; omega) ?_
  rw [e1]
  refine r_aloadn dd_Law_law_168 rfl ?_
  refine r_iloadn dd_Law_law_169 rfl ?_
  refine r_iconst dd_Law_law_170 ⟨by decide, by decide⟩ ?_
  refine r_iadd dd_Law_law_171 ⟨by omega, by omega⟩ ?_
  refine r_sld dd_Law_law_172 rfl (by omega) (by rw [e1]; omega) ?_
  rw [e1]
  refine r_V2W dd_Law_law_173 ml_Law_17 ok_Mod_ask vi_Mod_ask vk_219 (by decide) (clS rfl (by decide) rmL_) rfl cb ?_
  refine r_icmp_eq dd_Law_law_176 (fun c_176 => ?_) (fun c_176 => ?_)
  · refine r_iinc (L' := [_, _, _, _]) dd_Law_law_801 rfl ⟨by omega, by omega⟩ rfl ?_
    refine r_goto dd_Law_law_804 ?_
    exact kk
  · exfalso; omega
theorem law_giveBack {μ μ1 μ2 : Int → Int → Int} {i r : Int} {R : Option Vv} {Mf : Mm} (i0 : 0 ≤ i) (hl : 0 ≤ μ (-1) (-1) ∧ μ (-1) (-1) ≤ 2560) (h : ¬ μ (-1) (-1) - 5 < i) (hz : μ (-1) i % 32 = 1)  (ca : MetC mi_Poo_giveBack [vR 0, vI (μ (-1) (i + 1)), vI (μ (-1) (i + 2))] (st μ) (some (vI r)) (st μ1)) (cb : MetC mi_Mod_giveBack [vR 219, vI (μ (-1) (i + 1)), vI (μ (-1) (i + 2))] (st μ1) (some (vI r)) (st μ2)) (e1 : ∀ k, μ1 (-1) k = μ (-1) k) (kk : SPW mi_Law_law 0 18 [some (vR (-1)), some (vR 0), some (vR 219), some (vI (i + 5))] [] (st μ2) R Mf) : SPW mi_Law_law 0 32 [some (vR (-1)), some (vR 0), some (vR 219), some (vI i)] [vI (μ (-1) i % 32)] (st μ) R Mf := by
  refine r_tabAt (tgt := 181) (off := 149) dd_Law_law_32 hz (by decide) rfl rfl ?_
  refine r_aloadn dd_Law_law_181 rfl ?_
  refine r_aloadn dd_Law_law_182 rfl ?_
  refine r_iloadn dd_Law_law_183 rfl ?_
  refine r_iconst dd_Law_law_184 ⟨by decide, by decide⟩ ?_
  refine r_iadd dd_Law_law_185 ⟨by omega, by omega⟩ ?_
  refine r_sld dd_Law_law_186 rfl (by omega) (by omega) ?_
  refine r_aloadn dd_Law_law_187 rfl ?_
  refine r_iloadn dd_Law_law_188 rfl ?_
  refine r_iconst dd_Law_law_189 ⟨by decide, by decide⟩ ?_
  refine r_iadd dd_Law_law_190 ⟨by omega, by omega⟩ ?_
  refine r_sld dd_Law_law_191 rfl (by omega) (by omega) ?_
  refine r_V2W dd_Law_law_192 ml_Law_18 ok_Poo_giveBack vi_Poo_giveBack vk_0 (by decide) (clS rfl (by decide) rmL_) rfl ca ?_
  refine r_aloadn dd_Law_law_195 rfl ?_
  refine r_aloadn dd_Law_law_196 rfl ?_
  refine r_iloadn dd_Law_law_197 rfl ?_
  refine r_iconst dd_Law_law_198 ⟨by decide, by decide⟩ ?_
  refine r_iadd dd_Law_law_199 ⟨by omega, by omega⟩ ?_
  refine r_sld dd_Law_law_200 rfl (by omega) (by rw [e1]; omega) ?_
  rw [e1]
  refine r_aloadn dd_Law_law_201 rfl ?_
  refine r_iloadn dd_Law_law_202 rfl ?_
  refine r_iconst dd_Law_law_203 ⟨by decide, by decide⟩ ?_
  refine r_iadd dd_Law_law_204 ⟨by omega, by omega⟩ ?_
  refine r_sld dd_Law_law_205 rfl (by omega) (by rw [e1]; omega) ?_
  rw [e1]
  refine r_V2W dd_Law_law_206 ml_Law_21 ok_Mod_giveBack vi_Mod_giveBack vk_219 (by decide) (clS rfl (by decide) rmL_) rfl cb ?_
  refine r_icmp_eq dd_Law_law_209 (fun c_209 => ?_) (fun c_209 => ?_)
  · refine r_iinc (L' := [_, _, _, _]) dd_Law_law_801 rfl ⟨by omega, by omega⟩ rfl ?_
    refine r_goto dd_Law_law_804 ?_
    exact kk
  · exfalso; omega
theorem law_write {μ μ1 μ2 : Int → Int → Int} {i r : Int} {R : Option Vv} {Mf : Mm} (i0 : 0 ≤ i) (hl : 0 ≤ μ (-1) (-1) ∧ μ (-1) (-1) ≤ 2560) (h : ¬ μ (-1) (-1) - 5 < i) (hz : μ (-1) i % 32 = 2)  (ca : MetC mi_Poo_write [vR 0, vI (μ (-1) (i + 1)), vI (μ (-1) (i + 2)), vI (μ (-1) (i + 3)), vI (μ (-1) (i + 4))] (st μ) (some (vI r)) (st μ1)) (cb : MetC mi_Mod_write [vR 219, vI (μ (-1) (i + 1)), vI (μ (-1) (i + 2)), vI (μ (-1) (i + 3)), vI (μ (-1) (i + 4))] (st μ1) (some (vI r)) (st μ2)) (e1 : ∀ k, μ1 (-1) k = μ (-1) k) (kk : SPW mi_Law_law 0 18 [some (vR (-1)), some (vR 0), some (vR 219), some (vI (i + 5))] [] (st μ2) R Mf) : SPW mi_Law_law 0 32 [some (vR (-1)), some (vR 0), some (vR 219), some (vI i)] [vI (μ (-1) i % 32)] (st μ) R Mf := by
  refine r_tabAt (tgt := 214) (off := 182) dd_Law_law_32 hz (by decide) rfl rfl ?_
  refine r_aloadn dd_Law_law_214 rfl ?_
  refine r_aloadn dd_Law_law_215 rfl ?_
  refine r_iloadn dd_Law_law_216 rfl ?_
  refine r_iconst dd_Law_law_217 ⟨by decide, by decide⟩ ?_
  refine r_iadd dd_Law_law_218 ⟨by omega, by omega⟩ ?_
  refine r_sld dd_Law_law_219 rfl (by omega) (by omega) ?_
  refine r_aloadn dd_Law_law_220 rfl ?_
  refine r_iloadn dd_Law_law_221 rfl ?_
  refine r_iconst dd_Law_law_222 ⟨by decide, by decide⟩ ?_
  refine r_iadd dd_Law_law_223 ⟨by omega, by omega⟩ ?_
  refine r_sld dd_Law_law_224 rfl (by omega) (by omega) ?_
  refine r_aloadn dd_Law_law_225 rfl ?_
  refine r_iloadn dd_Law_law_226 rfl ?_
  refine r_iconst dd_Law_law_227 ⟨by decide, by decide⟩ ?_
  refine r_iadd dd_Law_law_228 ⟨by omega, by omega⟩ ?_
  refine r_sld dd_Law_law_229 rfl (by omega) (by omega) ?_
  refine r_aloadn dd_Law_law_230 rfl ?_
  refine r_iloadn dd_Law_law_231 rfl ?_
  refine r_iconst dd_Law_law_232 ⟨by decide, by decide⟩ ?_
  refine r_iadd dd_Law_law_233 ⟨by omega, by omega⟩ ?_
  refine r_sld dd_Law_law_234 rfl (by omega) (by omega) ?_
  refine r_V4W dd_Law_law_235 ml_Law_22 ok_Poo_write vi_Poo_write vk_0 (by decide) (clS rfl (by decide) rmL_) rfl ca ?_
  refine r_aloadn dd_Law_law_238 rfl ?_
  refine r_aloadn dd_Law_law_239 rfl ?_
  refine r_iloadn dd_Law_law_240 rfl ?_
  refine r_iconst dd_Law_law_241 ⟨by decide, by decide⟩ ?_
  refine r_iadd dd_Law_law_242 ⟨by omega, by omega⟩ ?_
  refine r_sld dd_Law_law_243 rfl (by omega) (by rw [e1]; omega) ?_
  rw [e1]
  refine r_aloadn dd_Law_law_244 rfl ?_
  refine r_iloadn dd_Law_law_245 rfl ?_
  refine r_iconst dd_Law_law_246 ⟨by decide, by decide⟩ ?_
  refine r_iadd dd_Law_law_247 ⟨by omega, by omega⟩ ?_
  refine r_sld dd_Law_law_248 rfl (by omega) (by rw [e1]; omega) ?_
  rw [e1]
  refine r_aloadn dd_Law_law_249 rfl ?_
  refine r_iloadn dd_Law_law_250 rfl ?_
  refine r_iconst dd_Law_law_251 ⟨by decide, by decide⟩ ?_
  refine r_iadd dd_Law_law_252 ⟨by omega, by omega⟩ ?_
  refine r_sld dd_Law_law_253 rfl (by omega) (by rw [e1]; omega) ?_
  rw [e1]
  refine r_aloadn dd_Law_law_254 rfl ?_
  refine r_iloadn dd_Law_law_255 rfl ?_
  refine r_iconst dd_Law_law_256 ⟨by decide, by decide⟩ ?_
  refine r_iadd dd_Law_law_257 ⟨by omega, by omega⟩ ?_
  refine r_sld dd_Law_law_258 rfl (by omega) (by rw [e1]; omega) ?_
  rw [e1]
  refine r_V4W dd_Law_law_259 ml_Law_26 ok_Mod_write vi_Mod_write vk_219 (by decide) (clS rfl (by decide) rmL_) rfl cb ?_
  refine r_icmp_eq dd_Law_law_262 (fun c_262 => ?_) (fun c_262 => ?_)
  · refine r_iinc (L' := [_, _, _, _]) dd_Law_law_801 rfl ⟨by omega, by omega⟩ rfl ?_
    refine r_goto dd_Law_law_804 ?_
    exact kk
  · exfalso; omega
theorem law_touch {μ μ1 μ2 : Int → Int → Int} {i r : Int} {R : Option Vv} {Mf : Mm} (i0 : 0 ≤ i) (hl : 0 ≤ μ (-1) (-1) ∧ μ (-1) (-1) ≤ 2560) (h : ¬ μ (-1) (-1) - 5 < i) (hz : μ (-1) i % 32 = 3)  (ca : MetC mi_Poo_touch [vR 0, vI (μ (-1) (i + 1))] (st μ) (some (vI r)) (st μ1)) (cb : MetC mi_Mod_touch [vR 219, vI (μ (-1) (i + 1))] (st μ1) (some (vI r)) (st μ2)) (e1 : ∀ k, μ1 (-1) k = μ (-1) k) (kk : SPW mi_Law_law 0 18 [some (vR (-1)), some (vR 0), some (vR 219), some (vI (i + 5))] [] (st μ2) R Mf) : SPW mi_Law_law 0 32 [some (vR (-1)), some (vR 0), some (vR 219), some (vI i)] [vI (μ (-1) i % 32)] (st μ) R Mf := by
  refine r_tabAt (tgt := 267) (off := 235) dd_Law_law_32 hz (by decide) rfl rfl ?_
  refine r_aloadn dd_Law_law_267 rfl ?_
  refine r_aloadn dd_Law_law_268 rfl ?_
  refine r_iloadn dd_Law_law_269 rfl ?_
  refine r_iconst dd_Law_law_270 ⟨by decide, by decide⟩ ?_
  refine r_iadd dd_Law_law_271 ⟨by omega, by omega⟩ ?_
  refine r_sld dd_Law_law_272 rfl (by omega) (by omega) ?_
  refine r_V1W dd_Law_law_273 ml_Law_27 ok_Poo_touch vi_Poo_touch vk_0 (by decide) (clS rfl (by decide) rmL_) rfl ca ?_
  refine r_aloadn dd_Law_law_276 rfl ?_
  refine r_aloadn dd_Law_law_277 rfl ?_
  refine r_iloadn dd_Law_law_278 rfl ?_
  refine r_iconst dd_Law_law_279 ⟨by decide, by decide⟩ ?_
  refine r_iadd dd_Law_law_280 ⟨by omega, by omega⟩ ?_
  refine r_sld dd_Law_law_281 rfl (by omega) (by rw [e1]; omega) ?_
  rw [e1]
  refine r_V1W dd_Law_law_282 ml_Law_31 ok_Mod_touch vi_Mod_touch vk_219 (by decide) (clS rfl (by decide) rmL_) rfl cb ?_
  refine r_icmp_eq dd_Law_law_285 (fun c_285 => ?_) (fun c_285 => ?_)
  · refine r_iinc (L' := [_, _, _, _]) dd_Law_law_801 rfl ⟨by omega, by omega⟩ rfl ?_
    refine r_goto dd_Law_law_804 ?_
    exact kk
  · exfalso; omega
theorem law_live_0 {μ μ1 μ2 : Int → Int → Int} {i r : Int} {R : Option Vv} {Mf : Mm} (i0 : 0 ≤ i) (hl : 0 ≤ μ (-1) (-1) ∧ μ (-1) (-1) ≤ 2560) (h : ¬ μ (-1) (-1) - 5 < i) (hz : μ (-1) i % 32 = 4) (h4 : μ (-1) (i + 2) = 0) (ca : MetC mi_Poo_live [vR 0, vI (μ (-1) (i + 1)), vI 0] (st μ) (some (vI r)) (st μ1)) (cb : MetC mi_Mod_live [vR 219, vI (μ (-1) (i + 1)), vI 0] (st μ1) (some (vI r)) (st μ2)) (e1 : ∀ k, μ1 (-1) k = μ (-1) k) (kk : SPW mi_Law_law 0 18 [some (vR (-1)), some (vR 0), some (vR 219), some (vI (i + 5))] [] (st μ2) R Mf) : SPW mi_Law_law 0 32 [some (vR (-1)), some (vR 0), some (vR 219), some (vI i)] [vI (μ (-1) i % 32)] (st μ) R Mf := by
  refine r_tabAt (tgt := 290) (off := 258) dd_Law_law_32 hz (by decide) rfl rfl ?_
  refine r_aloadn dd_Law_law_290 rfl ?_
  refine r_aloadn dd_Law_law_291 rfl ?_
  refine r_iloadn dd_Law_law_292 rfl ?_
  refine r_iconst dd_Law_law_293 ⟨by decide, by decide⟩ ?_
  refine r_iadd dd_Law_law_294 ⟨by omega, by omega⟩ ?_
  refine r_sld dd_Law_law_295 rfl (by omega) (by omega) ?_
  refine r_aloadn dd_Law_law_296 rfl ?_
  refine r_iloadn dd_Law_law_297 rfl ?_
  refine r_iconst dd_Law_law_298 ⟨by decide, by decide⟩ ?_
  refine r_iadd dd_Law_law_299 ⟨by omega, by omega⟩ ?_
  refine r_sld dd_Law_law_300 rfl (by omega) (by omega) ?_
  refine r_if_eq dd_Law_law_301 (fun c_301 => ?_) (fun c_301 => ?_)
  · refine r_iconst dd_Law_law_308 ⟨by decide, by decide⟩ ?_
    refine r_V2W dd_Law_law_309 ml_Law_32 ok_Poo_live vi_Poo_live vk_0 (by decide) (clS rfl (by decide) rmL_) rfl ca ?_
    refine r_aloadn dd_Law_law_312 rfl ?_
    refine r_aloadn dd_Law_law_313 rfl ?_
    refine r_iloadn dd_Law_law_314 rfl ?_
    refine r_iconst dd_Law_law_315 ⟨by decide, by decide⟩ ?_
    refine r_iadd dd_Law_law_316 ⟨by omega, by omega⟩ ?_
    refine r_sld dd_Law_law_317 rfl (by omega) (by rw [e1]; omega) ?_
    rw [e1]
    refine r_aloadn dd_Law_law_318 rfl ?_
    refine r_iloadn dd_Law_law_319 rfl ?_
    refine r_iconst dd_Law_law_320 ⟨by decide, by decide⟩ ?_
    refine r_iadd dd_Law_law_321 ⟨by omega, by omega⟩ ?_
    refine r_sld dd_Law_law_322 rfl (by omega) (by rw [e1]; omega) ?_
    rw [e1]
    refine r_if_eq dd_Law_law_323 (fun c_323 => ?_) (fun c_323 => ?_)
    · refine r_iconst dd_Law_law_330 ⟨by decide, by decide⟩ ?_
      refine r_V2W dd_Law_law_331 ml_Law_36 ok_Mod_live vi_Mod_live vk_219 (by decide) (clS rfl (by decide) rmL_) rfl cb ?_
      refine r_icmp_eq dd_Law_law_334 (fun c_334 => ?_) (fun c_334 => ?_)
      · refine r_iinc (L' := [_, _, _, _]) dd_Law_law_801 rfl ⟨by omega, by omega⟩ rfl ?_
        refine r_goto dd_Law_law_804 ?_
        exact kk
      · exfalso; omega
    · exfalso; omega
  · exfalso; omega
theorem law_live_1 {μ μ1 μ2 : Int → Int → Int} {i r : Int} {R : Option Vv} {Mf : Mm} (i0 : 0 ≤ i) (hl : 0 ≤ μ (-1) (-1) ∧ μ (-1) (-1) ≤ 2560) (h : ¬ μ (-1) (-1) - 5 < i) (hz : μ (-1) i % 32 = 4) (h4 : ¬ μ (-1) (i + 2) = 0) (ca : MetC mi_Poo_live [vR 0, vI (μ (-1) (i + 1)), vI 1] (st μ) (some (vI r)) (st μ1)) (cb : MetC mi_Mod_live [vR 219, vI (μ (-1) (i + 1)), vI 1] (st μ1) (some (vI r)) (st μ2)) (e1 : ∀ k, μ1 (-1) k = μ (-1) k) (kk : SPW mi_Law_law 0 18 [some (vR (-1)), some (vR 0), some (vR 219), some (vI (i + 5))] [] (st μ2) R Mf) : SPW mi_Law_law 0 32 [some (vR (-1)), some (vR 0), some (vR 219), some (vI i)] [vI (μ (-1) i % 32)] (st μ) R Mf := by
  refine r_tabAt (tgt := 290) (off := 258) dd_Law_law_32 hz (by decide) rfl rfl ?_
  refine r_aloadn dd_Law_law_290 rfl ?_
  refine r_aloadn dd_Law_law_291 rfl ?_
  refine r_iloadn dd_Law_law_292 rfl ?_
  refine r_iconst dd_Law_law_293 ⟨by decide, by decide⟩ ?_
  refine r_iadd dd_Law_law_294 ⟨by omega, by omega⟩ ?_
  refine r_sld dd_Law_law_295 rfl (by omega) (by omega) ?_
  refine r_aloadn dd_Law_law_296 rfl ?_
  refine r_iloadn dd_Law_law_297 rfl ?_
  refine r_iconst dd_Law_law_298 ⟨by decide, by decide⟩ ?_
  refine r_iadd dd_Law_law_299 ⟨by omega, by omega⟩ ?_
  refine r_sld dd_Law_law_300 rfl (by omega) (by omega) ?_
  refine r_if_eq dd_Law_law_301 (fun c_301 => ?_) (fun c_301 => ?_)
  · exfalso; omega
  · refine r_iconst dd_Law_law_304 ⟨by decide, by decide⟩ ?_
    refine r_goto dd_Law_law_305 ?_
    refine r_V2W dd_Law_law_309 ml_Law_32 ok_Poo_live vi_Poo_live vk_0 (by decide) (clS rfl (by decide) rmL_) rfl ca ?_
    refine r_aloadn dd_Law_law_312 rfl ?_
    refine r_aloadn dd_Law_law_313 rfl ?_
    refine r_iloadn dd_Law_law_314 rfl ?_
    refine r_iconst dd_Law_law_315 ⟨by decide, by decide⟩ ?_
    refine r_iadd dd_Law_law_316 ⟨by omega, by omega⟩ ?_
    refine r_sld dd_Law_law_317 rfl (by omega) (by rw [e1]; omega) ?_
    rw [e1]
    refine r_aloadn dd_Law_law_318 rfl ?_
    refine r_iloadn dd_Law_law_319 rfl ?_
    refine r_iconst dd_Law_law_320 ⟨by decide, by decide⟩ ?_
    refine r_iadd dd_Law_law_321 ⟨by omega, by omega⟩ ?_
    refine r_sld dd_Law_law_322 rfl (by omega) (by rw [e1]; omega) ?_
    rw [e1]
    refine r_if_eq dd_Law_law_323 (fun c_323 => ?_) (fun c_323 => ?_)
    · exfalso; omega
    · refine r_iconst dd_Law_law_326 ⟨by decide, by decide⟩ ?_
      refine r_goto dd_Law_law_327 ?_
      refine r_V2W dd_Law_law_331 ml_Law_36 ok_Mod_live vi_Mod_live vk_219 (by decide) (clS rfl (by decide) rmL_) rfl cb ?_
      refine r_icmp_eq dd_Law_law_334 (fun c_334 => ?_) (fun c_334 => ?_)
      · refine r_iinc (L' := [_, _, _, _]) dd_Law_law_801 rfl ⟨by omega, by omega⟩ rfl ?_
        refine r_goto dd_Law_law_804 ?_
        exact kk
      · exfalso; omega
theorem law_setLimit {μ μ1 μ2 : Int → Int → Int} {i r : Int} {R : Option Vv} {Mf : Mm} (i0 : 0 ≤ i) (hl : 0 ≤ μ (-1) (-1) ∧ μ (-1) (-1) ≤ 2560) (h : ¬ μ (-1) (-1) - 5 < i) (hz : μ (-1) i % 32 = 5)  (ca : MetC mi_Poo_setLimit [vR 0, vI (μ (-1) (i + 1)), vI (μ (-1) (i + 2))] (st μ) (some (vI r)) (st μ1)) (cb : MetC mi_Mod_setLimit [vR 219, vI (μ (-1) (i + 1)), vI (μ (-1) (i + 2))] (st μ1) (some (vI r)) (st μ2)) (e1 : ∀ k, μ1 (-1) k = μ (-1) k) (kk : SPW mi_Law_law 0 18 [some (vR (-1)), some (vR 0), some (vR 219), some (vI (i + 5))] [] (st μ2) R Mf) : SPW mi_Law_law 0 32 [some (vR (-1)), some (vR 0), some (vR 219), some (vI i)] [vI (μ (-1) i % 32)] (st μ) R Mf := by
  refine r_tabAt (tgt := 339) (off := 307) dd_Law_law_32 hz (by decide) rfl rfl ?_
  refine r_aloadn dd_Law_law_339 rfl ?_
  refine r_aloadn dd_Law_law_340 rfl ?_
  refine r_iloadn dd_Law_law_341 rfl ?_
  refine r_iconst dd_Law_law_342 ⟨by decide, by decide⟩ ?_
  refine r_iadd dd_Law_law_343 ⟨by omega, by omega⟩ ?_
  refine r_sld dd_Law_law_344 rfl (by omega) (by omega) ?_
  refine r_aloadn dd_Law_law_345 rfl ?_
  refine r_iloadn dd_Law_law_346 rfl ?_
  refine r_iconst dd_Law_law_347 ⟨by decide, by decide⟩ ?_
  refine r_iadd dd_Law_law_348 ⟨by omega, by omega⟩ ?_
  refine r_sld dd_Law_law_349 rfl (by omega) (by omega) ?_
  refine r_V2W dd_Law_law_350 ml_Law_37 ok_Poo_setLimit vi_Poo_setLimit vk_0 (by decide) (clS rfl (by decide) rmL_) rfl ca ?_
  refine r_aloadn dd_Law_law_353 rfl ?_
  refine r_aloadn dd_Law_law_354 rfl ?_
  refine r_iloadn dd_Law_law_355 rfl ?_
  refine r_iconst dd_Law_law_356 ⟨by decide, by decide⟩ ?_
  refine r_iadd dd_Law_law_357 ⟨by omega, by omega⟩ ?_
  refine r_sld dd_Law_law_358 rfl (by omega) (by rw [e1]; omega) ?_
  rw [e1]
  refine r_aloadn dd_Law_law_359 rfl ?_
  refine r_iloadn dd_Law_law_360 rfl ?_
  refine r_iconst dd_Law_law_361 ⟨by decide, by decide⟩ ?_
  refine r_iadd dd_Law_law_362 ⟨by omega, by omega⟩ ?_
  refine r_sld dd_Law_law_363 rfl (by omega) (by rw [e1]; omega) ?_
  rw [e1]
  refine r_V2W dd_Law_law_364 ml_Law_40 ok_Mod_setLimit vi_Mod_setLimit vk_219 (by decide) (clS rfl (by decide) rmL_) rfl cb ?_
  refine r_icmp_eq dd_Law_law_367 (fun c_367 => ?_) (fun c_367 => ?_)
  · refine r_iinc (L' := [_, _, _, _]) dd_Law_law_801 rfl ⟨by omega, by omega⟩ rfl ?_
    refine r_goto dd_Law_law_804 ?_
    exact kk
  · exfalso; omega
theorem law_setPatience {μ μ1 μ2 : Int → Int → Int} {i r : Int} {R : Option Vv} {Mf : Mm} (i0 : 0 ≤ i) (hl : 0 ≤ μ (-1) (-1) ∧ μ (-1) (-1) ≤ 2560) (h : ¬ μ (-1) (-1) - 5 < i) (hz : μ (-1) i % 32 = 6)  (ca : MetC mi_Poo_setPatience [vR 0, vI (μ (-1) (i + 1))] (st μ) (some (vI r)) (st μ1)) (cb : MetC mi_Mod_setPatience [vR 219, vI (μ (-1) (i + 1))] (st μ1) (some (vI r)) (st μ2)) (e1 : ∀ k, μ1 (-1) k = μ (-1) k) (kk : SPW mi_Law_law 0 18 [some (vR (-1)), some (vR 0), some (vR 219), some (vI (i + 5))] [] (st μ2) R Mf) : SPW mi_Law_law 0 32 [some (vR (-1)), some (vR 0), some (vR 219), some (vI i)] [vI (μ (-1) i % 32)] (st μ) R Mf := by
  refine r_tabAt (tgt := 372) (off := 340) dd_Law_law_32 hz (by decide) rfl rfl ?_
  refine r_aloadn dd_Law_law_372 rfl ?_
  refine r_aloadn dd_Law_law_373 rfl ?_
  refine r_iloadn dd_Law_law_374 rfl ?_
  refine r_iconst dd_Law_law_375 ⟨by decide, by decide⟩ ?_
  refine r_iadd dd_Law_law_376 ⟨by omega, by omega⟩ ?_
  refine r_sld dd_Law_law_377 rfl (by omega) (by omega) ?_
  refine r_V1W dd_Law_law_378 ml_Law_41 ok_Poo_setPatience vi_Poo_setPatience vk_0 (by decide) (clS rfl (by decide) rmL_) rfl ca ?_
  refine r_aloadn dd_Law_law_381 rfl ?_
  refine r_aloadn dd_Law_law_382 rfl ?_
  refine r_iloadn dd_Law_law_383 rfl ?_
  refine r_iconst dd_Law_law_384 ⟨by decide, by decide⟩ ?_
  refine r_iadd dd_Law_law_385 ⟨by omega, by omega⟩ ?_
  refine r_sld dd_Law_law_386 rfl (by omega) (by rw [e1]; omega) ?_
  rw [e1]
  refine r_V1W dd_Law_law_387 ml_Law_44 ok_Mod_setPatience vi_Mod_setPatience vk_219 (by decide) (clS rfl (by decide) rmL_) rfl cb ?_
  refine r_icmp_eq dd_Law_law_390 (fun c_390 => ?_) (fun c_390 => ?_)
  · refine r_iinc (L' := [_, _, _, _]) dd_Law_law_801 rfl ⟨by omega, by omega⟩ rfl ?_
    refine r_goto dd_Law_law_804 ?_
    exact kk
  · exfalso; omega
theorem law_pass {μ μ1 μ2 : Int → Int → Int} {i r : Int} {R : Option Vv} {Mf : Mm} (i0 : 0 ≤ i) (hl : 0 ≤ μ (-1) (-1) ∧ μ (-1) (-1) ≤ 2560) (h : ¬ μ (-1) (-1) - 5 < i) (hz : μ (-1) i % 32 = 7)  (ca : MetC mi_Poo_pass [vR 0, vI (μ (-1) (i + 1))] (st μ) (some (vI r)) (st μ1)) (cb : MetC mi_Mod_pass [vR 219, vI (μ (-1) (i + 1))] (st μ1) (some (vI r)) (st μ2)) (e1 : ∀ k, μ1 (-1) k = μ (-1) k) (kk : SPW mi_Law_law 0 18 [some (vR (-1)), some (vR 0), some (vR 219), some (vI (i + 5))] [] (st μ2) R Mf) : SPW mi_Law_law 0 32 [some (vR (-1)), some (vR 0), some (vR 219), some (vI i)] [vI (μ (-1) i % 32)] (st μ) R Mf := by
  refine r_tabAt (tgt := 395) (off := 363) dd_Law_law_32 hz (by decide) rfl rfl ?_
  refine r_aloadn dd_Law_law_395 rfl ?_
  refine r_aloadn dd_Law_law_396 rfl ?_
  refine r_iloadn dd_Law_law_397 rfl ?_
  refine r_iconst dd_Law_law_398 ⟨by decide, by decide⟩ ?_
  refine r_iadd dd_Law_law_399 ⟨by omega, by omega⟩ ?_
  refine r_sld dd_Law_law_400 rfl (by omega) (by omega) ?_
  refine r_V1W dd_Law_law_401 ml_Law_45 ok_Poo_pass vi_Poo_pass vk_0 (by decide) (clS rfl (by decide) rmL_) rfl ca ?_
  refine r_aloadn dd_Law_law_404 rfl ?_
  refine r_aloadn dd_Law_law_405 rfl ?_
  refine r_iloadn dd_Law_law_406 rfl ?_
  refine r_iconst dd_Law_law_407 ⟨by decide, by decide⟩ ?_
  refine r_iadd dd_Law_law_408 ⟨by omega, by omega⟩ ?_
  refine r_sld dd_Law_law_409 rfl (by omega) (by rw [e1]; omega) ?_
  rw [e1]
  refine r_V1W dd_Law_law_410 ml_Law_48 ok_Mod_pass vi_Mod_pass vk_219 (by decide) (clS rfl (by decide) rmL_) rfl cb ?_
  refine r_icmp_eq dd_Law_law_413 (fun c_413 => ?_) (fun c_413 => ?_)
  · refine r_iinc (L' := [_, _, _, _]) dd_Law_law_801 rfl ⟨by omega, by omega⟩ rfl ?_
    refine r_goto dd_Law_law_804 ?_
    exact kk
  · exfalso; omega
theorem law_sweep {μ μ1 μ2 : Int → Int → Int} {i r : Int} {R : Option Vv} {Mf : Mm} (i0 : 0 ≤ i) (hl : 0 ≤ μ (-1) (-1) ∧ μ (-1) (-1) ≤ 2560) (h : ¬ μ (-1) (-1) - 5 < i) (hz : μ (-1) i % 32 = 8)  (ca : MetC mi_Poo_sweep [vR 0] (st μ) (some (vI r)) (st μ1)) (cb : MetC mi_Mod_sweep [vR 219] (st μ1) (some (vI r)) (st μ2)) (e1 : ∀ k, μ1 (-1) k = μ (-1) k) (kk : SPW mi_Law_law 0 18 [some (vR (-1)), some (vR 0), some (vR 219), some (vI (i + 5))] [] (st μ2) R Mf) : SPW mi_Law_law 0 32 [some (vR (-1)), some (vR 0), some (vR 219), some (vI i)] [vI (μ (-1) i % 32)] (st μ) R Mf := by
  refine r_tabAt (tgt := 418) (off := 386) dd_Law_law_32 hz (by decide) rfl rfl ?_
  refine r_aloadn dd_Law_law_418 rfl ?_
  refine r_V0W dd_Law_law_419 ml_Law_49 ok_Poo_sweep vi_Poo_sweep vk_0 (by decide) (clS rfl (by decide) rmL_) rfl ca ?_
  refine r_aloadn dd_Law_law_422 rfl ?_
  refine r_V0W dd_Law_law_423 ml_Law_53 ok_Mod_sweep vi_Mod_sweep vk_219 (by decide) (clS rfl (by decide) rmL_) rfl cb ?_
  refine r_icmp_eq dd_Law_law_426 (fun c_426 => ?_) (fun c_426 => ?_)
  · refine r_iinc (L' := [_, _, _, _]) dd_Law_law_801 rfl ⟨by omega, by omega⟩ rfl ?_
    refine r_goto dd_Law_law_804 ?_
    exact kk
  · exfalso; omega
theorem law_type {μ μ1 μ2 : Int → Int → Int} {i r : Int} {R : Option Vv} {Mf : Mm} (i0 : 0 ≤ i) (hl : 0 ≤ μ (-1) (-1) ∧ μ (-1) (-1) ≤ 2560) (h : ¬ μ (-1) (-1) - 5 < i) (hz : μ (-1) i % 32 = 9)  (ca : MetC mi_Poo_type [vR 0, vI (μ (-1) (i + 1) % 65536)] (st μ) (some (vI r)) (st μ1)) (cb : MetC mi_Mod_type [vR 219, vI (μ (-1) (i + 1) % 65536)] (st μ1) (some (vI r)) (st μ2)) (e1 : ∀ k, μ1 (-1) k = μ (-1) k) (kk : SPW mi_Law_law 0 18 [some (vR (-1)), some (vR 0), some (vR 219), some (vI (i + 5))] [] (st μ2) R Mf) : SPW mi_Law_law 0 32 [some (vR (-1)), some (vR 0), some (vR 219), some (vI i)] [vI (μ (-1) i % 32)] (st μ) R Mf := by
  refine r_tabAt (tgt := 431) (off := 399) dd_Law_law_32 hz (by decide) rfl rfl ?_
  refine r_aloadn dd_Law_law_431 rfl ?_
  refine r_aloadn dd_Law_law_432 rfl ?_
  refine r_iloadn dd_Law_law_433 rfl ?_
  refine r_iconst dd_Law_law_434 ⟨by decide, by decide⟩ ?_
  refine r_iadd dd_Law_law_435 ⟨by omega, by omega⟩ ?_
  refine r_sld dd_Law_law_436 rfl (by omega) (by omega) ?_
  refine r_i2c dd_Law_law_437 ?_
  refine r_V1W dd_Law_law_438 ml_Law_54 ok_Poo_type vi_Poo_type vk_0 (by decide) (clS rfl (by decide) rmL_) rfl ca ?_
  refine r_aloadn dd_Law_law_441 rfl ?_
  refine r_aloadn dd_Law_law_442 rfl ?_
  refine r_iloadn dd_Law_law_443 rfl ?_
  refine r_iconst dd_Law_law_444 ⟨by decide, by decide⟩ ?_
  refine r_iadd dd_Law_law_445 ⟨by omega, by omega⟩ ?_
  refine r_sld dd_Law_law_446 rfl (by omega) (by rw [e1]; omega) ?_
  rw [e1]
  refine r_i2c dd_Law_law_447 ?_
  refine r_V1W dd_Law_law_448 ml_Law_58 ok_Mod_type vi_Mod_type vk_219 (by decide) (clS rfl (by decide) rmL_) rfl cb ?_
  refine r_icmp_eq dd_Law_law_451 (fun c_451 => ?_) (fun c_451 => ?_)
  · refine r_iinc (L' := [_, _, _, _]) dd_Law_law_801 rfl ⟨by omega, by omega⟩ rfl ?_
    refine r_goto dd_Law_law_804 ?_
    exact kk
  · exfalso; omega
theorem law_clearText {μ μ1 μ2 : Int → Int → Int} {i r : Int} {R : Option Vv} {Mf : Mm} (i0 : 0 ≤ i) (hl : 0 ≤ μ (-1) (-1) ∧ μ (-1) (-1) ≤ 2560) (h : ¬ μ (-1) (-1) - 5 < i) (hz : μ (-1) i % 32 = 10)  (ca : MetC mi_Poo_clearText [vR 0] (st μ) (some (vI r)) (st μ1)) (cb : MetC mi_Mod_clearText [vR 219] (st μ1) (some (vI r)) (st μ2)) (e1 : ∀ k, μ1 (-1) k = μ (-1) k) (kk : SPW mi_Law_law 0 18 [some (vR (-1)), some (vR 0), some (vR 219), some (vI (i + 5))] [] (st μ2) R Mf) : SPW mi_Law_law 0 32 [some (vR (-1)), some (vR 0), some (vR 219), some (vI i)] [vI (μ (-1) i % 32)] (st μ) R Mf := by
  refine r_tabAt (tgt := 456) (off := 424) dd_Law_law_32 hz (by decide) rfl rfl ?_
  refine r_aloadn dd_Law_law_456 rfl ?_
  refine r_V0W dd_Law_law_457 ml_Law_59 ok_Poo_clearText vi_Poo_clearText vk_0 (by decide) (clS rfl (by decide) rmL_) rfl ca ?_
  refine r_aloadn dd_Law_law_460 rfl ?_
  refine r_V0W dd_Law_law_461 ml_Law_62 ok_Mod_clearText vi_Mod_clearText vk_219 (by decide) (clS rfl (by decide) rmL_) rfl cb ?_
  refine r_icmp_eq dd_Law_law_464 (fun c_464 => ?_) (fun c_464 => ?_)
  · refine r_iinc (L' := [_, _, _, _]) dd_Law_law_801 rfl ⟨by omega, by omega⟩ rfl ?_
    refine r_goto dd_Law_law_804 ?_
    exact kk
  · exfalso; omega
theorem law_perform {μ μ1 μ2 : Int → Int → Int} {i r : Int} {R : Option Vv} {Mf : Mm} (i0 : 0 ≤ i) (hl : 0 ≤ μ (-1) (-1) ∧ μ (-1) (-1) ≤ 2560) (h : ¬ μ (-1) (-1) - 5 < i) (hz : μ (-1) i % 32 = 11)  (ca : MetC mi_Poo_perform [vR 0] (st μ) (some (vI r)) (st μ1)) (cb : MetC mi_Mod_perform [vR 219] (st μ1) (some (vI r)) (st μ2)) (e1 : ∀ k, μ1 (-1) k = μ (-1) k) (kk : SPW mi_Law_law 0 18 [some (vR (-1)), some (vR 0), some (vR 219), some (vI (i + 5))] [] (st μ2) R Mf) : SPW mi_Law_law 0 32 [some (vR (-1)), some (vR 0), some (vR 219), some (vI i)] [vI (μ (-1) i % 32)] (st μ) R Mf := by
  refine r_tabAt (tgt := 469) (off := 437) dd_Law_law_32 hz (by decide) rfl rfl ?_
  refine r_aloadn dd_Law_law_469 rfl ?_
  refine r_V0W dd_Law_law_470 ml_Law_63 ok_Poo_perform vi_Poo_perform vk_0 (by decide) (clS rfl (by decide) rmL_) rfl ca ?_
  refine r_aloadn dd_Law_law_473 rfl ?_
  refine r_V0W dd_Law_law_474 ml_Law_66 ok_Mod_perform vi_Mod_perform vk_219 (by decide) (clS rfl (by decide) rmL_) rfl cb ?_
  refine r_icmp_eq dd_Law_law_477 (fun c_477 => ?_) (fun c_477 => ?_)
  · refine r_iinc (L' := [_, _, _, _]) dd_Law_law_801 rfl ⟨by omega, by omega⟩ rfl ?_
    refine r_goto dd_Law_law_804 ?_
    exact kk
  · exfalso; omega
theorem law_stopped {μ μ1 μ2 : Int → Int → Int} {i r : Int} {R : Option Vv} {Mf : Mm} (i0 : 0 ≤ i) (hl : 0 ≤ μ (-1) (-1) ∧ μ (-1) (-1) ≤ 2560) (h : ¬ μ (-1) (-1) - 5 < i) (hz : μ (-1) i % 32 = 12)  (ca : MetC mi_Poo_stopped [vR 0, vI (μ (-1) (i + 1))] (st μ) (some (vI r)) (st μ1)) (cb : MetC mi_Mod_stopped [vR 219, vI (μ (-1) (i + 1))] (st μ1) (some (vI r)) (st μ2)) (e1 : ∀ k, μ1 (-1) k = μ (-1) k) (kk : SPW mi_Law_law 0 18 [some (vR (-1)), some (vR 0), some (vR 219), some (vI (i + 5))] [] (st μ2) R Mf) : SPW mi_Law_law 0 32 [some (vR (-1)), some (vR 0), some (vR 219), some (vI i)] [vI (μ (-1) i % 32)] (st μ) R Mf := by
  refine r_tabAt (tgt := 482) (off := 450) dd_Law_law_32 hz (by decide) rfl rfl ?_
  refine r_aloadn dd_Law_law_482 rfl ?_
  refine r_aloadn dd_Law_law_483 rfl ?_
  refine r_iloadn dd_Law_law_484 rfl ?_
  refine r_iconst dd_Law_law_485 ⟨by decide, by decide⟩ ?_
  refine r_iadd dd_Law_law_486 ⟨by omega, by omega⟩ ?_
  refine r_sld dd_Law_law_487 rfl (by omega) (by omega) ?_
  refine r_V1W dd_Law_law_488 ml_Law_67 ok_Poo_stopped vi_Poo_stopped vk_0 (by decide) (clS rfl (by decide) rmL_) rfl ca ?_
  refine r_aloadn dd_Law_law_491 rfl ?_
  refine r_aloadn dd_Law_law_492 rfl ?_
  refine r_iloadn dd_Law_law_493 rfl ?_
  refine r_iconst dd_Law_law_494 ⟨by decide, by decide⟩ ?_
  refine r_iadd dd_Law_law_495 ⟨by omega, by omega⟩ ?_
  refine r_sld dd_Law_law_496 rfl (by omega) (by rw [e1]; omega) ?_
  rw [e1]
  refine r_V1W dd_Law_law_497 ml_Law_70 ok_Mod_stopped vi_Mod_stopped vk_219 (by decide) (clS rfl (by decide) rmL_) rfl cb ?_
  refine r_icmp_eq dd_Law_law_500 (fun c_500 => ?_) (fun c_500 => ?_)
  · refine r_iinc (L' := [_, _, _, _]) dd_Law_law_801 rfl ⟨by omega, by omega⟩ rfl ?_
    refine r_goto dd_Law_law_804 ?_
    exact kk
  · exfalso; omega
theorem law_undo {μ μ1 μ2 : Int → Int → Int} {i r : Int} {R : Option Vv} {Mf : Mm} (i0 : 0 ≤ i) (hl : 0 ≤ μ (-1) (-1) ∧ μ (-1) (-1) ≤ 2560) (h : ¬ μ (-1) (-1) - 5 < i) (hz : μ (-1) i % 32 = 13)  (ca : MetC mi_Poo_undo [vR 0] (st μ) (some (vI r)) (st μ1)) (cb : MetC mi_Mod_undo [vR 219] (st μ1) (some (vI r)) (st μ2)) (e1 : ∀ k, μ1 (-1) k = μ (-1) k) (kk : SPW mi_Law_law 0 18 [some (vR (-1)), some (vR 0), some (vR 219), some (vI (i + 5))] [] (st μ2) R Mf) : SPW mi_Law_law 0 32 [some (vR (-1)), some (vR 0), some (vR 219), some (vI i)] [vI (μ (-1) i % 32)] (st μ) R Mf := by
  refine r_tabAt (tgt := 505) (off := 473) dd_Law_law_32 hz (by decide) rfl rfl ?_
  refine r_aloadn dd_Law_law_505 rfl ?_
  refine r_V0W dd_Law_law_506 ml_Law_71 ok_Poo_undo vi_Poo_undo vk_0 (by decide) (clS rfl (by decide) rmL_) rfl ca ?_
  refine r_aloadn dd_Law_law_509 rfl ?_
  refine r_V0W dd_Law_law_510 ml_Law_74 ok_Mod_undo vi_Mod_undo vk_219 (by decide) (clS rfl (by decide) rmL_) rfl cb ?_
  refine r_icmp_eq dd_Law_law_513 (fun c_513 => ?_) (fun c_513 => ?_)
  · refine r_iinc (L' := [_, _, _, _]) dd_Law_law_801 rfl ⟨by omega, by omega⟩ rfl ?_
    refine r_goto dd_Law_law_804 ?_
    exact kk
  · exfalso; omega
theorem law_keep {μ μ1 μ2 : Int → Int → Int} {i r : Int} {R : Option Vv} {Mf : Mm} (i0 : 0 ≤ i) (hl : 0 ≤ μ (-1) (-1) ∧ μ (-1) (-1) ≤ 2560) (h : ¬ μ (-1) (-1) - 5 < i) (hz : μ (-1) i % 32 = 14)  (ca : MetC mi_Poo_keep [vR 0] (st μ) (some (vI r)) (st μ1)) (cb : MetC mi_Mod_keep [vR 219] (st μ1) (some (vI r)) (st μ2)) (e1 : ∀ k, μ1 (-1) k = μ (-1) k) (kk : SPW mi_Law_law 0 18 [some (vR (-1)), some (vR 0), some (vR 219), some (vI (i + 5))] [] (st μ2) R Mf) : SPW mi_Law_law 0 32 [some (vR (-1)), some (vR 0), some (vR 219), some (vI i)] [vI (μ (-1) i % 32)] (st μ) R Mf := by
  refine r_tabAt (tgt := 518) (off := 486) dd_Law_law_32 hz (by decide) rfl rfl ?_
  refine r_aloadn dd_Law_law_518 rfl ?_
  refine r_V0W dd_Law_law_519 ml_Law_75 ok_Poo_keep vi_Poo_keep vk_0 (by decide) (clS rfl (by decide) rmL_) rfl ca ?_
  refine r_aloadn dd_Law_law_522 rfl ?_
  refine r_V0W dd_Law_law_523 ml_Law_78 ok_Mod_keep vi_Mod_keep vk_219 (by decide) (clS rfl (by decide) rmL_) rfl cb ?_
  refine r_icmp_eq dd_Law_law_526 (fun c_526 => ?_) (fun c_526 => ?_)
  · refine r_iinc (L' := [_, _, _, _]) dd_Law_law_801 rfl ⟨by omega, by omega⟩ rfl ?_
    refine r_goto dd_Law_law_804 ?_
    exact kk
  · exfalso; omega
theorem law_restore {μ μ1 μ2 : Int → Int → Int} {i r : Int} {R : Option Vv} {Mf : Mm} (i0 : 0 ≤ i) (hl : 0 ≤ μ (-1) (-1) ∧ μ (-1) (-1) ≤ 2560) (h : ¬ μ (-1) (-1) - 5 < i) (hz : μ (-1) i % 32 = 15)  (ca : MetC mi_Poo_restore [vR 0] (st μ) (some (vI r)) (st μ1)) (cb : MetC mi_Mod_restore [vR 219] (st μ1) (some (vI r)) (st μ2)) (e1 : ∀ k, μ1 (-1) k = μ (-1) k) (kk : SPW mi_Law_law 0 18 [some (vR (-1)), some (vR 0), some (vR 219), some (vI (i + 5))] [] (st μ2) R Mf) : SPW mi_Law_law 0 32 [some (vR (-1)), some (vR 0), some (vR 219), some (vI i)] [vI (μ (-1) i % 32)] (st μ) R Mf := by
  refine r_tabAt (tgt := 531) (off := 499) dd_Law_law_32 hz (by decide) rfl rfl ?_
  refine r_aloadn dd_Law_law_531 rfl ?_
  refine r_V0W dd_Law_law_532 ml_Law_79 ok_Poo_restore vi_Poo_restore vk_0 (by decide) (clS rfl (by decide) rmL_) rfl ca ?_
  refine r_aloadn dd_Law_law_535 rfl ?_
  refine r_V0W dd_Law_law_536 ml_Law_82 ok_Mod_restore vi_Mod_restore vk_219 (by decide) (clS rfl (by decide) rmL_) rfl cb ?_
  refine r_icmp_eq dd_Law_law_539 (fun c_539 => ?_) (fun c_539 => ?_)
  · refine r_iinc (L' := [_, _, _, _]) dd_Law_law_801 rfl ⟨by omega, by omega⟩ rfl ?_
    refine r_goto dd_Law_law_804 ?_
    exact kk
  · exfalso; omega
theorem law_block {μ μ1 μ2 : Int → Int → Int} {i r : Int} {R : Option Vv} {Mf : Mm} (i0 : 0 ≤ i) (hl : 0 ≤ μ (-1) (-1) ∧ μ (-1) (-1) ≤ 2560) (h : ¬ μ (-1) (-1) - 5 < i) (hz : μ (-1) i % 32 = 16)  (ca : MetC mi_Poo_block [vR 0, vI (μ (-1) (i + 1)), vI (μ (-1) (i + 2))] (st μ) (some (vI r)) (st μ1)) (cb : MetC mi_Mod_block [vR 219, vI (μ (-1) (i + 1)), vI (μ (-1) (i + 2))] (st μ1) (some (vI r)) (st μ2)) (e1 : ∀ k, μ1 (-1) k = μ (-1) k) (kk : SPW mi_Law_law 0 18 [some (vR (-1)), some (vR 0), some (vR 219), some (vI (i + 5))] [] (st μ2) R Mf) : SPW mi_Law_law 0 32 [some (vR (-1)), some (vR 0), some (vR 219), some (vI i)] [vI (μ (-1) i % 32)] (st μ) R Mf := by
  refine r_tabAt (tgt := 544) (off := 512) dd_Law_law_32 hz (by decide) rfl rfl ?_
  refine r_aloadn dd_Law_law_544 rfl ?_
  refine r_aloadn dd_Law_law_545 rfl ?_
  refine r_iloadn dd_Law_law_546 rfl ?_
  refine r_iconst dd_Law_law_547 ⟨by decide, by decide⟩ ?_
  refine r_iadd dd_Law_law_548 ⟨by omega, by omega⟩ ?_
  refine r_sld dd_Law_law_549 rfl (by omega) (by omega) ?_
  refine r_aloadn dd_Law_law_550 rfl ?_
  refine r_iloadn dd_Law_law_551 rfl ?_
  refine r_iconst dd_Law_law_552 ⟨by decide, by decide⟩ ?_
  refine r_iadd dd_Law_law_553 ⟨by omega, by omega⟩ ?_
  refine r_sld dd_Law_law_554 rfl (by omega) (by omega) ?_
  refine r_V2W dd_Law_law_555 ml_Law_83 ok_Poo_block vi_Poo_block vk_0 (by decide) (clS rfl (by decide) rmL_) rfl ca ?_
  refine r_aloadn dd_Law_law_558 rfl ?_
  refine r_aloadn dd_Law_law_559 rfl ?_
  refine r_iloadn dd_Law_law_560 rfl ?_
  refine r_iconst dd_Law_law_561 ⟨by decide, by decide⟩ ?_
  refine r_iadd dd_Law_law_562 ⟨by omega, by omega⟩ ?_
  refine r_sld dd_Law_law_563 rfl (by omega) (by rw [e1]; omega) ?_
  rw [e1]
  refine r_aloadn dd_Law_law_564 rfl ?_
  refine r_iloadn dd_Law_law_565 rfl ?_
  refine r_iconst dd_Law_law_566 ⟨by decide, by decide⟩ ?_
  refine r_iadd dd_Law_law_567 ⟨by omega, by omega⟩ ?_
  refine r_sld dd_Law_law_568 rfl (by omega) (by rw [e1]; omega) ?_
  rw [e1]
  refine r_V2W dd_Law_law_569 ml_Law_86 ok_Mod_block vi_Mod_block vk_219 (by decide) (clS rfl (by decide) rmL_) rfl cb ?_
  refine r_icmp_eq dd_Law_law_572 (fun c_572 => ?_) (fun c_572 => ?_)
  · refine r_iinc (L' := [_, _, _, _]) dd_Law_law_801 rfl ⟨by omega, by omega⟩ rfl ?_
    refine r_goto dd_Law_law_804 ?_
    exact kk
  · exfalso; omega
theorem law_word {μ μ1 μ2 : Int → Int → Int} {i r : Int} {R : Option Vv} {Mf : Mm} (i0 : 0 ≤ i) (hl : 0 ≤ μ (-1) (-1) ∧ μ (-1) (-1) ≤ 2560) (h : ¬ μ (-1) (-1) - 5 < i) (hz : μ (-1) i % 32 = 17)  (ca : MetC mi_Poo_word [vR 0, vI (μ (-1) (i + 1)), vI (μ (-1) (i + 2))] (st μ) (some (vI r)) (st μ1)) (cb : MetC mi_Mod_word [vR 219, vI (μ (-1) (i + 1)), vI (μ (-1) (i + 2))] (st μ1) (some (vI r)) (st μ2)) (e1 : ∀ k, μ1 (-1) k = μ (-1) k) (kk : SPW mi_Law_law 0 18 [some (vR (-1)), some (vR 0), some (vR 219), some (vI (i + 5))] [] (st μ2) R Mf) : SPW mi_Law_law 0 32 [some (vR (-1)), some (vR 0), some (vR 219), some (vI i)] [vI (μ (-1) i % 32)] (st μ) R Mf := by
  refine r_tabAt (tgt := 577) (off := 545) dd_Law_law_32 hz (by decide) rfl rfl ?_
  refine r_aloadn dd_Law_law_577 rfl ?_
  refine r_aloadn dd_Law_law_578 rfl ?_
  refine r_iloadn dd_Law_law_579 rfl ?_
  refine r_iconst dd_Law_law_580 ⟨by decide, by decide⟩ ?_
  refine r_iadd dd_Law_law_581 ⟨by omega, by omega⟩ ?_
  refine r_sld dd_Law_law_582 rfl (by omega) (by omega) ?_
  refine r_aloadn dd_Law_law_583 rfl ?_
  refine r_iloadn dd_Law_law_584 rfl ?_
  refine r_iconst dd_Law_law_585 ⟨by decide, by decide⟩ ?_
  refine r_iadd dd_Law_law_586 ⟨by omega, by omega⟩ ?_
  refine r_sld dd_Law_law_587 rfl (by omega) (by omega) ?_
  refine r_V2W dd_Law_law_588 ml_Law_87 ok_Poo_word vi_Poo_word vk_0 (by decide) (clS rfl (by decide) rmL_) rfl ca ?_
  refine r_aloadn dd_Law_law_591 rfl ?_
  refine r_aloadn dd_Law_law_592 rfl ?_
  refine r_iloadn dd_Law_law_593 rfl ?_
  refine r_iconst dd_Law_law_594 ⟨by decide, by decide⟩ ?_
  refine r_iadd dd_Law_law_595 ⟨by omega, by omega⟩ ?_
  refine r_sld dd_Law_law_596 rfl (by omega) (by rw [e1]; omega) ?_
  rw [e1]
  refine r_aloadn dd_Law_law_597 rfl ?_
  refine r_iloadn dd_Law_law_598 rfl ?_
  refine r_iconst dd_Law_law_599 ⟨by decide, by decide⟩ ?_
  refine r_iadd dd_Law_law_600 ⟨by omega, by omega⟩ ?_
  refine r_sld dd_Law_law_601 rfl (by omega) (by rw [e1]; omega) ?_
  rw [e1]
  refine r_V2W dd_Law_law_602 ml_Law_90 ok_Mod_word vi_Mod_word vk_219 (by decide) (clS rfl (by decide) rmL_) rfl cb ?_
  refine r_icmp_eq dd_Law_law_605 (fun c_605 => ?_) (fun c_605 => ?_)
  · refine r_iinc (L' := [_, _, _, _]) dd_Law_law_801 rfl ⟨by omega, by omega⟩ rfl ?_
    refine r_goto dd_Law_law_804 ?_
    exact kk
  · exfalso; omega
theorem law_task {μ μ1 μ2 : Int → Int → Int} {i r : Int} {R : Option Vv} {Mf : Mm} (i0 : 0 ≤ i) (hl : 0 ≤ μ (-1) (-1) ∧ μ (-1) (-1) ≤ 2560) (h : ¬ μ (-1) (-1) - 5 < i) (hz : μ (-1) i % 32 = 18)  (ca : MetC mi_Poo_task [vR 0, vI (μ (-1) (i + 1)), vI (μ (-1) (i + 2))] (st μ) (some (vI r)) (st μ1)) (cb : MetC mi_Mod_task [vR 219, vI (μ (-1) (i + 1)), vI (μ (-1) (i + 2))] (st μ1) (some (vI r)) (st μ2)) (e1 : ∀ k, μ1 (-1) k = μ (-1) k) (kk : SPW mi_Law_law 0 18 [some (vR (-1)), some (vR 0), some (vR 219), some (vI (i + 5))] [] (st μ2) R Mf) : SPW mi_Law_law 0 32 [some (vR (-1)), some (vR 0), some (vR 219), some (vI i)] [vI (μ (-1) i % 32)] (st μ) R Mf := by
  refine r_tabAt (tgt := 610) (off := 578) dd_Law_law_32 hz (by decide) rfl rfl ?_
  refine r_aloadn dd_Law_law_610 rfl ?_
  refine r_aloadn dd_Law_law_611 rfl ?_
  refine r_iloadn dd_Law_law_612 rfl ?_
  refine r_iconst dd_Law_law_613 ⟨by decide, by decide⟩ ?_
  refine r_iadd dd_Law_law_614 ⟨by omega, by omega⟩ ?_
  refine r_sld dd_Law_law_615 rfl (by omega) (by omega) ?_
  refine r_aloadn dd_Law_law_616 rfl ?_
  refine r_iloadn dd_Law_law_617 rfl ?_
  refine r_iconst dd_Law_law_618 ⟨by decide, by decide⟩ ?_
  refine r_iadd dd_Law_law_619 ⟨by omega, by omega⟩ ?_
  refine r_sld dd_Law_law_620 rfl (by omega) (by omega) ?_
  refine r_V2W dd_Law_law_621 ml_Law_91 ok_Poo_task vi_Poo_task vk_0 (by decide) (clS rfl (by decide) rmL_) rfl ca ?_
  refine r_aloadn dd_Law_law_624 rfl ?_
  refine r_aloadn dd_Law_law_625 rfl ?_
  refine r_iloadn dd_Law_law_626 rfl ?_
  refine r_iconst dd_Law_law_627 ⟨by decide, by decide⟩ ?_
  refine r_iadd dd_Law_law_628 ⟨by omega, by omega⟩ ?_
  refine r_sld dd_Law_law_629 rfl (by omega) (by rw [e1]; omega) ?_
  rw [e1]
  refine r_aloadn dd_Law_law_630 rfl ?_
  refine r_iloadn dd_Law_law_631 rfl ?_
  refine r_iconst dd_Law_law_632 ⟨by decide, by decide⟩ ?_
  refine r_iadd dd_Law_law_633 ⟨by omega, by omega⟩ ?_
  refine r_sld dd_Law_law_634 rfl (by omega) (by rw [e1]; omega) ?_
  rw [e1]
  refine r_V2W dd_Law_law_635 ml_Law_94 ok_Mod_task vi_Mod_task vk_219 (by decide) (clS rfl (by decide) rmL_) rfl cb ?_
  refine r_icmp_eq dd_Law_law_638 (fun c_638 => ?_) (fun c_638 => ?_)
  · refine r_iinc (L' := [_, _, _, _]) dd_Law_law_801 rfl ⟨by omega, by omega⟩ rfl ?_
    refine r_goto dd_Law_law_804 ?_
    exact kk
  · exfalso; omega
theorem law_reason {μ μ1 μ2 : Int → Int → Int} {i r : Int} {R : Option Vv} {Mf : Mm} (i0 : 0 ≤ i) (hl : 0 ≤ μ (-1) (-1) ∧ μ (-1) (-1) ≤ 2560) (h : ¬ μ (-1) (-1) - 5 < i) (hz : μ (-1) i % 32 = 19)  (ca : MetC mi_Poo_reason [vR 0, vI (μ (-1) (i + 1)), vI (μ (-1) (i + 2))] (st μ) (some (vI r)) (st μ1)) (cb : MetC mi_Mod_reason [vR 219, vI (μ (-1) (i + 1)), vI (μ (-1) (i + 2))] (st μ1) (some (vI r)) (st μ2)) (e1 : ∀ k, μ1 (-1) k = μ (-1) k) (kk : SPW mi_Law_law 0 18 [some (vR (-1)), some (vR 0), some (vR 219), some (vI (i + 5))] [] (st μ2) R Mf) : SPW mi_Law_law 0 32 [some (vR (-1)), some (vR 0), some (vR 219), some (vI i)] [vI (μ (-1) i % 32)] (st μ) R Mf := by
  refine r_tabAt (tgt := 643) (off := 611) dd_Law_law_32 hz (by decide) rfl rfl ?_
  refine r_aloadn dd_Law_law_643 rfl ?_
  refine r_aloadn dd_Law_law_644 rfl ?_
  refine r_iloadn dd_Law_law_645 rfl ?_
  refine r_iconst dd_Law_law_646 ⟨by decide, by decide⟩ ?_
  refine r_iadd dd_Law_law_647 ⟨by omega, by omega⟩ ?_
  refine r_sld dd_Law_law_648 rfl (by omega) (by omega) ?_
  refine r_aloadn dd_Law_law_649 rfl ?_
  refine r_iloadn dd_Law_law_650 rfl ?_
  refine r_iconst dd_Law_law_651 ⟨by decide, by decide⟩ ?_
  refine r_iadd dd_Law_law_652 ⟨by omega, by omega⟩ ?_
  refine r_sld dd_Law_law_653 rfl (by omega) (by omega) ?_
  refine r_V2W dd_Law_law_654 ml_Law_95 ok_Poo_reason vi_Poo_reason vk_0 (by decide) (clS rfl (by decide) rmL_) rfl ca ?_
  refine r_aloadn dd_Law_law_657 rfl ?_
  refine r_aloadn dd_Law_law_658 rfl ?_
  refine r_iloadn dd_Law_law_659 rfl ?_
  refine r_iconst dd_Law_law_660 ⟨by decide, by decide⟩ ?_
  refine r_iadd dd_Law_law_661 ⟨by omega, by omega⟩ ?_
  refine r_sld dd_Law_law_662 rfl (by omega) (by rw [e1]; omega) ?_
  rw [e1]
  refine r_aloadn dd_Law_law_663 rfl ?_
  refine r_iloadn dd_Law_law_664 rfl ?_
  refine r_iconst dd_Law_law_665 ⟨by decide, by decide⟩ ?_
  refine r_iadd dd_Law_law_666 ⟨by omega, by omega⟩ ?_
  refine r_sld dd_Law_law_667 rfl (by omega) (by rw [e1]; omega) ?_
  rw [e1]
  refine r_V2W dd_Law_law_668 ml_Law_98 ok_Mod_reason vi_Mod_reason vk_219 (by decide) (clS rfl (by decide) rmL_) rfl cb ?_
  refine r_icmp_eq dd_Law_law_671 (fun c_671 => ?_) (fun c_671 => ?_)
  · refine r_iinc (L' := [_, _, _, _]) dd_Law_law_801 rfl ⟨by omega, by omega⟩ rfl ?_
    refine r_goto dd_Law_law_804 ?_
    exact kk
  · exfalso; omega
theorem law_greatest {μ μ1 μ2 : Int → Int → Int} {i r : Int} {R : Option Vv} {Mf : Mm} (i0 : 0 ≤ i) (hl : 0 ≤ μ (-1) (-1) ∧ μ (-1) (-1) ≤ 2560) (h : ¬ μ (-1) (-1) - 5 < i) (hz : μ (-1) i % 32 = 20)  (ca : MetC mi_Poo_greatest [vR 0, vI (μ (-1) (i + 1))] (st μ) (some (vI r)) (st μ1)) (cb : MetC mi_Mod_greatest [vR 219, vI (μ (-1) (i + 1))] (st μ1) (some (vI r)) (st μ2)) (e1 : ∀ k, μ1 (-1) k = μ (-1) k) (kk : SPW mi_Law_law 0 18 [some (vR (-1)), some (vR 0), some (vR 219), some (vI (i + 5))] [] (st μ2) R Mf) : SPW mi_Law_law 0 32 [some (vR (-1)), some (vR 0), some (vR 219), some (vI i)] [vI (μ (-1) i % 32)] (st μ) R Mf := by
  refine r_tabAt (tgt := 676) (off := 644) dd_Law_law_32 hz (by decide) rfl rfl ?_
  refine r_aloadn dd_Law_law_676 rfl ?_
  refine r_aloadn dd_Law_law_677 rfl ?_
  refine r_iloadn dd_Law_law_678 rfl ?_
  refine r_iconst dd_Law_law_679 ⟨by decide, by decide⟩ ?_
  refine r_iadd dd_Law_law_680 ⟨by omega, by omega⟩ ?_
  refine r_sld dd_Law_law_681 rfl (by omega) (by omega) ?_
  refine r_V1W dd_Law_law_682 ml_Law_99 ok_Poo_greatest vi_Poo_greatest vk_0 (by decide) (clS rfl (by decide) rmL_) rfl ca ?_
  refine r_aloadn dd_Law_law_685 rfl ?_
  refine r_aloadn dd_Law_law_686 rfl ?_
  refine r_iloadn dd_Law_law_687 rfl ?_
  refine r_iconst dd_Law_law_688 ⟨by decide, by decide⟩ ?_
  refine r_iadd dd_Law_law_689 ⟨by omega, by omega⟩ ?_
  refine r_sld dd_Law_law_690 rfl (by omega) (by rw [e1]; omega) ?_
  rw [e1]
  refine r_V1W dd_Law_law_691 ml_Law_102 ok_Mod_greatest vi_Mod_greatest vk_219 (by decide) (clS rfl (by decide) rmL_) rfl cb ?_
  refine r_icmp_eq dd_Law_law_694 (fun c_694 => ?_) (fun c_694 => ?_)
  · refine r_iinc (L' := [_, _, _, _]) dd_Law_law_801 rfl ⟨by omega, by omega⟩ rfl ?_
    refine r_goto dd_Law_law_804 ?_
    exact kk
  · exfalso; omega
theorem law_leak {μ μ1 μ2 : Int → Int → Int} {i r : Int} {R : Option Vv} {Mf : Mm} (i0 : 0 ≤ i) (hl : 0 ≤ μ (-1) (-1) ∧ μ (-1) (-1) ≤ 2560) (h : ¬ μ (-1) (-1) - 5 < i) (hz : μ (-1) i % 32 = 21)  (ca : MetC mi_Poo_leak [vR 0, vI (μ (-1) (i + 1))] (st μ) (some (vI r)) (st μ1)) (cb : MetC mi_Mod_leak [vR 219, vI (μ (-1) (i + 1))] (st μ1) (some (vI r)) (st μ2)) (e1 : ∀ k, μ1 (-1) k = μ (-1) k) (kk : SPW mi_Law_law 0 18 [some (vR (-1)), some (vR 0), some (vR 219), some (vI (i + 5))] [] (st μ2) R Mf) : SPW mi_Law_law 0 32 [some (vR (-1)), some (vR 0), some (vR 219), some (vI i)] [vI (μ (-1) i % 32)] (st μ) R Mf := by
  refine r_tabAt (tgt := 699) (off := 667) dd_Law_law_32 hz (by decide) rfl rfl ?_
  refine r_aloadn dd_Law_law_699 rfl ?_
  refine r_aloadn dd_Law_law_700 rfl ?_
  refine r_iloadn dd_Law_law_701 rfl ?_
  refine r_iconst dd_Law_law_702 ⟨by decide, by decide⟩ ?_
  refine r_iadd dd_Law_law_703 ⟨by omega, by omega⟩ ?_
  refine r_sld dd_Law_law_704 rfl (by omega) (by omega) ?_
  refine r_V1W dd_Law_law_705 ml_Law_103 ok_Poo_leak vi_Poo_leak vk_0 (by decide) (clS rfl (by decide) rmL_) rfl ca ?_
  refine r_aloadn dd_Law_law_708 rfl ?_
  refine r_aloadn dd_Law_law_709 rfl ?_
  refine r_iloadn dd_Law_law_710 rfl ?_
  refine r_iconst dd_Law_law_711 ⟨by decide, by decide⟩ ?_
  refine r_iadd dd_Law_law_712 ⟨by omega, by omega⟩ ?_
  refine r_sld dd_Law_law_713 rfl (by omega) (by rw [e1]; omega) ?_
  rw [e1]
  refine r_V1W dd_Law_law_714 ml_Law_106 ok_Mod_leak vi_Mod_leak vk_219 (by decide) (clS rfl (by decide) rmL_) rfl cb ?_
  refine r_icmp_eq dd_Law_law_717 (fun c_717 => ?_) (fun c_717 => ?_)
  · refine r_iinc (L' := [_, _, _, _]) dd_Law_law_801 rfl ⟨by omega, by omega⟩ rfl ?_
    refine r_goto dd_Law_law_804 ?_
    exact kk
  · exfalso; omega
theorem law_refused {μ μ1 μ2 : Int → Int → Int} {i r : Int} {R : Option Vv} {Mf : Mm} (i0 : 0 ≤ i) (hl : 0 ≤ μ (-1) (-1) ∧ μ (-1) (-1) ≤ 2560) (h : ¬ μ (-1) (-1) - 5 < i) (hz : μ (-1) i % 32 = 22)  (ca : MetC mi_Poo_refused [vR 0, vI (μ (-1) (i + 1))] (st μ) (some (vI r)) (st μ1)) (cb : MetC mi_Mod_refused [vR 219, vI (μ (-1) (i + 1))] (st μ1) (some (vI r)) (st μ2)) (e1 : ∀ k, μ1 (-1) k = μ (-1) k) (kk : SPW mi_Law_law 0 18 [some (vR (-1)), some (vR 0), some (vR 219), some (vI (i + 5))] [] (st μ2) R Mf) : SPW mi_Law_law 0 32 [some (vR (-1)), some (vR 0), some (vR 219), some (vI i)] [vI (μ (-1) i % 32)] (st μ) R Mf := by
  refine r_tabAt (tgt := 722) (off := 690) dd_Law_law_32 hz (by decide) rfl rfl ?_
  refine r_aloadn dd_Law_law_722 rfl ?_
  refine r_aloadn dd_Law_law_723 rfl ?_
  refine r_iloadn dd_Law_law_724 rfl ?_
  refine r_iconst dd_Law_law_725 ⟨by decide, by decide⟩ ?_
  refine r_iadd dd_Law_law_726 ⟨by omega, by omega⟩ ?_
  refine r_sld dd_Law_law_727 rfl (by omega) (by omega) ?_
  refine r_V1W dd_Law_law_728 ml_Law_107 ok_Poo_refused vi_Poo_refused vk_0 (by decide) (clS rfl (by decide) rmL_) rfl ca ?_
  refine r_aloadn dd_Law_law_731 rfl ?_
  refine r_aloadn dd_Law_law_732 rfl ?_
  refine r_iloadn dd_Law_law_733 rfl ?_
  refine r_iconst dd_Law_law_734 ⟨by decide, by decide⟩ ?_
  refine r_iadd dd_Law_law_735 ⟨by omega, by omega⟩ ?_
  refine r_sld dd_Law_law_736 rfl (by omega) (by rw [e1]; omega) ?_
  rw [e1]
  refine r_V1W dd_Law_law_737 ml_Law_110 ok_Mod_refused vi_Mod_refused vk_219 (by decide) (clS rfl (by decide) rmL_) rfl cb ?_
  refine r_icmp_eq dd_Law_law_740 (fun c_740 => ?_) (fun c_740 => ?_)
  · refine r_iinc (L' := [_, _, _, _]) dd_Law_law_801 rfl ⟨by omega, by omega⟩ rfl ?_
    refine r_goto dd_Law_law_804 ?_
    exact kk
  · exfalso; omega
theorem law_size {μ μ1 μ2 : Int → Int → Int} {i r : Int} {R : Option Vv} {Mf : Mm} (i0 : 0 ≤ i) (hl : 0 ≤ μ (-1) (-1) ∧ μ (-1) (-1) ≤ 2560) (h : ¬ μ (-1) (-1) - 5 < i) (hz : μ (-1) i % 32 = 23)  (ca : MetC mi_Poo_size [vR 0, vI (μ (-1) (i + 1)), vI (μ (-1) (i + 2))] (st μ) (some (vI r)) (st μ1)) (cb : MetC mi_Mod_size [vR 219, vI (μ (-1) (i + 1)), vI (μ (-1) (i + 2))] (st μ1) (some (vI r)) (st μ2)) (e1 : ∀ k, μ1 (-1) k = μ (-1) k) (kk : SPW mi_Law_law 0 18 [some (vR (-1)), some (vR 0), some (vR 219), some (vI (i + 5))] [] (st μ2) R Mf) : SPW mi_Law_law 0 32 [some (vR (-1)), some (vR 0), some (vR 219), some (vI i)] [vI (μ (-1) i % 32)] (st μ) R Mf := by
  refine r_tabAt (tgt := 745) (off := 713) dd_Law_law_32 hz (by decide) rfl rfl ?_
  refine r_aloadn dd_Law_law_745 rfl ?_
  refine r_aloadn dd_Law_law_746 rfl ?_
  refine r_iloadn dd_Law_law_747 rfl ?_
  refine r_iconst dd_Law_law_748 ⟨by decide, by decide⟩ ?_
  refine r_iadd dd_Law_law_749 ⟨by omega, by omega⟩ ?_
  refine r_sld dd_Law_law_750 rfl (by omega) (by omega) ?_
  refine r_aloadn dd_Law_law_751 rfl ?_
  refine r_iloadn dd_Law_law_752 rfl ?_
  refine r_iconst dd_Law_law_753 ⟨by decide, by decide⟩ ?_
  refine r_iadd dd_Law_law_754 ⟨by omega, by omega⟩ ?_
  refine r_sld dd_Law_law_755 rfl (by omega) (by omega) ?_
  refine r_V2W dd_Law_law_756 ml_Law_111 ok_Poo_size vi_Poo_size vk_0 (by decide) (clS rfl (by decide) rmL_) rfl ca ?_
  refine r_aloadn dd_Law_law_759 rfl ?_
  refine r_aloadn dd_Law_law_760 rfl ?_
  refine r_iloadn dd_Law_law_761 rfl ?_
  refine r_iconst dd_Law_law_762 ⟨by decide, by decide⟩ ?_
  refine r_iadd dd_Law_law_763 ⟨by omega, by omega⟩ ?_
  refine r_sld dd_Law_law_764 rfl (by omega) (by rw [e1]; omega) ?_
  rw [e1]
  refine r_aloadn dd_Law_law_765 rfl ?_
  refine r_iloadn dd_Law_law_766 rfl ?_
  refine r_iconst dd_Law_law_767 ⟨by decide, by decide⟩ ?_
  refine r_iadd dd_Law_law_768 ⟨by omega, by omega⟩ ?_
  refine r_sld dd_Law_law_769 rfl (by omega) (by rw [e1]; omega) ?_
  rw [e1]
  refine r_V2W dd_Law_law_770 ml_Law_114 ok_Mod_size vi_Mod_size vk_219 (by decide) (clS rfl (by decide) rmL_) rfl cb ?_
  refine r_icmp_eq dd_Law_law_773 (fun c_773 => ?_) (fun c_773 => ?_)
  · refine r_iinc (L' := [_, _, _, _]) dd_Law_law_801 rfl ⟨by omega, by omega⟩ rfl ?_
    refine r_goto dd_Law_law_804 ?_
    exact kk
  · exfalso; omega
theorem law_count {μ μ1 μ2 : Int → Int → Int} {i r : Int} {R : Option Vv} {Mf : Mm} (i0 : 0 ≤ i) (hl : 0 ≤ μ (-1) (-1) ∧ μ (-1) (-1) ≤ 2560) (h : ¬ μ (-1) (-1) - 5 < i) (hz : μ (-1) i % 32 = 24)  (ca : MetC mi_Poo_count [vR 0, vI (μ (-1) (i + 1))] (st μ) (some (vI r)) (st μ1)) (cb : MetC mi_Mod_count [vR 219, vI (μ (-1) (i + 1))] (st μ1) (some (vI r)) (st μ2)) (e1 : ∀ k, μ1 (-1) k = μ (-1) k) (kk : SPW mi_Law_law 0 18 [some (vR (-1)), some (vR 0), some (vR 219), some (vI (i + 5))] [] (st μ2) R Mf) : SPW mi_Law_law 0 32 [some (vR (-1)), some (vR 0), some (vR 219), some (vI i)] [vI (μ (-1) i % 32)] (st μ) R Mf := by
  refine r_tabAt (tgt := 778) (off := 746) dd_Law_law_32 hz (by decide) rfl rfl ?_
  refine r_aloadn dd_Law_law_778 rfl ?_
  refine r_aloadn dd_Law_law_779 rfl ?_
  refine r_iloadn dd_Law_law_780 rfl ?_
  refine r_iconst dd_Law_law_781 ⟨by decide, by decide⟩ ?_
  refine r_iadd dd_Law_law_782 ⟨by omega, by omega⟩ ?_
  refine r_sld dd_Law_law_783 rfl (by omega) (by omega) ?_
  refine r_V1W dd_Law_law_784 ml_Law_115 ok_Poo_count vi_Poo_count vk_0 (by decide) (clS rfl (by decide) rmL_) rfl ca ?_
  refine r_aloadn dd_Law_law_787 rfl ?_
  refine r_aloadn dd_Law_law_788 rfl ?_
  refine r_iloadn dd_Law_law_789 rfl ?_
  refine r_iconst dd_Law_law_790 ⟨by decide, by decide⟩ ?_
  refine r_iadd dd_Law_law_791 ⟨by omega, by omega⟩ ?_
  refine r_sld dd_Law_law_792 rfl (by omega) (by rw [e1]; omega) ?_
  rw [e1]
  refine r_V1W dd_Law_law_793 ml_Law_118 ok_Mod_count vi_Mod_count vk_219 (by decide) (clS rfl (by decide) rmL_) rfl cb ?_
  refine r_icmp_eq dd_Law_law_796 (fun c_796 => ?_) (fun c_796 => ?_)
  · refine r_iinc (L' := [_, _, _, _]) dd_Law_law_801 rfl ⟨by omega, by omega⟩ rfl ?_
    refine r_goto dd_Law_law_804 ?_
    exact kk
  · exfalso; omega
theorem law_none {μ : Int → Int → Int} {i : Int} {R : Option Vv} {Mf : Mm} (i0 : 0 ≤ i) (hl : 0 ≤ μ (-1) (-1) ∧ μ (-1) (-1) ≤ 2560) (h : ¬ μ (-1) (-1) - 5 < i) (hz : 25 ≤ μ (-1) i % 32) (kk : SPW mi_Law_law 0 18 [some (vR (-1)), some (vR 0), some (vR 219), some (vI (i + 5))] [] (st μ) R Mf) : SPW mi_Law_law 0 32 [some (vR (-1)), some (vR 0), some (vR 219), some (vI i)] [vI (μ (-1) i % 32)] (st μ) R Mf := by
  refine r_tabOut (tgt := 801) dd_Law_law_32 (by omega) rfl ?_
  refine r_iinc (L' := [_, _, _, _]) dd_Law_law_801 rfl ⟨by omega, by omega⟩ rfl ?_
  refine r_goto dd_Law_law_804 ?_
  exact kk

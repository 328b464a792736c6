/-! the law: asking is so -/
theorem ask_F {m : Int → Int} {t w : Int} (t0 : 0 ≤ t) (t1 : t < 6) (w0 : 1 ≤ w) (w1 : w ≤ 14) (hg : m 471 < 300) : (whyM m t w = 0 ∧ askFM m t w = 0) ∨ (1 ≤ whyM m t w ∧ whyM m t w ≤ 3 ∧ askFM m t w = -6) := by
  have h := whyM_rg m t w
  unfold askFM
  rw [if_neg (by omega), if_neg (by omega), if_neg (by omega)]
  by_cases q : 0 < whyM m t w
  · rw [if_pos q]
    exact Or.inr ⟨by omega, by omega, rfl⟩
  · rw [if_neg q]
    exact Or.inl ⟨by omega, rfl⟩
/-- what is told of a block that was just asked for -/
theorem ask_new {K : Int} {m : Int → Int} (hW : MW K m) (hM : ML m) (hE : EX m) {t w : Int} (hf : askFM m t w = 0) : ∃ j, askW m w = 4 * j ∧ 0 ≤ j ∧ j < 16 ∧ owd (askM m t w) (4 * j) ∧ begOf (askM m t w) (m 471) = 4 * j ∧ askM m t w (256 + 4 * j) = t ∧ askM m t w (320 + 4 * j) = w ∧ brkM (askM m t w) (4 * j) = 0 ∧ askM m t w 466 - askM m t w (384 + 4 * j) = 0 := by
  have hr := why_room (wr_room hf).1
  have hs := szM_rg w
  obtain ⟨r1, h2, h3, h4, h5⟩ := room_rg hW hs hr
  obtain ⟨i, hi, i0, i1⟩ := lowF_4 hM (z := hvM m (szM w)) (by omega)
  have hi' : askW m w = 4 * i := hi
  rw [hi] at h2 h3 h4 h5
  obtain ⟨b0, b1, ff, ez⟩ := ask_sz hW hM hE hf
  rw [hi'] at b0 b1 ff ez
  have g0 := hW.2.2.2.2.2.2.2.1.1
  have hv := tak_v (k := 64 + 4 * i) hW hs hr (by omega)
  have w14 : 1 ≤ w ∧ w ≤ 14 ∧ w + 2 ≤ szM w := by
    have := askFM_c m t w
    refine ⟨by omega, by omega, ?_⟩
    unfold szM
    split
    · omega
    · split <;> omega
  have hv2 := tak_v (k := 64 + 4 * i + w + 1) hW hs hr (by omega)
  have z1 := (hM.2.2.2 (4 * i) 0 (by omega) (by omega) h4 (Int.le_refl _) (by omega)).2
  have z2 := (hM.2.2.2 (4 * i) (w + 1) (by omega) (by omega) h4 (by omega) (by omega)).2
  rw [show 64 + (4 * i + 0) = 64 + 4 * i by omega] at z1
  rw [show 64 + (4 * i + (w + 1)) = 64 + 4 * i + w + 1 by omega] at z2
  have e466 := takM_hi (k := 466) hW hs hr (by decide)
  have a1 : askM m t w (192 + 4 * i) = m 471 := by
    unfold askM
    rw [hi', up1_ne (by omega), up1_ne (by omega), up1_ne (by omega), up1_ne (by omega), up1_at]
  have a2 : askM m t w (256 + 4 * i) = t := by
    unfold askM
    rw [hi', up1_ne (by omega), up1_ne (by omega), up1_ne (by omega), up1_at]
  have a3 : askM m t w (320 + 4 * i) = w := by
    unfold askM
    rw [hi', up1_ne (by omega), up1_ne (by omega), up1_at]
  have a4 : askM m t w (384 + 4 * i) = m 466 := by
    unfold askM
    rw [hi', up1_ne (by omega), up1_at]
  have a5 : askM m t w 466 = m 466 := by
    unfold askM
    rw [hi', up1_ne (by omega), up1_ne (by omega), up1_ne (by omega), up1_ne (by omega), up1_ne (by omega), e466]
  have a6 : ∀ k, k < 128 → askM m t w k = takM m (szM w) k := fun k a => by
    unfold askM
    rw [hi', up1_ne (by omega), up1_ne (by omega), up1_ne (by omega), up1_ne (by omega), up1_ne (by omega)]
  have ho : owd (askM m t w) (4 * i) := ⟨by rw [ez]; omega, by rw [a1]; omega⟩
  refine ⟨i, hi', i0, i1, ho, ?_, a2, a3, ?_, by rw [a4, a5]; omega⟩
  · have := (EX_ask hW hM hE hf).1.beg (w := 4 * i) (by omega) (by omega) ho
    rw [a1] at this
    exact this
  · unfold brkM
    rw [a3, a6 _ (by omega), a6 _ (by omega), hv, hv2, z1, z2]
    rfl
theorem pu_0 {m : Int → Int} {H : Int → Int → Int} : pushH m H 0 = m := if_pos rfl
theorem pu_s {m : Int → Int} {H : Int → Int → Int} {j : Int} (h : 0 ≤ j) : pushH m H (j + 1) = H j := by
  unfold pushH
  rw [if_neg (by omega), show j + 1 - 1 = j by omega]
section AS
variable {K : Int} {μ : Int → Int → Int} {m : Int → Int} {H : Int → Int → Int} {t w : Int}
theorem as_no (h : GV K μ m H) (hK : K + 40000 ≤ 500000000) (t0 : 0 ≤ t) (t1 : t < 6) (w0 : 1 ≤ w) (w1 : w ≤ 14) (h1 : 1 ≤ whyM m t w) (h3 : whyM m t w ≤ 3) (hf : askFM m t w = -6) : ∃ μ', MetC mi_Law_isAskSo [vR 0, vI t, vI w] (st μ) (some (vI 1)) (st μ') ∧ GV (K + 40000) μ' m H ∧ ∀ k, μ' (-1) k = μ (-1) k := by
  obtain ⟨μ', c, g, e, e8⟩ := nd_ask6 h hK hf
  have hR := h.now.ri
  have hR' := g.now.ri
  have rb := h.ref (whyM m t w - 1) (by omega) (by omega)
  refine ⟨μ', ?_, g, e⟩
  refine met_of ?_ (Nat.le_of_ble_eq_true rfl) (by decide) (Or.inr rfl) (by decide) (Nat.le_of_ble_eq_true rfl)
  show SPW mi_Law_isAskSo 219 0 [some (vR 0), some (vI t), some (vI w), none, none, none, none, none, none, none, none, none] [] (st μ) (some (vI 1)) (st μ')
  refine r_aloadn dd_Law_isAskSo_0 rfl ?_
  refine r_iloadn dd_Law_isAskSo_1 rfl ?_
  refine r_iloadn dd_Law_isAskSo_2 rfl ?_
  refine r_V2W dd_Law_isAskSo_3 ml_Law_66 ok_Poo_reason vi_Poo_reason vk_0 (by decide) (clS rfl (Nat.le_refl _) (rmOK_self _ _)) rfl (c_rea hR t0 t1 w0 w1) ?_
  refine r_istoren (L' := [_, _, _, _, _, _, _, _, _, _, _, _]) dd_Law_isAskSo_6 rfl rfl ?_
  refine r_iloadn dd_Law_isAskSo_7 rfl ?_
  refine r_if_le dd_Law_isAskSo_8 (fun c_8 => ?_) (fun c_8 => ?_)
  · exfalso; omega
  · refine r_aloadn dd_Law_isAskSo_11 rfl ?_
    refine r_iloadn dd_Law_isAskSo_12 rfl ?_
    refine r_V1W dd_Law_isAskSo_13 ml_Law_75 ok_Poo_refused vi_Poo_refused vk_0 (by decide) (clS rfl (Nat.le_refl _) (rmOK_self _ _)) rfl (c_rfd (by omega) (by omega)) ?_
    refine r_goto dd_Law_isAskSo_16 ?_
    refine r_istore (L' := [_, _, _, _, _, _, _, _, _, _, _, _]) dd_Law_isAskSo_20 rfl rfl ?_
    refine r_aloadn dd_Law_isAskSo_22 rfl ?_
    refine r_bip dd_Law_isAskSo_23 ⟨by decide, by decide⟩ ?_
    refine r_V1W dd_Law_isAskSo_25 ml_Law_8 ok_Poo_count vi_Poo_count vk_0 (by decide) (clS rfl (Nat.le_refl _) (rmOK_self _ _)) rfl (c_cnt8 hR) ?_
    refine r_istore (L' := [_, _, _, _, _, _, _, _, _, _, _, _]) dd_Law_isAskSo_28 rfl rfl ?_
    refine r_aloadn dd_Law_isAskSo_30 rfl ?_
    refine r_iconst dd_Law_isAskSo_31 ⟨by decide, by decide⟩ ?_
    refine r_iconst dd_Law_isAskSo_32 ⟨by decide, by decide⟩ ?_
    refine r_V2W dd_Law_isAskSo_33 ml_Law_69 ok_Poo_size vi_Poo_size vk_0 (by decide) (clS rfl (Nat.le_refl _) (rmOK_self _ _)) rfl (c_sz0 hR (by decide) (by decide)) ?_
    refine r_istore (L' := [_, _, _, _, _, _, _, _, _, _, _, _]) dd_Law_isAskSo_36 rfl rfl ?_
    refine r_aloadn dd_Law_isAskSo_38 rfl ?_
    refine r_iconst dd_Law_isAskSo_39 ⟨by decide, by decide⟩ ?_
    refine r_iconst dd_Law_isAskSo_40 ⟨by decide, by decide⟩ ?_
    refine r_V2W dd_Law_isAskSo_41 ml_Law_69 ok_Poo_size vi_Poo_size vk_0 (by decide) (clS rfl (Nat.le_refl _) (rmOK_self _ _)) rfl (c_sz0 hR (by decide) (by decide)) ?_
    refine r_istore (L' := [_, _, _, _, _, _, _, _, _, _, _, _]) dd_Law_isAskSo_44 rfl rfl ?_
    refine r_aloadn dd_Law_isAskSo_46 rfl ?_
    refine r_iconst dd_Law_isAskSo_47 ⟨by decide, by decide⟩ ?_
    refine r_iconst dd_Law_isAskSo_48 ⟨by decide, by decide⟩ ?_
    refine r_V2W dd_Law_isAskSo_49 ml_Law_69 ok_Poo_size vi_Poo_size vk_0 (by decide) (clS rfl (Nat.le_refl _) (rmOK_self _ _)) rfl (c_sz0 hR (by decide) (by decide)) ?_
    refine r_istore (L' := [_, _, _, _, _, _, _, _, _, _, _, _]) dd_Law_isAskSo_52 rfl rfl ?_
    refine r_aloadn dd_Law_isAskSo_54 rfl ?_
    refine r_iloadn dd_Law_isAskSo_55 rfl ?_
    refine r_iloadn dd_Law_isAskSo_56 rfl ?_
    refine r_V2W dd_Law_isAskSo_57 ml_Law_30 ok_Poo_ask vi_Poo_ask vk_0 (by decide) (clS rfl (Nat.le_refl _) (rmOK_self _ _)) rfl c ?_
    refine r_istore (L' := [_, _, _, _, _, _, _, _, _, _, _, _]) dd_Law_isAskSo_60 rfl rfl ?_
    refine r_iloadn dd_Law_isAskSo_62 rfl ?_
    refine r_if_le dd_Law_isAskSo_63 (fun c_63 => ?_) (fun c_63 => ?_)
    · exfalso; omega
    · refine r_iload dd_Law_isAskSo_66 rfl ?_
      refine r_bip dd_Law_isAskSo_68 ⟨by decide, by decide⟩ ?_
      refine r_icmp_ne dd_Law_isAskSo_70 (fun c_70 => ?_) (fun c_70 => ?_)
      · exfalso; omega
      · refine r_aloadn dd_Law_isAskSo_73 rfl ?_
        refine r_iloadn dd_Law_isAskSo_74 rfl ?_
        refine r_V1W dd_Law_isAskSo_75 ml_Law_75 ok_Poo_refused vi_Poo_refused vk_0 (by decide) (clS rfl (Nat.le_refl _) (rmOK_self _ _)) rfl (c_rfd (by omega) (by omega)) ?_
        refine r_iload dd_Law_isAskSo_78 rfl ?_
        refine r_iconst dd_Law_isAskSo_80 ⟨by decide, by decide⟩ ?_
        refine r_iadd dd_Law_isAskSo_81 ⟨by omega, by omega⟩ ?_
        refine r_icmp_ne dd_Law_isAskSo_82 (fun c_82 => ?_) (fun c_82 => ?_)
        · exfalso; omega
        · refine r_aloadn dd_Law_isAskSo_85 rfl ?_
          refine r_bip dd_Law_isAskSo_86 ⟨by decide, by decide⟩ ?_
          refine r_V1W dd_Law_isAskSo_88 ml_Law_8 ok_Poo_count vi_Poo_count vk_0 (by decide) (clS rfl (Nat.le_refl _) (rmOK_self _ _)) rfl (c_cnt8 hR') ?_
          refine r_iload dd_Law_isAskSo_91 rfl ?_
          refine r_icmp_ne dd_Law_isAskSo_93 (fun c_93 => ?_) (fun c_93 => ?_)
          · exfalso; omega
          · refine r_iconst dd_Law_isAskSo_96 ⟨by decide, by decide⟩ ?_
            refine r_goto dd_Law_isAskSo_97 ?_
            exact r_retI dd_Law_isAskSo_101 (by first | rfl | omega | exact (b2_t (by first | assumption | omega)).symm | exact (b2_f (by first | assumption | omega)).symm) rfl
theorem as_yes (h : GV K μ m H) (hK : K + 80000 ≤ 500000000) (t0 : 0 ≤ t) (t1 : t < 6) (w0 : 1 ≤ w) (w1 : w ≤ 14) (h1 : whyM m t w = 0) (hf : askFM m t w = 0) : ∃ μ' H', MetC mi_Law_isAskSo [vR 0, vI t, vI w] (st μ) (some (vI 1)) (st μ') ∧ GV (K + 80000) μ' m H' ∧ ∀ k, μ' (-1) k = μ (-1) k := by
  have hR := h.now.ri
  obtain ⟨j, ej, j0, j1, ho, hb, a2, a3, a4, a5⟩ := ask_new h.now.2.1 h.now.2.2.1 h.ex hf
  have hsh := SHP_back h.now.2.1 h.now.2.2.1 h.ex hf
  rw [ej] at hsh
  have s0 := szc_shp hsh (p4 0)
  have s1 := szc_shp hsh (p4 1)
  have s2 := szc_shp hsh (p4 2)
  obtain ⟨μ1, c1, g1, l1, e1⟩ := dn_ask h (by omega) hf
  have hR1 := g1.now.ri
  have b2_ := c_bk2 hR1 (show 0 ≤ 4 * j by omega) hb
  have b3_ := c_bk3 hR1 (show 0 ≤ 4 * j by omega) hb
  have b4_ := c_bk4 hR1 (show 0 ≤ 4 * j by omega) hb
  have b5_ := c_bk5 hR1 (show 0 ≤ 4 * j by omega) hb
  rw [a2] at b2_
  rw [a3] at b3_
  rw [a4] at b4_
  rw [a5] at b5_
  have hbk : bkFM (askM m t w) t (m 471) = 0 := by
    unfold bkFM
    rw [hb, if_neg (by omega), if_neg (fun x => x a2)]
  have hd := dn_back g1 (by omega) hbk hb j0 j1 ho
  rw [a4] at hd
  obtain ⟨μ2, c2, g2, l2, e2⟩ := hd
  have hR2 := g2.now.ri
  have n0 := h.ln
  have n1 := g1.ln
  have n2 := g2.ln
  have p1 : 1 ≤ μ1 79 2 := by
    rw [l1]
    split <;> omega
  have p2 : 2 ≤ μ2 79 2 := by
    rw [l2]
    split <;> omega
  obtain ⟨c3, g3, l3, e3⟩ := GV_undo g2 (by omega)
  rw [pu_0] at g3
  generalize tkM μ2 = μ3 at *
  obtain ⟨c4, g4, l4, e4⟩ := GV_undo g3 (by omega)
  rw [pu_s (Int.le_refl 0), pu_0] at g4
  generalize tkM μ3 = μ4 at *
  have hR4 := g4.now.ri
  refine ⟨μ4, _, ?_, g4.mono (by omega) (by omega), fun k => by rw [e4 _ _ (by omega) (by omega), e3 _ _ (by omega) (by omega), e2, e1]⟩
  refine met_of ?_ (Nat.le_of_ble_eq_true rfl) (by decide) (Or.inr rfl) (by decide) (Nat.le_of_ble_eq_true rfl)
  show SPW mi_Law_isAskSo 219 0 [some (vR 0), some (vI t), some (vI w), none, none, none, none, none, none, none, none, none] [] (st μ) (some (vI 1)) (st μ4)
  refine r_aloadn dd_Law_isAskSo_0 rfl ?_
  refine r_iloadn dd_Law_isAskSo_1 rfl ?_
  refine r_iloadn dd_Law_isAskSo_2 rfl ?_
  refine r_V2W dd_Law_isAskSo_3 ml_Law_66 ok_Poo_reason vi_Poo_reason vk_0 (by decide) (clS rfl (Nat.le_refl _) (rmOK_self _ _)) rfl (c_rea hR t0 t1 w0 w1) ?_
  refine r_istoren (L' := [_, _, _, _, _, _, _, _, _, _, _, _]) dd_Law_isAskSo_6 rfl rfl ?_
  refine r_iloadn dd_Law_isAskSo_7 rfl ?_
  refine r_if_le dd_Law_isAskSo_8 (fun c_8 => ?_) (fun c_8 => ?_)
  · refine r_iconst dd_Law_isAskSo_19 ⟨by decide, by decide⟩ ?_
    refine r_istore (L' := [_, _, _, _, _, _, _, _, _, _, _, _]) dd_Law_isAskSo_20 rfl rfl ?_
    refine r_aloadn dd_Law_isAskSo_22 rfl ?_
    refine r_bip dd_Law_isAskSo_23 ⟨by decide, by decide⟩ ?_
    refine r_V1W dd_Law_isAskSo_25 ml_Law_8 ok_Poo_count vi_Poo_count vk_0 (by decide) (clS rfl (Nat.le_refl _) (rmOK_self _ _)) rfl (c_cnt8 hR) ?_
    refine r_istore (L' := [_, _, _, _, _, _, _, _, _, _, _, _]) dd_Law_isAskSo_28 rfl rfl ?_
    refine r_aloadn dd_Law_isAskSo_30 rfl ?_
    refine r_iconst dd_Law_isAskSo_31 ⟨by decide, by decide⟩ ?_
    refine r_iconst dd_Law_isAskSo_32 ⟨by decide, by decide⟩ ?_
    refine r_V2W dd_Law_isAskSo_33 ml_Law_69 ok_Poo_size vi_Poo_size vk_0 (by decide) (clS rfl (Nat.le_refl _) (rmOK_self _ _)) rfl (c_sz0 hR (by decide) (by decide)) ?_
    refine r_istore (L' := [_, _, _, _, _, _, _, _, _, _, _, _]) dd_Law_isAskSo_36 rfl rfl ?_
    refine r_aloadn dd_Law_isAskSo_38 rfl ?_
    refine r_iconst dd_Law_isAskSo_39 ⟨by decide, by decide⟩ ?_
    refine r_iconst dd_Law_isAskSo_40 ⟨by decide, by decide⟩ ?_
    refine r_V2W dd_Law_isAskSo_41 ml_Law_69 ok_Poo_size vi_Poo_size vk_0 (by decide) (clS rfl (Nat.le_refl _) (rmOK_self _ _)) rfl (c_sz0 hR (by decide) (by decide)) ?_
    refine r_istore (L' := [_, _, _, _, _, _, _, _, _, _, _, _]) dd_Law_isAskSo_44 rfl rfl ?_
    refine r_aloadn dd_Law_isAskSo_46 rfl ?_
    refine r_iconst dd_Law_isAskSo_47 ⟨by decide, by decide⟩ ?_
    refine r_iconst dd_Law_isAskSo_48 ⟨by decide, by decide⟩ ?_
    refine r_V2W dd_Law_isAskSo_49 ml_Law_69 ok_Poo_size vi_Poo_size vk_0 (by decide) (clS rfl (Nat.le_refl _) (rmOK_self _ _)) rfl (c_sz0 hR (by decide) (by decide)) ?_
    refine r_istore (L' := [_, _, _, _, _, _, _, _, _, _, _, _]) dd_Law_isAskSo_52 rfl rfl ?_
    refine r_aloadn dd_Law_isAskSo_54 rfl ?_
    refine r_iloadn dd_Law_isAskSo_55 rfl ?_
    refine r_iloadn dd_Law_isAskSo_56 rfl ?_
    refine r_V2W dd_Law_isAskSo_57 ml_Law_30 ok_Poo_ask vi_Poo_ask vk_0 (by decide) (clS rfl (Nat.le_refl _) (rmOK_self _ _)) rfl c1 ?_
    refine r_istore (L' := [_, _, _, _, _, _, _, _, _, _, _, _]) dd_Law_isAskSo_60 rfl rfl ?_
    refine r_iloadn dd_Law_isAskSo_62 rfl ?_
    refine r_if_le dd_Law_isAskSo_63 (fun c_63 => ?_) (fun c_63 => ?_)
    · refine r_iload dd_Law_isAskSo_102 rfl ?_
      refine r_iload dd_Law_isAskSo_104 rfl ?_
      refine r_icmp_ne dd_Law_isAskSo_106 (fun c_106 => ?_) (fun c_106 => ?_)
      · exfalso; omega
      · refine r_aloadn dd_Law_isAskSo_109 rfl ?_
        refine r_iload dd_Law_isAskSo_110 rfl ?_
        refine r_iconst dd_Law_isAskSo_112 ⟨by decide, by decide⟩ ?_
        refine r_V2W dd_Law_isAskSo_113 ml_Law_23 ok_Poo_block vi_Poo_block vk_0 (by decide) (clS rfl (Nat.le_refl _) (rmOK_self _ _)) rfl b2_ ?_
        refine r_iloadn dd_Law_isAskSo_116 rfl ?_
        refine r_icmp_ne dd_Law_isAskSo_117 (fun c_117 => ?_) (fun c_117 => ?_)
        · exfalso; omega
        · refine r_aloadn dd_Law_isAskSo_120 rfl ?_
          refine r_iload dd_Law_isAskSo_121 rfl ?_
          refine r_iconst dd_Law_isAskSo_123 ⟨by decide, by decide⟩ ?_
          refine r_V2W dd_Law_isAskSo_124 ml_Law_23 ok_Poo_block vi_Poo_block vk_0 (by decide) (clS rfl (Nat.le_refl _) (rmOK_self _ _)) rfl b3_ ?_
          refine r_iloadn dd_Law_isAskSo_127 rfl ?_
          refine r_icmp_ne dd_Law_isAskSo_128 (fun c_128 => ?_) (fun c_128 => ?_)
          · exfalso; omega
          · refine r_aloadn dd_Law_isAskSo_131 rfl ?_
            refine r_iload dd_Law_isAskSo_132 rfl ?_
            refine r_iconst dd_Law_isAskSo_134 ⟨by decide, by decide⟩ ?_
            refine r_V2W dd_Law_isAskSo_135 ml_Law_23 ok_Poo_block vi_Poo_block vk_0 (by decide) (clS rfl (Nat.le_refl _) (rmOK_self _ _)) rfl b4_ ?_
            refine r_if_ne dd_Law_isAskSo_138 (fun c_138 => ?_) (fun c_138 => ?_)
            · exfalso; omega
            · refine r_aloadn dd_Law_isAskSo_141 rfl ?_
              refine r_iload dd_Law_isAskSo_142 rfl ?_
              refine r_iconst dd_Law_isAskSo_144 ⟨by decide, by decide⟩ ?_
              refine r_V2W dd_Law_isAskSo_145 ml_Law_23 ok_Poo_block vi_Poo_block vk_0 (by decide) (clS rfl (Nat.le_refl _) (rmOK_self _ _)) rfl b5_ ?_
              refine r_if_ne dd_Law_isAskSo_148 (fun c_148 => ?_) (fun c_148 => ?_)
              · exfalso; omega
              · refine r_aloadn dd_Law_isAskSo_151 rfl ?_
                refine r_iloadn dd_Law_isAskSo_152 rfl ?_
                refine r_iload dd_Law_isAskSo_153 rfl ?_
                refine r_V2W dd_Law_isAskSo_155 ml_Law_33 ok_Poo_giveBack vi_Poo_giveBack vk_0 (by decide) (clS rfl (Nat.le_refl _) (rmOK_self _ _)) rfl c2 ?_
                refine r_if_ne dd_Law_isAskSo_158 (fun c_158 => ?_) (fun c_158 => ?_)
                · exfalso; omega
                · refine r_aloadn dd_Law_isAskSo_161 rfl ?_
                  refine r_iconst dd_Law_isAskSo_162 ⟨by decide, by decide⟩ ?_
                  refine r_iconst dd_Law_isAskSo_163 ⟨by decide, by decide⟩ ?_
                  refine r_V2W dd_Law_isAskSo_164 ml_Law_69 ok_Poo_size vi_Poo_size vk_0 (by decide) (clS rfl (Nat.le_refl _) (rmOK_self _ _)) rfl (c_sz0 hR2 (by decide) (by decide)) ?_
                  refine r_iload dd_Law_isAskSo_167 rfl ?_
                  refine r_icmp_ne dd_Law_isAskSo_169 (fun c_169 => ?_) (fun c_169 => ?_)
                  · exfalso; omega
                  · refine r_aloadn dd_Law_isAskSo_172 rfl ?_
                    refine r_iconst dd_Law_isAskSo_173 ⟨by decide, by decide⟩ ?_
                    refine r_iconst dd_Law_isAskSo_174 ⟨by decide, by decide⟩ ?_
                    refine r_V2W dd_Law_isAskSo_175 ml_Law_69 ok_Poo_size vi_Poo_size vk_0 (by decide) (clS rfl (Nat.le_refl _) (rmOK_self _ _)) rfl (c_sz0 hR2 (by decide) (by decide)) ?_
                    refine r_iload dd_Law_isAskSo_178 rfl ?_
                    refine r_icmp_ne dd_Law_isAskSo_180 (fun c_180 => ?_) (fun c_180 => ?_)
                    · exfalso; omega
                    · refine r_aloadn dd_Law_isAskSo_183 rfl ?_
                      refine r_iconst dd_Law_isAskSo_184 ⟨by decide, by decide⟩ ?_
                      refine r_iconst dd_Law_isAskSo_185 ⟨by decide, by decide⟩ ?_
                      refine r_V2W dd_Law_isAskSo_186 ml_Law_69 ok_Poo_size vi_Poo_size vk_0 (by decide) (clS rfl (Nat.le_refl _) (rmOK_self _ _)) rfl (c_sz0 hR2 (by decide) (by decide)) ?_
                      refine r_iload dd_Law_isAskSo_189 rfl ?_
                      refine r_icmp_ne dd_Law_isAskSo_191 (fun c_191 => ?_) (fun c_191 => ?_)
                      · exfalso; omega
                      · refine r_iconst dd_Law_isAskSo_194 ⟨by decide, by decide⟩ ?_
                        refine r_goto dd_Law_isAskSo_195 ?_
                        refine r_istore (L' := [_, _, _, _, _, _, _, _, _, _, _, _]) dd_Law_isAskSo_199 rfl rfl ?_
                        refine r_aloadn dd_Law_isAskSo_201 rfl ?_
                        refine r_V0W dd_Law_isAskSo_202 ml_Law_78 ok_Poo_undo vi_Poo_undo vk_0 (by decide) (clS rfl (Nat.le_refl _) (rmOK_self _ _)) rfl c3 ?_
                        refine r_istore (L' := [_, _, _, _, _, _, _, _, _, _, _, _]) dd_Law_isAskSo_205 rfl rfl ?_
                        refine r_aloadn dd_Law_isAskSo_207 rfl ?_
                        refine r_V0W dd_Law_isAskSo_208 ml_Law_78 ok_Poo_undo vi_Poo_undo vk_0 (by decide) (clS rfl (Nat.le_refl _) (rmOK_self _ _)) rfl c4 ?_
                        refine r_istore (L' := [_, _, _, _, _, _, _, _, _, _, _, _]) dd_Law_isAskSo_211 rfl rfl ?_
                        refine r_iload dd_Law_isAskSo_213 rfl ?_
                        refine r_if_eq dd_Law_isAskSo_215 (fun c_215 => ?_) (fun c_215 => ?_)
                        · exfalso; omega
                        · refine r_iload dd_Law_isAskSo_218 rfl ?_
                          refine r_if_lt dd_Law_isAskSo_220 (fun c_220 => ?_) (fun c_220 => ?_)
                          · exfalso; omega
                          · refine r_aloadn dd_Law_isAskSo_223 rfl ?_
                            refine r_bip dd_Law_isAskSo_224 ⟨by decide, by decide⟩ ?_
                            refine r_V1W dd_Law_isAskSo_226 ml_Law_8 ok_Poo_count vi_Poo_count vk_0 (by decide) (clS rfl (Nat.le_refl _) (rmOK_self _ _)) rfl (c_cnt8 hR4) ?_
                            refine r_iload dd_Law_isAskSo_229 rfl ?_
                            refine r_icmp_ne dd_Law_isAskSo_231 (fun c_231 => ?_) (fun c_231 => ?_)
                            · exfalso; omega
                            · refine r_iconst dd_Law_isAskSo_234 ⟨by decide, by decide⟩ ?_
                              refine r_goto dd_Law_isAskSo_235 ?_
                              exact r_retI dd_Law_isAskSo_239 (by first | rfl | omega | exact (b2_t (by first | assumption | omega)).symm | exact (b2_f (by first | assumption | omega)).symm) rfl
    · exfalso; omega
  · exfalso; omega
theorem c_Law_ask (h : GV K μ m H) (hK : K + 80000 ≤ 500000000) (hg : m 471 < 300) (t0 : 0 ≤ t) (t1 : t < 6) (w0 : 1 ≤ w) (w1 : w ≤ 14) : ∃ μ' H', MetC mi_Law_isAskSo [vR 0, vI t, vI w] (st μ) (some (vI 1)) (st μ') ∧ GV (K + 80000) μ' m H' ∧ ∀ k, μ' (-1) k = μ (-1) k := by
  rcases ask_F t0 t1 w0 w1 hg with ⟨a, b⟩ | ⟨a, b, c⟩
  · exact as_yes h hK t0 t1 w0 w1 a b
  · obtain ⟨μ', d, g, e⟩ := as_no h (by omega) t0 t1 w0 w1 a b c
    exact ⟨μ', H, d, g.mono (by omega) hK, e⟩
end AS

/-! the class: twins joined -/
theorem r_ixorI {y : MI} {t0 pc pc' : Nat} {L : List (Option Vv)} {S : List Vv} {M Mf : Mm} {r : Option Vv} {a b c : Int} (hd : Dc y pc .ixor 1 pc') (ha : 0 ≤ a ∧ a < 2147483648) (hb : 0 ≤ b ∧ b < 2147483648) (hc : 0 ≤ c) (hx : a.toNat ^^^ b.toNat = c.toNat) (kk : SPW y t0 pc' L (vI c :: S) M r Mf) : SPW y t0 pc L (vI b :: vI a :: S) M r Mf := by
  have k := r_ixor (a := a.toNat) (b := b.toNat) (S := S) (L := L) (M := M) (Mf := Mf) (r := r) (t0 := t0) hd (by omega) (by omega)
  rw [hx, Int.toNat_of_nonneg hc, Int.toNat_of_nonneg ha.1, Int.toNat_of_nonneg hb.1] at k
  exact k kk
theorem xr4 : ∀ n : Nat, n < 16 → (4 * n) ^^^ 4 = 4 * (if n % 2 = 0 then n + 1 else n - 1) := by decide
theorem xr8 : ∀ n : Nat, n < 16 → (4 * n) ^^^ 8 = 4 * (if n % 4 < 2 then n + 2 else n - 2) := by decide
theorem tw4 {i q : Int} (h0 : 0 ≤ i) (h1 : i < 16) (hq : (i % 2 = 0 ∧ q = i + 1) ∨ (i % 2 = 1 ∧ q = i - 1)) : (4 * i).toNat ^^^ (4 : Int).toNat = (4 * q).toNat := by
  have h := xr4 i.toNat (by omega)
  rw [show (4 * i).toNat = 4 * i.toNat by omega, show (4 : Int).toNat = 4 from rfl, h]
  rcases hq with ⟨a, b⟩ | ⟨a, b⟩
  · rw [if_pos (by omega)]; omega
  · rw [if_neg (by omega)]; omega
theorem tw8 {i q : Int} (h0 : 0 ≤ i) (h1 : i < 16) (hq : (i % 4 = 0 ∧ q = i + 2) ∨ (i % 4 = 2 ∧ q = i - 2)) : (4 * i).toNat ^^^ (8 : Int).toNat = (4 * q).toNat := by
  have h := xr8 i.toNat (by omega)
  rw [show (4 * i).toNat = 4 * i.toNat by omega, show (8 : Int).toNat = 8 from rfl, h]
  rcases hq with ⟨a, b⟩ | ⟨a, b⟩
  · rw [if_pos (by omega)]; omega
  · rw [if_neg (by omega)]; omega
theorem ML.al8 {m : Int → Int} (hM : ML m) {i : Int} (h0 : 0 ≤ i) (h1 : i < 16) (h : m (128 + 4 * i) = 8) : i % 2 = 0 := by
  have hp := hM.2.1 (4 * i - 4 * i % 16) (by omega) (by omega) (by omega)
  rw [show 132 + (4 * i - 4 * i % 16) = 128 + (4 * i - 4 * i % 16 + 4) by omega, show 136 + (4 * i - 4 * i % 16) = 128 + (4 * i - 4 * i % 16 + 8) by omega, show 140 + (4 * i - 4 * i % 16) = 128 + (4 * i - 4 * i % 16 + 12) by omega] at hp
  by_cases a : 4 * i - 4 * i % 16 + 4 = 4 * i
  · rw [a] at hp
    unfold pat at hp
    omega
  · by_cases b : 4 * i - 4 * i % 16 + 12 = 4 * i
    · rw [b] at hp
      unfold pat at hp
      omega
    · omega
theorem lw_8 {m : Int → Int} {i : Int} (hm : m (128 + 4 * i) = 8) (h0 : 0 ≤ i) (h1 : i < 16) : lwM m (4 * i) = 4 * (i - i % 4) := by
  unfold lwM
  rw [hm]
  omega
theorem lw_4 {m : Int → Int} {i : Int} (hm : m (128 + 4 * i) = 4) (h0 : 0 ≤ i) (h1 : i < 16) : lwM m (4 * i) = 4 * (i - i % 2) := by
  unfold lwM
  rw [hm]
  omega
theorem tw_free {K : Int} {μ : Int → Int → Int} {m : Int → Int} (hR : RI K μ m) {i q l h z : Int} (hz : z = 0 ∨ z = 1) (h0 : 0 ≤ i) (h1 : i < 16) (q0 : 0 ≤ q) (q1 : q < 16) (hm : m (128 + 4 * i) = p4 z) (hf : m (192 + 4 * i) = -5) (hl : lwM m (4 * i) = 4 * l) (hh : 4 * l + p4 z = 4 * h) (hq : (i = l ∧ q = h) ∨ (i = h ∧ q = l)) : (μ (3 + q) 1 = z ∧ μ (3 + q) 2 = -1) ↔ jcM m (4 * i) := by
  rw [jc_iff hm, hl, hh]
  have hb := hR.blk q0 q1
  have ho := hR.own q0 q1
  have hp := p4_rg (z := z)
  have hi := wz_inj (s := μ (3 + q) 1) (z := z) hb.2.1 (by omega)
  rw [hb.2.2.1] at hi
  rcases hq with ⟨rfl, rfl⟩ | ⟨rfl, rfl⟩ <;> omega
def lP (m : Int → Int) (i : Int) : Int := lwM m (4 * i) / 4
def hP (m : Int → Int) (i : Int) : Int := (lwM m (4 * i) + m (128 + 4 * i)) / 4
def jo1 (μ : Int → Int → Int) (m : Int → Int) (i : Int) : Int → Int → Int := if jcM m (4 * i) then jC μ (lP m i) (hP m i) 1 else μ
def jo0 (μ : Int → Int → Int) (m : Int → Int) (i : Int) : Int → Int → Int := if jcM m (4 * i) then jo1 (jC μ (lP m i) (hP m i) 0) (jsM m (4 * i)) (lP m i) else μ
def joC (μ : Int → Int → Int) (m : Int → Int) (i : Int) : Int → Int → Int := if m (128 + 4 * i) = 4 then jo0 μ m i else if m (128 + 4 * i) = 8 then jo1 μ m i else μ
theorem RI_js {K : Int} {μ : Int → Int → Int} {m : Int → Int} (hR : RI K μ m) (hK : K + 1 ≤ 500000000) {i z : Int} (h0 : 0 ≤ i) (h1 : i < 16) (hz : (z = 0 ∧ m (128 + 4 * i) = 4) ∨ (z = 1 ∧ m (128 + 4 * i) = 8)) (hj : jcM m (4 * i)) : RI (K + 1) (jC μ (lP m i) (hP m i) z) (jsM m (4 * i)) := by
  have hl : lwM m (4 * i) = 4 * lP m i := by
    unfold lP
    rcases hz with ⟨-, e⟩ | ⟨-, e⟩
    · rw [lw_4 e h0 h1]; omega
    · rw [lw_8 e h0 h1]; omega
  have hh : 4 * lP m i + m (128 + 4 * i) = 4 * hP m i := by
    rw [← hl]
    unfold hP
    rcases hz with ⟨-, e⟩ | ⟨-, e⟩
    · rw [lw_4 e h0 h1, e]; omega
    · rw [lw_8 e h0 h1, e]; omega
  exact ⟨RS_js hR ⟨by omega, by omega⟩ hz hl hh hj, MW_js hR.2.1 hK (by omega) (by omega) (z := m (128 + 4 * i)) (by omega) rfl, ML_js hR.2.1 hR.2.2 (z := m (128 + 4 * i)) ⟨by omega, by omega⟩ ⟨by omega, rfl⟩ hl hh hj⟩

theorem jt1 {μ : Int → Int → Int} {K : Int} {m : Int → Int} (hR : RI K μ m) (hK : K + 2 ≤ 500000000) {i f : Int} (h0 : 0 ≤ i) (h1 : i < 16) (hm : m (128 + 4 * i) = 8) (hf : m (192 + 4 * i) = -5) : SPW mi_Sta_joinTwins 219 7 [some (vR 1), some (vR (3 + f)), some (vR (3 + i)), some (vI 1), none, none] [] (st μ) none (st (jo1 μ m i)) := by
  have hl := lw_8 hm h0 h1
  have w0 : wz 1 = 8 := rfl
  have hbi := (hR.blk h0 h1).1
  have elP : lP m i = i - i % 4 := by unfold lP; rw [hl]; omega
  have ehP : hP m i = i - i % 4 + 2 := by unfold hP; rw [hl, hm]; omega
  have h7 : 0 ≤ μ 1 7 ∧ μ 1 7 ≤ 500000000 := by
    have e1 : μ 1 7 = m 469 := hR.1.2.2.2.2.2.2.2.1
    have e2 := hR.2.1.2.2.2.2.2.1
    omega
  have hal := hR.2.2.al8 h0 h1 hm
  rcases (show i % 4 = 0 ∨ i % 4 = 2 by omega) with hi | hi
  · obtain ⟨q, hq⟩ : ∃ q, q = i + 2 := ⟨_, rfl⟩
    have q0 : 0 ≤ q := by omega
    have q1 : q < 16 := by omega
    have hbq := (hR.blk q0 q1).1
    have hfr := tw_free hR (z := 1) (q := q) (l := i - i % 4) (h := i - i % 4 + 2) (by omega) h0 h1 q0 q1 hm hf hl (by show _ + 8 = _; omega) (by omega)
    by_cases hj : jcM m (4 * i)
    · refine r_iloadn dd_Sta_joinTwins_7 rfl ?_
      refine r_iconst dd_Sta_joinTwins_8 ⟨by decide, by decide⟩ ?_
      refine r_icmp_ge dd_Sta_joinTwins_9 (fun c_9 => ?_) (fun c_9 => ?_)
      · exfalso; omega
      · refine r_aloadn dd_Sta_joinTwins_12 rfl ?_
        refine r_aloadn dd_Sta_joinTwins_13 rfl ?_
        refine r_getI dd_Sta_joinTwins_14 fl_Sta_98 (kI := 0) rfl fi_Blk_0 (vk_blk h0 h1) ?_
        rw [hbi]
        refine r_iloadn dd_Sta_joinTwins_17 rfl ?_
        refine r_S1W dd_Sta_joinTwins_18 ml_Sta_138 ok_Blk_wordsOf st_Blk_wordsOf (clS rfl (Nat.le_refl _) (rmOK_self _ _)) rfl c_Blk_wordsOf ?_
        rw [w0]
        refine r_ixorI dd_Sta_joinTwins_21 (by omega) (by decide) (by omega) (tw8 h0 h1 (q := q) (by omega)) ?_
        refine r_V1W dd_Sta_joinTwins_22 ml_Sta_160 ok_Sta_placeAt vi_Sta_placeAt vk_1 (by decide) (clS rfl (Nat.le_refl _) (rmOK_self _ _)) rfl (c_Sta_placeAt (i := q) ⟨rfl, q0, q1⟩) ?_
        refine r_astore (L' := [_, _, _, _, _, _]) dd_Sta_joinTwins_25 rfl rfl ?_
        refine r_aload dd_Sta_joinTwins_27 rfl ?_
        refine r_ifnullR dd_Sta_joinTwins_29 ?_
        refine r_aload dd_Sta_joinTwins_32 rfl ?_
        refine r_iloadn dd_Sta_joinTwins_34 rfl ?_
        refine r_V1W dd_Sta_joinTwins_35 ml_Sta_141 ok_Blk_isFreeOf vi_Blk_isFreeOf (vk_blk q0 q1) (by decide) (clS rfl (Nat.le_refl _) (rmOK_self _ _)) rfl (c_Blk_isFreeOf (vk_blk q0 q1)) ?_
        refine r_if_ne_b dd_Sta_joinTwins_38 (fun c_38 => ?_) (fun c_38 => ?_)
        · refine r_aload dd_Sta_joinTwins_42 rfl ?_
          refine r_astore (L' := [_, _, _, _, _, _]) dd_Sta_joinTwins_44 rfl rfl ?_
          refine r_aload dd_Sta_joinTwins_46 rfl ?_
          refine r_getI dd_Sta_joinTwins_48 fl_Sta_98 (kI := 0) rfl fi_Blk_0 (vk_blk q0 q1) ?_
          rw [hbq]
          refine r_aloadn dd_Sta_joinTwins_51 rfl ?_
          refine r_getI dd_Sta_joinTwins_52 fl_Sta_98 (kI := 0) rfl fi_Blk_0 (vk_blk h0 h1) ?_
          rw [hbi]
          refine r_icmp_ge dd_Sta_joinTwins_55 (fun c_55 => ?_) (fun c_55 => ?_)
          · refine r_aload dd_Sta_joinTwins_64 rfl ?_
            refine r_iconst dd_Sta_joinTwins_66 ⟨by decide, by decide⟩ ?_
            refine r_putI dd_Sta_joinTwins_67 fl_Sta_151 (kI := 1) rfl fc_Blk_1 ff_Blk_1 (pi_Blk_1 _) (vk_blk q0 q1) ?_
            refine r_aloadn dd_Sta_joinTwins_70 rfl ?_
            refine r_iloadn dd_Sta_joinTwins_71 rfl ?_
            refine r_iconst dd_Sta_joinTwins_72 ⟨by decide, by decide⟩ ?_
            refine r_iadd dd_Sta_joinTwins_73 ⟨by omega, by omega⟩ ?_
            refine r_putI dd_Sta_joinTwins_74 fl_Sta_151 (kI := 1) rfl fc_Blk_1 ff_Blk_1 (pi_Blk_1 _) (vk_blk h0 h1) ?_
            refine r_aloadn dd_Sta_joinTwins_77 rfl ?_
            refine r_dup dd_Sta_joinTwins_78 ?_
            refine r_getI dd_Sta_joinTwins_79 fl_Sta_57 (kI := 7) rfl fi_Sta_7 vk_1 ?_
            rw [upM_ne (Or.inl (by omega)), upM_ne (Or.inl (by omega))]
            refine r_iconst dd_Sta_joinTwins_82 ⟨by decide, by decide⟩ ?_
            refine r_iadd dd_Sta_joinTwins_83 ⟨by omega, by omega⟩ ?_
            refine r_putI dd_Sta_joinTwins_84 fl_Sta_57 (kI := 7) rfl fc_Sta_7 ff_Sta_7 (pi_Sta_7 _) vk_1 ?_
            refine r_iinc (L' := [_, _, _, _, _, _]) dd_Sta_joinTwins_87 rfl ⟨by omega, by omega⟩ rfl ?_
            refine r_goto dd_Sta_joinTwins_90 ?_
            refine r_iloadn dd_Sta_joinTwins_7 rfl ?_
            refine r_iconst dd_Sta_joinTwins_8 ⟨by decide, by decide⟩ ?_
            refine r_icmp_ge dd_Sta_joinTwins_9 (fun c_9 => ?_) (fun c_9 => ?_)
            · exact r_retV dd_Sta_joinTwins_93 (by unfold jo1; rw [if_pos hj, elP, ehP, show i - i % 4 = i by omega, show i + 2 = q by omega]; rfl)
            · exfalso; omega
          · exfalso; omega
        · exact absurd (hfr.mpr hj) c_38
    -- the twin isn't free
    · refine r_iloadn dd_Sta_joinTwins_7 rfl ?_
      refine r_iconst dd_Sta_joinTwins_8 ⟨by decide, by decide⟩ ?_
      refine r_icmp_ge dd_Sta_joinTwins_9 (fun c_9 => ?_) (fun c_9 => ?_)
      · exfalso; omega
      · refine r_aloadn dd_Sta_joinTwins_12 rfl ?_
        refine r_aloadn dd_Sta_joinTwins_13 rfl ?_
        refine r_getI dd_Sta_joinTwins_14 fl_Sta_98 (kI := 0) rfl fi_Blk_0 (vk_blk h0 h1) ?_
        rw [hbi]
        refine r_iloadn dd_Sta_joinTwins_17 rfl ?_
        refine r_S1W dd_Sta_joinTwins_18 ml_Sta_138 ok_Blk_wordsOf st_Blk_wordsOf (clS rfl (Nat.le_refl _) (rmOK_self _ _)) rfl c_Blk_wordsOf ?_
        rw [w0]
        refine r_ixorI dd_Sta_joinTwins_21 (by omega) (by decide) (by omega) (tw8 h0 h1 (q := q) (by omega)) ?_
        refine r_V1W dd_Sta_joinTwins_22 ml_Sta_160 ok_Sta_placeAt vi_Sta_placeAt vk_1 (by decide) (clS rfl (Nat.le_refl _) (rmOK_self _ _)) rfl (c_Sta_placeAt (i := q) ⟨rfl, q0, q1⟩) ?_
        refine r_astore (L' := [_, _, _, _, _, _]) dd_Sta_joinTwins_25 rfl rfl ?_
        refine r_aload dd_Sta_joinTwins_27 rfl ?_
        refine r_ifnullR dd_Sta_joinTwins_29 ?_
        refine r_aload dd_Sta_joinTwins_32 rfl ?_
        refine r_iloadn dd_Sta_joinTwins_34 rfl ?_
        refine r_V1W dd_Sta_joinTwins_35 ml_Sta_141 ok_Blk_isFreeOf vi_Blk_isFreeOf (vk_blk q0 q1) (by decide) (clS rfl (Nat.le_refl _) (rmOK_self _ _)) rfl (c_Blk_isFreeOf (vk_blk q0 q1)) ?_
        refine r_if_ne_b dd_Sta_joinTwins_38 (fun c_38 => ?_) (fun c_38 => ?_)
        · exact absurd (hfr.mp c_38) hj
        · exact r_retV dd_Sta_joinTwins_41 (by unfold jo1; rw [if_neg hj])
  · obtain ⟨q, hq⟩ : ∃ q, q = i - 2 := ⟨_, rfl⟩
    have q0 : 0 ≤ q := by omega
    have q1 : q < 16 := by omega
    have hbq := (hR.blk q0 q1).1
    have hfr := tw_free hR (z := 1) (q := q) (l := i - i % 4) (h := i - i % 4 + 2) (by omega) h0 h1 q0 q1 hm hf hl (by show _ + 8 = _; omega) (by omega)
    by_cases hj : jcM m (4 * i)
    · refine r_iloadn dd_Sta_joinTwins_7 rfl ?_
      refine r_iconst dd_Sta_joinTwins_8 ⟨by decide, by decide⟩ ?_
      refine r_icmp_ge dd_Sta_joinTwins_9 (fun c_9 => ?_) (fun c_9 => ?_)
      · exfalso; omega
      · refine r_aloadn dd_Sta_joinTwins_12 rfl ?_
        refine r_aloadn dd_Sta_joinTwins_13 rfl ?_
        refine r_getI dd_Sta_joinTwins_14 fl_Sta_98 (kI := 0) rfl fi_Blk_0 (vk_blk h0 h1) ?_
        rw [hbi]
        refine r_iloadn dd_Sta_joinTwins_17 rfl ?_
        refine r_S1W dd_Sta_joinTwins_18 ml_Sta_138 ok_Blk_wordsOf st_Blk_wordsOf (clS rfl (Nat.le_refl _) (rmOK_self _ _)) rfl c_Blk_wordsOf ?_
        rw [w0]
        refine r_ixorI dd_Sta_joinTwins_21 (by omega) (by decide) (by omega) (tw8 h0 h1 (q := q) (by omega)) ?_
        refine r_V1W dd_Sta_joinTwins_22 ml_Sta_160 ok_Sta_placeAt vi_Sta_placeAt vk_1 (by decide) (clS rfl (Nat.le_refl _) (rmOK_self _ _)) rfl (c_Sta_placeAt (i := q) ⟨rfl, q0, q1⟩) ?_
        refine r_astore (L' := [_, _, _, _, _, _]) dd_Sta_joinTwins_25 rfl rfl ?_
        refine r_aload dd_Sta_joinTwins_27 rfl ?_
        refine r_ifnullR dd_Sta_joinTwins_29 ?_
        refine r_aload dd_Sta_joinTwins_32 rfl ?_
        refine r_iloadn dd_Sta_joinTwins_34 rfl ?_
        refine r_V1W dd_Sta_joinTwins_35 ml_Sta_141 ok_Blk_isFreeOf vi_Blk_isFreeOf (vk_blk q0 q1) (by decide) (clS rfl (Nat.le_refl _) (rmOK_self _ _)) rfl (c_Blk_isFreeOf (vk_blk q0 q1)) ?_
        refine r_if_ne_b dd_Sta_joinTwins_38 (fun c_38 => ?_) (fun c_38 => ?_)
        · refine r_aload dd_Sta_joinTwins_42 rfl ?_
          refine r_astore (L' := [_, _, _, _, _, _]) dd_Sta_joinTwins_44 rfl rfl ?_
          refine r_aload dd_Sta_joinTwins_46 rfl ?_
          refine r_getI dd_Sta_joinTwins_48 fl_Sta_98 (kI := 0) rfl fi_Blk_0 (vk_blk q0 q1) ?_
          rw [hbq]
          refine r_aloadn dd_Sta_joinTwins_51 rfl ?_
          refine r_getI dd_Sta_joinTwins_52 fl_Sta_98 (kI := 0) rfl fi_Blk_0 (vk_blk h0 h1) ?_
          rw [hbi]
          refine r_icmp_ge dd_Sta_joinTwins_55 (fun c_55 => ?_) (fun c_55 => ?_)
          · exfalso; omega
          · refine r_aloadn dd_Sta_joinTwins_58 rfl ?_
            refine r_astore (L' := [_, _, _, _, _, _]) dd_Sta_joinTwins_59 rfl rfl ?_
            refine r_aload dd_Sta_joinTwins_61 rfl ?_
            refine r_astoren (L' := [_, _, _, _, _, _]) dd_Sta_joinTwins_63 rfl rfl ?_
            refine r_aload dd_Sta_joinTwins_64 rfl ?_
            refine r_iconst dd_Sta_joinTwins_66 ⟨by decide, by decide⟩ ?_
            refine r_putI dd_Sta_joinTwins_67 fl_Sta_151 (kI := 1) rfl fc_Blk_1 ff_Blk_1 (pi_Blk_1 _) (vk_blk h0 h1) ?_
            refine r_aloadn dd_Sta_joinTwins_70 rfl ?_
            refine r_iloadn dd_Sta_joinTwins_71 rfl ?_
            refine r_iconst dd_Sta_joinTwins_72 ⟨by decide, by decide⟩ ?_
            refine r_iadd dd_Sta_joinTwins_73 ⟨by omega, by omega⟩ ?_
            refine r_putI dd_Sta_joinTwins_74 fl_Sta_151 (kI := 1) rfl fc_Blk_1 ff_Blk_1 (pi_Blk_1 _) (vk_blk q0 q1) ?_
            refine r_aloadn dd_Sta_joinTwins_77 rfl ?_
            refine r_dup dd_Sta_joinTwins_78 ?_
            refine r_getI dd_Sta_joinTwins_79 fl_Sta_57 (kI := 7) rfl fi_Sta_7 vk_1 ?_
            rw [upM_ne (Or.inl (by omega)), upM_ne (Or.inl (by omega))]
            refine r_iconst dd_Sta_joinTwins_82 ⟨by decide, by decide⟩ ?_
            refine r_iadd dd_Sta_joinTwins_83 ⟨by omega, by omega⟩ ?_
            refine r_putI dd_Sta_joinTwins_84 fl_Sta_57 (kI := 7) rfl fc_Sta_7 ff_Sta_7 (pi_Sta_7 _) vk_1 ?_
            refine r_iinc (L' := [_, _, _, _, _, _]) dd_Sta_joinTwins_87 rfl ⟨by omega, by omega⟩ rfl ?_
            refine r_goto dd_Sta_joinTwins_90 ?_
            refine r_iloadn dd_Sta_joinTwins_7 rfl ?_
            refine r_iconst dd_Sta_joinTwins_8 ⟨by decide, by decide⟩ ?_
            refine r_icmp_ge dd_Sta_joinTwins_9 (fun c_9 => ?_) (fun c_9 => ?_)
            · exact r_retV dd_Sta_joinTwins_93 (by unfold jo1; rw [if_pos hj, elP, ehP, show i - i % 4 = q by omega, show q + 2 = i by omega]; rfl)
            · exfalso; omega
        · exact absurd (hfr.mpr hj) c_38
    -- the twin isn't free
    · refine r_iloadn dd_Sta_joinTwins_7 rfl ?_
      refine r_iconst dd_Sta_joinTwins_8 ⟨by decide, by decide⟩ ?_
      refine r_icmp_ge dd_Sta_joinTwins_9 (fun c_9 => ?_) (fun c_9 => ?_)
      · exfalso; omega
      · refine r_aloadn dd_Sta_joinTwins_12 rfl ?_
        refine r_aloadn dd_Sta_joinTwins_13 rfl ?_
        refine r_getI dd_Sta_joinTwins_14 fl_Sta_98 (kI := 0) rfl fi_Blk_0 (vk_blk h0 h1) ?_
        rw [hbi]
        refine r_iloadn dd_Sta_joinTwins_17 rfl ?_
        refine r_S1W dd_Sta_joinTwins_18 ml_Sta_138 ok_Blk_wordsOf st_Blk_wordsOf (clS rfl (Nat.le_refl _) (rmOK_self _ _)) rfl c_Blk_wordsOf ?_
        rw [w0]
        refine r_ixorI dd_Sta_joinTwins_21 (by omega) (by decide) (by omega) (tw8 h0 h1 (q := q) (by omega)) ?_
        refine r_V1W dd_Sta_joinTwins_22 ml_Sta_160 ok_Sta_placeAt vi_Sta_placeAt vk_1 (by decide) (clS rfl (Nat.le_refl _) (rmOK_self _ _)) rfl (c_Sta_placeAt (i := q) ⟨rfl, q0, q1⟩) ?_
        refine r_astore (L' := [_, _, _, _, _, _]) dd_Sta_joinTwins_25 rfl rfl ?_
        refine r_aload dd_Sta_joinTwins_27 rfl ?_
        refine r_ifnullR dd_Sta_joinTwins_29 ?_
        refine r_aload dd_Sta_joinTwins_32 rfl ?_
        refine r_iloadn dd_Sta_joinTwins_34 rfl ?_
        refine r_V1W dd_Sta_joinTwins_35 ml_Sta_141 ok_Blk_isFreeOf vi_Blk_isFreeOf (vk_blk q0 q1) (by decide) (clS rfl (Nat.le_refl _) (rmOK_self _ _)) rfl (c_Blk_isFreeOf (vk_blk q0 q1)) ?_
        refine r_if_ne_b dd_Sta_joinTwins_38 (fun c_38 => ?_) (fun c_38 => ?_)
        · exact absurd (hfr.mp c_38) hj
        · exact r_retV dd_Sta_joinTwins_41 (by unfold jo1; rw [if_neg hj])
theorem jt0 {μ : Int → Int → Int} {K : Int} {m : Int → Int} (hR : RI K μ m) (hK : K + 3 ≤ 500000000) {i f : Int} (h0 : 0 ≤ i) (h1 : i < 16) (hm : m (128 + 4 * i) = 4) (hf : m (192 + 4 * i) = -5) : SPW mi_Sta_joinTwins 219 7 [some (vR 1), some (vR (3 + f)), some (vR (3 + i)), some (vI 0), none, none] [] (st μ) none (st (jo0 μ m i)) := by
  have hl := lw_4 hm h0 h1
  have w0 : wz 0 = 4 := rfl
  have hbi := (hR.blk h0 h1).1
  have elP : lP m i = i - i % 2 := by unfold lP; rw [hl]; omega
  have ehP : hP m i = i - i % 2 + 1 := by unfold hP; rw [hl, hm]; omega
  have h7 : 0 ≤ μ 1 7 ∧ μ 1 7 ≤ 500000000 := by
    have e1 : μ 1 7 = m 469 := hR.1.2.2.2.2.2.2.2.1
    have e2 := hR.2.1.2.2.2.2.2.1
    omega
  rcases (show i % 2 = 0 ∨ i % 2 = 1 by omega) with hi | hi
  · obtain ⟨q, hq⟩ : ∃ q, q = i + 1 := ⟨_, rfl⟩
    have q0 : 0 ≤ q := by omega
    have q1 : q < 16 := by omega
    have hbq := (hR.blk q0 q1).1
    have hfr := tw_free hR (z := 0) (q := q) (l := i - i % 2) (h := i - i % 2 + 1) (by omega) h0 h1 q0 q1 hm hf hl (by show _ + 4 = _; omega) (by omega)
    by_cases hj : jcM m (4 * i)
    · refine r_iloadn dd_Sta_joinTwins_7 rfl ?_
      refine r_iconst dd_Sta_joinTwins_8 ⟨by decide, by decide⟩ ?_
      refine r_icmp_ge dd_Sta_joinTwins_9 (fun c_9 => ?_) (fun c_9 => ?_)
      · exfalso; omega
      · refine r_aloadn dd_Sta_joinTwins_12 rfl ?_
        refine r_aloadn dd_Sta_joinTwins_13 rfl ?_
        refine r_getI dd_Sta_joinTwins_14 fl_Sta_98 (kI := 0) rfl fi_Blk_0 (vk_blk h0 h1) ?_
        rw [hbi]
        refine r_iloadn dd_Sta_joinTwins_17 rfl ?_
        refine r_S1W dd_Sta_joinTwins_18 ml_Sta_138 ok_Blk_wordsOf st_Blk_wordsOf (clS rfl (Nat.le_refl _) (rmOK_self _ _)) rfl c_Blk_wordsOf ?_
        rw [w0]
        refine r_ixorI dd_Sta_joinTwins_21 (by omega) (by decide) (by omega) (tw4 h0 h1 (q := q) (by omega)) ?_
        refine r_V1W dd_Sta_joinTwins_22 ml_Sta_160 ok_Sta_placeAt vi_Sta_placeAt vk_1 (by decide) (clS rfl (Nat.le_refl _) (rmOK_self _ _)) rfl (c_Sta_placeAt (i := q) ⟨rfl, q0, q1⟩) ?_
        refine r_astore (L' := [_, _, _, _, _, _]) dd_Sta_joinTwins_25 rfl rfl ?_
        refine r_aload dd_Sta_joinTwins_27 rfl ?_
        refine r_ifnullR dd_Sta_joinTwins_29 ?_
        refine r_aload dd_Sta_joinTwins_32 rfl ?_
        refine r_iloadn dd_Sta_joinTwins_34 rfl ?_
        refine r_V1W dd_Sta_joinTwins_35 ml_Sta_141 ok_Blk_isFreeOf vi_Blk_isFreeOf (vk_blk q0 q1) (by decide) (clS rfl (Nat.le_refl _) (rmOK_self _ _)) rfl (c_Blk_isFreeOf (vk_blk q0 q1)) ?_
        refine r_if_ne_b dd_Sta_joinTwins_38 (fun c_38 => ?_) (fun c_38 => ?_)
        · refine r_aload dd_Sta_joinTwins_42 rfl ?_
          refine r_astore (L' := [_, _, _, _, _, _]) dd_Sta_joinTwins_44 rfl rfl ?_
          refine r_aload dd_Sta_joinTwins_46 rfl ?_
          refine r_getI dd_Sta_joinTwins_48 fl_Sta_98 (kI := 0) rfl fi_Blk_0 (vk_blk q0 q1) ?_
          rw [hbq]
          refine r_aloadn dd_Sta_joinTwins_51 rfl ?_
          refine r_getI dd_Sta_joinTwins_52 fl_Sta_98 (kI := 0) rfl fi_Blk_0 (vk_blk h0 h1) ?_
          rw [hbi]
          refine r_icmp_ge dd_Sta_joinTwins_55 (fun c_55 => ?_) (fun c_55 => ?_)
          · refine r_aload dd_Sta_joinTwins_64 rfl ?_
            refine r_iconst dd_Sta_joinTwins_66 ⟨by decide, by decide⟩ ?_
            refine r_putI dd_Sta_joinTwins_67 fl_Sta_151 (kI := 1) rfl fc_Blk_1 ff_Blk_1 (pi_Blk_1 _) (vk_blk q0 q1) ?_
            refine r_aloadn dd_Sta_joinTwins_70 rfl ?_
            refine r_iloadn dd_Sta_joinTwins_71 rfl ?_
            refine r_iconst dd_Sta_joinTwins_72 ⟨by decide, by decide⟩ ?_
            refine r_iadd dd_Sta_joinTwins_73 ⟨by omega, by omega⟩ ?_
            refine r_putI dd_Sta_joinTwins_74 fl_Sta_151 (kI := 1) rfl fc_Blk_1 ff_Blk_1 (pi_Blk_1 _) (vk_blk h0 h1) ?_
            refine r_aloadn dd_Sta_joinTwins_77 rfl ?_
            refine r_dup dd_Sta_joinTwins_78 ?_
            refine r_getI dd_Sta_joinTwins_79 fl_Sta_57 (kI := 7) rfl fi_Sta_7 vk_1 ?_
            rw [upM_ne (Or.inl (by omega)), upM_ne (Or.inl (by omega))]
            refine r_iconst dd_Sta_joinTwins_82 ⟨by decide, by decide⟩ ?_
            refine r_iadd dd_Sta_joinTwins_83 ⟨by omega, by omega⟩ ?_
            refine r_putI dd_Sta_joinTwins_84 fl_Sta_57 (kI := 7) rfl fc_Sta_7 ff_Sta_7 (pi_Sta_7 _) vk_1 ?_
            refine r_iinc (L' := [_, _, _, _, _, _]) dd_Sta_joinTwins_87 rfl ⟨by omega, by omega⟩ rfl ?_
            refine r_goto dd_Sta_joinTwins_90 ?_
            refine r_drop 4 (r_drop 5 ?_)
            have hR1 := RI_js hR (by omega) (z := 0) h0 h1 (Or.inl ⟨rfl, hm⟩) hj
            have e1 : lP m i = i := by omega
            have e2 : hP m i = q := by omega
            have k8 := js_lw (z := 4) (by omega) (by omega) (Or.inl rfl) hm
            have k5 : jsM m (4 * i) (192 + 4 * lP m i) = -5 := by
              unfold jsM
              rw [up1_ne (by omega), up1_ne (by omega), up1_ne (by omega)]
              have := (jc_iff hm).mp hj
              rw [hl, show i - i % 2 = lP m i by omega] at this
              exact this.1.2
            rw [hl, show i - i % 2 = lP m i by omega] at k8
            have k2 := jt1 (f := f) hR1 (by omega) (by omega) (by omega) k8 k5
            rw [show jo0 μ m i = jo1 (jC μ (lP m i) (hP m i) 0) (jsM m (4 * i)) (lP m i) from if_pos hj]
            rw [e1, e2] at k2 ⊢
            exact k2
          · exfalso; omega
        · exact absurd (hfr.mpr hj) c_38
    -- the twin isn't free
    · refine r_iloadn dd_Sta_joinTwins_7 rfl ?_
      refine r_iconst dd_Sta_joinTwins_8 ⟨by decide, by decide⟩ ?_
      refine r_icmp_ge dd_Sta_joinTwins_9 (fun c_9 => ?_) (fun c_9 => ?_)
      · exfalso; omega
      · refine r_aloadn dd_Sta_joinTwins_12 rfl ?_
        refine r_aloadn dd_Sta_joinTwins_13 rfl ?_
        refine r_getI dd_Sta_joinTwins_14 fl_Sta_98 (kI := 0) rfl fi_Blk_0 (vk_blk h0 h1) ?_
        rw [hbi]
        refine r_iloadn dd_Sta_joinTwins_17 rfl ?_
        refine r_S1W dd_Sta_joinTwins_18 ml_Sta_138 ok_Blk_wordsOf st_Blk_wordsOf (clS rfl (Nat.le_refl _) (rmOK_self _ _)) rfl c_Blk_wordsOf ?_
        rw [w0]
        refine r_ixorI dd_Sta_joinTwins_21 (by omega) (by decide) (by omega) (tw4 h0 h1 (q := q) (by omega)) ?_
        refine r_V1W dd_Sta_joinTwins_22 ml_Sta_160 ok_Sta_placeAt vi_Sta_placeAt vk_1 (by decide) (clS rfl (Nat.le_refl _) (rmOK_self _ _)) rfl (c_Sta_placeAt (i := q) ⟨rfl, q0, q1⟩) ?_
        refine r_astore (L' := [_, _, _, _, _, _]) dd_Sta_joinTwins_25 rfl rfl ?_
        refine r_aload dd_Sta_joinTwins_27 rfl ?_
        refine r_ifnullR dd_Sta_joinTwins_29 ?_
        refine r_aload dd_Sta_joinTwins_32 rfl ?_
        refine r_iloadn dd_Sta_joinTwins_34 rfl ?_
        refine r_V1W dd_Sta_joinTwins_35 ml_Sta_141 ok_Blk_isFreeOf vi_Blk_isFreeOf (vk_blk q0 q1) (by decide) (clS rfl (Nat.le_refl _) (rmOK_self _ _)) rfl (c_Blk_isFreeOf (vk_blk q0 q1)) ?_
        refine r_if_ne_b dd_Sta_joinTwins_38 (fun c_38 => ?_) (fun c_38 => ?_)
        · exact absurd (hfr.mp c_38) hj
        · exact r_retV dd_Sta_joinTwins_41 (by unfold jo0; rw [if_neg hj])
  · obtain ⟨q, hq⟩ : ∃ q, q = i - 1 := ⟨_, rfl⟩
    have q0 : 0 ≤ q := by omega
    have q1 : q < 16 := by omega
    have hbq := (hR.blk q0 q1).1
    have hfr := tw_free hR (z := 0) (q := q) (l := i - i % 2) (h := i - i % 2 + 1) (by omega) h0 h1 q0 q1 hm hf hl (by show _ + 4 = _; omega) (by omega)
    by_cases hj : jcM m (4 * i)
    · refine r_iloadn dd_Sta_joinTwins_7 rfl ?_
      refine r_iconst dd_Sta_joinTwins_8 ⟨by decide, by decide⟩ ?_
      refine r_icmp_ge dd_Sta_joinTwins_9 (fun c_9 => ?_) (fun c_9 => ?_)
      · exfalso; omega
      · refine r_aloadn dd_Sta_joinTwins_12 rfl ?_
        refine r_aloadn dd_Sta_joinTwins_13 rfl ?_
        refine r_getI dd_Sta_joinTwins_14 fl_Sta_98 (kI := 0) rfl fi_Blk_0 (vk_blk h0 h1) ?_
        rw [hbi]
        refine r_iloadn dd_Sta_joinTwins_17 rfl ?_
        refine r_S1W dd_Sta_joinTwins_18 ml_Sta_138 ok_Blk_wordsOf st_Blk_wordsOf (clS rfl (Nat.le_refl _) (rmOK_self _ _)) rfl c_Blk_wordsOf ?_
        rw [w0]
        refine r_ixorI dd_Sta_joinTwins_21 (by omega) (by decide) (by omega) (tw4 h0 h1 (q := q) (by omega)) ?_
        refine r_V1W dd_Sta_joinTwins_22 ml_Sta_160 ok_Sta_placeAt vi_Sta_placeAt vk_1 (by decide) (clS rfl (Nat.le_refl _) (rmOK_self _ _)) rfl (c_Sta_placeAt (i := q) ⟨rfl, q0, q1⟩) ?_
        refine r_astore (L' := [_, _, _, _, _, _]) dd_Sta_joinTwins_25 rfl rfl ?_
        refine r_aload dd_Sta_joinTwins_27 rfl ?_
        refine r_ifnullR dd_Sta_joinTwins_29 ?_
        refine r_aload dd_Sta_joinTwins_32 rfl ?_
        refine r_iloadn dd_Sta_joinTwins_34 rfl ?_
        refine r_V1W dd_Sta_joinTwins_35 ml_Sta_141 ok_Blk_isFreeOf vi_Blk_isFreeOf (vk_blk q0 q1) (by decide) (clS rfl (Nat.le_refl _) (rmOK_self _ _)) rfl (c_Blk_isFreeOf (vk_blk q0 q1)) ?_
        refine r_if_ne_b dd_Sta_joinTwins_38 (fun c_38 => ?_) (fun c_38 => ?_)
        · refine r_aload dd_Sta_joinTwins_42 rfl ?_
          refine r_astore (L' := [_, _, _, _, _, _]) dd_Sta_joinTwins_44 rfl rfl ?_
          refine r_aload dd_Sta_joinTwins_46 rfl ?_
          refine r_getI dd_Sta_joinTwins_48 fl_Sta_98 (kI := 0) rfl fi_Blk_0 (vk_blk q0 q1) ?_
          rw [hbq]
          refine r_aloadn dd_Sta_joinTwins_51 rfl ?_
          refine r_getI dd_Sta_joinTwins_52 fl_Sta_98 (kI := 0) rfl fi_Blk_0 (vk_blk h0 h1) ?_
          rw [hbi]
          refine r_icmp_ge dd_Sta_joinTwins_55 (fun c_55 => ?_) (fun c_55 => ?_)
          · exfalso; omega
          · refine r_aloadn dd_Sta_joinTwins_58 rfl ?_
            refine r_astore (L' := [_, _, _, _, _, _]) dd_Sta_joinTwins_59 rfl rfl ?_
            refine r_aload dd_Sta_joinTwins_61 rfl ?_
            refine r_astoren (L' := [_, _, _, _, _, _]) dd_Sta_joinTwins_63 rfl rfl ?_
            refine r_aload dd_Sta_joinTwins_64 rfl ?_
            refine r_iconst dd_Sta_joinTwins_66 ⟨by decide, by decide⟩ ?_
            refine r_putI dd_Sta_joinTwins_67 fl_Sta_151 (kI := 1) rfl fc_Blk_1 ff_Blk_1 (pi_Blk_1 _) (vk_blk h0 h1) ?_
            refine r_aloadn dd_Sta_joinTwins_70 rfl ?_
            refine r_iloadn dd_Sta_joinTwins_71 rfl ?_
            refine r_iconst dd_Sta_joinTwins_72 ⟨by decide, by decide⟩ ?_
            refine r_iadd dd_Sta_joinTwins_73 ⟨by omega, by omega⟩ ?_
            refine r_putI dd_Sta_joinTwins_74 fl_Sta_151 (kI := 1) rfl fc_Blk_1 ff_Blk_1 (pi_Blk_1 _) (vk_blk q0 q1) ?_
            refine r_aloadn dd_Sta_joinTwins_77 rfl ?_
            refine r_dup dd_Sta_joinTwins_78 ?_
            refine r_getI dd_Sta_joinTwins_79 fl_Sta_57 (kI := 7) rfl fi_Sta_7 vk_1 ?_
            rw [upM_ne (Or.inl (by omega)), upM_ne (Or.inl (by omega))]
            refine r_iconst dd_Sta_joinTwins_82 ⟨by decide, by decide⟩ ?_
            refine r_iadd dd_Sta_joinTwins_83 ⟨by omega, by omega⟩ ?_
            refine r_putI dd_Sta_joinTwins_84 fl_Sta_57 (kI := 7) rfl fc_Sta_7 ff_Sta_7 (pi_Sta_7 _) vk_1 ?_
            refine r_iinc (L' := [_, _, _, _, _, _]) dd_Sta_joinTwins_87 rfl ⟨by omega, by omega⟩ rfl ?_
            refine r_goto dd_Sta_joinTwins_90 ?_
            refine r_drop 4 (r_drop 5 ?_)
            have hR1 := RI_js hR (by omega) (z := 0) h0 h1 (Or.inl ⟨rfl, hm⟩) hj
            have e1 : lP m i = q := by omega
            have e2 : hP m i = i := by omega
            have k8 := js_lw (z := 4) (by omega) (by omega) (Or.inl rfl) hm
            have k5 : jsM m (4 * i) (192 + 4 * lP m i) = -5 := by
              unfold jsM
              rw [up1_ne (by omega), up1_ne (by omega), up1_ne (by omega)]
              have := (jc_iff hm).mp hj
              rw [hl, show i - i % 2 = lP m i by omega] at this
              exact this.1.2
            rw [hl, show i - i % 2 = lP m i by omega] at k8
            have k2 := jt1 (f := f) hR1 (by omega) (by omega) (by omega) k8 k5
            rw [show jo0 μ m i = jo1 (jC μ (lP m i) (hP m i) 0) (jsM m (4 * i)) (lP m i) from if_pos hj]
            rw [e1, e2] at k2 ⊢
            exact k2
        · exact absurd (hfr.mpr hj) c_38
    -- the twin isn't free
    · refine r_iloadn dd_Sta_joinTwins_7 rfl ?_
      refine r_iconst dd_Sta_joinTwins_8 ⟨by decide, by decide⟩ ?_
      refine r_icmp_ge dd_Sta_joinTwins_9 (fun c_9 => ?_) (fun c_9 => ?_)
      · exfalso; omega
      · refine r_aloadn dd_Sta_joinTwins_12 rfl ?_
        refine r_aloadn dd_Sta_joinTwins_13 rfl ?_
        refine r_getI dd_Sta_joinTwins_14 fl_Sta_98 (kI := 0) rfl fi_Blk_0 (vk_blk h0 h1) ?_
        rw [hbi]
        refine r_iloadn dd_Sta_joinTwins_17 rfl ?_
        refine r_S1W dd_Sta_joinTwins_18 ml_Sta_138 ok_Blk_wordsOf st_Blk_wordsOf (clS rfl (Nat.le_refl _) (rmOK_self _ _)) rfl c_Blk_wordsOf ?_
        rw [w0]
        refine r_ixorI dd_Sta_joinTwins_21 (by omega) (by decide) (by omega) (tw4 h0 h1 (q := q) (by omega)) ?_
        refine r_V1W dd_Sta_joinTwins_22 ml_Sta_160 ok_Sta_placeAt vi_Sta_placeAt vk_1 (by decide) (clS rfl (Nat.le_refl _) (rmOK_self _ _)) rfl (c_Sta_placeAt (i := q) ⟨rfl, q0, q1⟩) ?_
        refine r_astore (L' := [_, _, _, _, _, _]) dd_Sta_joinTwins_25 rfl rfl ?_
        refine r_aload dd_Sta_joinTwins_27 rfl ?_
        refine r_ifnullR dd_Sta_joinTwins_29 ?_
        refine r_aload dd_Sta_joinTwins_32 rfl ?_
        refine r_iloadn dd_Sta_joinTwins_34 rfl ?_
        refine r_V1W dd_Sta_joinTwins_35 ml_Sta_141 ok_Blk_isFreeOf vi_Blk_isFreeOf (vk_blk q0 q1) (by decide) (clS rfl (Nat.le_refl _) (rmOK_self _ _)) rfl (c_Blk_isFreeOf (vk_blk q0 q1)) ?_
        refine r_if_ne_b dd_Sta_joinTwins_38 (fun c_38 => ?_) (fun c_38 => ?_)
        · exact absurd (hfr.mp c_38) hj
        · exact r_retV dd_Sta_joinTwins_41 (by unfold jo0; rw [if_neg hj])
theorem jt_w {μ : Int → Int → Int} {K : Int} {m : Int → Int} (hR : RI K μ m) (hK : K + 3 ≤ 500000000) {i : Int} (h0 : 0 ≤ i) (h1 : i < 16) (hm : 0 < m (128 + 4 * i)) (hf : m (192 + 4 * i) = -5) : MetC mi_Sta_joinTwins [vR 1, vR (3 + i)] (st μ) none (st (joC μ m i)) := by
  refine met_of ?_ (Nat.le_of_ble_eq_true rfl) (by decide) trivial (by decide) (Nat.le_of_ble_eq_true rfl)
  show SPW mi_Sta_joinTwins 219 0 [some (vR 1), some (vR (3 + i)), none, none, none, none] [] (st μ) none (st (joC μ m i))
  have hb := hR.blk h0 h1
  have hw := wz_rg (μ (3 + i) 1)
  have hm2 := hb.2.2.1
  refine r_aloadn dd_Sta_joinTwins_0 rfl ?_
  refine r_astoren (L' := [_, _, _, _, _, _]) dd_Sta_joinTwins_1 rfl rfl ?_
  refine r_aloadn dd_Sta_joinTwins_2 rfl ?_
  refine r_getI dd_Sta_joinTwins_3 fl_Sta_151 (kI := 1) rfl fi_Blk_1 (vk_blk h0 h1) ?_
  refine r_istoren (L' := [_, _, _, _, _, _]) dd_Sta_joinTwins_6 rfl rfl ?_
  rcases (show (m (128 + 4 * i) = 4 ∧ μ (3 + i) 1 = 0) ∨ (m (128 + 4 * i) = 8 ∧ μ (3 + i) 1 = 1) ∨ (m (128 + 4 * i) = 16 ∧ μ (3 + i) 1 = 2) by omega) with ⟨e, s⟩ | ⟨e, s⟩ | ⟨e, s⟩
  · rw [s, show joC μ m i = jo0 μ m i from if_pos e]
    exact jt0 hR hK h0 h1 e hf
  · rw [s, show joC μ m i = jo1 μ m i by unfold joC; rw [if_neg (by omega), if_pos e]]
    exact jt1 hR (by omega) h0 h1 e hf
  · rw [s, show joC μ m i = μ by unfold joC; rw [if_neg (by omega), if_neg (by omega)]]
    refine r_iloadn dd_Sta_joinTwins_7 rfl ?_
    refine r_iconst dd_Sta_joinTwins_8 ⟨by decide, by decide⟩ ?_
    refine r_icmp_ge dd_Sta_joinTwins_9 (fun c_9 => ?_) (fun c_9 => ?_)
    · exact r_retV dd_Sta_joinTwins_93 rfl
    · exfalso; omega
theorem RI_jo {K : Int} {μ : Int → Int → Int} {m : Int → Int} (hR : RI K μ m) (hK : K + 2 ≤ 500000000) {i : Int} (h0 : 0 ≤ i) (h1 : i < 16) : RI (K + 2) (joC μ m i) (jnM m (4 * i)) := by
  have up : ∀ {K K' : Int} {μ : Int → Int → Int} {m : Int → Int}, RI K μ m → K ≤ K' → K' ≤ 500000000 → RI K' μ m := fun h a b => ⟨h.1, MW_mono h.2.1 a b, h.2.2⟩
  have j1 : ∀ {K : Int} {μ : Int → Int → Int} {m : Int → Int} {i : Int}, RI K μ m → K + 1 ≤ 500000000 → 0 ≤ i → i < 16 → m (128 + 4 * i) = 8 → RI (K + 1) (jo1 μ m i) (jn8 m (4 * i)) := by
    intro K μ m i hR hK h0 h1 hm
    unfold jo1 jn8
    by_cases hj : jcM m (4 * i)
    · rw [if_pos hj, if_pos hj]
      exact RI_js hR hK h0 h1 (Or.inr ⟨rfl, hm⟩) hj
    · rw [if_neg hj, if_neg hj]
      exact up hR (by omega) hK
  unfold joC jnM
  by_cases e4 : m (128 + 4 * i) = 4
  · rw [if_pos e4, if_pos e4]
    unfold jo0 jn4
    by_cases hj : jcM m (4 * i)
    · rw [if_pos hj, if_pos hj]
      have h2 := RI_js hR (by omega) h0 h1 (Or.inl ⟨rfl, e4⟩) hj
      have hl := lw_4 e4 h0 h1
      have hlP : lwM m (4 * i) = 4 * lP m i := by unfold lP; rw [hl]; omega
      have k8 := js_lw (z := 4) (by omega) (by omega) (Or.inl rfl) e4
      rw [hlP] at k8 ⊢
      have := j1 h2 (by omega) (by omega) (by omega) k8
      rw [show K + 1 + 1 = K + 2 by omega] at this
      exact this
    · rw [if_neg hj, if_neg hj]
      exact up hR (by omega) hK
  · rw [if_neg e4, if_neg e4]
    by_cases e8 : m (128 + 4 * i) = 8
    · rw [if_pos e8, if_pos e8]
      exact up (j1 hR (by omega) h0 h1 e8) (by omega) hK
    · rw [if_neg e8, if_neg e8]
      exact up hR (by omega) hK


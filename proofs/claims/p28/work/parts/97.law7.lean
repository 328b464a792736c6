/-! the law, from its start to its end -/
theorem rmL {t : Nat} (h : t ≤ 219) : rmOK mi_Law_law 0 t := rmOK_mono (t := 219) ⟨by decide +kernel, by decide +kernel⟩ h
theorem rmL_ : rmOK mi_Law_law 0 219 := rmL (Nat.le_refl _)
section LW
variable {K : Int} {μ μ1 μ2 : Int → Int → Int} {m : Int → Int} {e v k r : Int} {R : Option Vv} {Mf : Mm}
theorem lw_out (he : e = 54) : SPW mi_Law_law 0 10 [some (vR (-1)), some (vR 0), some (vI e), none, none, none] [] (st μ) (some (vI 1)) (st μ) := by
  refine r_iloadn dd_Law_law_10 rfl ?_
  refine r_bip dd_Law_law_11 ⟨by decide, by decide⟩ ?_
  refine r_icmp_ge dd_Law_law_13 (fun c_13 => ?_) (fun c_13 => ?_)
  · refine r_iconst dd_Law_law_125 ⟨by decide, by decide⟩ ?_
    exact r_retI dd_Law_law_126 (by first | rfl | omega | exact (b2_t (by first | assumption | omega)).symm | exact (b2_f (by first | assumption | omega)).symm) rfl
  · exfalso; omega
theorem lw_a (e0 : 0 ≤ e) (e1 : e < 54) (c : MetC mi_Law_does [vR 0, vI (cellV μ e)] (st μ) (some (vI r)) (st μ1)) (hr : -6 ≤ r) (hR : RI K μ1 m) (hl : cellV μ e % 16 = 13 → lksM m 6 = 0) (kk : SPW mi_Law_law 0 62 [some (vR (-1)), some (vR 0), some (vI e), some (vI (cellV μ e)), some (vI (cellV μ e % 16)), some (vI r)] [] (st μ1) R Mf) : SPW mi_Law_law 0 10 [some (vR (-1)), some (vR 0), some (vI e), none, none, none] [] (st μ) R Mf := by
  by_cases h1 : cellV μ e % 16 = 13
  · have z := hl h1
    by_cases h2 : r = 0
    · refine r_iloadn dd_Law_law_10 rfl ?_
      refine r_bip dd_Law_law_11 ⟨by decide, by decide⟩ ?_
      refine r_icmp_ge dd_Law_law_13 (fun c_13 => ?_) (fun c_13 => ?_)
      · exfalso; omega
      · refine r_aloadn dd_Law_law_16 rfl ?_
        refine r_iloadn dd_Law_law_17 rfl ?_
        refine r_S2W dd_Law_law_18 ml_Law_82 ok_Law_cell st_Law_cell (clS rfl (by decide) rmL_) rfl (c_Law_cell e0 (by omega)) ?_
        refine r_istoren (L' := [_, _, _, _, _, _]) dd_Law_law_21 rfl rfl ?_
        refine r_iloadn dd_Law_law_22 rfl ?_
        refine r_bip dd_Law_law_23 ⟨by decide, by decide⟩ ?_
        refine r_and15 dd_Law_law_25 ?_
        refine r_istore (L' := [_, _, _, _, _, _]) dd_Law_law_26 rfl rfl ?_
        refine r_aloadn dd_Law_law_28 rfl ?_
        refine r_iloadn dd_Law_law_29 rfl ?_
        refine r_S2W dd_Law_law_30 ml_Law_86 ok_Law_does st_Law_does (clS rfl (by decide) rmL_) rfl c ?_
        refine r_istore (L' := [_, _, _, _, _, _]) dd_Law_law_33 rfl rfl ?_
        refine r_iload dd_Law_law_35 rfl ?_
        refine r_bip dd_Law_law_37 ⟨by decide, by decide⟩ ?_
        refine r_icmp_lt dd_Law_law_39 (fun c_39 => ?_) (fun c_39 => ?_)
        · exfalso; omega
        · refine r_iload dd_Law_law_42 rfl ?_
          refine r_bip dd_Law_law_44 ⟨by decide, by decide⟩ ?_
          refine r_icmp_ne dd_Law_law_46 (fun c_46 => ?_) (fun c_46 => ?_)
          · exfalso; omega
          · refine r_iload dd_Law_law_49 rfl ?_
            refine r_if_eq dd_Law_law_51 (fun c_51 => ?_) (fun c_51 => ?_)
            · exact kk
            · exfalso; omega
    · refine r_iloadn dd_Law_law_10 rfl ?_
      refine r_bip dd_Law_law_11 ⟨by decide, by decide⟩ ?_
      refine r_icmp_ge dd_Law_law_13 (fun c_13 => ?_) (fun c_13 => ?_)
      · exfalso; omega
      · refine r_aloadn dd_Law_law_16 rfl ?_
        refine r_iloadn dd_Law_law_17 rfl ?_
        refine r_S2W dd_Law_law_18 ml_Law_82 ok_Law_cell st_Law_cell (clS rfl (by decide) rmL_) rfl (c_Law_cell e0 (by omega)) ?_
        refine r_istoren (L' := [_, _, _, _, _, _]) dd_Law_law_21 rfl rfl ?_
        refine r_iloadn dd_Law_law_22 rfl ?_
        refine r_bip dd_Law_law_23 ⟨by decide, by decide⟩ ?_
        refine r_and15 dd_Law_law_25 ?_
        refine r_istore (L' := [_, _, _, _, _, _]) dd_Law_law_26 rfl rfl ?_
        refine r_aloadn dd_Law_law_28 rfl ?_
        refine r_iloadn dd_Law_law_29 rfl ?_
        refine r_S2W dd_Law_law_30 ml_Law_86 ok_Law_does st_Law_does (clS rfl (by decide) rmL_) rfl c ?_
        refine r_istore (L' := [_, _, _, _, _, _]) dd_Law_law_33 rfl rfl ?_
        refine r_iload dd_Law_law_35 rfl ?_
        refine r_bip dd_Law_law_37 ⟨by decide, by decide⟩ ?_
        refine r_icmp_lt dd_Law_law_39 (fun c_39 => ?_) (fun c_39 => ?_)
        · exfalso; omega
        · refine r_iload dd_Law_law_42 rfl ?_
          refine r_bip dd_Law_law_44 ⟨by decide, by decide⟩ ?_
          refine r_icmp_ne dd_Law_law_46 (fun c_46 => ?_) (fun c_46 => ?_)
          · exfalso; omega
          · refine r_iload dd_Law_law_49 rfl ?_
            refine r_if_eq dd_Law_law_51 (fun c_51 => ?_) (fun c_51 => ?_)
            · exfalso; omega
            · refine r_aloadn dd_Law_law_54 rfl ?_
              refine r_iconst dd_Law_law_55 ⟨by decide, by decide⟩ ?_
              refine r_V1W dd_Law_law_56 ml_Law_8 ok_Poo_count vi_Poo_count vk_0 (by decide) (clS rfl (by decide) rmL_) rfl (c_cnt3 hR) ?_
              refine r_if_ne dd_Law_law_59 (fun c_59 => ?_) (fun c_59 => ?_)
              · exfalso; omega
              · exact kk
  · refine r_iloadn dd_Law_law_10 rfl ?_
    refine r_bip dd_Law_law_11 ⟨by decide, by decide⟩ ?_
    refine r_icmp_ge dd_Law_law_13 (fun c_13 => ?_) (fun c_13 => ?_)
    · exfalso; omega
    · refine r_aloadn dd_Law_law_16 rfl ?_
      refine r_iloadn dd_Law_law_17 rfl ?_
      refine r_S2W dd_Law_law_18 ml_Law_82 ok_Law_cell st_Law_cell (clS rfl (by decide) rmL_) rfl (c_Law_cell e0 (by omega)) ?_
      refine r_istoren (L' := [_, _, _, _, _, _]) dd_Law_law_21 rfl rfl ?_
      refine r_iloadn dd_Law_law_22 rfl ?_
      refine r_bip dd_Law_law_23 ⟨by decide, by decide⟩ ?_
      refine r_and15 dd_Law_law_25 ?_
      refine r_istore (L' := [_, _, _, _, _, _]) dd_Law_law_26 rfl rfl ?_
      refine r_aloadn dd_Law_law_28 rfl ?_
      refine r_iloadn dd_Law_law_29 rfl ?_
      refine r_S2W dd_Law_law_30 ml_Law_86 ok_Law_does st_Law_does (clS rfl (by decide) rmL_) rfl c ?_
      refine r_istore (L' := [_, _, _, _, _, _]) dd_Law_law_33 rfl rfl ?_
      refine r_iload dd_Law_law_35 rfl ?_
      refine r_bip dd_Law_law_37 ⟨by decide, by decide⟩ ?_
      refine r_icmp_lt dd_Law_law_39 (fun c_39 => ?_) (fun c_39 => ?_)
      · exfalso; omega
      · refine r_iload dd_Law_law_42 rfl ?_
        refine r_bip dd_Law_law_44 ⟨by decide, by decide⟩ ?_
        refine r_icmp_ne dd_Law_law_46 (fun c_46 => ?_) (fun c_46 => ?_)
        · exact kk
        · exfalso; omega
theorem lw_b (e0 : 0 ≤ e) (e1 : e < 54) (hR : RI K μ m) (hE : EX m) (kk : SPW mi_Law_law 0 83 [some (vR (-1)), some (vR 0), some (vI e), some (vI v), some (vI k), some (vI r)] [] (st μ) R Mf) : SPW mi_Law_law 0 62 [some (vR (-1)), some (vR 0), some (vI e), some (vI v), some (vI k), some (vI r)] [] (st μ) R Mf := by
  by_cases h1 : e % 4 = 1
  · refine r_aloadn dd_Law_law_62 rfl ?_
    refine r_S1W dd_Law_law_63 ml_Law_89 ok_Law_arePartsSo st_Law_arePartsSo (clS rfl (by decide) rmL_) rfl (c_Law_parts hR hE) ?_
    refine r_if_eq dd_Law_law_66 (fun c_66 => ?_) (fun c_66 => ?_)
    · exfalso; omega
    · refine r_iloadn dd_Law_law_69 rfl ?_
      refine r_iconst dd_Law_law_70 ⟨by decide, by decide⟩ ?_
      refine r_irem dd_Law_law_71 e0 (by decide) ?_
      refine r_iconst dd_Law_law_72 ⟨by decide, by decide⟩ ?_
      refine r_icmp_ne dd_Law_law_73 (fun c_73 => ?_) (fun c_73 => ?_)
      · exfalso; omega
      · refine r_aloadn dd_Law_law_76 rfl ?_
        refine r_S1W dd_Law_law_77 ml_Law_93 ok_Law_areTasksSo st_Law_areTasksSo (clS rfl (by decide) rmL_) rfl (c_Law_tasks hR hE) ?_
        refine r_if_eq dd_Law_law_80 (fun c_80 => ?_) (fun c_80 => ?_)
        · exfalso; omega
        · exact kk
  · refine r_aloadn dd_Law_law_62 rfl ?_
    refine r_S1W dd_Law_law_63 ml_Law_89 ok_Law_arePartsSo st_Law_arePartsSo (clS rfl (by decide) rmL_) rfl (c_Law_parts hR hE) ?_
    refine r_if_eq dd_Law_law_66 (fun c_66 => ?_) (fun c_66 => ?_)
    · exfalso; omega
    · refine r_iloadn dd_Law_law_69 rfl ?_
      refine r_iconst dd_Law_law_70 ⟨by decide, by decide⟩ ?_
      refine r_irem dd_Law_law_71 e0 (by decide) ?_
      refine r_iconst dd_Law_law_72 ⟨by decide, by decide⟩ ?_
      refine r_icmp_ne dd_Law_law_73 (fun c_73 => ?_) (fun c_73 => ?_)
      · exact kk
      · exfalso; omega
theorem lw_c0 (e0 : 0 ≤ e) (e1 : e < 54) (h : ¬ e % 3 = 2) (kk : SPW mi_Law_law 0 10 [some (vR (-1)), some (vR 0), some (vI (e + 1)), none, none, none] [] (st μ) R Mf) : SPW mi_Law_law 0 83 [some (vR (-1)), some (vR 0), some (vI e), some (vI v), some (vI k), some (vI r)] [] (st μ) R Mf := by
  refine r_iloadn dd_Law_law_83 rfl ?_
  refine r_iconst dd_Law_law_84 ⟨by decide, by decide⟩ ?_
  refine r_irem dd_Law_law_85 e0 (by decide) ?_
  refine r_iconst dd_Law_law_86 ⟨by decide, by decide⟩ ?_
  refine r_icmp_ne dd_Law_law_87 (fun c_87 => ?_) (fun c_87 => ?_)
  · refine r_iinc (L' := [_, _, _, _, _, _]) dd_Law_law_119 rfl ⟨by omega, by omega⟩ rfl ?_
    refine r_goto dd_Law_law_122 ?_
    refine r_drop 3 ?_
    refine r_drop 4 ?_
    refine r_drop 5 ?_
    exact kk
  · exfalso; omega
theorem lw_c1 (e0 : 0 ≤ e) (e1 : e < 54) (h : e % 3 = 2) (c : MetC mi_Law_isAskSo [vR 0, vI (lowV (shrI v 6) 6), vI (1 + lowV (shrI v 9) 14)] (st μ) (some (vI 1)) (st μ1)) (kk : SPW mi_Law_law 0 10 [some (vR (-1)), some (vR 0), some (vI (e + 1)), none, none, none] [] (st μ1) R Mf) : SPW mi_Law_law 0 83 [some (vR (-1)), some (vR 0), some (vI e), some (vI v), some (vI k), some (vI r)] [] (st μ) R Mf := by
  refine r_iloadn dd_Law_law_83 rfl ?_
  refine r_iconst dd_Law_law_84 ⟨by decide, by decide⟩ ?_
  refine r_irem dd_Law_law_85 e0 (by decide) ?_
  refine r_iconst dd_Law_law_86 ⟨by decide, by decide⟩ ?_
  refine r_icmp_ne dd_Law_law_87 (fun c_87 => ?_) (fun c_87 => ?_)
  · exfalso; omega
  · refine r_aloadn dd_Law_law_90 rfl ?_
    refine r_iloadn dd_Law_law_91 rfl ?_
    refine r_bip dd_Law_law_92 ⟨by decide, by decide⟩ ?_
    refine r_ishr dd_Law_law_94 ?_
    refine r_bip dd_Law_law_95 ⟨by decide, by decide⟩ ?_
    refine r_S2W dd_Law_law_97 ml_Law_14 ok_Law_low st_Law_low (clS rfl (by decide) rmL_) rfl (c_Law_low (by decide)) ?_
    refine r_iconst dd_Law_law_100 ⟨by decide, by decide⟩ ?_
    refine r_iloadn dd_Law_law_101 rfl ?_
    refine r_bip dd_Law_law_102 ⟨by decide, by decide⟩ ?_
    refine r_ishr dd_Law_law_104 ?_
    refine r_bip dd_Law_law_105 ⟨by decide, by decide⟩ ?_
    refine r_S2W dd_Law_law_107 ml_Law_14 ok_Law_low st_Law_low (clS rfl (by decide) rmL_) rfl (c_Law_low (by decide)) ?_
    refine r_iadd dd_Law_law_110 (by have := lowV_rg (v := shrI v 9) (n := 14) (by decide); exact ⟨by omega, by omega⟩) ?_
    refine r_S3W dd_Law_law_111 ml_Law_96 ok_Law_isAskSo st_Law_isAskSo (clS rfl (by decide) rmL_) rfl c ?_
    refine r_if_ne dd_Law_law_114 (fun c_114 => ?_) (fun c_114 => ?_)
    · refine r_iinc (L' := [_, _, _, _, _, _]) dd_Law_law_119 rfl ⟨by omega, by omega⟩ rfl ?_
      refine r_goto dd_Law_law_122 ?_
      refine r_drop 3 ?_
      refine r_drop 4 ?_
      refine r_drop 5 ?_
      exact kk
    · exfalso; omega
end LW
theorem law_loop : ∀ (n : Nat) (e K : Int) (μ : Int → Int → Int) (m : Int → Int) (H : Int → Int → Int), GV K μ m H → 0 ≤ e → e + n = 54 → m 471 ≤ e → K + 200000 * n ≤ 500000000 → ∃ μf, SPW mi_Law_law 0 10 [some (vR (-1)), some (vR 0), some (vI e), none, none, none] [] (st μ) (some (vI 1)) (st μf) := by
  intro n
  induction n with
  | zero =>
    intro e K μ m H h e0 en hg hK
    exact ⟨μ, lw_out (by omega)⟩
  | succ n ih =>
    intro e K μ m H h e0 en hg hK
    have e1 : e < 54 := by omega
    obtain ⟨r, μ1, m1, H1, c1, g1, q1, s1, r6, l13⟩ := c_Law_does h (by omega) (cellV μ e)
    have l1 := lowV_rg (v := shrI (cellV μ e) 6) (n := 6) (by decide)
    have l2 := lowV_rg (v := shrI (cellV μ e) 9) (n := 14) (by decide)
    by_cases h3 : e % 3 = 2
    · obtain ⟨μ2, H2, c2, g2, s2⟩ := c_Law_ask g1 (t := lowV (shrI (cellV μ e) 6) 6) (w := 1 + lowV (shrI (cellV μ e) 9) 14) (by omega) (by omega) l1.1 l1.2 (by omega) (by omega)
      obtain ⟨μf, z⟩ := ih (e + 1) (K + 40000 + 80000) μ2 m1 H2 g2 (by omega) (by omega) (by omega) (by omega)
      exact ⟨μf, lw_a e0 e1 c1 r6 g1.now.ri l13 (lw_b e0 e1 g1.now.ri g1.ex (lw_c1 e0 e1 h3 c2 z))⟩
    · obtain ⟨μf, z⟩ := ih (e + 1) (K + 40000) μ1 m1 H1 g1 (by omega) (by omega) (by omega) (by omega)
      exact ⟨μf, lw_a e0 e1 c1 r6 g1.now.ri l13 (lw_b e0 e1 g1.now.ri g1.ex (lw_c0 e0 e1 h3 z))⟩
theorem law_all {ρ : Int → Int → Option Int} {μ : Int → Int → Int} (hF : FZ ρ μ 0) : ∃ μf, SPW mi_Law_law 0 0 [some (vR (-1)), none, none, none, none, none] [] (ρ, 0, μ) (some (vI 1)) (st μf) := by
  obtain ⟨ρ1, μ1, c1, z1, e, hp⟩ := c_Poo_init hF
  obtain ⟨μf, s⟩ := law_loop 54 0 0 μ1 row0 (fun _ => row0) (GV_0 hp) (Int.le_refl _) rfl (by decide) (by decide)
  refine ⟨μf, ?_⟩
  refine r_nwO dd_Law_law_0 cl_Law_9 is_Poo ini_Poo (by decide) (o := 0) (by decide) (by decide) ⟨by decide, by decide⟩ hF (rmL (by decide)) ?_
  refine r_dup dd_Law_law_3 ?_
  refine r_I0N dd_Law_law_4 ml_Law_81 ok_Poo_init in_Poo_init ⟨rfl, rfl⟩ (clN rfl (by decide +kernel) (by decide +kernel) (by decide) (by decide) (rmL (by decide))) rfl c1 ?_
  refine r_astoren (L' := [_, _, _, _, _, _]) dd_Law_law_7 rfl rfl ?_
  refine r_iconst dd_Law_law_8 ⟨by decide, by decide⟩ ?_
  refine r_istoren (L' := [_, _, _, _, _, _]) dd_Law_law_9 rfl rfl ?_
  exact r_R0 hp s

/-! the law, from its start to its end -/
theorem law_loop : ∀ (n : Nat) (i K : Int) (μ : Int → Int → Int), IV K μ → 0 ≤ i → i ≤ 3000 → 0 ≤ μ (-1) (-1) → μ (-1) (-1) ≤ 2560 → μ (-1) (-1) ≤ i + 5 * n + 4 → K + 40000 * n ≤ 500000000 → ∃ μf, SPW mi_Law_law 0 18 [some (vR (-1)), some (vR 0), some (vR 219), some (vI i)] [] (st μ) (some (vI 1)) (st μf) := by
  intro n
  induction n with
  | zero =>
    intro i K μ h i0 i1 l0 l1 ln hK
    exact ⟨μ, law_out i0 i1 ⟨l0, l1⟩ (by omega)⟩
  | succ n ih =>
    intro i K μ h i0 i1 l0 l1 ln hK1
    by_cases he : μ (-1) (-1) - 5 < i
    · exact ⟨μ, law_out i0 i1 ⟨l0, l1⟩ he⟩
    have hl : 0 ≤ μ (-1) (-1) ∧ μ (-1) (-1) ≤ 2560 := ⟨l0, l1⟩
    have hK : K + 40000 ≤ 500000000 := by clear h; omega
    have nx : ∀ ν : Int → Int → Int, IV (K + 40000) ν → (∀ k, ν (-1) k = μ (-1) k) → ∃ μf, SPW mi_Law_law 0 18 [some (vR (-1)), some (vR 0), some (vR 219), some (vI (i + 5))] [] (st ν) (some (vI 1)) (st μf) := fun ν iv e => by
      have e' := e (-1)
      clear h
      exact ih (i + 5) (K + 40000) ν iv (by omega) (by omega) (by rw [e']; exact l0) (by rw [e']; exact l1) (by rw [e']; omega) (by omega)
    have zr : 0 ≤ μ (-1) i % 32 ∧ μ (-1) i % 32 < 32 := by clear h; omega
    by_cases s0 : μ (-1) i % 32 = 0
    · obtain ⟨r, μ1, μ2, ca, cb, iv, e1, e2⟩ := two_ask h hK (t := μ (-1) (i + 1)) (w := μ (-1) (i + 2))
      obtain ⟨μf, s⟩ := nx μ2 iv e2
      exact ⟨μf, law_in i0 hl he (law_ask i0 hl he s0 ca cb e1 s)⟩
    by_cases s1 : μ (-1) i % 32 = 1
    · obtain ⟨r, μ1, μ2, ca, cb, iv, e1, e2⟩ := two_giveBack h hK (t := μ (-1) (i + 1)) (b := μ (-1) (i + 2))
      obtain ⟨μf, s⟩ := nx μ2 iv e2
      exact ⟨μf, law_in i0 hl he (law_giveBack i0 hl he s1 ca cb e1 s)⟩
    by_cases s2 : μ (-1) i % 32 = 2
    · obtain ⟨r, μ1, μ2, ca, cb, iv, e1, e2⟩ := two_write h hK (t := μ (-1) (i + 1)) (b := μ (-1) (i + 2)) (i := μ (-1) (i + 3)) (v := μ (-1) (i + 4))
      obtain ⟨μf, s⟩ := nx μ2 iv e2
      exact ⟨μf, law_in i0 hl he (law_write i0 hl he s2 ca cb e1 s)⟩
    by_cases s3 : μ (-1) i % 32 = 3
    · obtain ⟨r, μ1, μ2, ca, cb, iv, e1, e2⟩ := two_touch h hK (b := μ (-1) (i + 1))
      obtain ⟨μf, s⟩ := nx μ2 iv e2
      exact ⟨μf, law_in i0 hl he (law_touch i0 hl he s3 ca cb e1 s)⟩
    by_cases s4 : μ (-1) i % 32 = 4
    · by_cases h4 : μ (-1) (i + 2) = 0
      · obtain ⟨r, μ1, μ2, ca, cb, iv, e1, e2⟩ := two_live h hK (t := μ (-1) (i + 1)) (a := 0) (Or.inl rfl)
        obtain ⟨μf, s⟩ := nx μ2 iv e2
        exact ⟨μf, law_in i0 hl he (law_live_0 i0 hl he s4 h4 ca cb e1 s)⟩
      · obtain ⟨r, μ1, μ2, ca, cb, iv, e1, e2⟩ := two_live h hK (t := μ (-1) (i + 1)) (a := 1) (Or.inr rfl)
        obtain ⟨μf, s⟩ := nx μ2 iv e2
        exact ⟨μf, law_in i0 hl he (law_live_1 i0 hl he s4 h4 ca cb e1 s)⟩
    by_cases s5 : μ (-1) i % 32 = 5
    · obtain ⟨r, μ1, μ2, ca, cb, iv, e1, e2⟩ := two_setLimit h hK (t := μ (-1) (i + 1)) (v := μ (-1) (i + 2))
      obtain ⟨μf, s⟩ := nx μ2 iv e2
      exact ⟨μf, law_in i0 hl he (law_setLimit i0 hl he s5 ca cb e1 s)⟩
    by_cases s6 : μ (-1) i % 32 = 6
    · obtain ⟨r, μ1, μ2, ca, cb, iv, e1, e2⟩ := two_setPatience h hK (t := μ (-1) (i + 1))
      obtain ⟨μf, s⟩ := nx μ2 iv e2
      exact ⟨μf, law_in i0 hl he (law_setPatience i0 hl he s6 ca cb e1 s)⟩
    by_cases s7 : μ (-1) i % 32 = 7
    · obtain ⟨r, μ1, μ2, ca, cb, iv, e1, e2⟩ := two_pass h hK (t := μ (-1) (i + 1))
      obtain ⟨μf, s⟩ := nx μ2 iv e2
      exact ⟨μf, law_in i0 hl he (law_pass i0 hl he s7 ca cb e1 s)⟩
    by_cases s8 : μ (-1) i % 32 = 8
    · obtain ⟨r, μ1, μ2, ca, cb, iv, e1, e2⟩ := two_sweep h hK 
      obtain ⟨μf, s⟩ := nx μ2 iv e2
      exact ⟨μf, law_in i0 hl he (law_sweep i0 hl he s8 ca cb e1 s)⟩
    by_cases s9 : μ (-1) i % 32 = 9
    · obtain ⟨r, μ1, μ2, ca, cb, iv, e1, e2⟩ := two_type h hK (c := (μ (-1) (i + 1) % 65536)) ⟨by clear h; omega, by clear h; omega⟩
      obtain ⟨μf, s⟩ := nx μ2 iv e2
      exact ⟨μf, law_in i0 hl he (law_type i0 hl he s9 ca cb e1 s)⟩
    by_cases s10 : μ (-1) i % 32 = 10
    · obtain ⟨r, μ1, μ2, ca, cb, iv, e1, e2⟩ := two_clearText h hK 
      obtain ⟨μf, s⟩ := nx μ2 iv e2
      exact ⟨μf, law_in i0 hl he (law_clearText i0 hl he s10 ca cb e1 s)⟩
    by_cases s11 : μ (-1) i % 32 = 11
    · obtain ⟨r, μ1, μ2, ca, cb, iv, e1, e2⟩ := two_perform h hK 
      obtain ⟨μf, s⟩ := nx μ2 iv e2
      exact ⟨μf, law_in i0 hl he (law_perform i0 hl he s11 ca cb e1 s)⟩
    by_cases s12 : μ (-1) i % 32 = 12
    · obtain ⟨r, μ1, μ2, ca, cb, iv, e1, e2⟩ := two_stopped h hK (w := μ (-1) (i + 1))
      obtain ⟨μf, s⟩ := nx μ2 iv e2
      exact ⟨μf, law_in i0 hl he (law_stopped i0 hl he s12 ca cb e1 s)⟩
    by_cases s13 : μ (-1) i % 32 = 13
    · obtain ⟨r, μ1, μ2, ca, cb, iv, e1, e2⟩ := two_undo h hK 
      obtain ⟨μf, s⟩ := nx μ2 iv e2
      exact ⟨μf, law_in i0 hl he (law_undo i0 hl he s13 ca cb e1 s)⟩
    by_cases s14 : μ (-1) i % 32 = 14
    · obtain ⟨r, μ1, μ2, ca, cb, iv, e1, e2⟩ := two_keep h hK 
      obtain ⟨μf, s⟩ := nx μ2 iv e2
      exact ⟨μf, law_in i0 hl he (law_keep i0 hl he s14 ca cb e1 s)⟩
    by_cases s15 : μ (-1) i % 32 = 15
    · obtain ⟨r, μ1, μ2, ca, cb, iv, e1, e2⟩ := two_restore h hK 
      obtain ⟨μf, s⟩ := nx μ2 iv e2
      exact ⟨μf, law_in i0 hl he (law_restore i0 hl he s15 ca cb e1 s)⟩
    by_cases s16 : μ (-1) i % 32 = 16
    · obtain ⟨r, μ1, μ2, ca, cb, iv, e1, e2⟩ := two_block h hK (b := μ (-1) (i + 1)) (what := μ (-1) (i + 2))
      obtain ⟨μf, s⟩ := nx μ2 iv e2
      exact ⟨μf, law_in i0 hl he (law_block i0 hl he s16 ca cb e1 s)⟩
    by_cases s17 : μ (-1) i % 32 = 17
    · obtain ⟨r, μ1, μ2, ca, cb, iv, e1, e2⟩ := two_word h hK (w := μ (-1) (i + 1)) (what := μ (-1) (i + 2))
      obtain ⟨μf, s⟩ := nx μ2 iv e2
      exact ⟨μf, law_in i0 hl he (law_word i0 hl he s17 ca cb e1 s)⟩
    by_cases s18 : μ (-1) i % 32 = 18
    · obtain ⟨r, μ1, μ2, ca, cb, iv, e1, e2⟩ := two_task h hK (t := μ (-1) (i + 1)) (what := μ (-1) (i + 2))
      obtain ⟨μf, s⟩ := nx μ2 iv e2
      exact ⟨μf, law_in i0 hl he (law_task i0 hl he s18 ca cb e1 s)⟩
    by_cases s19 : μ (-1) i % 32 = 19
    · obtain ⟨r, μ1, μ2, ca, cb, iv, e1, e2⟩ := two_reason h hK (t := μ (-1) (i + 1)) (w := μ (-1) (i + 2))
      obtain ⟨μf, s⟩ := nx μ2 iv e2
      exact ⟨μf, law_in i0 hl he (law_reason i0 hl he s19 ca cb e1 s)⟩
    by_cases s20 : μ (-1) i % 32 = 20
    · obtain ⟨r, μ1, μ2, ca, cb, iv, e1, e2⟩ := two_greatest h hK (t := μ (-1) (i + 1))
      obtain ⟨μf, s⟩ := nx μ2 iv e2
      exact ⟨μf, law_in i0 hl he (law_greatest i0 hl he s20 ca cb e1 s)⟩
    by_cases s21 : μ (-1) i % 32 = 21
    · obtain ⟨r, μ1, μ2, ca, cb, iv, e1, e2⟩ := two_leak h hK (r := μ (-1) (i + 1))
      obtain ⟨μf, s⟩ := nx μ2 iv e2
      exact ⟨μf, law_in i0 hl he (law_leak i0 hl he s21 ca cb e1 s)⟩
    by_cases s22 : μ (-1) i % 32 = 22
    · obtain ⟨r, μ1, μ2, ca, cb, iv, e1, e2⟩ := two_refused h hK (r := μ (-1) (i + 1))
      obtain ⟨μf, s⟩ := nx μ2 iv e2
      exact ⟨μf, law_in i0 hl he (law_refused i0 hl he s22 ca cb e1 s)⟩
    by_cases s23 : μ (-1) i % 32 = 23
    · obtain ⟨r, μ1, μ2, ca, cb, iv, e1, e2⟩ := two_size h hK (z := μ (-1) (i + 1)) (what := μ (-1) (i + 2))
      obtain ⟨μf, s⟩ := nx μ2 iv e2
      exact ⟨μf, law_in i0 hl he (law_size i0 hl he s23 ca cb e1 s)⟩
    by_cases s24 : μ (-1) i % 32 = 24
    · obtain ⟨r, μ1, μ2, ca, cb, iv, e1, e2⟩ := two_count h hK (w := μ (-1) (i + 1))
      obtain ⟨μf, s⟩ := nx μ2 iv e2
      exact ⟨μf, law_in i0 hl he (law_count i0 hl he s24 ca cb e1 s)⟩
    obtain ⟨μf, s⟩ := nx μ (h.mono (Int.le_add_of_nonneg_right (by decide)) hK) (fun _ => rfl)
    exact ⟨μf, law_in i0 hl he (law_none i0 hl he (by clear h; omega) s)⟩
theorem law_all {ρ : Int → Int → Option Int} {μ : Int → Int → Int} (hF : FZ ρ μ 0) (l0 : 0 ≤ μ (-1) (-1)) (l1 : μ (-1) (-1) ≤ 2560) : ∃ μf, SPW mi_Law_law 0 0 [some (vR (-1)), none, none, none] [] (ρ, 0, μ) (some (vI 1)) (st μf) := by
  obtain ⟨ρ1, μ1, ρ2, μ2, c1, z1, c2, e, hp, hm⟩ := both_0 hF
  have e' := e (-1)
  obtain ⟨μf, s⟩ := law_loop 512 0 0 μ2 (IV_0 hp hm) (Int.le_refl _) (by decide) (by rw [e']; exact l0) (by rw [e']; exact l1) (by rw [e']; omega) (by decide)
  refine ⟨μf, ?_⟩
  refine r_nwO dd_Law_law_0 cl_Law_7 is_Poo ini_Poo (by decide) (o := 0) (by decide) (by decide) ⟨by decide, by decide⟩ hF (rmL (by decide)) ?_
  refine r_dup dd_Law_law_3 ?_
  refine r_I0N dd_Law_law_4 ml_Law_9 ok_Poo_init in_Poo_init ⟨rfl, rfl⟩ (clN rfl (by decide +kernel) (by decide +kernel) (by decide) (by decide) (rmL (by decide))) rfl c1 ?_
  refine r_astoren (L' := [_, _, _, _]) dd_Law_law_7 rfl rfl ?_
  refine r_nwO dd_Law_law_8 cl_Law_10 is_Mod ini_Mod (by decide) (o := 219) (by decide) (by decide) ⟨by decide, by decide⟩ z1 (rmL (by decide)) ?_
  refine r_dup dd_Law_law_11 ?_
  refine r_I0N dd_Law_law_12 ml_Law_12 ok_Mod_init in_Mod_init ⟨rfl, rfl⟩ (clN rfl (by decide +kernel) (by decide +kernel) (by decide) (by decide) (rmL (by decide))) rfl c2 ?_
  refine r_astoren (L' := [_, _, _, _]) dd_Law_law_15 rfl rfl ?_
  refine r_iconst dd_Law_law_16 ⟨by decide, by decide⟩ ?_
  refine r_istoren (L' := [_, _, _, _]) dd_Law_law_17 rfl rfl ?_
  exact r_R0 hp hm s

/-! a command read by the class -/
def twX (c : Int → Int) (T lo hi x : Int) : Int := if nmF c T 0 5 (x + 1) = 1 ∨ sgF c T (nmQ c T 0 5 (x + 1)) ≠ 58 then nmQ c T 0 5 (x + 1) else nmQ c T lo hi (nmQ c T 0 5 (x + 1) + 1)
def twF (c : Int → Int) (T lo hi x : Int) : Int := if nmF c T 0 5 (x + 1) = 1 ∨ sgF c T (nmQ c T 0 5 (x + 1)) ≠ 58 then 1 else nmF c T lo hi (nmQ c T 0 5 (x + 1) + 1)
def cX (c : Int → Int) (T x : Int) : Int := if sgF c T x = 97 then twX c T 1 14 x else if sgF c T x = 102 then twX c T 0 299 x else if sgF c T x = 116 then nmQ c T 1 500 (x + 1) else if sgF c T x = 101 then nmQ c T 0 5 (x + 1) else if sgF c T x = 115 then x + 1 else x
def cFl (c : Int → Int) (T x : Int) : Int := if sgF c T x = 97 then twF c T 1 14 x else if sgF c T x = 102 then twF c T 0 299 x else if sgF c T x = 116 then nmF c T 1 500 (x + 1) else if sgF c T x = 101 then nmF c T 0 5 (x + 1) else if sgF c T x = 115 then 0 else 1
theorem nmF_01 (c : Int → Int) (T lo hi x : Int) : nmF c T lo hi x = 0 ∨ nmF c T lo hi x = 1 := by
  unfold nmF
  split
  · exact Or.inl rfl
  · exact Or.inr rfl
theorem sgF_lt {c : Int → Int} {T x : Int} (h : sgF c T x ≠ 0) : x < T := by
  unfold sgF at h
  by_cases q : x < T
  · exact q
  · rw [if_neg q] at h
    exact absurd rfl h
theorem u186 {μ : Int → Int → Int} {o k v : Int} (h : o ≠ 186) : upM μ o k v 186 = μ 186 := by
  funext j
  exact upM_ne (Or.inl (Ne.symm h))
theorem c_two {μ : Int → Int → Int} (h : TB μ) {o lo hi x : Int} (hv : vk 226 o 1) (ho : o ≠ 185 ∧ o ≠ 186) (hl : 0 ≤ lo) (h5 : hi ≤ 500) (hx : 0 ≤ x ∧ x < μ 185 1) : ∃ r2, MetC mi_Txt_readTwoNumbers [vR 185, vR o, vI lo, vI hi] (st (tF μ x 0)) none (st (tF (upM (upM μ o 1 (nmR (μ 186) (μ 185 1) 0 5 (x + 1))) o 2 r2) (twX (μ 186) (μ 185 1) lo hi x) (twF (μ 186) (μ 185 1) lo hi x))) ∧ (twF (μ 186) (μ 185 1) lo hi x = 0 → r2 = nmR (μ 186) (μ 185 1) lo hi (nmQ (μ 186) (μ 185 1) 0 5 (x + 1) + 1)) := by
  have hT := h.1
  have c1 := c_num h (lo := 0) (hi := 5) (x := x + 1) (Int.le_refl _) (by decide) ⟨by omega, by omega⟩
  have q1 := nmQ_rg (c := μ 186) (T := μ 185 1) (lo := 0) (hi := 5) (x := x + 1) (Int.le_refl _) (by omega)
  have f1 := nmF_01 (μ 186) (μ 185 1) 0 5 (x + 1)
  have hB : TB (upM μ o 1 (nmR (μ 186) (μ 185 1) 0 5 (x + 1))) := TB_u h ho
  have e1 : upM μ o 1 (nmR (μ 186) (μ 185 1) 0 5 (x + 1)) 186 = μ 186 := u186 ho.2
  have e2 : upM μ o 1 (nmR (μ 186) (μ 185 1) 0 5 (x + 1)) 185 1 = μ 185 1 := upM_ne (Or.inl (Ne.symm ho.1))
  have key : ∀ (x2 f2 x3 f3 r2 : Int), MetC mi_Txt_readSign [vR 185, vI 58] (st (tF (upM μ o 1 (nmR (μ 186) (μ 185 1) 0 5 (x + 1))) (nmQ (μ 186) (μ 185 1) 0 5 (x + 1)) (nmF (μ 186) (μ 185 1) 0 5 (x + 1)))) none (st (tF (upM μ o 1 (nmR (μ 186) (μ 185 1) 0 5 (x + 1))) x2 f2)) → MetC mi_Txt_readNumber [vR 185, vI lo, vI hi] (st (tF (upM μ o 1 (nmR (μ 186) (μ 185 1) 0 5 (x + 1))) x2 f2)) (some (vI r2)) (st (tF (upM μ o 1 (nmR (μ 186) (μ 185 1) 0 5 (x + 1))) x3 f3)) → MetC mi_Txt_readTwoNumbers [vR 185, vR o, vI lo, vI hi] (st (tF μ x 0)) none (st (tF (upM (upM μ o 1 (nmR (μ 186) (μ 185 1) 0 5 (x + 1))) o 2 r2) x3 f3)) := by
    intro x2 f2 x3 f3 r2 c2 c3
    have k := c_Txt_readTwoNumbers (μ := tF μ x 0) (o := o) (lo := lo) (hi := hi) hv (by rw [tF_4]; omega) (by rw [tF_4, tF_x]; exact c1) (by rw [tF_u ho.1]; exact c2) c3
    rw [tF_u ho.1] at k
    exact k
  unfold twX twF
  by_cases a : nmF (μ 186) (μ 185 1) 0 5 (x + 1) = 1
  · rw [if_pos (Or.inl a), if_pos (Or.inl a)]
    refine ⟨0, key _ 1 _ 1 0 (by rw [a]; exact c_sgn_f hB (by rw [e2]; omega)) (c_numf hB (by rw [e2]; omega)), fun z => absurd z (by decide)⟩
  · have a0 : nmF (μ 186) (μ 185 1) 0 5 (x + 1) = 0 := by omega
    by_cases b : sgF (μ 186) (μ 185 1) (nmQ (μ 186) (μ 185 1) 0 5 (x + 1)) = 58
    · rw [if_neg (fun z => z.elim a (fun y => y b)), if_neg (fun z => z.elim a (fun y => y b))]
      have hlt := sgF_lt (c := μ 186) (T := μ 185 1) (x := nmQ (μ 186) (μ 185 1) 0 5 (x + 1)) (by rw [b]; decide)
      have c3 := c_num hB (lo := lo) (hi := hi) (x := nmQ (μ 186) (μ 185 1) 0 5 (x + 1) + 1) hl h5 (by rw [e2]; omega)
      rw [e1, e2] at c3
      exact ⟨_, key _ 0 _ _ _ (by rw [a0]; exact c_sgn_o hB (by rw [e2]; omega) (by rw [e1, e2]; exact b)) c3, fun _ => rfl⟩
    · rw [if_pos (Or.inr b), if_pos (Or.inr b)]
      exact ⟨0, key _ 1 _ 1 0 (by rw [a0]; exact c_sgn_e hB (by rw [e2]; omega) (by rw [e1, e2]; exact b)) (c_numf hB (by rw [e2]; omega)), fun z => absurd z (by decide)⟩
/-- what a command holds that was read at place x -/
def cOK (c : Int → Int) (T x : Int) (μ : Int → Int → Int) (o : Int) : Prop :=
  μ o 0 = sgF c T x ∧
  (sgF c T x = 97 → μ o 1 = nmR c T 0 5 (x + 1) ∧ μ o 2 = nmR c T 1 14 (nmQ c T 0 5 (x + 1) + 1)) ∧
  (sgF c T x = 102 → μ o 1 = nmR c T 0 5 (x + 1) ∧ μ o 2 = nmR c T 0 299 (nmQ c T 0 5 (x + 1) + 1)) ∧
  (sgF c T x = 116 → μ o 1 = nmR c T 1 500 (x + 1)) ∧ (sgF c T x = 101 → μ o 1 = nmR c T 0 5 (x + 1))
theorem c_cmd {μ : Int → Int → Int} (h : TB μ) {o x : Int} (hv : vk 226 o 1) (ho : o ≠ 185 ∧ o ≠ 186) (hx : 0 ≤ x ∧ x ≤ μ 185 1) : ∃ μ', MetC mi_Txt_readCommand [vR 185, vR o] (st (tF μ x 0)) none (st (tF μ' (cX (μ 186) (μ 185 1) x) (cFl (μ 186) (μ 185 1) x))) ∧ (∀ o' k, o' ≠ o → μ' o' k = μ o' k) ∧ (cFl (μ 186) (μ 185 1) x = 0 → cOK (μ 186) (μ 185 1) x μ' o) := by
  have hT := h.1
  have hX := TX_F h (f := 0) hx
  have hz : sgF (tF μ x 0 186) (tF μ x 0 185 1) (tF μ x 0 185 4) = sgF (μ 186) (μ 185 1) x := by rw [tF_186, tF_4, tF_o (Or.inr (by decide))]
  have hB : TB (upM μ o 0 (sgF (μ 186) (μ 185 1) x)) := TB_u h ho
  have e1 : upM μ o 0 (sgF (μ 186) (μ 185 1) x) 186 = μ 186 := u186 ho.2
  have e2 : upM μ o 0 (sgF (μ 186) (μ 185 1) x) 185 1 = μ 185 1 := upM_ne (Or.inl (Ne.symm ho.1))
  unfold cX cFl cOK
  by_cases z1 : sgF (μ 186) (μ 185 1) x = 97
  · rw [if_pos z1, if_pos z1]
    have hlt := sgF_lt (c := μ 186) (T := μ 185 1) (x := x) (by rw [z1]; decide)
    obtain ⟨r2, c2, p2⟩ := c_two hB (lo := 1) (hi := 14) (x := x) hv ho (by decide) (by decide) (by rw [e2]; omega)
    rw [e1, e2] at c2 p2
    have k := c_Txt_readCommand_a hv ho.1 hX hz z1 (by rw [tF_u ho.1]; exact c2)
    refine ⟨_, k, fun o' k' a => by rw [upM_ne (Or.inl a), upM_ne (Or.inl a), upM_ne (Or.inl a)], fun q => ⟨by rw [upM_ne (Or.inr (by decide)), upM_ne (Or.inr (by decide)), upM_eq], fun _ => ⟨by rw [upM_ne (Or.inr (by decide)), upM_eq], by rw [upM_eq]; exact p2 q⟩, fun y => by omega, fun y => by omega, fun y => by omega⟩⟩
  · rw [if_neg z1, if_neg z1]
    by_cases z2 : sgF (μ 186) (μ 185 1) x = 102
    · rw [if_pos z2, if_pos z2]
      have hlt := sgF_lt (c := μ 186) (T := μ 185 1) (x := x) (by rw [z2]; decide)
      obtain ⟨r2, c2, p2⟩ := c_two hB (lo := 0) (hi := 299) (x := x) hv ho (by decide) (by decide) (by rw [e2]; omega)
      rw [e1, e2] at c2 p2
      have k := c_Txt_readCommand_b hv ho.1 hX hz z2 (by rw [tF_u ho.1]; exact c2)
      refine ⟨_, k, fun o' k' a => by rw [upM_ne (Or.inl a), upM_ne (Or.inl a), upM_ne (Or.inl a)], fun q => ⟨by rw [upM_ne (Or.inr (by decide)), upM_ne (Or.inr (by decide)), upM_eq], fun y => by omega, fun _ => ⟨by rw [upM_ne (Or.inr (by decide)), upM_eq], by rw [upM_eq]; exact p2 q⟩, fun y => by omega, fun y => by omega⟩⟩
    · rw [if_neg z2, if_neg z2]
      by_cases z3 : sgF (μ 186) (μ 185 1) x = 116
      · rw [if_pos z3, if_pos z3]
        have hlt := sgF_lt (c := μ 186) (T := μ 185 1) (x := x) (by rw [z3]; decide)
        have c := c_num hB (lo := 1) (hi := 500) (x := x + 1) (by decide) (by decide) (by rw [e2]; omega)
        rw [e1, e2] at c
        have k := c_Txt_readCommand_t hv ho.1 hX hz z3 (by rw [tF_4, tF_u ho.1, tF_x]; exact c)
        rw [tF_u ho.1] at k
        refine ⟨_, k, fun o' k' a => by rw [upM_ne (Or.inl a), upM_ne (Or.inl a)], fun q => ⟨by rw [upM_ne (Or.inr (by decide)), upM_eq], fun y => by omega, fun y => by omega, fun _ => by rw [upM_eq], fun y => by omega⟩⟩
      · rw [if_neg z3, if_neg z3]
        by_cases z4 : sgF (μ 186) (μ 185 1) x = 101
        · rw [if_pos z4, if_pos z4]
          have hlt := sgF_lt (c := μ 186) (T := μ 185 1) (x := x) (by rw [z4]; decide)
          have c := c_num hB (lo := 0) (hi := 5) (x := x + 1) (by decide) (by decide) (by rw [e2]; omega)
          rw [e1, e2] at c
          have k := c_Txt_readCommand_e hv ho.1 hX hz z4 (by rw [tF_4, tF_u ho.1, tF_x]; exact c)
          rw [tF_u ho.1] at k
          refine ⟨_, k, fun o' k' a => by rw [upM_ne (Or.inl a), upM_ne (Or.inl a)], fun q => ⟨by rw [upM_ne (Or.inr (by decide)), upM_eq], fun y => by omega, fun y => by omega, fun y => by omega, fun _ => by rw [upM_eq]⟩⟩
        · rw [if_neg z4, if_neg z4]
          by_cases z5 : sgF (μ 186) (μ 185 1) x = 115
          · rw [if_pos z5, if_pos z5]
            have k := c_Txt_readCommand_s hv ho.1 hX hz z5
            rw [tF_4, tF_u ho.1, tF_x] at k
            refine ⟨_, k, fun o' k' a => upM_ne (Or.inl a), fun q => ⟨by rw [upM_eq], fun y => by omega, fun y => by omega, fun y => by omega, fun y => by omega⟩⟩
          · rw [if_neg z5, if_neg z5]
            have k := c_Txt_readCommand_x hv ho.1 hX hz ⟨z1, z2, z3, z4, z5⟩
            rw [tF_u ho.1, tF_f] at k
            exact ⟨_, k, fun o' k' a => upM_ne (Or.inl a), fun q => absurd q (by decide)⟩


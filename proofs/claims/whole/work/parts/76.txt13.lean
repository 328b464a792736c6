/-! a command read by both sides -/
theorem m_two {ν : Int → Int → Int} (h : TM ν) {lo hi x f1 : Int} (hl : 0 ≤ lo ∧ lo ≤ 9) (hh : 9 ≤ hi ∧ hi ≤ 500) (hx : 0 ≤ x ∧ x < ν 219 8) (g1 : f1 = 0 ∨ f1 = 1) (g2 : nmF (ν 225) (ν 219 8) 0 5 (x + 1) = 0 → f1 = 0) (g3 : nmF (ν 225) (ν 219 8) 0 5 (x + 1) = 1 → f1 = 0 → 0 ≤ dgt (ν 225) (ν 219 8) (nmQ (ν 225) (ν 219 8) 0 5 (x + 1))) :
    ∃ r2 x2 f2 r3 f3, MetC mi_Mod_sign [vR 219, vI 58, vI 58] (st (gF ν (nmQ (ν 225) (ν 219 8) 0 5 (x + 1)) f1)) (some (vI r2)) (st (gF ν x2 f2)) ∧ MetC mi_Mod_number [vR 219, vI lo, vI hi] (st (gF ν x2 f2)) (some (vI r3)) (st (gF ν (twX (ν 225) (ν 219 8) lo hi x) f3)) ∧ (f3 = 0 ∨ f3 = 1) ∧ (twF (ν 225) (ν 219 8) lo hi x = 0 → f3 = 0 ∧ r3 = nmR (ν 225) (ν 219 8) lo hi (nmQ (ν 225) (ν 219 8) 0 5 (x + 1) + 1)) ∧ (twF (ν 225) (ν 219 8) lo hi x = 1 → f3 = 0 → 0 ≤ dgt (ν 225) (ν 219 8) (twX (ν 225) (ν 219 8) lo hi x)) := by
  have hT := h.1
  have q1 := nmQ_rg (c := ν 225) (T := ν 219 8) (lo := 0) (hi := 5) (x := x + 1) (Int.le_refl _) (by omega)
  have n01 := nmF_01 (ν 225) (ν 219 8) 0 5 (x + 1)
  unfold twX twF
  by_cases a : f1 = 1
  · subst a
    have n1 : nmF (ν 225) (ν 219 8) 0 5 (x + 1) = 1 := by
      rcases n01 with e | e
      · exact absurd (g2 e) (by decide)
      · exact e
    rw [if_pos (Or.inl n1), if_pos (Or.inl n1)]
    exact ⟨_, _, _, _, 1, c_gs_f ⟨by omega, by omega⟩ hT, c_Mod_number_f h hh.2 hl ⟨by omega, q1.2⟩, Or.inr rfl, fun z => absurd z (by decide), fun _ z => absurd z (by decide)⟩
  · have a0 : f1 = 0 := by omega
    subst a0
    by_cases b : sgF (ν 225) (ν 219 8) (nmQ (ν 225) (ν 219 8) 0 5 (x + 1)) = 58
    · have n0 : ¬ nmF (ν 225) (ν 219 8) 0 5 (x + 1) = 1 := fun e => by
        have := dg_in (Int.le_refl 0) (g3 e rfl)
        omega
      have hlt := sgF_lt (c := ν 225) (T := ν 219 8) (x := nmQ (ν 225) (ν 219 8) 0 5 (x + 1)) (by rw [b]; decide)
      rw [if_neg (fun z => z.elim n0 (fun y => y b)), if_neg (fun z => z.elim n0 (fun y => y b))]
      obtain ⟨r, f, c, e1, e2, e3⟩ := m_num h hl hh (x := nmQ (ν 225) (ν 219 8) 0 5 (x + 1) + 1) ⟨by omega, by omega⟩
      exact ⟨_, _, 0, r, f, c_gs_o ⟨by omega, by omega⟩ hT (by rw [b]; exact ⟨by decide, by decide⟩), c, e1, e2, e3⟩
    · rw [if_pos (Or.inr b), if_pos (Or.inr b)]
      exact ⟨_, _, _, _, 1, c_gs_e ⟨by omega, by omega⟩ hT (fun z => b (by omega)), c_Mod_number_f h hh.2 hl ⟨by omega, q1.2⟩, Or.inr rfl, fun z => absurd z (by decide), fun _ z => absurd z (by decide)⟩
/-- what the reference holds of a command that was read at place x -/
def rcOK (c : Int → Int) (T x : Int) (μ : Int → Int → Int) : Prop :=
  μ 219 13 = sgF c T x ∧
  (sgF c T x = 97 → μ 219 14 = nmR c T 0 5 (x + 1) ∧ μ 219 15 = nmR c T 1 14 (nmQ c T 0 5 (x + 1) + 1)) ∧
  (sgF c T x = 102 → μ 219 14 = nmR c T 0 5 (x + 1) ∧ μ 219 15 = nmR c T 0 299 (nmQ c T 0 5 (x + 1) + 1)) ∧
  (sgF c T x = 116 → μ 219 14 = nmR c T 1 500 (x + 1)) ∧ (sgF c T x = 101 → μ 219 14 = nmR c T 0 5 (x + 1))
theorem m_read {μ : Int → Int → Int} (h : TM μ) {x : Int} (hx : 0 ≤ x ∧ x ≤ μ 219 8) : ∃ v13 v14 v15 f', MetC mi_Mod_read [vR 219] (st (gF μ x 0)) none (st (gF (upM (upM (upM μ 219 13 v13) 219 14 v14) 219 15 v15) (cX (μ 225) (μ 219 8) x) f')) ∧ (f' = 0 ∨ f' = 1) ∧ (cFl (μ 225) (μ 219 8) x = 0 → f' = 0 ∧ rcOK (μ 225) (μ 219 8) x (upM (upM (upM μ 219 13 v13) 219 14 v14) 219 15 v15)) ∧ (cFl (μ 225) (μ 219 8) x = 1 → f' = 0 → 0 ≤ dgt (μ 225) (μ 219 8) (cX (μ 225) (μ 219 8) x)) := by
  have hT := h.1
  have u13 : ∀ a b c, upM (upM (upM μ 219 13 a) 219 14 b) 219 15 c 219 13 = a := fun a b c => by rw [upM_ne (Or.inr (by decide)), upM_ne (Or.inr (by decide)), upM_eq]
  have u14 : ∀ a b c, upM (upM (upM μ 219 13 a) 219 14 b) 219 15 c 219 14 = b := fun a b c => by rw [upM_ne (Or.inr (by decide)), upM_eq]
  have u15 : ∀ a b c, upM (upM (upM μ 219 13 a) 219 14 b) 219 15 c 219 15 = c := fun a b c => upM_eq
  have t1 : ∀ v, TM (upM μ 219 13 v) := fun v => TM_u h (by decide)
  have t2 : ∀ v w, TM (upM (upM μ 219 13 v) 219 14 w) := fun v w => TM_u (t1 v) (by decide)
  have p1 : ∀ v, upM μ 219 13 v 225 = μ 225 := fun v => u225
  have p2 : ∀ v, upM μ 219 13 v 219 8 = μ 219 8 := fun v => u8 (by decide)
  have p3 : ∀ v w, upM (upM μ 219 13 v) 219 14 w 225 = μ 225 := fun v w => by rw [u225, u225]
  have p4 : ∀ v w, upM (upM μ 219 13 v) 219 14 w 219 8 = μ 219 8 := fun v w => by rw [u8 (by decide), u8 (by decide)]
  unfold cX cFl rcOK
  by_cases z1 : sgF (μ 225) (μ 219 8) x = 97
  · rw [if_pos z1, if_pos z1]
    have hlt := sgF_lt (c := μ 225) (T := μ 219 8) (x := x) (by rw [z1]; decide)
    obtain ⟨r1, f1, b1, c1, g1, g2, g3⟩ := m_dig (t1 (sgF (μ 225) (μ 219 8) x)) (x := x + 1) (by rw [p2]; omega)
    rw [p1, p2] at c1 g2 g3
    obtain ⟨r2, x2, f2, r3, f3, c2, c3, d1, d2, d3⟩ := m_two (t2 (sgF (μ 225) (μ 219 8) x) (r1 - 48)) (lo := 1) (hi := 14) (x := x) (f1 := f1) (by decide) (by decide) (by rw [p4]; omega) g1 (by rw [p3, p4]; exact fun z => (g2 z).1) (by rw [p3, p4]; exact g3)
    rw [p3, p4] at c2 c3 d2 d3
    have k := c_Mod_read_a h hx rfl z1 b1 c1 c2 c3
    refine ⟨_, _, _, f3, k, d1, fun q => ⟨(d2 q).1, ?_⟩, d3⟩
    rw [u13, u14, u15]
    have n0 : nmF (μ 225) (μ 219 8) 0 5 (x + 1) = 0 := by
      rcases nmF_01 (μ 225) (μ 219 8) 0 5 (x + 1) with e | e
      · exact e
      · unfold twF at q
        rw [if_pos (Or.inl e)] at q
        exact absurd q (by decide)
    exact ⟨rfl, fun _ => ⟨(g2 n0).2, (d2 q).2⟩, fun y => by omega, fun y => by omega, fun y => by omega⟩
  · rw [if_neg z1, if_neg z1]
    by_cases z2 : sgF (μ 225) (μ 219 8) x = 102
    · rw [if_pos z2, if_pos z2]
      have hlt := sgF_lt (c := μ 225) (T := μ 219 8) (x := x) (by rw [z2]; decide)
      obtain ⟨r1, f1, b1, c1, g1, g2, g3⟩ := m_dig (t1 (sgF (μ 225) (μ 219 8) x)) (x := x + 1) (by rw [p2]; omega)
      rw [p1, p2] at c1 g2 g3
      obtain ⟨r2, x2, f2, r3, f3, c2, c3, d1, d2, d3⟩ := m_two (t2 (sgF (μ 225) (μ 219 8) x) (r1 - 48)) (lo := 0) (hi := 299) (x := x) (f1 := f1) (by decide) (by decide) (by rw [p4]; omega) g1 (by rw [p3, p4]; exact fun z => (g2 z).1) (by rw [p3, p4]; exact g3)
      rw [p3, p4] at c2 c3 d2 d3
      have k := c_Mod_read_b h hx rfl z2 b1 c1 c2 c3
      refine ⟨_, _, _, f3, k, d1, fun q => ⟨(d2 q).1, ?_⟩, d3⟩
      rw [u13, u14, u15]
      have n0 : nmF (μ 225) (μ 219 8) 0 5 (x + 1) = 0 := by
        rcases nmF_01 (μ 225) (μ 219 8) 0 5 (x + 1) with e | e
        · exact e
        · unfold twF at q
          rw [if_pos (Or.inl e)] at q
          exact absurd q (by decide)
      exact ⟨rfl, fun y => by omega, fun _ => ⟨(g2 n0).2, (d2 q).2⟩, fun y => by omega, fun y => by omega⟩
    · rw [if_neg z2, if_neg z2]
      by_cases z3 : sgF (μ 225) (μ 219 8) x = 116
      · rw [if_pos z3, if_pos z3]
        have hlt := sgF_lt (c := μ 225) (T := μ 219 8) (x := x) (by rw [z3]; decide)
        obtain ⟨r1, f1, c1, g1, g2, g3⟩ := m_num (t1 (sgF (μ 225) (μ 219 8) x)) (lo := 1) (hi := 500) (x := x + 1) (by decide) (by decide) (by rw [p2]; omega)
        rw [p1, p2] at c1 g2 g3
        have k := c_Mod_read_t h hx rfl z3 c1
        refine ⟨_, _, _, f1, k, g1, fun q => ⟨(g2 q).1, ?_⟩, g3⟩
        rw [u13, u14]
        exact ⟨rfl, fun y => by omega, fun y => by omega, fun _ => (g2 q).2, fun y => by omega⟩
      · rw [if_neg z3, if_neg z3]
        by_cases z4 : sgF (μ 225) (μ 219 8) x = 101
        · rw [if_pos z4, if_pos z4]
          have hlt := sgF_lt (c := μ 225) (T := μ 219 8) (x := x) (by rw [z4]; decide)
          obtain ⟨r1, f1, b1, c1, g1, g2, g3⟩ := m_dig (t1 (sgF (μ 225) (μ 219 8) x)) (x := x + 1) (by rw [p2]; omega)
          rw [p1, p2] at c1 g2 g3
          have k := c_Mod_read_e h hx rfl z4 b1 c1
          refine ⟨_, _, _, f1, k, g1, fun q => ⟨(g2 q).1, ?_⟩, g3⟩
          rw [u13, u14]
          exact ⟨rfl, fun y => by omega, fun y => by omega, fun y => by omega, fun _ => (g2 q).2⟩
        · rw [if_neg z4, if_neg z4]
          by_cases z5 : sgF (μ 225) (μ 219 8) x = 115
          · rw [if_pos z5, if_pos z5]
            have k := c_Mod_read_s h hx rfl z5
            refine ⟨_, _, _, 0, k, Or.inl rfl, fun _ => ⟨rfl, ?_⟩, fun q => absurd q (by decide)⟩
            rw [u13]
            exact ⟨rfl, fun y => by omega, fun y => by omega, fun y => by omega, fun y => by omega⟩
          · rw [if_neg z5, if_neg z5]
            have c1 := c_gs_f (μ := upM μ 219 13 (sgF (μ 225) (μ 219 8) x)) (lo := 48) (hi := 53) (x := x) ⟨hx.1, by omega⟩ (t1 _).1
            rw [p1, p2] at c1
            have k := c_Mod_read_x h hx rfl ⟨z1, z2, z3, z4, z5⟩ (gs_rg h hx) c1
            exact ⟨_, _, _, 1, k, Or.inr rfl, fun q => absurd q (by decide), fun _ q => absurd q (by decide)⟩


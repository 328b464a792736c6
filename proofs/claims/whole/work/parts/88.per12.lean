/-! perform: both loops follow the same places -/
abbrev cGo (N i : Int) (F : Int → Int → Int) (pc : Nat) (L : List (Option Vv)) (F' : Int → Int → Int) : Prop := ∀ (R : Option Vv) (Mf : Mm), SPW mi_Poo_perform 226 pc L [] (st F') R Mf → SPW mi_Poo_perform 226 39 [some (vR 0), some (vI (-1)), some (vI N), some (vI i), none] [] (st F) R Mf
theorem loopP {c : Int → Int} {T : Int} : ∀ (n : Nat) (i x N K : Int) (F : Int → Int → Int) (m : Int → Int), rdR c T n x = -1 → 0 ≤ x → x ≤ T → RI K F m → UO m → K + 304 * n + 2000 ≤ 500000000 → 0 ≤ i → N = i + rdN c T n x → N ≤ 30 → (∀ j : Nat, j < rdN c T n x → cOK c T (ps c T j x) F (188 + i + j)) →
    (∃ F' m', cGo N i F 39 [some (vR 0), some (vI (-1)), some (vI N), some (vI N), none] F' ∧ Fr F F' ∧ RI (K + 304 * n) F' m' ∧ UO m' ∧ OE m m' ∧ mGo c T n x m m' (N - i) 0) ∨
    (∃ j r F' m', cGo N i F 66 [some (vR 0), some (vI (-1)), some (vI N), some (vI (i + j)), some (vI r)] F' ∧ (r < 0 ∧ r ≠ -5) ∧ Fr F F' ∧ bgS F' 1 ∧ OE m m' ∧ mGo c T n x m m' j r) := by
  intro n
  induction n with
  | zero =>
    intro i x N K F m hr x0
    have hr' : x = -1 := hr
    omega
  | succ n ih =>
    intro i x N K F m hr x0 xT hR hU hK i0 hN N30 hc
    have hg := cX_rg (c := c) (T := T) xT
    have a : cFl c T x = 0 := by
      rcases cFl_01 c T x with e | e
      · exact e
      · have er : rdR c T (n + 1) x = cX c T x := if_pos e
        omega
    have na : ¬ cFl c T x = 1 := by omega
    obtain ⟨r, F1, m1, hS⟩ := stepC a hR hU (by omega)
    have hS' := hS
    obtain ⟨s1, s2, s3, s4, s5, -⟩ := hS'
    have hpos : 0 < rdN c T (n + 1) x := by
      by_cases b : cX c T x = T
      · have eN : rdN c T (n + 1) x = 1 := if_pos b
        omega
      · have eN : rdN c T (n + 1) x = rdN c T n (cX c T x + 1) + 1 := if_neg b
        omega
    have c0 : cOK c T x F (188 + i) := by
      have := hc 0 hpos
      rw [show 188 + i + ((0 : Nat) : Int) = 188 + i by omega] at this
      exact this
    have ca := s1 (188 + i) (vk_cmd i0 (by omega)) c0
    by_cases e : r < 0 ∧ r ≠ -5
    · right
      have ee : erF r = r := if_pos e
      refine ⟨0, r, F1, m1, fun R Mf kk => per_s i0 (by omega) N30 ca e (by rw [Int.add_zero] at kk; exact kk), e, s2, fun u u0 u1 => (s3.1.1 u u0 u1).1, s5, ?_⟩
      have g := mG_s (n := n + 1) a ⟨x0, xT⟩ hS (by rw [ee]; omega)
      rw [ee] at g
      exact g
    · have ee : erF r = 0 := if_neg e
      by_cases b : cX c T x = T
      · left
        have eN : rdN c T (n + 1) x = 1 := if_pos b
        rw [eN] at hN
        refine ⟨F1, m1, fun R Mf kk => per_c i0 (by omega) N30 ca e (by rw [show i + 1 = N by omega]; exact kk), s2, s3.mono (by omega) (by omega), s4, s5, ?_⟩
        rw [show N - i = 1 by omega]
        exact mG_e a ⟨x0, xT⟩ hS ee b
      · have d : sgF c T (cX c T x) = 44 := by
          by_cases d : sgF c T (cX c T x) = 44
          · exact d
          · have er : rdR c T (n + 1) x = cX c T x := ((if_neg na).trans (if_neg b)).trans (if_pos d)
            omega
        have er : rdR c T (n + 1) x = rdR c T n (cX c T x + 1) := ((if_neg na).trans (if_neg b)).trans (if_neg (fun z => z d))
        have eN : rdN c T (n + 1) x = rdN c T n (cX c T x + 1) + 1 := if_neg b
        have hlt : cX c T x < T := by omega
        have hc' : ∀ j : Nat, j < rdN c T n (cX c T x + 1) → cOK c T (ps c T j (cX c T x + 1)) F1 (188 + (i + 1) + j) := fun j hj => by
          have := hc (j + 1) (by rw [eN]; omega)
          rw [show 188 + i + ((j + 1 : Nat) : Int) = 188 + (i + 1) + j by omega] at this
          exact cOK_fr this (fun k => s2 _ k (by omega))
        rw [er] at hr
        rw [eN] at hN
        rcases ih (i + 1) (cX c T x + 1) N (K + 304) F1 m1 hr (by omega) (by omega) s3 s4 (by omega) (by omega) (by omega) N30 hc' with ⟨F', m', g1, g2, g3, g4, g5, g6⟩ | ⟨j, r', F', m', g1, g2, g3, g4, g5, g6⟩
        · left
          refine ⟨F', m', fun R Mf kk => per_c i0 (by omega) N30 ca e (g1 R Mf kk), s2.tr g2, g3.mono (by omega) (by omega), g4, s5.tr g5, ?_⟩
          rw [show N - i = N - (i + 1) + 1 by omega]
          exact mG_c a ⟨x0, xT⟩ hS ee hlt d g6
        · right
          refine ⟨j + 1, r', F', m', fun R Mf kk => per_c i0 (by omega) N30 ca e (g1 R Mf (by rw [show i + 1 + j = i + (j + 1) by omega]; exact kk)), g2, s2.tr g3, g4, s5.tr g5, mG_c a ⟨x0, xT⟩ hS ee hlt d g6⟩


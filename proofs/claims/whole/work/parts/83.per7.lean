/-! reading sees only the places of the text: commands -/
theorem nmX_ext {c c' : Int → Int} {T : Int} (e : ∀ k, 0 ≤ k → k < T → c' k = c k) {x : Int} (hx : 0 ≤ x ∧ x ≤ T) {lo hi : Int} (hl : 0 ≤ lo) : nmF c' T lo hi x = nmF c T lo hi x ∧ nmR c' T lo hi x = nmR c T lo hi x := by
  have q := nmQ_rg (c := c) (T := T) (lo := lo) (hi := hi) hl hx.2
  have e1 := dgt_ext e hx.1
  have e2 := nmQ_ext (lo := lo) (hi := hi) e hx.1
  have e3 := dgt_ext e (x := nmQ c T lo hi x) (by omega)
  unfold nmF nmR
  rw [e2, e1, e3, (nQ_ext e 3 (x + 1) (dgt c T x) (by omega)).2]
  exact ⟨rfl, rfl⟩
theorem tw_ext {c c' : Int → Int} {T : Int} (e : ∀ k, 0 ≤ k → k < T → c' k = c k) {x : Int} (hx : 0 ≤ x ∧ x ≤ T) (hlt : x < T) {lo hi : Int} (hl : 0 ≤ lo) : twX c' T lo hi x = twX c T lo hi x ∧ twF c' T lo hi x = twF c T lo hi x := by
  have q := nmQ_rg (c := c) (T := T) (lo := 0) (hi := 5) (x := x + 1) (Int.le_refl _) (by omega)
  have e1 := nmQ_ext (lo := 0) (hi := 5) e (x := x + 1) (by omega)
  have e2 := (nmX_ext e (x := x + 1) ⟨by omega, by omega⟩ (lo := 0) (hi := 5) (Int.le_refl _)).1
  have e3 := sgF_ext e (x := nmQ c T 0 5 (x + 1)) (by omega)
  unfold twX twF
  rw [e1, e2, e3]
  by_cases b : nmF c T 0 5 (x + 1) = 1 ∨ sgF c T (nmQ c T 0 5 (x + 1)) ≠ 58
  · rw [if_pos b, if_pos b, if_pos b, if_pos b]
    exact ⟨rfl, rfl⟩
  · have hs : sgF c T (nmQ c T 0 5 (x + 1)) = 58 := by omega
    have h2 := sgF_lt (c := c) (T := T) (x := nmQ c T 0 5 (x + 1)) (by rw [hs]; decide)
    rw [if_neg b, if_neg b, if_neg b, if_neg b]
    exact ⟨nmQ_ext e (by omega), (nmX_ext e ⟨by omega, by omega⟩ hl).1⟩
theorem cX_ext {c c' : Int → Int} {T : Int} (e : ∀ k, 0 ≤ k → k < T → c' k = c k) {x : Int} (hx : 0 ≤ x ∧ x ≤ T) : cX c' T x = cX c T x ∧ cFl c' T x = cFl c T x := by
  have es := sgF_ext e hx.1
  unfold cX cFl
  rw [es]
  by_cases z : sgF c T x = 0
  · rw [z]
    exact ⟨rfl, rfl⟩
  · have hlt := sgF_lt z
    have t1 := tw_ext e hx hlt (lo := 1) (hi := 14) (by decide)
    have t2 := tw_ext e hx hlt (lo := 0) (hi := 299) (by decide)
    have n1 := nmQ_ext (lo := 1) (hi := 500) e (x := x + 1) (by omega)
    have n2 := nmQ_ext (lo := 0) (hi := 5) e (x := x + 1) (by omega)
    have n3 := (nmX_ext e (x := x + 1) ⟨by omega, by omega⟩ (lo := 1) (hi := 500) (by decide)).1
    have n4 := (nmX_ext e (x := x + 1) ⟨by omega, by omega⟩ (lo := 0) (hi := 5) (by decide)).1
    rw [t1.1, t1.2, t2.1, t2.2, n1, n2, n3, n4]
    exact ⟨rfl, rfl⟩
theorem rdR_ext {c c' : Int → Int} {T : Int} (e : ∀ k, 0 ≤ k → k < T → c' k = c k) : ∀ (n : Nat) (x : Int), (0 ≤ x ∧ x ≤ T) → rdR c' T n x = rdR c T n x
  | 0, _ => fun _ => rfl
  | n + 1, x => fun hx => by
    have hg := cX_rg (c := c) (T := T) hx.2
    have ex := cX_ext e hx
    have es := sgF_ext e (x := cX c T x) (by omega)
    show (if cFl c' T x = 1 then cX c' T x else if cX c' T x = T then -1 else if sgF c' T (cX c' T x) ≠ 44 then cX c' T x else rdR c' T n (cX c' T x + 1)) = (if cFl c T x = 1 then cX c T x else if cX c T x = T then -1 else if sgF c T (cX c T x) ≠ 44 then cX c T x else rdR c T n (cX c T x + 1))
    rw [ex.1, ex.2, es]
    by_cases d : sgF c T (cX c T x) = 44
    · have hlt := sgF_lt (c := c) (T := T) (x := cX c T x) (by rw [d]; decide)
      rw [rdR_ext e n (cX c T x + 1) ⟨by omega, by omega⟩]
    · rw [if_pos d, if_pos d]


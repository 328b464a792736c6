/-! reading sees only the places of the text -/
theorem rdR_rg {c : Int → Int} {T : Int} : ∀ (n : Nat) (x : Int), x ≤ T → rdR c T n x = -1 ∨ (x ≤ rdR c T n x ∧ rdR c T n x ≤ T)
  | 0, x => fun h => Or.inr ⟨Int.le_refl _, h⟩
  | n + 1, x => fun h => by
    have hg := cX_rg (c := c) (T := T) h
    by_cases a : cFl c T x = 1
    · have er : rdR c T (n + 1) x = cX c T x := if_pos a
      rw [er]
      exact Or.inr ⟨hg.1, hg.2.1⟩
    · by_cases b : cX c T x = T
      · exact Or.inl ((if_neg a).trans (if_pos b))
      · by_cases d : sgF c T (cX c T x) = 44
        · have er : rdR c T (n + 1) x = rdR c T n (cX c T x + 1) := ((if_neg a).trans (if_neg b)).trans (if_neg (fun z => z d))
          have hlt := sgF_lt (c := c) (T := T) (x := cX c T x) (by rw [d]; decide)
          rw [er]
          rcases rdR_rg (c := c) (T := T) n (cX c T x + 1) (by omega) with e | e
          · exact Or.inl e
          · exact Or.inr (by omega)
        · have er : rdR c T (n + 1) x = cX c T x := ((if_neg a).trans (if_neg b)).trans (if_pos d)
          rw [er]
          exact Or.inr ⟨hg.1, hg.2.1⟩
theorem sgF_ext {c c' : Int → Int} {T : Int} (e : ∀ k, 0 ≤ k → k < T → c' k = c k) {x : Int} (hx : 0 ≤ x) : sgF c' T x = sgF c T x := by
  unfold sgF
  by_cases q : x < T
  · rw [if_pos q, if_pos q, e x hx q]
  · rw [if_neg q, if_neg q]
theorem nst_ext {c c' : Int → Int} {T hi : Int} (e : ∀ k, 0 ≤ k → k < T → c' k = c k) {q z : Int} (hq : 0 ≤ q) : nst c' T hi q z ↔ nst c T hi q z := by
  constructor
  · intro k
    have := e q hq k.2.1
    unfold nst at k ⊢
    omega
  · intro k
    have := e q hq k.2.1
    unfold nst at k ⊢
    omega
theorem nQ_ext {c c' : Int → Int} {T hi : Int} (e : ∀ k, 0 ≤ k → k < T → c' k = c k) : ∀ (n : Nat) (q z : Int), 0 ≤ q → nQ c' T hi n q z = nQ c T hi n q z ∧ nZ c' T hi n q z = nZ c T hi n q z
  | 0, _, _ => fun _ => ⟨rfl, rfl⟩
  | n + 1, q, z => fun h => by
    by_cases a : nst c T hi q z
    · have a' := (nst_ext e h).mpr a
      have := nQ_ext (hi := hi) e n (q + 1) (10 * z + (c q - 48)) (by omega)
      rw [nQ_y a, nZ_y a, nQ_y a', nZ_y a', e q h a.2.1]
      exact this
    · have a' := fun k => a ((nst_ext e h).mp k)
      rw [nQ_n a, nZ_n a, nQ_n a', nZ_n a']
      exact ⟨rfl, rfl⟩
theorem dgt_ext {c c' : Int → Int} {T : Int} (e : ∀ k, 0 ≤ k → k < T → c' k = c k) {x : Int} (hx : 0 ≤ x) : dgt c' T x = dgt c T x := by
  show dgF (sgF c' T x) = dgF (sgF c T x)
  rw [sgF_ext e hx]
theorem nmQ_ext {c c' : Int → Int} {T lo hi : Int} (e : ∀ k, 0 ≤ k → k < T → c' k = c k) {x : Int} (hx : 0 ≤ x) : nmQ c' T lo hi x = nmQ c T lo hi x := by
  unfold nmQ
  rw [dgt_ext e hx, (nQ_ext e 3 (x + 1) (dgt c T x) (by omega)).1]


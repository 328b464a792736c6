/-! a command read by the reference, in the words of the class's reading -/
theorem TM_u {μ : Int → Int → Int} (h : TM μ) {k v : Int} (hk : k ≠ 8) : TM (upM μ 219 k v) := by
  unfold TM
  rw [upM_ne (Or.inr (Ne.symm hk))]
  refine ⟨h.1, fun j a b => ?_⟩
  rw [upM_ne (Or.inl (by decide))]
  exact h.2 j a b
theorem u225 {μ : Int → Int → Int} {k v : Int} : upM μ 219 k v 225 = μ 225 := by
  funext j
  exact upM_ne (Or.inl (by decide))
theorem u8 {μ : Int → Int → Int} {k v : Int} (hk : k ≠ 8) : upM μ 219 k v 219 8 = μ 219 8 := upM_ne (Or.inr (Ne.symm hk))
theorem nQ_5 {c : Int → Int} {T hi q z : Int} (h : hi ≤ 9) : nQ c T hi 3 q z = q ∧ nZ c T hi 3 q z = z := ⟨nQ_n (fun k => by omega), nZ_n (fun k => by omega)⟩
theorem dg_in {c : Int → Int} {T x lo : Int} (h0 : 0 ≤ lo) (h : lo ≤ dgt c T x) : 48 + lo ≤ sgF c T x ∧ sgF c T x ≤ 57 ∧ dgt c T x = sgF c T x - 48 := by
  have h : lo ≤ dgF (sgF c T x) := h
  show _ ∧ _ ∧ dgF (sgF c T x) = _
  unfold dgF at h ⊢
  by_cases q : 48 ≤ sgF c T x ∧ sgF c T x ≤ 57
  · rw [if_pos q] at h ⊢
    omega
  · rw [if_neg q] at h
    omega
theorem dg_un {c : Int → Int} {T x lo : Int} (h0 : 0 ≤ lo) (h : ¬ lo ≤ dgt c T x) : ¬ (48 + lo ≤ sgF c T x ∧ sgF c T x ≤ 57) := by
  intro k
  apply h
  show lo ≤ dgF (sgF c T x)
  unfold dgF
  rw [if_pos (by omega)]
  omega
theorem m_num {μ : Int → Int → Int} (h : TM μ) {lo hi x : Int} (hl : 0 ≤ lo ∧ lo ≤ 9) (hh : 9 ≤ hi ∧ hi ≤ 500) (hx : 0 ≤ x ∧ x ≤ μ 219 8) : ∃ r f, MetC mi_Mod_number [vR 219, vI lo, vI hi] (st (gF μ x 0)) (some (vI r)) (st (gF μ (nmQ (μ 225) (μ 219 8) lo hi x) f)) ∧ (f = 0 ∨ f = 1) ∧ (nmF (μ 225) (μ 219 8) lo hi x = 0 → f = 0 ∧ r = nmR (μ 225) (μ 219 8) lo hi x) ∧ (nmF (μ 225) (μ 219 8) lo hi x = 1 → f = 0 → 0 ≤ dgt (μ 225) (μ 219 8) (nmQ (μ 225) (μ 219 8) lo hi x)) := by
  by_cases q : lo ≤ dgt (μ 225) (μ 219 8) x
  · obtain ⟨a, b, e⟩ := dg_in hl.1 q
    have c := c_Mod_number_o h hh.2 hl hx hl.2 ⟨a, b⟩
    have eq : nmQ (μ 225) (μ 219 8) lo hi x = nQ (μ 225) (μ 219 8) hi 3 (x + 1) (dgt (μ 225) (μ 219 8) x) := if_pos ⟨q, by omega⟩
    rw [← e, ← eq] at c
    refine ⟨_, 0, c, Or.inl rfl, fun z => ⟨rfl, ?_⟩, fun z _ => ?_⟩
    · unfold nmF at z
      unfold nmR
      by_cases w : lo ≤ dgt (μ 225) (μ 219 8) x ∧ dgt (μ 225) (μ 219 8) x ≤ hi ∧ ¬ 0 ≤ dgt (μ 225) (μ 219 8) (nmQ (μ 225) (μ 219 8) lo hi x)
      · rw [if_pos w]
      · rw [if_neg w] at z
        exact absurd z (by decide)
    · apply Classical.byContradiction
      intro w
      have : nmF (μ 225) (μ 219 8) lo hi x = 0 := if_pos ⟨q, by omega, w⟩
      omega
  · have c := c_Mod_number_e h hh.2 hl hx (dg_un hl.1 q)
    have eq : nmQ (μ 225) (μ 219 8) lo hi x = x := if_neg (fun z => q z.1)
    have ef : nmF (μ 225) (μ 219 8) lo hi x = 1 := if_neg (fun z => q z.1)
    rw [eq, ef]
    exact ⟨_, 1, c, Or.inr rfl, fun z => absurd z (by decide), fun _ z => absurd z (by decide)⟩
theorem m_dig {μ : Int → Int → Int} (h : TM μ) {x : Int} (hx : 0 ≤ x ∧ x ≤ μ 219 8) : ∃ r f, (0 ≤ r ∧ r ≤ 65535) ∧ MetC mi_Mod_sign [vR 219, vI 48, vI 53] (st (gF μ x 0)) (some (vI r)) (st (gF μ (nmQ (μ 225) (μ 219 8) 0 5 x) f)) ∧ (f = 0 ∨ f = 1) ∧ (nmF (μ 225) (μ 219 8) 0 5 x = 0 → f = 0 ∧ r - 48 = nmR (μ 225) (μ 219 8) 0 5 x) ∧ (nmF (μ 225) (μ 219 8) 0 5 x = 1 → f = 0 → 0 ≤ dgt (μ 225) (μ 219 8) (nmQ (μ 225) (μ 219 8) 0 5 x)) := by
  have hT := h.1
  have hs := gs_rg h hx
  by_cases q : 0 ≤ dgt (μ 225) (μ 219 8) x ∧ dgt (μ 225) (μ 219 8) x ≤ 5
  · obtain ⟨a, b, e⟩ := dg_in (Int.le_refl 0) q.1
    have c := c_gs_o (μ := μ) (lo := 48) (hi := 53) (x := x) ⟨hx.1, by omega⟩ hT ⟨by omega, by omega⟩
    have n5 := nQ_5 (c := μ 225) (T := μ 219 8) (hi := 5) (q := x + 1) (z := dgt (μ 225) (μ 219 8) x) (by decide)
    have eq : nmQ (μ 225) (μ 219 8) 0 5 x = x + 1 := (if_pos q).trans n5.1
    rw [eq]
    refine ⟨_, 0, hs, c, Or.inl rfl, fun z => ⟨rfl, ?_⟩, fun z _ => ?_⟩
    · unfold nmF at z
      unfold nmR
      by_cases w : 0 ≤ dgt (μ 225) (μ 219 8) x ∧ dgt (μ 225) (μ 219 8) x ≤ 5 ∧ ¬ 0 ≤ dgt (μ 225) (μ 219 8) (nmQ (μ 225) (μ 219 8) 0 5 x)
      · rw [if_pos w, n5.2, e]
      · rw [if_neg w] at z
        exact absurd z (by decide)
    · apply Classical.byContradiction
      intro w
      have : nmF (μ 225) (μ 219 8) 0 5 x = 0 := if_pos ⟨q.1, q.2, by rw [eq]; exact w⟩
      omega
  · have eq : nmQ (μ 225) (μ 219 8) 0 5 x = x := if_neg q
    have ef : nmF (μ 225) (μ 219 8) 0 5 x = 1 := if_neg (fun z => q ⟨z.1, z.2.1⟩)
    have nr : ¬ (48 ≤ sgF (μ 225) (μ 219 8) x ∧ sgF (μ 225) (μ 219 8) x ≤ 53) := fun k => by
      apply q
      show 0 ≤ dgF (sgF (μ 225) (μ 219 8) x) ∧ dgF (sgF (μ 225) (μ 219 8) x) ≤ 5
      unfold dgF
      rw [if_pos (by omega)]
      omega
    have c := c_gs_e (μ := μ) (lo := 48) (hi := 53) (x := x) ⟨hx.1, by omega⟩ hT nr
    rw [eq, ef]
    exact ⟨_, 1, hs, c, Or.inr rfl, fun z => absurd z (by decide), fun _ z => absurd z (by decide)⟩


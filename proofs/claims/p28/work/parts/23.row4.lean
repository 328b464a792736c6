/-! the reference writes: one row replaced by another -/
def setO (μ : Int → Int → Int) (o : Int) (f : Int → Int) : Int → Int → Int := fun o' k => if o' = o then f k else μ o' k
def up1 (f : Int → Int) (k v : Int) : Int → Int := fun k' => if k' = k then v else f k'
theorem setO_at {μ : Int → Int → Int} {o : Int} {f : Int → Int} : setO μ o f o = f := by
  funext k
  exact if_pos rfl
theorem setO_ne {μ : Int → Int → Int} {o o' : Int} {f : Int → Int} (h : o' ≠ o) : setO μ o f o' = μ o' := by
  funext k
  exact if_neg h
theorem setO_ss {μ : Int → Int → Int} {o : Int} {f g : Int → Int} : setO (setO μ o f) o g = setO μ o g := by
  funext o' k
  unfold setO
  by_cases h : o' = o
  · rw [if_pos h, if_pos h]
  · rw [if_neg h, if_neg h, if_neg h]
theorem setO_self {μ : Int → Int → Int} {o : Int} : setO μ o (μ o) = μ := by
  funext o' k
  unfold setO
  by_cases h : o' = o
  · rw [if_pos h, h]
  · rw [if_neg h]
theorem setO_comm {μ : Int → Int → Int} {o o2 : Int} {f g : Int → Int} (h : o ≠ o2) : setO (setO μ o f) o2 g = setO (setO μ o2 g) o f := by
  funext o' k
  unfold setO
  by_cases h1 : o' = o2
  · rw [if_pos h1, if_neg (by omega), if_pos h1]
  · rw [if_neg h1]
    by_cases h2 : o' = o
    · rw [if_pos h2, if_pos h2]
    · rw [if_neg h2, if_neg h2, if_neg h1]
theorem upM_to {μ : Int → Int → Int} {o k v : Int} : upM μ o k v = setO μ o (up1 (μ o) k v) := by
  funext o' k'
  unfold upM setO up1
  by_cases h1 : o' = o
  · subst h1
    rw [if_pos rfl]
    by_cases h2 : k' = k
    · rw [if_pos ⟨rfl, h2⟩, if_pos h2]
    · rw [if_neg (fun h => h2 h.2), if_neg h2]
  · rw [if_neg (fun h => h1 h.1), if_neg h1]
theorem upM_on {μ : Int → Int → Int} {o k v : Int} {f : Int → Int} : upM (setO μ o f) o k v = setO μ o (up1 f k v) := by
  rw [upM_to, setO_at, setO_ss]
theorem up1_at {f : Int → Int} {k v : Int} : up1 f k v k = v := if_pos rfl
theorem up1_ne {f : Int → Int} {k v k' : Int} (h : k' ≠ k) : up1 f k v k' = f k' := if_neg h
/-- part of a row replaced: places off .. off + j - 1 are g's 0 .. j - 1 -/
def cpy (g f : Int → Int) (off j : Int) : Int → Int := fun k => if off ≤ k ∧ k < off + j then g (k - off) else f k
theorem cpy_0 {g f : Int → Int} {off : Int} : cpy g f off 0 = f := by
  funext k
  exact if_neg (by omega)
theorem cpy_s {g f : Int → Int} {off j : Int} (h : 0 ≤ j) : up1 (cpy g f off j) (off + j) (g j) = cpy g f off (j + 1) := by
  funext k
  unfold up1 cpy
  by_cases h1 : k = off + j
  · rw [if_pos h1, if_pos (by omega), h1, show off + j - off = j by omega]
  · rw [if_neg h1]
    by_cases h2 : off ≤ k ∧ k < off + j
    · rw [if_pos h2, if_pos (by omega)]
    · rw [if_neg h2, if_neg (by omega)]
theorem cpy_s0 {g f : Int → Int} {j : Int} (h : 0 ≤ j) : up1 (cpy g f 0 j) j (g j) = cpy g f 0 (j + 1) := by
  have e := cpy_s (g := g) (f := f) (off := 0) h
  rw [Int.zero_add] at e
  exact e
theorem MW_up {K : Int} {m : Int → Int} (hW : MW K m) {k v : Int} (h : (64 ≤ k ∧ k < 128 → 0 ≤ v ∧ v ≤ 1) ∧ (128 ≤ k ∧ k < 192 → (v = 0 ∨ v = 4 ∨ v = 8 ∨ v = 16) ∧ k - 128 + v ≤ 64 ∧ (k = 128 → v ≠ 0)) ∧ (192 ≤ k ∧ k < 256 → -5 ≤ v ∧ v ≤ 299) ∧ (256 ≤ k ∧ k < 320 → 0 ≤ v ∧ v ≤ 5) ∧ (320 ≤ k ∧ k < 384 → 0 ≤ v ∧ v ≤ 14) ∧ (384 ≤ k ∧ k < 448 → 0 ≤ v ∧ v ≤ 9999) ∧ (448 ≤ k ∧ k < 454 → 0 ≤ v ∧ v ≤ 1) ∧ (454 ≤ k ∧ k < 460 → 0 ≤ v ∧ v ≤ 64) ∧ (460 ≤ k ∧ k < 466 → 0 ≤ v ∧ v ≤ K) ∧ (k = 466 → 0 ≤ v ∧ v ≤ 9999) ∧ (k = 467 → 1 ≤ v ∧ v ≤ 500) ∧ (k = 468 ∨ k = 469 ∨ k = 470 → 0 ≤ v ∧ v ≤ K) ∧ (k = 471 → 0 ≤ v ∧ v ≤ 300)) : MW K (up1 m k v) := by
  obtain ⟨h1, h2, h3, h4, h5, h6, h7, h8, h9, h10⟩ := hW
  obtain ⟨c1, c2, c3, c4, c5, c6, c7, c8, c9, c10, c11, c12, c13⟩ := h
  have key : ∀ j, (up1 m k v j = v ∧ j = k) ∨ (up1 m k v j = m j ∧ j ≠ k) := fun j => by
    by_cases e : j = k
    · exact Or.inl ⟨by rw [e]; exact up1_at, e⟩
    · exact Or.inr ⟨up1_ne e, e⟩
  refine ⟨fun w h0 hw => ?_, fun t h0 ht => ?_, ?_, ?_, ?_, ?_, ?_, ?_, h9, ?_⟩
  · obtain ⟨b1, b2, b3, b4, b5, b6, b7, b8⟩ := h1 w h0 hw
    have s2 : (0 ≤ up1 m k v (128 + w) ∧ up1 m k v (128 + w) ≤ 16) ∧ (up1 m k v (128 + w) = 0 ∨ up1 m k v (128 + w) = 4 ∨ up1 m k v (128 + w) = 8 ∨ up1 m k v (128 + w) = 16) ∧ w + up1 m k v (128 + w) ≤ 64 := by
      rcases key (128 + w) with ⟨e1, e2⟩ | ⟨e1, e2⟩
      · rw [e1]
        have c := c2 (by omega)
        clear c1 c2 c3 c4 c5 c6 c7 c8 c9 c10 c11 c12 c13 key
        omega
      · rw [e1]
        exact ⟨b2, b7, b8⟩
    refine ⟨?_, s2.1, ?_, ?_, ?_, ?_, s2.2⟩
    · rcases key (64 + w) with ⟨e1, e2⟩ | ⟨e1, e2⟩
      · rw [e1]; exact c1 (by omega)
      · rw [e1]; exact b1
    · rcases key (192 + w) with ⟨e1, e2⟩ | ⟨e1, e2⟩
      · rw [e1]; exact c3 (by omega)
      · rw [e1]; exact b3
    · rcases key (256 + w) with ⟨e1, e2⟩ | ⟨e1, e2⟩
      · rw [e1]; exact c4 (by omega)
      · rw [e1]; exact b4
    · rcases key (320 + w) with ⟨e1, e2⟩ | ⟨e1, e2⟩
      · rw [e1]; exact c5 (by omega)
      · rw [e1]; exact b5
    · rcases key (384 + w) with ⟨e1, e2⟩ | ⟨e1, e2⟩
      · rw [e1]; exact c6 (by omega)
      · rw [e1]; exact b6
  · obtain ⟨b1, b2, b3⟩ := h2 t h0 ht
    refine ⟨?_, ?_, ?_⟩
    · rcases key (448 + t) with ⟨e1, e2⟩ | ⟨e1, e2⟩
      · rw [e1]; exact c7 (by omega)
      · rw [e1]; exact b1
    · rcases key (454 + t) with ⟨e1, e2⟩ | ⟨e1, e2⟩
      · rw [e1]; exact c8 (by omega)
      · rw [e1]; exact b2
    · rcases key (460 + t) with ⟨e1, e2⟩ | ⟨e1, e2⟩
      · rw [e1]; exact c9 (by omega)
      · rw [e1]; exact b3
  · rcases key 466 with ⟨e1, e2⟩ | ⟨e1, e2⟩
    · rw [e1]; exact c10 e2.symm
    · rw [e1]; exact h3
  · rcases key 467 with ⟨e1, e2⟩ | ⟨e1, e2⟩
    · rw [e1]; exact c11 e2.symm
    · rw [e1]; exact h4
  · rcases key 468 with ⟨e1, e2⟩ | ⟨e1, e2⟩
    · rw [e1]; exact c12 (by omega)
    · rw [e1]; exact h5
  · rcases key 469 with ⟨e1, e2⟩ | ⟨e1, e2⟩
    · rw [e1]; exact c12 (by omega)
    · rw [e1]; exact h6
  · rcases key 470 with ⟨e1, e2⟩ | ⟨e1, e2⟩
    · rw [e1]; exact c12 (by omega)
    · rw [e1]; exact h7
  · rcases key 471 with ⟨e1, e2⟩ | ⟨e1, e2⟩
    · rw [e1]; exact c13 e2.symm
    · rw [e1]; exact h8
  · rcases key 128 with ⟨e1, e2⟩ | ⟨e1, e2⟩
    · rw [e1]; exact (c2 (by omega)).2.2 e2.symm
    · rw [e1]; exact h10
theorem MW_mono {K K' : Int} {m : Int → Int} (hW : MW K m) (h : K ≤ K') (h' : K' ≤ 500000000) : MW K' m := by
  obtain ⟨h1, h2, h3, h4, h5, h6, h7, h8, h9, h10⟩ := hW
  exact ⟨h1, fun t a b => by have := h2 t a b; omega, h3, h4, by omega, by omega, by omega, h8, h', h10⟩


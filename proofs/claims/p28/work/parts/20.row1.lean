/-! the reference's own words: m is its row of numbers -/
def sumF : Nat → Int → (Int → Int) → Int
  | 0, _, _ => 0
  | n + 1, k, f => f k + sumF n (k + 1) f
def fstF (p : Int → Prop) [DecidablePred p] : Nat → Int → Int
  | 0, _ => -5
  | n + 1, k => if p k then k else fstF p n (k + 1)
theorem sumF_bd {f : Int → Int} {c : Int} : ∀ (n : Nat) (k : Int), (∀ j, k ≤ j → j < k + n → 0 ≤ f j ∧ f j ≤ c) → 0 ≤ sumF n k f ∧ sumF n k f ≤ n * c
  | 0, k, _ => ⟨Int.le_refl _, by simp [sumF]⟩
  | n + 1, k, h => by
    obtain ⟨a1, a2⟩ := sumF_bd n (k + 1) (fun j h1 h2 => h j (by omega) (by omega))
    obtain ⟨b1, b2⟩ := h k (Int.le_refl _) (by omega)
    have e : ((n + 1 : Nat) : Int) * c = n * c + c := by
      rw [Int.natCast_add, Int.add_mul]
      simp
    unfold sumF
    rw [e]
    generalize (n : Int) * c = z at a2 ⊢
    omega
theorem fstF_rg {p : Int → Prop} [DecidablePred p] : ∀ (n : Nat) (k : Int), fstF p n k = -5 ∨ (k ≤ fstF p n k ∧ fstF p n k < k + n ∧ p (fstF p n k))
  | 0, k => Or.inl rfl
  | n + 1, k => by
    unfold fstF
    by_cases h : p k
    · rw [if_pos h]
      exact Or.inr ⟨Int.le_refl _, by omega, h⟩
    · rw [if_neg h]
      rcases fstF_rg n (k + 1) (p := p) with e | ⟨e1, e2, e3⟩
      · exact Or.inl e
      · exact Or.inr ⟨by omega, by omega, e3⟩
theorem sumF_s {f : Int → Int} {n : Nat} {k : Int} : sumF (n + 1) k f = f k + sumF n (k + 1) f := rfl
theorem sumF_0 {f : Int → Int} {k : Int} : sumF 0 k f = 0 := rfl
theorem fstF_y {p : Int → Prop} [DecidablePred p] {n : Nat} {k : Int} (h : p k) : fstF p (n + 1) k = k := if_pos h
theorem fstF_n {p : Int → Prop} [DecidablePred p] {n : Nat} {k : Int} (h : ¬ p k) : fstF p (n + 1) k = fstF p n (k + 1) := if_neg h
theorem r_eqr {y : MI} {t0 pc : Nat} {L : List (Option Vv)} {S : List Vv} {M Mf : Mm} {a b : Int} (h : a = b) (kk : SPW y t0 pc L S M (some (vI a)) Mf) : SPW y t0 pc L S M (some (vI b)) Mf := h ▸ kk
abbrev owd (m : Int → Int) (w : Int) : Prop := 0 < m (128 + w) ∧ m (192 + w) ≠ -5
abbrev fre (m : Int → Int) (w : Int) : Prop := 0 < m (128 + w) ∧ m (192 + w) = -5
/-- the bounds of the row's numbers; K bounds what is only counted -/
def MW (K : Int) (m : Int → Int) : Prop :=
  (∀ w, 0 ≤ w → w < 64 → (0 ≤ m (64 + w) ∧ m (64 + w) ≤ 1) ∧ (0 ≤ m (128 + w) ∧ m (128 + w) ≤ 16) ∧ (-5 ≤ m (192 + w) ∧ m (192 + w) ≤ 299) ∧ (0 ≤ m (256 + w) ∧ m (256 + w) ≤ 5) ∧ (0 ≤ m (320 + w) ∧ m (320 + w) ≤ 14) ∧ (0 ≤ m (384 + w) ∧ m (384 + w) ≤ 9999) ∧ (m (128 + w) = 0 ∨ m (128 + w) = 4 ∨ m (128 + w) = 8 ∨ m (128 + w) = 16) ∧ w + m (128 + w) ≤ 64) ∧
  (∀ t, 0 ≤ t → t < 6 → (0 ≤ m (448 + t) ∧ m (448 + t) ≤ 1) ∧ (0 ≤ m (454 + t) ∧ m (454 + t) ≤ 64) ∧ (0 ≤ m (460 + t) ∧ m (460 + t) ≤ K)) ∧
  (0 ≤ m 466 ∧ m 466 ≤ 9999) ∧ (1 ≤ m 467 ∧ m 467 ≤ 500) ∧ (0 ≤ m 468 ∧ m 468 ≤ K) ∧ (0 ≤ m 469 ∧ m 469 ≤ K) ∧ (0 ≤ m 470 ∧ m 470 ≤ K) ∧ (0 ≤ m 471 ∧ m 471 ≤ 300) ∧ K ≤ 500000000 ∧ m 128 ≠ 0
def begOf (m : Int → Int) (b : Int) : Int := fstF (fun w => owd m w ∧ m (192 + w) = b) 64 0
def lowF (m : Int → Int) (z : Int) : Int := fstF (fun w => fre m w ∧ m (128 + w) = z) 64 0
def bgF (m : Int → Int) : Nat → Int → Int
  | 0, w => w
  | n + 1, w => if m (128 + w) = 0 then bgF m n (w - 1) else w
def bgn (m : Int → Int) (w : Int) : Int := bgF m 64 w
def szM (words : Int) : Int := if words ≤ 2 then 4 else if words ≤ 6 then 8 else 16
def wdsM (m : Int → Int) (t : Int) : Int := sumF 64 0 (fun w => if owd m w ∧ m (256 + w) = t then m (128 + w) else 0)
def whyM (m : Int → Int) (t words : Int) : Int :=
  if m (448 + t) = 1 then 1 else if m (454 + t) < wdsM m t + szM words then 2
  else if lowF m (szM words) = -5 ∧ (8 < szM words ∨ lowF m 16 = -5) ∧ (4 < szM words ∨ lowF m 8 = -5) then 3 else 0
def brkM (m : Int → Int) (w : Int) : Int := m (64 + w) + m (64 + w + m (320 + w) + 1)
abbrev lkM (m : Int → Int) (w : Int) : Prop := owd m w ∧ (m (448 + m (256 + w)) = 1 ∨ m 467 ≤ m 466 - m (384 + w))
def lksM (m : Int → Int) (t : Int) : Int := sumF 64 0 (fun w => if lkM m w ∧ (t = 6 ∨ m (256 + w) = t) then 1 else 0)
def owsM (m : Int → Int) : Int := sumF 64 0 (fun w => if owd m w then 1 else 0)
def blksM (m : Int → Int) (t : Int) : Int := sumF 64 0 (fun w => if owd m w ∧ m (256 + w) = t then 1 else 0)
def askdM (m : Int → Int) (t : Int) : Int := sumF 64 0 (fun w => if owd m w ∧ (t = 6 ∨ m (256 + w) = t) then m (320 + w) else 0)
def frwM (m : Int → Int) : Int := sumF 64 0 (fun w => if fre m w then m (128 + w) else 0)
abbrev grdM (m : Int → Int) (w : Int) : Prop := owd m (bgn m w) ∧ (w = bgn m w ∨ w = bgn m w + m (320 + bgn m w) + 1)
def ahdM (m : Int → Int) (b : Int) : Int := sumF 64 0 (fun w => if lkM m w ∧ (m (384 + w) < m (384 + b) ∨ (m (384 + w) = m (384 + b) ∧ m (192 + w) < m (192 + b))) then 1 else 0)

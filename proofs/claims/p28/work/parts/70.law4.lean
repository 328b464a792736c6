/-! the law: requests, sizes, leaks by rank, in the row's words -/
theorem why_up {m : Int → Int} {t n k : Int} (h : whyM m t k = 0) (hn : n ≤ k) : whyM m t n = 0 := by
  have a := szM_rg n
  have b := szM_rg k
  have c : szM n ≤ szM k := by
    unfold szM
    split <;> split <;> (try split) <;> (try split) <;> omega
  unfold whyM at h ⊢
  split at h
  · omega
  rename_i h1
  split at h
  · omega
  rename_i h2
  split at h
  · omega
  rename_i h3
  rw [if_neg h1, if_neg (by omega), if_neg (fun q => h3 ?_)]
  rcases b with eb | eb | eb
  · have ea : szM n = szM k := by omega
    rw [ea] at q
    exact q
  · rcases a with ea | ea | ea
    · rw [ea] at q
      rw [eb]
      exact ⟨q.2.2.resolve_left (by decide), Or.inr (q.2.1.resolve_left (by decide)), Or.inl (by decide)⟩
    · rw [ea] at q
      rw [eb]
      exact q
    · omega
  · rw [eb]
    refine ⟨?_, Or.inl (by decide), Or.inl (by decide)⟩
    rcases a with ea | ea | ea
    · rw [ea] at q
      exact q.2.1.resolve_left (by decide)
    · rw [ea] at q
      exact q.2.1.resolve_left (by decide)
    · rw [ea] at q
      exact q.1
theorem grF_rg (m : Int → Int) (t : Int) : ∀ n : Nat, grF m t n = -5 ∧ (∀ k : Int, 1 ≤ k → k ≤ n → whyM m t k ≠ 0) ∨ (1 ≤ grF m t n ∧ grF m t n ≤ n ∧ whyM m t (grF m t n) = 0)
  | 0 => Or.inl ⟨rfl, fun k a b => by omega⟩
  | n + 1 => by
    by_cases q : whyM m t ((n + 1 : Nat) : Int) = 0
    · have e : grF m t (n + 1) = ((n + 1 : Nat) : Int) := if_pos q
      rw [e]
      exact Or.inr ⟨by omega, by omega, q⟩
    · have e : grF m t (n + 1) = grF m t n := if_neg q
      rw [e]
      rcases grF_rg m t n with ⟨a, b⟩ | ⟨a, b, c⟩
      · refine Or.inl ⟨a, fun k k0 k1 => ?_⟩
        by_cases z : k = ((n + 1 : Nat) : Int)
        · rw [z]
          exact q
        · exact b k k0 (by omega)
      · exact Or.inr ⟨a, by omega, c⟩
theorem gr_le {m : Int → Int} {t n : Int} (n0 : 1 ≤ n) (n1 : n ≤ 14) (h : n ≤ grF m t 14) : whyM m t n = 0 := by
  rcases grF_rg m t 14 with ⟨a, b⟩ | ⟨a, b, c⟩
  · omega
  · exact why_up c h
theorem gr_end {m : Int → Int} {t : Int} (h : m (448 + t) = 1) : grF m t 14 = -5 ∧ whyM m t 1 = 1 := by
  have e : ∀ n, whyM m t n = 1 := fun n => if_pos h
  refine ⟨?_, e 1⟩
  rcases grF_rg m t 14 with ⟨a, b⟩ | ⟨a, b, c⟩
  · exact a
  · rw [e] at c
    omega
-- sizes
theorem sumF_w {f g h k : Int → Int} : ∀ (n : Nat) (i : Int), (∀ j, i ≤ j → j < i + n → 4 * f j + 8 * g j + 16 * h j = k j) → 4 * sumF n i f + 8 * sumF n i g + 16 * sumF n i h = sumF n i k
  | 0, _ => fun _ => rfl
  | n + 1, i => fun e => by
    have a := e i (Int.le_refl _) (by omega)
    have b := sumF_w n (i + 1) (fun j x y => e j (by omega) (by omega))
    rw [sumF_s, sumF_s, sumF_s, sumF_s]
    omega
theorem szc_all {m : Int → Int} {z : Int} (hz : 0 < z) : szcM m z 0 + szcM m z 1 = sumF 64 0 (fun w => if m (128 + w) = z then 1 else 0) := sumF_2 64 0 (fun j x y => by
  by_cases q : m (128 + j) = z
  · by_cases q2 : m (192 + j) = -5
    · rw [if_pos ⟨q, Or.inl ⟨rfl, by omega, q2⟩⟩, if_neg (fun a => by rcases a.2 with b | b; exact absurd b.1 (by decide); exact b.2.2 q2), if_pos q]
      rfl
    · rw [if_neg (fun a => by rcases a.2 with b | b; exact q2 b.2.2; exact b.1 rfl), if_pos ⟨q, Or.inr ⟨by decide, by omega, q2⟩⟩, if_pos q]
      rfl
  · rw [if_neg (fun a => q a.1), if_neg (fun a => q a.1), if_neg q]
    rfl)
theorem szc_64 {K : Int} {m : Int → Int} (hW : MW K m) (hM : ML m) : sumF 3 0 (fun k => p4 k * (szcM m (p4 k) 0 + szcM m (p4 k) 1)) = 64 := by
  have e : sumF 3 0 (fun k => p4 k * (szcM m (p4 k) 0 + szcM m (p4 k) 1)) = 4 * (szcM m 4 0 + szcM m 4 1) + (8 * (szcM m 8 0 + szcM m 8 1) + (16 * (szcM m 16 0 + szcM m 16 1) + 0)) := rfl
  rw [e, szc_all (by decide), szc_all (by decide), szc_all (by decide)]
  have h := sumF_w (f := fun w => if m (128 + w) = 4 then 1 else 0) (g := fun w => if m (128 + w) = 8 then 1 else 0) (h := fun w => if m (128 + w) = 16 then 1 else 0) (k := fun w => m (128 + w)) 64 0 (fun j x y => by
    have g := (hW.1 j x (by omega)).2.2.2.2.2.2.1
    rcases g with g | g | g | g <;> simp [g])
  rw [tot_sz hM] at h
  omega
theorem fstF_no {p : Int → Prop} [DecidablePred p] : ∀ (n : Nat) (k : Int), 0 ≤ k → fstF p n k = -5 → ∀ j, k ≤ j → j < k + n → ¬ p j
  | 0, _ => fun _ _ j a b => by omega
  | n + 1, k => fun k0 h j a b => by
    by_cases q : p k
    · rw [fstF_y q] at h
      omega
    · rw [fstF_n q] at h
      by_cases e : j = k
      · rw [e]
        exact q
      · exact fstF_no n (k + 1) (by omega) h j (by omega) (by omega)
theorem szc_0 {m : Int → Int} {z : Int} : (lowF m z = -5 ∧ szcM m z 0 = 0) ∨ (lowF m z ≠ -5 ∧ szcM m z 0 ≠ 0) := by
  by_cases q : lowF m z = -5
  · refine Or.inl ⟨q, ?_⟩
    have h := fstF_no 64 0 (Int.le_refl _) q
    unfold szcM
    rw [sumF_c (g := fun _ => 0) 64 0 (fun j a b => if_neg (fun x => by rcases x.2 with y | y; exact h j a b ⟨y.2, x.1⟩; exact y.1 rfl))]
    decide
  · refine Or.inr ⟨q, fun e => ?_⟩
    rcases lowF_rg m z with a | ⟨a, b, c, d⟩
    · exact q a
    · have := sumF_z (f := fun w => if m (128 + w) = z ∧ (((0 : Int) = 0 ∧ fre m w) ∨ ((0 : Int) ≠ 0 ∧ owd m w)) then 1 else 0) (fun j => by split <;> decide) 64 0 e (lowF m z) a (by omega)
      rw [if_pos ⟨d, Or.inl ⟨rfl, c⟩⟩] at this
      omega
-- leaks by rank
abbrev aM (m : Int → Int) (w v : Int) : Prop := m (384 + w) < m (384 + v) ∨ (m (384 + w) = m (384 + v) ∧ m (192 + w) < m (192 + v))
theorem aM_tr {m : Int → Int} {u v w : Int} (h : aM m u v) (h' : aM m v w) : aM m u w := by
  unfold aM at *
  omega
def rkQ (m : Int → Int) (q : Int → Int) (w : Int) : Int := sumF 64 0 (fun v => if aM m v w then q v else 0)
theorem sumF_le {f g : Int → Int} : ∀ (n : Nat) (k : Int), (∀ j, k ≤ j → j < k + n → f j ≤ g j) → sumF n k f ≤ sumF n k g
  | 0, _ => fun _ => Int.le_refl _
  | n + 1, k => fun h => by
    have a := h k (Int.le_refl _) (by omega)
    have b := sumF_le n (k + 1) (fun j x y => h j (by omega) (by omega))
    rw [sumF_s, sumF_s]
    omega
theorem rk_max {m q : Int → Int} (h01 : ∀ j, q j = 0 ∨ q j = 1) (ht : ∀ u v, 0 ≤ u → u < 64 → 0 ≤ v → v < 64 → q u = 1 → q v = 1 → u ≠ v → aM m u v ∨ aM m v u) : ∀ n : Nat, n ≤ 64 → (∀ v : Int, 0 ≤ v → v < n → q v = 0) ∨ ∃ M : Int, 0 ≤ M ∧ M < n ∧ q M = 1 ∧ ∀ v : Int, 0 ≤ v → v < n → q v = 1 → v ≠ M → aM m v M
  | 0 => fun _ => Or.inl (fun v a b => by omega)
  | n + 1 => fun hn => by
    have key : ∀ v : Int, 0 ≤ v → v < ((n + 1 : Nat) : Int) → v = n ∨ v < n := fun v a b => by omega
    rcases h01 n with e | e
    · rcases rk_max h01 ht n (by omega) with a | ⟨M, M0, M1, a, b⟩
      · exact Or.inl (fun v x y => by rcases key v x y with z | z; rw [z]; exact e; exact a v x z)
      · exact Or.inr ⟨M, M0, by omega, a, fun v x y c d => by
          rcases key v x y with z | z
          · rw [z, e] at c
            omega
          · exact b v x z c d⟩
    · rcases rk_max h01 ht n (by omega) with a | ⟨M, M0, M1, a, b⟩
      · exact Or.inr ⟨n, by omega, by omega, e, fun v x y c d => by
          have := a v x (by omega)
          omega⟩
      · rcases ht n M (by omega) (by omega) M0 (by omega) e a (by omega) with z | z
        · exact Or.inr ⟨M, M0, by omega, a, fun v x y c d => by
            rcases key v x y with k | k
            · rw [k]; exact z
            · exact b v x k c d⟩
        · exact Or.inr ⟨n, by omega, by omega, e, fun v x y c d => by
            by_cases k : v = M
            · rw [k]; exact z
            · exact aM_tr (b v x (by omega) c k) z⟩
theorem rk_ex {m : Int → Int} : ∀ (c : Nat) (q : Int → Int), (∀ j, q j = 0 ∨ q j = 1) → (∀ u v, 0 ≤ u → u < 64 → 0 ≤ v → v < 64 → q u = 1 → q v = 1 → u ≠ v → aM m u v ∨ aM m v u) → sumF 64 0 q = c → ∀ r : Int, 0 ≤ r → r < c → ∃ w : Int, 0 ≤ w ∧ w < 64 ∧ q w = 1 ∧ rkQ m q w = r
  | 0 => fun _ _ _ _ r a b => by omega
  | c + 1 => fun q h01 ht hc r r0 r1 => by
    rcases rk_max h01 ht 64 (Nat.le_refl _) with a | ⟨M, M0, M1, a, b⟩
    · rw [sumF_c (g := fun _ => 0) 64 0 (fun j x y => a j x (by omega))] at hc
      have : sumF 64 0 (fun _ : Int => (0 : Int)) = 0 := by decide
      omega
    · have nM : ¬ aM m M M := fun x => by unfold aM at x; omega
      have e1 := sumF_1 (f := fun v => if aM m v M then q v else 0) (g := q) (p := M) 64 0 M0 (by omega) (fun j x y z => by
        rcases h01 j with e | e
        · rw [e]
          split <;> rfl
        · rw [if_pos (b j x (by omega) e z)])
      rw [if_neg nM] at e1
      by_cases er : r = c
      · exact ⟨M, M0, by omega, a, by unfold rkQ; omega⟩
      · have q01 : ∀ j, (if j = M then 0 else q j) = 0 ∨ (if j = M then 0 else q j) = 1 := fun j => by
          split
          · exact Or.inl rfl
          · exact h01 j
        have qs : ∀ u, (if u = M then 0 else q u) = 1 → u ≠ M ∧ q u = 1 := fun u x => by
          by_cases e : u = M
          · rw [if_pos e] at x
            omega
          · rw [if_neg e] at x
            exact ⟨e, x⟩
        have e2 := sumF_1 (f := fun v => if v = M then 0 else q v) (g := q) (p := M) 64 0 M0 (by omega) (fun j x y z => if_neg z)
        rw [if_pos rfl] at e2
        obtain ⟨w, w0, w1, w2, w3⟩ := rk_ex c (fun v => if v = M then 0 else q v) q01 (fun u v u0 u1 v0 v1 x y z => ht u v u0 u1 v0 v1 (qs u x).2 (qs v y).2 z) (by omega) r r0 (by omega)
        obtain ⟨w4, w5⟩ := qs w w2
        have nw : ¬ aM m M w := fun x => nM (aM_tr x (b w w0 (by omega) w5 w4))
        refine ⟨w, w0, w1, w5, ?_⟩
        rw [← w3]
        unfold rkQ
        refine sumF_c 64 0 (fun j x y => ?_)
        by_cases e : j = M
        · rw [e, if_neg nw, if_neg nw]
        · by_cases z : aM m j w
          · rw [if_pos z, if_pos z]
            exact (if_neg e).symm
          · rw [if_neg z, if_neg z]
/-- the leaks, as a row of 0 and 1 -/
def lkQ (m : Int → Int) : Int → Int := fun w => if lkM m w ∧ ((6 : Int) = 6 ∨ m (256 + w) = 6) then 1 else 0
theorem lkQ_1 {m : Int → Int} {w : Int} : lkQ m w = 1 ↔ lkM m w := by
  unfold lkQ
  by_cases q : lkM m w
  · rw [if_pos ⟨q, Or.inl rfl⟩]
    exact ⟨fun _ => q, fun _ => rfl⟩
  · rw [if_neg (fun x => q x.1)]
    exact ⟨fun x => by omega, fun x => absurd x q⟩
theorem lkQ_01 (m : Int → Int) (w : Int) : lkQ m w = 0 ∨ lkQ m w = 1 := by
  unfold lkQ
  split
  · exact Or.inr rfl
  · exact Or.inl rfl
theorem ahd_rk (m : Int → Int) (w : Int) : ahdM m w = rkQ m (lkQ m) w := by
  unfold ahdM rkQ
  refine sumF_c 64 0 (fun j x y => ?_)
  by_cases a : aM m j w
  · rw [if_pos a]
    by_cases b : lkM m j
    · rw [lkQ_1.mpr b, if_pos ⟨b, a⟩]
    · rw [if_neg (fun z => b z.1)]
      have := lkQ_01 m j
      have : lkQ m j ≠ 1 := fun z => b (lkQ_1.mp z)
      omega
  · rw [if_neg a, if_neg (fun z => a z.2)]
theorem lk_tot {m : Int → Int} (hN : NB m) {u v : Int} (u0 : 0 ≤ u) (u1 : u < 64) (v0 : 0 ≤ v) (v1 : v < 64) (hu : lkM m u) (hv : lkM m v) (h : u ≠ v) : aM m u v ∨ aM m v u := by
  have e : m (192 + u) ≠ m (192 + v) := fun e => h (hN.2.2 u v u0 u1 v0 v1 hu.1 hv.1 e)
  unfold aM
  omega
theorem lkF_yes {m : Int → Int} (hN : NB m) {r : Int} (r0 : 0 ≤ r) (r1 : r < lksM m 6) : lkF m r ≠ -5 ∧ 0 ≤ lkF m r ∧ lkF m r < 64 ∧ lkM m (lkF m r) ∧ ahdM m (lkF m r) = r := by
  have c0 := (lksM_bd m 6).1
  obtain ⟨w, w0, w1, w2, w3⟩ := rk_ex (m := m) (lksM m 6).toNat (lkQ m) (lkQ_01 m) (fun u v u0 u1 v0 v1 x y z => lk_tot hN u0 u1 v0 v1 (lkQ_1.mp x) (lkQ_1.mp y) z) (by show lksM m 6 = _; omega) r r0 (by omega)
  have hne : lkF m r ≠ -5 := fun e => fstF_no 64 0 (Int.le_refl _) e w w0 (by omega) ⟨lkQ_1.mp w2, by rw [ahd_rk]; exact w3⟩
  rcases fstF_rg (p := fun w => lkM m w ∧ ahdM m w = r) 64 0 with a | ⟨a, b, c⟩
  · exact absurd a hne
  · have a' : 0 ≤ lkF m r := a
    have b' : lkF m r < 0 + (64 : Nat) := b
    exact ⟨hne, a', by omega, c.1, c.2⟩
theorem lkF_end {m : Int → Int} : lkF m (lksM m 6) = -5 := by
  rcases fstF_rg (p := fun w => lkM m w ∧ ahdM m w = lksM m 6) 64 0 with a | ⟨a, b, c⟩
  · exact a
  · exfalso
    generalize fstF (fun w => lkM m w ∧ ahdM m w = lksM m 6) 64 0 = w at a b c
    have nw : ¬ aM m w w := fun x => by unfold aM at x; omega
    have e1 := sumF_1 (f := fun v => if v = w then 0 else lkQ m v) (g := lkQ m) (p := w) 64 0 a b (fun j x y z => if_neg z)
    rw [if_pos rfl, lkQ_1.mpr c.1] at e1
    have e2 : rkQ m (lkQ m) w ≤ sumF 64 0 (fun v => if v = w then 0 else lkQ m v) := sumF_le 64 0 (fun j x y => by
      by_cases z : j = w
      · rw [z, if_neg nw, if_pos rfl]
        decide
      · rw [if_neg z]
        rcases lkQ_01 m j with k | k <;> rw [k] <;> split <;> decide)
    have e3 : sumF 64 0 (lkQ m) = lksM m 6 := rfl
    have e4 := c.2
    rw [ahd_rk] at e4
    omega
theorem lk_ord {m : Int → Int} (hN : NB m) {r : Int} (r0 : 1 ≤ r) (r1 : r < lksM m 6) : aM m (lkF m (r - 1)) (lkF m r) := by
  obtain ⟨-, a0, a1, a2, a3⟩ := lkF_yes hN (r := r - 1) (by omega) (by omega)
  obtain ⟨-, b0, b1, b2, b3⟩ := lkF_yes hN (r := r) (by omega) r1
  have hne : lkF m (r - 1) ≠ lkF m r := fun e => by
    rw [e] at a3
    omega
  rcases lk_tot hN a0 a1 b0 b1 a2 b2 hne with h | h
  · exact h
  · exfalso
    rw [ahd_rk] at a3 b3
    have : rkQ m (lkQ m) (lkF m r) ≤ rkQ m (lkQ m) (lkF m (r - 1)) := sumF_le 64 0 (fun j x y => by
      by_cases z : aM m j (lkF m r)
      · rw [if_pos z, if_pos (aM_tr z h)]
        exact Int.le_refl _
      · rw [if_neg z]
        rcases lkQ_01 m j with k | k <;> rw [k] <;> split <;> decide)
    omega

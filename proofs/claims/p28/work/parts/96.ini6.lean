/-! what both constructors leave: the finished references, and class and reference side by side -/
/-- the references of an object are the finished ones -/
def rfO (ρ : Int → Int → Option Int) (o : Int) : Prop := ∀ k : Nat, k < szo o → (kd o < 7 → tyk (kd o) k = 2 → ρ o k = R0 o k) ∧ (7 ≤ kd o → 2 ≤ kt (kd o) → ρ o k = R0 o k)
theorem rfO_no {ρ : Int → Int → Option Int} {o : Int} {q : Nat} (hk : kd o = q) (h : q = 0 ∨ q = 1 ∨ q = 4 ∨ (8 ≤ q ∧ kt q < 2)) : rfO ρ o := fun k hk2 => by
  unfold szo at hk2
  rw [hk] at hk2 ⊢
  refine ⟨fun a b => ?_, fun a b => ?_⟩
  · rcases h with rfl | rfl | rfl | ⟨h1, -⟩
    · have : ∀ k, k < 6 → tyk 0 k ≠ 2 := by decide +kernel
      exact absurd b (this k hk2)
    · have : ∀ k, k < 3 → tyk 1 k ≠ 2 := by decide +kernel
      exact absurd b (this k hk2)
    · have : ∀ k, k < 3 → tyk 4 k ≠ 2 := by decide +kernel
      exact absurd b (this k hk2)
    · omega
  · rcases h with rfl | rfl | rfl | ⟨-, h2⟩
    · omega
    · omega
    · omega
    · omega
theorem rfO_ar {ρ : Int → Int → Option Int} {o : Int} {q : Nat} (hk : kd o = q) (h8 : 8 ≤ q) (h : ∀ i : Int, 0 ≤ i → i < kl q → ρ o i = R0 o i) : rfO ρ o := fun k hk2 => by
  unfold szo at hk2
  rw [hk] at hk2 ⊢
  rw [if_neg (by omega)] at hk2
  exact ⟨fun a b => by omega, fun a b => h k (by omega) (by omega)⟩
theorem rfO_ob {ρ : Int → Int → Option Int} {o : Int} {q : Nat} (hk : kd o = q) (h8 : q < 7) (h : ∀ k : Nat, k < nfd q → tyk q k = 2 → ρ o k = R0 o k) : rfO ρ o := fun k hk2 => by
  unfold szo at hk2
  rw [hk] at hk2 ⊢
  rw [if_pos h8] at hk2
  exact ⟨fun a b => h k hk2 b, fun a b => by omega⟩
theorem rfO_S {ρ : Int → Int → Option Int} {b : Int} (hb : stB b) (h : rfS ρ b) {o : Int} (o0 : b ≤ o) (o1 : o < b + 26) : rfO ρ o := by
  obtain ⟨h1, h2, h3, h4, h5⟩ := h
  have hk : kd o = kS (o - b) := by
    have := kd_st hb (j := o - b) (by omega) (by omega)
    rw [show b + (o - b) = o by omega] at this
    exact this
  by_cases a0 : o = b
  · subst a0
    refine rfO_ob (q := 3) (by rw [hk, Int.sub_self]; rfl) (by decide) (fun k k1 k2 => ?_)
    have t3 : ∀ k, k < 9 → tyk 3 k = 2 → k = 0 ∨ k = 1 ∨ k = 2 := by decide +kernel
    rcases t3 k k1 k2 with rfl | rfl | rfl
    · exact h1.trans (R0_s0 hb).symm
    · exact h2.trans (R0_s1 hb).symm
    · exact h3.trans (R0_s2 hb).symm
  · by_cases a1 : o = b + 1
    · subst a1
      exact rfO_ar (q := 17) (by rw [hk, show b + 1 - b = 1 by omega]; rfl) (by decide) (fun i i0 i1 => (h4 i i0 i1).trans (R0_b hb).symm)
    · by_cases a2 : o < b + 18
      · exact rfO_no (q := 0) (by rw [hk]; exact kS_blk (by omega) (by omega)) (Or.inl rfl)
      · by_cases a3 : o = b + 18
        · subst a3
          exact rfO_no (q := 10) (by rw [hk, show b + 18 - b = 18 by omega]; rfl) (Or.inr (Or.inr (Or.inr ⟨by decide, by decide⟩)))
        · by_cases a4 : o = b + 19
          · subst a4
            exact rfO_ar (q := 18) (by rw [hk, show b + 19 - b = 19 by omega]; rfl) (by decide) (fun i i0 i1 => (h5 i i0 i1).trans (R0_t hb).symm)
          · exact rfO_no (q := 4) (by rw [hk]; exact kS_tsk (by omega)) (Or.inr (Or.inr (Or.inl rfl)))
theorem rfO_all {ρ : Int → Int → Option Int} {μ : Int → Int → Int} (hp : poI ρ μ) {o : Int} (o0 : 0 ≤ o) (o1 : o < 219) : rfO ρ o := by
  obtain ⟨⟨p0, p1, p2, p4, p5, p6⟩, ⟨s1, s2, s3⟩, -, p79, p80, ⟨q0, q2⟩, q187, -, -, -⟩ := hp
  by_cases a0 : o = 0
  · subst a0
    refine rfO_ob (q := 6) (by decide) (by decide) (fun k k1 k2 => ?_)
    have t : ∀ k, k < 10 → tyk 6 k = 2 → k = 0 ∨ k = 1 ∨ k = 2 ∨ k = 4 ∨ k = 5 ∨ k = 6 := by decide +kernel
    rcases t k k1 k2 with rfl | rfl | rfl | rfl | rfl | rfl
    · exact p0.trans R0_0_0.symm
    · exact p1.trans R0_0_1.symm
    · exact p2.trans R0_0_2.symm
    · exact p4.trans R0_0_4.symm
    · exact p5.trans R0_0_5.symm
    · exact p6.trans R0_0_6.symm
  by_cases a1 : o < 27
  · exact rfO_S stB_1 s1 (by omega) (by omega)
  by_cases a2 : o < 53
  · exact rfO_S stB_27 s2 (by omega) (by omega)
  by_cases a3 : o < 79
  · exact rfO_S stB_53 s3 (by omega) (by omega)
  by_cases a4 : o = 79
  · subst a4
    refine rfO_ob (q := 2) (by decide) (by decide) (fun k k1 k2 => ?_)
    have t : ∀ k, k < 3 → tyk 2 k = 2 → k = 0 := by decide +kernel
    have := t k k1 k2
    subst this
    exact p79.trans R0_79_0.symm
  by_cases a5 : o = 80
  · subst a5
    exact rfO_ar (q := 19) (by decide) (by decide) (fun i i0 i1 => (p80 i i0 i1).1.trans R0_80.symm)
  by_cases a6 : o < 185
  · have j0 : 0 ≤ (o - 81) / 26 ∧ (o - 81) / 26 < 4 := by omega
    exact rfO_S (stB_h j0.1 j0.2) (p80 _ j0.1 j0.2).2.1 (by omega) (by omega)
  by_cases a7 : o = 185
  · subst a7
    refine rfO_ob (q := 5) (by decide) (by decide) (fun k k1 k2 => ?_)
    have t : ∀ k, k < 6 → tyk 5 k = 2 → k = 0 ∨ k = 2 := by decide +kernel
    rcases t k k1 k2 with rfl | rfl
    · exact q0.trans R0_185_0.symm
    · exact q2.trans R0_185_2.symm
  by_cases a8 : o = 186
  · subst a8
    exact rfO_no (q := 16) (by decide) (Or.inr (Or.inr (Or.inr ⟨by decide, by decide⟩)))
  by_cases a9 : o = 187
  · subst a9
    exact rfO_ar (q := 20) (by decide) (by decide) (fun i i0 i1 => (q187 i i0 i1).trans R0_187.symm)
  by_cases b0 : o < 218
  · have := (vk_cmd (i := o - 188) (by omega) (by omega)).2.2
    rw [show 188 + (o - 188) = o by omega] at this
    exact rfO_no (q := 1) this (Or.inr (Or.inl rfl))
  by_cases b1 : o = 218
  · subst b1
    exact rfO_no (q := 11) (by decide) (Or.inr (Or.inr (Or.inr ⟨by decide, by decide⟩)))
  omega
/-- from here on the references are the finished ones -/
theorem r_R0 {y : MI} {t0 pc : Nat} {L : List (Option Vv)} {S : List Vv} {ρ : Int → Int → Option Int} {μ : Int → Int → Int} {Mf : Mm} {r : Option Vv} (hp : poI ρ μ) (kk : SPW y t0 pc L S (st μ) r Mf) : SPW y t0 pc L S (ρ, 219, μ) r Mf := by
  refine r_conv (fun o o0 o1 k hk => ?_) (fun h => h) (fun k => rfl) kk
  have h := rfO_all hp o0 o1 k hk
  exact ⟨fun a => ⟨fun b => h.1 a b, fun _ => rfl⟩, fun a => ⟨fun _ => rfl, fun b => h.2 a b⟩⟩
def rwI (m : Int → Int) : Prop := (∀ j, 0 ≤ j → j < 64 → m (192 + j) = -5 ∧ m (128 + j) = if j % 16 = 0 then 16 else 0) ∧ (∀ j, 0 ≤ j → j < 6 → m (454 + j) = 32) ∧ m 467 = 50 ∧ (∀ k, (k < 128 ∨ (256 ≤ k ∧ k < 454) ∨ (460 ≤ k ∧ k ≠ 467)) → m k = 0)
/-- the row of a new pool -/
def row0 : Int → Int := fun k => if k < 128 then 0 else if k < 192 then (if (k - 128) % 16 = 0 then 16 else 0) else if k < 256 then -5 else if k < 454 then 0 else if k < 460 then 32 else if k = 467 then 50 else 0
theorem rwI_0 : rwI row0 := by
  refine ⟨fun j j0 j1 => ⟨?_, ?_⟩, fun j j0 j1 => ?_, by decide, fun k hk => ?_⟩
  · unfold row0
    rw [if_neg (by omega), if_neg (by omega), if_pos (by omega)]
  · unfold row0
    rw [if_neg (by omega), if_pos (by omega), show 128 + j - 128 = j by omega]
  · unfold row0
    rw [if_neg (by omega), if_neg (by omega), if_neg (by omega), if_neg (by omega), if_pos (by omega)]
  · unfold row0
    rcases hk with q | q | q
    · rw [if_pos q]
    · rw [if_neg (by omega), if_neg (by omega), if_neg (by omega), if_pos (by omega)]
    · rw [if_neg (by omega), if_neg (by omega), if_neg (by omega), if_neg (by omega), if_neg (by omega), if_neg (by omega)]
/-! the first state of both -/
theorem rw_own {m : Int → Int} (h : rwI m) {w : Int} (w0 : 0 ≤ w) (w1 : w < 64) : ¬ owd m w := fun q => q.2 (h.1 w w0 w1).1
theorem rw_sz {m : Int → Int} (h : rwI m) {w : Int} (w0 : 0 ≤ w) (w1 : w < 64) : (w % 16 = 0 ∧ m (128 + w) = 16) ∨ (w % 16 ≠ 0 ∧ m (128 + w) = 0) := by
  have := (h.1 w w0 w1).2
  by_cases q : w % 16 = 0
  · rw [if_pos q] at this
    exact Or.inl ⟨q, this⟩
  · rw [if_neg q] at this
    exact Or.inr ⟨q, this⟩
theorem MW_0 {m : Int → Int} (h : rwI m) : MW 0 m := by
  have z := h.2.2.2
  have hs : ∀ w, 0 ≤ w → w < 64 → (w % 16 = 0 ∧ m (128 + w) = 16) ∨ (w % 16 ≠ 0 ∧ m (128 + w) = 0) := fun w a b => rw_sz h a b
  refine ⟨fun w w0 w1 => ?_, fun t t0 t1 => ?_, ?_, ?_, ?_, ?_, ?_, ?_, by decide, ?_⟩
  · have e := hs w w0 w1
    rw [z (64 + w) (by omega), z (256 + w) (by omega), z (320 + w) (by omega), z (384 + w) (by omega), (h.1 w w0 w1).1]
    refine ⟨⟨by decide, by decide⟩, ⟨by omega, by omega⟩, ⟨by decide, by decide⟩, ⟨by decide, by decide⟩, ⟨by decide, by decide⟩, ⟨by decide, by decide⟩, by omega, by omega⟩
  · rw [z (448 + t) (by omega), h.2.1 t t0 t1, z (460 + t) (by omega)]
    exact ⟨⟨by decide, by decide⟩, ⟨by decide, by decide⟩, ⟨by decide, by decide⟩⟩
  · rw [z 466 (by omega)]
    exact ⟨by decide, by decide⟩
  · rw [h.2.2.1]
    exact ⟨by decide, by decide⟩
  · rw [z 468 (by omega)]
    exact ⟨by decide, by decide⟩
  · rw [z 469 (by omega)]
    exact ⟨by decide, by decide⟩
  · rw [z 470 (by omega)]
    exact ⟨by decide, by decide⟩
  · rw [z 471 (by omega)]
    exact ⟨by decide, by decide⟩
  · have := hs 0 (by decide) (by decide)
    rw [show (128 : Int) + 0 = 128 from rfl] at this
    omega
theorem ML_0 {m : Int → Int} (h : rwI m) : ML m := by
  have z := h.2.2.2
  refine ⟨fun w w0 w1 w2 => ?_, fun c c0 c1 c2 => ?_, fun w w0 w1 w2 => absurd w2 (rw_own h w0 w1), fun w j w0 w1 w2 j0 j1 => ?_⟩
  · have := rw_sz h w0 w1
    omega
  · have e0 := rw_sz h c0 c1
    have e1 := rw_sz h (w := c + 4) (by omega) (by omega)
    have e2 := rw_sz h (w := c + 8) (by omega) (by omega)
    have e3 := rw_sz h (w := c + 12) (by omega) (by omega)
    rw [show 128 + (c + 4) = 132 + c by omega] at e1
    rw [show 128 + (c + 8) = 136 + c by omega] at e2
    rw [show 128 + (c + 12) = 140 + c by omega] at e3
    left
    omega
  · have := rw_sz h w0 w1
    exact ⟨z _ (by omega), z _ (by omega)⟩
theorem RS_0 {μ : Int → Int → Int} {m : Int → Int} (h : rwI m) (hs : stI μ 1) : RS μ 1 m := by
  have z := h.2.2.2
  obtain ⟨s1, s2, s3, s4, s5, s6, s7, s8, s9⟩ := hs
  refine ⟨fun i i0 i1 => ?_, fun w w0 w1 => ?_, fun t t0 t1 => ?_, ?_, ?_, ?_, ?_, ?_, ?_⟩
  · obtain ⟨b0, b1, b2, b3, b4, b5⟩ := s1 i i0 i1
    have e := rw_sz h (w := 4 * i) (by omega) (by omega)
    have no := rw_own h (w := 4 * i) (by omega) (by omega)
    refine ⟨b0, ?_, ?_, fun q => absurd q no, fun _ => b2, ?_, ?_⟩
    · rw [b1]
      split
      · exact ⟨by decide, by decide⟩
      · exact ⟨by decide, by decide⟩
    · rw [b1]
      rcases e with ⟨e1, e2⟩ | ⟨e1, e2⟩
      · rw [if_pos e1, e2]
        rfl
      · rw [if_neg e1, e2]
        rfl
    · rw [b4, z _ (by omega)]
    · rw [b5, z _ (by omega)]
  · rw [s2 w, z w (by omega)]
  · obtain ⟨t0', t1', t2'⟩ := s3 t t0 t1
    refine ⟨?_, ?_, ?_⟩
    · rw [t0', z _ (by omega)]
      rfl
    · rw [t1', h.2.1 t t0 t1]
    · rw [t2', z _ (by omega)]
  · rw [s4, z _ (by omega)]
  · rw [s5, h.2.2.1]
  · rw [s6, z _ (by omega)]
  · rw [s7, z _ (by omega)]
  · rw [s8, z _ (by omega)]
  · rw [s9, z _ (by omega)]
theorem bgS_0 {μ : Int → Int → Int} {b : Int} (hs : stI μ b) : bgS μ b := fun i i0 i1 => (hs.1 i i0 i1).1
theorem EX_0 : EX row0 := by
  have h := rwI_0
  have no : ∀ w, 0 ≤ w → w < 64 → ¬ owd row0 w := fun w w0 w1 => rw_own h w0 w1
  refine ⟨⟨fun w w0 w1 => by rw [h.2.2.2 w (by omega)]; decide, fun w w0 w1 q => absurd q (no w w0 w1), fun w v w0 w1 v0 v1 q => absurd q (no w w0 w1)⟩, fun c z hz c0 c1 hc q => ?_, by unfold SJ nbM; decide +kernel⟩
  exfalso
  have h2 := q.2.1
  rcases rw_sz h c0 (by omega) with x | x <;> omega
theorem GV_0 {ρ : Int → Int → Option Int} {μ : Int → Int → Int} (hp : poI ρ μ) : GV 0 μ row0 (fun _ => row0) := by
  obtain ⟨-, -, ⟨s1, s2, s3⟩, -, p80, -, -, z0, z79, z185⟩ := hp
  have h := rwI_0
  refine ⟨⟨⟨RS_0 h s1, MW_0 h, ML_0 h, fun w w0 w1 q => absurd q (rw_own h w0 w1)⟩, EX_0⟩, fun b hb => ?_, by rw [z79]; exact ⟨by decide, by decide⟩, by rw [z79]; exact ⟨by decide, by decide⟩, fun j j0 j1 => by rw [z79] at j1; omega, fun k k0 k1 => ?_⟩
  · unfold stB at hb
    rcases hb with rfl | rfl | rfl | rfl | rfl | rfl | rfl
    · exact bgS_0 s1
    · exact bgS_0 s2
    · exact bgS_0 s3
    · exact bgS_0 (p80 0 (by decide) (by decide)).2.2
    · exact bgS_0 (p80 1 (by decide) (by decide)).2.2
    · exact bgS_0 (p80 2 (by decide) (by decide)).2.2
    · exact bgS_0 (p80 3 (by decide) (by decide)).2.2
  · rw [z185 218 _ (by decide) (by decide)]
    exact ⟨by decide, by decide⟩

/-! perform: the reference, whole -/
theorem cpy_ab {m m' g f : Int → Int} (hg : g = cpy m f 0 472) (h : OE m m') : cpy g m' 0 472 = m := by
  funext k
  unfold cpy
  by_cases q : 0 ≤ k ∧ k < 0 + 472
  · rw [if_pos q, hg]
    unfold cpy
    rw [if_pos (by omega)]
    congr 1
    omega
  · rw [if_neg q]
    exact h k (by omega)
/-- the first pass, the row put aside, the second pass, the row put back -/
theorem ref_p {Q : Int → Int → Int} {c : Int → Int} {T j e : Int} {m' : Int → Int} (hT : TM Q) (ec : ∀ k, 0 ≤ k → k < T → Q 225 k = c k) (eT : Q 219 8 = T) (hr : rdR (Q 225) (Q 219 8) 30 0 = -1) (hO : OE (Q 220) m') (hg : mGo c T 30 0 (Q 220) m' j e) : ∃ (k : Int) (F1 F2 ν : Int → Int → Int), MetC mi_Mod_go [vR 219, vI 0] (st Q) (some (vI k)) (st F1) ∧ F1 219 12 = 0 ∧ MetC mi_Mod_putAside [vR 219] (st F1) none (st F2) ∧ MetC mi_Mod_go [vR 219, vI 1] (st F2) (some (vI (0 + j))) (st (setO ν 220 m')) ∧ MetC mi_Mod_putBack [vR 219] (st (setO ν 220 m')) none (st (setO ν 220 (Q 220))) ∧ ν 219 16 = e ∧ (∀ o k, (o ≠ 219 ∨ k < 11 ∨ 16 < k) → o ≠ 221 → ν o k = Q o k) := by
  obtain ⟨k, F1, c1, t1, t2, -⟩ := rd_mod hT
  have e220 : F1 220 = Q 220 := by
    funext q
    exact t1 220 q (Or.inl (by decide))
  have a1 : setO F1 220 (Q 220) = F1 := by
    rw [← e220]
    exact setO_self
  have c2 := c_Mod_putAside (μ := F1) (m := Q 220)
  rw [a1] at c2
  have f8 : upM (setO F1 221 (cpy (Q 220) (F1 221) 0 472)) 219 16 0 219 8 = T := by
    rw [u8 (by decide), setO_ne (by decide), t1 219 8 (Or.inr (Or.inl (by decide)))]
    exact eT
  have f225 : upM (setO F1 221 (cpy (Q 220) (F1 221) 0 472)) 219 16 0 225 = Q 225 := by
    funext q
    rw [u225, setO_ne (by decide)]
    exact t1 225 q (Or.inl (by decide))
  have hM : TM (upM (setO F1 221 (cpy (Q 220) (F1 221) 0 472)) 219 16 0) := by
    unfold TM
    rw [f8, f225, ← eT]
    exact hT
  obtain ⟨ν, s, g1, g2⟩ := hg (upM (setO F1 221 (cpy (Q 220) (F1 221) 0 472)) 219 16 0) 0 (by rw [f225]; exact ec) f8 hM (Int.le_refl _) (by decide)
  rw [← uo_219] at s
  have hν : ν 221 = cpy (Q 220) (F1 221) 0 472 := by
    funext q
    rw [g1 221 q (Or.inl (by decide)), upM_ne (Or.inl (by decide)), setO_at]
  have c4 := c_Mod_putBack (μ := ν) (m := m')
  rw [cpy_ab hν hO] at c4
  refine ⟨k, F1, _, ν, c1, t2 hr, c2, c_Mod_go s, c4, g2, fun o q b b2 => ?_⟩
  have b3 : o ≠ 219 ∨ q ≠ 16 := by omega
  rw [g1 o q b, upM_ne b3, setO_ne b2]
  exact t1 o q b
theorem ref_s {Q : Int → Int → Int} {c : Int → Int} {T j r : Int} {m' : Int → Int} (hT : TM Q) (ec : ∀ k, 0 ≤ k → k < T → Q 225 k = c k) (eT : Q 219 8 = T) (hr : rdR (Q 225) (Q 219 8) 30 0 = -1) (hO : OE (Q 220) m') (hg : mGo c T 30 0 (Q 220) m' j r) (h0 : r < 0) : ∃ T' : Int → Int → Int, MetC mi_Mod_perform [vR 219] (st Q) (some (vI (-4))) (st T') ∧ (∀ o k, (o ≠ 219 ∨ k < 9 ∨ 16 < k) → o ≠ 221 → T' o k = Q o k) ∧ T' 219 9 = 0 + j ∧ T' 219 10 = r := by
  obtain ⟨k, F1, F2, ν, c1, hw, c2, c3, c4, he, fr⟩ := ref_p hT ec eT hr hO hg
  refine ⟨_, c_Mod_perform_s c1 hw c2 c3 c4 (by rw [so_219]; exact he) h0, fun o q a b => ?_, ?_, ?_⟩
  · have a1 : o ≠ 219 ∨ q ≠ 10 := by omega
    have a2 : o ≠ 219 ∨ q ≠ 9 := by omega
    have a3 : o ≠ 219 ∨ q < 11 ∨ 16 < q := by omega
    rw [upM_ne a1, upM_ne a2]
    by_cases z : o = 220
    · rw [z, setO_at]
    · rw [setO_ne z]
      exact fr o q a3 b
  · rw [upM_ne (Or.inr (by decide)), upM_eq]
  · rw [upM_eq]
theorem knF_eq {μ ν : Int → Int → Int} {m : Int → Int} (h3 : μ 219 3 = ν 219 3) (h : μ 222 = ν 222) : knF μ m = knF ν m ∧ knN μ = knN ν := by
  unfold knF knN
  rw [h3, h]
  exact ⟨rfl, rfl⟩
theorem ref_o {Q : Int → Int → Int} {c : Int → Int} {T d : Int} {m' : Int → Int} (hT : TM Q) (ec : ∀ k, 0 ≤ k → k < T → Q 225 k = c k) (eT : Q 219 8 = T) (hr : rdR (Q 225) (Q 219 8) 30 0 = -1) (hk : 0 ≤ Q 219 3 ∧ Q 219 3 ≤ 4) (hO : OE (Q 220) m') (hg : mGo c T 30 0 (Q 220) m' d 0) : ∃ T' : Int → Int → Int, MetC mi_Mod_perform [vR 219] (st Q) (some (vI (0 + d))) (st T') ∧ (∀ o k, (o ≠ 219 ∨ (k < 11 ∧ k ≠ 3) ∨ 16 < k) → o ≠ 220 → o ≠ 221 → o ≠ 222 → T' o k = Q o k) ∧ T' 220 = m' ∧ T' 222 = knF Q (Q 220) ∧ T' 219 3 = knN Q := by
  obtain ⟨k, F1, F2, ν, c1, hw, c2, c3, c4, he, fr⟩ := ref_p hT ec eT hr hO hg
  have n3 : ν 219 3 = Q 219 3 := fr 219 3 (Or.inr (Or.inl (by decide))) (by decide)
  have n222 : ν 222 = Q 222 := by
    funext q
    exact fr 222 q (Or.inl (by decide)) (by decide)
  obtain ⟨k1, k2⟩ := knF_eq (m := Q 220) n3 n222
  have c5 := c_Mod_know (μ := ν) (m := Q 220) (by rw [n3]; exact hk)
  have u_o : ∀ o q, (o ≠ 219 ∨ q ≠ 3) → o ≠ 222 → knM ν (Q 220) o q = ν o q := fun o q a b => by
    unfold knM
    rw [setO_ne b, upM_ne a]
  have f8 : upM (knM ν (Q 220)) 219 16 0 219 8 = T := by
    rw [u8 (by decide), u_o 219 8 (Or.inr (by decide)) (by decide), fr 219 8 (Or.inr (Or.inl (by decide))) (by decide)]
    exact eT
  have f225 : upM (knM ν (Q 220)) 219 16 0 225 = Q 225 := by
    funext q
    rw [u225, u_o 225 q (Or.inl (by decide)) (by decide)]
    exact fr 225 q (Or.inl (by decide)) (by decide)
  have hM : TM (upM (knM ν (Q 220)) 219 16 0) := by
    unfold TM
    rw [f8, f225, ← eT]
    exact hT
  obtain ⟨ν', s, g1, g2⟩ := hg (upM (knM ν (Q 220)) 219 16 0) 0 (by rw [f225]; exact ec) f8 hM (Int.le_refl _) (by decide)
  rw [← uo_219] at s
  refine ⟨_, c_Mod_perform_o c1 hw c2 c3 c4 (by rw [so_219]; exact he) (Int.le_refl _) c5 (c_Mod_go s), fun o q a b b1 b2 => ?_, setO_at, ?_, ?_⟩
  · have a1 : o ≠ 219 ∨ q < 11 ∨ 16 < q := by omega
    have a2 : o ≠ 219 ∨ q ≠ 16 := by omega
    have a3 : o ≠ 219 ∨ q ≠ 3 := by omega
    rw [setO_ne b, g1 o q a1, upM_ne a2, u_o o q a3 b2]
    exact fr o q a1 b1
  · rw [setO_ne (by decide), ← k1]
    funext q
    rw [g1 222 q (Or.inl (by decide)), upM_ne (Or.inl (by decide))]
    unfold knM
    rw [setO_at]
  · rw [setO_ne (by decide), ← k2, g1 219 3 (Or.inr (Or.inl (by decide))), upM_ne (Or.inr (by decide))]
    unfold knM
    rw [setO_ne (by decide), upM_eq]


/-! the class: one State copied into another -/
def bC (μ : Int → Int → Int) (o p : Int) : Int → Int → Int := fun o' k => if o' = o ∧ 1 ≤ k ∧ k ≤ 5 then μ p k else μ o' k
def tC (μ : Int → Int → Int) (o p : Int) : Int → Int → Int := fun o' k => if o' = o ∧ 0 ≤ k ∧ k ≤ 2 then μ p k else μ o' k
theorem bC_s {μ : Int → Int → Int} {o p : Int} : upM (upM (upM (upM (upM μ o 1 (μ p 1)) o 2 (μ p 2)) o 3 (μ p 3)) o 4 (μ p 4)) o 5 (μ p 5) = bC μ o p := by
  funext o' k
  unfold bC
  by_cases h : o' = o
  · subst h
    by_cases h1 : k = 5
    · rw [h1, upM_eq, if_pos ⟨rfl, by decide, by decide⟩]
    · rw [upM_ne (Or.inr h1)]
      by_cases h2 : k = 4
      · rw [h2, upM_eq, if_pos ⟨rfl, by decide, by decide⟩]
      · rw [upM_ne (Or.inr h2)]
        by_cases h3 : k = 3
        · rw [h3, upM_eq, if_pos ⟨rfl, by decide, by decide⟩]
        · rw [upM_ne (Or.inr h3)]
          by_cases h4 : k = 2
          · rw [h4, upM_eq, if_pos ⟨rfl, by decide, by decide⟩]
          · rw [upM_ne (Or.inr h4)]
            by_cases h5 : k = 1
            · rw [h5, upM_eq, if_pos ⟨rfl, by decide, by decide⟩]
            · rw [upM_ne (Or.inr h5), if_neg (by omega)]
  · rw [upM_ne (Or.inl h), upM_ne (Or.inl h), upM_ne (Or.inl h), upM_ne (Or.inl h), upM_ne (Or.inl h), if_neg (fun q => h q.1)]
theorem tC_s {μ : Int → Int → Int} {o p : Int} : upM (upM (upM μ o 0 (μ p 0)) o 1 (μ p 1)) o 2 (μ p 2) = tC μ o p := by
  funext o' k
  unfold tC
  by_cases h : o' = o
  · subst h
    by_cases h3 : k = 2
    · rw [h3, upM_eq, if_pos ⟨rfl, by decide, by decide⟩]
    · rw [upM_ne (Or.inr h3)]
      by_cases h4 : k = 1
      · rw [h4, upM_eq, if_pos ⟨rfl, by decide, by decide⟩]
      · rw [upM_ne (Or.inr h4)]
        by_cases h5 : k = 0
        · rw [h5, upM_eq, if_pos ⟨rfl, by decide, by decide⟩]
        · rw [upM_ne (Or.inr h5), if_neg (by omega)]
  · rw [upM_ne (Or.inl h), upM_ne (Or.inl h), upM_ne (Or.inl h), if_neg (fun q => h q.1)]
def cB (μ : Int → Int → Int) (b c i : Int) : Int → Int → Int := fun o k => if (b + 2 ≤ o ∧ o < b + 2 + i) ∧ 1 ≤ k ∧ k ≤ 5 then μ (o - b + c) k else μ o k
def cT (μ : Int → Int → Int) (b c i : Int) : Int → Int → Int := fun o k => if (b + 20 ≤ o ∧ o < b + 20 + i) ∧ 0 ≤ k ∧ k ≤ 2 then μ (o - b + c) k else μ o k
theorem cB_0 {μ : Int → Int → Int} {b c : Int} : cB μ b c 0 = μ := by
  funext o k
  exact if_neg (by omega)
theorem cT_0 {μ : Int → Int → Int} {b c : Int} : cT μ b c 0 = μ := by
  funext o k
  exact if_neg (by omega)
theorem cB_s {μ : Int → Int → Int} {b c i : Int} (hd : b + 26 ≤ c ∨ c + 26 ≤ b) (h0 : 0 ≤ i) (h1 : i < 16) : bC (cB μ b c i) (b + 2 + i) (c + 2 + i) = cB μ b c (i + 1) := by
  funext o k
  unfold bC
  by_cases h : o = b + 2 + i ∧ 1 ≤ k ∧ k ≤ 5
  · rw [if_pos h]
    unfold cB
    rw [if_neg (by omega), if_pos (by omega), show o - b + c = c + 2 + i by omega]
  · rw [if_neg h]
    unfold cB
    by_cases h2 : (b + 2 ≤ o ∧ o < b + 2 + i) ∧ 1 ≤ k ∧ k ≤ 5
    · rw [if_pos h2, if_pos (by omega)]
    · rw [if_neg h2, if_neg (by omega)]
theorem cT_s {μ : Int → Int → Int} {b c i : Int} (hd : b + 26 ≤ c ∨ c + 26 ≤ b) (h0 : 0 ≤ i) (h1 : i < 6) : tC (cT μ b c i) (b + 20 + i) (c + 20 + i) = cT μ b c (i + 1) := by
  funext o k
  unfold tC
  by_cases h : o = b + 20 + i ∧ 0 ≤ k ∧ k ≤ 2
  · rw [if_pos h]
    unfold cT
    rw [if_neg (by omega), if_pos (by omega), show o - b + c = c + 20 + i by omega]
  · rw [if_neg h]
    unfold cT
    by_cases h2 : (b + 20 ≤ o ∧ o < b + 20 + i) ∧ 0 ≤ k ∧ k ≤ 2
    · rw [if_pos h2, if_pos (by omega)]
    · rw [if_neg h2, if_neg (by omega)]
def cF (μ : Int → Int → Int) (b c k : Int) : Int → Int → Int := upM μ b k (μ c k)
def cV (μ : Int → Int → Int) (b c : Int) : Int → Int → Int := cT (cpA (cB μ b c 16) (c + 18) (b + 18) 64) b c 6
def cS (μ : Int → Int → Int) (b c : Int) : Int → Int → Int := cF (cF (cF (cF (cF (cF (cV μ b c) b c 3) b c 4) b c 5) b c 6) b c 7) b c 8
theorem st_far {b c : Int} (hb : stB b) (hc : stB c) (h : b ≠ c) : b + 26 ≤ c ∨ c + 26 ≤ b := by
  unfold stB at hb hc
  omega
theorem cF_o {μ : Int → Int → Int} {b c k o k' : Int} (h : o ≠ b ∨ k' ≠ k) : cF μ b c k o k' = μ o k' := upM_ne h
theorem cS_v {μ : Int → Int → Int} {b c o k : Int} (h : o ≠ b ∨ k < 3 ∨ 8 < k) : cS μ b c o k = cV μ b c o k := by
  unfold cS
  rw [cF_o (by omega), cF_o (by omega), cF_o (by omega), cF_o (by omega), cF_o (by omega), cF_o (by omega)]
theorem cV_o {μ : Int → Int → Int} {b c o k : Int} (h : o = b ∨ o < b + 2 ∨ b + 26 ≤ o ∨ o = b + 19) : cV μ b c o k = μ o k := by
  unfold cV cT cpA cB
  rw [if_neg (by omega), if_neg (by omega), if_neg (by omega)]
theorem cS_f {μ : Int → Int → Int} {b c k : Int} (hd : b + 26 ≤ c ∨ c + 26 ≤ b) (h : 3 ≤ k ∧ k ≤ 8) : cS μ b c b k = μ c k := by
  have hne : c ≠ b := by omega
  unfold cS
  rcases (show k = 3 ∨ k = 4 ∨ k = 5 ∨ k = 6 ∨ k = 7 ∨ k = 8 by omega) with rfl | rfl | rfl | rfl | rfl | rfl
  · rw [cF_o (Or.inr (by decide)), cF_o (Or.inr (by decide)), cF_o (Or.inr (by decide)), cF_o (Or.inr (by decide)), cF_o (Or.inr (by decide))]
    unfold cF
    rw [upM_eq, cV_o (by omega)]
  · rw [cF_o (Or.inr (by decide)), cF_o (Or.inr (by decide)), cF_o (Or.inr (by decide)), cF_o (Or.inr (by decide))]
    unfold cF
    rw [upM_eq, upM_ne (Or.inl hne), cV_o (by omega)]
  · rw [cF_o (Or.inr (by decide)), cF_o (Or.inr (by decide)), cF_o (Or.inr (by decide))]
    unfold cF
    rw [upM_eq, upM_ne (Or.inl hne), upM_ne (Or.inl hne), cV_o (by omega)]
  · rw [cF_o (Or.inr (by decide)), cF_o (Or.inr (by decide))]
    unfold cF
    rw [upM_eq, upM_ne (Or.inl hne), upM_ne (Or.inl hne), upM_ne (Or.inl hne), cV_o (by omega)]
  · rw [cF_o (Or.inr (by decide))]
    unfold cF
    rw [upM_eq, upM_ne (Or.inl hne), upM_ne (Or.inl hne), upM_ne (Or.inl hne), upM_ne (Or.inl hne), cV_o (by omega)]
  · unfold cF
    rw [upM_eq, upM_ne (Or.inl hne), upM_ne (Or.inl hne), upM_ne (Or.inl hne), upM_ne (Or.inl hne), upM_ne (Or.inl hne), cV_o (by omega)]
theorem cS_o {μ : Int → Int → Int} {b c o k : Int} (h : o < b ∨ b + 26 ≤ o) : cS μ b c o k = μ o k := by
  rw [cS_v (by omega), cV_o (by omega)]
theorem cS_0 {μ : Int → Int → Int} {b c k : Int} (h : k < 3 ∨ 8 < k) : cS μ b c b k = μ b k := by
  rw [cS_v (by omega), cV_o (by omega)]
theorem cS_b {μ : Int → Int → Int} {b c i k : Int} (hd : b + 26 ≤ c ∨ c + 26 ≤ b) (h0 : 0 ≤ i) (h1 : i < 16) (hk : 1 ≤ k ∧ k ≤ 5) : cS μ b c (b + 2 + i) k = μ (c + 2 + i) k := by
  rw [cS_v (by omega)]
  unfold cV cT cpA cB
  rw [if_neg (by omega), if_neg (by omega), if_pos (by omega), show b + 2 + i - b + c = c + 2 + i by omega]
theorem cS_b0 {μ : Int → Int → Int} {b c i : Int} (h0 : 0 ≤ i) (h1 : i < 16) : cS μ b c (b + 2 + i) 0 = μ (b + 2 + i) 0 := by
  rw [cS_v (by omega)]
  unfold cV cT cpA cB
  rw [if_neg (by omega), if_neg (by omega), if_neg (by omega)]
theorem cS_w {μ : Int → Int → Int} {b c w : Int} (hd : b + 26 ≤ c ∨ c + 26 ≤ b) (h0 : 0 ≤ w) (h1 : w < 64) : cS μ b c (b + 18) w = μ (c + 18) w := by
  rw [cS_v (by omega)]
  unfold cV cT cpA cB
  rw [if_neg (by omega), if_pos (by omega), if_neg (by omega)]
theorem cS_t {μ : Int → Int → Int} {b c i k : Int} (hd : b + 26 ≤ c ∨ c + 26 ≤ b) (h0 : 0 ≤ i) (h1 : i < 6) (hk : 0 ≤ k ∧ k ≤ 2) : cS μ b c (b + 20 + i) k = μ (c + 20 + i) k := by
  rw [cS_v (by omega)]
  unfold cV cT cpA cB
  rw [if_pos (by omega), if_neg (by omega), if_neg (by omega), show b + 20 + i - b + c = c + 20 + i by omega]
/-- the places' begins are where they were laid -/
def bgS (μ : Int → Int → Int) (b : Int) : Prop := ∀ i, 0 ≤ i → i < 16 → μ (b + 2 + i) 0 = 4 * i
theorem RS_cp {μ : Int → Int → Int} {m : Int → Int} {b c : Int} (hd : b + 26 ≤ c ∨ c + 26 ≤ b) (hg : bgS μ b) (h : RS μ c m) : RS (cS μ b c) b m := by
  obtain ⟨rb, rv, rt, r3, r4, r5, r6, r7, r8⟩ := h
  refine ⟨fun i i0 i1 => ?_, fun w w0 w1 => ?_, fun t t0 t1 => ?_, ?_, ?_, ?_, ?_, ?_, ?_⟩
  · have h := rb i i0 i1
    unfold blkR at h ⊢
    rw [cS_b0 i0 i1, cS_b hd i0 i1 (by decide), cS_b hd i0 i1 (by decide), cS_b hd i0 i1 (by decide), cS_b hd i0 i1 (by decide), cS_b hd i0 i1 (by decide)]
    exact ⟨hg i i0 i1, h.2⟩
  · rw [cS_w hd w0 w1]
    exact rv w w0 w1
  · have h := rt t t0 t1
    unfold tskR at h ⊢
    rw [cS_t hd t0 t1 (by decide), cS_t hd t0 t1 (by decide), cS_t hd t0 t1 (by decide)]
    exact h
  · rw [cS_f hd (by decide)]; exact r3
  · rw [cS_f hd (by decide)]; exact r4
  · rw [cS_f hd (by decide)]; exact r5
  · rw [cS_f hd (by decide)]; exact r6
  · rw [cS_f hd (by decide)]; exact r7
  · rw [cS_f hd (by decide)]; exact r8
theorem RS_fr {μ μ' : Int → Int → Int} {m : Int → Int} {b : Int} (h : RS μ b m) (e : ∀ o k, b ≤ o → o < b + 26 → μ' o k = μ o k) : RS μ' b m := by
  obtain ⟨rb, rv, rt, r3, r4, r5, r6, r7, r8⟩ := h
  refine ⟨fun i i0 i1 => blk_keep (rb i i0 i1) (fun k => e _ _ (by omega) (by omega)) rfl rfl rfl rfl rfl, fun w w0 w1 => ?_, fun t t0 t1 => tsk_keep (rt t t0 t1) (fun k => e _ _ (by omega) (by omega)) rfl rfl rfl, ?_, ?_, ?_, ?_, ?_, ?_⟩
  · rw [e _ _ (by omega) (by omega)]
    exact rv w w0 w1
  all_goals rw [e _ _ (by omega) (by omega)]; assumption
theorem bgS_fr {μ μ' : Int → Int → Int} {b : Int} (h : bgS μ b) (e : ∀ o k, b ≤ o → o < b + 26 → μ' o k = μ o k) : bgS μ' b := fun i i0 i1 => by
  rw [e _ _ (by omega) (by omega)]
  exact h i i0 i1
theorem bgS_cp {μ : Int → Int → Int} {b c d : Int} (hb : stB b) (hd : stB d) (h : bgS μ d) : bgS (cS μ b c) d := fun i i0 i1 => by
  by_cases e : d = b
  · subst e
    rw [cS_b0 i0 i1]
    exact h i i0 i1
  · have := st_far hd hb e
    rw [cS_o (by omega)]
    exact h i i0 i1

theorem c_Blk_copyFrom {μ : Int → Int → Int} {o p : Int} (hv : vk 219 o 0) (hp : vk 219 p 0) (hne : p ≠ o) : MetC mi_Blk_copyFrom [vR (o), vR p] (st μ) (none) (st (bC μ o p)) := by
  refine met_of ?_ (Nat.le_of_ble_eq_true rfl) (by decide) trivial (by decide) (Nat.le_of_ble_eq_true rfl)
  show SPW mi_Blk_copyFrom 219 0 [some (vR (o)), some (vR p)] [] (st μ) (none) (st (bC μ o p))
  refine r_aloadn dd_Blk_copyFrom_0 rfl ?_
  refine r_aloadn dd_Blk_copyFrom_1 rfl ?_
  refine r_getI dd_Blk_copyFrom_2 fl_Blk_15 (kI := 1) rfl fi_Blk_1 hp ?_
  refine r_putI dd_Blk_copyFrom_5 fl_Blk_15 (kI := 1) rfl fc_Blk_1 ff_Blk_1 (pi_Blk_1 _) hv ?_
  refine r_aloadn dd_Blk_copyFrom_8 rfl ?_
  refine r_aloadn dd_Blk_copyFrom_9 rfl ?_
  refine r_getI dd_Blk_copyFrom_10 fl_Blk_18 (kI := 2) rfl fi_Blk_2 hp ?_
  rw [upM_ne (Or.inl hne)]
  refine r_putI dd_Blk_copyFrom_13 fl_Blk_18 (kI := 2) rfl fc_Blk_2 ff_Blk_2 (pi_Blk_2 _) hv ?_
  refine r_aloadn dd_Blk_copyFrom_16 rfl ?_
  refine r_aloadn dd_Blk_copyFrom_17 rfl ?_
  refine r_getI dd_Blk_copyFrom_18 fl_Blk_21 (kI := 3) rfl fi_Blk_3 hp ?_
  rw [upM_ne (Or.inl hne), upM_ne (Or.inl hne)]
  refine r_putI dd_Blk_copyFrom_21 fl_Blk_21 (kI := 3) rfl fc_Blk_3 ff_Blk_3 (pi_Blk_3 _) hv ?_
  refine r_aloadn dd_Blk_copyFrom_24 rfl ?_
  refine r_aloadn dd_Blk_copyFrom_25 rfl ?_
  refine r_getI dd_Blk_copyFrom_26 fl_Blk_24 (kI := 4) rfl fi_Blk_4 hp ?_
  rw [upM_ne (Or.inl hne), upM_ne (Or.inl hne), upM_ne (Or.inl hne)]
  refine r_putI dd_Blk_copyFrom_29 fl_Blk_24 (kI := 4) rfl fc_Blk_4 ff_Blk_4 (pi_Blk_4 _) hv ?_
  refine r_aloadn dd_Blk_copyFrom_32 rfl ?_
  refine r_aloadn dd_Blk_copyFrom_33 rfl ?_
  refine r_getI dd_Blk_copyFrom_34 fl_Blk_27 (kI := 5) rfl fi_Blk_5 hp ?_
  rw [upM_ne (Or.inl hne), upM_ne (Or.inl hne), upM_ne (Or.inl hne), upM_ne (Or.inl hne)]
  refine r_putI dd_Blk_copyFrom_37 fl_Blk_27 (kI := 5) rfl fc_Blk_5 ff_Blk_5 (pi_Blk_5 _) hv ?_
  exact r_retV dd_Blk_copyFrom_40 (by rw [bC_s])
theorem c_Tsk_copyFrom {μ : Int → Int → Int} {o p : Int} (hv : vk 219 o 4) (hp : vk 219 p 4) (hne : p ≠ o) (hl : μ p 0 = 0 ∨ μ p 0 = 1) : MetC mi_Tsk_copyFrom [vR (o), vR p] (st μ) (none) (st (tC μ o p)) := by
  refine met_of ?_ (Nat.le_of_ble_eq_true rfl) (by decide) trivial (by decide) (Nat.le_of_ble_eq_true rfl)
  show SPW mi_Tsk_copyFrom 219 0 [some (vR (o)), some (vR p)] [] (st μ) (none) (st (tC μ o p))
  refine r_aloadn dd_Tsk_copyFrom_0 rfl ?_
  refine r_aloadn dd_Tsk_copyFrom_1 rfl ?_
  refine r_getI dd_Tsk_copyFrom_2 fl_Tsk_9 (kI := 0) rfl fi_Tsk_0 hp ?_
  refine r_putI dd_Tsk_copyFrom_5 fl_Tsk_9 (kI := 0) rfl fc_Tsk_0 ff_Tsk_0 (pb_Tsk_0 hl) hv ?_
  refine r_aloadn dd_Tsk_copyFrom_8 rfl ?_
  refine r_aloadn dd_Tsk_copyFrom_9 rfl ?_
  refine r_getI dd_Tsk_copyFrom_10 fl_Tsk_15 (kI := 1) rfl fi_Tsk_1 hp ?_
  rw [upM_ne (Or.inl hne)]
  refine r_putI dd_Tsk_copyFrom_13 fl_Tsk_15 (kI := 1) rfl fc_Tsk_1 ff_Tsk_1 (pi_Tsk_1 _) hv ?_
  refine r_aloadn dd_Tsk_copyFrom_16 rfl ?_
  refine r_aloadn dd_Tsk_copyFrom_17 rfl ?_
  refine r_getI dd_Tsk_copyFrom_18 fl_Tsk_19 (kI := 2) rfl fi_Tsk_2 hp ?_
  rw [upM_ne (Or.inl hne), upM_ne (Or.inl hne)]
  refine r_putI dd_Tsk_copyFrom_21 fl_Tsk_19 (kI := 2) rfl fc_Tsk_2 ff_Tsk_2 (pi_Tsk_2 _) hv ?_
  exact r_retV dd_Tsk_copyFrom_24 (by rw [tC_s])

/-! the finished objects: R0 says who points to whom; arities of calls; truth values -/
def R0 (o k : Int) : Option Int :=
  if kd o = 3 then (if k = 0 then some (o + 1) else if k = 1 then some (o + 18) else some (o + 19))
  else if kd o = 17 ∨ kd o = 18 ∨ kd o = 20 then some (o + 1 + k)
  else if kd o = 19 then some (81 + 26 * k)
  else if kd o = 6 then (if k = 0 then some 1 else if k = 1 then some 27 else if k = 2 then some 53 else if k = 4 then some 79 else if k = 5 then some 185 else some 218)
  else if kd o = 2 then some 80
  else if kd o = 5 then (if k = 0 then some 186 else some 187)
  else none
abbrev st (μ : Int → Int → Int) : Mm := (R0, 219, μ)
theorem vkd {t : Nat} {o : Int} {ci : Nat} (h : (decide (0 ≤ o) && (decide (o < (t : Int)) && decide (kd o = ci))) = true) : vk t o ci := by
  simp only [Bool.and_eq_true, decide_eq_true_eq] at h
  exact h
/-- the seven States -/
def stB (b : Int) : Prop := b = 1 ∨ b = 27 ∨ b = 53 ∨ b = 81 ∨ b = 107 ∨ b = 133 ∨ b = 159
theorem kd_st {b j : Int} (hb : stB b) (h0 : 0 ≤ j) (h1 : j < 26) : kd (b + j) = kS j := by
  unfold stB at hb
  unfold kd
  by_cases hl : b < 80
  · rw [if_neg (by omega), if_neg (by omega), if_pos (by omega), show (b + j - 1) % 26 = j by omega]
  · rw [if_neg (by omega), if_neg (by omega), if_neg (by omega), if_neg (by omega), if_neg (by omega), if_pos (by omega), show (b + j - 81) % 26 = j by omega]
theorem vk_st {b : Int} (hb : stB b) : vk 219 b 3 := by
  have h := kd_st hb (Int.le_refl 0) (by omega)
  rw [Int.add_zero] at h
  unfold stB at hb
  exact ⟨by omega, by omega, h⟩
theorem vk_j {b j : Int} {q : Nat} (hb : stB b) (h0 : 0 ≤ j) (h1 : j < 26) (hq : kS j = q) : vk 219 (b + j) q := by
  have h := kd_st hb h0 h1
  unfold stB at hb
  exact ⟨by omega, by omega, h.trans hq⟩
theorem kS_blk {j : Int} (h0 : 2 ≤ j) (h1 : j < 18) : kS j = 0 := by
  unfold kS
  rw [if_neg (by omega), if_neg (by omega), if_pos h1]
theorem kS_tsk {j : Int} (h0 : 20 ≤ j) : kS j = 4 := by
  unfold kS
  rw [if_neg (by omega), if_neg (by omega), if_neg (by omega), if_neg (by omega), if_neg (by omega)]
theorem vk_b {b i : Int} (hb : stB b) (h0 : 0 ≤ i) (h1 : i < 16) : vk 219 (b + 2 + i) 0 := by
  have h := vk_j (j := 2 + i) hb (by omega) (by omega) (kS_blk (by omega) (by omega))
  rw [show b + 2 + i = b + (2 + i) by omega]
  exact h
theorem vk_t {b i : Int} (hb : stB b) (h0 : 0 ≤ i) (h1 : i < 6) : vk 219 (b + 20 + i) 4 := by
  have h := vk_j (j := 20 + i) hb (by omega) (by omega) (kS_tsk (by omega))
  rw [show b + 20 + i = b + (20 + i) by omega]
  exact h
theorem stB_1 : stB 1 := Or.inl rfl
theorem vk_blk {i : Int} (h0 : 0 ≤ i) (h1 : i < 16) : vk 219 (3 + i) 0 := vk_b stB_1 h0 h1
theorem vk_tsk {i : Int} (h0 : 0 ≤ i) (h1 : i < 6) : vk 219 (21 + i) 4 := vk_t stB_1 h0 h1
theorem vk_cmd {i : Int} (h0 : 0 ≤ i) (h1 : i < 30) : vk 219 (188 + i) 1 := by
  refine ⟨by omega, by omega, ?_⟩
  unfold kd
  rw [if_neg (by omega), if_neg (by omega), if_neg (by omega), if_neg (by omega), if_neg (by omega), if_neg (by omega), if_neg (by omega), if_neg (by omega), if_neg (by omega), if_pos (by omega)]
theorem stB_h {j : Int} (h0 : 0 ≤ j) (h1 : j < 4) : stB (81 + 26 * j) := by
  unfold stB
  omega
theorem vk_hst {i : Int} (h0 : 0 ≤ i) (h1 : i < 4) : vk 219 (81 + 26 * i) 3 := vk_st (stB_h h0 h1)
theorem R0_s0 {b : Int} (hb : stB b) : R0 b 0 = some (b + 1) := by
  unfold R0
  rw [if_pos (vk_st hb).2.2, if_pos rfl]
theorem R0_s1 {b : Int} (hb : stB b) : R0 b 1 = some (b + 18) := by
  unfold R0
  rw [if_pos (vk_st hb).2.2, if_neg (by omega), if_pos rfl]
theorem R0_s2 {b : Int} (hb : stB b) : R0 b 2 = some (b + 19) := by
  unfold R0
  rw [if_pos (vk_st hb).2.2, if_neg (by omega), if_neg (by omega)]
theorem R0_b {b i : Int} (hb : stB b) : R0 (b + 1) i = some (b + 2 + i) := by
  have h := (vk_j (j := 1) (q := 17) hb (by omega) (by omega) rfl).2.2
  unfold R0
  rw [if_neg (by rw [h]; decide), if_pos (Or.inl h)]
  congr 1
  omega
theorem R0_t {b i : Int} (hb : stB b) : R0 (b + 19) i = some (b + 20 + i) := by
  have h := (vk_j (j := 19) (q := 18) hb (by omega) (by omega) rfl).2.2
  unfold R0
  rw [if_neg (by rw [h]; decide), if_pos (Or.inr (Or.inl h))]
  congr 1
  omega
theorem R0_2 {i : Int} : R0 2 i = some (3 + i) := R0_b stB_1
theorem R0_20 {i : Int} : R0 20 i = some (21 + i) := R0_t stB_1
theorem R0_80 {i : Int} : R0 80 i = some (81 + 26 * i) := rfl
theorem R0_187 {i : Int} : R0 187 i = some (188 + i) := by
  unfold R0
  rw [if_neg (by decide), if_pos (by decide)]
  congr 1
/-- a truth value as the machine has it -/
def b2 (p : Prop) [Decidable p] : Int := if p then 1 else 0
theorem b2_t {p : Prop} [Decidable p] (h : p) : b2 p = 1 := if_pos h
theorem b2_f {p : Prop} [Decidable p] (h : ¬ p) : b2 p = 0 := if_neg h
theorem b2_01 {p : Prop} [Decidable p] : b2 p = 0 ∨ b2 p = 1 := by
  by_cases h : p
  · exact Or.inr (b2_t h)
  · exact Or.inl (b2_f h)
theorem b2_iff {p q : Prop} [Decidable p] [Decidable q] (h : p ↔ q) : b2 p = b2 q := by
  by_cases hp : p
  · rw [b2_t hp, b2_t (h.mp hp)]
  · rw [b2_f hp, b2_f (fun x => hp (h.mpr x))]
section RS
variable {y y' : MI} {t0 pc pc' tgt idx n ci : Nat} {L L' : List (Option Vv)} {S : List Vv} {M M1 Mf : Mm} {r : Option Vv} {o : Int} {w v1 v2 v3 v4 : Vv}
theorem r_if_eq_b {p : Prop} [Decidable p] {off : Int} (hd : Db y pc (.ifCond .eq off) off pc' tgt) (kt : ¬ p → SPW y t0 tgt L S M r Mf) (kf : p → SPW y t0 pc' L S M r Mf) : SPW y t0 pc L (vI (b2 p) :: S) M r Mf :=
  r_if_eq hd (fun h => kt (fun q => by rw [b2_t q] at h; omega)) (fun h => kf (by by_cases q : p; exact q; exact absurd (b2_f q) h))
theorem r_if_ne_b {p : Prop} [Decidable p] {off : Int} (hd : Db y pc (.ifCond .ne off) off pc' tgt) (kt : p → SPW y t0 tgt L S M r Mf) (kf : ¬ p → SPW y t0 pc' L S M r Mf) : SPW y t0 pc L (vI (b2 p) :: S) M r Mf :=
  r_if_ne hd (fun h => kt (by by_cases q : p; exact q; exact absurd (b2_f q) h)) (fun h => kf (fun q => by rw [b2_t q] at h; omega))
theorem r_know (kk : (∀ v ∈ S, vok v) → (∀ (i : Nat) (v : Vv), L[i]? = some (some v) → vok v) → (∀ o k, rng (M.2.2 o k)) → SPW y t0 pc L S M r Mf) : SPW y t0 pc L S M r Mf := by
  intro G p l e s m args below meth c H locs ls Z C R Lk hS hV hfin
  exact kk hS (fun i v h => (Lk.2.2.2 i v h).2) R.2.2.1 G p l e s m args below meth c H locs ls Z C R Lk hS hV hfin
theorem r_retI {a b : Int} (hd : decode (mbc y) pc = .ok (retI (mrt y), 1)) (ha : a = b) (hM : M = Mf) : SPW y t0 pc L [vI a] M (some (vI b)) Mf := r_ret hd (by rw [ha]; rfl) hM
theorem r_retR {a b : Option Int} (hd : decode (mbc y) pc = .ok (retI (mrt y), 1)) (ha : a = b) (hM : M = Mf) : SPW y t0 pc L [.inr a] M (some (.inr b)) Mf := r_ret hd (by rw [ha]; rfl) hM
theorem r_retV (hd : decode (mbc y) pc = .ok (retI (mrt y), 1)) (hM : M = Mf) : SPW y t0 pc L [] M none Mf := r_ret hd rfl hM
theorem r_to {M' : Mm} (h : M = M') (kk : SPW y t0 pc L S M' r Mf) : SPW y t0 pc L S M r Mf := h ▸ kk
/-- a call's room where no cell is made: frames and words by computation -/
theorem clS {μ μ' : Int → Int → Int} (h : (Nat.ble ((mrm y').frames + 1) (mrm y).frames && (Nat.ble (8 + (mml y' + 11) + (mrm y').locals) (mrm y).locals && (Nat.beq (mrm y').cells 0 && Nat.beq (mrm y').slots 0))) = true) (ht : t0 ≤ 219) (hr : rmOK y t0 219) : clOK y y' t0 (st μ) (st μ') := by
  simp only [Bool.and_eq_true] at h
  obtain ⟨h1, h2, h3, h4⟩ := h
  refine ⟨Nat.le_of_ble_eq_true h1, Nat.le_of_ble_eq_true h2, ?_, ?_, ht, Nat.le_refl _, hr⟩
  · rw [Nat.eq_of_beq_eq_true h3]; exact (Nat.sub_self _).symm
  · rw [Nat.eq_of_beq_eq_true h4]; exact (Nat.sub_self _).symm
theorem r_V0W (hd : Dc y pc (.invokevirtual idx) 3 pc') (hl : Cond.methodLink (mnm y).cls idx (mnm y') ∈ lw_g) (ok : mOK y' 0) (vi : mVirt y') (hv : vk M.2.1 o ci) (hc : ci < 7 ∧ cnm ci = (mnm y').cls) (hcl : clOK y y' t0 M M1) (hlen : Nat.ble S.length 8 = true) (hM : MetC y' [vR o] M (some w) M1) (kk : SPW y t0 pc' L (w :: S) M1 r Mf) : SPW y t0 pc L (vR o :: S) M r Mf := r_callV_ (As := []) (r1 := (some w)) hd hl ok vi hM rfl hv hc hcl (Nat.le_of_ble_eq_true hlen) kk
theorem r_V0N (hd : Dc y pc (.invokevirtual idx) 3 pc') (hl : Cond.methodLink (mnm y).cls idx (mnm y') ∈ lw_g) (ok : mOK y' 0) (vi : mVirt y') (hv : vk M.2.1 o ci) (hc : ci < 7 ∧ cnm ci = (mnm y').cls) (hcl : clOK y y' t0 M M1) (hlen : Nat.ble S.length 8 = true) (hM : MetC y' [vR o] M none M1) (kk : SPW y t0 pc' L S M1 r Mf) : SPW y t0 pc L (vR o :: S) M r Mf := r_callV_ (As := []) (r1 := none) hd hl ok vi hM rfl hv hc hcl (Nat.le_of_ble_eq_true hlen) kk
theorem r_V1W (hd : Dc y pc (.invokevirtual idx) 3 pc') (hl : Cond.methodLink (mnm y).cls idx (mnm y') ∈ lw_g) (ok : mOK y' 1) (vi : mVirt y') (hv : vk M.2.1 o ci) (hc : ci < 7 ∧ cnm ci = (mnm y').cls) (hcl : clOK y y' t0 M M1) (hlen : Nat.ble S.length 8 = true) (hM : MetC y' [vR o, v1] M (some w) M1) (kk : SPW y t0 pc' L (w :: S) M1 r Mf) : SPW y t0 pc L (v1 :: vR o :: S) M r Mf := r_callV_ (As := [v1]) (r1 := (some w)) hd hl ok vi hM rfl hv hc hcl (Nat.le_of_ble_eq_true hlen) kk
theorem r_V1N (hd : Dc y pc (.invokevirtual idx) 3 pc') (hl : Cond.methodLink (mnm y).cls idx (mnm y') ∈ lw_g) (ok : mOK y' 1) (vi : mVirt y') (hv : vk M.2.1 o ci) (hc : ci < 7 ∧ cnm ci = (mnm y').cls) (hcl : clOK y y' t0 M M1) (hlen : Nat.ble S.length 8 = true) (hM : MetC y' [vR o, v1] M none M1) (kk : SPW y t0 pc' L S M1 r Mf) : SPW y t0 pc L (v1 :: vR o :: S) M r Mf := r_callV_ (As := [v1]) (r1 := none) hd hl ok vi hM rfl hv hc hcl (Nat.le_of_ble_eq_true hlen) kk
theorem r_V2W (hd : Dc y pc (.invokevirtual idx) 3 pc') (hl : Cond.methodLink (mnm y).cls idx (mnm y') ∈ lw_g) (ok : mOK y' 2) (vi : mVirt y') (hv : vk M.2.1 o ci) (hc : ci < 7 ∧ cnm ci = (mnm y').cls) (hcl : clOK y y' t0 M M1) (hlen : Nat.ble S.length 8 = true) (hM : MetC y' [vR o, v1, v2] M (some w) M1) (kk : SPW y t0 pc' L (w :: S) M1 r Mf) : SPW y t0 pc L (v2 :: v1 :: vR o :: S) M r Mf := r_callV_ (As := [v1, v2]) (r1 := (some w)) hd hl ok vi hM rfl hv hc hcl (Nat.le_of_ble_eq_true hlen) kk
theorem r_V2N (hd : Dc y pc (.invokevirtual idx) 3 pc') (hl : Cond.methodLink (mnm y).cls idx (mnm y') ∈ lw_g) (ok : mOK y' 2) (vi : mVirt y') (hv : vk M.2.1 o ci) (hc : ci < 7 ∧ cnm ci = (mnm y').cls) (hcl : clOK y y' t0 M M1) (hlen : Nat.ble S.length 8 = true) (hM : MetC y' [vR o, v1, v2] M none M1) (kk : SPW y t0 pc' L S M1 r Mf) : SPW y t0 pc L (v2 :: v1 :: vR o :: S) M r Mf := r_callV_ (As := [v1, v2]) (r1 := none) hd hl ok vi hM rfl hv hc hcl (Nat.le_of_ble_eq_true hlen) kk
theorem r_V3W (hd : Dc y pc (.invokevirtual idx) 3 pc') (hl : Cond.methodLink (mnm y).cls idx (mnm y') ∈ lw_g) (ok : mOK y' 3) (vi : mVirt y') (hv : vk M.2.1 o ci) (hc : ci < 7 ∧ cnm ci = (mnm y').cls) (hcl : clOK y y' t0 M M1) (hlen : Nat.ble S.length 8 = true) (hM : MetC y' [vR o, v1, v2, v3] M (some w) M1) (kk : SPW y t0 pc' L (w :: S) M1 r Mf) : SPW y t0 pc L (v3 :: v2 :: v1 :: vR o :: S) M r Mf := r_callV_ (As := [v1, v2, v3]) (r1 := (some w)) hd hl ok vi hM rfl hv hc hcl (Nat.le_of_ble_eq_true hlen) kk
theorem r_V3N (hd : Dc y pc (.invokevirtual idx) 3 pc') (hl : Cond.methodLink (mnm y).cls idx (mnm y') ∈ lw_g) (ok : mOK y' 3) (vi : mVirt y') (hv : vk M.2.1 o ci) (hc : ci < 7 ∧ cnm ci = (mnm y').cls) (hcl : clOK y y' t0 M M1) (hlen : Nat.ble S.length 8 = true) (hM : MetC y' [vR o, v1, v2, v3] M none M1) (kk : SPW y t0 pc' L S M1 r Mf) : SPW y t0 pc L (v3 :: v2 :: v1 :: vR o :: S) M r Mf := r_callV_ (As := [v1, v2, v3]) (r1 := none) hd hl ok vi hM rfl hv hc hcl (Nat.le_of_ble_eq_true hlen) kk
theorem r_V4W (hd : Dc y pc (.invokevirtual idx) 3 pc') (hl : Cond.methodLink (mnm y).cls idx (mnm y') ∈ lw_g) (ok : mOK y' 4) (vi : mVirt y') (hv : vk M.2.1 o ci) (hc : ci < 7 ∧ cnm ci = (mnm y').cls) (hcl : clOK y y' t0 M M1) (hlen : Nat.ble S.length 8 = true) (hM : MetC y' [vR o, v1, v2, v3, v4] M (some w) M1) (kk : SPW y t0 pc' L (w :: S) M1 r Mf) : SPW y t0 pc L (v4 :: v3 :: v2 :: v1 :: vR o :: S) M r Mf := r_callV_ (As := [v1, v2, v3, v4]) (r1 := (some w)) hd hl ok vi hM rfl hv hc hcl (Nat.le_of_ble_eq_true hlen) kk
theorem r_V4N (hd : Dc y pc (.invokevirtual idx) 3 pc') (hl : Cond.methodLink (mnm y).cls idx (mnm y') ∈ lw_g) (ok : mOK y' 4) (vi : mVirt y') (hv : vk M.2.1 o ci) (hc : ci < 7 ∧ cnm ci = (mnm y').cls) (hcl : clOK y y' t0 M M1) (hlen : Nat.ble S.length 8 = true) (hM : MetC y' [vR o, v1, v2, v3, v4] M none M1) (kk : SPW y t0 pc' L S M1 r Mf) : SPW y t0 pc L (v4 :: v3 :: v2 :: v1 :: vR o :: S) M r Mf := r_callV_ (As := [v1, v2, v3, v4]) (r1 := none) hd hl ok vi hM rfl hv hc hcl (Nat.le_of_ble_eq_true hlen) kk
theorem r_S0W (hd : Dc y pc (.invokestatic idx) 3 pc') (hl : Cond.methodLink (mnm y).cls idx (mnm y') ∈ lw_g) (ok : mOK y' 0) (sta : Cond.static (mnm y') ∈ lw_g) (hcl : clOK y y' t0 M M1) (hlen : Nat.ble S.length 8 = true) (hM : MetC y' [] M (some w) M1) (kk : SPW y t0 pc' L (w :: S) M1 r Mf) : SPW y t0 pc L (S) M r Mf := r_callS_ (As := []) (r1 := (some w)) hd hl ok sta hM rfl hcl (Nat.le_of_ble_eq_true hlen) kk
theorem r_S0N (hd : Dc y pc (.invokestatic idx) 3 pc') (hl : Cond.methodLink (mnm y).cls idx (mnm y') ∈ lw_g) (ok : mOK y' 0) (sta : Cond.static (mnm y') ∈ lw_g) (hcl : clOK y y' t0 M M1) (hlen : Nat.ble S.length 8 = true) (hM : MetC y' [] M none M1) (kk : SPW y t0 pc' L S M1 r Mf) : SPW y t0 pc L (S) M r Mf := r_callS_ (As := []) (r1 := none) hd hl ok sta hM rfl hcl (Nat.le_of_ble_eq_true hlen) kk
theorem r_S1W (hd : Dc y pc (.invokestatic idx) 3 pc') (hl : Cond.methodLink (mnm y).cls idx (mnm y') ∈ lw_g) (ok : mOK y' 1) (sta : Cond.static (mnm y') ∈ lw_g) (hcl : clOK y y' t0 M M1) (hlen : Nat.ble S.length 8 = true) (hM : MetC y' [v1] M (some w) M1) (kk : SPW y t0 pc' L (w :: S) M1 r Mf) : SPW y t0 pc L (v1 :: S) M r Mf := r_callS_ (As := [v1]) (r1 := (some w)) hd hl ok sta hM rfl hcl (Nat.le_of_ble_eq_true hlen) kk
theorem r_S1N (hd : Dc y pc (.invokestatic idx) 3 pc') (hl : Cond.methodLink (mnm y).cls idx (mnm y') ∈ lw_g) (ok : mOK y' 1) (sta : Cond.static (mnm y') ∈ lw_g) (hcl : clOK y y' t0 M M1) (hlen : Nat.ble S.length 8 = true) (hM : MetC y' [v1] M none M1) (kk : SPW y t0 pc' L S M1 r Mf) : SPW y t0 pc L (v1 :: S) M r Mf := r_callS_ (As := [v1]) (r1 := none) hd hl ok sta hM rfl hcl (Nat.le_of_ble_eq_true hlen) kk
theorem r_S2W (hd : Dc y pc (.invokestatic idx) 3 pc') (hl : Cond.methodLink (mnm y).cls idx (mnm y') ∈ lw_g) (ok : mOK y' 2) (sta : Cond.static (mnm y') ∈ lw_g) (hcl : clOK y y' t0 M M1) (hlen : Nat.ble S.length 8 = true) (hM : MetC y' [v1, v2] M (some w) M1) (kk : SPW y t0 pc' L (w :: S) M1 r Mf) : SPW y t0 pc L (v2 :: v1 :: S) M r Mf := r_callS_ (As := [v1, v2]) (r1 := (some w)) hd hl ok sta hM rfl hcl (Nat.le_of_ble_eq_true hlen) kk
theorem r_S2N (hd : Dc y pc (.invokestatic idx) 3 pc') (hl : Cond.methodLink (mnm y).cls idx (mnm y') ∈ lw_g) (ok : mOK y' 2) (sta : Cond.static (mnm y') ∈ lw_g) (hcl : clOK y y' t0 M M1) (hlen : Nat.ble S.length 8 = true) (hM : MetC y' [v1, v2] M none M1) (kk : SPW y t0 pc' L S M1 r Mf) : SPW y t0 pc L (v2 :: v1 :: S) M r Mf := r_callS_ (As := [v1, v2]) (r1 := none) hd hl ok sta hM rfl hcl (Nat.le_of_ble_eq_true hlen) kk
theorem r_S3W (hd : Dc y pc (.invokestatic idx) 3 pc') (hl : Cond.methodLink (mnm y).cls idx (mnm y') ∈ lw_g) (ok : mOK y' 3) (sta : Cond.static (mnm y') ∈ lw_g) (hcl : clOK y y' t0 M M1) (hlen : Nat.ble S.length 8 = true) (hM : MetC y' [v1, v2, v3] M (some w) M1) (kk : SPW y t0 pc' L (w :: S) M1 r Mf) : SPW y t0 pc L (v3 :: v2 :: v1 :: S) M r Mf := r_callS_ (As := [v1, v2, v3]) (r1 := (some w)) hd hl ok sta hM rfl hcl (Nat.le_of_ble_eq_true hlen) kk
theorem r_S3N (hd : Dc y pc (.invokestatic idx) 3 pc') (hl : Cond.methodLink (mnm y).cls idx (mnm y') ∈ lw_g) (ok : mOK y' 3) (sta : Cond.static (mnm y') ∈ lw_g) (hcl : clOK y y' t0 M M1) (hlen : Nat.ble S.length 8 = true) (hM : MetC y' [v1, v2, v3] M none M1) (kk : SPW y t0 pc' L S M1 r Mf) : SPW y t0 pc L (v3 :: v2 :: v1 :: S) M r Mf := r_callS_ (As := [v1, v2, v3]) (r1 := none) hd hl ok sta hM rfl hcl (Nat.le_of_ble_eq_true hlen) kk
theorem r_I0N (hd : Dc y pc (.invokespecial idx) 3 pc') (hl : Cond.methodLink (mnm y).cls idx (mnm y') ∈ lw_g) (ok : mOK y' 0) (inst : Cond.instanceMethod (mnm y') ∈ lw_g) (hy : (mnm y').name = "<init>" ∧ mrt y' = none) (hcl : clOK y y' t0 M M1) (hlen : Nat.ble S.length 8 = true) (hM : MetC y' [vR o] M none M1) (kk : SPW y t0 pc' L S M1 r Mf) : SPW y t0 pc L (vR o :: S) M r Mf := r_callI_ (As := []) (r1 := none) hd hl ok inst hy hM rfl hcl (Nat.le_of_ble_eq_true hlen) kk
theorem r_I1N (hd : Dc y pc (.invokespecial idx) 3 pc') (hl : Cond.methodLink (mnm y).cls idx (mnm y') ∈ lw_g) (ok : mOK y' 1) (inst : Cond.instanceMethod (mnm y') ∈ lw_g) (hy : (mnm y').name = "<init>" ∧ mrt y' = none) (hcl : clOK y y' t0 M M1) (hlen : Nat.ble S.length 8 = true) (hM : MetC y' [vR o, v1] M none M1) (kk : SPW y t0 pc' L S M1 r Mf) : SPW y t0 pc L (v1 :: vR o :: S) M r Mf := r_callI_ (As := [v1]) (r1 := none) hd hl ok inst hy hM rfl hcl (Nat.le_of_ble_eq_true hlen) kk
theorem r_I2N (hd : Dc y pc (.invokespecial idx) 3 pc') (hl : Cond.methodLink (mnm y).cls idx (mnm y') ∈ lw_g) (ok : mOK y' 2) (inst : Cond.instanceMethod (mnm y') ∈ lw_g) (hy : (mnm y').name = "<init>" ∧ mrt y' = none) (hcl : clOK y y' t0 M M1) (hlen : Nat.ble S.length 8 = true) (hM : MetC y' [vR o, v1, v2] M none M1) (kk : SPW y t0 pc' L S M1 r Mf) : SPW y t0 pc L (v2 :: v1 :: vR o :: S) M r Mf := r_callI_ (As := [v1, v2]) (r1 := none) hd hl ok inst hy hM rfl hcl (Nat.le_of_ble_eq_true hlen) kk
end RS

/-! rules that the law alone needs: masks, shifts, a constant; its small methods -/
theorem co_7 : Cond.constant "GuardedPoolLaw" 7 (2147483647 : Int32) ∈ lw_g := in_tbl 261 (by decide +kernel)
def shrI (x z : Int) : Int := (Int32.ofInt x >>> (Int32.ofInt z &&& 31)).toInt
section RL
variable {y : MI} {t0 pc pc' : Nat} {L : List (Option Vv)} {S : List Vv} {M Mf : Mm} {r : Option Vv}
theorem r_and1 {x : Int} (hd : Dc y pc .iand 1 pc') (kk : SPW y t0 pc' L (vI (x % 2) :: S) M r Mf) : SPW y t0 pc L (vI 1 :: vI x :: S) M r Mf := by
  intro G p l e s m args below meth c H locs ls Z C R Lk hS hV hfin
  obtain ⟨hd, rfl⟩ := hd
  have hx : rng x := vok_h (vok_t hS)
  have a1 : 0 ≤ x % 2 := Int.emod_nonneg x (by omega)
  have a2 : x % 2 < 2 := Int.emod_lt_of_pos x (by omega)
  have hq : rng (x % 2) := ⟨by omega, by omega⟩
  refine lv_iand C.1 C.2.1 hd ?_
  have e2 : Int32.ofInt x &&& Int32.ofInt 1 = Int32.ofInt (x % 2) := by
    rw [pk_and (Int32.ofInt x) (m := Int32.ofInt 1) 1 rfl]
    have e1 : (Int32.ofInt x).toBitVec.toNat = (x % 4294967296).toNat := by
      show (BitVec.ofInt 32 x).toNat = _
      rw [BitVec.toNat_ofInt]
      rfl
    rw [e1, oi_nI]
    congr 1
    omega
  rw [e2]
  exact kk G p l e s m args below meth c H locs ls Z C R Lk (vok_c (v := vI (x % 2)) hq (vok_t (vok_t hS))) hV hfin
theorem r_and3 {x : Int} (hd : Dc y pc .iand 1 pc') (kk : SPW y t0 pc' L (vI (x % 4) :: S) M r Mf) : SPW y t0 pc L (vI 3 :: vI x :: S) M r Mf := by
  intro G p l e s m args below meth c H locs ls Z C R Lk hS hV hfin
  obtain ⟨hd, rfl⟩ := hd
  have hx : rng x := vok_h (vok_t hS)
  have a1 : 0 ≤ x % 4 := Int.emod_nonneg x (by omega)
  have a2 : x % 4 < 4 := Int.emod_lt_of_pos x (by omega)
  have hq : rng (x % 4) := ⟨by omega, by omega⟩
  refine lv_iand C.1 C.2.1 hd ?_
  have e2 : Int32.ofInt x &&& Int32.ofInt 3 = Int32.ofInt (x % 4) := by
    rw [pk_and (Int32.ofInt x) (m := Int32.ofInt 3) 2 rfl]
    have e1 : (Int32.ofInt x).toBitVec.toNat = (x % 4294967296).toNat := by
      show (BitVec.ofInt 32 x).toNat = _
      rw [BitVec.toNat_ofInt]
      rfl
    rw [e1, oi_nI]
    congr 1
    omega
  rw [e2]
  exact kk G p l e s m args below meth c H locs ls Z C R Lk (vok_c (v := vI (x % 4)) hq (vok_t (vok_t hS))) hV hfin
theorem r_and7 {x : Int} (hd : Dc y pc .iand 1 pc') (kk : SPW y t0 pc' L (vI (x % 8) :: S) M r Mf) : SPW y t0 pc L (vI 7 :: vI x :: S) M r Mf := by
  intro G p l e s m args below meth c H locs ls Z C R Lk hS hV hfin
  obtain ⟨hd, rfl⟩ := hd
  have hx : rng x := vok_h (vok_t hS)
  have a1 : 0 ≤ x % 8 := Int.emod_nonneg x (by omega)
  have a2 : x % 8 < 8 := Int.emod_lt_of_pos x (by omega)
  have hq : rng (x % 8) := ⟨by omega, by omega⟩
  refine lv_iand C.1 C.2.1 hd ?_
  have e2 : Int32.ofInt x &&& Int32.ofInt 7 = Int32.ofInt (x % 8) := by
    rw [pk_and (Int32.ofInt x) (m := Int32.ofInt 7) 3 rfl]
    have e1 : (Int32.ofInt x).toBitVec.toNat = (x % 4294967296).toNat := by
      show (BitVec.ofInt 32 x).toNat = _
      rw [BitVec.toNat_ofInt]
      rfl
    rw [e1, oi_nI]
    congr 1
    omega
  rw [e2]
  exact kk G p l e s m args below meth c H locs ls Z C R Lk (vok_c (v := vI (x % 8)) hq (vok_t (vok_t hS))) hV hfin
theorem r_and15 {x : Int} (hd : Dc y pc .iand 1 pc') (kk : SPW y t0 pc' L (vI (x % 16) :: S) M r Mf) : SPW y t0 pc L (vI 15 :: vI x :: S) M r Mf := by
  intro G p l e s m args below meth c H locs ls Z C R Lk hS hV hfin
  obtain ⟨hd, rfl⟩ := hd
  have hx : rng x := vok_h (vok_t hS)
  have a1 : 0 ≤ x % 16 := Int.emod_nonneg x (by omega)
  have a2 : x % 16 < 16 := Int.emod_lt_of_pos x (by omega)
  have hq : rng (x % 16) := ⟨by omega, by omega⟩
  refine lv_iand C.1 C.2.1 hd ?_
  have e2 : Int32.ofInt x &&& Int32.ofInt 15 = Int32.ofInt (x % 16) := by
    rw [pk_and (Int32.ofInt x) (m := Int32.ofInt 15) 4 rfl]
    have e1 : (Int32.ofInt x).toBitVec.toNat = (x % 4294967296).toNat := by
      show (BitVec.ofInt 32 x).toNat = _
      rw [BitVec.toNat_ofInt]
      rfl
    rw [e1, oi_nI]
    congr 1
    omega
  rw [e2]
  exact kk G p l e s m args below meth c H locs ls Z C R Lk (vok_c (v := vI (x % 16)) hq (vok_t (vok_t hS))) hV hfin
theorem r_andM {x : Int} (hd : Dc y pc .iand 1 pc') (kk : SPW y t0 pc' L (vI (x % 2147483648) :: S) M r Mf) : SPW y t0 pc L (vI 2147483647 :: vI x :: S) M r Mf := by
  intro G p l e s m args below meth c H locs ls Z C R Lk hS hV hfin
  obtain ⟨hd, rfl⟩ := hd
  have hx : rng x := vok_h (vok_t hS)
  have a1 : 0 ≤ x % 2147483648 := Int.emod_nonneg x (by omega)
  have a2 : x % 2147483648 < 2147483648 := Int.emod_lt_of_pos x (by omega)
  have hq : rng (x % 2147483648) := ⟨by omega, by omega⟩
  refine lv_iand C.1 C.2.1 hd ?_
  have e2 : Int32.ofInt x &&& Int32.ofInt 2147483647 = Int32.ofInt (x % 2147483648) := by
    rw [pk_and (Int32.ofInt x) (m := Int32.ofInt 2147483647) 31 rfl]
    have e1 : (Int32.ofInt x).toBitVec.toNat = (x % 4294967296).toNat := by
      show (BitVec.ofInt 32 x).toNat = _
      rw [BitVec.toNat_ofInt]
      rfl
    rw [e1, oi_nI]
    congr 1
    omega
  rw [e2]
  exact kk G p l e s m args below meth c H locs ls Z C R Lk (vok_c (v := vI (x % 2147483648)) hq (vok_t (vok_t hS))) hV hfin
theorem r_ishr {x z : Int} (hd : Dc y pc .ishr 1 pc') (kk : SPW y t0 pc' L (vI (shrI x z) :: S) M r Mf) : SPW y t0 pc L (vI z :: vI x :: S) M r Mf := by
  intro G p l e s m args below meth c H locs ls Z C R Lk hS hV hfin
  obtain ⟨hd, rfl⟩ := hd
  refine lv_ishr C.1 C.2.1 hd ?_
  have e2 : Int32.ofInt x >>> (Int32.ofInt z &&& 31) = Int32.ofInt (shrI x z) := (oi_toInt _).symm
  rw [e2]
  exact kk G p l e s m args below meth c H locs ls Z C R Lk (vok_c (v := vI (shrI x z)) (rng_toInt _) (vok_t (vok_t hS))) hV hfin
theorem r_ldcI {idx : Nat} (hd : Dc y pc (.ldc idx) 2 pc') (hl : Cond.constant (mnm y).cls idx (2147483647 : Int32) ∈ lw_g) (kk : SPW y t0 pc' L (vI 2147483647 :: S) M r Mf) : SPW y t0 pc L S M r Mf := by
  intro G p l e s m args below meth c H locs ls Z C R Lk hS hV hfin
  obtain ⟨hd, rfl⟩ := hd
  exact lv_ldc C.1 C.2.1 C.2.2.2.1 (C.2.2.2.2.1 _ hl) hd (kk G p l e s m args below meth c H locs ls Z C R Lk (vok_c (v := vI 2147483647) ⟨by decide, by decide⟩ hS) hV hfin)
end RL
def lowV (v n : Int) : Int := v % 2147483648 % n
theorem lowV_rg {v n : Int} (hn : 0 < n) : 0 ≤ lowV v n ∧ lowV v n < n := ⟨Int.emod_nonneg _ (by omega), Int.emod_lt_of_pos _ hn⟩
def cellV (μ : Int → Int → Int) (k : Int) : Int := if k < μ (-1) (-1) then μ (-1) k else 7919 * (k + 3) * (k + 11)
theorem c_Law_low {μ : Int → Int → Int} {v n : Int} (hn : 0 < n) : MetC mi_Law_low [vI v, vI n] (st μ) (some (vI (lowV v n))) (st (μ)) := by
  refine met_of ?_ (Nat.le_of_ble_eq_true rfl) (by decide) trivial (by decide) (Nat.le_of_ble_eq_true rfl)
  show SPW mi_Law_low 219 0 [some (vI v), some (vI n)] [] (st μ) (some (vI (lowV v n))) (st (μ))
  refine r_iloadn dd_Law_low_0 rfl ?_
  refine r_ldcI dd_Law_low_1 co_7 ?_
  refine r_andM dd_Law_low_3 ?_
  refine r_iloadn dd_Law_low_4 rfl ?_
  refine r_irem dd_Law_low_5 (Int.emod_nonneg _ (by omega)) hn ?_
  exact r_retI dd_Law_low_6 (by first | rfl | omega | exact (b2_t (by first | assumption | omega)).symm | exact (b2_f (by first | assumption | omega)).symm) rfl
theorem c_Law_cell {μ : Int → Int → Int} {k : Int} (k0 : 0 ≤ k) (k1 : k ≤ 60) : MetC mi_Law_cell [vR (-1), vI k] (st μ) (some (vI (cellV μ k))) (st μ) := by
  refine met_of ?_ (Nat.le_of_ble_eq_true rfl) (by decide) trivial (by decide) (Nat.le_of_ble_eq_true rfl)
  show SPW mi_Law_cell 219 0 [some (vR (-1)), some (vI k)] [] (st μ) (some (vI (cellV μ k))) (st μ)
  unfold cellV
  have h1 : 0 ≤ 7919 * (k + 3) * (k + 11) := Int.mul_nonneg (by omega) (by omega)
  have h2 : 7919 * (k + 3) * (k + 11) ≤ 7919 * 63 * 71 := Int.mul_le_mul (by omega) (by omega) (by omega) (by omega)
  refine r_iloadn dd_Law_cell_0 rfl ?_
  refine r_aloadn dd_Law_cell_1 rfl ?_
  refine r_slen dd_Law_cell_2 ?_
  refine r_icmp_ge dd_Law_cell_3 (fun c_3 => ?_) (fun c_3 => ?_)
  · refine r_sip dd_Law_cell_12 ⟨by decide, by decide⟩ ?_
    refine r_iloadn dd_Law_cell_15 rfl ?_
    refine r_iconst dd_Law_cell_16 ⟨by decide, by decide⟩ ?_
    refine r_iadd dd_Law_cell_17 ⟨by omega, by omega⟩ ?_
    refine r_imul dd_Law_cell_18 ⟨by omega, by omega⟩ ?_
    refine r_iloadn dd_Law_cell_19 rfl ?_
    refine r_bip dd_Law_cell_20 ⟨by decide, by decide⟩ ?_
    refine r_iadd dd_Law_cell_22 ⟨by omega, by omega⟩ ?_
    refine r_imul dd_Law_cell_23 ⟨by omega, by omega⟩ ?_
    exact r_retI dd_Law_cell_24 (by first | rw [if_pos (by omega)] | rw [if_neg (by omega)]) rfl
  · refine r_aloadn dd_Law_cell_6 rfl ?_
    refine r_iloadn dd_Law_cell_7 rfl ?_
    refine r_sld dd_Law_cell_8 k0 (by omega) ?_
    refine r_goto dd_Law_cell_9 ?_
    exact r_retI dd_Law_cell_24 (by first | rw [if_pos (by omega)] | rw [if_neg (by omega)]) rfl

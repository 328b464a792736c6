/-! fields, by program; objects and references that are known by number -/
theorem i8_ok {n : Int} (h : -128 ≤ n ∧ n ≤ 127) : (Int8.ofInt n).toInt32 = Int32.ofInt n := by
  apply Int32.toInt_inj.mp
  rw [Int8.toInt_toInt32, Int8.toInt_ofInt, oi_t ⟨by omega, by omega⟩]
  exact Int.bmod_eq_of_le (by simp [Int8.size]; omega) (by simp [Int8.size]; omega)
theorem i16_ok {n : Int} (h : -32768 ≤ n ∧ n ≤ 32767) : (Int16.ofInt n).toInt32 = Int32.ofInt n := by
  apply Int32.toInt_inj.mp
  rw [Int16.toInt_toInt32, Int16.toInt_ofInt, oi_t ⟨by omega, by omega⟩]
  exact Int.bmod_eq_of_le (by simp [Int16.size]; omega) (by simp [Int16.size]; omega)
def p4 (z : Int) : Int := if z = 0 then 4 else if z = 1 then 8 else 16
section RB
variable {y : MI} {t0 pc pc' : Nat} {L : List (Option Vv)} {S : List Vv} {M Mf : Mm} {r : Option Vv}
theorem r_bip {n : Int} (hd : Dc y pc (.bipush n) 2 pc') (h : -128 ≤ n ∧ n ≤ 127) (kk : SPW y t0 pc' L (vI n :: S) M r Mf) : SPW y t0 pc L S M r Mf := r_bipush hd ⟨by omega, by omega⟩ (i8_ok h) kk
theorem r_sip {n : Int} (hd : Dc y pc (.sipush n) 3 pc') (h : -32768 ≤ n ∧ n ≤ 32767) (kk : SPW y t0 pc' L (vI n :: S) M r Mf) : SPW y t0 pc L S M r Mf := r_sipush hd ⟨by omega, by omega⟩ (i16_ok h) kk
theorem r_loc (kk : SPW y t0 pc L S M r Mf) {L2 : List (Option Vv)} (h : L2 = L) : SPW y t0 pc L2 S M r Mf := by rw [h]; exact kk
/-- 4, shifted by a size -/
theorem r_shl4 {z : Int} (hd : Dc y pc .ishl 1 pc') (hz : 0 ≤ z ∧ z ≤ 2) (kk : SPW y t0 pc' L (vI (p4 z) :: S) M r Mf) : SPW y t0 pc L (vI z :: vI 4 :: S) M r Mf := by
  rcases (show z = 0 ∨ z = 1 ∨ z = 2 by omega) with rfl | rfl | rfl
  · exact r_ishl (a := 4) (k := 0) hd (by decide) (by decide) kk
  · exact r_ishl (a := 4) (k := 1) hd (by decide) (by decide) kk
  · exact r_ishl (a := 4) (k := 2) hd (by decide) (by decide) kk
/-- a local that is not read again may be forgotten -/
theorem r_drop (i : Nat) (kk : SPW y t0 pc (L.set i none) S M r Mf) : SPW y t0 pc L S M r Mf := by
  intro G p l e s m args below meth c H locs ls Z C R Lk hS hV hfin
  refine kk G p l e s m args below meth c H locs ls Z C R ⟨Lk.1, Lk.2.1, by rw [List.length_set]; exact Lk.2.2.1, fun j v h => ?_⟩ hS hV hfin
  rw [List.getElem?_set] at h
  by_cases e : i = j
  · rw [if_pos e] at h
    split at h <;> cases h
  · rw [if_neg e] at h
    exact Lk.2.2.2 j v h
theorem r_tabAt {x c dflt lo hi off : Int} {offs : Array Int} {len tgt : Nat} (hd : decode (mbc y) pc = .ok (.tableswitch dflt lo hi offs, len)) (hx : x = c) (h1 : lo ≤ c ∧ c ≤ hi) (ho : offs[(c - lo).toNat]? = some off) (ht : (pc : Int) + off = (tgt : Int)) (kk : SPW y t0 tgt L S M r Mf) : SPW y t0 pc L (vI x :: S) M r Mf := r_tabIn hd (by omega) (by omega) (by rw [hx]; exact ho) ht kk
theorem r_lookAt {x c dflt off : Int} {ps : Array (Int × Int)} {len tgt : Nat} (hd : decode (mbc y) pc = .ok (.lookupswitch dflt ps, len)) (hx : x = c) (hp : (ps.toList.zip (ps.toList.drop 1)).all (fun (a, next) => a.1 < next.1) = true) (ho : Op.lookupswitch.offset ps.toList dflt c = off) (ht : (pc : Int) + off = (tgt : Int)) (kk : SPW y t0 tgt L S M r Mf) : SPW y t0 pc L (vI x :: S) M r Mf := r_look hd hp (by rw [hx]; exact ho) ht kk
end RB
theorem fc_Blk_0 : 0 < 7 ∧ 0 < nfd 0 := by decide +kernel
theorem ff_Blk_0 : (Tcl 0 0).2.2.2 = true := by decide +kernel
theorem fi_Blk_0 : 0 < 7 ∧ 0 < nfd 0 ∧ tyk 0 0 ≠ 2 := by decide +kernel
theorem pi_Blk_0 (x : Int) : putOK 0 0 x := Or.inl (by decide +kernel)
theorem fc_Blk_1 : 0 < 7 ∧ 1 < nfd 0 := by decide +kernel
theorem ff_Blk_1 : (Tcl 0 1).2.2.2 = false := by decide +kernel
theorem fi_Blk_1 : 0 < 7 ∧ 1 < nfd 0 ∧ tyk 0 1 ≠ 2 := by decide +kernel
theorem pi_Blk_1 (x : Int) : putOK 0 1 x := Or.inl (by decide +kernel)
theorem fc_Blk_2 : 0 < 7 ∧ 2 < nfd 0 := by decide +kernel
theorem ff_Blk_2 : (Tcl 0 2).2.2.2 = false := by decide +kernel
theorem fi_Blk_2 : 0 < 7 ∧ 2 < nfd 0 ∧ tyk 0 2 ≠ 2 := by decide +kernel
theorem pi_Blk_2 (x : Int) : putOK 0 2 x := Or.inl (by decide +kernel)
theorem fc_Blk_3 : 0 < 7 ∧ 3 < nfd 0 := by decide +kernel
theorem ff_Blk_3 : (Tcl 0 3).2.2.2 = false := by decide +kernel
theorem fi_Blk_3 : 0 < 7 ∧ 3 < nfd 0 ∧ tyk 0 3 ≠ 2 := by decide +kernel
theorem pi_Blk_3 (x : Int) : putOK 0 3 x := Or.inl (by decide +kernel)
theorem fc_Blk_4 : 0 < 7 ∧ 4 < nfd 0 := by decide +kernel
theorem ff_Blk_4 : (Tcl 0 4).2.2.2 = false := by decide +kernel
theorem fi_Blk_4 : 0 < 7 ∧ 4 < nfd 0 ∧ tyk 0 4 ≠ 2 := by decide +kernel
theorem pi_Blk_4 (x : Int) : putOK 0 4 x := Or.inl (by decide +kernel)
theorem fc_Blk_5 : 0 < 7 ∧ 5 < nfd 0 := by decide +kernel
theorem ff_Blk_5 : (Tcl 0 5).2.2.2 = false := by decide +kernel
theorem fi_Blk_5 : 0 < 7 ∧ 5 < nfd 0 ∧ tyk 0 5 ≠ 2 := by decide +kernel
theorem pi_Blk_5 (x : Int) : putOK 0 5 x := Or.inl (by decide +kernel)
theorem fc_Cmd_0 : 1 < 7 ∧ 0 < nfd 1 := by decide +kernel
theorem ff_Cmd_0 : (Tcl 1 0).2.2.2 = false := by decide +kernel
theorem fi_Cmd_0 : 1 < 7 ∧ 0 < nfd 1 ∧ tyk 1 0 ≠ 2 := by decide +kernel
theorem pi_Cmd_0 (x : Int) : putOK 1 0 x := Or.inl (by decide +kernel)
theorem fc_Cmd_1 : 1 < 7 ∧ 1 < nfd 1 := by decide +kernel
theorem ff_Cmd_1 : (Tcl 1 1).2.2.2 = false := by decide +kernel
theorem fi_Cmd_1 : 1 < 7 ∧ 1 < nfd 1 ∧ tyk 1 1 ≠ 2 := by decide +kernel
theorem pi_Cmd_1 (x : Int) : putOK 1 1 x := Or.inl (by decide +kernel)
theorem fc_Cmd_2 : 1 < 7 ∧ 2 < nfd 1 := by decide +kernel
theorem ff_Cmd_2 : (Tcl 1 2).2.2.2 = false := by decide +kernel
theorem fi_Cmd_2 : 1 < 7 ∧ 2 < nfd 1 ∧ tyk 1 2 ≠ 2 := by decide +kernel
theorem pi_Cmd_2 (x : Int) : putOK 1 2 x := Or.inl (by decide +kernel)
theorem fc_His_0 : 2 < 7 ∧ 0 < nfd 2 := by decide +kernel
theorem ff_His_0 : (Tcl 2 0).2.2.2 = true := by decide +kernel
theorem fr_His_0 : 2 < 7 ∧ 0 < nfd 2 ∧ tyk 2 0 = 2 := by decide +kernel
theorem pr_His_0 : putRK 2 0 := Or.inr ⟨(.object "GuardedPool$State"), by decide +kernel⟩
theorem fc_His_1 : 2 < 7 ∧ 1 < nfd 2 := by decide +kernel
theorem ff_His_1 : (Tcl 2 1).2.2.2 = false := by decide +kernel
theorem fi_His_1 : 2 < 7 ∧ 1 < nfd 2 ∧ tyk 2 1 ≠ 2 := by decide +kernel
theorem pi_His_1 (x : Int) : putOK 2 1 x := Or.inl (by decide +kernel)
theorem fc_His_2 : 2 < 7 ∧ 2 < nfd 2 := by decide +kernel
theorem ff_His_2 : (Tcl 2 2).2.2.2 = false := by decide +kernel
theorem fi_His_2 : 2 < 7 ∧ 2 < nfd 2 ∧ tyk 2 2 ≠ 2 := by decide +kernel
theorem pi_His_2 (x : Int) : putOK 2 2 x := Or.inl (by decide +kernel)
theorem fc_Sta_0 : 3 < 7 ∧ 0 < nfd 3 := by decide +kernel
theorem ff_Sta_0 : (Tcl 3 0).2.2.2 = true := by decide +kernel
theorem fr_Sta_0 : 3 < 7 ∧ 0 < nfd 3 ∧ tyk 3 0 = 2 := by decide +kernel
theorem pr_Sta_0 : putRK 3 0 := Or.inr ⟨(.object "GuardedPool$Block"), by decide +kernel⟩
theorem fc_Sta_1 : 3 < 7 ∧ 1 < nfd 3 := by decide +kernel
theorem ff_Sta_1 : (Tcl 3 1).2.2.2 = true := by decide +kernel
theorem fr_Sta_1 : 3 < 7 ∧ 1 < nfd 3 ∧ tyk 3 1 = 2 := by decide +kernel
theorem pr_Sta_1 : putRK 3 1 := Or.inr ⟨.int, by decide +kernel⟩
theorem fc_Sta_2 : 3 < 7 ∧ 2 < nfd 3 := by decide +kernel
theorem ff_Sta_2 : (Tcl 3 2).2.2.2 = true := by decide +kernel
theorem fr_Sta_2 : 3 < 7 ∧ 2 < nfd 3 ∧ tyk 3 2 = 2 := by decide +kernel
theorem pr_Sta_2 : putRK 3 2 := Or.inr ⟨(.object "GuardedPool$Task"), by decide +kernel⟩
theorem fc_Sta_3 : 3 < 7 ∧ 3 < nfd 3 := by decide +kernel
theorem ff_Sta_3 : (Tcl 3 3).2.2.2 = false := by decide +kernel
theorem fi_Sta_3 : 3 < 7 ∧ 3 < nfd 3 ∧ tyk 3 3 ≠ 2 := by decide +kernel
theorem pi_Sta_3 (x : Int) : putOK 3 3 x := Or.inl (by decide +kernel)
theorem fc_Sta_4 : 3 < 7 ∧ 4 < nfd 3 := by decide +kernel
theorem ff_Sta_4 : (Tcl 3 4).2.2.2 = false := by decide +kernel
theorem fi_Sta_4 : 3 < 7 ∧ 4 < nfd 3 ∧ tyk 3 4 ≠ 2 := by decide +kernel
theorem pi_Sta_4 (x : Int) : putOK 3 4 x := Or.inl (by decide +kernel)
theorem fc_Sta_5 : 3 < 7 ∧ 5 < nfd 3 := by decide +kernel
theorem ff_Sta_5 : (Tcl 3 5).2.2.2 = false := by decide +kernel
theorem fi_Sta_5 : 3 < 7 ∧ 5 < nfd 3 ∧ tyk 3 5 ≠ 2 := by decide +kernel
theorem pi_Sta_5 (x : Int) : putOK 3 5 x := Or.inl (by decide +kernel)
theorem fc_Sta_6 : 3 < 7 ∧ 6 < nfd 3 := by decide +kernel
theorem ff_Sta_6 : (Tcl 3 6).2.2.2 = false := by decide +kernel
theorem fi_Sta_6 : 3 < 7 ∧ 6 < nfd 3 ∧ tyk 3 6 ≠ 2 := by decide +kernel
theorem pi_Sta_6 (x : Int) : putOK 3 6 x := Or.inl (by decide +kernel)
theorem fc_Sta_7 : 3 < 7 ∧ 7 < nfd 3 := by decide +kernel
theorem ff_Sta_7 : (Tcl 3 7).2.2.2 = false := by decide +kernel
theorem fi_Sta_7 : 3 < 7 ∧ 7 < nfd 3 ∧ tyk 3 7 ≠ 2 := by decide +kernel
theorem pi_Sta_7 (x : Int) : putOK 3 7 x := Or.inl (by decide +kernel)
theorem fc_Sta_8 : 3 < 7 ∧ 8 < nfd 3 := by decide +kernel
theorem ff_Sta_8 : (Tcl 3 8).2.2.2 = false := by decide +kernel
theorem fi_Sta_8 : 3 < 7 ∧ 8 < nfd 3 ∧ tyk 3 8 ≠ 2 := by decide +kernel
theorem pi_Sta_8 (x : Int) : putOK 3 8 x := Or.inl (by decide +kernel)
theorem fc_Tsk_0 : 4 < 7 ∧ 0 < nfd 4 := by decide +kernel
theorem ff_Tsk_0 : (Tcl 4 0).2.2.2 = false := by decide +kernel
theorem fi_Tsk_0 : 4 < 7 ∧ 0 < nfd 4 ∧ tyk 4 0 ≠ 2 := by decide +kernel
theorem pb_Tsk_0 {x : Int} (h : x = 0 ∨ x = 1) : putOK 4 0 x := Or.inr ⟨by decide +kernel, by decide +kernel, h⟩
theorem fc_Tsk_1 : 4 < 7 ∧ 1 < nfd 4 := by decide +kernel
theorem ff_Tsk_1 : (Tcl 4 1).2.2.2 = false := by decide +kernel
theorem fi_Tsk_1 : 4 < 7 ∧ 1 < nfd 4 ∧ tyk 4 1 ≠ 2 := by decide +kernel
theorem pi_Tsk_1 (x : Int) : putOK 4 1 x := Or.inl (by decide +kernel)
theorem fc_Tsk_2 : 4 < 7 ∧ 2 < nfd 4 := by decide +kernel
theorem ff_Tsk_2 : (Tcl 4 2).2.2.2 = false := by decide +kernel
theorem fi_Tsk_2 : 4 < 7 ∧ 2 < nfd 4 ∧ tyk 4 2 ≠ 2 := by decide +kernel
theorem pi_Tsk_2 (x : Int) : putOK 4 2 x := Or.inl (by decide +kernel)
theorem fc_Txt_0 : 5 < 7 ∧ 0 < nfd 5 := by decide +kernel
theorem ff_Txt_0 : (Tcl 5 0).2.2.2 = true := by decide +kernel
theorem fr_Txt_0 : 5 < 7 ∧ 0 < nfd 5 ∧ tyk 5 0 = 2 := by decide +kernel
theorem pr_Txt_0 : putRK 5 0 := Or.inr ⟨.char, by decide +kernel⟩
theorem fc_Txt_1 : 5 < 7 ∧ 1 < nfd 5 := by decide +kernel
theorem ff_Txt_1 : (Tcl 5 1).2.2.2 = false := by decide +kernel
theorem fi_Txt_1 : 5 < 7 ∧ 1 < nfd 5 ∧ tyk 5 1 ≠ 2 := by decide +kernel
theorem pi_Txt_1 (x : Int) : putOK 5 1 x := Or.inl (by decide +kernel)
theorem fc_Txt_2 : 5 < 7 ∧ 2 < nfd 5 := by decide +kernel
theorem ff_Txt_2 : (Tcl 5 2).2.2.2 = true := by decide +kernel
theorem fr_Txt_2 : 5 < 7 ∧ 2 < nfd 5 ∧ tyk 5 2 = 2 := by decide +kernel
theorem pr_Txt_2 : putRK 5 2 := Or.inr ⟨(.object "GuardedPool$Command"), by decide +kernel⟩
theorem fc_Txt_3 : 5 < 7 ∧ 3 < nfd 5 := by decide +kernel
theorem ff_Txt_3 : (Tcl 5 3).2.2.2 = false := by decide +kernel
theorem fi_Txt_3 : 5 < 7 ∧ 3 < nfd 5 ∧ tyk 5 3 ≠ 2 := by decide +kernel
theorem pi_Txt_3 (x : Int) : putOK 5 3 x := Or.inl (by decide +kernel)
theorem fc_Txt_4 : 5 < 7 ∧ 4 < nfd 5 := by decide +kernel
theorem ff_Txt_4 : (Tcl 5 4).2.2.2 = false := by decide +kernel
theorem fi_Txt_4 : 5 < 7 ∧ 4 < nfd 5 ∧ tyk 5 4 ≠ 2 := by decide +kernel
theorem pi_Txt_4 (x : Int) : putOK 5 4 x := Or.inl (by decide +kernel)
theorem fc_Txt_5 : 5 < 7 ∧ 5 < nfd 5 := by decide +kernel
theorem ff_Txt_5 : (Tcl 5 5).2.2.2 = false := by decide +kernel
theorem fi_Txt_5 : 5 < 7 ∧ 5 < nfd 5 ∧ tyk 5 5 ≠ 2 := by decide +kernel
theorem pb_Txt_5 {x : Int} (h : x = 0 ∨ x = 1) : putOK 5 5 x := Or.inr ⟨by decide +kernel, by decide +kernel, h⟩
theorem fc_Poo_0 : 6 < 7 ∧ 0 < nfd 6 := by decide +kernel
theorem ff_Poo_0 : (Tcl 6 0).2.2.2 = true := by decide +kernel
theorem fr_Poo_0 : 6 < 7 ∧ 0 < nfd 6 ∧ tyk 6 0 = 2 := by decide +kernel
theorem pr_Poo_0 : putRK 6 0 := Or.inl ⟨"GuardedPool$State", by decide +kernel⟩
theorem fc_Poo_1 : 6 < 7 ∧ 1 < nfd 6 := by decide +kernel
theorem ff_Poo_1 : (Tcl 6 1).2.2.2 = true := by decide +kernel
theorem fr_Poo_1 : 6 < 7 ∧ 1 < nfd 6 ∧ tyk 6 1 = 2 := by decide +kernel
theorem pr_Poo_1 : putRK 6 1 := Or.inl ⟨"GuardedPool$State", by decide +kernel⟩
theorem fc_Poo_2 : 6 < 7 ∧ 2 < nfd 6 := by decide +kernel
theorem ff_Poo_2 : (Tcl 6 2).2.2.2 = true := by decide +kernel
theorem fr_Poo_2 : 6 < 7 ∧ 2 < nfd 6 ∧ tyk 6 2 = 2 := by decide +kernel
theorem pr_Poo_2 : putRK 6 2 := Or.inl ⟨"GuardedPool$State", by decide +kernel⟩
theorem fc_Poo_3 : 6 < 7 ∧ 3 < nfd 6 := by decide +kernel
theorem ff_Poo_3 : (Tcl 6 3).2.2.2 = false := by decide +kernel
theorem fi_Poo_3 : 6 < 7 ∧ 3 < nfd 6 ∧ tyk 6 3 ≠ 2 := by decide +kernel
theorem pb_Poo_3 {x : Int} (h : x = 0 ∨ x = 1) : putOK 6 3 x := Or.inr ⟨by decide +kernel, by decide +kernel, h⟩
theorem fc_Poo_4 : 6 < 7 ∧ 4 < nfd 6 := by decide +kernel
theorem ff_Poo_4 : (Tcl 6 4).2.2.2 = true := by decide +kernel
theorem fr_Poo_4 : 6 < 7 ∧ 4 < nfd 6 ∧ tyk 6 4 = 2 := by decide +kernel
theorem pr_Poo_4 : putRK 6 4 := Or.inl ⟨"GuardedPool$History", by decide +kernel⟩
theorem fc_Poo_5 : 6 < 7 ∧ 5 < nfd 6 := by decide +kernel
theorem ff_Poo_5 : (Tcl 6 5).2.2.2 = true := by decide +kernel
theorem fr_Poo_5 : 6 < 7 ∧ 5 < nfd 6 ∧ tyk 6 5 = 2 := by decide +kernel
theorem pr_Poo_5 : putRK 6 5 := Or.inl ⟨"GuardedPool$Text", by decide +kernel⟩
theorem fc_Poo_6 : 6 < 7 ∧ 6 < nfd 6 := by decide +kernel
theorem ff_Poo_6 : (Tcl 6 6).2.2.2 = true := by decide +kernel
theorem fr_Poo_6 : 6 < 7 ∧ 6 < nfd 6 ∧ tyk 6 6 = 2 := by decide +kernel
theorem pr_Poo_6 : putRK 6 6 := Or.inr ⟨.int, by decide +kernel⟩
theorem fc_Poo_7 : 6 < 7 ∧ 7 < nfd 6 := by decide +kernel
theorem ff_Poo_7 : (Tcl 6 7).2.2.2 = false := by decide +kernel
theorem fi_Poo_7 : 6 < 7 ∧ 7 < nfd 6 ∧ tyk 6 7 ≠ 2 := by decide +kernel
theorem pb_Poo_7 {x : Int} (h : x = 0 ∨ x = 1) : putOK 6 7 x := Or.inr ⟨by decide +kernel, by decide +kernel, h⟩
theorem fc_Poo_8 : 6 < 7 ∧ 8 < nfd 6 := by decide +kernel
theorem ff_Poo_8 : (Tcl 6 8).2.2.2 = false := by decide +kernel
theorem fi_Poo_8 : 6 < 7 ∧ 8 < nfd 6 ∧ tyk 6 8 ≠ 2 := by decide +kernel
theorem pi_Poo_8 (x : Int) : putOK 6 8 x := Or.inl (by decide +kernel)
theorem fc_Poo_9 : 6 < 7 ∧ 9 < nfd 6 := by decide +kernel
theorem ff_Poo_9 : (Tcl 6 9).2.2.2 = false := by decide +kernel
theorem fi_Poo_9 : 6 < 7 ∧ 9 < nfd 6 ∧ tyk 6 9 ≠ 2 := by decide +kernel
theorem pi_Poo_9 (x : Int) : putOK 6 9 x := Or.inl (by decide +kernel)
theorem vk_0 : vk 219 0 6 := ⟨by decide, by decide, by decide⟩
theorem R0_0_0 : R0 0 0 = some 1 := by decide
theorem R0_0_1 : R0 0 1 = some 27 := by decide
theorem R0_0_2 : R0 0 2 = some 53 := by decide
theorem R0_0_4 : R0 0 4 = some 79 := by decide
theorem R0_0_5 : R0 0 5 = some 185 := by decide
theorem R0_0_6 : R0 0 6 = some 218 := by decide
theorem vk_1 : vk 219 1 3 := ⟨by decide, by decide, by decide⟩
theorem R0_1_0 : R0 1 0 = some 2 := by decide
theorem R0_1_1 : R0 1 1 = some 19 := by decide
theorem R0_1_2 : R0 1 2 = some 20 := by decide
theorem vk_2 : vk 219 2 17 := ⟨by decide, by decide, by decide⟩
theorem vk_19 : vk 219 19 10 := ⟨by decide, by decide, by decide⟩
theorem vk_20 : vk 219 20 18 := ⟨by decide, by decide, by decide⟩
theorem vk_27 : vk 219 27 3 := ⟨by decide, by decide, by decide⟩
theorem R0_27_0 : R0 27 0 = some 28 := by decide
theorem R0_27_1 : R0 27 1 = some 45 := by decide
theorem R0_27_2 : R0 27 2 = some 46 := by decide
theorem vk_28 : vk 219 28 17 := ⟨by decide, by decide, by decide⟩
theorem vk_45 : vk 219 45 10 := ⟨by decide, by decide, by decide⟩
theorem vk_46 : vk 219 46 18 := ⟨by decide, by decide, by decide⟩
theorem vk_53 : vk 219 53 3 := ⟨by decide, by decide, by decide⟩
theorem R0_53_0 : R0 53 0 = some 54 := by decide
theorem R0_53_1 : R0 53 1 = some 71 := by decide
theorem R0_53_2 : R0 53 2 = some 72 := by decide
theorem vk_54 : vk 219 54 17 := ⟨by decide, by decide, by decide⟩
theorem vk_71 : vk 219 71 10 := ⟨by decide, by decide, by decide⟩
theorem vk_72 : vk 219 72 18 := ⟨by decide, by decide, by decide⟩
theorem vk_79 : vk 219 79 2 := ⟨by decide, by decide, by decide⟩
theorem R0_79_0 : R0 79 0 = some 80 := by decide
theorem vk_80 : vk 219 80 19 := ⟨by decide, by decide, by decide⟩
theorem vk_185 : vk 219 185 5 := ⟨by decide, by decide, by decide⟩
theorem R0_185_0 : R0 185 0 = some 186 := by decide
theorem R0_185_2 : R0 185 2 = some 187 := by decide
theorem vk_186 : vk 219 186 16 := ⟨by decide, by decide, by decide⟩
theorem vk_187 : vk 219 187 20 := ⟨by decide, by decide, by decide⟩
theorem vk_218 : vk 219 218 11 := ⟨by decide, by decide, by decide⟩

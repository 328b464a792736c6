/-! fields, by program; objects and references that are known by number -/
theorem i8_ok {n : Int} (h : -128 ≤ n ∧ n ≤ 127) : (Int8.ofInt n).toInt32 = Int32.ofInt n := by
  apply Int32.toInt_inj.mp
  rw [Int8.toInt_toInt32, Int8.toInt_ofInt, oi_t ⟨by omega, by omega⟩]
  exact Int.bmod_eq_of_le (by simp [Int8.size]; omega) (by simp [Int8.size]; omega)
theorem i16_ok {n : Int} (h : -32768 ≤ n ∧ n ≤ 32767) : (Int16.ofInt n).toInt32 = Int32.ofInt n := by
  apply Int32.toInt_inj.mp
  rw [Int16.toInt_toInt32, Int16.toInt_ofInt, oi_t ⟨by omega, by omega⟩]
  exact Int.bmod_eq_of_le (by simp [Int16.size]; omega) (by simp [Int16.size]; omega)
def p4 (z : Int) : Int := if z = 0 then 4 else if z = 1 then 8 else 16
section RB
variable {y : MI} {t0 pc pc' : Nat} {L : List (Option Vv)} {S : List Vv} {M Mf : Mm} {r : Option Vv}
theorem r_bip {n : Int} (hd : Dc y pc (.bipush n) 2 pc') (h : -128 ≤ n ∧ n ≤ 127) (kk : SPW y t0 pc' L (vI n :: S) M r Mf) : SPW y t0 pc L S M r Mf := r_bipush hd ⟨by omega, by omega⟩ (i8_ok h) kk
theorem r_sip {n : Int} (hd : Dc y pc (.sipush n) 3 pc') (h : -32768 ≤ n ∧ n ≤ 32767) (kk : SPW y t0 pc' L (vI n :: S) M r Mf) : SPW y t0 pc L S M r Mf := r_sipush hd ⟨by omega, by omega⟩ (i16_ok h) kk
theorem r_loc (kk : SPW y t0 pc L S M r Mf) {L2 : List (Option Vv)} (h : L2 = L) : SPW y t0 pc L2 S M r Mf := by rw [h]; exact kk
/-- 4, shifted by a size -/
theorem r_shl4 {z : Int} (hd : Dc y pc .ishl 1 pc') (hz : 0 ≤ z ∧ z ≤ 2) (kk : SPW y t0 pc' L (vI (p4 z) :: S) M r Mf) : SPW y t0 pc L (vI z :: vI 4 :: S) M r Mf := by
  rcases (show z = 0 ∨ z = 1 ∨ z = 2 by omega) with rfl | rfl | rfl
  · exact r_ishl (a := 4) (k := 0) hd (by decide) (by decide) kk
  · exact r_ishl (a := 4) (k := 1) hd (by decide) (by decide) kk
  · exact r_ishl (a := 4) (k := 2) hd (by decide) (by decide) kk
/-- a local that is not read again may be forgotten -/
theorem r_drop (i : Nat) (kk : SPW y t0 pc (L.set i none) S M r Mf) : SPW y t0 pc L S M r Mf := by
  intro G p l e s m args below meth c H locs ls Z C R Lk hS hV hfin
  refine kk G p l e s m args below meth c H locs ls Z C R ⟨Lk.1, Lk.2.1, by rw [List.length_set]; exact Lk.2.2.1, fun j v h => ?_⟩ hS hV hfin
  rw [List.getElem?_set] at h
  by_cases e : i = j
  · rw [if_pos e] at h
    split at h <;> cases h
  · rw [if_neg e] at h
    exact Lk.2.2.2 j v h
theorem r_tabAt {x c dflt lo hi off : Int} {offs : Array Int} {len tgt : Nat} (hd : decode (mbc y) pc = .ok (.tableswitch dflt lo hi offs, len)) (hx : x = c) (h1 : lo ≤ c ∧ c ≤ hi) (ho : offs[(c - lo).toNat]? = some off) (ht : (pc : Int) + off = (tgt : Int)) (kk : SPW y t0 tgt L S M r Mf) : SPW y t0 pc L (vI x :: S) M r Mf := r_tabIn hd (by omega) (by omega) (by rw [hx]; exact ho) ht kk
theorem r_lookAt {x c dflt off : Int} {ps : Array (Int × Int)} {len tgt : Nat} (hd : decode (mbc y) pc = .ok (.lookupswitch dflt ps, len)) (hx : x = c) (hp : (ps.toList.zip (ps.toList.drop 1)).all (fun (a, next) => a.1 < next.1) = true) (ho : Op.lookupswitch.offset ps.toList dflt c = off) (ht : (pc : Int) + off = (tgt : Int)) (kk : SPW y t0 tgt L S M r Mf) : SPW y t0 pc L (vI x :: S) M r Mf := r_look hd hp (by rw [hx]; exact ho) ht kk
end RB
theorem fc_Blk_0 : 0 < 8 ∧ 0 < nfd 0 := by decide +kernel
theorem ff_Blk_0 : (Tcl 0 0).2.2.2 = true := by decide +kernel
theorem fi_Blk_0 : 0 < 8 ∧ 0 < nfd 0 ∧ tyk 0 0 ≠ 2 := by decide +kernel
theorem pi_Blk_0 (x : Int) : putOK 0 0 x := Or.inl (by decide +kernel)
theorem fc_Blk_1 : 0 < 8 ∧ 1 < nfd 0 := by decide +kernel
theorem ff_Blk_1 : (Tcl 0 1).2.2.2 = false := by decide +kernel
theorem fi_Blk_1 : 0 < 8 ∧ 1 < nfd 0 ∧ tyk 0 1 ≠ 2 := by decide +kernel
theorem pi_Blk_1 (x : Int) : putOK 0 1 x := Or.inl (by decide +kernel)
theorem fc_Blk_2 : 0 < 8 ∧ 2 < nfd 0 := by decide +kernel
theorem ff_Blk_2 : (Tcl 0 2).2.2.2 = false := by decide +kernel
theorem fi_Blk_2 : 0 < 8 ∧ 2 < nfd 0 ∧ tyk 0 2 ≠ 2 := by decide +kernel
theorem pi_Blk_2 (x : Int) : putOK 0 2 x := Or.inl (by decide +kernel)
theorem fc_Blk_3 : 0 < 8 ∧ 3 < nfd 0 := by decide +kernel
theorem ff_Blk_3 : (Tcl 0 3).2.2.2 = false := by decide +kernel
theorem fi_Blk_3 : 0 < 8 ∧ 3 < nfd 0 ∧ tyk 0 3 ≠ 2 := by decide +kernel
theorem pi_Blk_3 (x : Int) : putOK 0 3 x := Or.inl (by decide +kernel)
theorem fc_Blk_4 : 0 < 8 ∧ 4 < nfd 0 := by decide +kernel
theorem ff_Blk_4 : (Tcl 0 4).2.2.2 = false := by decide +kernel
theorem fi_Blk_4 : 0 < 8 ∧ 4 < nfd 0 ∧ tyk 0 4 ≠ 2 := by decide +kernel
theorem pi_Blk_4 (x : Int) : putOK 0 4 x := Or.inl (by decide +kernel)
theorem fc_Blk_5 : 0 < 8 ∧ 5 < nfd 0 := by decide +kernel
theorem ff_Blk_5 : (Tcl 0 5).2.2.2 = false := by decide +kernel
theorem fi_Blk_5 : 0 < 8 ∧ 5 < nfd 0 ∧ tyk 0 5 ≠ 2 := by decide +kernel
theorem pi_Blk_5 (x : Int) : putOK 0 5 x := Or.inl (by decide +kernel)
theorem fc_Cmd_0 : 1 < 8 ∧ 0 < nfd 1 := by decide +kernel
theorem ff_Cmd_0 : (Tcl 1 0).2.2.2 = false := by decide +kernel
theorem fi_Cmd_0 : 1 < 8 ∧ 0 < nfd 1 ∧ tyk 1 0 ≠ 2 := by decide +kernel
theorem pi_Cmd_0 (x : Int) : putOK 1 0 x := Or.inl (by decide +kernel)
theorem fc_Cmd_1 : 1 < 8 ∧ 1 < nfd 1 := by decide +kernel
theorem ff_Cmd_1 : (Tcl 1 1).2.2.2 = false := by decide +kernel
theorem fi_Cmd_1 : 1 < 8 ∧ 1 < nfd 1 ∧ tyk 1 1 ≠ 2 := by decide +kernel
theorem pi_Cmd_1 (x : Int) : putOK 1 1 x := Or.inl (by decide +kernel)
theorem fc_Cmd_2 : 1 < 8 ∧ 2 < nfd 1 := by decide +kernel
theorem ff_Cmd_2 : (Tcl 1 2).2.2.2 = false := by decide +kernel
theorem fi_Cmd_2 : 1 < 8 ∧ 2 < nfd 1 ∧ tyk 1 2 ≠ 2 := by decide +kernel
theorem pi_Cmd_2 (x : Int) : putOK 1 2 x := Or.inl (by decide +kernel)
theorem fc_His_0 : 2 < 8 ∧ 0 < nfd 2 := by decide +kernel
theorem ff_His_0 : (Tcl 2 0).2.2.2 = true := by decide +kernel
theorem fr_His_0 : 2 < 8 ∧ 0 < nfd 2 ∧ tyk 2 0 = 2 := by decide +kernel
theorem pr_His_0 : putRK 2 0 := Or.inr ⟨(.object "GuardedPool$State"), by decide +kernel⟩
theorem fc_His_1 : 2 < 8 ∧ 1 < nfd 2 := by decide +kernel
theorem ff_His_1 : (Tcl 2 1).2.2.2 = false := by decide +kernel
theorem fi_His_1 : 2 < 8 ∧ 1 < nfd 2 ∧ tyk 2 1 ≠ 2 := by decide +kernel
theorem pi_His_1 (x : Int) : putOK 2 1 x := Or.inl (by decide +kernel)
theorem fc_His_2 : 2 < 8 ∧ 2 < nfd 2 := by decide +kernel
theorem ff_His_2 : (Tcl 2 2).2.2.2 = false := by decide +kernel
theorem fi_His_2 : 2 < 8 ∧ 2 < nfd 2 ∧ tyk 2 2 ≠ 2 := by decide +kernel
theorem pi_His_2 (x : Int) : putOK 2 2 x := Or.inl (by decide +kernel)
theorem fc_Sta_0 : 3 < 8 ∧ 0 < nfd 3 := by decide +kernel
theorem ff_Sta_0 : (Tcl 3 0).2.2.2 = true := by decide +kernel
theorem fr_Sta_0 : 3 < 8 ∧ 0 < nfd 3 ∧ tyk 3 0 = 2 := by decide +kernel
theorem pr_Sta_0 : putRK 3 0 := Or.inr ⟨(.object "GuardedPool$Block"), by decide +kernel⟩
theorem fc_Sta_1 : 3 < 8 ∧ 1 < nfd 3 := by decide +kernel
theorem ff_Sta_1 : (Tcl 3 1).2.2.2 = true := by decide +kernel
theorem fr_Sta_1 : 3 < 8 ∧ 1 < nfd 3 ∧ tyk 3 1 = 2 := by decide +kernel
theorem pr_Sta_1 : putRK 3 1 := Or.inr ⟨.int, by decide +kernel⟩
theorem fc_Sta_2 : 3 < 8 ∧ 2 < nfd 3 := by decide +kernel
theorem ff_Sta_2 : (Tcl 3 2).2.2.2 = true := by decide +kernel
theorem fr_Sta_2 : 3 < 8 ∧ 2 < nfd 3 ∧ tyk 3 2 = 2 := by decide +kernel
theorem pr_Sta_2 : putRK 3 2 := Or.inr ⟨(.object "GuardedPool$Task"), by decide +kernel⟩
theorem fc_Sta_3 : 3 < 8 ∧ 3 < nfd 3 := by decide +kernel
theorem ff_Sta_3 : (Tcl 3 3).2.2.2 = false := by decide +kernel
theorem fi_Sta_3 : 3 < 8 ∧ 3 < nfd 3 ∧ tyk 3 3 ≠ 2 := by decide +kernel
theorem pi_Sta_3 (x : Int) : putOK 3 3 x := Or.inl (by decide +kernel)
theorem fc_Sta_4 : 3 < 8 ∧ 4 < nfd 3 := by decide +kernel
theorem ff_Sta_4 : (Tcl 3 4).2.2.2 = false := by decide +kernel
theorem fi_Sta_4 : 3 < 8 ∧ 4 < nfd 3 ∧ tyk 3 4 ≠ 2 := by decide +kernel
theorem pi_Sta_4 (x : Int) : putOK 3 4 x := Or.inl (by decide +kernel)
theorem fc_Sta_5 : 3 < 8 ∧ 5 < nfd 3 := by decide +kernel
theorem ff_Sta_5 : (Tcl 3 5).2.2.2 = false := by decide +kernel
theorem fi_Sta_5 : 3 < 8 ∧ 5 < nfd 3 ∧ tyk 3 5 ≠ 2 := by decide +kernel
theorem pi_Sta_5 (x : Int) : putOK 3 5 x := Or.inl (by decide +kernel)
theorem fc_Sta_6 : 3 < 8 ∧ 6 < nfd 3 := by decide +kernel
theorem ff_Sta_6 : (Tcl 3 6).2.2.2 = false := by decide +kernel
theorem fi_Sta_6 : 3 < 8 ∧ 6 < nfd 3 ∧ tyk 3 6 ≠ 2 := by decide +kernel
theorem pi_Sta_6 (x : Int) : putOK 3 6 x := Or.inl (by decide +kernel)
theorem fc_Sta_7 : 3 < 8 ∧ 7 < nfd 3 := by decide +kernel
theorem ff_Sta_7 : (Tcl 3 7).2.2.2 = false := by decide +kernel
theorem fi_Sta_7 : 3 < 8 ∧ 7 < nfd 3 ∧ tyk 3 7 ≠ 2 := by decide +kernel
theorem pi_Sta_7 (x : Int) : putOK 3 7 x := Or.inl (by decide +kernel)
theorem fc_Sta_8 : 3 < 8 ∧ 8 < nfd 3 := by decide +kernel
theorem ff_Sta_8 : (Tcl 3 8).2.2.2 = false := by decide +kernel
theorem fi_Sta_8 : 3 < 8 ∧ 8 < nfd 3 ∧ tyk 3 8 ≠ 2 := by decide +kernel
theorem pi_Sta_8 (x : Int) : putOK 3 8 x := Or.inl (by decide +kernel)
theorem fc_Tsk_0 : 4 < 8 ∧ 0 < nfd 4 := by decide +kernel
theorem ff_Tsk_0 : (Tcl 4 0).2.2.2 = false := by decide +kernel
theorem fi_Tsk_0 : 4 < 8 ∧ 0 < nfd 4 ∧ tyk 4 0 ≠ 2 := by decide +kernel
theorem pb_Tsk_0 {x : Int} (h : x = 0 ∨ x = 1) : putOK 4 0 x := Or.inr ⟨by decide +kernel, by decide +kernel, h⟩
theorem fc_Tsk_1 : 4 < 8 ∧ 1 < nfd 4 := by decide +kernel
theorem ff_Tsk_1 : (Tcl 4 1).2.2.2 = false := by decide +kernel
theorem fi_Tsk_1 : 4 < 8 ∧ 1 < nfd 4 ∧ tyk 4 1 ≠ 2 := by decide +kernel
theorem pi_Tsk_1 (x : Int) : putOK 4 1 x := Or.inl (by decide +kernel)
theorem fc_Tsk_2 : 4 < 8 ∧ 2 < nfd 4 := by decide +kernel
theorem ff_Tsk_2 : (Tcl 4 2).2.2.2 = false := by decide +kernel
theorem fi_Tsk_2 : 4 < 8 ∧ 2 < nfd 4 ∧ tyk 4 2 ≠ 2 := by decide +kernel
theorem pi_Tsk_2 (x : Int) : putOK 4 2 x := Or.inl (by decide +kernel)
theorem fc_Txt_0 : 5 < 8 ∧ 0 < nfd 5 := by decide +kernel
theorem ff_Txt_0 : (Tcl 5 0).2.2.2 = true := by decide +kernel
theorem fr_Txt_0 : 5 < 8 ∧ 0 < nfd 5 ∧ tyk 5 0 = 2 := by decide +kernel
theorem pr_Txt_0 : putRK 5 0 := Or.inr ⟨.char, by decide +kernel⟩
theorem fc_Txt_1 : 5 < 8 ∧ 1 < nfd 5 := by decide +kernel
theorem ff_Txt_1 : (Tcl 5 1).2.2.2 = false := by decide +kernel
theorem fi_Txt_1 : 5 < 8 ∧ 1 < nfd 5 ∧ tyk 5 1 ≠ 2 := by decide +kernel
theorem pi_Txt_1 (x : Int) : putOK 5 1 x := Or.inl (by decide +kernel)
theorem fc_Txt_2 : 5 < 8 ∧ 2 < nfd 5 := by decide +kernel
theorem ff_Txt_2 : (Tcl 5 2).2.2.2 = true := by decide +kernel
theorem fr_Txt_2 : 5 < 8 ∧ 2 < nfd 5 ∧ tyk 5 2 = 2 := by decide +kernel
theorem pr_Txt_2 : putRK 5 2 := Or.inr ⟨(.object "GuardedPool$Command"), by decide +kernel⟩
theorem fc_Txt_3 : 5 < 8 ∧ 3 < nfd 5 := by decide +kernel
theorem ff_Txt_3 : (Tcl 5 3).2.2.2 = false := by decide +kernel
theorem fi_Txt_3 : 5 < 8 ∧ 3 < nfd 5 ∧ tyk 5 3 ≠ 2 := by decide +kernel
theorem pi_Txt_3 (x : Int) : putOK 5 3 x := Or.inl (by decide +kernel)
theorem fc_Txt_4 : 5 < 8 ∧ 4 < nfd 5 := by decide +kernel
theorem ff_Txt_4 : (Tcl 5 4).2.2.2 = false := by decide +kernel
theorem fi_Txt_4 : 5 < 8 ∧ 4 < nfd 5 ∧ tyk 5 4 ≠ 2 := by decide +kernel
theorem pi_Txt_4 (x : Int) : putOK 5 4 x := Or.inl (by decide +kernel)
theorem fc_Txt_5 : 5 < 8 ∧ 5 < nfd 5 := by decide +kernel
theorem ff_Txt_5 : (Tcl 5 5).2.2.2 = false := by decide +kernel
theorem fi_Txt_5 : 5 < 8 ∧ 5 < nfd 5 ∧ tyk 5 5 ≠ 2 := by decide +kernel
theorem pb_Txt_5 {x : Int} (h : x = 0 ∨ x = 1) : putOK 5 5 x := Or.inr ⟨by decide +kernel, by decide +kernel, h⟩
theorem fc_Poo_0 : 6 < 8 ∧ 0 < nfd 6 := by decide +kernel
theorem ff_Poo_0 : (Tcl 6 0).2.2.2 = true := by decide +kernel
theorem fr_Poo_0 : 6 < 8 ∧ 0 < nfd 6 ∧ tyk 6 0 = 2 := by decide +kernel
theorem pr_Poo_0 : putRK 6 0 := Or.inl ⟨"GuardedPool$State", by decide +kernel⟩
theorem fc_Poo_1 : 6 < 8 ∧ 1 < nfd 6 := by decide +kernel
theorem ff_Poo_1 : (Tcl 6 1).2.2.2 = true := by decide +kernel
theorem fr_Poo_1 : 6 < 8 ∧ 1 < nfd 6 ∧ tyk 6 1 = 2 := by decide +kernel
theorem pr_Poo_1 : putRK 6 1 := Or.inl ⟨"GuardedPool$State", by decide +kernel⟩
theorem fc_Poo_2 : 6 < 8 ∧ 2 < nfd 6 := by decide +kernel
theorem ff_Poo_2 : (Tcl 6 2).2.2.2 = true := by decide +kernel
theorem fr_Poo_2 : 6 < 8 ∧ 2 < nfd 6 ∧ tyk 6 2 = 2 := by decide +kernel
theorem pr_Poo_2 : putRK 6 2 := Or.inl ⟨"GuardedPool$State", by decide +kernel⟩
theorem fc_Poo_3 : 6 < 8 ∧ 3 < nfd 6 := by decide +kernel
theorem ff_Poo_3 : (Tcl 6 3).2.2.2 = false := by decide +kernel
theorem fi_Poo_3 : 6 < 8 ∧ 3 < nfd 6 ∧ tyk 6 3 ≠ 2 := by decide +kernel
theorem pb_Poo_3 {x : Int} (h : x = 0 ∨ x = 1) : putOK 6 3 x := Or.inr ⟨by decide +kernel, by decide +kernel, h⟩
theorem fc_Poo_4 : 6 < 8 ∧ 4 < nfd 6 := by decide +kernel
theorem ff_Poo_4 : (Tcl 6 4).2.2.2 = true := by decide +kernel
theorem fr_Poo_4 : 6 < 8 ∧ 4 < nfd 6 ∧ tyk 6 4 = 2 := by decide +kernel
theorem pr_Poo_4 : putRK 6 4 := Or.inl ⟨"GuardedPool$History", by decide +kernel⟩
theorem fc_Poo_5 : 6 < 8 ∧ 5 < nfd 6 := by decide +kernel
theorem ff_Poo_5 : (Tcl 6 5).2.2.2 = true := by decide +kernel
theorem fr_Poo_5 : 6 < 8 ∧ 5 < nfd 6 ∧ tyk 6 5 = 2 := by decide +kernel
theorem pr_Poo_5 : putRK 6 5 := Or.inl ⟨"GuardedPool$Text", by decide +kernel⟩
theorem fc_Poo_6 : 6 < 8 ∧ 6 < nfd 6 := by decide +kernel
theorem ff_Poo_6 : (Tcl 6 6).2.2.2 = true := by decide +kernel
theorem fr_Poo_6 : 6 < 8 ∧ 6 < nfd 6 ∧ tyk 6 6 = 2 := by decide +kernel
theorem pr_Poo_6 : putRK 6 6 := Or.inr ⟨.int, by decide +kernel⟩
theorem fc_Poo_7 : 6 < 8 ∧ 7 < nfd 6 := by decide +kernel
theorem ff_Poo_7 : (Tcl 6 7).2.2.2 = false := by decide +kernel
theorem fi_Poo_7 : 6 < 8 ∧ 7 < nfd 6 ∧ tyk 6 7 ≠ 2 := by decide +kernel
theorem pb_Poo_7 {x : Int} (h : x = 0 ∨ x = 1) : putOK 6 7 x := Or.inr ⟨by decide +kernel, by decide +kernel, h⟩
theorem fc_Poo_8 : 6 < 8 ∧ 8 < nfd 6 := by decide +kernel
theorem ff_Poo_8 : (Tcl 6 8).2.2.2 = false := by decide +kernel
theorem fi_Poo_8 : 6 < 8 ∧ 8 < nfd 6 ∧ tyk 6 8 ≠ 2 := by decide +kernel
theorem pi_Poo_8 (x : Int) : putOK 6 8 x := Or.inl (by decide +kernel)
theorem fc_Poo_9 : 6 < 8 ∧ 9 < nfd 6 := by decide +kernel
theorem ff_Poo_9 : (Tcl 6 9).2.2.2 = false := by decide +kernel
theorem fi_Poo_9 : 6 < 8 ∧ 9 < nfd 6 ∧ tyk 6 9 ≠ 2 := by decide +kernel
theorem pi_Poo_9 (x : Int) : putOK 6 9 x := Or.inl (by decide +kernel)
theorem fc_Mod_0 : 7 < 8 ∧ 0 < nfd 7 := by decide +kernel
theorem ff_Mod_0 : (Tcl 7 0).2.2.2 = true := by decide +kernel
theorem fr_Mod_0 : 7 < 8 ∧ 0 < nfd 7 ∧ tyk 7 0 = 2 := by decide +kernel
theorem pr_Mod_0 : putRK 7 0 := Or.inr ⟨.int, by decide +kernel⟩
theorem fc_Mod_1 : 7 < 8 ∧ 1 < nfd 7 := by decide +kernel
theorem ff_Mod_1 : (Tcl 7 1).2.2.2 = true := by decide +kernel
theorem fr_Mod_1 : 7 < 8 ∧ 1 < nfd 7 ∧ tyk 7 1 = 2 := by decide +kernel
theorem pr_Mod_1 : putRK 7 1 := Or.inr ⟨.int, by decide +kernel⟩
theorem fc_Mod_2 : 7 < 8 ∧ 2 < nfd 7 := by decide +kernel
theorem ff_Mod_2 : (Tcl 7 2).2.2.2 = true := by decide +kernel
theorem fr_Mod_2 : 7 < 8 ∧ 2 < nfd 7 ∧ tyk 7 2 = 2 := by decide +kernel
theorem pr_Mod_2 : putRK 7 2 := Or.inr ⟨.int, by decide +kernel⟩
theorem fc_Mod_3 : 7 < 8 ∧ 3 < nfd 7 := by decide +kernel
theorem ff_Mod_3 : (Tcl 7 3).2.2.2 = false := by decide +kernel
theorem fi_Mod_3 : 7 < 8 ∧ 3 < nfd 7 ∧ tyk 7 3 ≠ 2 := by decide +kernel
theorem pi_Mod_3 (x : Int) : putOK 7 3 x := Or.inl (by decide +kernel)
theorem fc_Mod_4 : 7 < 8 ∧ 4 < nfd 7 := by decide +kernel
theorem ff_Mod_4 : (Tcl 7 4).2.2.2 = true := by decide +kernel
theorem fr_Mod_4 : 7 < 8 ∧ 4 < nfd 7 ∧ tyk 7 4 = 2 := by decide +kernel
theorem pr_Mod_4 : putRK 7 4 := Or.inr ⟨.int, by decide +kernel⟩
theorem fc_Mod_5 : 7 < 8 ∧ 5 < nfd 7 := by decide +kernel
theorem ff_Mod_5 : (Tcl 7 5).2.2.2 = false := by decide +kernel
theorem fi_Mod_5 : 7 < 8 ∧ 5 < nfd 7 ∧ tyk 7 5 ≠ 2 := by decide +kernel
theorem pb_Mod_5 {x : Int} (h : x = 0 ∨ x = 1) : putOK 7 5 x := Or.inr ⟨by decide +kernel, by decide +kernel, h⟩
theorem fc_Mod_6 : 7 < 8 ∧ 6 < nfd 7 := by decide +kernel
theorem ff_Mod_6 : (Tcl 7 6).2.2.2 = true := by decide +kernel
theorem fr_Mod_6 : 7 < 8 ∧ 6 < nfd 7 ∧ tyk 7 6 = 2 := by decide +kernel
theorem pr_Mod_6 : putRK 7 6 := Or.inr ⟨.int, by decide +kernel⟩
theorem fc_Mod_7 : 7 < 8 ∧ 7 < nfd 7 := by decide +kernel
theorem ff_Mod_7 : (Tcl 7 7).2.2.2 = true := by decide +kernel
theorem fr_Mod_7 : 7 < 8 ∧ 7 < nfd 7 ∧ tyk 7 7 = 2 := by decide +kernel
theorem pr_Mod_7 : putRK 7 7 := Or.inr ⟨.int, by decide +kernel⟩
theorem fc_Mod_8 : 7 < 8 ∧ 8 < nfd 7 := by decide +kernel
theorem ff_Mod_8 : (Tcl 7 8).2.2.2 = false := by decide +kernel
theorem fi_Mod_8 : 7 < 8 ∧ 8 < nfd 7 ∧ tyk 7 8 ≠ 2 := by decide +kernel
theorem pi_Mod_8 (x : Int) : putOK 7 8 x := Or.inl (by decide +kernel)
theorem fc_Mod_9 : 7 < 8 ∧ 9 < nfd 7 := by decide +kernel
theorem ff_Mod_9 : (Tcl 7 9).2.2.2 = false := by decide +kernel
theorem fi_Mod_9 : 7 < 8 ∧ 9 < nfd 7 ∧ tyk 7 9 ≠ 2 := by decide +kernel
theorem pi_Mod_9 (x : Int) : putOK 7 9 x := Or.inl (by decide +kernel)
theorem fc_Mod_10 : 7 < 8 ∧ 10 < nfd 7 := by decide +kernel
theorem ff_Mod_10 : (Tcl 7 10).2.2.2 = false := by decide +kernel
theorem fi_Mod_10 : 7 < 8 ∧ 10 < nfd 7 ∧ tyk 7 10 ≠ 2 := by decide +kernel
theorem pi_Mod_10 (x : Int) : putOK 7 10 x := Or.inl (by decide +kernel)
theorem fc_Mod_11 : 7 < 8 ∧ 11 < nfd 7 := by decide +kernel
theorem ff_Mod_11 : (Tcl 7 11).2.2.2 = false := by decide +kernel
theorem fi_Mod_11 : 7 < 8 ∧ 11 < nfd 7 ∧ tyk 7 11 ≠ 2 := by decide +kernel
theorem pi_Mod_11 (x : Int) : putOK 7 11 x := Or.inl (by decide +kernel)
theorem fc_Mod_12 : 7 < 8 ∧ 12 < nfd 7 := by decide +kernel
theorem ff_Mod_12 : (Tcl 7 12).2.2.2 = false := by decide +kernel
theorem fi_Mod_12 : 7 < 8 ∧ 12 < nfd 7 ∧ tyk 7 12 ≠ 2 := by decide +kernel
theorem pb_Mod_12 {x : Int} (h : x = 0 ∨ x = 1) : putOK 7 12 x := Or.inr ⟨by decide +kernel, by decide +kernel, h⟩
theorem fc_Mod_13 : 7 < 8 ∧ 13 < nfd 7 := by decide +kernel
theorem ff_Mod_13 : (Tcl 7 13).2.2.2 = false := by decide +kernel
theorem fi_Mod_13 : 7 < 8 ∧ 13 < nfd 7 ∧ tyk 7 13 ≠ 2 := by decide +kernel
theorem pi_Mod_13 (x : Int) : putOK 7 13 x := Or.inl (by decide +kernel)
theorem fc_Mod_14 : 7 < 8 ∧ 14 < nfd 7 := by decide +kernel
theorem ff_Mod_14 : (Tcl 7 14).2.2.2 = false := by decide +kernel
theorem fi_Mod_14 : 7 < 8 ∧ 14 < nfd 7 ∧ tyk 7 14 ≠ 2 := by decide +kernel
theorem pi_Mod_14 (x : Int) : putOK 7 14 x := Or.inl (by decide +kernel)
theorem fc_Mod_15 : 7 < 8 ∧ 15 < nfd 7 := by decide +kernel
theorem ff_Mod_15 : (Tcl 7 15).2.2.2 = false := by decide +kernel
theorem fi_Mod_15 : 7 < 8 ∧ 15 < nfd 7 ∧ tyk 7 15 ≠ 2 := by decide +kernel
theorem pi_Mod_15 (x : Int) : putOK 7 15 x := Or.inl (by decide +kernel)
theorem fc_Mod_16 : 7 < 8 ∧ 16 < nfd 7 := by decide +kernel
theorem ff_Mod_16 : (Tcl 7 16).2.2.2 = false := by decide +kernel
theorem fi_Mod_16 : 7 < 8 ∧ 16 < nfd 7 ∧ tyk 7 16 ≠ 2 := by decide +kernel
theorem pi_Mod_16 (x : Int) : putOK 7 16 x := Or.inl (by decide +kernel)
theorem vk_0 : vk 226 0 6 := ⟨by decide, by decide, by decide⟩
theorem R0_0_0 : R0 0 0 = some 1 := by decide
theorem R0_0_1 : R0 0 1 = some 27 := by decide
theorem R0_0_2 : R0 0 2 = some 53 := by decide
theorem R0_0_4 : R0 0 4 = some 79 := by decide
theorem R0_0_5 : R0 0 5 = some 185 := by decide
theorem R0_0_6 : R0 0 6 = some 218 := by decide
theorem vk_1 : vk 226 1 3 := ⟨by decide, by decide, by decide⟩
theorem R0_1_0 : R0 1 0 = some 2 := by decide
theorem R0_1_1 : R0 1 1 = some 19 := by decide
theorem R0_1_2 : R0 1 2 = some 20 := by decide
theorem vk_2 : vk 226 2 17 := ⟨by decide, by decide, by decide⟩
theorem vk_19 : vk 226 19 10 := ⟨by decide, by decide, by decide⟩
theorem vk_20 : vk 226 20 18 := ⟨by decide, by decide, by decide⟩
theorem vk_27 : vk 226 27 3 := ⟨by decide, by decide, by decide⟩
theorem R0_27_0 : R0 27 0 = some 28 := by decide
theorem R0_27_1 : R0 27 1 = some 45 := by decide
theorem R0_27_2 : R0 27 2 = some 46 := by decide
theorem vk_28 : vk 226 28 17 := ⟨by decide, by decide, by decide⟩
theorem vk_45 : vk 226 45 10 := ⟨by decide, by decide, by decide⟩
theorem vk_46 : vk 226 46 18 := ⟨by decide, by decide, by decide⟩
theorem vk_53 : vk 226 53 3 := ⟨by decide, by decide, by decide⟩
theorem R0_53_0 : R0 53 0 = some 54 := by decide
theorem R0_53_1 : R0 53 1 = some 71 := by decide
theorem R0_53_2 : R0 53 2 = some 72 := by decide
theorem vk_54 : vk 226 54 17 := ⟨by decide, by decide, by decide⟩
theorem vk_71 : vk 226 71 10 := ⟨by decide, by decide, by decide⟩
theorem vk_72 : vk 226 72 18 := ⟨by decide, by decide, by decide⟩
theorem vk_79 : vk 226 79 2 := ⟨by decide, by decide, by decide⟩
theorem R0_79_0 : R0 79 0 = some 80 := by decide
theorem vk_80 : vk 226 80 19 := ⟨by decide, by decide, by decide⟩
theorem vk_185 : vk 226 185 5 := ⟨by decide, by decide, by decide⟩
theorem R0_185_0 : R0 185 0 = some 186 := by decide
theorem R0_185_2 : R0 185 2 = some 187 := by decide
theorem vk_186 : vk 226 186 16 := ⟨by decide, by decide, by decide⟩
theorem vk_187 : vk 226 187 20 := ⟨by decide, by decide, by decide⟩
theorem vk_218 : vk 226 218 11 := ⟨by decide, by decide, by decide⟩
theorem vk_219 : vk 226 219 7 := ⟨by decide, by decide, by decide⟩
theorem R0_219_0 : R0 219 0 = some 220 := by decide
theorem R0_219_1 : R0 219 1 = some 221 := by decide
theorem R0_219_2 : R0 219 2 = some 222 := by decide
theorem R0_219_4 : R0 219 4 = some 223 := by decide
theorem R0_219_6 : R0 219 6 = some 224 := by decide
theorem R0_219_7 : R0 219 7 = some 225 := by decide
theorem vk_220 : vk 226 220 12 := ⟨by decide, by decide, by decide⟩
theorem vk_221 : vk 226 221 12 := ⟨by decide, by decide, by decide⟩
theorem vk_222 : vk 226 222 13 := ⟨by decide, by decide, by decide⟩
theorem vk_223 : vk 226 223 12 := ⟨by decide, by decide, by decide⟩
theorem vk_224 : vk 226 224 14 := ⟨by decide, by decide, by decide⟩
theorem vk_225 : vk 226 225 15 := ⟨by decide, by decide, by decide⟩

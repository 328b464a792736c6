section
-- ===== PART A: goes FIRST, ahead of the names: the tables' words, and 'selects' of the private methods out of them =====
/-- a private method of a class that the tables say can be made, by its rows of tables_1 -/
def lw_okq (q : MethodName × Nat) : Prop := (q.1.cls ≠ "java/lang/invoke/MethodHandle" ∧ q.1.cls ≠ "java/lang/invoke/VarHandle") ∧ Cond.instantiable q.1.cls q.2 ∈ tables_1 ∧ Cond.privateMethod q.1 ∈ tables_1 ∧ Cond.instanceMethod q.1 ∈ tables_1
theorem lw_p0 : lw_okq (⟨"GuardedPool$State", "blocksOf", "(I)I"⟩, 9) := ⟨⟨by decide +kernel, by decide +kernel⟩, List.mem_of_getElem? (i := 19) (by decide +kernel), List.mem_of_getElem? (i := 209) (by decide +kernel), List.mem_of_getElem? (i := 210) (by decide +kernel)⟩
theorem lw_p1 : lw_okq (⟨"GuardedPool$State", "ownedWords", "()I"⟩, 9) := ⟨⟨by decide +kernel, by decide +kernel⟩, List.mem_of_getElem? (i := 19) (by decide +kernel), List.mem_of_getElem? (i := 213) (by decide +kernel), List.mem_of_getElem? (i := 214) (by decide +kernel)⟩
theorem lw_p2 : lw_okq (⟨"GuardedPool$State", "wordsOf", "(I)I"⟩, 9) := ⟨⟨by decide +kernel, by decide +kernel⟩, List.mem_of_getElem? (i := 19) (by decide +kernel), List.mem_of_getElem? (i := 217) (by decide +kernel), List.mem_of_getElem? (i := 218) (by decide +kernel)⟩
theorem lw_p3 : lw_okq (⟨"GuardedPool$State", "askedWords", "()I"⟩, 9) := ⟨⟨by decide +kernel, by decide +kernel⟩, List.mem_of_getElem? (i := 19) (by decide +kernel), List.mem_of_getElem? (i := 228) (by decide +kernel), List.mem_of_getElem? (i := 229) (by decide +kernel)⟩
theorem lw_p4 : lw_okq (⟨"GuardedPool$State", "askedBy", "(I)I"⟩, 9) := ⟨⟨by decide +kernel, by decide +kernel⟩, List.mem_of_getElem? (i := 19) (by decide +kernel), List.mem_of_getElem? (i := 232) (by decide +kernel), List.mem_of_getElem? (i := 233) (by decide +kernel)⟩
theorem lw_p5 : lw_okq (⟨"GuardedPool$State", "leaks", "()I"⟩, 9) := ⟨⟨by decide +kernel, by decide +kernel⟩, List.mem_of_getElem? (i := 19) (by decide +kernel), List.mem_of_getElem? (i := 236) (by decide +kernel), List.mem_of_getElem? (i := 237) (by decide +kernel)⟩
theorem lw_p6 : lw_okq (⟨"GuardedPool$State", "leaksOf", "(I)I"⟩, 9) := ⟨⟨by decide +kernel, by decide +kernel⟩, List.mem_of_getElem? (i := 19) (by decide +kernel), List.mem_of_getElem? (i := 240) (by decide +kernel), List.mem_of_getElem? (i := 241) (by decide +kernel)⟩
theorem lw_p7 : lw_okq (⟨"GuardedPool$State", "isLeak", "(LGuardedPool$Block;)Z"⟩, 9) := ⟨⟨by decide +kernel, by decide +kernel⟩, List.mem_of_getElem? (i := 19) (by decide +kernel), List.mem_of_getElem? (i := 244) (by decide +kernel), List.mem_of_getElem? (i := 245) (by decide +kernel)⟩
theorem lw_p8 : lw_okq (⟨"GuardedPool$State", "taskOf", "(I)LGuardedPool$Task;"⟩, 9) := ⟨⟨by decide +kernel, by decide +kernel⟩, List.mem_of_getElem? (i := 19) (by decide +kernel), List.mem_of_getElem? (i := 248) (by decide +kernel), List.mem_of_getElem? (i := 249) (by decide +kernel)⟩
theorem lw_p9 : lw_okq (⟨"GuardedPool$State", "ageOf", "(LGuardedPool$Block;)I"⟩, 9) := ⟨⟨by decide +kernel, by decide +kernel⟩, List.mem_of_getElem? (i := 19) (by decide +kernel), List.mem_of_getElem? (i := 252) (by decide +kernel), List.mem_of_getElem? (i := 253) (by decide +kernel)⟩
theorem lw_p10 : lw_okq (⟨"GuardedPool$State", "blockAt", "(I)LGuardedPool$Block;"⟩, 9) := ⟨⟨by decide +kernel, by decide +kernel⟩, List.mem_of_getElem? (i := 19) (by decide +kernel), List.mem_of_getElem? (i := 277) (by decide +kernel), List.mem_of_getElem? (i := 278) (by decide +kernel)⟩
theorem lw_p11 : lw_okq (⟨"GuardedPool$State", "valueAt", "(I)I"⟩, 9) := ⟨⟨by decide +kernel, by decide +kernel⟩, List.mem_of_getElem? (i := 19) (by decide +kernel), List.mem_of_getElem? (i := 286) (by decide +kernel), List.mem_of_getElem? (i := 287) (by decide +kernel)⟩
theorem lw_p12 : lw_okq (⟨"GuardedPool$State", "blockOf", "(I)LGuardedPool$Block;"⟩, 9) := ⟨⟨by decide +kernel, by decide +kernel⟩, List.mem_of_getElem? (i := 19) (by decide +kernel), List.mem_of_getElem? (i := 311) (by decide +kernel), List.mem_of_getElem? (i := 312) (by decide +kernel)⟩
theorem lw_p13 : lw_okq (⟨"GuardedPool$State", "brokenGuards", "(LGuardedPool$Block;)I"⟩, 9) := ⟨⟨by decide +kernel, by decide +kernel⟩, List.mem_of_getElem? (i := 19) (by decide +kernel), List.mem_of_getElem? (i := 315) (by decide +kernel), List.mem_of_getElem? (i := 316) (by decide +kernel)⟩
theorem lw_p14 : lw_okq (⟨"GuardedPool$State", "roomFor", "(I)LGuardedPool$Block;"⟩, 9) := ⟨⟨by decide +kernel, by decide +kernel⟩, List.mem_of_getElem? (i := 19) (by decide +kernel), List.mem_of_getElem? (i := 351) (by decide +kernel), List.mem_of_getElem? (i := 352) (by decide +kernel)⟩
theorem lw_p15 : lw_okq (⟨"GuardedPool$State", "lowestFree", "(I)LGuardedPool$Block;"⟩, 9) := ⟨⟨by decide +kernel, by decide +kernel⟩, List.mem_of_getElem? (i := 19) (by decide +kernel), List.mem_of_getElem? (i := 355) (by decide +kernel), List.mem_of_getElem? (i := 356) (by decide +kernel)⟩
def lw_privs_1 : List (MethodName × Nat) := [(⟨"GuardedPool$State", "blocksOf", "(I)I"⟩, 9), (⟨"GuardedPool$State", "ownedWords", "()I"⟩, 9), (⟨"GuardedPool$State", "wordsOf", "(I)I"⟩, 9), (⟨"GuardedPool$State", "askedWords", "()I"⟩, 9), (⟨"GuardedPool$State", "askedBy", "(I)I"⟩, 9), (⟨"GuardedPool$State", "leaks", "()I"⟩, 9), (⟨"GuardedPool$State", "leaksOf", "(I)I"⟩, 9), (⟨"GuardedPool$State", "isLeak", "(LGuardedPool$Block;)Z"⟩, 9), (⟨"GuardedPool$State", "taskOf", "(I)LGuardedPool$Task;"⟩, 9), (⟨"GuardedPool$State", "ageOf", "(LGuardedPool$Block;)I"⟩, 9), (⟨"GuardedPool$State", "blockAt", "(I)LGuardedPool$Block;"⟩, 9), (⟨"GuardedPool$State", "valueAt", "(I)I"⟩, 9), (⟨"GuardedPool$State", "blockOf", "(I)LGuardedPool$Block;"⟩, 9), (⟨"GuardedPool$State", "brokenGuards", "(LGuardedPool$Block;)I"⟩, 9), (⟨"GuardedPool$State", "roomFor", "(I)LGuardedPool$Block;"⟩, 9), (⟨"GuardedPool$State", "lowestFree", "(I)LGuardedPool$Block;"⟩, 9)]
theorem lw_r1 : ∀ q ∈ lw_privs_1, lw_okq q := List.forall_mem_cons.mpr ⟨lw_p0, List.forall_mem_cons.mpr ⟨lw_p1, List.forall_mem_cons.mpr ⟨lw_p2, List.forall_mem_cons.mpr ⟨lw_p3, List.forall_mem_cons.mpr ⟨lw_p4, List.forall_mem_cons.mpr ⟨lw_p5, List.forall_mem_cons.mpr ⟨lw_p6, List.forall_mem_cons.mpr ⟨lw_p7, List.forall_mem_cons.mpr ⟨lw_p8, List.forall_mem_cons.mpr ⟨lw_p9, List.forall_mem_cons.mpr ⟨lw_p10, List.forall_mem_cons.mpr ⟨lw_p11, List.forall_mem_cons.mpr ⟨lw_p12, List.forall_mem_cons.mpr ⟨lw_p13, List.forall_mem_cons.mpr ⟨lw_p14, List.forall_mem_cons.mpr ⟨lw_p15, fun _ h => absurd h List.not_mem_nil⟩⟩⟩⟩⟩⟩⟩⟩⟩⟩⟩⟩⟩⟩⟩⟩
theorem lw_p16 : lw_okq (⟨"GuardedPool$State", "cutOut", "(I)LGuardedPool$Block;"⟩, 9) := ⟨⟨by decide +kernel, by decide +kernel⟩, List.mem_of_getElem? (i := 19) (by decide +kernel), List.mem_of_getElem? (i := 363) (by decide +kernel), List.mem_of_getElem? (i := 364) (by decide +kernel)⟩
theorem lw_p17 : lw_okq (⟨"GuardedPool$State", "halve", "(LGuardedPool$Block;)V"⟩, 9) := ⟨⟨by decide +kernel, by decide +kernel⟩, List.mem_of_getElem? (i := 19) (by decide +kernel), List.mem_of_getElem? (i := 367) (by decide +kernel), List.mem_of_getElem? (i := 368) (by decide +kernel)⟩
theorem lw_p18 : lw_okq (⟨"GuardedPool$State", "placeAt", "(I)LGuardedPool$Block;"⟩, 9) := ⟨⟨by decide +kernel, by decide +kernel⟩, List.mem_of_getElem? (i := 19) (by decide +kernel), List.mem_of_getElem? (i := 371) (by decide +kernel), List.mem_of_getElem? (i := 372) (by decide +kernel)⟩
theorem lw_p19 : lw_okq (⟨"GuardedPool", "countRefusal", "(I)V"⟩, 10) := ⟨⟨by decide +kernel, by decide +kernel⟩, List.mem_of_getElem? (i := 11) (by decide +kernel), List.mem_of_getElem? (i := 376) (by decide +kernel), List.mem_of_getElem? (i := 377) (by decide +kernel)⟩
theorem lw_p20 : lw_okq (⟨"GuardedPool", "recorded", "(I)I"⟩, 10) := ⟨⟨by decide +kernel, by decide +kernel⟩, List.mem_of_getElem? (i := 11) (by decide +kernel), List.mem_of_getElem? (i := 380) (by decide +kernel), List.mem_of_getElem? (i := 381) (by decide +kernel)⟩
theorem lw_p21 : lw_okq (⟨"GuardedPool$State", "free", "(LGuardedPool$Block;)I"⟩, 9) := ⟨⟨by decide +kernel, by decide +kernel⟩, List.mem_of_getElem? (i := 19) (by decide +kernel), List.mem_of_getElem? (i := 400) (by decide +kernel), List.mem_of_getElem? (i := 401) (by decide +kernel)⟩
theorem lw_p22 : lw_okq (⟨"GuardedPool$State", "setValue", "(II)V"⟩, 9) := ⟨⟨by decide +kernel, by decide +kernel⟩, List.mem_of_getElem? (i := 19) (by decide +kernel), List.mem_of_getElem? (i := 404) (by decide +kernel), List.mem_of_getElem? (i := 405) (by decide +kernel)⟩
theorem lw_p23 : lw_okq (⟨"GuardedPool$State", "joinTwins", "(LGuardedPool$Block;)V"⟩, 9) := ⟨⟨by decide +kernel, by decide +kernel⟩, List.mem_of_getElem? (i := 19) (by decide +kernel), List.mem_of_getElem? (i := 408) (by decide +kernel), List.mem_of_getElem? (i := 409) (by decide +kernel)⟩
theorem lw_p24 : lw_okq (⟨"GuardedPool$State", "blocksOfSize", "(IZ)I"⟩, 9) := ⟨⟨by decide +kernel, by decide +kernel⟩, List.mem_of_getElem? (i := 19) (by decide +kernel), List.mem_of_getElem? (i := 509) (by decide +kernel), List.mem_of_getElem? (i := 510) (by decide +kernel)⟩
theorem lw_p25 : lw_okq (⟨"GuardedPool$State", "leaksAheadOf", "(LGuardedPool$Block;)I"⟩, 9) := ⟨⟨by decide +kernel, by decide +kernel⟩, List.mem_of_getElem? (i := 19) (by decide +kernel), List.mem_of_getElem? (i := 521) (by decide +kernel), List.mem_of_getElem? (i := 522) (by decide +kernel)⟩
def lw_privs_2 : List (MethodName × Nat) := [(⟨"GuardedPool$State", "cutOut", "(I)LGuardedPool$Block;"⟩, 9), (⟨"GuardedPool$State", "halve", "(LGuardedPool$Block;)V"⟩, 9), (⟨"GuardedPool$State", "placeAt", "(I)LGuardedPool$Block;"⟩, 9), (⟨"GuardedPool", "countRefusal", "(I)V"⟩, 10), (⟨"GuardedPool", "recorded", "(I)I"⟩, 10), (⟨"GuardedPool$State", "free", "(LGuardedPool$Block;)I"⟩, 9), (⟨"GuardedPool$State", "setValue", "(II)V"⟩, 9), (⟨"GuardedPool$State", "joinTwins", "(LGuardedPool$Block;)V"⟩, 9), (⟨"GuardedPool$State", "blocksOfSize", "(IZ)I"⟩, 9), (⟨"GuardedPool$State", "leaksAheadOf", "(LGuardedPool$Block;)I"⟩, 9)]
theorem lw_r2 : ∀ q ∈ lw_privs_2, lw_okq q := List.forall_mem_cons.mpr ⟨lw_p16, List.forall_mem_cons.mpr ⟨lw_p17, List.forall_mem_cons.mpr ⟨lw_p18, List.forall_mem_cons.mpr ⟨lw_p19, List.forall_mem_cons.mpr ⟨lw_p20, List.forall_mem_cons.mpr ⟨lw_p21, List.forall_mem_cons.mpr ⟨lw_p22, List.forall_mem_cons.mpr ⟨lw_p23, List.forall_mem_cons.mpr ⟨lw_p24, List.forall_mem_cons.mpr ⟨lw_p25, fun _ h => absurd h List.not_mem_nil⟩⟩⟩⟩⟩⟩⟩⟩⟩⟩
def lw_privs : List (MethodName × Nat) := lw_privs_1 ++ (lw_privs_2)
def lw_tbl : List Cond := k2_sels lw_privs ++ tables_1
theorem lw_privs_ok : ∀ q ∈ lw_privs, lw_okq q := by
  show ∀ q ∈ lw_privs_1 ++ (lw_privs_2), lw_okq q
  exact List.forall_mem_append.mpr ⟨lw_r1, lw_r2⟩
end
section
/-! tables: classes, fields, methods, links; printed by wip/whole/gen_tables.py out of the claim -/
abbrev MI : Type := MethodName × ByteArray × Nat × Option FieldType × Room
abbrev mnm (y : MI) : MethodName := y.1
abbrev mbc (y : MI) : ByteArray := y.2.1
abbrev mml (y : MI) : Nat := y.2.2.1
abbrev mrt (y : MI) : Option FieldType := y.2.2.2.1
abbrev mrm (y : MI) : Room := y.2.2.2.2
def cnm (ci : Nat) : String := match ci with
  | 0 => "GuardedPool$Block"
  | 1 => "GuardedPool$Command"
  | 2 => "GuardedPool$History"
  | 3 => "GuardedPool$State"
  | 4 => "GuardedPool$Task"
  | 5 => "GuardedPool$Text"
  | _ => "GuardedPool"
/-- fields: name, descriptor, final, kind (0 int, 1 boolean, 2 reference) -/
def ftb (ci : Nat) : List (String × String × Bool × Nat) := match ci with
  | 0 => [("begin", "I", true, 0), ("size", "I", false, 0), ("owner", "I", false, 0), ("number", "I", false, 0), ("asked", "I", false, 0), ("used", "I", false, 0)]
  | 1 => [("kind", "I", false, 0), ("first", "I", false, 0), ("second", "I", false, 0)]
  | 2 => [("states", "[LGuardedPool$State;", true, 2), ("next", "I", false, 0), ("length", "I", false, 0)]
  | 3 => [("blocks", "[LGuardedPool$Block;", true, 2), ("values", "[I", true, 2), ("tasks", "[LGuardedPool$Task;", true, 2), ("clock", "I", false, 0), ("patience", "I", false, 0), ("granted", "I", false, 0), ("splits", "I", false, 0), ("joins", "I", false, 0), ("foundBroken", "I", false, 0)]
  | 4 => [("alive", "Z", false, 1), ("limit", "I", false, 0), ("guardsBroken", "I", false, 0)]
  | 5 => [("characters", "[C", true, 2), ("length", "I", false, 0), ("commands", "[LGuardedPool$Command;", true, 2), ("commandCount", "I", false, 0), ("position", "I", false, 0), ("faulty", "Z", false, 1)]
  | _ => [("now", "LGuardedPool$State;", true, 2), ("before", "LGuardedPool$State;", true, 2), ("snapshot", "LGuardedPool$State;", true, 2), ("hasSnapshot", "Z", false, 1), ("history", "LGuardedPool$History;", true, 2), ("text", "LGuardedPool$Text;", true, 2), ("refusals", "[I", true, 2), ("hasStopped", "Z", false, 1), ("stoppedCommand", "I", false, 0), ("stoppedError", "I", false, 0)]
def nfd (ci : Nat) : Nat := match ci with
  | 0 => 6
  | 1 => 3
  | 2 => 3
  | 3 => 9
  | 4 => 3
  | 5 => 6
  | _ => 10
def Tcl (ci : Nat) : u_T := fun k => (cnm ci, ((ftb ci).getD k ("", "I", false, 0)).1, ((ftb ci).getD k ("", "I", false, 0)).2.1, ((ftb ci).getD k ("", "I", false, 0)).2.2.1)
def tyk (ci k : Nat) : Nat := ((ftb ci).getD k ("", "I", false, 0)).2.2.2
def tyc (ci : Nat) : Nat → FieldType := fun k => (parseFieldDescriptor (Tcl ci k).2.2.1).getD .int
def cls_l : List vw_C := [(cnm 0, Tcl 0, 6), (cnm 1, Tcl 1, 3), (cnm 2, Tcl 2, 3), (cnm 3, Tcl 3, 9), (cnm 4, Tcl 4, 3), (cnm 5, Tcl 5, 6), (cnm 6, Tcl 6, 10)]
theorem tyc_ok : ∀ ci, ci < 7 → ∀ k, k < nfd ci → parseFieldDescriptor (Tcl ci k).2.2.1 = some (tyc ci k) := by decide +kernel
theorem nm_ok : ∀ ci, ci < 7 → ∀ a, a < nfd ci → ∀ b, b < nfd ci → a ≠ b → (Tcl ci a).2.1 ≠ (Tcl ci b).2.1 := by decide +kernel
theorem cls_ok : ∀ ci, ci < 7 → cls_l[ci]? = some (cnm ci, Tcl ci, nfd ci) := by
  intro ci h
  match ci, h with
  | 0, _ => rfl
  | 1, _ => rfl
  | 2, _ => rfl
  | 3, _ => rfl
  | 4, _ => rfl
  | 5, _ => rfl
  | 6, _ => rfl
theorem in_raw (i : Nat) {w : Cond} (h : tables_1[i]? = some w) : w ∈ lw_tbl := List.mem_append_right _ (List.mem_of_getElem? h)
def lw_g : List Cond := lw_tbl.filter goodWord
theorem in_tbl (i : Nat) {w : Cond} (h : tables_1[i]? = some w ∧ goodWord w = true) : w ∈ lw_g := List.mem_filter.mpr ⟨List.mem_append_right _ (List.mem_of_getElem? h.1), h.2⟩
theorem in_sel (i : Nat) {w : Cond} (h : (k2_sels lw_privs)[i]? = some w ∧ goodWord w = true) : w ∈ lw_g := List.mem_filter.mpr ⟨List.mem_append_left _ (List.mem_of_getElem? h.1), h.2⟩
theorem lw_good : ∀ w ∈ lw_g, (w.onTables && w.keeps) = true ∨ ∃ ty, w = .arrayClass ty := fun w h => good_of_word (List.mem_filter.mp h).2
theorem lay_Blk : ∀ w ∈ u_ws (cnm 0) (Tcl 0) 6, w ∈ lw_g := by
  intro w hw
  obtain ⟨k, hk, rfl⟩ := List.mem_map.mp hw
  have hk := List.mem_range.mp hk
  rcases (show k = 0 ∨ k = 1 ∨ k = 2 ∨ k = 3 ∨ k = 4 ∨ k = 5 by omega) with rfl | rfl | rfl | rfl | rfl | rfl
  · exact in_tbl 43 (by decide +kernel)
  · exact in_tbl 45 (by decide +kernel)
  · exact in_tbl 47 (by decide +kernel)
  · exact in_tbl 49 (by decide +kernel)
  · exact in_tbl 51 (by decide +kernel)
  · exact in_tbl 53 (by decide +kernel)
theorem lay_Cmd : ∀ w ∈ u_ws (cnm 1) (Tcl 1) 3, w ∈ lw_g := by
  intro w hw
  obtain ⟨k, hk, rfl⟩ := List.mem_map.mp hw
  have hk := List.mem_range.mp hk
  rcases (show k = 0 ∨ k = 1 ∨ k = 2 by omega) with rfl | rfl | rfl
  · exact in_tbl 137 (by decide +kernel)
  · exact in_tbl 139 (by decide +kernel)
  · exact in_tbl 141 (by decide +kernel)
theorem lay_His : ∀ w ∈ u_ws (cnm 2) (Tcl 2) 3, w ∈ lw_g := by
  intro w hw
  obtain ⟨k, hk, rfl⟩ := List.mem_map.mp hw
  have hk := List.mem_range.mp hk
  rcases (show k = 0 ∨ k = 1 ∨ k = 2 by omega) with rfl | rfl | rfl
  · exact in_tbl 117 (by decide +kernel)
  · exact in_tbl 119 (by decide +kernel)
  · exact in_tbl 121 (by decide +kernel)
theorem lay_Sta : ∀ w ∈ u_ws (cnm 3) (Tcl 3) 9, w ∈ lw_g := by
  intro w hw
  obtain ⟨k, hk, rfl⟩ := List.mem_map.mp hw
  have hk := List.mem_range.mp hk
  rcases (show k = 0 ∨ k = 1 ∨ k = 2 ∨ k = 3 ∨ k = 4 ∨ k = 5 ∨ k = 6 ∨ k = 7 ∨ k = 8 by omega) with rfl | rfl | rfl | rfl | rfl | rfl | rfl | rfl | rfl
  · exact in_tbl 86 (by decide +kernel)
  · exact in_tbl 88 (by decide +kernel)
  · exact in_tbl 90 (by decide +kernel)
  · exact in_tbl 92 (by decide +kernel)
  · exact in_tbl 94 (by decide +kernel)
  · exact in_tbl 96 (by decide +kernel)
  · exact in_tbl 98 (by decide +kernel)
  · exact in_tbl 100 (by decide +kernel)
  · exact in_tbl 102 (by decide +kernel)
theorem lay_Tsk : ∀ w ∈ u_ws (cnm 4) (Tcl 4) 3, w ∈ lw_g := by
  intro w hw
  obtain ⟨k, hk, rfl⟩ := List.mem_map.mp hw
  have hk := List.mem_range.mp hk
  rcases (show k = 0 ∨ k = 1 ∨ k = 2 by omega) with rfl | rfl | rfl
  · exact in_tbl 69 (by decide +kernel)
  · exact in_tbl 71 (by decide +kernel)
  · exact in_tbl 73 (by decide +kernel)
theorem lay_Txt : ∀ w ∈ u_ws (cnm 5) (Tcl 5) 6, w ∈ lw_g := by
  intro w hw
  obtain ⟨k, hk, rfl⟩ := List.mem_map.mp hw
  have hk := List.mem_range.mp hk
  rcases (show k = 0 ∨ k = 1 ∨ k = 2 ∨ k = 3 ∨ k = 4 ∨ k = 5 by omega) with rfl | rfl | rfl | rfl | rfl | rfl
  · exact in_tbl 148 (by decide +kernel)
  · exact in_tbl 150 (by decide +kernel)
  · exact in_tbl 152 (by decide +kernel)
  · exact in_tbl 154 (by decide +kernel)
  · exact in_tbl 156 (by decide +kernel)
  · exact in_tbl 158 (by decide +kernel)
theorem lay_Poo : ∀ w ∈ u_ws (cnm 6) (Tcl 6) 10, w ∈ lw_g := by
  intro w hw
  obtain ⟨k, hk, rfl⟩ := List.mem_map.mp hw
  have hk := List.mem_range.mp hk
  rcases (show k = 0 ∨ k = 1 ∨ k = 2 ∨ k = 3 ∨ k = 4 ∨ k = 5 ∨ k = 6 ∨ k = 7 ∨ k = 8 ∨ k = 9 by omega) with rfl | rfl | rfl | rfl | rfl | rfl | rfl | rfl | rfl | rfl
  · exact in_tbl 167 (by decide +kernel)
  · exact in_tbl 169 (by decide +kernel)
  · exact in_tbl 171 (by decide +kernel)
  · exact in_tbl 173 (by decide +kernel)
  · exact in_tbl 175 (by decide +kernel)
  · exact in_tbl 177 (by decide +kernel)
  · exact in_tbl 179 (by decide +kernel)
  · exact in_tbl 181 (by decide +kernel)
  · exact in_tbl 183 (by decide +kernel)
  · exact in_tbl 185 (by decide +kernel)
theorem lay_ok : ∀ ci, ci < 7 → ∀ w ∈ u_ws (cnm ci) (Tcl ci) (nfd ci), w ∈ lw_g := by
  intro ci h
  match ci, h with
  | 0, _ => exact lay_Blk
  | 1, _ => exact lay_Cmd
  | 2, _ => exact lay_His
  | 3, _ => exact lay_Sta
  | 4, _ => exact lay_Tsk
  | 5, _ => exact lay_Txt
  | 6, _ => exact lay_Poo
theorem ini_Law : Cond.initialized "GuardedPoolLaw" ∈ lw_g := in_tbl 0 (by decide +kernel)
theorem ini_Poo : Cond.initialized "GuardedPool" ∈ lw_g := in_tbl 1 (by decide +kernel)
theorem ini_Sta : Cond.initialized "GuardedPool$State" ∈ lw_g := in_tbl 2 (by decide +kernel)
theorem ini_Blk : Cond.initialized "GuardedPool$Block" ∈ lw_g := in_tbl 3 (by decide +kernel)
theorem ini_Tsk : Cond.initialized "GuardedPool$Task" ∈ lw_g := in_tbl 4 (by decide +kernel)
theorem ini_His : Cond.initialized "GuardedPool$History" ∈ lw_g := in_tbl 5 (by decide +kernel)
theorem ini_Txt : Cond.initialized "GuardedPool$Text" ∈ lw_g := in_tbl 6 (by decide +kernel)
theorem ini_Cmd : Cond.initialized "GuardedPool$Command" ∈ lw_g := in_tbl 7 (by decide +kernel)
theorem ini_System : Cond.initialized "java/lang/System" ∈ lw_g := in_tbl 8 (by decide +kernel)
theorem ini_Math : Cond.initialized "java/lang/Math" ∈ lw_g := in_tbl 9 (by decide +kernel)
def mi_Poo_init : MI := (⟨"GuardedPool", "<init>", "()V"⟩, prog_1_method_1_code, 1, none, ({ frames := 4, cells := 218, slots := 1659, locals := 85 } : Room))
def mi_Sta_init : MI := (⟨"GuardedPool$State", "<init>", "()V"⟩, prog_5_method_1_code, 3, none, ({ frames := 2, cells := 25, slots := 200, locals := 42 } : Room))
def mi_Blk_init : MI := (⟨"GuardedPool$Block", "<init>", "(II)V"⟩, prog_2_method_1_code, 3, none, ({ frames := 1, cells := 0, slots := 0, locals := 20 } : Room))
def mi_Tsk_init : MI := (⟨"GuardedPool$Task", "<init>", "()V"⟩, prog_6_method_1_code, 1, none, ({ frames := 1, cells := 0, slots := 0, locals := 20 } : Room))
def mi_His_init : MI := (⟨"GuardedPool$History", "<init>", "()V"⟩, prog_4_method_1_code, 2, none, ({ frames := 3, cells := 105, slots := 840, locals := 64 } : Room))
def mi_Txt_init : MI := (⟨"GuardedPool$Text", "<init>", "()V"⟩, prog_7_method_1_code, 2, none, ({ frames := 2, cells := 32, slots := 180, locals := 40 } : Room))
def mi_Cmd_init : MI := (⟨"GuardedPool$Command", "<init>", "()V"⟩, prog_3_method_1_code, 1, none, ({ frames := 1, cells := 0, slots := 0, locals := 20 } : Room))
def mi_Poo_count : MI := (⟨"GuardedPool", "count", "(I)I"⟩, prog_1_method_26_code, 2, some .int, ({ frames := 5, cells := 0, slots := 0, locals := 112 } : Room))
def mi_His_length : MI := (⟨"GuardedPool$History", "length", "()I"⟩, prog_4_method_2_code, 1, some .int, ({ frames := 0, cells := 0, slots := 0, locals := 0 } : Room))
def mi_Txt_length : MI := (⟨"GuardedPool$Text", "length", "()I"⟩, prog_7_method_2_code, 1, some .int, ({ frames := 0, cells := 0, slots := 0, locals := 0 } : Room))
def mi_Sta_tellCount : MI := (⟨"GuardedPool$State", "tellCount", "(I)I"⟩, prog_5_method_33_code, 2, some .int, ({ frames := 4, cells := 0, slots := 0, locals := 91 } : Room))
def mi_Sta_ownedBlocks : MI := (⟨"GuardedPool$State", "ownedBlocks", "()I"⟩, prog_5_method_38_code, 3, some .int, ({ frames := 1, cells := 0, slots := 0, locals := 26 } : Room))
def mi_Sta_blocksOf : MI := (⟨"GuardedPool$State", "blocksOf", "(I)I"⟩, prog_5_method_42_code, 7, some .int, ({ frames := 0, cells := 0, slots := 0, locals := 0 } : Room))
def mi_Sta_ownedWords : MI := (⟨"GuardedPool$State", "ownedWords", "()I"⟩, prog_5_method_39_code, 3, some .int, ({ frames := 3, cells := 0, slots := 0, locals := 66 } : Room))
def mi_Sta_wordsOf : MI := (⟨"GuardedPool$State", "wordsOf", "(I)I"⟩, prog_5_method_43_code, 7, some .int, ({ frames := 2, cells := 0, slots := 0, locals := 40 } : Room))
def mi_Blk_words : MI := (⟨"GuardedPool$Block", "words", "()I"⟩, prog_2_method_4_code, 1, some .int, ({ frames := 1, cells := 0, slots := 0, locals := 20 } : Room))
def mi_Blk_wordsOf : MI := (⟨"GuardedPool$Block", "wordsOf", "(I)I"⟩, prog_2_method_2_code, 1, some .int, ({ frames := 0, cells := 0, slots := 0, locals := 0 } : Room))
def mi_Sta_askedWords : MI := (⟨"GuardedPool$State", "askedWords", "()I"⟩, prog_5_method_40_code, 3, some .int, ({ frames := 1, cells := 0, slots := 0, locals := 26 } : Room))
def mi_Sta_askedBy : MI := (⟨"GuardedPool$State", "askedBy", "(I)I"⟩, prog_5_method_44_code, 7, some .int, ({ frames := 0, cells := 0, slots := 0, locals := 0 } : Room))
def mi_Sta_leaks : MI := (⟨"GuardedPool$State", "leaks", "()I"⟩, prog_5_method_41_code, 3, some .int, ({ frames := 3, cells := 0, slots := 0, locals := 69 } : Room))
def mi_Sta_leaksOf : MI := (⟨"GuardedPool$State", "leaksOf", "(I)I"⟩, prog_5_method_45_code, 7, some .int, ({ frames := 2, cells := 0, slots := 0, locals := 43 } : Room))
def mi_Sta_isLeak : MI := (⟨"GuardedPool$State", "isLeak", "(LGuardedPool$Block;)Z"⟩, prog_5_method_28_code, 3, some .boolean, ({ frames := 1, cells := 0, slots := 0, locals := 21 } : Room))
def mi_Sta_taskOf : MI := (⟨"GuardedPool$State", "taskOf", "(I)LGuardedPool$Task;"⟩, prog_5_method_19_code, 2, some (.object "GuardedPool$Task"), ({ frames := 0, cells := 0, slots := 0, locals := 0 } : Room))
def mi_Sta_ageOf : MI := (⟨"GuardedPool$State", "ageOf", "(LGuardedPool$Block;)I"⟩, prog_5_method_27_code, 2, some .int, ({ frames := 0, cells := 0, slots := 0, locals := 0 } : Room))
def mi_Law_cell : MI := (⟨"GuardedPoolLaw", "cell", "([II)I"⟩, method_2_code, 2, some .int, ({ frames := 0, cells := 0, slots := 0, locals := 0 } : Room))
def mi_Law_low : MI := (⟨"GuardedPoolLaw", "low", "(II)I"⟩, method_3_code, 2, some .int, ({ frames := 0, cells := 0, slots := 0, locals := 0 } : Room))
def mi_Law_does : MI := (⟨"GuardedPoolLaw", "does", "(LGuardedPool;I)I"⟩, method_5_code, 5, some .int, ({ frames := 7, cells := 0, slots := 0, locals := 157 } : Room))
def mi_Law_owned : MI := (⟨"GuardedPoolLaw", "owned", "(LGuardedPool;I)I"⟩, method_4_code, 5, some .int, ({ frames := 6, cells := 0, slots := 0, locals := 133 } : Room))
def mi_Poo_word : MI := (⟨"GuardedPool", "word", "(II)I"⟩, prog_1_method_19_code, 3, some .int, ({ frames := 5, cells := 0, slots := 0, locals := 109 } : Room))
def mi_Sta_tellWord : MI := (⟨"GuardedPool$State", "tellWord", "(II)I"⟩, prog_5_method_30_code, 4, some .int, ({ frames := 4, cells := 0, slots := 0, locals := 86 } : Room))
def mi_Sta_blockAt : MI := (⟨"GuardedPool$State", "blockAt", "(I)LGuardedPool$Block;"⟩, prog_5_method_21_code, 6, some (.object "GuardedPool$Block"), ({ frames := 3, cells := 0, slots := 0, locals := 61 } : Room))
def mi_Blk_holds : MI := (⟨"GuardedPool$Block", "holds", "(I)Z"⟩, prog_2_method_7_code, 2, some .boolean, ({ frames := 2, cells := 0, slots := 0, locals := 40 } : Room))
def mi_Sta_valueAt : MI := (⟨"GuardedPool$State", "valueAt", "(I)I"⟩, prog_5_method_23_code, 2, some .int, ({ frames := 0, cells := 0, slots := 0, locals := 0 } : Room))
def mi_Blk_isOwned : MI := (⟨"GuardedPool$Block", "isOwned", "()Z"⟩, prog_2_method_5_code, 1, some .boolean, ({ frames := 0, cells := 0, slots := 0, locals := 0 } : Room))
def mi_Blk_hasGuardAt : MI := (⟨"GuardedPool$Block", "hasGuardAt", "(I)Z"⟩, prog_2_method_9_code, 2, some .boolean, ({ frames := 1, cells := 0, slots := 0, locals := 20 } : Room))
def mi_Blk_rearGuard : MI := (⟨"GuardedPool$Block", "rearGuard", "()I"⟩, prog_2_method_8_code, 1, some .int, ({ frames := 0, cells := 0, slots := 0, locals := 0 } : Room))
def mi_Poo_block : MI := (⟨"GuardedPool", "block", "(II)I"⟩, prog_1_method_18_code, 3, some .int, ({ frames := 3, cells := 0, slots := 0, locals := 68 } : Room))
def mi_Sta_tellBlock : MI := (⟨"GuardedPool$State", "tellBlock", "(II)I"⟩, prog_5_method_29_code, 4, some .int, ({ frames := 2, cells := 0, slots := 0, locals := 45 } : Room))
def mi_Sta_blockOf : MI := (⟨"GuardedPool$State", "blockOf", "(I)LGuardedPool$Block;"⟩, prog_5_method_20_code, 6, some (.object "GuardedPool$Block"), ({ frames := 1, cells := 0, slots := 0, locals := 20 } : Room))
def mi_Sta_brokenGuards : MI := (⟨"GuardedPool$State", "brokenGuards", "(LGuardedPool$Block;)I"⟩, prog_5_method_26_code, 4, some .int, ({ frames := 1, cells := 0, slots := 0, locals := 21 } : Room))
def mi_Poo_ask : MI := (⟨"GuardedPool", "ask", "(II)I"⟩, prog_1_method_2_code, 4, some .int, ({ frames := 5, cells := 0, slots := 0, locals := 117 } : Room))
def mi_Sta_copyFrom : MI := (⟨"GuardedPool$State", "copyFrom", "(LGuardedPool$State;)V"⟩, prog_5_method_2_code, 3, none, ({ frames := 1, cells := 0, slots := 0, locals := 40 } : Room))
def mi_Blk_copyFrom : MI := (⟨"GuardedPool$Block", "copyFrom", "(LGuardedPool$Block;)V"⟩, prog_2_method_3_code, 2, none, ({ frames := 0, cells := 0, slots := 0, locals := 0 } : Room))
def mi_Tsk_copyFrom : MI := (⟨"GuardedPool$Task", "copyFrom", "(LGuardedPool$Task;)V"⟩, prog_6_method_2_code, 2, none, ({ frames := 0, cells := 0, slots := 0, locals := 0 } : Room))
def mi_Sta_grant : MI := (⟨"GuardedPool$State", "grant", "(II)I"⟩, prog_5_method_3_code, 5, some .int, ({ frames := 4, cells := 0, slots := 0, locals := 93 } : Room))
def mi_Sta_whyNot : MI := (⟨"GuardedPool$State", "whyNot", "(II)I"⟩, prog_5_method_34_code, 5, some .int, ({ frames := 3, cells := 0, slots := 0, locals := 69 } : Room))
def mi_Sta_sizeFor : MI := (⟨"GuardedPool$State", "sizeFor", "(I)I"⟩, prog_5_method_12_code, 2, some .int, ({ frames := 1, cells := 0, slots := 0, locals := 20 } : Room))
def mi_Sta_roomFor : MI := (⟨"GuardedPool$State", "roomFor", "(I)LGuardedPool$Block;"⟩, prog_5_method_14_code, 4, some (.object "GuardedPool$Block"), ({ frames := 2, cells := 0, slots := 0, locals := 46 } : Room))
def mi_Sta_lowestFree : MI := (⟨"GuardedPool$State", "lowestFree", "(I)LGuardedPool$Block;"⟩, prog_5_method_13_code, 6, some (.object "GuardedPool$Block"), ({ frames := 1, cells := 0, slots := 0, locals := 21 } : Room))
def mi_Blk_isFreeOf : MI := (⟨"GuardedPool$Block", "isFreeOf", "(I)Z"⟩, prog_2_method_6_code, 2, some .boolean, ({ frames := 0, cells := 0, slots := 0, locals := 0 } : Room))
def mi_Sta_cutOut : MI := (⟨"GuardedPool$State", "cutOut", "(I)LGuardedPool$Block;"⟩, prog_5_method_15_code, 4, some (.object "GuardedPool$Block"), ({ frames := 3, cells := 0, slots := 0, locals := 69 } : Room))
def mi_Sta_halve : MI := (⟨"GuardedPool$State", "halve", "(LGuardedPool$Block;)V"⟩, prog_5_method_16_code, 3, none, ({ frames := 2, cells := 0, slots := 0, locals := 40 } : Room))
def mi_Sta_placeAt : MI := (⟨"GuardedPool$State", "placeAt", "(I)LGuardedPool$Block;"⟩, prog_5_method_22_code, 2, some (.object "GuardedPool$Block"), ({ frames := 0, cells := 0, slots := 0, locals := 0 } : Room))
def mi_Poo_countRefusal : MI := (⟨"GuardedPool", "countRefusal", "(I)V"⟩, prog_1_method_29_code, 2, none, ({ frames := 0, cells := 0, slots := 0, locals := 0 } : Room))
def mi_Poo_recorded : MI := (⟨"GuardedPool", "recorded", "(I)I"⟩, prog_1_method_28_code, 2, some .int, ({ frames := 3, cells := 0, slots := 0, locals := 83 } : Room))
def mi_His_record : MI := (⟨"GuardedPool$History", "record", "(LGuardedPool$State;)V"⟩, prog_4_method_3_code, 2, none, ({ frames := 2, cells := 0, slots := 0, locals := 62 } : Room))
def mi_Poo_giveBack : MI := (⟨"GuardedPool", "giveBack", "(II)I"⟩, prog_1_method_3_code, 3, some .int, ({ frames := 4, cells := 0, slots := 0, locals := 104 } : Room))
def mi_Sta_takeBack : MI := (⟨"GuardedPool$State", "takeBack", "(II)I"⟩, prog_5_method_4_code, 4, some .int, ({ frames := 3, cells := 0, slots := 0, locals := 70 } : Room))
def mi_Sta_free : MI := (⟨"GuardedPool$State", "free", "(LGuardedPool$Block;)I"⟩, prog_5_method_17_code, 5, some .int, ({ frames := 2, cells := 0, slots := 0, locals := 46 } : Room))
def mi_Sta_setValue : MI := (⟨"GuardedPool$State", "setValue", "(II)V"⟩, prog_5_method_24_code, 3, none, ({ frames := 0, cells := 0, slots := 0, locals := 0 } : Room))
def mi_Sta_joinTwins : MI := (⟨"GuardedPool$State", "joinTwins", "(LGuardedPool$Block;)V"⟩, prog_5_method_18_code, 6, none, ({ frames := 1, cells := 0, slots := 0, locals := 21 } : Room))
def mi_Poo_write : MI := (⟨"GuardedPool", "write", "(IIII)I"⟩, prog_1_method_4_code, 5, some .int, ({ frames := 5, cells := 0, slots := 0, locals := 115 } : Room))
def mi_Sta_put : MI := (⟨"GuardedPool$State", "put", "(IIII)I"⟩, prog_5_method_5_code, 10, some .int, ({ frames := 4, cells := 0, slots := 0, locals := 86 } : Room))
def mi_Sta_kindOfHit : MI := (⟨"GuardedPool$State", "kindOfHit", "(ILGuardedPool$Block;LGuardedPool$Block;)I"⟩, prog_5_method_25_code, 3, some .int, ({ frames := 2, cells := 0, slots := 0, locals := 41 } : Room))
def mi_Blk_wasAskedFor : MI := (⟨"GuardedPool$Block", "wasAskedFor", "(I)Z"⟩, prog_2_method_10_code, 2, some .boolean, ({ frames := 1, cells := 0, slots := 0, locals := 20 } : Room))
def mi_Poo_touch : MI := (⟨"GuardedPool", "touch", "(I)I"⟩, prog_1_method_5_code, 2, some .int, ({ frames := 4, cells := 0, slots := 0, locals := 104 } : Room))
def mi_Sta_useNow : MI := (⟨"GuardedPool$State", "useNow", "(I)I"⟩, prog_5_method_6_code, 4, some .int, ({ frames := 2, cells := 0, slots := 0, locals := 45 } : Room))
def mi_Poo_live : MI := (⟨"GuardedPool", "live", "(IZ)I"⟩, prog_1_method_6_code, 3, some .int, ({ frames := 4, cells := 0, slots := 0, locals := 104 } : Room))
def mi_Sta_makeAlive : MI := (⟨"GuardedPool$State", "makeAlive", "(IZ)I"⟩, prog_5_method_7_code, 4, some .int, ({ frames := 1, cells := 0, slots := 0, locals := 26 } : Room))
def mi_Poo_setLimit : MI := (⟨"GuardedPool", "setLimit", "(II)I"⟩, prog_1_method_7_code, 3, some .int, ({ frames := 4, cells := 0, slots := 0, locals := 104 } : Room))
def mi_Sta_changeLimit : MI := (⟨"GuardedPool$State", "changeLimit", "(II)I"⟩, prog_5_method_8_code, 5, some .int, ({ frames := 1, cells := 0, slots := 0, locals := 21 } : Room))
def mi_Poo_setPatience : MI := (⟨"GuardedPool", "setPatience", "(I)I"⟩, prog_1_method_8_code, 2, some .int, ({ frames := 4, cells := 0, slots := 0, locals := 104 } : Room))
def mi_Sta_changePatience : MI := (⟨"GuardedPool$State", "changePatience", "(I)I"⟩, prog_5_method_9_code, 3, some .int, ({ frames := 0, cells := 0, slots := 0, locals := 0 } : Room))
def mi_Poo_sweep : MI := (⟨"GuardedPool", "sweep", "()I"⟩, prog_1_method_10_code, 1, some .int, ({ frames := 4, cells := 0, slots := 0, locals := 104 } : Room))
def mi_Sta_takeLeaksBack : MI := (⟨"GuardedPool$State", "takeLeaksBack", "()I"⟩, prog_5_method_11_code, 6, some .int, ({ frames := 3, cells := 0, slots := 0, locals := 70 } : Room))
def mi_Poo_pass : MI := (⟨"GuardedPool", "pass", "(I)I"⟩, prog_1_method_9_code, 2, some .int, ({ frames := 5, cells := 0, slots := 0, locals := 113 } : Room))
def mi_Sta_advance : MI := (⟨"GuardedPool$State", "advance", "(I)I"⟩, prog_5_method_10_code, 3, some .int, ({ frames := 4, cells := 0, slots := 0, locals := 91 } : Room))
def mi_Law_arePartsSo : MI := (⟨"GuardedPoolLaw", "arePartsSo", "(LGuardedPool;)Z"⟩, method_6_code, 16, some .boolean, ({ frames := 6, cells := 0, slots := 0, locals := 133 } : Room))
def mi_Poo_task : MI := (⟨"GuardedPool", "task", "(II)I"⟩, prog_1_method_20_code, 3, some .int, ({ frames := 4, cells := 0, slots := 0, locals := 92 } : Room))
def mi_Sta_tellTask : MI := (⟨"GuardedPool$State", "tellTask", "(II)I"⟩, prog_5_method_31_code, 4, some .int, ({ frames := 3, cells := 0, slots := 0, locals := 69 } : Room))
def mi_Law_areTasksSo : MI := (⟨"GuardedPoolLaw", "areTasksSo", "(LGuardedPool;)Z"⟩, method_7_code, 9, some .boolean, ({ frames := 6, cells := 0, slots := 0, locals := 136 } : Room))
def mi_Poo_greatest : MI := (⟨"GuardedPool", "greatest", "(I)I"⟩, prog_1_method_22_code, 2, some .int, ({ frames := 5, cells := 0, slots := 0, locals := 115 } : Room))
def mi_Sta_greatestRequest : MI := (⟨"GuardedPool$State", "greatestRequest", "(I)I"⟩, prog_5_method_35_code, 3, some .int, ({ frames := 4, cells := 0, slots := 0, locals := 93 } : Room))
def mi_Poo_reason : MI := (⟨"GuardedPool", "reason", "(II)I"⟩, prog_1_method_21_code, 3, some .int, ({ frames := 4, cells := 0, slots := 0, locals := 93 } : Room))
def mi_Poo_size : MI := (⟨"GuardedPool", "size", "(II)I"⟩, prog_1_method_25_code, 3, some .int, ({ frames := 3, cells := 0, slots := 0, locals := 70 } : Room))
def mi_Sta_tellSize : MI := (⟨"GuardedPool$State", "tellSize", "(II)I"⟩, prog_5_method_32_code, 4, some .int, ({ frames := 2, cells := 0, slots := 0, locals := 47 } : Room))
def mi_Sta_blocksOfSize : MI := (⟨"GuardedPool$State", "blocksOfSize", "(IZ)I"⟩, prog_5_method_46_code, 8, some .int, ({ frames := 1, cells := 0, slots := 0, locals := 20 } : Room))
def mi_Poo_leak : MI := (⟨"GuardedPool", "leak", "(I)I"⟩, prog_1_method_23_code, 2, some .int, ({ frames := 4, cells := 0, slots := 0, locals := 95 } : Room))
def mi_Sta_leakOfRank : MI := (⟨"GuardedPool$State", "leakOfRank", "(I)I"⟩, prog_5_method_36_code, 6, some .int, ({ frames := 3, cells := 0, slots := 0, locals := 70 } : Room))
def mi_Sta_leaksAheadOf : MI := (⟨"GuardedPool$State", "leaksAheadOf", "(LGuardedPool$Block;)I"⟩, prog_5_method_37_code, 8, some .int, ({ frames := 2, cells := 0, slots := 0, locals := 43 } : Room))
def mi_Law_isAskSo : MI := (⟨"GuardedPoolLaw", "isAskSo", "(LGuardedPool;II)Z"⟩, method_8_code, 12, some .boolean, ({ frames := 6, cells := 0, slots := 0, locals := 140 } : Room))
def mi_Poo_refused : MI := (⟨"GuardedPool", "refused", "(I)I"⟩, prog_1_method_24_code, 2, some .int, ({ frames := 0, cells := 0, slots := 0, locals := 0 } : Room))
def mi_Poo_undo : MI := (⟨"GuardedPool", "undo", "()I"⟩, prog_1_method_15_code, 1, some .int, ({ frames := 3, cells := 0, slots := 0, locals := 84 } : Room))
def mi_His_takeLatest : MI := (⟨"GuardedPool$History", "takeLatest", "(LGuardedPool$State;)I"⟩, prog_4_method_4_code, 3, some .int, ({ frames := 2, cells := 0, slots := 0, locals := 62 } : Room))
def mi_Law_law : MI := (x, code, maxLocals, ret, room_1)
/-- what a method needs to be called: its code, its class begun, its parameters -/
def mOK (y : MI) (n : Nat) : Prop := Cond.code (mnm y) (mbc y) (mml y) (mrt y) ∈ lw_g ∧ plainName (mnm y).cls = true ∧ (mnm y).cls ≠ "java/lang/invoke/MethodHandle" ∧ (mnm y).cls ≠ "java/lang/invoke/VarHandle" ∧ Cond.initialized (mnm y).cls ∈ lw_g ∧ (parseMethodDescriptor (mnm y).desc).map (fun d => d.parameters.length) = some n
def mVirt (y : MI) : Prop := Cond.instanceMethod (mnm y) ∈ lw_g ∧ Cond.selects (mnm y).cls (mnm y) (mnm y) ∈ lw_g
theorem ok_Poo_init : mOK mi_Poo_init 0 := ⟨in_tbl 14 (by decide +kernel), by decide +kernel, by decide +kernel, by decide +kernel, ini_Poo, by decide +kernel⟩
theorem in_Poo_init : Cond.instanceMethod (mnm mi_Poo_init) ∈ lw_g := in_tbl 13 (by decide +kernel)
theorem ok_Sta_init : mOK mi_Sta_init 0 := ⟨in_tbl 22 (by decide +kernel), by decide +kernel, by decide +kernel, by decide +kernel, ini_Sta, by decide +kernel⟩
theorem in_Sta_init : Cond.instanceMethod (mnm mi_Sta_init) ∈ lw_g := in_tbl 21 (by decide +kernel)
theorem ok_Blk_init : mOK mi_Blk_init 2 := ⟨in_tbl 29 (by decide +kernel), by decide +kernel, by decide +kernel, by decide +kernel, ini_Blk, by decide +kernel⟩
theorem in_Blk_init : Cond.instanceMethod (mnm mi_Blk_init) ∈ lw_g := in_tbl 28 (by decide +kernel)
theorem ok_Tsk_init : mOK mi_Tsk_init 0 := ⟨in_tbl 61 (by decide +kernel), by decide +kernel, by decide +kernel, by decide +kernel, ini_Tsk, by decide +kernel⟩
theorem in_Tsk_init : Cond.instanceMethod (mnm mi_Tsk_init) ∈ lw_g := in_tbl 60 (by decide +kernel)
theorem ok_His_init : mOK mi_His_init 0 := ⟨in_tbl 109 (by decide +kernel), by decide +kernel, by decide +kernel, by decide +kernel, ini_His, by decide +kernel⟩
theorem in_His_init : Cond.instanceMethod (mnm mi_His_init) ∈ lw_g := in_tbl 108 (by decide +kernel)
theorem ok_Txt_init : mOK mi_Txt_init 0 := ⟨in_tbl 128 (by decide +kernel), by decide +kernel, by decide +kernel, by decide +kernel, ini_Txt, by decide +kernel⟩
theorem in_Txt_init : Cond.instanceMethod (mnm mi_Txt_init) ∈ lw_g := in_tbl 127 (by decide +kernel)
theorem ok_Cmd_init : mOK mi_Cmd_init 0 := ⟨in_tbl 135 (by decide +kernel), by decide +kernel, by decide +kernel, by decide +kernel, ini_Cmd, by decide +kernel⟩
theorem in_Cmd_init : Cond.instanceMethod (mnm mi_Cmd_init) ∈ lw_g := in_tbl 134 (by decide +kernel)
theorem ok_Poo_count : mOK mi_Poo_count 1 := ⟨in_tbl 191 (by decide +kernel), by decide +kernel, by decide +kernel, by decide +kernel, ini_Poo, by decide +kernel⟩
theorem vi_Poo_count : mVirt mi_Poo_count := ⟨in_tbl 189 (by decide +kernel), in_tbl 190 (by decide +kernel)⟩
theorem ok_His_length : mOK mi_His_length 0 := ⟨in_tbl 195 (by decide +kernel), by decide +kernel, by decide +kernel, by decide +kernel, ini_His, by decide +kernel⟩
theorem vi_His_length : mVirt mi_His_length := ⟨in_tbl 193 (by decide +kernel), in_tbl 194 (by decide +kernel)⟩
theorem ok_Txt_length : mOK mi_Txt_length 0 := ⟨in_tbl 199 (by decide +kernel), by decide +kernel, by decide +kernel, by decide +kernel, ini_Txt, by decide +kernel⟩
theorem vi_Txt_length : mVirt mi_Txt_length := ⟨in_tbl 197 (by decide +kernel), in_tbl 198 (by decide +kernel)⟩
theorem ok_Sta_tellCount : mOK mi_Sta_tellCount 1 := ⟨in_tbl 203 (by decide +kernel), by decide +kernel, by decide +kernel, by decide +kernel, ini_Sta, by decide +kernel⟩
theorem vi_Sta_tellCount : mVirt mi_Sta_tellCount := ⟨in_tbl 201 (by decide +kernel), in_tbl 202 (by decide +kernel)⟩
theorem ok_Sta_ownedBlocks : mOK mi_Sta_ownedBlocks 0 := ⟨in_tbl 207 (by decide +kernel), by decide +kernel, by decide +kernel, by decide +kernel, ini_Sta, by decide +kernel⟩
theorem vi_Sta_ownedBlocks : mVirt mi_Sta_ownedBlocks := ⟨in_tbl 205 (by decide +kernel), in_tbl 206 (by decide +kernel)⟩
theorem ok_Sta_blocksOf : mOK mi_Sta_blocksOf 1 := ⟨in_tbl 211 (by decide +kernel), by decide +kernel, by decide +kernel, by decide +kernel, ini_Sta, by decide +kernel⟩
theorem vi_Sta_blocksOf : mVirt mi_Sta_blocksOf := ⟨in_tbl 210 (by decide +kernel), in_sel 0 (by decide +kernel)⟩
theorem ok_Sta_ownedWords : mOK mi_Sta_ownedWords 0 := ⟨in_tbl 215 (by decide +kernel), by decide +kernel, by decide +kernel, by decide +kernel, ini_Sta, by decide +kernel⟩
theorem vi_Sta_ownedWords : mVirt mi_Sta_ownedWords := ⟨in_tbl 214 (by decide +kernel), in_sel 1 (by decide +kernel)⟩
theorem ok_Sta_wordsOf : mOK mi_Sta_wordsOf 1 := ⟨in_tbl 219 (by decide +kernel), by decide +kernel, by decide +kernel, by decide +kernel, ini_Sta, by decide +kernel⟩
theorem vi_Sta_wordsOf : mVirt mi_Sta_wordsOf := ⟨in_tbl 218 (by decide +kernel), in_sel 2 (by decide +kernel)⟩
theorem ok_Blk_words : mOK mi_Blk_words 0 := ⟨in_tbl 223 (by decide +kernel), by decide +kernel, by decide +kernel, by decide +kernel, ini_Blk, by decide +kernel⟩
theorem vi_Blk_words : mVirt mi_Blk_words := ⟨in_tbl 221 (by decide +kernel), in_tbl 222 (by decide +kernel)⟩
theorem ok_Blk_wordsOf : mOK mi_Blk_wordsOf 1 := ⟨in_tbl 226 (by decide +kernel), by decide +kernel, by decide +kernel, by decide +kernel, ini_Blk, by decide +kernel⟩
theorem st_Blk_wordsOf : Cond.static (mnm mi_Blk_wordsOf) ∈ lw_g := in_tbl 225 (by decide +kernel)
theorem ok_Sta_askedWords : mOK mi_Sta_askedWords 0 := ⟨in_tbl 230 (by decide +kernel), by decide +kernel, by decide +kernel, by decide +kernel, ini_Sta, by decide +kernel⟩
theorem vi_Sta_askedWords : mVirt mi_Sta_askedWords := ⟨in_tbl 229 (by decide +kernel), in_sel 3 (by decide +kernel)⟩
theorem ok_Sta_askedBy : mOK mi_Sta_askedBy 1 := ⟨in_tbl 234 (by decide +kernel), by decide +kernel, by decide +kernel, by decide +kernel, ini_Sta, by decide +kernel⟩
theorem vi_Sta_askedBy : mVirt mi_Sta_askedBy := ⟨in_tbl 233 (by decide +kernel), in_sel 4 (by decide +kernel)⟩
theorem ok_Sta_leaks : mOK mi_Sta_leaks 0 := ⟨in_tbl 238 (by decide +kernel), by decide +kernel, by decide +kernel, by decide +kernel, ini_Sta, by decide +kernel⟩
theorem vi_Sta_leaks : mVirt mi_Sta_leaks := ⟨in_tbl 237 (by decide +kernel), in_sel 5 (by decide +kernel)⟩
theorem ok_Sta_leaksOf : mOK mi_Sta_leaksOf 1 := ⟨in_tbl 242 (by decide +kernel), by decide +kernel, by decide +kernel, by decide +kernel, ini_Sta, by decide +kernel⟩
theorem vi_Sta_leaksOf : mVirt mi_Sta_leaksOf := ⟨in_tbl 241 (by decide +kernel), in_sel 6 (by decide +kernel)⟩
theorem ok_Sta_isLeak : mOK mi_Sta_isLeak 1 := ⟨in_tbl 246 (by decide +kernel), by decide +kernel, by decide +kernel, by decide +kernel, ini_Sta, by decide +kernel⟩
theorem vi_Sta_isLeak : mVirt mi_Sta_isLeak := ⟨in_tbl 245 (by decide +kernel), in_sel 7 (by decide +kernel)⟩
theorem ok_Sta_taskOf : mOK mi_Sta_taskOf 1 := ⟨in_tbl 250 (by decide +kernel), by decide +kernel, by decide +kernel, by decide +kernel, ini_Sta, by decide +kernel⟩
theorem vi_Sta_taskOf : mVirt mi_Sta_taskOf := ⟨in_tbl 249 (by decide +kernel), in_sel 8 (by decide +kernel)⟩
theorem ok_Sta_ageOf : mOK mi_Sta_ageOf 1 := ⟨in_tbl 254 (by decide +kernel), by decide +kernel, by decide +kernel, by decide +kernel, ini_Sta, by decide +kernel⟩
theorem vi_Sta_ageOf : mVirt mi_Sta_ageOf := ⟨in_tbl 253 (by decide +kernel), in_sel 9 (by decide +kernel)⟩
theorem ok_Law_cell : mOK mi_Law_cell 2 := ⟨in_tbl 257 (by decide +kernel), by decide +kernel, by decide +kernel, by decide +kernel, ini_Law, by decide +kernel⟩
theorem st_Law_cell : Cond.static (mnm mi_Law_cell) ∈ lw_g := in_tbl 256 (by decide +kernel)
theorem ok_Law_low : mOK mi_Law_low 2 := ⟨in_tbl 260 (by decide +kernel), by decide +kernel, by decide +kernel, by decide +kernel, ini_Law, by decide +kernel⟩
theorem st_Law_low : Cond.static (mnm mi_Law_low) ∈ lw_g := in_tbl 259 (by decide +kernel)
theorem ok_Law_does : mOK mi_Law_does 2 := ⟨in_tbl 264 (by decide +kernel), by decide +kernel, by decide +kernel, by decide +kernel, ini_Law, by decide +kernel⟩
theorem st_Law_does : Cond.static (mnm mi_Law_does) ∈ lw_g := in_tbl 263 (by decide +kernel)
theorem ok_Law_owned : mOK mi_Law_owned 2 := ⟨in_tbl 267 (by decide +kernel), by decide +kernel, by decide +kernel, by decide +kernel, ini_Law, by decide +kernel⟩
theorem st_Law_owned : Cond.static (mnm mi_Law_owned) ∈ lw_g := in_tbl 266 (by decide +kernel)
theorem ok_Poo_word : mOK mi_Poo_word 2 := ⟨in_tbl 271 (by decide +kernel), by decide +kernel, by decide +kernel, by decide +kernel, ini_Poo, by decide +kernel⟩
theorem vi_Poo_word : mVirt mi_Poo_word := ⟨in_tbl 269 (by decide +kernel), in_tbl 270 (by decide +kernel)⟩
theorem ok_Sta_tellWord : mOK mi_Sta_tellWord 2 := ⟨in_tbl 275 (by decide +kernel), by decide +kernel, by decide +kernel, by decide +kernel, ini_Sta, by decide +kernel⟩
theorem vi_Sta_tellWord : mVirt mi_Sta_tellWord := ⟨in_tbl 273 (by decide +kernel), in_tbl 274 (by decide +kernel)⟩
theorem ok_Sta_blockAt : mOK mi_Sta_blockAt 1 := ⟨in_tbl 279 (by decide +kernel), by decide +kernel, by decide +kernel, by decide +kernel, ini_Sta, by decide +kernel⟩
theorem vi_Sta_blockAt : mVirt mi_Sta_blockAt := ⟨in_tbl 278 (by decide +kernel), in_sel 10 (by decide +kernel)⟩
theorem ok_Blk_holds : mOK mi_Blk_holds 1 := ⟨in_tbl 283 (by decide +kernel), by decide +kernel, by decide +kernel, by decide +kernel, ini_Blk, by decide +kernel⟩
theorem vi_Blk_holds : mVirt mi_Blk_holds := ⟨in_tbl 281 (by decide +kernel), in_tbl 282 (by decide +kernel)⟩
theorem ok_Sta_valueAt : mOK mi_Sta_valueAt 1 := ⟨in_tbl 288 (by decide +kernel), by decide +kernel, by decide +kernel, by decide +kernel, ini_Sta, by decide +kernel⟩
theorem vi_Sta_valueAt : mVirt mi_Sta_valueAt := ⟨in_tbl 287 (by decide +kernel), in_sel 11 (by decide +kernel)⟩
theorem ok_Blk_isOwned : mOK mi_Blk_isOwned 0 := ⟨in_tbl 292 (by decide +kernel), by decide +kernel, by decide +kernel, by decide +kernel, ini_Blk, by decide +kernel⟩
theorem vi_Blk_isOwned : mVirt mi_Blk_isOwned := ⟨in_tbl 290 (by decide +kernel), in_tbl 291 (by decide +kernel)⟩
theorem ok_Blk_hasGuardAt : mOK mi_Blk_hasGuardAt 1 := ⟨in_tbl 296 (by decide +kernel), by decide +kernel, by decide +kernel, by decide +kernel, ini_Blk, by decide +kernel⟩
theorem vi_Blk_hasGuardAt : mVirt mi_Blk_hasGuardAt := ⟨in_tbl 294 (by decide +kernel), in_tbl 295 (by decide +kernel)⟩
theorem ok_Blk_rearGuard : mOK mi_Blk_rearGuard 0 := ⟨in_tbl 301 (by decide +kernel), by decide +kernel, by decide +kernel, by decide +kernel, ini_Blk, by decide +kernel⟩
theorem vi_Blk_rearGuard : mVirt mi_Blk_rearGuard := ⟨in_tbl 299 (by decide +kernel), in_tbl 300 (by decide +kernel)⟩
theorem ok_Poo_block : mOK mi_Poo_block 2 := ⟨in_tbl 305 (by decide +kernel), by decide +kernel, by decide +kernel, by decide +kernel, ini_Poo, by decide +kernel⟩
theorem vi_Poo_block : mVirt mi_Poo_block := ⟨in_tbl 303 (by decide +kernel), in_tbl 304 (by decide +kernel)⟩
theorem ok_Sta_tellBlock : mOK mi_Sta_tellBlock 2 := ⟨in_tbl 309 (by decide +kernel), by decide +kernel, by decide +kernel, by decide +kernel, ini_Sta, by decide +kernel⟩
theorem vi_Sta_tellBlock : mVirt mi_Sta_tellBlock := ⟨in_tbl 307 (by decide +kernel), in_tbl 308 (by decide +kernel)⟩
theorem ok_Sta_blockOf : mOK mi_Sta_blockOf 1 := ⟨in_tbl 313 (by decide +kernel), by decide +kernel, by decide +kernel, by decide +kernel, ini_Sta, by decide +kernel⟩
theorem vi_Sta_blockOf : mVirt mi_Sta_blockOf := ⟨in_tbl 312 (by decide +kernel), in_sel 12 (by decide +kernel)⟩
theorem ok_Sta_brokenGuards : mOK mi_Sta_brokenGuards 1 := ⟨in_tbl 317 (by decide +kernel), by decide +kernel, by decide +kernel, by decide +kernel, ini_Sta, by decide +kernel⟩
theorem vi_Sta_brokenGuards : mVirt mi_Sta_brokenGuards := ⟨in_tbl 316 (by decide +kernel), in_sel 13 (by decide +kernel)⟩
theorem ok_Poo_ask : mOK mi_Poo_ask 2 := ⟨in_tbl 322 (by decide +kernel), by decide +kernel, by decide +kernel, by decide +kernel, ini_Poo, by decide +kernel⟩
theorem vi_Poo_ask : mVirt mi_Poo_ask := ⟨in_tbl 320 (by decide +kernel), in_tbl 321 (by decide +kernel)⟩
theorem ok_Sta_copyFrom : mOK mi_Sta_copyFrom 1 := ⟨in_tbl 326 (by decide +kernel), by decide +kernel, by decide +kernel, by decide +kernel, ini_Sta, by decide +kernel⟩
theorem vi_Sta_copyFrom : mVirt mi_Sta_copyFrom := ⟨in_tbl 324 (by decide +kernel), in_tbl 325 (by decide +kernel)⟩
theorem ok_Blk_copyFrom : mOK mi_Blk_copyFrom 1 := ⟨in_tbl 330 (by decide +kernel), by decide +kernel, by decide +kernel, by decide +kernel, ini_Blk, by decide +kernel⟩
theorem vi_Blk_copyFrom : mVirt mi_Blk_copyFrom := ⟨in_tbl 328 (by decide +kernel), in_tbl 329 (by decide +kernel)⟩
theorem ok_Tsk_copyFrom : mOK mi_Tsk_copyFrom 1 := ⟨in_tbl 337 (by decide +kernel), by decide +kernel, by decide +kernel, by decide +kernel, ini_Tsk, by decide +kernel⟩
theorem vi_Tsk_copyFrom : mVirt mi_Tsk_copyFrom := ⟨in_tbl 335 (by decide +kernel), in_tbl 336 (by decide +kernel)⟩
theorem ok_Sta_grant : mOK mi_Sta_grant 2 := ⟨in_tbl 341 (by decide +kernel), by decide +kernel, by decide +kernel, by decide +kernel, ini_Sta, by decide +kernel⟩
theorem vi_Sta_grant : mVirt mi_Sta_grant := ⟨in_tbl 339 (by decide +kernel), in_tbl 340 (by decide +kernel)⟩
theorem ok_Sta_whyNot : mOK mi_Sta_whyNot 2 := ⟨in_tbl 345 (by decide +kernel), by decide +kernel, by decide +kernel, by decide +kernel, ini_Sta, by decide +kernel⟩
theorem vi_Sta_whyNot : mVirt mi_Sta_whyNot := ⟨in_tbl 343 (by decide +kernel), in_tbl 344 (by decide +kernel)⟩
theorem ok_Sta_sizeFor : mOK mi_Sta_sizeFor 1 := ⟨in_tbl 348 (by decide +kernel), by decide +kernel, by decide +kernel, by decide +kernel, ini_Sta, by decide +kernel⟩
theorem st_Sta_sizeFor : Cond.static (mnm mi_Sta_sizeFor) ∈ lw_g := in_tbl 347 (by decide +kernel)
theorem ok_Sta_roomFor : mOK mi_Sta_roomFor 1 := ⟨in_tbl 353 (by decide +kernel), by decide +kernel, by decide +kernel, by decide +kernel, ini_Sta, by decide +kernel⟩
theorem vi_Sta_roomFor : mVirt mi_Sta_roomFor := ⟨in_tbl 352 (by decide +kernel), in_sel 14 (by decide +kernel)⟩
theorem ok_Sta_lowestFree : mOK mi_Sta_lowestFree 1 := ⟨in_tbl 357 (by decide +kernel), by decide +kernel, by decide +kernel, by decide +kernel, ini_Sta, by decide +kernel⟩
theorem vi_Sta_lowestFree : mVirt mi_Sta_lowestFree := ⟨in_tbl 356 (by decide +kernel), in_sel 15 (by decide +kernel)⟩
theorem ok_Blk_isFreeOf : mOK mi_Blk_isFreeOf 1 := ⟨in_tbl 361 (by decide +kernel), by decide +kernel, by decide +kernel, by decide +kernel, ini_Blk, by decide +kernel⟩
theorem vi_Blk_isFreeOf : mVirt mi_Blk_isFreeOf := ⟨in_tbl 359 (by decide +kernel), in_tbl 360 (by decide +kernel)⟩
theorem ok_Sta_cutOut : mOK mi_Sta_cutOut 1 := ⟨in_tbl 365 (by decide +kernel), by decide +kernel, by decide +kernel, by decide +kernel, ini_Sta, by decide +kernel⟩
theorem vi_Sta_cutOut : mVirt mi_Sta_cutOut := ⟨in_tbl 364 (by decide +kernel), in_sel 16 (by decide +kernel)⟩
theorem ok_Sta_halve : mOK mi_Sta_halve 1 := ⟨in_tbl 369 (by decide +kernel), by decide +kernel, by decide +kernel, by decide +kernel, ini_Sta, by decide +kernel⟩
theorem vi_Sta_halve : mVirt mi_Sta_halve := ⟨in_tbl 368 (by decide +kernel), in_sel 17 (by decide +kernel)⟩
theorem ok_Sta_placeAt : mOK mi_Sta_placeAt 1 := ⟨in_tbl 373 (by decide +kernel), by decide +kernel, by decide +kernel, by decide +kernel, ini_Sta, by decide +kernel⟩
theorem vi_Sta_placeAt : mVirt mi_Sta_placeAt := ⟨in_tbl 372 (by decide +kernel), in_sel 18 (by decide +kernel)⟩
theorem ok_Poo_countRefusal : mOK mi_Poo_countRefusal 1 := ⟨in_tbl 378 (by decide +kernel), by decide +kernel, by decide +kernel, by decide +kernel, ini_Poo, by decide +kernel⟩
theorem vi_Poo_countRefusal : mVirt mi_Poo_countRefusal := ⟨in_tbl 377 (by decide +kernel), in_sel 19 (by decide +kernel)⟩
theorem ok_Poo_recorded : mOK mi_Poo_recorded 1 := ⟨in_tbl 382 (by decide +kernel), by decide +kernel, by decide +kernel, by decide +kernel, ini_Poo, by decide +kernel⟩
theorem vi_Poo_recorded : mVirt mi_Poo_recorded := ⟨in_tbl 381 (by decide +kernel), in_sel 20 (by decide +kernel)⟩
theorem ok_His_record : mOK mi_His_record 1 := ⟨in_tbl 386 (by decide +kernel), by decide +kernel, by decide +kernel, by decide +kernel, ini_His, by decide +kernel⟩
theorem vi_His_record : mVirt mi_His_record := ⟨in_tbl 384 (by decide +kernel), in_tbl 385 (by decide +kernel)⟩
theorem ok_Poo_giveBack : mOK mi_Poo_giveBack 2 := ⟨in_tbl 394 (by decide +kernel), by decide +kernel, by decide +kernel, by decide +kernel, ini_Poo, by decide +kernel⟩
theorem vi_Poo_giveBack : mVirt mi_Poo_giveBack := ⟨in_tbl 392 (by decide +kernel), in_tbl 393 (by decide +kernel)⟩
theorem ok_Sta_takeBack : mOK mi_Sta_takeBack 2 := ⟨in_tbl 398 (by decide +kernel), by decide +kernel, by decide +kernel, by decide +kernel, ini_Sta, by decide +kernel⟩
theorem vi_Sta_takeBack : mVirt mi_Sta_takeBack := ⟨in_tbl 396 (by decide +kernel), in_tbl 397 (by decide +kernel)⟩
theorem ok_Sta_free : mOK mi_Sta_free 1 := ⟨in_tbl 402 (by decide +kernel), by decide +kernel, by decide +kernel, by decide +kernel, ini_Sta, by decide +kernel⟩
theorem vi_Sta_free : mVirt mi_Sta_free := ⟨in_tbl 401 (by decide +kernel), in_sel 21 (by decide +kernel)⟩
theorem ok_Sta_setValue : mOK mi_Sta_setValue 2 := ⟨in_tbl 406 (by decide +kernel), by decide +kernel, by decide +kernel, by decide +kernel, ini_Sta, by decide +kernel⟩
theorem vi_Sta_setValue : mVirt mi_Sta_setValue := ⟨in_tbl 405 (by decide +kernel), in_sel 22 (by decide +kernel)⟩
theorem ok_Sta_joinTwins : mOK mi_Sta_joinTwins 1 := ⟨in_tbl 410 (by decide +kernel), by decide +kernel, by decide +kernel, by decide +kernel, ini_Sta, by decide +kernel⟩
theorem vi_Sta_joinTwins : mVirt mi_Sta_joinTwins := ⟨in_tbl 409 (by decide +kernel), in_sel 23 (by decide +kernel)⟩
theorem ok_Poo_write : mOK mi_Poo_write 4 := ⟨in_tbl 414 (by decide +kernel), by decide +kernel, by decide +kernel, by decide +kernel, ini_Poo, by decide +kernel⟩
theorem vi_Poo_write : mVirt mi_Poo_write := ⟨in_tbl 412 (by decide +kernel), in_tbl 413 (by decide +kernel)⟩
theorem ok_Sta_put : mOK mi_Sta_put 4 := ⟨in_tbl 418 (by decide +kernel), by decide +kernel, by decide +kernel, by decide +kernel, ini_Sta, by decide +kernel⟩
theorem vi_Sta_put : mVirt mi_Sta_put := ⟨in_tbl 416 (by decide +kernel), in_tbl 417 (by decide +kernel)⟩
theorem ok_Sta_kindOfHit : mOK mi_Sta_kindOfHit 3 := ⟨in_tbl 421 (by decide +kernel), by decide +kernel, by decide +kernel, by decide +kernel, ini_Sta, by decide +kernel⟩
theorem st_Sta_kindOfHit : Cond.static (mnm mi_Sta_kindOfHit) ∈ lw_g := in_tbl 420 (by decide +kernel)
theorem ok_Blk_wasAskedFor : mOK mi_Blk_wasAskedFor 1 := ⟨in_tbl 425 (by decide +kernel), by decide +kernel, by decide +kernel, by decide +kernel, ini_Blk, by decide +kernel⟩
theorem vi_Blk_wasAskedFor : mVirt mi_Blk_wasAskedFor := ⟨in_tbl 423 (by decide +kernel), in_tbl 424 (by decide +kernel)⟩
theorem ok_Poo_touch : mOK mi_Poo_touch 1 := ⟨in_tbl 429 (by decide +kernel), by decide +kernel, by decide +kernel, by decide +kernel, ini_Poo, by decide +kernel⟩
theorem vi_Poo_touch : mVirt mi_Poo_touch := ⟨in_tbl 427 (by decide +kernel), in_tbl 428 (by decide +kernel)⟩
theorem ok_Sta_useNow : mOK mi_Sta_useNow 1 := ⟨in_tbl 433 (by decide +kernel), by decide +kernel, by decide +kernel, by decide +kernel, ini_Sta, by decide +kernel⟩
theorem vi_Sta_useNow : mVirt mi_Sta_useNow := ⟨in_tbl 431 (by decide +kernel), in_tbl 432 (by decide +kernel)⟩
theorem ok_Poo_live : mOK mi_Poo_live 2 := ⟨in_tbl 437 (by decide +kernel), by decide +kernel, by decide +kernel, by decide +kernel, ini_Poo, by decide +kernel⟩
theorem vi_Poo_live : mVirt mi_Poo_live := ⟨in_tbl 435 (by decide +kernel), in_tbl 436 (by decide +kernel)⟩
theorem ok_Sta_makeAlive : mOK mi_Sta_makeAlive 2 := ⟨in_tbl 441 (by decide +kernel), by decide +kernel, by decide +kernel, by decide +kernel, ini_Sta, by decide +kernel⟩
theorem vi_Sta_makeAlive : mVirt mi_Sta_makeAlive := ⟨in_tbl 439 (by decide +kernel), in_tbl 440 (by decide +kernel)⟩
theorem ok_Poo_setLimit : mOK mi_Poo_setLimit 2 := ⟨in_tbl 445 (by decide +kernel), by decide +kernel, by decide +kernel, by decide +kernel, ini_Poo, by decide +kernel⟩
theorem vi_Poo_setLimit : mVirt mi_Poo_setLimit := ⟨in_tbl 443 (by decide +kernel), in_tbl 444 (by decide +kernel)⟩
theorem ok_Sta_changeLimit : mOK mi_Sta_changeLimit 2 := ⟨in_tbl 449 (by decide +kernel), by decide +kernel, by decide +kernel, by decide +kernel, ini_Sta, by decide +kernel⟩
theorem vi_Sta_changeLimit : mVirt mi_Sta_changeLimit := ⟨in_tbl 447 (by decide +kernel), in_tbl 448 (by decide +kernel)⟩
theorem ok_Poo_setPatience : mOK mi_Poo_setPatience 1 := ⟨in_tbl 453 (by decide +kernel), by decide +kernel, by decide +kernel, by decide +kernel, ini_Poo, by decide +kernel⟩
theorem vi_Poo_setPatience : mVirt mi_Poo_setPatience := ⟨in_tbl 451 (by decide +kernel), in_tbl 452 (by decide +kernel)⟩
theorem ok_Sta_changePatience : mOK mi_Sta_changePatience 1 := ⟨in_tbl 457 (by decide +kernel), by decide +kernel, by decide +kernel, by decide +kernel, ini_Sta, by decide +kernel⟩
theorem vi_Sta_changePatience : mVirt mi_Sta_changePatience := ⟨in_tbl 455 (by decide +kernel), in_tbl 456 (by decide +kernel)⟩
theorem ok_Poo_sweep : mOK mi_Poo_sweep 0 := ⟨in_tbl 461 (by decide +kernel), by decide +kernel, by decide +kernel, by decide +kernel, ini_Poo, by decide +kernel⟩
theorem vi_Poo_sweep : mVirt mi_Poo_sweep := ⟨in_tbl 459 (by decide +kernel), in_tbl 460 (by decide +kernel)⟩
theorem ok_Sta_takeLeaksBack : mOK mi_Sta_takeLeaksBack 0 := ⟨in_tbl 465 (by decide +kernel), by decide +kernel, by decide +kernel, by decide +kernel, ini_Sta, by decide +kernel⟩
theorem vi_Sta_takeLeaksBack : mVirt mi_Sta_takeLeaksBack := ⟨in_tbl 463 (by decide +kernel), in_tbl 464 (by decide +kernel)⟩
theorem ok_Poo_pass : mOK mi_Poo_pass 1 := ⟨in_tbl 469 (by decide +kernel), by decide +kernel, by decide +kernel, by decide +kernel, ini_Poo, by decide +kernel⟩
theorem vi_Poo_pass : mVirt mi_Poo_pass := ⟨in_tbl 467 (by decide +kernel), in_tbl 468 (by decide +kernel)⟩
theorem ok_Sta_advance : mOK mi_Sta_advance 1 := ⟨in_tbl 473 (by decide +kernel), by decide +kernel, by decide +kernel, by decide +kernel, ini_Sta, by decide +kernel⟩
theorem vi_Sta_advance : mVirt mi_Sta_advance := ⟨in_tbl 471 (by decide +kernel), in_tbl 472 (by decide +kernel)⟩
theorem ok_Law_arePartsSo : mOK mi_Law_arePartsSo 1 := ⟨in_tbl 476 (by decide +kernel), by decide +kernel, by decide +kernel, by decide +kernel, ini_Law, by decide +kernel⟩
theorem st_Law_arePartsSo : Cond.static (mnm mi_Law_arePartsSo) ∈ lw_g := in_tbl 475 (by decide +kernel)
theorem ok_Poo_task : mOK mi_Poo_task 2 := ⟨in_tbl 480 (by decide +kernel), by decide +kernel, by decide +kernel, by decide +kernel, ini_Poo, by decide +kernel⟩
theorem vi_Poo_task : mVirt mi_Poo_task := ⟨in_tbl 478 (by decide +kernel), in_tbl 479 (by decide +kernel)⟩
theorem ok_Sta_tellTask : mOK mi_Sta_tellTask 2 := ⟨in_tbl 484 (by decide +kernel), by decide +kernel, by decide +kernel, by decide +kernel, ini_Sta, by decide +kernel⟩
theorem vi_Sta_tellTask : mVirt mi_Sta_tellTask := ⟨in_tbl 482 (by decide +kernel), in_tbl 483 (by decide +kernel)⟩
theorem ok_Law_areTasksSo : mOK mi_Law_areTasksSo 1 := ⟨in_tbl 487 (by decide +kernel), by decide +kernel, by decide +kernel, by decide +kernel, ini_Law, by decide +kernel⟩
theorem st_Law_areTasksSo : Cond.static (mnm mi_Law_areTasksSo) ∈ lw_g := in_tbl 486 (by decide +kernel)
theorem ok_Poo_greatest : mOK mi_Poo_greatest 1 := ⟨in_tbl 491 (by decide +kernel), by decide +kernel, by decide +kernel, by decide +kernel, ini_Poo, by decide +kernel⟩
theorem vi_Poo_greatest : mVirt mi_Poo_greatest := ⟨in_tbl 489 (by decide +kernel), in_tbl 490 (by decide +kernel)⟩
theorem ok_Sta_greatestRequest : mOK mi_Sta_greatestRequest 1 := ⟨in_tbl 495 (by decide +kernel), by decide +kernel, by decide +kernel, by decide +kernel, ini_Sta, by decide +kernel⟩
theorem vi_Sta_greatestRequest : mVirt mi_Sta_greatestRequest := ⟨in_tbl 493 (by decide +kernel), in_tbl 494 (by decide +kernel)⟩
theorem ok_Poo_reason : mOK mi_Poo_reason 2 := ⟨in_tbl 499 (by decide +kernel), by decide +kernel, by decide +kernel, by decide +kernel, ini_Poo, by decide +kernel⟩
theorem vi_Poo_reason : mVirt mi_Poo_reason := ⟨in_tbl 497 (by decide +kernel), in_tbl 498 (by decide +kernel)⟩
theorem ok_Poo_size : mOK mi_Poo_size 2 := ⟨in_tbl 503 (by decide +kernel), by decide +kernel, by decide +kernel, by decide +kernel, ini_Poo, by decide +kernel⟩
theorem vi_Poo_size : mVirt mi_Poo_size := ⟨in_tbl 501 (by decide +kernel), in_tbl 502 (by decide +kernel)⟩
theorem ok_Sta_tellSize : mOK mi_Sta_tellSize 2 := ⟨in_tbl 507 (by decide +kernel), by decide +kernel, by decide +kernel, by decide +kernel, ini_Sta, by decide +kernel⟩
theorem vi_Sta_tellSize : mVirt mi_Sta_tellSize := ⟨in_tbl 505 (by decide +kernel), in_tbl 506 (by decide +kernel)⟩
theorem ok_Sta_blocksOfSize : mOK mi_Sta_blocksOfSize 2 := ⟨in_tbl 511 (by decide +kernel), by decide +kernel, by decide +kernel, by decide +kernel, ini_Sta, by decide +kernel⟩
theorem vi_Sta_blocksOfSize : mVirt mi_Sta_blocksOfSize := ⟨in_tbl 510 (by decide +kernel), in_sel 24 (by decide +kernel)⟩
theorem ok_Poo_leak : mOK mi_Poo_leak 1 := ⟨in_tbl 515 (by decide +kernel), by decide +kernel, by decide +kernel, by decide +kernel, ini_Poo, by decide +kernel⟩
theorem vi_Poo_leak : mVirt mi_Poo_leak := ⟨in_tbl 513 (by decide +kernel), in_tbl 514 (by decide +kernel)⟩
theorem ok_Sta_leakOfRank : mOK mi_Sta_leakOfRank 1 := ⟨in_tbl 519 (by decide +kernel), by decide +kernel, by decide +kernel, by decide +kernel, ini_Sta, by decide +kernel⟩
theorem vi_Sta_leakOfRank : mVirt mi_Sta_leakOfRank := ⟨in_tbl 517 (by decide +kernel), in_tbl 518 (by decide +kernel)⟩
theorem ok_Sta_leaksAheadOf : mOK mi_Sta_leaksAheadOf 1 := ⟨in_tbl 523 (by decide +kernel), by decide +kernel, by decide +kernel, by decide +kernel, ini_Sta, by decide +kernel⟩
theorem vi_Sta_leaksAheadOf : mVirt mi_Sta_leaksAheadOf := ⟨in_tbl 522 (by decide +kernel), in_sel 25 (by decide +kernel)⟩
theorem ok_Law_isAskSo : mOK mi_Law_isAskSo 3 := ⟨in_tbl 526 (by decide +kernel), by decide +kernel, by decide +kernel, by decide +kernel, ini_Law, by decide +kernel⟩
theorem st_Law_isAskSo : Cond.static (mnm mi_Law_isAskSo) ∈ lw_g := in_tbl 525 (by decide +kernel)
theorem ok_Poo_refused : mOK mi_Poo_refused 1 := ⟨in_tbl 530 (by decide +kernel), by decide +kernel, by decide +kernel, by decide +kernel, ini_Poo, by decide +kernel⟩
theorem vi_Poo_refused : mVirt mi_Poo_refused := ⟨in_tbl 528 (by decide +kernel), in_tbl 529 (by decide +kernel)⟩
theorem ok_Poo_undo : mOK mi_Poo_undo 0 := ⟨in_tbl 534 (by decide +kernel), by decide +kernel, by decide +kernel, by decide +kernel, ini_Poo, by decide +kernel⟩
theorem vi_Poo_undo : mVirt mi_Poo_undo := ⟨in_tbl 532 (by decide +kernel), in_tbl 533 (by decide +kernel)⟩
theorem ok_His_takeLatest : mOK mi_His_takeLatest 1 := ⟨in_tbl 538 (by decide +kernel), by decide +kernel, by decide +kernel, by decide +kernel, ini_His, by decide +kernel⟩
theorem vi_His_takeLatest : mVirt mi_His_takeLatest := ⟨in_tbl 536 (by decide +kernel), in_tbl 537 (by decide +kernel)⟩
theorem ml_Law_81 : Cond.methodLink "GuardedPoolLaw" 81 (mnm mi_Poo_init) ∈ lw_g := in_tbl 12 (by decide +kernel)
theorem ml_Poo_1 : Cond.methodLink "GuardedPool" 1 Lib.objectInit ∈ lw_g := in_tbl 15 (by decide +kernel)
theorem ml_Poo_9 : Cond.methodLink "GuardedPool" 9 (mnm mi_Sta_init) ∈ lw_g := in_tbl 20 (by decide +kernel)
theorem ml_Sta_3 : Cond.methodLink "GuardedPool$State" 3 Lib.objectInit ∈ lw_g := in_tbl 23 (by decide +kernel)
theorem ml_Sta_17 : Cond.methodLink "GuardedPool$State" 17 (mnm mi_Blk_init) ∈ lw_g := in_tbl 27 (by decide +kernel)
theorem ml_Blk_3 : Cond.methodLink "GuardedPool$Block" 3 Lib.objectInit ∈ lw_g := in_tbl 30 (by decide +kernel)
theorem ml_Sta_30 : Cond.methodLink "GuardedPool$State" 30 (mnm mi_Tsk_init) ∈ lw_g := in_tbl 59 (by decide +kernel)
theorem ml_Tsk_3 : Cond.methodLink "GuardedPool$Task" 3 Lib.objectInit ∈ lw_g := in_tbl 62 (by decide +kernel)
theorem ml_Poo_24 : Cond.methodLink "GuardedPool" 24 (mnm mi_His_init) ∈ lw_g := in_tbl 107 (by decide +kernel)
theorem ml_His_3 : Cond.methodLink "GuardedPool$History" 3 Lib.objectInit ∈ lw_g := in_tbl 110 (by decide +kernel)
theorem ml_His_17 : Cond.methodLink "GuardedPool$History" 17 (mnm mi_Sta_init) ∈ lw_g := in_tbl 113 (by decide +kernel)
theorem ml_Poo_31 : Cond.methodLink "GuardedPool" 31 (mnm mi_Txt_init) ∈ lw_g := in_tbl 126 (by decide +kernel)
theorem ml_Txt_3 : Cond.methodLink "GuardedPool$Text" 3 Lib.objectInit ∈ lw_g := in_tbl 129 (by decide +kernel)
theorem ml_Txt_21 : Cond.methodLinkNest "GuardedPool$Text" 21 (mnm mi_Cmd_init) "GuardedPool" ∈ lw_tbl := in_raw 133 (by decide +kernel)
theorem ml_Cmd_1 : Cond.methodLink "GuardedPool$Command" 1 Lib.objectInit ∈ lw_g := in_tbl 136 (by decide +kernel)
theorem ml_Law_8 : Cond.methodLink "GuardedPoolLaw" 8 (mnm mi_Poo_count) ∈ lw_g := in_tbl 188 (by decide +kernel)
theorem ml_Poo_154 : Cond.methodLink "GuardedPool" 154 (mnm mi_His_length) ∈ lw_g := in_tbl 192 (by decide +kernel)
theorem ml_Poo_157 : Cond.methodLink "GuardedPool" 157 (mnm mi_Txt_length) ∈ lw_g := in_tbl 196 (by decide +kernel)
theorem ml_Poo_158 : Cond.methodLink "GuardedPool" 158 (mnm mi_Sta_tellCount) ∈ lw_g := in_tbl 200 (by decide +kernel)
theorem ml_Sta_196 : Cond.methodLink "GuardedPool$State" 196 (mnm mi_Sta_ownedBlocks) ∈ lw_g := in_tbl 204 (by decide +kernel)
theorem ml_Sta_124 : Cond.methodLink "GuardedPool$State" 124 (mnm mi_Sta_blocksOf) ∈ lw_g := in_tbl 208 (by decide +kernel)
theorem ml_Sta_199 : Cond.methodLink "GuardedPool$State" 199 (mnm mi_Sta_ownedWords) ∈ lw_g := in_tbl 212 (by decide +kernel)
theorem ml_Sta_185 : Cond.methodLink "GuardedPool$State" 185 (mnm mi_Sta_wordsOf) ∈ lw_g := in_tbl 216 (by decide +kernel)
theorem ml_Sta_157 : Cond.methodLink "GuardedPool$State" 157 (mnm mi_Blk_words) ∈ lw_g := in_tbl 220 (by decide +kernel)
theorem ml_Blk_30 : Cond.methodLink "GuardedPool$Block" 30 (mnm mi_Blk_wordsOf) ∈ lw_g := in_tbl 224 (by decide +kernel)
theorem ml_Sta_202 : Cond.methodLink "GuardedPool$State" 202 (mnm mi_Sta_askedWords) ∈ lw_g := in_tbl 227 (by decide +kernel)
theorem ml_Sta_186 : Cond.methodLink "GuardedPool$State" 186 (mnm mi_Sta_askedBy) ∈ lw_g := in_tbl 231 (by decide +kernel)
theorem ml_Sta_130 : Cond.methodLink "GuardedPool$State" 130 (mnm mi_Sta_leaks) ∈ lw_g := in_tbl 235 (by decide +kernel)
theorem ml_Sta_189 : Cond.methodLink "GuardedPool$State" 189 (mnm mi_Sta_leaksOf) ∈ lw_g := in_tbl 239 (by decide +kernel)
theorem ml_Sta_134 : Cond.methodLink "GuardedPool$State" 134 (mnm mi_Sta_isLeak) ∈ lw_g := in_tbl 243 (by decide +kernel)
theorem ml_Sta_90 : Cond.methodLink "GuardedPool$State" 90 (mnm mi_Sta_taskOf) ∈ lw_g := in_tbl 247 (by decide +kernel)
theorem ml_Sta_121 : Cond.methodLink "GuardedPool$State" 121 (mnm mi_Sta_ageOf) ∈ lw_g := in_tbl 251 (by decide +kernel)
theorem ml_Law_82 : Cond.methodLink "GuardedPoolLaw" 82 (mnm mi_Law_cell) ∈ lw_g := in_tbl 255 (by decide +kernel)
theorem ml_Law_14 : Cond.methodLink "GuardedPoolLaw" 14 (mnm mi_Law_low) ∈ lw_g := in_tbl 258 (by decide +kernel)
theorem ml_Law_86 : Cond.methodLink "GuardedPoolLaw" 86 (mnm mi_Law_does) ∈ lw_g := in_tbl 262 (by decide +kernel)
theorem ml_Law_26 : Cond.methodLink "GuardedPoolLaw" 26 (mnm mi_Law_owned) ∈ lw_g := in_tbl 265 (by decide +kernel)
theorem ml_Law_20 : Cond.methodLink "GuardedPoolLaw" 20 (mnm mi_Poo_word) ∈ lw_g := in_tbl 268 (by decide +kernel)
theorem ml_Poo_139 : Cond.methodLink "GuardedPool" 139 (mnm mi_Sta_tellWord) ∈ lw_g := in_tbl 272 (by decide +kernel)
theorem ml_Sta_101 : Cond.methodLink "GuardedPool$State" 101 (mnm mi_Sta_blockAt) ∈ lw_g := in_tbl 276 (by decide +kernel)
theorem ml_Sta_173 : Cond.methodLink "GuardedPool$State" 173 (mnm mi_Blk_holds) ∈ lw_g := in_tbl 280 (by decide +kernel)
theorem ml_Blk_34 : Cond.methodLink "GuardedPool$Block" 34 (mnm mi_Blk_words) ∈ lw_g := in_tbl 284 (by decide +kernel)
theorem ml_Sta_112 : Cond.methodLink "GuardedPool$State" 112 (mnm mi_Sta_valueAt) ∈ lw_g := in_tbl 285 (by decide +kernel)
theorem ml_Sta_169 : Cond.methodLink "GuardedPool$State" 169 (mnm mi_Blk_isOwned) ∈ lw_g := in_tbl 289 (by decide +kernel)
theorem ml_Sta_176 : Cond.methodLink "GuardedPool$State" 176 (mnm mi_Blk_hasGuardAt) ∈ lw_g := in_tbl 293 (by decide +kernel)
theorem ml_Blk_38 : Cond.methodLink "GuardedPool$Block" 38 (mnm mi_Blk_isOwned) ∈ lw_g := in_tbl 297 (by decide +kernel)
theorem ml_Blk_42 : Cond.methodLink "GuardedPool$Block" 42 (mnm mi_Blk_rearGuard) ∈ lw_g := in_tbl 298 (by decide +kernel)
theorem ml_Law_23 : Cond.methodLink "GuardedPoolLaw" 23 (mnm mi_Poo_block) ∈ lw_g := in_tbl 302 (by decide +kernel)
theorem ml_Poo_136 : Cond.methodLink "GuardedPool" 136 (mnm mi_Sta_tellBlock) ∈ lw_g := in_tbl 306 (by decide +kernel)
theorem ml_Sta_87 : Cond.methodLink "GuardedPool$State" 87 (mnm mi_Sta_blockOf) ∈ lw_g := in_tbl 310 (by decide +kernel)
theorem ml_Sta_163 : Cond.methodLink "GuardedPool$State" 163 (mnm mi_Sta_brokenGuards) ∈ lw_g := in_tbl 314 (by decide +kernel)
theorem ml_Sta_182 : Cond.methodLink "GuardedPool$State" 182 (mnm mi_Blk_rearGuard) ∈ lw_g := in_tbl 318 (by decide +kernel)
theorem ml_Law_30 : Cond.methodLink "GuardedPoolLaw" 30 (mnm mi_Poo_ask) ∈ lw_g := in_tbl 319 (by decide +kernel)
theorem ml_Poo_40 : Cond.methodLink "GuardedPool" 40 (mnm mi_Sta_copyFrom) ∈ lw_g := in_tbl 323 (by decide +kernel)
theorem ml_Sta_35 : Cond.methodLink "GuardedPool$State" 35 (mnm mi_Blk_copyFrom) ∈ lw_g := in_tbl 327 (by decide +kernel)
theorem ml_Sta_39 : Cond.methodLink "GuardedPool$State" 39 arraycopyName ∈ lw_g := in_tbl 331 (by decide +kernel)
theorem ml_Sta_45 : Cond.methodLink "GuardedPool$State" 45 (mnm mi_Tsk_copyFrom) ∈ lw_g := in_tbl 334 (by decide +kernel)
theorem ml_Poo_44 : Cond.methodLink "GuardedPool" 44 (mnm mi_Sta_grant) ∈ lw_g := in_tbl 338 (by decide +kernel)
theorem ml_Sta_63 : Cond.methodLink "GuardedPool$State" 63 (mnm mi_Sta_whyNot) ∈ lw_g := in_tbl 342 (by decide +kernel)
theorem ml_Sta_67 : Cond.methodLink "GuardedPool$State" 67 (mnm mi_Sta_sizeFor) ∈ lw_g := in_tbl 346 (by decide +kernel)
theorem ml_Sta_138 : Cond.methodLink "GuardedPool$State" 138 (mnm mi_Blk_wordsOf) ∈ lw_g := in_tbl 349 (by decide +kernel)
theorem ml_Sta_148 : Cond.methodLink "GuardedPool$State" 148 (mnm mi_Sta_roomFor) ∈ lw_g := in_tbl 350 (by decide +kernel)
theorem ml_Sta_145 : Cond.methodLink "GuardedPool$State" 145 (mnm mi_Sta_lowestFree) ∈ lw_g := in_tbl 354 (by decide +kernel)
theorem ml_Sta_141 : Cond.methodLink "GuardedPool$State" 141 (mnm mi_Blk_isFreeOf) ∈ lw_g := in_tbl 358 (by decide +kernel)
theorem ml_Sta_71 : Cond.methodLink "GuardedPool$State" 71 (mnm mi_Sta_cutOut) ∈ lw_g := in_tbl 362 (by decide +kernel)
theorem ml_Sta_154 : Cond.methodLink "GuardedPool$State" 154 (mnm mi_Sta_halve) ∈ lw_g := in_tbl 366 (by decide +kernel)
theorem ml_Sta_160 : Cond.methodLink "GuardedPool$State" 160 (mnm mi_Sta_placeAt) ∈ lw_g := in_tbl 370 (by decide +kernel)
theorem ml_Poo_48 : Cond.methodLink "GuardedPool" 48 (mnm mi_Sta_whyNot) ∈ lw_g := in_tbl 374 (by decide +kernel)
theorem ml_Poo_51 : Cond.methodLink "GuardedPool" 51 (mnm mi_Poo_countRefusal) ∈ lw_g := in_tbl 375 (by decide +kernel)
theorem ml_Poo_55 : Cond.methodLink "GuardedPool" 55 (mnm mi_Poo_recorded) ∈ lw_g := in_tbl 379 (by decide +kernel)
theorem ml_Poo_161 : Cond.methodLink "GuardedPool" 161 (mnm mi_His_record) ∈ lw_g := in_tbl 383 (by decide +kernel)
theorem ml_His_25 : Cond.methodLink "GuardedPool$History" 25 (mnm mi_Sta_copyFrom) ∈ lw_g := in_tbl 387 (by decide +kernel)
theorem ml_His_29 : Cond.methodLink "GuardedPool$History" 29 Lib.Math.min.name ∈ lw_g := in_tbl 388 (by decide +kernel)
theorem ml_Law_33 : Cond.methodLink "GuardedPoolLaw" 33 (mnm mi_Poo_giveBack) ∈ lw_g := in_tbl 391 (by decide +kernel)
theorem ml_Poo_59 : Cond.methodLink "GuardedPool" 59 (mnm mi_Sta_takeBack) ∈ lw_g := in_tbl 395 (by decide +kernel)
theorem ml_Sta_94 : Cond.methodLink "GuardedPool$State" 94 (mnm mi_Sta_free) ∈ lw_g := in_tbl 399 (by decide +kernel)
theorem ml_Sta_118 : Cond.methodLink "GuardedPool$State" 118 (mnm mi_Sta_setValue) ∈ lw_g := in_tbl 403 (by decide +kernel)
theorem ml_Sta_166 : Cond.methodLink "GuardedPool$State" 166 (mnm mi_Sta_joinTwins) ∈ lw_g := in_tbl 407 (by decide +kernel)
theorem ml_Law_36 : Cond.methodLink "GuardedPoolLaw" 36 (mnm mi_Poo_write) ∈ lw_g := in_tbl 411 (by decide +kernel)
theorem ml_Poo_62 : Cond.methodLink "GuardedPool" 62 (mnm mi_Sta_put) ∈ lw_g := in_tbl 415 (by decide +kernel)
theorem ml_Sta_108 : Cond.methodLink "GuardedPool$State" 108 (mnm mi_Sta_kindOfHit) ∈ lw_g := in_tbl 419 (by decide +kernel)
theorem ml_Sta_179 : Cond.methodLink "GuardedPool$State" 179 (mnm mi_Blk_wasAskedFor) ∈ lw_g := in_tbl 422 (by decide +kernel)
theorem ml_Law_40 : Cond.methodLink "GuardedPoolLaw" 40 (mnm mi_Poo_touch) ∈ lw_g := in_tbl 426 (by decide +kernel)
theorem ml_Poo_66 : Cond.methodLink "GuardedPool" 66 (mnm mi_Sta_useNow) ∈ lw_g := in_tbl 430 (by decide +kernel)
theorem ml_Law_43 : Cond.methodLink "GuardedPoolLaw" 43 (mnm mi_Poo_live) ∈ lw_g := in_tbl 434 (by decide +kernel)
theorem ml_Poo_69 : Cond.methodLink "GuardedPool" 69 (mnm mi_Sta_makeAlive) ∈ lw_g := in_tbl 438 (by decide +kernel)
theorem ml_Law_47 : Cond.methodLink "GuardedPoolLaw" 47 (mnm mi_Poo_setLimit) ∈ lw_g := in_tbl 442 (by decide +kernel)
theorem ml_Poo_73 : Cond.methodLink "GuardedPool" 73 (mnm mi_Sta_changeLimit) ∈ lw_g := in_tbl 446 (by decide +kernel)
theorem ml_Law_50 : Cond.methodLink "GuardedPoolLaw" 50 (mnm mi_Poo_setPatience) ∈ lw_g := in_tbl 450 (by decide +kernel)
theorem ml_Poo_76 : Cond.methodLink "GuardedPool" 76 (mnm mi_Sta_changePatience) ∈ lw_g := in_tbl 454 (by decide +kernel)
theorem ml_Law_53 : Cond.methodLink "GuardedPoolLaw" 53 (mnm mi_Poo_sweep) ∈ lw_g := in_tbl 458 (by decide +kernel)
theorem ml_Poo_82 : Cond.methodLink "GuardedPool" 82 (mnm mi_Sta_takeLeaksBack) ∈ lw_g := in_tbl 462 (by decide +kernel)
theorem ml_Law_57 : Cond.methodLink "GuardedPoolLaw" 57 (mnm mi_Poo_pass) ∈ lw_g := in_tbl 466 (by decide +kernel)
theorem ml_Poo_79 : Cond.methodLink "GuardedPool" 79 (mnm mi_Sta_advance) ∈ lw_g := in_tbl 470 (by decide +kernel)
theorem ml_Law_89 : Cond.methodLink "GuardedPoolLaw" 89 (mnm mi_Law_arePartsSo) ∈ lw_g := in_tbl 474 (by decide +kernel)
theorem ml_Law_60 : Cond.methodLink "GuardedPoolLaw" 60 (mnm mi_Poo_task) ∈ lw_g := in_tbl 477 (by decide +kernel)
theorem ml_Poo_142 : Cond.methodLink "GuardedPool" 142 (mnm mi_Sta_tellTask) ∈ lw_g := in_tbl 481 (by decide +kernel)
theorem ml_Law_93 : Cond.methodLink "GuardedPoolLaw" 93 (mnm mi_Law_areTasksSo) ∈ lw_g := in_tbl 485 (by decide +kernel)
theorem ml_Law_63 : Cond.methodLink "GuardedPoolLaw" 63 (mnm mi_Poo_greatest) ∈ lw_g := in_tbl 488 (by decide +kernel)
theorem ml_Poo_145 : Cond.methodLink "GuardedPool" 145 (mnm mi_Sta_greatestRequest) ∈ lw_g := in_tbl 492 (by decide +kernel)
theorem ml_Law_66 : Cond.methodLink "GuardedPoolLaw" 66 (mnm mi_Poo_reason) ∈ lw_g := in_tbl 496 (by decide +kernel)
theorem ml_Law_69 : Cond.methodLink "GuardedPoolLaw" 69 (mnm mi_Poo_size) ∈ lw_g := in_tbl 500 (by decide +kernel)
theorem ml_Poo_151 : Cond.methodLink "GuardedPool" 151 (mnm mi_Sta_tellSize) ∈ lw_g := in_tbl 504 (by decide +kernel)
theorem ml_Sta_192 : Cond.methodLink "GuardedPool$State" 192 (mnm mi_Sta_blocksOfSize) ∈ lw_g := in_tbl 508 (by decide +kernel)
theorem ml_Law_72 : Cond.methodLink "GuardedPoolLaw" 72 (mnm mi_Poo_leak) ∈ lw_g := in_tbl 512 (by decide +kernel)
theorem ml_Poo_148 : Cond.methodLink "GuardedPool" 148 (mnm mi_Sta_leakOfRank) ∈ lw_g := in_tbl 516 (by decide +kernel)
theorem ml_Sta_205 : Cond.methodLink "GuardedPool$State" 205 (mnm mi_Sta_leaksAheadOf) ∈ lw_g := in_tbl 520 (by decide +kernel)
theorem ml_Law_96 : Cond.methodLink "GuardedPoolLaw" 96 (mnm mi_Law_isAskSo) ∈ lw_g := in_tbl 524 (by decide +kernel)
theorem ml_Law_75 : Cond.methodLink "GuardedPoolLaw" 75 (mnm mi_Poo_refused) ∈ lw_g := in_tbl 527 (by decide +kernel)
theorem ml_Law_78 : Cond.methodLink "GuardedPoolLaw" 78 (mnm mi_Poo_undo) ∈ lw_g := in_tbl 531 (by decide +kernel)
theorem ml_Poo_126 : Cond.methodLink "GuardedPool" 126 (mnm mi_His_takeLatest) ∈ lw_g := in_tbl 535 (by decide +kernel)
theorem fl_Blk_9 : Cond.fieldLink "GuardedPool$Block" 9 (cnm 0) (Tcl 0 0).2.1 (Tcl 0 0).2.2.1 ∈ lw_g := in_tbl 31 (by decide +kernel)
theorem fl_Sta_98 : Cond.fieldLink "GuardedPool$State" 98 (cnm 0) (Tcl 0 0).2.1 (Tcl 0 0).2.2.1 ∈ lw_g := in_tbl 32 (by decide +kernel)
theorem fl_Blk_15 : Cond.fieldLink "GuardedPool$Block" 15 (cnm 0) (Tcl 0 1).2.1 (Tcl 0 1).2.2.1 ∈ lw_g := in_tbl 33 (by decide +kernel)
theorem fl_Sta_151 : Cond.fieldLink "GuardedPool$State" 151 (cnm 0) (Tcl 0 1).2.1 (Tcl 0 1).2.2.1 ∈ lw_g := in_tbl 34 (by decide +kernel)
theorem fl_Blk_18 : Cond.fieldLink "GuardedPool$Block" 18 (cnm 0) (Tcl 0 2).2.1 (Tcl 0 2).2.2.1 ∈ lw_g := in_tbl 35 (by decide +kernel)
theorem fl_Sta_75 : Cond.fieldLink "GuardedPool$State" 75 (cnm 0) (Tcl 0 2).2.1 (Tcl 0 2).2.2.1 ∈ lw_g := in_tbl 36 (by decide +kernel)
theorem fl_Blk_21 : Cond.fieldLink "GuardedPool$Block" 21 (cnm 0) (Tcl 0 3).2.1 (Tcl 0 3).2.2.1 ∈ lw_g := in_tbl 37 (by decide +kernel)
theorem fl_Sta_78 : Cond.fieldLink "GuardedPool$State" 78 (cnm 0) (Tcl 0 3).2.1 (Tcl 0 3).2.2.1 ∈ lw_g := in_tbl 38 (by decide +kernel)
theorem fl_Blk_24 : Cond.fieldLink "GuardedPool$Block" 24 (cnm 0) (Tcl 0 4).2.1 (Tcl 0 4).2.2.1 ∈ lw_g := in_tbl 39 (by decide +kernel)
theorem fl_Sta_81 : Cond.fieldLink "GuardedPool$State" 81 (cnm 0) (Tcl 0 4).2.1 (Tcl 0 4).2.2.1 ∈ lw_g := in_tbl 40 (by decide +kernel)
theorem fl_Blk_27 : Cond.fieldLink "GuardedPool$Block" 27 (cnm 0) (Tcl 0 5).2.1 (Tcl 0 5).2.2.1 ∈ lw_g := in_tbl 41 (by decide +kernel)
theorem fl_Sta_84 : Cond.fieldLink "GuardedPool$State" 84 (cnm 0) (Tcl 0 5).2.1 (Tcl 0 5).2.2.1 ∈ lw_g := in_tbl 42 (by decide +kernel)
theorem fl_Tsk_9 : Cond.fieldLink "GuardedPool$Task" 9 (cnm 4) (Tcl 4 0).2.1 (Tcl 4 0).2.2.1 ∈ lw_g := in_tbl 63 (by decide +kernel)
theorem fl_Sta_104 : Cond.fieldLink "GuardedPool$State" 104 (cnm 4) (Tcl 4 0).2.1 (Tcl 4 0).2.2.1 ∈ lw_g := in_tbl 64 (by decide +kernel)
theorem fl_Tsk_15 : Cond.fieldLink "GuardedPool$Task" 15 (cnm 4) (Tcl 4 1).2.1 (Tcl 4 1).2.2.1 ∈ lw_g := in_tbl 65 (by decide +kernel)
theorem fl_Sta_127 : Cond.fieldLink "GuardedPool$State" 127 (cnm 4) (Tcl 4 1).2.1 (Tcl 4 1).2.2.1 ∈ lw_g := in_tbl 66 (by decide +kernel)
theorem fl_Tsk_19 : Cond.fieldLink "GuardedPool$Task" 19 (cnm 4) (Tcl 4 2).2.1 (Tcl 4 2).2.2.1 ∈ lw_g := in_tbl 67 (by decide +kernel)
theorem fl_Sta_115 : Cond.fieldLink "GuardedPool$State" 115 (cnm 4) (Tcl 4 2).2.1 (Tcl 4 2).2.2.1 ∈ lw_g := in_tbl 68 (by decide +kernel)
theorem fl_Sta_11 : Cond.fieldLink "GuardedPool$State" 11 (cnm 3) (Tcl 3 0).2.1 (Tcl 3 0).2.2.1 ∈ lw_g := in_tbl 77 (by decide +kernel)
theorem fl_Sta_20 : Cond.fieldLink "GuardedPool$State" 20 (cnm 3) (Tcl 3 1).2.1 (Tcl 3 1).2.2.1 ∈ lw_g := in_tbl 78 (by decide +kernel)
theorem fl_Sta_26 : Cond.fieldLink "GuardedPool$State" 26 (cnm 3) (Tcl 3 2).2.1 (Tcl 3 2).2.2.1 ∈ lw_g := in_tbl 79 (by decide +kernel)
theorem fl_Sta_48 : Cond.fieldLink "GuardedPool$State" 48 (cnm 3) (Tcl 3 3).2.1 (Tcl 3 3).2.2.1 ∈ lw_g := in_tbl 80 (by decide +kernel)
theorem fl_Sta_31 : Cond.fieldLink "GuardedPool$State" 31 (cnm 3) (Tcl 3 4).2.1 (Tcl 3 4).2.2.1 ∈ lw_g := in_tbl 81 (by decide +kernel)
theorem fl_Sta_51 : Cond.fieldLink "GuardedPool$State" 51 (cnm 3) (Tcl 3 5).2.1 (Tcl 3 5).2.2.1 ∈ lw_g := in_tbl 82 (by decide +kernel)
theorem fl_Sta_54 : Cond.fieldLink "GuardedPool$State" 54 (cnm 3) (Tcl 3 6).2.1 (Tcl 3 6).2.2.1 ∈ lw_g := in_tbl 83 (by decide +kernel)
theorem fl_Sta_57 : Cond.fieldLink "GuardedPool$State" 57 (cnm 3) (Tcl 3 7).2.1 (Tcl 3 7).2.2.1 ∈ lw_g := in_tbl 84 (by decide +kernel)
theorem fl_Sta_60 : Cond.fieldLink "GuardedPool$State" 60 (cnm 3) (Tcl 3 8).2.1 (Tcl 3 8).2.2.1 ∈ lw_g := in_tbl 85 (by decide +kernel)
theorem fl_His_11 : Cond.fieldLink "GuardedPool$History" 11 (cnm 2) (Tcl 2 0).2.1 (Tcl 2 0).2.2.1 ∈ lw_g := in_tbl 114 (by decide +kernel)
theorem fl_His_22 : Cond.fieldLink "GuardedPool$History" 22 (cnm 2) (Tcl 2 1).2.1 (Tcl 2 1).2.2.1 ∈ lw_g := in_tbl 115 (by decide +kernel)
theorem fl_His_18 : Cond.fieldLink "GuardedPool$History" 18 (cnm 2) (Tcl 2 2).2.1 (Tcl 2 2).2.2.1 ∈ lw_g := in_tbl 116 (by decide +kernel)
theorem fl_Txt_9 : Cond.fieldLink "GuardedPool$Text" 9 (cnm 5) (Tcl 5 0).2.1 (Tcl 5 0).2.2.1 ∈ lw_g := in_tbl 145 (by decide +kernel)
theorem fl_Txt_22 : Cond.fieldLink "GuardedPool$Text" 22 (cnm 5) (Tcl 5 1).2.1 (Tcl 5 1).2.2.1 ∈ lw_g := in_tbl 146 (by decide +kernel)
theorem fl_Txt_17 : Cond.fieldLink "GuardedPool$Text" 17 (cnm 5) (Tcl 5 2).2.1 (Tcl 5 2).2.2.1 ∈ lw_g := in_tbl 147 (by decide +kernel)
theorem fl_Poo_10 : Cond.fieldLink "GuardedPool" 10 (cnm 6) (Tcl 6 0).2.1 (Tcl 6 0).2.2.1 ∈ lw_g := in_tbl 161 (by decide +kernel)
theorem fl_Poo_16 : Cond.fieldLink "GuardedPool" 16 (cnm 6) (Tcl 6 1).2.1 (Tcl 6 1).2.2.1 ∈ lw_g := in_tbl 162 (by decide +kernel)
theorem fl_Poo_19 : Cond.fieldLink "GuardedPool" 19 (cnm 6) (Tcl 6 2).2.1 (Tcl 6 2).2.2.1 ∈ lw_g := in_tbl 163 (by decide +kernel)
theorem fl_Poo_25 : Cond.fieldLink "GuardedPool" 25 (cnm 6) (Tcl 6 4).2.1 (Tcl 6 4).2.2.1 ∈ lw_g := in_tbl 164 (by decide +kernel)
theorem fl_Poo_32 : Cond.fieldLink "GuardedPool" 32 (cnm 6) (Tcl 6 5).2.1 (Tcl 6 5).2.2.1 ∈ lw_g := in_tbl 165 (by decide +kernel)
theorem fl_Poo_36 : Cond.fieldLink "GuardedPool" 36 (cnm 6) (Tcl 6 6).2.1 (Tcl 6 6).2.2.1 ∈ lw_g := in_tbl 166 (by decide +kernel)
theorem cl_Law_9 : Cond.classLink "GuardedPoolLaw" 9 (cnm 6) ∈ lw_g := in_tbl 10 (by decide +kernel)
theorem cl_Poo_7 : Cond.classLink "GuardedPool" 7 (cnm 3) ∈ lw_g := in_tbl 18 (by decide +kernel)
theorem cl_Sta_9 : Cond.classLink "GuardedPool$State" 9 (cnm 0) ∈ lw_g := in_tbl 24 (by decide +kernel)
theorem cl_Sta_24 : Cond.classLink "GuardedPool$State" 24 (cnm 4) ∈ lw_g := in_tbl 56 (by decide +kernel)
theorem cl_Poo_22 : Cond.classLink "GuardedPool" 22 (cnm 2) ∈ lw_g := in_tbl 105 (by decide +kernel)
theorem cl_His_9 : Cond.classLink "GuardedPool$History" 9 (cnm 3) ∈ lw_g := in_tbl 111 (by decide +kernel)
theorem cl_Poo_29 : Cond.classLink "GuardedPool" 29 (cnm 5) ∈ lw_g := in_tbl 124 (by decide +kernel)
theorem cl_Txt_15 : Cond.classLink "GuardedPool$Text" 15 (cnm 1) ∈ lw_g := in_tbl 130 (by decide +kernel)
theorem is_Poo : Cond.instantiable (cnm 6) (nfd 6) ∈ lw_g := in_tbl 11 (by decide +kernel)
theorem is_Sta : Cond.instantiable (cnm 3) (nfd 3) ∈ lw_g := in_tbl 19 (by decide +kernel)
theorem is_Blk : Cond.instantiable (cnm 0) (nfd 0) ∈ lw_g := in_tbl 26 (by decide +kernel)
theorem is_Tsk : Cond.instantiable (cnm 4) (nfd 4) ∈ lw_g := in_tbl 58 (by decide +kernel)
theorem is_His : Cond.instantiable (cnm 2) (nfd 2) ∈ lw_g := in_tbl 106 (by decide +kernel)
theorem is_Txt : Cond.instantiable (cnm 5) (nfd 5) ∈ lw_g := in_tbl 125 (by decide +kernel)
theorem is_Cmd : Cond.instantiable (cnm 1) (nfd 1) ∈ lw_g := in_tbl 132 (by decide +kernel)
theorem inst_obj : Cond.instanceMethod Lib.objectInit ∈ lw_g := in_tbl 16 (by decide +kernel)
theorem code_obj : Cond.code Lib.objectInit ⟨#[0xb1]⟩ 1 none ∈ lw_g := in_tbl 17 (by decide +kernel)
theorem ao_Blk : Cond.arrayOver (.object (cnm 0)) ∈ lw_tbl := in_raw 25 (by decide +kernel)
theorem ao_Tsk : Cond.arrayOver (.object (cnm 4)) ∈ lw_tbl := in_raw 57 (by decide +kernel)
theorem ac_int : Cond.arrayClass .int ∈ lw_g := in_tbl 76 (by decide +kernel)
theorem ao_Sta : Cond.arrayOver (.object (cnm 3)) ∈ lw_tbl := in_raw 112 (by decide +kernel)
theorem ao_Cmd : Cond.arrayOver (.object (cnm 1)) ∈ lw_tbl := in_raw 131 (by decide +kernel)
theorem ac_char : Cond.arrayClass .char ∈ lw_g := in_tbl 144 (by decide +kernel)
theorem stat_copy : Cond.static arraycopyName ∈ lw_g := in_tbl 332 (by decide +kernel)
theorem nat_copy : Cond.native arraycopyName ∈ lw_g := in_tbl 333 (by decide +kernel)
theorem stat_min : Cond.static Lib.Math.min.name ∈ lw_g := in_tbl 389 (by decide +kernel)
theorem code_min : Cond.code Lib.Math.min.name Lib.Math.min.code 2 (some .int) ∈ lw_g := in_tbl 390 (by decide +kernel)
end
section
/-! the world in plain words: objects by number, ints and references by object and slot; what a method does to them (SPW), its contract (MetC) -/
abbrev Vv : Type := Int ⊕ Option Int
abbrev vI (x : Int) : Vv := .inl x
abbrev vR (o : Int) : Vv := .inr (some o)
abbrev vN : Vv := .inr none
def rng (x : Int) : Prop := -2147483648 ≤ x ∧ x ≤ 2147483647
abbrev Gg : Type := va_G × (Nat → ClassId) × Nat × Nat × Nat × (Nat → Int32)
abbrev gD (G : Gg) : va_G := G.1
abbrev gA (G : Gg) : Nat → ClassId := G.2.1
abbrev gh (G : Gg) : Nat := G.2.2.1
abbrev gs (G : Gg) : Nat := G.2.2.2.1
abbrev gL (G : Gg) : Nat := G.2.2.2.2.1
abbrev gx (G : Gg) : Nat → Int32 := G.2.2.2.2.2
abbrev Mm : Type := (Int → Int → Option Int) × Nat × (Int → Int → Int)
def adr (G : Gg) (o : Int) : Nat := if o < 0 then gs G else gh G + o.toNat
def tv (G : Gg) (v : Vv) : Value := match v with
  | .inl x => .int (Int32.ofInt x)
  | .inr r => va_rf (r.map (adr G))
def vok (v : Vv) : Prop := match v with
  | .inl x => rng x
  | .inr _ => True
theorem tv_cat (G : Gg) (v : Vv) : (tv G v).category = 1 := by
  rcases v with x | (_ | o) <;> rfl
-- Int32 of an Int
theorem oi_t {a : Int} (h : rng a) : (Int32.ofInt a).toInt = a := by
  obtain ⟨h1, h2⟩ := h
  rw [Int32.toInt_ofInt]
  exact Int.bmod_eq_of_le (by show -((Int32.size : Int) / 2) ≤ a; simp [Int32.size]; omega) (by show a < ((Int32.size : Int) + 1) / 2; simp [Int32.size]; omega)
theorem oi_eq {a b : Int} (ha : rng a) (hb : rng b) : Int32.ofInt a = Int32.ofInt b ↔ a = b := ⟨fun h => by rw [← oi_t ha, ← oi_t hb, h], fun h => by rw [h]⟩
theorem oi_lt {a b : Int} (ha : rng a) (hb : rng b) : Int32.ofInt a < Int32.ofInt b ↔ a < b := by rw [Int32.lt_iff_toInt_lt, oi_t ha, oi_t hb]
theorem oi_le {a b : Int} (ha : rng a) (hb : rng b) : Int32.ofInt a ≤ Int32.ofInt b ↔ a ≤ b := by rw [Int32.le_iff_toInt_le, oi_t ha, oi_t hb]
theorem oi_0 : (0 : Int32) = Int32.ofInt 0 := rfl
theorem rng_0 : rng 0 := ⟨by decide, by decide⟩
theorem oi_cl {a : Int} (h : rng a) : (Int32.ofInt a).toNatClampNeg = a.toNat := by
  show (Int32.ofInt a).toInt.toNat = _
  rw [oi_t h]
theorem oi_in {a : Int} {n : Nat} (h : rng a) (h0 : 0 ≤ a) (hn : a < n) : vp_in (Int32.ofInt a) n := by
  unfold vp_in
  rw [oi_cl h, oi_0, oi_lt h rng_0]
  omega
theorem oi_nI (n : Nat) : nI n = Int32.ofInt n := rfl
theorem oi_toInt (x : Int32) : Int32.ofInt x.toInt = x := Int32.ofInt_toInt x
theorem rng_toInt (x : Int32) : rng x.toInt := ⟨x.le_toInt, by have := x.toInt_lt; omega⟩
-- kinds of objects, by their numbers
def kS (j : Int) : Nat := if j = 0 then 3 else if j = 1 then 17 else if j < 18 then 0 else if j = 18 then 10 else if j = 19 then 18 else 4
def kd (o : Int) : Nat :=
  if o < 0 then 99 else if o = 0 then 6
  else if o < 79 then kS ((o - 1) % 26)
  else if o = 79 then 2 else if o = 80 then 19
  else if o < 185 then kS ((o - 81) % 26)
  else if o = 185 then 5 else if o = 186 then 16 else if o = 187 then 20
  else if o < 218 then 1 else if o = 218 then 11
  else 99
/-- an array's length, by its kind -/
def kl (k : Nat) : Nat := match k with
  | 10 => 64
  | 11 => 3
  | 12 => 472
  | 13 => 1888
  | 14 => 4
  | 15 => 60
  | 16 => 60
  | 17 => 16
  | 18 => 6
  | 19 => 4
  | _ => 30
/-- an array's sort: 0 int, 1 char, 2 Block, 3 Task, 4 State, 5 Command -/
def kt (k : Nat) : Nat := match k with
  | 16 => 1
  | 17 => 2
  | 18 => 3
  | 19 => 4
  | 20 => 5
  | _ => 0
def ety (a : Nat) : FieldType := match a with
  | 0 => .int
  | 1 => .char
  | 2 => .object (cnm 0)
  | 3 => .object (cnm 4)
  | 4 => .object (cnm 3)
  | _ => .object (cnm 1)
def tys_l (G : Gg) : List (ClassId × FieldType) := [(gA G 0, ety 0), (gA G 1, ety 1), (gA G 2, ety 2), (gA G 3, ety 3), (gA G 4, ety 4), (gA G 5, ety 5)]
def szo (o : Int) : Nat := if kd o < 7 then nfd (kd o) else kl (kd o)
def slt : Nat → Nat
  | 0 => 0
  | n + 1 => slt n + szo n
def fvl (G : Gg) (M : Mm) (ci : Nat) (o : Int) (k : Nat) : Value := if tyk ci k = 2 then tv G (.inr (M.1 o k)) else .int (Int32.ofInt (M.2.2 o k))
def ce (G : Gg) (M : Mm) (o : Int) : va_E :=
  if kd o < 7 then .inr (kd o, (List.range (nfd (kd o))).map (fvl G M (kd o) o))
  else if kt (kd o) < 2 then .inl (gA G (kt (kd o)), kl (kd o), .inl (fun j => Int32.ofInt (M.2.2 o j)))
  else .inl (gA G (kt (kd o)), kl (kd o), .inr (.inr (.inr (.inr (fun j => (M.1 o j).map (adr G))))))
def wl (G : Gg) (M : Mm) : va_W := (List.range M.2.1).map (fun i => (gh G + i, ce G M (i : Int)))
/-- the law's script is object -1, its length at -1 -/
def scr (G : Gg) (μ : Int → Int → Int) : Prop := μ (-1) (-1) = (gL G : Int) ∧ ∀ j : Nat, j < gL G → Int32.ofInt (μ (-1) j) = gx G j
/-- the heap holds the memory; how long it is matters while cells are still made -/
def Rep (G : Gg) (M : Mm) (H : Heap) : Prop := va_P (gD G) cls_l (wl G M) H ∧ (M.2.1 < 219 → H.size = gh G + M.2.1) ∧ (∀ o k, rng (M.2.2 o k)) ∧ scr G M.2.2
def vk (t : Nat) (o : Int) (ci : Nat) : Prop := 0 ≤ o ∧ o < t ∧ kd o = ci
theorem adr_pos {G : Gg} {o : Int} (h : 0 ≤ o) : adr G o = gh G + o.toNat := by
  unfold adr
  rw [if_neg (by omega)]
theorem wl_get {G : Gg} {M : Mm} {o : Int} (h0 : 0 ≤ o) (ht : o < M.2.1) : (wl G M)[o.toNat]? = some (adr G o, ce G M o) := by
  unfold wl
  rw [List.getElem?_map, List.getElem?_range (by omega), Option.map_some, adr_pos h0, Int.toNat_of_nonneg h0]
theorem wl_set {G : Gg} {M M' : Mm} {o : Int} (h0 : 0 ≤ o) (ht : M'.2.1 = M.2.1) (h : ∀ i : Int, i ≠ o → ce G M' i = ce G M i) {e : va_E} (he : ce G M' o = e) : (wl G M).set o.toNat (adr G o, e) = wl G M' := by
  subst he
  apply List.ext_getElem?
  intro i
  rw [List.getElem?_set]
  unfold wl
  simp only [List.getElem?_map, List.length_map, List.length_range, ht]
  by_cases hi : o.toNat = i
  · subst hi
    rw [if_pos rfl]
    by_cases hl : o.toNat < M.2.1
    · rw [if_pos hl, List.getElem?_range hl, Option.map_some, adr_pos h0, Int.toNat_of_nonneg h0]
    · rw [if_neg hl, List.getElem?_eq_none (by simp; omega)]
      rfl
  · rw [if_neg hi]
    by_cases hl : i < M.2.1
    · rw [List.getElem?_range hl, Option.map_some, Option.map_some, h i (by omega)]
    · rw [List.getElem?_eq_none (by simp; omega)]
      rfl
theorem wl_D {G : Gg} {M : Mm} : va_D (fun q : Nat => gh G ≤ q) (wl G M) := by
  have key : ∀ (i : Nat) (p : Nat × va_E), (wl G M)[i]? = some p → p.1 = gh G + i := by
    intro i p h
    unfold wl at h
    rw [List.getElem?_map] at h
    by_cases hl : i < M.2.1
    · rw [List.getElem?_range hl] at h
      cases h
      rfl
    · rw [List.getElem?_eq_none (by simp; omega)] at h
      cases h
  refine ⟨fun i j p q hp hq e => ?_, fun k q hq => ?_⟩
  · rw [key i p hp, key j q hq] at e
    omega
  · show gh G ≤ q.1
    rw [key k q hq]
    omega
def upM (μ : Int → Int → Int) (o k v : Int) : Int → Int → Int := fun o' k' => if o' = o ∧ k' = k then v else μ o' k'
def upR (ρ : Int → Int → Option Int) (o k : Int) (v : Option Int) : Int → Int → Option Int := fun o' k' => if o' = o ∧ k' = k then v else ρ o' k'
theorem ce_congr {G : Gg} {M M' : Mm} {o : Int} (h1 : ∀ k : Nat, M'.1 o k = M.1 o k) (h2 : ∀ k : Nat, M'.2.2 o k = M.2.2 o k) : ce G M' o = ce G M o := by
  have e1 : fvl G M' (kd o) o = fvl G M (kd o) o := by
    funext k
    unfold fvl
    rw [h1, h2]
  unfold ce
  rw [e1]
  simp only [h1, h2]
theorem fvl_at {G : Gg} {M : Mm} {ci : Nat} {o : Int} {k : Nat} (hk : k < nfd ci) : ((List.range (nfd ci)).map (fvl G M ci o))[k]? = some (fvl G M ci o k) := by
  rw [List.getElem?_map, List.getElem?_range hk]
  rfl
theorem ce_obj {G : Gg} {M : Mm} {o : Int} {ci : Nat} (h : kd o = ci) (hc : ci < 7) : ce G M o = .inr (ci, (List.range (nfd ci)).map (fvl G M ci o)) := by
  subst h
  unfold ce
  rw [if_pos hc]
theorem ce_int {G : Gg} {M : Mm} {o : Int} {q : Nat} (h : kd o = q) (hc : ¬ q < 7) (ht : kt q < 2) : ce G M o = .inl (gA G (kt q), kl q, .inl (fun j => Int32.ofInt (M.2.2 o j))) := by
  subst h
  unfold ce
  rw [if_neg hc, if_pos ht]
theorem ce_ref {G : Gg} {M : Mm} {o : Int} {q : Nat} (h : kd o = q) (hc : ¬ q < 7) (ht : ¬ kt q < 2) : ce G M o = .inl (gA G (kt q), kl q, .inr (.inr (.inr (.inr (fun j => (M.1 o j).map (adr G)))))) := by
  subst h
  unfold ce
  rw [if_neg hc, if_neg ht]
def LocOK (G : Gg) (ls : Array Slot) (n : Nat) (L : List (Option Vv)) : Prop := ls.size = n ∧ lv_wf ls ∧ L.length = n ∧ ∀ (i : Nat) (v : Vv), L[i]? = some (some v) → ls[i]? = some (.val (tv G v)) ∧ vok v
/-- words of the start that no list of words carries -/
def Xw (s : State) : Prop := va_AO (cnm 0) s ∧ va_AO (cnm 4) s ∧ va_AO (cnm 3) s ∧ va_AO (cnm 1) s ∧ va_Nw (.methodLinkNest "GuardedPool$Text" 21 (mnm mi_Cmd_init) "GuardedPool") s
def retI (r : Option FieldType) : Instr := match r with
  | none => .return_
  | some (.object _) => .areturn
  | some (.array _) => .areturn
  | some _ => .ireturn
def Cx (G : Gg) (y : MI) (p : Program) (s : State) (m : MethodId) (args : Array Value) (meth : Method) (c : Code) : Prop :=
  p.tables.exec = Jvm.exec ∧ c.code = mbc y ∧ c.maxLocals = mml y ∧ s.vm.findClass (mnm y).cls = some m.cls ∧ (∀ w ∈ lw_g, w.before args s = true) ∧ va_K (gD G) cls_l (tys_l G) s ∧ Xw s ∧ ((mnm y).name = "<init>" → meth.name = "<init>") ∧ gh G ≤ s.heap.size ∧ va_X (gs G) (gL G) (gx G) s s.heap ∧ gs G < gh G
abbrev Ah (G : Gg) : Nat → Prop := fun q => gh G ≤ q
/-- from this place of method y the method goes on to return r, with the memory Mf; t0: how many objects there were at its start -/
def SPW (y : MI) (t0 pc : Nat) (L : List (Option Vv)) (S : List Vv) (M : Mm) (r : Option Vv) (Mf : Mm) : Prop :=
  ∀ (G : Gg) (p : Program) (l : Launch) (e : Env) (s : State) (m : MethodId) (args : Array Value) (below : List Frame) (meth : Method) (c : Code) (H : Heap) (locs : List Loc) (ls : Array Slot) (Z : State → Prop),
    Cx G y p s m args meth c → Rep G M H → LocOK G ls (mml y) L → (∀ v ∈ S, vok v) → va_S (Ah G) s.heap H locs →
    (∀ (H' : Heap) (locs' : List Loc) (ls' : Array Slot) (pc' : Nat), Rep G Mf H' → va_S (Ah G) s.heap H' locs' → (∀ v, r = some v → vok v) → decode (mbc y) pc' = .ok (retI (mrt y), 1) →
      W p l e (mrm y) s m args below meth c H' locs' (Mf.2.1 - t0) (slt Mf.2.1 - slt t0) Z (F0 m pc' ls' (r.toList.map (tv G)))) →
    W p l e (mrm y) s m args below meth c H locs (M.2.1 - t0) (slt M.2.1 - slt t0) Z (F0 m pc ls (S.map (tv G)))
abbrev wsM (y : MI) : List Cond := Cond.code (mnm y) (mbc y) (mml y) (mrt y) :: lw_g
def MetP (G : Gg) (as : List Vv) (M : Mm) (U : State) : Prop := Rep G M U.heap ∧ va_K (gD G) cls_l (tys_l G) U ∧ Xw U ∧ (va_X (gs G) (gL G) (gx G) U U.heap ∧ gs G < gh G) ∧ ∀ v ∈ as, vok v
def MetQ (G : Gg) (r : Option Vv) (Mf : Mm) : Array Value → State → Outcome → State → Prop := fun _ st o t => o = .returned (r.map (tv G)) ∧ Rep G Mf t.heap ∧ (∀ v, r = some v → vok v) ∧ va_F (Ah G) st t
/-- method y's contract: called with these arguments over the memory M it returns r and leaves Mf -/
def MetC (y : MI) (as : List Vv) (M : Mm) (r : Option Vv) (Mf : Mm) : Prop :=
  ∀ (l : Launch) (G : Gg), Met l (mnm y) (wsM y) (mrm y) (va_Pc (as.map (tv G)) (MetP G as M)) (MetQ G r Mf) (Mf.2.1 - M.2.1) (slt Mf.2.1 - slt M.2.1) (Ah G)
/-- what a method may return, by its type -/
def rOK (rt : Option FieldType) (r : Option Vv) : Prop := match rt, r with
  | none, none => True
  | some .int, some (.inl _) => True
  | some .boolean, some (.inl x) => x = 0 ∨ x = 1
  | some .char, some (.inl x) => 0 ≤ x ∧ x < 65536
  | some (.object _), some (.inr _) => True
  | _, _ => False
end
section
/-! one row an instruction, over SPW: locals, numbers, branches -/
def Dc (y : MI) (pc : Nat) (i : Instr) (n pc' : Nat) : Prop := decode (mbc y) pc = .ok (i, n) ∧ pc + n = pc'
def Db (y : MI) (pc : Nat) (i : Instr) (off : Int) (pc' tgt : Nat) : Prop := decode (mbc y) pc = .ok (i, 3) ∧ pc + 3 = pc' ∧ (pc : Int) + off = (tgt : Int)
theorem vok_c {v : Vv} {S : List Vv} (h : vok v) (hS : ∀ w ∈ S, vok w) : ∀ w ∈ v :: S, vok w := List.forall_mem_cons.mpr ⟨h, hS⟩
theorem vok_h {v : Vv} {S : List Vv} (hS : ∀ w ∈ v :: S, vok w) : vok v := (List.forall_mem_cons.mp hS).1
theorem vok_t {v : Vv} {S : List Vv} (hS : ∀ w ∈ v :: S, vok w) : ∀ w ∈ S, vok w := (List.forall_mem_cons.mp hS).2
def lvL (G : Gg) (L : List (Option Vv)) : List (Nat × Value) := (List.range L.length).filterMap (fun i => (L[i]?.join).map (fun v => (i, tv G v)))
theorem lvL_mem {G : Gg} {L : List (Option Vv)} {i : Nat} {w : Value} (h : (i, w) ∈ lvL G L) : ∃ v, L[i]? = some (some v) ∧ w = tv G v := by
  obtain ⟨j, -, hj⟩ := List.mem_filterMap.mp h
  rw [Option.map_eq_some_iff] at hj
  obtain ⟨v, hv, he⟩ := hj
  cases he
  exact ⟨v, by simpa [Option.join_eq_some_iff] using hv, rfl⟩
theorem lvL_in {G : Gg} {L : List (Option Vv)} {i : Nat} {v : Vv} (h : L[i]? = some (some v)) : (i, tv G v) ∈ lvL G L := by
  refine List.mem_filterMap.mpr ⟨i, List.mem_range.mpr (List.getElem?_eq_some_iff.mp h).1, ?_⟩
  rw [h]
  rfl
theorem LocOK.has {G : Gg} {ls : Array Slot} {n : Nat} {L : List (Option Vv)} (h : LocOK G ls n L) : lv_has ls n (lvL G L) := by
  refine ⟨h.1, h.2.1, fun q hq => ?_⟩
  obtain ⟨i, w⟩ := q
  obtain ⟨v, hv, rfl⟩ := lvL_mem hq
  exact (h.2.2.2 i v hv).1
theorem LocOK.of {G : Gg} {ls ls' : Array Slot} {n i : Nat} {L : List (Option Vv)} {v : Vv} (h : LocOK G ls n L) (hv : vok v) (h' : lv_has ls' n ((i, tv G v) :: (lvL G L).filter (fun q => !(q.1 == i) && !(q.1 + 1 == i && q.2.category == 2)))) : LocOK G ls' n (L.set i (some v)) := by
  refine ⟨h'.1, h'.2.1, by rw [List.length_set]; exact h.2.2.1, fun j w hj => ?_⟩
  rw [List.getElem?_set] at hj
  by_cases e : i = j
  · subst e
    rw [if_pos rfl] at hj
    by_cases hl : i < L.length
    · rw [if_pos hl] at hj
      cases hj
      exact ⟨h'.2.2 (i, tv G v) List.mem_cons_self, hv⟩
    · rw [if_neg hl] at hj
      cases hj
  · rw [if_neg e] at hj
    refine ⟨h'.2.2 (j, tv G w) (List.mem_cons_of_mem _ (List.mem_filter.mpr ⟨lvL_in hj, ?_⟩)), (h.2.2.2 j w hj).2⟩
    have c1 := tv_cat G w
    have e1 : (j == i) = false := by simpa using fun q : j = i => e q.symm
    simp [e1, c1]
section RU
variable {y : MI} {t0 pc pc' tgt : Nat} {L L' : List (Option Vv)} {S : List Vv} {M Mf : Mm} {r : Option Vv}
theorem r_iconst {n : Int} (hd : Dc y pc (.iconst n) 1 pc') (hr : rng n) (kk : SPW y t0 pc' L (vI n :: S) M r Mf) : SPW y t0 pc L S M r Mf := by
  intro G p l e s m args below meth c H locs ls Z C R Lk hS hV hfin
  obtain ⟨hd, rfl⟩ := hd
  exact lv_iconst (v := Int32.ofInt n) C.1 C.2.1 hd rfl (kk G p l e s m args below meth c H locs ls Z C R Lk (vok_c hr hS) hV hfin)
theorem r_bipush {n : Int} (hd : Dc y pc (.bipush n) 2 pc') (hr : rng n) (hn : (Int8.ofInt n).toInt32 = Int32.ofInt n) (kk : SPW y t0 pc' L (vI n :: S) M r Mf) : SPW y t0 pc L S M r Mf := by
  intro G p l e s m args below meth c H locs ls Z C R Lk hS hV hfin
  obtain ⟨hd, rfl⟩ := hd
  exact lv_bipush (v := Int32.ofInt n) C.1 C.2.1 hd hn (kk G p l e s m args below meth c H locs ls Z C R Lk (vok_c hr hS) hV hfin)
theorem r_sipush {n : Int} (hd : Dc y pc (.sipush n) 3 pc') (hr : rng n) (hn : (Int16.ofInt n).toInt32 = Int32.ofInt n) (kk : SPW y t0 pc' L (vI n :: S) M r Mf) : SPW y t0 pc L S M r Mf := by
  intro G p l e s m args below meth c H locs ls Z C R Lk hS hV hfin
  obtain ⟨hd, rfl⟩ := hd
  exact lv_sipush (v := Int32.ofInt n) C.1 C.2.1 hd hn (kk G p l e s m args below meth c H locs ls Z C R Lk (vok_c hr hS) hV hfin)
theorem r_null (hd : Dc y pc .aconst_null 1 pc') (kk : SPW y t0 pc' L (vN :: S) M r Mf) : SPW y t0 pc L S M r Mf := by
  intro G p l e s m args below meth c H locs ls Z C R Lk hS hV hfin
  obtain ⟨hd, rfl⟩ := hd
  exact lv_null C.1 C.2.1 hd (kk G p l e s m args below meth c H locs ls Z C R Lk (vok_c (v := vN) trivial hS) hV hfin)
theorem r_iloadn {k : Fin 4} {x : Int} (hd : Dc y pc (.iload_n k) 1 pc') (hL : L[(k : Nat)]? = some (some (vI x))) (kk : SPW y t0 pc' L (vI x :: S) M r Mf) : SPW y t0 pc L S M r Mf := by
  intro G p l e s m args below meth c H locs ls Z C R Lk hS hV hfin
  obtain ⟨hd, rfl⟩ := hd
  obtain ⟨h1, h2⟩ := Lk.2.2.2 _ _ hL
  exact lv_iload_n C.1 C.2.1 hd rfl h1 (kk G p l e s m args below meth c H locs ls Z C R Lk (vok_c h2 hS) hV hfin)
theorem r_iload {k : Nat} {x : Int} (hd : Dc y pc (.iload k) 2 pc') (hL : L[k]? = some (some (vI x))) (kk : SPW y t0 pc' L (vI x :: S) M r Mf) : SPW y t0 pc L S M r Mf := by
  intro G p l e s m args below meth c H locs ls Z C R Lk hS hV hfin
  obtain ⟨hd, rfl⟩ := hd
  obtain ⟨h1, h2⟩ := Lk.2.2.2 _ _ hL
  exact lv_iload C.1 C.2.1 hd h1 (kk G p l e s m args below meth c H locs ls Z C R Lk (vok_c h2 hS) hV hfin)
theorem r_aloadn {k : Fin 4} {v : Option Int} (hd : Dc y pc (.aload_n k) 1 pc') (hL : L[(k : Nat)]? = some (some (.inr v))) (kk : SPW y t0 pc' L (.inr v :: S) M r Mf) : SPW y t0 pc L S M r Mf := by
  intro G p l e s m args below meth c H locs ls Z C R Lk hS hV hfin
  obtain ⟨hd, rfl⟩ := hd
  obtain ⟨h1, h2⟩ := Lk.2.2.2 _ _ hL
  cases v with
  | none => exact lv_aload_nN C.1 C.2.1 hd rfl h1 (kk G p l e s m args below meth c H locs ls Z C R Lk (vok_c h2 hS) hV hfin)
  | some o => exact lv_aload_n C.1 C.2.1 hd rfl h1 (kk G p l e s m args below meth c H locs ls Z C R Lk (vok_c h2 hS) hV hfin)
theorem r_aload {k : Nat} {v : Option Int} (hd : Dc y pc (.aload k) 2 pc') (hL : L[k]? = some (some (.inr v))) (kk : SPW y t0 pc' L (.inr v :: S) M r Mf) : SPW y t0 pc L S M r Mf := by
  intro G p l e s m args below meth c H locs ls Z C R Lk hS hV hfin
  obtain ⟨hd, rfl⟩ := hd
  obtain ⟨h1, h2⟩ := Lk.2.2.2 _ _ hL
  cases v with
  | none => exact lv_aloadN C.1 C.2.1 hd h1 (kk G p l e s m args below meth c H locs ls Z C R Lk (vok_c h2 hS) hV hfin)
  | some o => exact lv_aload C.1 C.2.1 hd h1 (kk G p l e s m args below meth c H locs ls Z C R Lk (vok_c h2 hS) hV hfin)
theorem blt_l {G : Gg} {ls : Array Slot} {n i : Nat} {L : List (Option Vv)} (h : LocOK G ls n L) (hb : Nat.blt i L.length = true) : i < n := by
  rw [← h.2.2.1]
  exact Nat.le_of_ble_eq_true hb
theorem r_istoren {k : Fin 4} {x : Int} (hd : Dc y pc (.istore_n k) 1 pc') (hb : Nat.blt k L.length = true) (hL : L.set k (some (vI x)) = L') (kk : SPW y t0 pc' L' S M r Mf) : SPW y t0 pc L (vI x :: S) M r Mf := by
  intro G p l e s m args below meth c H locs ls Z C R Lk hS hV hfin
  obtain ⟨hd, rfl⟩ := hd
  subst hL
  exact lv_istore_n C.1 C.2.1 hd rfl Lk.has (blt_l Lk hb) rfl (fun ls' h' => kk G p l e s m args below meth c H locs ls' Z C R (Lk.of (vok_h hS) h') (vok_t hS) hV hfin)
theorem r_istore {k : Nat} {x : Int} (hd : Dc y pc (.istore k) 2 pc') (hb : Nat.blt k L.length = true) (hL : L.set k (some (vI x)) = L') (kk : SPW y t0 pc' L' S M r Mf) : SPW y t0 pc L (vI x :: S) M r Mf := by
  intro G p l e s m args below meth c H locs ls Z C R Lk hS hV hfin
  obtain ⟨hd, rfl⟩ := hd
  subst hL
  exact lv_istore C.1 C.2.1 hd Lk.has (blt_l Lk hb) rfl (fun ls' h' => kk G p l e s m args below meth c H locs ls' Z C R (Lk.of (vok_h hS) h') (vok_t hS) hV hfin)
theorem r_astoren {k : Fin 4} {v : Option Int} (hd : Dc y pc (.astore_n k) 1 pc') (hb : Nat.blt k L.length = true) (hL : L.set k (some (.inr v)) = L') (kk : SPW y t0 pc' L' S M r Mf) : SPW y t0 pc L (.inr v :: S) M r Mf := by
  intro G p l e s m args below meth c H locs ls Z C R Lk hS hV hfin
  obtain ⟨hd, rfl⟩ := hd
  subst hL
  cases v with
  | none => exact lv_astore_nN C.1 C.2.1 hd rfl Lk.has (blt_l Lk hb) rfl (fun ls' h' => kk G p l e s m args below meth c H locs ls' Z C R (Lk.of (vok_h hS) h') (vok_t hS) hV hfin)
  | some o => exact lv_astore_n C.1 C.2.1 hd rfl Lk.has (blt_l Lk hb) rfl (fun ls' h' => kk G p l e s m args below meth c H locs ls' Z C R (Lk.of (vok_h hS) h') (vok_t hS) hV hfin)
theorem r_astore {k : Nat} {v : Option Int} (hd : Dc y pc (.astore k) 2 pc') (hb : Nat.blt k L.length = true) (hL : L.set k (some (.inr v)) = L') (kk : SPW y t0 pc' L' S M r Mf) : SPW y t0 pc L (.inr v :: S) M r Mf := by
  intro G p l e s m args below meth c H locs ls Z C R Lk hS hV hfin
  obtain ⟨hd, rfl⟩ := hd
  subst hL
  cases v with
  | none => exact lv_astoreN C.1 C.2.1 hd Lk.has (blt_l Lk hb) rfl (fun ls' h' => kk G p l e s m args below meth c H locs ls' Z C R (Lk.of (vok_h hS) h') (vok_t hS) hV hfin)
  | some o => exact lv_astore C.1 C.2.1 hd Lk.has (blt_l Lk hb) rfl (fun ls' h' => kk G p l e s m args below meth c H locs ls' Z C R (Lk.of (vok_h hS) h') (vok_t hS) hV hfin)
theorem r_iinc {i : Nat} {n x : Int} (hd : Dc y pc (.iinc i n) 3 pc') (hx : L[i]? = some (some (vI x))) (hr : rng (x + n)) (hL : L.set i (some (vI (x + n))) = L') (kk : SPW y t0 pc' L' S M r Mf) : SPW y t0 pc L S M r Mf := by
  intro G p l e s m args below meth c H locs ls Z C R Lk hS hV hfin
  obtain ⟨hd, rfl⟩ := hd
  subst hL
  obtain ⟨k, hk⟩ := List.getElem?_of_mem (lvL_in (G := G) hx)
  exact lv_iinc (v := Int32.ofInt (x + n)) C.1 C.2.1 hd Lk.has hk (Int32.ofInt_add x n).symm (by rw [← Lk.2.2.1]; exact (List.getElem?_eq_some_iff.mp hx).1) rfl (fun ls' h' => kk G p l e s m args below meth c H locs ls' Z C R (Lk.of (v := vI (x + n)) hr h') hS hV hfin)
theorem r_iadd {x z : Int} (hd : Dc y pc .iadd 1 pc') (hr : rng (x + z)) (kk : SPW y t0 pc' L (vI (x + z) :: S) M r Mf) : SPW y t0 pc L (vI z :: vI x :: S) M r Mf := by
  intro G p l e s m args below meth c H locs ls Z C R Lk hS hV hfin
  obtain ⟨hd, rfl⟩ := hd
  refine lv_iadd C.1 C.2.1 hd ?_
  rw [← Int32.ofInt_add]
  exact kk G p l e s m args below meth c H locs ls Z C R Lk (vok_c hr (vok_t (vok_t hS))) hV hfin
theorem r_isub {x z : Int} (hd : Dc y pc .isub 1 pc') (hr : rng (x - z)) (kk : SPW y t0 pc' L (vI (x - z) :: S) M r Mf) : SPW y t0 pc L (vI z :: vI x :: S) M r Mf := by
  intro G p l e s m args below meth c H locs ls Z C R Lk hS hV hfin
  obtain ⟨hd, rfl⟩ := hd
  refine lv_isub C.1 C.2.1 hd ?_
  rw [← Int32.ofInt_sub]
  exact kk G p l e s m args below meth c H locs ls Z C R Lk (vok_c hr (vok_t (vok_t hS))) hV hfin
theorem r_imul {x z : Int} (hd : Dc y pc .imul 1 pc') (hr : rng (x * z)) (kk : SPW y t0 pc' L (vI (x * z) :: S) M r Mf) : SPW y t0 pc L (vI z :: vI x :: S) M r Mf := by
  intro G p l e s m args below meth c H locs ls Z C R Lk hS hV hfin
  obtain ⟨hd, rfl⟩ := hd
  refine lv_imul C.1 C.2.1 hd ?_
  rw [← Int32.ofInt_mul]
  exact kk G p l e s m args below meth c H locs ls Z C R Lk (vok_c hr (vok_t (vok_t hS))) hV hfin
theorem oi_div {x z : Int} (hx : rng x) (hz : rng z) (h0 : 0 ≤ x) (h1 : 0 < z) : Int32.ofInt x / Int32.ofInt z = Int32.ofInt (x / z) ∧ rng (x / z) := by
  have a1 : 0 ≤ x / z := Int.ediv_nonneg h0 (by omega)
  have a2 : x / z ≤ x := Int.ediv_le_self z h0
  have hq : rng (x / z) := ⟨by omega, by have := hx.2; omega⟩
  refine ⟨?_, hq⟩
  apply Int32.toInt_inj.mp
  rw [oi_t hq, Int32.toInt_div, oi_t hx, oi_t hz, Int.tdiv_eq_ediv_of_nonneg h0]
  have := oi_t hq
  rw [Int32.toInt_ofInt] at this
  exact this
theorem r_idiv {x z : Int} (hd : Dc y pc .idiv 1 pc') (h0 : 0 ≤ x) (h1 : 0 < z) (kk : SPW y t0 pc' L (vI (x / z) :: S) M r Mf) : SPW y t0 pc L (vI z :: vI x :: S) M r Mf := by
  intro G p l e s m args below meth c H locs ls Z C R Lk hS hV hfin
  obtain ⟨hd, rfl⟩ := hd
  have hz : rng z := vok_h hS
  have hx : rng x := vok_h (vok_t hS)
  obtain ⟨e1, e2⟩ := oi_div hx hz h0 h1
  refine lv_idiv C.1 C.2.1 hd (by rw [oi_0, oi_eq hz rng_0]; omega) ?_
  rw [e1]
  exact kk G p l e s m args below meth c H locs ls Z C R Lk (vok_c (v := vI (x / z)) e2 (vok_t (vok_t hS))) hV hfin
theorem r_irem {x z : Int} (hd : Dc y pc .irem 1 pc') (h0 : 0 ≤ x) (h1 : 0 < z) (kk : SPW y t0 pc' L (vI (x % z) :: S) M r Mf) : SPW y t0 pc L (vI z :: vI x :: S) M r Mf := by
  intro G p l e s m args below meth c H locs ls Z C R Lk hS hV hfin
  obtain ⟨hd, rfl⟩ := hd
  have hz : rng z := vok_h hS
  have hx : rng x := vok_h (vok_t hS)
  obtain ⟨e1, e2⟩ := oi_div hx hz h0 h1
  refine lv_irem C.1 C.2.1 hd (by rw [oi_0, oi_eq hz rng_0]; omega) ?_
  have e3 : Int32.ofInt x - Int32.ofInt x / Int32.ofInt z * Int32.ofInt z = Int32.ofInt (x % z) := by
    rw [e1, ← Int32.ofInt_mul, ← Int32.ofInt_sub, Int.emod_def, Int.mul_comm]
  rw [e3]
  have a1 : 0 ≤ x % z := Int.emod_nonneg x (by omega)
  have a2 : x % z < z := Int.emod_lt_of_pos x h1
  exact kk G p l e s m args below meth c H locs ls Z C R Lk (vok_c (v := vI (x % z)) ⟨by omega, by have := hz.2; omega⟩ (vok_t (vok_t hS))) hV hfin
theorem r_dup {v : Vv} (hd : Dc y pc .dup 1 pc') (kk : SPW y t0 pc' L (v :: v :: S) M r Mf) : SPW y t0 pc L (v :: S) M r Mf := by
  intro G p l e s m args below meth c H locs ls Z C R Lk hS hV hfin
  obtain ⟨hd, rfl⟩ := hd
  exact lv_dup C.1 C.2.1 hd (tv_cat G v) (kk G p l e s m args below meth c H locs ls Z C R Lk (vok_c (vok_h hS) hS) hV hfin)
theorem r_dup2 {v w : Vv} (hd : Dc y pc .dup2 1 pc') (kk : SPW y t0 pc' L (v :: w :: v :: w :: S) M r Mf) : SPW y t0 pc L (v :: w :: S) M r Mf := by
  intro G p l e s m args below meth c H locs ls Z C R Lk hS hV hfin
  obtain ⟨hd, rfl⟩ := hd
  exact lv_dup2_11 C.1 C.2.1 hd (tv_cat G v) (tv_cat G w) (kk G p l e s m args below meth c H locs ls Z C R Lk (vok_c (vok_h hS) (vok_c (vok_h (vok_t hS)) hS)) hV hfin)
theorem r_pop {v : Vv} (hd : Dc y pc .pop 1 pc') (kk : SPW y t0 pc' L S M r Mf) : SPW y t0 pc L (v :: S) M r Mf := by
  intro G p l e s m args below meth c H locs ls Z C R Lk hS hV hfin
  obtain ⟨hd, rfl⟩ := hd
  exact lv_pop C.1 C.2.1 hd (tv_cat G v) (kk G p l e s m args below meth c H locs ls Z C R Lk (vok_t hS) hV hfin)
theorem r_goto {off : Int} (hd : Db y pc (.goto off) off pc' tgt) (kk : SPW y t0 tgt L S M r Mf) : SPW y t0 pc L S M r Mf := by
  intro G p l e s m args below meth c H locs ls Z C R Lk hS hV hfin
  exact lv_goto C.1 C.2.1 hd.1 hd.2.2 (kk G p l e s m args below meth c H locs ls Z C R Lk hS hV hfin)
theorem r_icmp_eq {x z : Int} {off : Int} (hd : Db y pc (.if_icmp .eq off) off pc' tgt) (kt : x = z → SPW y t0 tgt L S M r Mf) (kf : ¬ (x = z) → SPW y t0 pc' L S M r Mf) : SPW y t0 pc L (vI z :: vI x :: S) M r Mf := by
  intro G p l e s m args below meth c H locs ls Z C R Lk hS hV hfin
  obtain ⟨hd, rfl, ht⟩ := hd
  have hz : rng z := vok_h hS
  have hx : rng x := vok_h (vok_t hS)
  have hS' := vok_t (vok_t hS)
  exact lv_icmp_eq C.1 C.2.1 hd ht (fun q => kt (by simpa [oi_eq hx hz] using q) G p l e s m args below meth c H locs ls Z C R Lk hS' hV hfin) (fun q => kf (by simpa [oi_eq hx hz] using q) G p l e s m args below meth c H locs ls Z C R Lk hS' hV hfin)
theorem r_if_eq {x : Int} {off : Int} (hd : Db y pc (.ifCond .eq off) off pc' tgt) (kt : x = 0 → SPW y t0 tgt L S M r Mf) (kf : ¬ (x = 0) → SPW y t0 pc' L S M r Mf) : SPW y t0 pc L (vI x :: S) M r Mf := by
  intro G p l e s m args below meth c H locs ls Z C R Lk hS hV hfin
  obtain ⟨hd, rfl, ht⟩ := hd
  have hx : rng x := vok_h hS
  have hS' := vok_t hS
  exact lv_if_eq C.1 C.2.1 hd ht (fun q => kt ((oi_eq hx rng_0).mp q) G p l e s m args below meth c H locs ls Z C R Lk hS' hV hfin) (fun q => kf (fun h => q ((oi_eq hx rng_0).mpr h)) G p l e s m args below meth c H locs ls Z C R Lk hS' hV hfin)
theorem r_icmp_ne {x z : Int} {off : Int} (hd : Db y pc (.if_icmp .ne off) off pc' tgt) (kt : x ≠ z → SPW y t0 tgt L S M r Mf) (kf : ¬ (x ≠ z) → SPW y t0 pc' L S M r Mf) : SPW y t0 pc L (vI z :: vI x :: S) M r Mf := by
  intro G p l e s m args below meth c H locs ls Z C R Lk hS hV hfin
  obtain ⟨hd, rfl, ht⟩ := hd
  have hz : rng z := vok_h hS
  have hx : rng x := vok_h (vok_t hS)
  have hS' := vok_t (vok_t hS)
  exact lv_icmp_ne C.1 C.2.1 hd ht (fun q => kt (by simpa [oi_eq hx hz] using q) G p l e s m args below meth c H locs ls Z C R Lk hS' hV hfin) (fun q => kf (by simpa [oi_eq hx hz] using q) G p l e s m args below meth c H locs ls Z C R Lk hS' hV hfin)
theorem r_if_ne {x : Int} {off : Int} (hd : Db y pc (.ifCond .ne off) off pc' tgt) (kt : x ≠ 0 → SPW y t0 tgt L S M r Mf) (kf : ¬ (x ≠ 0) → SPW y t0 pc' L S M r Mf) : SPW y t0 pc L (vI x :: S) M r Mf := by
  intro G p l e s m args below meth c H locs ls Z C R Lk hS hV hfin
  obtain ⟨hd, rfl, ht⟩ := hd
  have hx : rng x := vok_h hS
  have hS' := vok_t hS
  exact lv_if_ne C.1 C.2.1 hd ht (fun q => kt (fun h => q ((oi_eq hx rng_0).mpr h)) G p l e s m args below meth c H locs ls Z C R Lk hS' hV hfin) (fun q => kf (fun h => h ((oi_eq hx rng_0).mp q)) G p l e s m args below meth c H locs ls Z C R Lk hS' hV hfin)
theorem r_icmp_lt {x z : Int} {off : Int} (hd : Db y pc (.if_icmp .lt off) off pc' tgt) (kt : x < z → SPW y t0 tgt L S M r Mf) (kf : ¬ (x < z) → SPW y t0 pc' L S M r Mf) : SPW y t0 pc L (vI z :: vI x :: S) M r Mf := by
  intro G p l e s m args below meth c H locs ls Z C R Lk hS hV hfin
  obtain ⟨hd, rfl, ht⟩ := hd
  have hz : rng z := vok_h hS
  have hx : rng x := vok_h (vok_t hS)
  have hS' := vok_t (vok_t hS)
  exact lv_icmp_lt C.1 C.2.1 hd ht (fun q => kt (by simpa [oi_lt hx hz] using q) G p l e s m args below meth c H locs ls Z C R Lk hS' hV hfin) (fun q => kf (by simpa [oi_lt hx hz] using q) G p l e s m args below meth c H locs ls Z C R Lk hS' hV hfin)
theorem r_if_lt {x : Int} {off : Int} (hd : Db y pc (.ifCond .lt off) off pc' tgt) (kt : x < 0 → SPW y t0 tgt L S M r Mf) (kf : ¬ (x < 0) → SPW y t0 pc' L S M r Mf) : SPW y t0 pc L (vI x :: S) M r Mf := by
  intro G p l e s m args below meth c H locs ls Z C R Lk hS hV hfin
  obtain ⟨hd, rfl, ht⟩ := hd
  have hx : rng x := vok_h hS
  have hS' := vok_t hS
  exact lv_if_lt C.1 C.2.1 hd ht (fun q => kt ((oi_lt hx rng_0).mp q) G p l e s m args below meth c H locs ls Z C R Lk hS' hV hfin) (fun q => kf (fun h => q ((oi_lt hx rng_0).mpr h)) G p l e s m args below meth c H locs ls Z C R Lk hS' hV hfin)
theorem r_icmp_ge {x z : Int} {off : Int} (hd : Db y pc (.if_icmp .ge off) off pc' tgt) (kt : z ≤ x → SPW y t0 tgt L S M r Mf) (kf : ¬ (z ≤ x) → SPW y t0 pc' L S M r Mf) : SPW y t0 pc L (vI z :: vI x :: S) M r Mf := by
  intro G p l e s m args below meth c H locs ls Z C R Lk hS hV hfin
  obtain ⟨hd, rfl, ht⟩ := hd
  have hz : rng z := vok_h hS
  have hx : rng x := vok_h (vok_t hS)
  have hS' := vok_t (vok_t hS)
  exact lv_icmp_ge C.1 C.2.1 hd ht (fun q => kt (by simpa [oi_le hz hx] using q) G p l e s m args below meth c H locs ls Z C R Lk hS' hV hfin) (fun q => kf (by simpa [oi_le hz hx] using q) G p l e s m args below meth c H locs ls Z C R Lk hS' hV hfin)
theorem r_if_ge {x : Int} {off : Int} (hd : Db y pc (.ifCond .ge off) off pc' tgt) (kt : 0 ≤ x → SPW y t0 tgt L S M r Mf) (kf : ¬ (0 ≤ x) → SPW y t0 pc' L S M r Mf) : SPW y t0 pc L (vI x :: S) M r Mf := by
  intro G p l e s m args below meth c H locs ls Z C R Lk hS hV hfin
  obtain ⟨hd, rfl, ht⟩ := hd
  have hx : rng x := vok_h hS
  have hS' := vok_t hS
  exact lv_if_ge C.1 C.2.1 hd ht (fun q => kt ((oi_le rng_0 hx).mp q) G p l e s m args below meth c H locs ls Z C R Lk hS' hV hfin) (fun q => kf (fun h => q ((oi_le rng_0 hx).mpr h)) G p l e s m args below meth c H locs ls Z C R Lk hS' hV hfin)
theorem r_icmp_gt {x z : Int} {off : Int} (hd : Db y pc (.if_icmp .gt off) off pc' tgt) (kt : z < x → SPW y t0 tgt L S M r Mf) (kf : ¬ (z < x) → SPW y t0 pc' L S M r Mf) : SPW y t0 pc L (vI z :: vI x :: S) M r Mf := by
  intro G p l e s m args below meth c H locs ls Z C R Lk hS hV hfin
  obtain ⟨hd, rfl, ht⟩ := hd
  have hz : rng z := vok_h hS
  have hx : rng x := vok_h (vok_t hS)
  have hS' := vok_t (vok_t hS)
  exact lv_icmp_gt C.1 C.2.1 hd ht (fun q => kt (by simpa [oi_lt hz hx] using q) G p l e s m args below meth c H locs ls Z C R Lk hS' hV hfin) (fun q => kf (by simpa [oi_lt hz hx] using q) G p l e s m args below meth c H locs ls Z C R Lk hS' hV hfin)
theorem r_if_gt {x : Int} {off : Int} (hd : Db y pc (.ifCond .gt off) off pc' tgt) (kt : 0 < x → SPW y t0 tgt L S M r Mf) (kf : ¬ (0 < x) → SPW y t0 pc' L S M r Mf) : SPW y t0 pc L (vI x :: S) M r Mf := by
  intro G p l e s m args below meth c H locs ls Z C R Lk hS hV hfin
  obtain ⟨hd, rfl, ht⟩ := hd
  have hx : rng x := vok_h hS
  have hS' := vok_t hS
  exact lv_if_gt C.1 C.2.1 hd ht (fun q => kt ((oi_lt rng_0 hx).mp q) G p l e s m args below meth c H locs ls Z C R Lk hS' hV hfin) (fun q => kf (fun h => q ((oi_lt rng_0 hx).mpr h)) G p l e s m args below meth c H locs ls Z C R Lk hS' hV hfin)
theorem r_icmp_le {x z : Int} {off : Int} (hd : Db y pc (.if_icmp .le off) off pc' tgt) (kt : x ≤ z → SPW y t0 tgt L S M r Mf) (kf : ¬ (x ≤ z) → SPW y t0 pc' L S M r Mf) : SPW y t0 pc L (vI z :: vI x :: S) M r Mf := by
  intro G p l e s m args below meth c H locs ls Z C R Lk hS hV hfin
  obtain ⟨hd, rfl, ht⟩ := hd
  have hz : rng z := vok_h hS
  have hx : rng x := vok_h (vok_t hS)
  have hS' := vok_t (vok_t hS)
  exact lv_icmp_le C.1 C.2.1 hd ht (fun q => kt (by simpa [oi_le hx hz] using q) G p l e s m args below meth c H locs ls Z C R Lk hS' hV hfin) (fun q => kf (by simpa [oi_le hx hz] using q) G p l e s m args below meth c H locs ls Z C R Lk hS' hV hfin)
theorem r_if_le {x : Int} {off : Int} (hd : Db y pc (.ifCond .le off) off pc' tgt) (kt : x ≤ 0 → SPW y t0 tgt L S M r Mf) (kf : ¬ (x ≤ 0) → SPW y t0 pc' L S M r Mf) : SPW y t0 pc L (vI x :: S) M r Mf := by
  intro G p l e s m args below meth c H locs ls Z C R Lk hS hV hfin
  obtain ⟨hd, rfl, ht⟩ := hd
  have hx : rng x := vok_h hS
  have hS' := vok_t hS
  exact lv_if_le C.1 C.2.1 hd ht (fun q => kt ((oi_le hx rng_0).mp q) G p l e s m args below meth c H locs ls Z C R Lk hS' hV hfin) (fun q => kf (fun h => q ((oi_le hx rng_0).mpr h)) G p l e s m args below meth c H locs ls Z C R Lk hS' hV hfin)
theorem r_ifnonnullR {o off : Int} (hd : Db y pc (.ifnonnull off) off pc' tgt) (kk : SPW y t0 tgt L S M r Mf) : SPW y t0 pc L (vR o :: S) M r Mf := by
  intro G p l e s m args below meth c H locs ls Z C R Lk hS hV hfin
  exact lv_ifnonnull C.1 C.2.1 hd.1 hd.2.2 (kk G p l e s m args below meth c H locs ls Z C R Lk (vok_t hS) hV hfin)
theorem r_ifnonnullN {off : Int} (hd : Db y pc (.ifnonnull off) off pc' tgt) (kk : SPW y t0 pc' L S M r Mf) : SPW y t0 pc L (vN :: S) M r Mf := by
  intro G p l e s m args below meth c H locs ls Z C R Lk hS hV hfin
  obtain ⟨hd, rfl, ht⟩ := hd
  exact lv_ifnonnullN C.1 C.2.1 hd (kk G p l e s m args below meth c H locs ls Z C R Lk (vok_t hS) hV hfin)
theorem r_ifnullR {o off : Int} (hd : Db y pc (.ifnull off) off pc' tgt) (kk : SPW y t0 pc' L S M r Mf) : SPW y t0 pc L (vR o :: S) M r Mf := by
  intro G p l e s m args below meth c H locs ls Z C R Lk hS hV hfin
  obtain ⟨hd, rfl, ht⟩ := hd
  exact lv_ifnull C.1 C.2.1 hd (kk G p l e s m args below meth c H locs ls Z C R Lk (vok_t hS) hV hfin)
theorem r_ifnullN {off : Int} (hd : Db y pc (.ifnull off) off pc' tgt) (kk : SPW y t0 tgt L S M r Mf) : SPW y t0 pc L (vN :: S) M r Mf := by
  intro G p l e s m args below meth c H locs ls Z C R Lk hS hV hfin
  exact lv_ifnullN C.1 C.2.1 hd.1 hd.2.2 (kk G p l e s m args below meth c H locs ls Z C R Lk (vok_t hS) hV hfin)
theorem adr_inj {G : Gg} {a b : Int} (ha : 0 ≤ a) (hb : 0 ≤ b) (h : adr G a = adr G b) : a = b := by
  rw [adr_pos ha, adr_pos hb] at h
  omega
theorem r_acmp_eq {a b off : Int} (hd : Db y pc (.if_acmp .eq off) off pc' tgt) (ha : 0 ≤ a) (hb : 0 ≤ b) (kt : a = b → SPW y t0 tgt L S M r Mf) (kf : ¬ a = b → SPW y t0 pc' L S M r Mf) : SPW y t0 pc L (vR b :: vR a :: S) M r Mf := by
  intro G p l e s m args below meth c H locs ls Z C R Lk hS hV hfin
  obtain ⟨hd, rfl, ht⟩ := hd
  have hS' := vok_t (vok_t hS)
  exact lv_acmp_eq (rx := some (adr G a)) (ry := some (adr G b)) C.1 C.2.1 hd ht (fun q => kt (adr_inj ha hb (Option.some.inj q)) G p l e s m args below meth c H locs ls Z C R Lk hS' hV hfin) (fun q => kf (fun z => q (by rw [z])) G p l e s m args below meth c H locs ls Z C R Lk hS' hV hfin)
theorem r_tabIn {x dflt lo hi off : Int} {offs : Array Int} {len : Nat} (hd : decode (mbc y) pc = .ok (.tableswitch dflt lo hi offs, len)) (h1 : lo ≤ x) (h2 : x ≤ hi) (ho : offs[(x - lo).toNat]? = some off) (ht : (pc : Int) + off = (tgt : Int)) (kk : SPW y t0 tgt L S M r Mf) : SPW y t0 pc L (vI x :: S) M r Mf := by
  intro G p l e s m args below meth c H locs ls Z C R Lk hS hV hfin
  have hx : rng x := vok_h hS
  exact lv_tableIn C.1 C.2.1 hd (by rw [oi_t hx]; omega) (by rw [oi_t hx]; omega) (by rw [oi_t hx]; exact ho) ht (kk G p l e s m args below meth c H locs ls Z C R Lk (vok_t hS) hV hfin)
theorem r_tabOut {x dflt lo hi : Int} {offs : Array Int} {len : Nat} (hd : decode (mbc y) pc = .ok (.tableswitch dflt lo hi offs, len)) (h : x < lo ∨ hi < x) (ht : (pc : Int) + dflt = (tgt : Int)) (kk : SPW y t0 tgt L S M r Mf) : SPW y t0 pc L (vI x :: S) M r Mf := by
  intro G p l e s m args below meth c H locs ls Z C R Lk hS hV hfin
  have hx : rng x := vok_h hS
  exact lv_tableOut C.1 C.2.1 hd (by rw [oi_t hx]; exact h) ht (kk G p l e s m args below meth c H locs ls Z C R Lk (vok_t hS) hV hfin)
theorem r_look {x dflt off : Int} {ps : Array (Int × Int)} {len : Nat} (hd : decode (mbc y) pc = .ok (.lookupswitch dflt ps, len)) (hp : (ps.toList.zip (ps.toList.drop 1)).all (fun (a, next) => a.1 < next.1) = true) (ho : Op.lookupswitch.offset ps.toList dflt x = off) (ht : (pc : Int) + off = (tgt : Int)) (kk : SPW y t0 tgt L S M r Mf) : SPW y t0 pc L (vI x :: S) M r Mf := by
  intro G p l e s m args below meth c H locs ls Z C R Lk hS hV hfin
  have hx : rng x := vok_h hS
  exact lv_lookup C.1 C.2.1 hd hp (by rw [oi_t hx]; exact ho) ht (kk G p l e s m args below meth c H locs ls Z C R Lk (vok_t hS) hV hfin)
theorem r_i2c {x : Int} (hd : Dc y pc .i2c 1 pc') (kk : SPW y t0 pc' L (vI (x % 65536) :: S) M r Mf) : SPW y t0 pc L (vI x :: S) M r Mf := by
  intro G p l e s m args below meth c H locs ls Z C R Lk hS hV hfin
  obtain ⟨hd, rfl⟩ := hd
  have hx : rng x := vok_h hS
  have a1 : 0 ≤ x % 65536 := Int.emod_nonneg x (by omega)
  have a2 : x % 65536 < 65536 := Int.emod_lt_of_pos x (by omega)
  have hq : rng (x % 65536) := ⟨by omega, by omega⟩
  refine lv_i2c (v := Int32.ofInt (x % 65536)) C.1 C.2.1 hd ?_ (kk G p l e s m args below meth c H locs ls Z C R Lk (vok_c (v := vI (x % 65536)) hq (vok_t hS)) hV hfin)
  rw [pk_char]
  have e1 : (Int32.ofInt x).toBitVec.toNat = (x % 4294967296).toNat := by
    show (BitVec.ofInt 32 x).toNat = _
    rw [BitVec.toNat_ofInt]
    rfl
  rw [e1, oi_nI]
  congr 1
  omega
theorem r_and31 {x : Int} (hd : Dc y pc .iand 1 pc') (kk : SPW y t0 pc' L (vI (x % 32) :: S) M r Mf) : SPW y t0 pc L (vI 31 :: vI x :: S) M r Mf := by
  intro G p l e s m args below meth c H locs ls Z C R Lk hS hV hfin
  obtain ⟨hd, rfl⟩ := hd
  have hx : rng x := vok_h (vok_t hS)
  have a1 : 0 ≤ x % 32 := Int.emod_nonneg x (by omega)
  have a2 : x % 32 < 32 := Int.emod_lt_of_pos x (by omega)
  have hq : rng (x % 32) := ⟨by omega, by omega⟩
  refine lv_iand C.1 C.2.1 hd ?_
  have e2 : Int32.ofInt x &&& Int32.ofInt 31 = Int32.ofInt (x % 32) := by
    rw [pk_and (Int32.ofInt x) (m := Int32.ofInt 31) 5 rfl]
    have e1 : (Int32.ofInt x).toBitVec.toNat = (x % 4294967296).toNat := by
      show (BitVec.ofInt 32 x).toNat = _
      rw [BitVec.toNat_ofInt]
      rfl
    rw [e1, oi_nI]
    congr 1
    omega
  rw [e2]
  exact kk G p l e s m args below meth c H locs ls Z C R Lk (vok_c (v := vI (x % 32)) hq (vok_t (vok_t hS))) hV hfin
theorem r_ixor {a b : Nat} (hd : Dc y pc .ixor 1 pc') (ha : a < 2147483648) (hb : b < 2147483648) (kk : SPW y t0 pc' L (vI ((a ^^^ b : Nat) : Int) :: S) M r Mf) : SPW y t0 pc L (vI (b : Int) :: vI (a : Int) :: S) M r Mf := by
  intro G p l e s m args below meth c H locs ls Z C R Lk hS hV hfin
  obtain ⟨hd, rfl⟩ := hd
  refine lv_ixor C.1 C.2.1 hd ?_
  have hlt : a ^^^ b < 2 ^ 31 := Nat.xor_lt_two_pow ha hb
  have e2 : Int32.ofInt (a : Int) ^^^ Int32.ofInt (b : Int) = Int32.ofInt ((a ^^^ b : Nat) : Int) := by
    apply Int32.toBitVec_inj.mp
    apply BitVec.eq_of_toNat_eq
    show (BitVec.ofInt 32 (a : Int) ^^^ BitVec.ofInt 32 (b : Int)).toNat = (BitVec.ofInt 32 ((a ^^^ b : Nat) : Int)).toNat
    rw [BitVec.toNat_xor, BitVec.toNat_ofInt, BitVec.toNat_ofInt, BitVec.toNat_ofInt]
    have k1 : ∀ z : Nat, z < 2147483648 → ((z : Int) % ((2 ^ 32 : Nat) : Int)).toNat = z := fun z hz => by omega
    rw [k1 a ha, k1 b hb, k1 _ hlt]
  rw [e2]
  exact kk G p l e s m args below meth c H locs ls Z C R Lk (vok_c (v := vI ((a ^^^ b : Nat) : Int)) ⟨by omega, by omega⟩ (vok_t (vok_t hS))) hV hfin
theorem r_ishl {a k : Nat} (hd : Dc y pc .ishl 1 pc') (hk : k < 32) (ha : a * 2 ^ k < 2147483648) (kk : SPW y t0 pc' L (vI ((a * 2 ^ k : Nat) : Int) :: S) M r Mf) : SPW y t0 pc L (vI (k : Int) :: vI (a : Int) :: S) M r Mf := by
  intro G p l e s m args below meth c H locs ls Z C R Lk hS hV hfin
  obtain ⟨hd, rfl⟩ := hd
  refine lv_ishl C.1 C.2.1 hd ?_
  have e1 : Int32.ofInt (k : Int) &&& 31 = nI k := by
    rw [show Int32.ofInt (k : Int) = nI k from rfl, pk_andN (by omega) 5 rfl]
    congr 1
    omega
  have e2 : Int32.ofInt (a : Int) <<< (Int32.ofInt (k : Int) &&& 31) = Int32.ofInt ((a * 2 ^ k : Nat) : Int) := by
    rw [e1]
    exact pk_shlN (nI k) k (by
      have h32 : ∀ j, j < 32 → ((nI j).toBitVec.smod 32).toNat = j := by decide
      exact h32 k hk) (by omega)
  rw [e2]
  exact kk G p l e s m args below meth c H locs ls Z C R Lk (vok_c (v := vI ((a * 2 ^ k : Nat) : Int)) ⟨by omega, by omega⟩ (vok_t (vok_t hS))) hV hfin
theorem r_ret (hd : decode (mbc y) pc = .ok (retI (mrt y), 1)) (hS0 : S = r.toList) (hM : M = Mf) : SPW y t0 pc L S M r Mf := by
  intro G p l e s m args below meth c H locs ls Z C R Lk hS hV hfin
  subst hM
  subst hS0
  exact hfin H locs ls pc R hV (fun v h => hS v (by rw [h]; exact List.mem_cons_self)) hd
end RU
end
section
/-! fields, arrays, new cells -/
section RM
variable {y : MI} {t0 pc pc' tgt : Nat} {L L' : List (Option Vv)} {S : List Vv} {ρ : Int → Int → Option Int} {t : Nat} {μ : Int → Int → Int} {Mf : Mm} {r : Option Vv}
theorem fvl_int {G : Gg} {M : Mm} {ci : Nat} {o : Int} {k : Nat} (h : tyk ci k ≠ 2) : fvl G M ci o k = .int (Int32.ofInt (M.2.2 o k)) := if_neg h
theorem fvl_ref {G : Gg} {M : Mm} {ci : Nat} {o : Int} {k : Nat} (h : tyk ci k = 2) : fvl G M ci o k = tv G (.inr (M.1 o k)) := if_pos h
theorem r_getI {o kI : Int} {ci k idx : Nat} (hd : Dc y pc (.getfield idx) 3 pc') (hl : Cond.fieldLink (mnm y).cls idx (cnm ci) (Tcl ci k).2.1 (Tcl ci k).2.2.1 ∈ lw_g) (hk : ((k : Nat) : Int) = kI) (hc : ci < 7 ∧ k < nfd ci ∧ tyk ci k ≠ 2) (hv : vk t o ci) (kk : SPW y t0 pc' L (vI (μ o kI) :: S) (ρ, t, μ) r Mf) : SPW y t0 pc L (vR o :: S) (ρ, t, μ) r Mf := by
  intro G p l e s m args below meth c H locs ls Z C R Lk hS hV hfin
  obtain ⟨hd, rfl⟩ := hd
  subst hk
  obtain ⟨h0, h1, h2⟩ := hv
  have he := wl_get (G := G) (M := (ρ, t, μ)) h0 h1
  rw [ce_obj h2 hc.1] at he
  refine va_get C.1 C.2.1 C.2.2.2.2.1 (fun w hw => lay_ok ci hc.1 w hw) C.2.2.2.1 C.2.2.2.2.2.1 R.1 o.toNat he (cls_ok ci hc.1) k hc.2.1 (C.2.2.2.2.1 _ hl) (fun _ h => h) (fvl_at hc.2.1) hd ?_
  rw [fvl_int hc.2.2]
  exact kk G p l e s m args below meth c H locs ls Z C R Lk (vok_c (v := vI _) (R.2.2.1 o k) (vok_t hS)) hV hfin
theorem r_getR {o : Int} {kI : Int} {ci k idx : Nat} {v : Option Int} (hd : Dc y pc (.getfield idx) 3 pc') (hl : Cond.fieldLink (mnm y).cls idx (cnm ci) (Tcl ci k).2.1 (Tcl ci k).2.2.1 ∈ lw_g) (hk : ((k : Nat) : Int) = kI) (hc : ci < 7 ∧ k < nfd ci ∧ tyk ci k = 2) (hv : vk t o ci) (hr : ρ o kI = v) (kk : SPW y t0 pc' L (.inr v :: S) (ρ, t, μ) r Mf) : SPW y t0 pc L (vR o :: S) (ρ, t, μ) r Mf := by
  intro G p l e s m args below meth c H locs ls Z C R Lk hS hV hfin
  obtain ⟨hd, rfl⟩ := hd
  subst hk
  subst hr
  obtain ⟨h0, h1, h2⟩ := hv
  have he := wl_get (G := G) (M := (ρ, t, μ)) h0 h1
  rw [ce_obj h2 hc.1] at he
  refine va_get C.1 C.2.1 C.2.2.2.2.1 (fun w hw => lay_ok ci hc.1 w hw) C.2.2.2.1 C.2.2.2.2.2.1 R.1 o.toNat he (cls_ok ci hc.1) k hc.2.1 (C.2.2.2.2.1 _ hl) (fun _ h => h) (fvl_at hc.2.1) hd ?_
  rw [fvl_ref hc.2.2]
  exact kk G p l e s m args below meth c H locs ls Z C R Lk (vok_c (v := .inr (ρ o k)) trivial (vok_t hS)) hV hfin
theorem upM_rng {μ : Int → Int → Int} {o k v : Int} (h : ∀ o k, rng (μ o k)) (hv : rng v) : ∀ o' k', rng (upM μ o k v o' k') := by
  intro o' k'
  unfold upM
  split
  · exact hv
  · exact h o' k'
theorem range_set {α : Type} {n k : Nat} {f g : Nat → α} (h : ∀ j, j ≠ k → g j = f j) (v : α) (hv : g k = v) : ((List.range n).map f).set k v = (List.range n).map g := by
  subst hv
  apply List.ext_getElem?
  intro i
  rw [List.getElem?_set]
  simp only [List.getElem?_map, List.length_map, List.length_range]
  by_cases hi : k = i
  · subst hi
    rw [if_pos rfl]
    by_cases hl : k < n
    · rw [if_pos hl, List.getElem?_range hl]
      rfl
    · rw [if_neg hl, List.getElem?_eq_none (by simp; omega)]
      rfl
  · rw [if_neg hi]
    by_cases hl : i < n
    · rw [List.getElem?_range hl, Option.map_some, Option.map_some, h i (fun q => hi q.symm)]
    · rw [List.getElem?_eq_none (by simp; omega)]
      rfl
theorem upM_ne {μ : Int → Int → Int} {o k v o' k' : Int} (h : o' ≠ o ∨ k' ≠ k) : upM μ o k v o' k' = μ o' k' := by
  unfold upM
  rw [if_neg (by omega)]
theorem upM_eq {μ : Int → Int → Int} {o k v : Int} : upM μ o k v o k = v := by
  unfold upM
  rw [if_pos ⟨rfl, rfl⟩]
theorem upR_ne {ρ : Int → Int → Option Int} {o k : Int} {v : Option Int} {o' k' : Int} (h : o' ≠ o ∨ k' ≠ k) : upR ρ o k v o' k' = ρ o' k' := by
  unfold upR
  rw [if_neg (by omega)]
theorem upR_eq {ρ : Int → Int → Option Int} {o k : Int} {v : Option Int} : upR ρ o k v o k = v := by
  unfold upR
  rw [if_pos ⟨rfl, rfl⟩]
theorem scr_up {G : Gg} {μ : Int → Int → Int} {o k v : Int} (h0 : 0 ≤ o) (h : scr G μ) : scr G (upM μ o k v) := ⟨by rw [upM_ne (Or.inl (by omega))]; exact h.1, fun j hj => by rw [upM_ne (Or.inl (by omega))]; exact h.2 j hj⟩
/-- an int field is written: the world behind it -/
theorem wl_putI {G : Gg} {o x : Int} {ci k : Nat} (hc : ci < 7 ∧ k < nfd ci ∧ tyk ci k ≠ 2) (hv : vk t o ci) : (wl G (ρ, t, μ)).set o.toNat (adr G o, .inr (ci, ((List.range (nfd ci)).map (fvl G (ρ, t, μ) ci o)).set k (.int (Int32.ofInt x)))) = wl G (ρ, t, upM μ o k x) := by
  obtain ⟨h0, h1, h2⟩ := hv
  refine wl_set (M := (ρ, t, μ)) (M' := (ρ, t, upM μ o k x)) h0 rfl (fun i hi => ce_congr (fun _ => rfl) (fun j => upM_ne (Or.inl hi))) ?_
  rw [ce_obj h2 hc.1]
  congr 2
  refine (range_set (g := fvl G (ρ, t, upM μ o k x) ci o) (fun j hj => ?_) _ ?_).symm
  · unfold fvl
    dsimp only
    rw [upM_ne (Or.inr (by omega))]
  · rw [fvl_int hc.2.2]
    dsimp only
    rw [upM_eq]
theorem wl_putR {G : Gg} {o : Int} {v : Option Int} {ci k : Nat} (hc : ci < 7 ∧ k < nfd ci ∧ tyk ci k = 2) (hv : vk t o ci) : (wl G (ρ, t, μ)).set o.toNat (adr G o, .inr (ci, ((List.range (nfd ci)).map (fvl G (ρ, t, μ) ci o)).set k (tv G (.inr v)))) = wl G (upR ρ o k v, t, μ) := by
  obtain ⟨h0, h1, h2⟩ := hv
  refine wl_set (M := (ρ, t, μ)) (M' := (upR ρ o k v, t, μ)) h0 rfl (fun i hi => ce_congr (fun j => upR_ne (Or.inl hi)) (fun _ => rfl)) ?_
  rw [ce_obj h2 hc.1]
  congr 2
  refine (range_set (g := fvl G (upR ρ o k v, t, μ) ci o) (fun j hj => ?_) _ ?_).symm
  · unfold fvl
    dsimp only
    rw [upR_ne (Or.inr (by omega))]
  · rw [fvl_ref hc.2.2]
    dsimp only
    rw [upR_eq]
theorem wl_putA {G : Gg} {o i x : Int} {q : Nat} (hq : ¬ q < 7 ∧ kt q < 2) (hv : vk t o q) (h0 : 0 ≤ i) : (wl G (ρ, t, μ)).set o.toNat (adr G o, .inl (gA G (kt q), kl q, .inl (upd (fun j => Int32.ofInt (μ o j)) i.toNat (Int32.ofInt x)))) = wl G (ρ, t, upM μ o i x) := by
  obtain ⟨h1, h2, h3⟩ := hv
  refine wl_set (M := (ρ, t, μ)) (M' := (ρ, t, upM μ o i x)) h1 rfl (fun z hz => ce_congr (fun _ => rfl) (fun j => upM_ne (Or.inl hz))) ?_
  rw [ce_int h3 hq.1 hq.2]
  congr 4
  funext j
  show Int32.ofInt (upM μ o i x o j) = upd (fun j => Int32.ofInt (μ o j)) i.toNat (Int32.ofInt x) j
  by_cases hj : j = i.toNat
  · subst hj
    rw [show ((i.toNat : Nat) : Int) = i from Int.toNat_of_nonneg h0, upM_eq]
    simp [upd]
  · rw [upM_ne (Or.inr (by omega))]
    simp [upd, hj]
theorem wl_putQ {G : Gg} {o i w : Int} {q : Nat} (hq : ¬ q < 7 ∧ ¬ kt q < 2) (hv : vk t o q) (h0 : 0 ≤ i) : (wl G (ρ, t, μ)).set o.toNat (adr G o, .inl (gA G (kt q), kl q, .inr (.inr (.inr (.inr (va_up (fun j => (ρ o j).map (adr G)) i.toNat (some (adr G w)))))))) = wl G (upR ρ o i (some w), t, μ) := by
  obtain ⟨h1, h2, h3⟩ := hv
  refine wl_set (M := (ρ, t, μ)) (M' := (upR ρ o i (some w), t, μ)) h1 rfl (fun z hz => ce_congr (fun j => upR_ne (Or.inl hz)) (fun _ => rfl)) ?_
  rw [ce_ref h3 hq.1 hq.2]
  congr 7
  funext j
  show (upR ρ o i (some w) o j).map (adr G) = va_up (fun j => (ρ o j).map (adr G)) i.toNat (some (adr G w)) j
  by_cases hj : j = i.toNat
  · subst hj
    rw [show ((i.toNat : Nat) : Int) = i from Int.toNat_of_nonneg h0, upR_eq]
    simp [va_up]
  · rw [upR_ne (Or.inr (by omega))]
    simp [va_up, hj]
/-- an int or boolean field, not final or a constructor's own -/
def putOK (ci k : Nat) (x : Int) : Prop := (tyk ci k = 0 ∧ tyc ci k = .int) ∨ (tyk ci k = 1 ∧ tyc ci k = .boolean ∧ (x = 0 ∨ x = 1))
theorem putOK.fits {ci k : Nat} {x : Int} (h : putOK ci k x) : narrow (tyc ci k) (.int (Int32.ofInt x)) = .int (Int32.ofInt x) ∧ fits (tyc ci k) (.int (Int32.ofInt x)) = true ∧ tyk ci k ≠ 2 := by
  rcases h with ⟨h1, h2⟩ | ⟨h1, h2, rfl | rfl⟩
  · rw [h2]
    exact ⟨rfl, rfl, by omega⟩
  · rw [h2]
    exact ⟨rfl, rfl, by omega⟩
  · rw [h2]
    exact ⟨rfl, rfl, by omega⟩
theorem fs_len {G : Gg} {M : Mm} {ci : Nat} {o : Int} : ((List.range (nfd ci)).map (fvl G M ci o)).length = nfd ci := by rw [List.length_map, List.length_range]
theorem r_putI {o x kI : Int} {ci k idx : Nat} (hd : Dc y pc (.putfield idx) 3 pc') (hl : Cond.fieldLink (mnm y).cls idx (cnm ci) (Tcl ci k).2.1 (Tcl ci k).2.2.1 ∈ lw_g) (hk : ((k : Nat) : Int) = kI) (hc : ci < 7 ∧ k < nfd ci) (hf : (Tcl ci k).2.2.2 = false) (hx : putOK ci k x) (hv : vk t o ci) (kk : SPW y t0 pc' L S (ρ, t, upM μ o kI x) r Mf) : SPW y t0 pc L (vI x :: vR o :: S) (ρ, t, μ) r Mf := by
  intro G p l e s m args below meth c H locs ls Z C R Lk hS hV hfin
  obtain ⟨hd, rfl⟩ := hd
  subst hk
  obtain ⟨p1, p2, p3⟩ := hx.fits
  have hv0 := hv
  obtain ⟨h0, h1, h2⟩ := hv
  have he := wl_get (G := G) (M := (ρ, t, μ)) h0 h1
  rw [ce_obj h2 hc.1] at he
  have hK := C.2.2.2.2.2.1
  have hts := C.2.2.2.2.1
  have hin : ∀ w ∈ u_ws (cnm ci) (Tcl ci) (nfd ci), w ∈ lw_g := lay_ok ci hc.1
  have hap := va_apart (own := (mnm y).cls) hts hin (tyc ci) (tyc_ok ci hc.1) (nm_ok ci hc.1) hK (cls_ok ci hc.1)
  obtain ⟨rr, hr1, cell, q1, q2, q3, q4⟩ := R.1 _ _ he
  have hr : rr = (cnm ci, Tcl ci, nfd ci) := Option.some.inj (hr1.symm.trans (cls_ok ci hc.1))
  subst hr
  obtain ⟨hSl, hfc, kC, hkC, hkind⟩ := hK.1 ci _ (cls_ok ci hc.1)
  obtain ⟨cf, kf, fi, f, hi, hsl⟩ := hSl k hc.2
  have hlay := hts _ (hin _ (u_in_lay hc.2))
  unfold u_lay at hlay
  rw [if_neg (by rw [hf]; decide)] at hlay
  have hst := (u_facts hfc hkC (u_lays hts hin hc.2) hi).1
  have h6 := u_store hfc hkC hkind hlay hi (tyc_ok ci hc.1 k hc.2) p1 p2
  refine W.putK C.1 C.2.1 (f := f) ⟨C.2.2.2.1, hts _ hl, ⟨_, _, _, hi⟩, hst⟩ (by rw [q2]; exact h6) q1 q3 (by rw [hsl]; exact k2_hasslot (q4 k hc.2)) rfl rfl hd fun H' e1 e2 e3 => ?_
  rw [hsl] at e1 ⊢
  have hat : va_at (gD G) cls_l (adr G o, .inr (ci, ((List.range (nfd ci)).map (fvl G (ρ, t, μ) ci o)).set k (.int (Int32.ofInt x)))) H' := ⟨_, cls_ok ci hc.1, t_OB.to (V := updV (vp_V ((List.range (nfd ci)).map (fvl G (ρ, t, μ) ci o))) k (.int (Int32.ofInt x))) ⟨_, e1, q2, q3, t_set q4 hap hc.2 _⟩ (fun j _ => vp_updV_set (by rw [fs_len]; exact hc.2) _ j)⟩
  have hP' := R.1.set wl_D he hat e3
  rw [wl_putI ⟨hc.1, hc.2, p3⟩ hv0] at hP'
  exact kk G p l e s m args below meth c H' _ ls Z C ⟨hP', fun q => e2.trans (R.2.1 q), ⟨upM_rng R.2.2.1 (vok_h (v := vI x) hS), scr_up hv0.1 R.2.2.2⟩⟩ Lk (vok_t (vok_t hS)) (hV.put e2 e3 (wl_D.2 _ _ he)) hfin
theorem r_putIF {o x kI : Int} {ci k idx : Nat} (hd : Dc y pc (.putfield idx) 3 pc') (hl : Cond.fieldLink (mnm y).cls idx (cnm ci) (Tcl ci k).2.1 (Tcl ci k).2.2.1 ∈ lw_g) (hk : ((k : Nat) : Int) = kI) (hc : ci < 7 ∧ k < nfd ci) (hf : (Tcl ci k).2.2.2 = true) (hin0 : (mnm y).name = "<init>") (hown : cnm ci = (mnm y).cls) (hx : putOK ci k x) (hv : vk t o ci) (kk : SPW y t0 pc' L S (ρ, t, upM μ o kI x) r Mf) : SPW y t0 pc L (vI x :: vR o :: S) (ρ, t, μ) r Mf := by
  intro G p l e s m args below meth c H locs ls Z C R Lk hS hV hfin
  obtain ⟨hd, rfl⟩ := hd
  subst hk
  obtain ⟨p1, p2, p3⟩ := hx.fits
  have hv0 := hv
  obtain ⟨h0, h1, h2⟩ := hv
  have he := wl_get (G := G) (M := (ρ, t, μ)) h0 h1
  rw [ce_obj h2 hc.1] at he
  have hK := C.2.2.2.2.2.1
  have hts := C.2.2.2.2.1
  have hin : ∀ w ∈ u_ws (cnm ci) (Tcl ci) (nfd ci), w ∈ lw_g := lay_ok ci hc.1
  have hap := va_apart (own := (mnm y).cls) hts hin (tyc ci) (tyc_ok ci hc.1) (nm_ok ci hc.1) hK (cls_ok ci hc.1)
  obtain ⟨rr, hr1, cell, q1, q2, q3, q4⟩ := R.1 _ _ he
  have hr : rr = (cnm ci, Tcl ci, nfd ci) := Option.some.inj (hr1.symm.trans (cls_ok ci hc.1))
  subst hr
  obtain ⟨hSl, hfc, kC, hkC, hkind⟩ := hK.1 ci _ (cls_ok ci hc.1)
  obtain ⟨cf, kf, fi, f, hi, hsl⟩ := hSl k hc.2
  have hst := (u_facts hfc hkC (u_lays hts hin hc.2) hi).1
  have h6 := u_fits hfc hkC hkind (u_lays hts hin hc.2) hi (tyc_ok ci hc.1 k hc.2) p1 p2
  have hlay := hts _ (hin _ (u_in_lay hc.2))
  unfold u_lay at hlay
  rw [if_pos hf] at hlay
  have hcf : m.cls = cf := by
    obtain ⟨_, _, c', _, _, _, -, -, hf', -, -, -, hown2, -⟩ := Cond.laysFinal_spec hlay
    have e1 : c' = cf := by have := hi.symm.trans hf'; simp at this; exact this.1.symm
    rw [show (Tcl ci k).1 = (mnm y).cls from hown] at hown2
    rw [← e1]; exact Option.some.inj (C.2.2.2.1.symm.trans hown2)
  refine W.putFinK C.1 C.2.1 C.2.2.2.1 (hts _ hl) hi hst hcf (C.2.2.2.2.2.2.2.1 hin0) (by rw [q2]; exact h6) q1 q3 (by rw [hsl]; exact k2_hasslot (q4 k hc.2)) rfl rfl hd fun H' e1 e2 e3 => ?_
  rw [hsl] at e1 ⊢
  have hat : va_at (gD G) cls_l (adr G o, .inr (ci, ((List.range (nfd ci)).map (fvl G (ρ, t, μ) ci o)).set k (.int (Int32.ofInt x)))) H' := ⟨_, cls_ok ci hc.1, t_OB.to (V := updV (vp_V ((List.range (nfd ci)).map (fvl G (ρ, t, μ) ci o))) k (.int (Int32.ofInt x))) ⟨_, e1, q2, q3, t_set q4 hap hc.2 _⟩ (fun j _ => vp_updV_set (by rw [fs_len]; exact hc.2) _ j)⟩
  have hP' := R.1.set wl_D he hat e3
  rw [wl_putI ⟨hc.1, hc.2, p3⟩ hv0] at hP'
  exact kk G p l e s m args below meth c H' _ ls Z C ⟨hP', fun q => e2.trans (R.2.1 q), ⟨upM_rng R.2.2.1 (vok_h (v := vI x) hS), scr_up hv0.1 R.2.2.2⟩⟩ Lk (vok_t (vok_t hS)) (hV.put e2 e3 (wl_D.2 _ _ he)) hfin
/-- a reference field -/
def putRK (ci k : Nat) : Prop := (∃ C, tyc ci k = .object C) ∨ ∃ u, tyc ci k = .array u
theorem putRK.fits {ci k : Nat} {a : Nat} (h : putRK ci k) : narrow (tyc ci k) (.ref a) = .ref a ∧ fits (tyc ci k) (.ref a) = true := by
  rcases h with ⟨C, h⟩ | ⟨u, h⟩ <;> rw [h] <;> exact ⟨rfl, rfl⟩
theorem r_putRF {o w kI : Int} {ci k idx : Nat} (hd : Dc y pc (.putfield idx) 3 pc') (hl : Cond.fieldLink (mnm y).cls idx (cnm ci) (Tcl ci k).2.1 (Tcl ci k).2.2.1 ∈ lw_g) (hk : ((k : Nat) : Int) = kI) (hc : ci < 7 ∧ k < nfd ci ∧ tyk ci k = 2) (hf : (Tcl ci k).2.2.2 = true) (hin0 : (mnm y).name = "<init>") (hown : cnm ci = (mnm y).cls) (hx : putRK ci k) (hv : vk t o ci) (kk : SPW y t0 pc' L S (upR ρ o kI (some w), t, μ) r Mf) : SPW y t0 pc L (vR w :: vR o :: S) (ρ, t, μ) r Mf := by
  intro G p l e s m args below meth c H locs ls Z C R Lk hS hV hfin
  obtain ⟨hd, rfl⟩ := hd
  subst hk
  obtain ⟨p1, p2⟩ := hx.fits (a := adr G w)
  have hv0 := hv
  obtain ⟨h0, h1, h2⟩ := hv
  have he := wl_get (G := G) (M := (ρ, t, μ)) h0 h1
  rw [ce_obj h2 hc.1] at he
  have hK := C.2.2.2.2.2.1
  have hts := C.2.2.2.2.1
  have hin : ∀ w ∈ u_ws (cnm ci) (Tcl ci) (nfd ci), w ∈ lw_g := lay_ok ci hc.1
  have hap := va_apart (own := (mnm y).cls) hts hin (tyc ci) (tyc_ok ci hc.1) (nm_ok ci hc.1) hK (cls_ok ci hc.1)
  obtain ⟨rr, hr1, cell, q1, q2, q3, q4⟩ := R.1 _ _ he
  have hr : rr = (cnm ci, Tcl ci, nfd ci) := Option.some.inj (hr1.symm.trans (cls_ok ci hc.1))
  subst hr
  obtain ⟨hSl, hfc, kC, hkC, hkind⟩ := hK.1 ci _ (cls_ok ci hc.1)
  obtain ⟨cf, kf, fi, f, hi, hsl⟩ := hSl k hc.2.1
  have hst := (u_facts hfc hkC (u_lays hts hin hc.2.1) hi).1
  have h6 := u_fits hfc hkC hkind (u_lays hts hin hc.2.1) hi (tyc_ok ci hc.1 k hc.2.1) p1 p2
  have hlay := hts _ (hin _ (u_in_lay hc.2.1))
  unfold u_lay at hlay
  rw [if_pos hf] at hlay
  have hcf : m.cls = cf := by
    obtain ⟨_, _, c', _, _, _, -, -, hf', -, -, -, hown2, -⟩ := Cond.laysFinal_spec hlay
    have e1 : c' = cf := by have := hi.symm.trans hf'; simp at this; exact this.1.symm
    rw [show (Tcl ci k).1 = (mnm y).cls from hown] at hown2
    rw [← e1]; exact Option.some.inj (C.2.2.2.1.symm.trans hown2)
  refine W.putFinK C.1 C.2.1 C.2.2.2.1 (hts _ hl) hi hst hcf (C.2.2.2.2.2.2.2.1 hin0) (by rw [q2]; exact h6) q1 q3 (by rw [hsl]; exact k2_hasslot (q4 k hc.2.1)) rfl rfl hd fun H' e1 e2 e3 => ?_
  rw [hsl] at e1 ⊢
  have hat : va_at (gD G) cls_l (adr G o, .inr (ci, ((List.range (nfd ci)).map (fvl G (ρ, t, μ) ci o)).set k (.ref (adr G w)))) H' := ⟨_, cls_ok ci hc.1, t_OB.to (V := updV (vp_V ((List.range (nfd ci)).map (fvl G (ρ, t, μ) ci o))) k (.ref (adr G w))) ⟨_, e1, q2, q3, t_set q4 hap hc.2.1 _⟩ (fun j _ => vp_updV_set (by rw [fs_len]; exact hc.2.1) _ j)⟩
  have hP' := R.1.set wl_D he hat e3
  have hP' : va_P (gD G) cls_l ((wl G (ρ, t, μ)).set o.toNat (adr G o, .inr (ci, ((List.range (nfd ci)).map (fvl G (ρ, t, μ) ci o)).set k (tv G (.inr (some w)))))) H' := hP'
  rw [wl_putR hc hv0] at hP'
  exact kk G p l e s m args below meth c H' _ ls Z C ⟨hP', fun q => e2.trans (R.2.1 q), R.2.2⟩ Lk (vok_t (vok_t hS)) (hV.put e2 e3 (wl_D.2 _ _ he)) hfin
theorem ix_ok {i : Int} {n : Nat} (h : rng i) (h0 : 0 ≤ i) (hn : i < n) : vp_in (Int32.ofInt i) n ∧ (Int32.ofInt i).toNatClampNeg = i.toNat := ⟨oi_in h h0 hn, oi_cl h⟩
theorem tys_at {G : Gg} (q : Nat) (h : kt q < 6) : (tys_l G)[kt q]? = some (gA G (kt q), ety (kt q)) := by
  generalize kt q = z at h ⊢
  rcases (show z = 0 ∨ z = 1 ∨ z = 2 ∨ z = 3 ∨ z = 4 ∨ z = 5 by omega) with rfl | rfl | rfl | rfl | rfl | rfl <;> rfl
theorem r_iald {o i : Int} {q : Nat} (hd : Dc y pc .iaload 1 pc') (hq : 8 ≤ q ∧ kt q = 0) (hv : vk t o q) (h0 : 0 ≤ i) (hn : i < (kl q : Nat)) (kk : SPW y t0 pc' L (vI (μ o i) :: S) (ρ, t, μ) r Mf) : SPW y t0 pc L (vI i :: vR o :: S) (ρ, t, μ) r Mf := by
  intro G p l e s m args below meth c H locs ls Z C R Lk hS hV hfin
  obtain ⟨hd, rfl⟩ := hd
  obtain ⟨h1, h2, h3⟩ := hv
  have he := wl_get (G := G) (M := (ρ, t, μ)) h1 h2
  rw [ce_int h3 (by omega) (by omega)] at he
  obtain ⟨e1, e2⟩ := ix_ok (n := kl q) (vok_h hS) h0 hn
  refine va_iald C.1 C.2.1 C.2.2.2.2.2.1 R.1 o.toNat (kt q) he (by rw [tys_at q (by omega), hq.2]; rfl) e1 hd ?_
  rw [e2, Int.toNat_of_nonneg h0]
  exact kk G p l e s m args below meth c H locs ls Z C R Lk (vok_c (v := vI (μ o i)) (R.2.2.1 o i) (vok_t (vok_t hS))) hV hfin
theorem r_cald {o i : Int} {q : Nat} (hd : Dc y pc .caload 1 pc') (hq : 8 ≤ q ∧ kt q = 1) (hv : vk t o q) (h0 : 0 ≤ i) (hn : i < (kl q : Nat)) (kk : SPW y t0 pc' L (vI (μ o i) :: S) (ρ, t, μ) r Mf) : SPW y t0 pc L (vI i :: vR o :: S) (ρ, t, μ) r Mf := by
  intro G p l e s m args below meth c H locs ls Z C R Lk hS hV hfin
  obtain ⟨hd, rfl⟩ := hd
  obtain ⟨h1, h2, h3⟩ := hv
  have he := wl_get (G := G) (M := (ρ, t, μ)) h1 h2
  rw [ce_int h3 (by omega) (by omega)] at he
  obtain ⟨e1, e2⟩ := ix_ok (n := kl q) (vok_h hS) h0 hn
  refine va_cald C.1 C.2.1 C.2.2.2.2.2.1 R.1 o.toNat (kt q) he (by rw [tys_at q (by omega), hq.2]; rfl) e1 hd ?_
  rw [e2, Int.toNat_of_nonneg h0]
  exact kk G p l e s m args below meth c H locs ls Z C R Lk (vok_c (v := vI (μ o i)) (R.2.2.1 o i) (vok_t (vok_t hS))) hV hfin
theorem ety_obj {a : Nat} (h1 : 2 ≤ a) : ∃ C, ety a = .object C := by
  unfold ety
  split <;> first | omega | exact ⟨_, rfl⟩
theorem r_aald {o i : Int} {q : Nat} {v : Option Int} (hd : Dc y pc .aaload 1 pc') (hq : 8 ≤ q ∧ 2 ≤ kt q ∧ kt q < 6) (hv : vk t o q) (h0 : 0 ≤ i) (hn : i < (kl q : Nat)) (hr : ρ o i = v) (kk : SPW y t0 pc' L (.inr v :: S) (ρ, t, μ) r Mf) : SPW y t0 pc L (vI i :: vR o :: S) (ρ, t, μ) r Mf := by
  intro G p l e s m args below meth c H locs ls Z C R Lk hS hV hfin
  obtain ⟨hd, rfl⟩ := hd
  subst hr
  obtain ⟨h1, h2, h3⟩ := hv
  have he := wl_get (G := G) (M := (ρ, t, μ)) h1 h2
  rw [ce_ref h3 (by omega) (by omega)] at he
  obtain ⟨e1, e2⟩ := ix_ok (n := kl q) (vok_h hS) h0 hn
  obtain ⟨cn, hcn⟩ := ety_obj hq.2.1
  refine va_aldq (C := cn) C.1 C.2.1 C.2.2.2.2.2.1 R.1 o.toNat (kt q) he (by rw [tys_at q hq.2.2, hcn]) e1 hd ?_
  rw [e2, Int.toNat_of_nonneg h0]
  exact kk G p l e s m args below meth c H locs ls Z C R Lk (vok_c (v := .inr (ρ o i)) trivial (vok_t (vok_t hS))) hV hfin
theorem r_alen {o : Int} {q : Nat} {n : Int} (hd : Dc y pc .arraylength 1 pc') (hq : 8 ≤ q ∧ kt q < 6) (hv : vk t o q) (hn : ((kl q : Nat) : Int) = n) (hnr : rng n) (kk : SPW y t0 pc' L (vI n :: S) (ρ, t, μ) r Mf) : SPW y t0 pc L (vR o :: S) (ρ, t, μ) r Mf := by
  intro G p l e s m args below meth c H locs ls Z C R Lk hS hV hfin
  obtain ⟨hd, rfl⟩ := hd
  subst hn
  obtain ⟨h1, h2, h3⟩ := hv
  have he := wl_get (G := G) (M := (ρ, t, μ)) h1 h2
  have k := kk G p l e s m args below meth c H locs ls Z C R Lk (vok_c (v := vI _) hnr (vok_t hS)) hV hfin
  by_cases hz : kt q < 2
  · rw [ce_int h3 (by omega) hz] at he
    exact va_alen C.1 C.2.1 C.2.2.2.2.2.1 R.1 o.toNat (kt q) he (tys_at q hq.2) rfl hd k
  · rw [ce_ref h3 (by omega) hz] at he
    exact va_alen C.1 C.2.1 C.2.2.2.2.2.1 R.1 o.toNat (kt q) he (tys_at q hq.2) rfl hd k
theorem r_iast {o i x : Int} {q : Nat} (hd : Dc y pc .iastore 1 pc') (hq : 8 ≤ q ∧ kt q = 0) (hv : vk t o q) (h0 : 0 ≤ i) (hn : i < (kl q : Nat)) (kk : SPW y t0 pc' L S (ρ, t, upM μ o i x) r Mf) : SPW y t0 pc L (vI x :: vI i :: vR o :: S) (ρ, t, μ) r Mf := by
  intro G p l e s m args below meth c H locs ls Z C R Lk hS hV hfin
  obtain ⟨hd, rfl⟩ := hd
  have hv0 := hv
  obtain ⟨h1, h2, h3⟩ := hv
  have he := wl_get (G := G) (M := (ρ, t, μ)) h1 h2
  rw [ce_int h3 (by omega) (by omega)] at he
  obtain ⟨e1, e2⟩ := ix_ok (n := kl q) (vok_h (vok_t hS)) h0 hn
  have ht := (C.2.2.2.2.2.1.2 (kt q) _ (tys_at q (by omega))).1
  rw [hq.2] at ht
  rw [show gA G 0 = gA G (kt q) by rw [hq.2]] at ht
  refine W.iast C.1 C.2.1 (R.1 o.toNat _ he) (ht (kl q) (fun j => .int (Int32.ofInt (μ o j)))) (fun z => by cases z) (by show ¬ (_ < 0 ∨ (arrV _ _ _).slots.size ≤ _); rw [arrV_size]; exact e1) rfl rfl hd fun H1 f1 f2 f3 => ?_
  have hat : va_at (gD G) cls_l (adr G o, .inl (gA G (kt q), kl q, .inl (upd (fun j => Int32.ofInt (μ o j)) i.toNat (Int32.ofInt x)))) H1 := by
    show H1[adr G o]? = some (vp_cell _ _)
    rw [f1]
    rw [vp_cell_i, vp_cell_i, arrV_store]
    congr 2
    funext z
    rw [e2]
    by_cases hz : z = i.toNat
    · subst hz
      simp [updV, upd]
    · simp [updV, upd, hz]
  have hP' := R.1.set wl_D he hat f3
  rw [wl_putA ⟨by omega, by omega⟩ hv0 h0] at hP'
  exact kk G p l e s m args below meth c H1 _ ls Z C ⟨hP', fun z => f2.trans (R.2.1 z), ⟨upM_rng R.2.2.1 (vok_h (v := vI x) hS), scr_up hv0.1 R.2.2.2⟩⟩ Lk (vok_t (vok_t (vok_t hS))) (hV.put f2 f3 (wl_D.2 _ _ he)) hfin
theorem r_cast {o i x : Int} {q : Nat} (hd : Dc y pc .castore 1 pc') (hq : 8 ≤ q ∧ kt q = 1) (hv : vk 219 o q) (h0 : 0 ≤ i) (hn : i < (kl q : Nat)) (hx : 0 ≤ x ∧ x < 65536) (kk : SPW y t0 pc' L S (ρ, 219, upM μ o i x) r Mf) : SPW y t0 pc L (vI x :: vI i :: vR o :: S) (ρ, 219, μ) r Mf := by
  intro G p l e s m args below meth c H locs ls Z C R Lk hS hV hfin
  obtain ⟨hd, rfl⟩ := hd
  have hv0 := hv
  obtain ⟨h1, h2, h3⟩ := hv
  have he := wl_get (G := G) (M := (ρ, 219, μ)) h1 h2
  rw [ce_int h3 (by omega) (by omega)] at he
  obtain ⟨e1, e2⟩ := ix_ok (n := kl q) (vok_h (vok_t hS)) h0 hn
  refine va_cast C.1 C.2.1 C.2.2.2.2.2.1 R.1 wl_D hV o.toNat (kt q) he (by rw [tys_at q (by omega), hq.2]; rfl) e1 hd (fun H1 locs1 hP' hD' hV' => ?_)
  have e3 : vp_nar .char (Int32.ofInt x) = Int32.ofInt x := by
    have := (pk_charN (q := x.toNat) (by omega)).1
    rw [oi_nI, Int.toNat_of_nonneg hx.1] at this
    unfold vp_nar
    rw [this]
  rw [e2, e3, wl_putA ⟨by omega, by omega⟩ hv0 h0] at hP'
  exact kk G p l e s m args below meth c H1 locs1 ls Z C ⟨hP', fun z => absurd z (Nat.lt_irrefl 219), ⟨upM_rng R.2.2.1 (vok_h (v := vI x) hS), scr_up hv0.1 R.2.2.2⟩⟩ Lk (vok_t (vok_t (vok_t hS))) hV' hfin
theorem r_aast {o i w : Int} {q ci : Nat} (hd : Dc y pc .aastore 1 pc') (hq : 8 ≤ q ∧ 2 ≤ kt q ∧ kt q < 6) (hv : vk t o q) (h0 : 0 ≤ i) (hn : i < (kl q : Nat)) (hc : ci < 7) (hw : vk t w ci) (hty : ety (kt q) = .object (cnm ci)) (kk : SPW y t0 pc' L S (upR ρ o i (some w), t, μ) r Mf) : SPW y t0 pc L (vR w :: vI i :: vR o :: S) (ρ, t, μ) r Mf := by
  intro G p l e s m args below meth c H locs ls Z C R Lk hS hV hfin
  obtain ⟨hd, rfl⟩ := hd
  have hv0 := hv
  obtain ⟨h1, h2, h3⟩ := hv
  have he := wl_get (G := G) (M := (ρ, t, μ)) h1 h2
  rw [ce_ref h3 (by omega) (by omega)] at he
  have hew := wl_get (G := G) (M := (ρ, t, μ)) hw.1 hw.2.1
  rw [ce_obj hw.2.2 hc] at hew
  obtain ⟨e1, e2⟩ := ix_ok (n := kl q) (vok_h (vok_t hS)) h0 hn
  have hlt : (Int32.ofInt i).toNatClampNeg < kl q := Nat.not_le.mp fun z => e1 (Or.inr z)
  have hneg : ¬ Int32.ofInt i < 0 := fun z => e1 (Or.inl z)
  have hK := C.2.2.2.2.2.1
  obtain ⟨rr, hr1, cellV, g1, g2, g3, -⟩ := R.1 _ _ hew
  have hcls := (hK.1 ci _ (cls_ok ci hc)).2
  have hra := (hK.2 (kt q) _ (tys_at q hq.2.2)).2
  rw [hty] at hra
  obtain ⟨kA, comp, k1, k2, k3, -⟩ := hra
  have hcomp : comp = (gD G).1 ci := Option.some.inj (k3.symm.trans hcls.1)
  subst hcomp
  obtain ⟨kC, hkC, -⟩ := hcls.2
  refine W.aast C.1 C.2.1 (R.1 _ _ he) (fun q h => by cases h) (fun h => by cases h) k1 k2 rfl hkC ⟨hneg, by show _ < (arrV _ _ _).slots.size; rw [arrV_size]; exact hlt⟩ g1 (fun q h => by rw [g3] at h; cases h) (by rw [g2]; exact hkC) (by rw [g2]; exact va_assign hcls) rfl rfl hd fun H1 f1 f2 f3 => ?_
  have hat : va_at (gD G) cls_l (adr G o, .inl (gA G (kt q), kl q, .inr (.inr (.inr (.inr (va_up (fun j => (ρ o j).map (adr G)) i.toNat (some (adr G w)))))))) H1 := by
    show H1[adr G o]? = some (vp_cell _ _)
    rw [f1]
    rw [vp_cell_q, vp_cell_q, arrV_store]
    congr 2
    funext z
    rw [e2]
    by_cases hz : z = i.toNat
    · subst hz
      simp [updV, va_up, va_rf]
    · simp [updV, va_up, hz]
  have hP' := R.1.set wl_D he hat f3
  rw [wl_putQ ⟨by omega, by omega⟩ hv0 h0] at hP'
  exact kk G p l e s m args below meth c H1 _ ls Z C ⟨hP', fun z => f2.trans (R.2.1 z), R.2.2⟩ Lk (vok_t (vok_t (vok_t hS))) (hV.put f2 f3 (wl_D.2 _ _ he)) hfin
end RM
end
section
/-! new cells, calls, and from a walk to a contract -/
theorem slt_le {a b : Nat} (h : a ≤ b) : slt a ≤ slt b := by
  induction b with
  | zero => rw [Nat.le_zero.mp h]; exact Nat.le_refl _
  | succ n ih =>
    by_cases e : a = n + 1
    · rw [e]; exact Nat.le_refl _
    · exact Nat.le_trans (ih (by omega)) (Nat.le_add_right _ _)
/-- there is room in y's own count, from t0 objects up to t -/
def rmOK (y : MI) (t0 t : Nat) : Prop := t - t0 ≤ (mrm y).cells ∧ slt t - slt t0 ≤ (mrm y).slots
theorem rmOK_self (y : MI) (t : Nat) : rmOK y t t := ⟨by rw [Nat.sub_self]; exact Nat.zero_le _, by rw [Nat.sub_self]; exact Nat.zero_le _⟩
theorem wl_push {G : Gg} {ρ : Int → Int → Option Int} {t : Nat} {μ : Int → Int → Int} : wl G (ρ, t + 1, μ) = wl G (ρ, t, μ) ++ [(gh G + t, ce G (ρ, t, μ) (t : Int))] := by
  unfold wl
  dsimp only
  rw [List.range_succ, List.map_append]
  rfl
theorem adr_nat {G : Gg} (t : Nat) : adr G (t : Int) = gh G + t := by
  rw [adr_pos (by omega)]
  rfl
section RN
variable {y : MI} {t0 pc pc' tgt : Nat} {L L' : List (Option Vv)} {S : List Vv} {ρ : Int → Int → Option Int} {t : Nat} {μ : Int → Int → Int} {Mf : Mm} {r : Option Vv}
theorem r_new {idx ci : Nat} (hd : Dc y pc (.new idx) 3 pc') (hcl : Cond.classLink (mnm y).cls idx (cnm ci) ∈ lw_g) (his : Cond.instantiable (cnm ci) (nfd ci) ∈ lw_g) (hini : Cond.initialized (cnm ci) ∈ lw_g) (hc : ci < 7 ∧ kd t = ci ∧ t < 219 ∧ t0 ≤ t) (hty : ∀ k, k < nfd ci → defaultValue (tyc ci k) = if tyk ci k = 2 then .null else .int 0)
    (hz : (∀ k : Nat, μ t k = 0) ∧ ∀ k : Nat, ρ t k = none) (hroom : rmOK y t0 (t + 1)) (kk : SPW y t0 pc' L (vR t :: S) (ρ, t + 1, μ) r Mf) : SPW y t0 pc L S (ρ, t, μ) r Mf := by
  intro G p l e s m args below meth c H locs ls Z C R Lk hS hV hfin
  obtain ⟨hd, rfl⟩ := hd
  have hsz := R.2.1 hc.2.2.1
  have hK := C.2.2.2.2.2.1
  have hts := C.2.2.2.2.1
  have hKn := hK.1 ci _ (cls_ok ci hc.1)
  have hso : szo t = nfd ci := by unfold szo; rw [hc.2.1, if_pos hc.1]
  have hmon := slt_le hc.2.2.2
  have hsl : slt (t + 1) = slt t + nfd ci := by rw [slt, hso]
  have e1 : t - t0 + 1 = t + 1 - t0 := by omega
  have e2 : slt t - slt t0 + nfd ci = slt (t + 1) - slt t0 := by rw [hsl]; omega
  refine W.newcK C.1 C.2.1 C.2.2.2.1 (hts _ hcl) (hts _ his) (hts _ hini) rfl hd (by show t - t0 + 1 ≤ _; rw [e1]; exact hroom.1) (by show slt t - slt t0 + nfd ci ≤ _; rw [e2]; exact hroom.2) hKn.2.1 rfl fun H1 kC hkC f1 f2 f3 => ?_
  have hob := u_born (tyc ci) hts (lay_ok ci hc.1) hKn hkC f1 (tyc_ok ci hc.1)
  have hkeep : ∀ (k : Nat) (x : Nat × va_E), (wl G (ρ, t, μ))[k]? = some x → H1[x.1]? = H[x.1]? := fun k x hx => f3 x.1 ((R.1 k x hx).lt)
  have hR1 : Rep G (ρ, t + 1, μ) H1 := by
    refine ⟨?_, fun _ => by show H1.size = gh G + (t + 1); rw [f2, hsz]; rfl, R.2.2⟩
    rw [wl_push]
    refine (R.1.kept hkeep).app (fun k x hx => ?_)
    have hk0 : k < 1 := (List.getElem?_eq_some_iff.mp hx).1
    rw [show k = 0 by omega] at hx
    cases hx
    rw [ce_obj hc.2.1 hc.1]
    rw [show gh G + t = H.size from hsz.symm]
    refine ⟨_, cls_ok ci hc.1, hob.to (fun j hj => ?_)⟩
    unfold vp_V
    rw [List.getD_eq_getElem?_getD, fvl_at hj, hty j hj]
    unfold fvl
    dsimp only
    rw [hz.1, hz.2]
    rfl
  refine W.cs e1 e2 ?_
  have hadr : Value.ref H.size = tv G (vR t) := by
    show _ = Value.ref (adr G t)
    rw [adr_nat, hsz]
  rw [hadr]
  exact kk G p l e s m args below meth c H1 locs ls Z C hR1 Lk (vok_c (v := vR t) trivial hS) ⟨by rw [f2]; exact Nat.le_succ_of_le hV.1, fun q h1 h2 => by rw [f3 q (Nat.lt_of_lt_of_le h1 hV.1)]; exact hV.2.1 q h1 h2, hV.2.2⟩ hfin
theorem r_newarr {n : Int} {q : Nat} {at' : ArrayType} (hd : Dc y pc (.newarray at') 2 pc') (hac : Cond.arrayClass (newarray.typeOf at') ∈ lw_g) (hat : newarray.typeOf at' = ety (kt q) ∧ ((at' = .int ∧ kt q = 0) ∨ (at' = .char ∧ kt q = 1))) (hq : 8 ≤ q ∧ kd t = q ∧ t < 219 ∧ t0 ≤ t) (hn : ((kl q : Nat) : Int) = n) (hb : kl q * 4 ≤ 536870912)
    (hz : ∀ k : Nat, μ t k = 0) (hroom : rmOK y t0 (t + 1)) (kk : SPW y t0 pc' L (vR t :: S) (ρ, t + 1, μ) r Mf) : SPW y t0 pc L (vI n :: S) (ρ, t, μ) r Mf := by
  intro G p l e s m args below meth c H locs ls Z C R Lk hS hV hfin
  obtain ⟨hd, rfl⟩ := hd
  subst hn
  have hsz := R.2.1 hq.2.2.1
  have hK := C.2.2.2.2.2.1
  have hts := C.2.2.2.2.1
  have hnr : rng (kl q : Nat) := vok_h (v := vI _) hS
  have hso : szo t = kl q := by unfold szo; rw [hq.2.1, if_neg (by omega)]
  have hmon := slt_le hq.2.2.2
  have hsl : slt (t + 1) = slt t + kl q := by rw [slt, hso]
  have e1 : t - t0 + 1 = t + 1 - t0 := by omega
  have e2 : slt t - slt t0 + kl q = slt (t + 1) - slt t0 := by rw [hsl]; omega
  have hcb : kl q * componentBytes (newarray.typeOf at') ≤ 536870912 := by
    rcases hat.2 with ⟨rfl, -⟩ | ⟨rfl, -⟩
    · exact hb
    · exact Nat.le_trans (Nat.mul_le_mul_left _ (by decide)) hb
  have hdef : defaultValue (newarray.typeOf at') = .int 0 := by
    rcases hat.2 with ⟨rfl, -⟩ | ⟨rfl, -⟩ <;> rfl
  refine va_newaK C.1 C.2.1 (hts _ hac) rfl hd rfl (N := kl q) (by rw [oi_0, oi_lt hnr rng_0]; omega) (by rw [oi_cl hnr]; rfl) hcb (by show t - t0 + 1 ≤ _; rw [e1]; exact hroom.1) (by show slt t - slt t0 + kl q ≤ _; rw [e2]; exact hroom.2) hsz fun H1 cA f1 f2 f3 f4 f5 => ?_
  have hkt : kt q < 2 := by rcases hat.2 with ⟨-, h⟩ | ⟨-, h⟩ <;> omega
  have hcA : cA = gA G (kt q) := by
    have hra := (hK.2 (kt q) _ (tys_at q (by omega))).2
    rw [hat.1] at f5
    rcases hat.2 with ⟨-, h⟩ | ⟨-, h⟩
    · rw [h] at hra f5 ⊢
      exact Option.some.inj (f5.symm.trans hra)
    · rw [h] at hra f5 ⊢
      exact Option.some.inj (f5.symm.trans hra)
  have hkeep : ∀ (k : Nat) (x : Nat × va_E), (wl G (ρ, t, μ))[k]? = some x → H1[x.1]? = H[x.1]? := fun k x hx => f3 x.1 (by rw [← hsz]; exact (R.1 k x hx).lt)
  have hR1 : Rep G (ρ, t + 1, μ) H1 := by
    refine ⟨?_, fun _ => by show H1.size = gh G + (t + 1); rw [f2]; rfl, R.2.2⟩
    rw [wl_push]
    refine (R.1.kept hkeep).app (fun k x hx => ?_)
    have hk0 : k < 1 := (List.getElem?_eq_some_iff.mp hx).1
    rw [show k = 0 by omega] at hx
    cases hx
    rw [ce_int hq.2.1 (by omega) hkt]
    show H1[gh G + t]? = some (vp_cell _ _)
    rw [f1, hcA, hdef, vp_cell_i]
    congr 2
    funext j
    dsimp only
    rw [hz j]
    rfl
  refine W.cs e1 e2 ?_
  have hadr : Value.ref (gh G + t) = tv G (vR t) := by
    show _ = Value.ref (adr G t)
    rw [adr_nat]
  rw [hadr]
  exact kk G p l e s m args below meth c H1 locs ls Z C hR1 Lk (vok_c (v := vR t) trivial (vok_t hS)) ⟨by rw [f2]; rw [← hsz]; exact Nat.le_succ_of_le hV.1, fun q h1 h2 => by rw [f3 q (by rw [← hsz]; exact Nat.lt_of_lt_of_le h1 hV.1)]; exact hV.2.1 q h1 h2, hV.2.2⟩ hfin
theorem Xw.at {s : State} (h : Xw s) {ci : Nat} (hc : ci = 0 ∨ ci = 4 ∨ ci = 3 ∨ ci = 1) : va_AO (cnm ci) s := by
  rcases hc with rfl | rfl | rfl | rfl
  · exact h.1
  · exact h.2.1
  · exact h.2.2.1
  · exact h.2.2.2.1
theorem r_newref {n : Int} {q idx ci : Nat} (hd : Dc y pc (.anewarray idx) 3 pc') (hcl : Cond.classLink (mnm y).cls idx (cnm ci) ∈ lw_g) (hci : ci = 0 ∨ ci = 4 ∨ ci = 3 ∨ ci = 1) (hat : ety (kt q) = .object (cnm ci) ∧ 2 ≤ kt q ∧ kt q < 6) (hq : 8 ≤ q ∧ kd t = q ∧ t < 219 ∧ t0 ≤ t) (hn : ((kl q : Nat) : Int) = n) (hb : kl q * 4 ≤ 536870912)
    (hz : ∀ k : Nat, ρ t k = none) (hroom : rmOK y t0 (t + 1)) (kk : SPW y t0 pc' L (vR t :: S) (ρ, t + 1, μ) r Mf) : SPW y t0 pc L (vI n :: S) (ρ, t, μ) r Mf := by
  intro G p l e s m args below meth c H locs ls Z C R Lk hS hV hfin
  obtain ⟨hd, rfl⟩ := hd
  subst hn
  have hsz := R.2.1 hq.2.2.1
  have hK := C.2.2.2.2.2.1
  have hts := C.2.2.2.2.1
  have hnr : rng (kl q : Nat) := vok_h (v := vI _) hS
  have hcl1 : (Int32.ofInt ((kl q : Nat) : Int)).toNatClampNeg = kl q := by rw [oi_cl hnr]; rfl
  have hso : szo t = kl q := by unfold szo; rw [hq.2.1, if_neg (by omega)]
  have hmon := slt_le hq.2.2.2
  have hsl : slt (t + 1) = slt t + kl q := by rw [slt, hso]
  have e1 : t - t0 + 1 = t + 1 - t0 := by omega
  have e2 : slt t - slt t0 + kl q = slt (t + 1) - slt t0 := by rw [hsl]; omega
  refine W.anew (C := cnm ci) C.1 C.2.1 C.2.2.2.1 (hts _ hcl) (va_AO.use (C.2.2.2.2.2.2.1.at hci)) rfl hd rfl (by rw [oi_0, oi_lt hnr rng_0]; omega) (by rw [hcl1]; exact hb) (by show t - t0 + 1 ≤ _; rw [e1]; exact hroom.1) (by show slt t - slt t0 + _ ≤ _; rw [hcl1, e2]; exact hroom.2) fun cA kA comp g1 g2 g3 g4 => ?_
  rw [hcl1]
  have hcA : cA = gA G (kt q) := by
    have hra := (hK.2 (kt q) _ (tys_at q hat.2.2)).2
    rw [hat.1] at hra
    obtain ⟨_, _, -, -, -, h4⟩ := hra
    exact Option.some.inj (g1.symm.trans h4)
  generalize hH1 : H.push ({ cls := cA, slots := Array.replicate (kl q) .null, vm := .none } : Cell) = H1
  have f2 : H1.size = H.size + 1 := by rw [← hH1, Array.size_push]
  have f1 : H1[H.size]? = some (arrV cA (kl q) (fun _ => .null)) := by rw [← hH1, Array.getElem?_push_size, ← arrV_new]
  have f3 : ∀ q : Nat, q < H.size → H1[q]? = H[q]? := fun q hq => by rw [← hH1, Array.getElem?_push, if_neg (Nat.ne_of_lt hq)]
  have hkeep : ∀ (k : Nat) (x : Nat × va_E), (wl G (ρ, t, μ))[k]? = some x → H1[x.1]? = H[x.1]? := fun k x hx => f3 x.1 ((R.1 k x hx).lt)
  have hR1 : Rep G (ρ, t + 1, μ) H1 := by
    refine ⟨?_, fun _ => by show H1.size = gh G + (t + 1); rw [f2, hsz]; rfl, R.2.2⟩
    rw [wl_push]
    refine (R.1.kept hkeep).app (fun k x hx => ?_)
    have hk0 : k < 1 := (List.getElem?_eq_some_iff.mp hx).1
    rw [show k = 0 by omega] at hx
    cases hx
    rw [ce_ref hq.2.1 (by omega) (by omega)]
    show H1[gh G + t]? = some (vp_cell _ _)
    rw [show gh G + t = H.size from hsz.symm]
    rw [f1, hcA, vp_cell_q]
    congr 2
    funext j
    dsimp only
    rw [hz j]
    rfl
  refine W.cs e1 e2 ?_
  have hadr : Value.ref H.size = tv G (vR t) := by
    show _ = Value.ref (adr G t)
    rw [adr_nat, hsz]
  rw [hadr]
  exact kk G p l e s m args below meth c H1 locs ls Z C hR1 Lk (vok_c (v := vR t) trivial (vok_t hS)) ⟨by rw [f2]; exact Nat.le_succ_of_le hV.1, fun q h1 h2 => by rw [f3 q (Nat.lt_of_lt_of_le h1 hV.1)]; exact hV.2.1 q h1 h2, hV.2.2⟩ hfin
theorem tv_cats (G : Gg) (S : List Vv) : ((S.map (tv G)).map fun v => v.category).sum = S.length := by
  induction S with
  | nil => rfl
  | cons v S ih =>
    simp only [List.map_cons, List.sum_cons, tv_cat, List.length_cons] at ih ⊢
    omega
theorem r_obj {o : Int} {idx : Nat} (hd : Dc y pc (.invokespecial idx) 3 pc') (hl : Cond.methodLink (mnm y).cls idx Lib.objectInit ∈ lw_g) (hR : 1 ≤ (mrm y).frames ∧ 12 + S.length ≤ (mrm y).locals) (kk : SPW y t0 pc' L S (ρ, t, μ) r Mf) : SPW y t0 pc L (vR o :: S) (ρ, t, μ) r Mf := by
  intro G p l e s m args below meth c H locs ls Z C R Lk hS hV hfin
  obtain ⟨hd, rfl⟩ := hd
  have hts := C.2.2.2.2.1
  exact W.objInit C.1 C.2.1 C.2.2.2.1 (hts _ hl) (hts _ inst_obj) (hts _ code_obj) rfl (Lk.1.trans C.2.2.1.symm) rfl hd hR.1 (by rw [tv_cats]; show 2 * 0 + _ + 12 ≤ _; omega) (kk G p l e s m args below meth c H locs ls Z C R Lk (vok_t hS) hV hfin)
theorem r_min {x z : Int} {idx : Nat} (hd : Dc y pc (.invokestatic idx) 3 pc') (hl : Cond.methodLink (mnm y).cls idx Lib.Math.min.name ∈ lw_g) (hR : 1 ≤ (mrm y).frames ∧ 13 + S.length ≤ (mrm y).locals) (hroom : rmOK y t0 t) (kk : SPW y t0 pc' L (vI (if z < x then z else x) :: S) (ρ, t, μ) r Mf) : SPW y t0 pc L (vI z :: vI x :: S) (ρ, t, μ) r Mf := by
  intro G p l e s m args below meth c H locs ls Z C R Lk hS hV hfin
  obtain ⟨hd, rfl⟩ := hd
  have hts := C.2.2.2.2.1
  have hz : rng z := vok_h hS
  have hx : rng x := vok_h (vok_t hS)
  refine va_mmin C.1 C.2.1 (C.2.2.1.trans Lk.1.symm) C.2.2.2.1 (hts _ hl) (hts _ stat_min) (hts _ ini_Math) (hts _ code_min) hR.1 (by rw [tv_cats]; omega) hroom.1 hroom.2 hd ?_
  have he : (if Int32.ofInt z < Int32.ofInt x then Int32.ofInt z else Int32.ofInt x) = Int32.ofInt (if z < x then z else x) := by
    by_cases h : z < x
    · rw [if_pos h, if_pos ((oi_lt hz hx).mpr h)]
    · rw [if_neg h, if_neg (fun q => h ((oi_lt hz hx).mp q))]
  rw [he]
  exact kk G p l e s m args below meth c H locs ls Z C R Lk (vok_c (v := vI _) (by show rng _; split <;> assumption) (vok_t (vok_t hS))) hV hfin
end RN
theorem Xw.warm {s U : State} (h : Xw s) (hW : s.WarmedH U.vm) : Xw U := ⟨h.1.moved hW.alike, h.2.1.moved hW.alike, h.2.2.1.moved hW.alike, h.2.2.2.1.moved hW.alike, va_Nw.warmM hW h.2.2.2.2⟩
theorem Xw.same {u U : State} (h : Xw u) (e : u.vm = U.vm) : Xw U := by
  have hal : u.vm.Alike U.vm := by rw [e]; exact Vm.Alike.refl _
  exact ⟨h.1.moved hal, h.2.1.moved hal, h.2.2.1.moved hal, h.2.2.2.1.moved hal, va_Nw.same rfl e h.2.2.2.2⟩
theorem MetP_blind (as : List Value) (G : Gg) (vs : List Vv) (M : Mm) : FrameBlind (va_Pc as (MetP G vs M)) := fun a U g mk q => ⟨q.1, q.2.1, va_K.moved (u := U) (U := U.calling g mk a) (Vm.Alike.refl U.vm) q.2.2.1, q.2.2.2.1.same (U := U.calling g mk a) rfl, ⟨va_X.moved (u := U) (U := U.calling g mk a) (Vm.Alike.refl U.vm) q.2.2.2.2.1.1, q.2.2.2.2.1.2⟩, q.2.2.2.2.2⟩
theorem good_M {y : MI} (h : Cond.code (mnm y) (mbc y) (mml y) (mrt y) ∈ lw_g) : GoodIn lw_g (wsM y) := by
  intro w hw
  rcases List.mem_cons.mp hw with rfl | hw
  · exact ⟨h, lw_good _ h⟩
  · exact ⟨hw, lw_good _ hw⟩
section RC
variable {y y' : MI} {t0 pc pc' idx n ci : Nat} {L : List (Option Vv)} {S As : List Vv} {M M1 Mf : Mm} {r r1 : Option Vv} {o : Int}
/-- what a caller owes of room: the callee's frames and words, and its cells within its own -/
def clOK (y y' : MI) (t0 : Nat) (M M1 : Mm) : Prop := (mrm y').frames + 1 ≤ (mrm y).frames ∧ 8 + (mml y' + 11) + (mrm y').locals ≤ (mrm y).locals ∧ (mrm y').cells = M1.2.1 - M.2.1 ∧ (mrm y').slots = slt M1.2.1 - slt M.2.1 ∧ t0 ≤ M.2.1 ∧ M.2.1 ≤ M1.2.1 ∧ rmOK y t0 M1.2.1
theorem cl_go {G : Gg} {p : Program} {l : Launch} {e : Env} {s : State} {m : MethodId} {args a : Array Value} {below : List Frame} {meth : Method} {c : Code} {H : Heap} {locs : List Loc} {ls : Array Slot} {Z : State → Prop} {st0 : List Value} (hcl : clOK y y' t0 M M1)
    (hr : va_Run p l e (mrm y) s m args below meth c H locs (M.2.1 - t0) (slt M.2.1 - slt t0) (M1.2.1 - M.2.1) (slt M1.2.1 - slt M.2.1) (F0 m pc ls st0) (S.map (tv G)) (MetQ G r1 M1 a) (Ah G))
    (C : Cx G y p s m args meth c) (Lk : LocOK G ls (mml y) L) (hS : ∀ v ∈ S, vok v) (hV : va_S (Ah G) s.heap H locs)
    (hfin : ∀ (H' : Heap) (locs' : List Loc) (ls' : Array Slot) (pc' : Nat), Rep G Mf H' → va_S (Ah G) s.heap H' locs' → (∀ v, r = some v → vok v) → decode (mbc y) pc' = .ok (retI (mrt y), 1) →
      W p l e (mrm y) s m args below meth c H' locs' (Mf.2.1 - t0) (slt Mf.2.1 - slt t0) Z (F0 m pc' ls' (r.toList.map (tv G))))
    (kk : SPW y t0 (pc + 3) L (r1.toList ++ S) M1 r Mf) : W p l e (mrm y) s m args below meth c H locs (M.2.1 - t0) (slt M.2.1 - slt t0) Z (F0 m pc ls st0) := by
  intro T hT X
  obtain ⟨v, st₀, t, T', L2, h0, X', hL, e1, e2, hq, st⟩ := hr T hT X
  obtain ⟨hv, hR1, hvk, hF⟩ := hq
  have hv' : v = r1.map (tv G) := by cases hv; rfl
  subst hv'
  obtain ⟨-, -, -, -, g1, g2, -⟩ := hcl
  have m1 := slt_le g1
  have m2 := slt_le g2
  rw [show M.2.1 - t0 + (M1.2.1 - M.2.1) = M1.2.1 - t0 by omega, show slt M.2.1 - slt t0 + (slt M1.2.1 - slt M.2.1) = slt M1.2.1 - slt t0 by omega] at X'
  unfold va_F at hF
  rw [h0] at hF
  have hV' : va_S (Ah G) s.heap T'.heap (locs ++ L2) := by
    refine ⟨Nat.le_trans hV.1 (by rw [e1]; exact hF.1), fun q h1 h2 => ?_, fun q hq => ?_⟩
    · rw [e1, hF.2 q (Nat.lt_of_lt_of_le h1 hV.1) h2]
      exact hV.2.1 q h1 h2
    · rcases List.mem_append.mp hq with h | h
      · exact hV.2.2 q h
      · exact hL q h
  have hS' : ∀ v ∈ r1.toList ++ S, vok v := by
    intro v hv
    rcases List.mem_append.mp hv with h | h
    · exact hvk v (by simpa using h)
    · exact hS v h
  obtain ⟨t2, a1, b1⟩ := kk G p l e s m args below meth c T'.heap (locs ++ L2) ls Z C (by rw [e1]; exact hR1) Lk hS' hV' hfin T' rfl X'
  refine ⟨t2, st t2 ?_, b1⟩
  have hst : (r1.toList ++ S).map (tv G) = (r1.map (tv G)).toList ++ S.map (tv G) := by cases r1 <;> simp
  rw [hst] at a1
  exact a1
theorem r_callV_ (hd : Dc y pc (.invokevirtual idx) 3 pc') (hl : Cond.methodLink (mnm y).cls idx (mnm y') ∈ lw_g) (ok : mOK y' n) (vi : mVirt y') (hM : MetC y' (vR o :: As) M r1 M1) (hn : As.length = n) (hv : vk M.2.1 o ci) (hc : ci < 7 ∧ cnm ci = (mnm y').cls) (hcl : clOK y y' t0 M M1) (hlen : S.length ≤ 8) (kk : SPW y t0 pc' L (r1.toList ++ S) M1 r Mf) : SPW y t0 pc L (As.reverse ++ vR o :: S) M r Mf := by
  intro G p l e s m args below meth c H locs ls Z C R Lk hS hV hfin
  obtain ⟨hd, rfl⟩ := hd
  have hts := C.2.2.2.2.1
  have hS0 : ∀ v ∈ S, vok v := fun v h => hS v (List.mem_append_right _ (List.mem_cons_of_mem _ h))
  have hAs : ∀ v ∈ vR o :: As, vok v := fun v h => (List.mem_cons.mp h).elim (fun q => by rw [q]; trivial) (fun q => hS v (List.mem_append_left _ (List.mem_reverse.mpr q)))
  have he := wl_get (G := G) (M := M) hv.1 hv.2.1
  rw [ce_obj hv.2.2 hc.1] at he
  obtain ⟨o1, o2, o3, o4, o5, o6⟩ := ok
  have hG : GoodIn lw_g (wsV (mnm y).cls idx (mnm y').cls (mnm y') (wsM y')) := by
    intro w hw
    rcases List.mem_append.mp hw with hw | hw
    · have hw' : w ∈ lw_g := by
        rcases List.mem_cons.mp hw with rfl | hw
        · exact hl
        rcases List.mem_cons.mp hw with rfl | hw
        · exact vi.1
        rcases List.mem_cons.mp hw with rfl | hw
        · exact vi.2
        rcases List.mem_cons.mp hw with rfl | hw
        · exact o5
        · cases hw
      exact ⟨hw', lw_good _ hw'⟩
    · exact good_M o1 w hw
  have cw := cwV (args := args) (s := s) (R := mrm y) (rm := mrm y') n hts hG rfl hcl.2.2.1 hcl.2.2.2.1 ⟨rfl, o3, o4, o6⟩ ⟨hcl.1, hcl.2.1⟩
  have hrec := va_recv C.2.2.2.2.2.1 R.1 (cls_ok ci hc.1) he
  rw [show (cnm ci, Tcl ci, nfd ci).1 = (mnm y').cls from hc.2] at hrec
  have run := va_runV (b := adr G o) (As := As.map (tv G)) (rest := S.map (tv G)) (g := F0 m pc ls ((As.reverse ++ vR o :: S).map (tv G))) (cells := M.2.1 - t0) (slots := slt M.2.1 - slt t0) (locs := locs) (below := below) (meth := meth) (e := e) ⟨C.1, C.2.1, C.2.2.1, C.2.2.2.1, hts⟩ (hM l G) cw
    ⟨MetP_blind _ G _ M, hrec, fun U hU hW => ⟨rfl, by rw [hU]; exact R, va_K.moved hW.alike C.2.2.2.2.2.1, C.2.2.2.2.2.2.1.warm hW, ⟨by rw [hU]; exact va_X.moved hW.alike (C.2.2.2.2.2.2.2.2.2.1.kept (hV.2.1 _ (Nat.lt_of_lt_of_le C.2.2.2.2.2.2.2.2.2.2 C.2.2.2.2.2.2.2.2.1) (Nat.not_le.mpr C.2.2.2.2.2.2.2.2.2.2))), C.2.2.2.2.2.2.2.2.2.2⟩, hAs⟩⟩ rfl (by rw [List.length_map]; exact hn) Lk.1 (by simp [tv, va_rf]) (lv_room (by rw [tv_cats]; exact hlen)) hd ⟨by have := hcl.2.2.2.2.2.2.1; have := hcl.2.2.2.2.1; have := hcl.2.2.2.2.2.1; omega, by have := hcl.2.2.2.2.2.2.2; have := slt_le hcl.2.2.2.2.1; have := slt_le hcl.2.2.2.2.2.1; omega⟩
  exact cl_go hcl run C Lk hS0 hV hfin kk
theorem r_callS_ (hd : Dc y pc (.invokestatic idx) 3 pc') (hl : Cond.methodLink (mnm y).cls idx (mnm y') ∈ lw_g) (ok : mOK y' n) (sta : Cond.static (mnm y') ∈ lw_g) (hM : MetC y' As M r1 M1) (hn : As.length = n) (hcl : clOK y y' t0 M M1) (hlen : S.length ≤ 8) (kk : SPW y t0 pc' L (r1.toList ++ S) M1 r Mf) : SPW y t0 pc L (As.reverse ++ S) M r Mf := by
  intro G p l e s m args below meth c H locs ls Z C R Lk hS hV hfin
  obtain ⟨hd, rfl⟩ := hd
  have hts := C.2.2.2.2.1
  have hS0 : ∀ v ∈ S, vok v := fun v h => hS v (List.mem_append_right _ h)
  have hAs : ∀ v ∈ As, vok v := fun v q => hS v (List.mem_append_left _ (List.mem_reverse.mpr q))
  obtain ⟨o1, o2, o3, o4, o5, o6⟩ := ok
  have cw := callB_of (args := args) (s := s) (R := mrm y) (rm := mrm y') (own := (mnm y).cls) (index := idx) n hts (good_M o1) rfl hcl.2.2.1 hcl.2.2.2.1 (hts _ o5) (hts _ hl) ⟨o3, o4, o6⟩ ⟨hcl.1, hcl.2.1⟩
  have run := va_runS (As := As.map (tv G)) (rest := S.map (tv G)) (g := F0 m pc ls ((As.reverse ++ S).map (tv G))) (cells := M.2.1 - t0) (slots := slt M.2.1 - slt t0) (locs := locs) (below := below) (meth := meth) (e := e) ⟨C.1, C.2.1, C.2.2.1, C.2.2.2.1, hts⟩ (hM l G) ⟨cw, hts _ sta⟩
    ⟨MetP_blind _ G _ M, fun U hU hW => ⟨rfl, by rw [hU]; exact R, va_K.moved hW.alike C.2.2.2.2.2.1, C.2.2.2.2.2.2.1.warm hW, ⟨by rw [hU]; exact va_X.moved hW.alike (C.2.2.2.2.2.2.2.2.2.1.kept (hV.2.1 _ (Nat.lt_of_lt_of_le C.2.2.2.2.2.2.2.2.2.2 C.2.2.2.2.2.2.2.2.1) (Nat.not_le.mpr C.2.2.2.2.2.2.2.2.2.2))), C.2.2.2.2.2.2.2.2.2.2⟩, hAs⟩⟩ rfl (by rw [List.length_map]; exact hn) Lk.1 (by simp) (lv_room (by rw [tv_cats]; exact hlen)) hd ⟨by have := hcl.2.2.2.2.2.2.1; have := hcl.2.2.2.2.1; have := hcl.2.2.2.2.2.1; omega, by have := hcl.2.2.2.2.2.2.2; have := slt_le hcl.2.2.2.2.1; have := slt_le hcl.2.2.2.2.2.1; omega⟩
  exact cl_go hcl run C Lk hS0 hV hfin kk
theorem r_callI_ (hd : Dc y pc (.invokespecial idx) 3 pc') (hl : Cond.methodLink (mnm y).cls idx (mnm y') ∈ lw_g) (ok : mOK y' n) (inst : Cond.instanceMethod (mnm y') ∈ lw_g) (hy : (mnm y').name = "<init>" ∧ mrt y' = none) (hM : MetC y' (vR o :: As) M r1 M1) (hn : As.length = n) (hcl : clOK y y' t0 M M1) (hlen : S.length ≤ 8) (kk : SPW y t0 pc' L (r1.toList ++ S) M1 r Mf) : SPW y t0 pc L (As.reverse ++ vR o :: S) M r Mf := by
  intro G p l e s m args below meth c H locs ls Z C R Lk hS hV hfin
  obtain ⟨hd, rfl⟩ := hd
  have hts := C.2.2.2.2.1
  have hS0 : ∀ v ∈ S, vok v := fun v h => hS v (List.mem_append_right _ (List.mem_cons_of_mem _ h))
  have hAs : ∀ v ∈ vR o :: As, vok v := fun v h => (List.mem_cons.mp h).elim (fun q => by rw [q]; trivial) (fun q => hS v (List.mem_append_left _ (List.mem_reverse.mpr q)))
  obtain ⟨o1, o2, o3, o4, o5, o6⟩ := ok
  have cw := callB_of (args := args) (s := s) (R := mrm y) (rm := mrm y') (own := (mnm y).cls) (index := idx) n hts (good_M o1) rfl hcl.2.2.1 hcl.2.2.2.1 (hts _ o5) (hts _ hl) ⟨o3, o4, o6⟩ ⟨hcl.1, hcl.2.1⟩
  rw [hy.2] at cw
  have run := va_runI (b := adr G o) (As := As.map (tv G)) (rest := S.map (tv G)) (g := F0 m pc ls ((As.reverse ++ vR o :: S).map (tv G))) (cells := M.2.1 - t0) (slots := slt M.2.1 - slt t0) (locs := locs) (below := below) (meth := meth) (e := e) ⟨C.1, C.2.1, C.2.2.1, C.2.2.2.1, hts⟩ (hM l G) ⟨cw, hy.1, hts _ inst⟩
    ⟨MetP_blind _ G _ M, fun U hU hW => ⟨rfl, by rw [hU]; exact R, va_K.moved hW.alike C.2.2.2.2.2.1, C.2.2.2.2.2.2.1.warm hW, ⟨by rw [hU]; exact va_X.moved hW.alike (C.2.2.2.2.2.2.2.2.2.1.kept (hV.2.1 _ (Nat.lt_of_lt_of_le C.2.2.2.2.2.2.2.2.2.2 C.2.2.2.2.2.2.2.2.1) (Nat.not_le.mpr C.2.2.2.2.2.2.2.2.2.2))), C.2.2.2.2.2.2.2.2.2.2⟩, hAs⟩⟩ rfl (by rw [List.length_map]; exact hn) Lk.1 (by simp [tv, va_rf]) (lv_room (by rw [tv_cats]; exact hlen)) hd ⟨by have := hcl.2.2.2.2.2.2.1; have := hcl.2.2.2.2.1; have := hcl.2.2.2.2.2.1; omega, by have := hcl.2.2.2.2.2.2.2; have := slt_le hcl.2.2.2.2.1; have := slt_le hcl.2.2.2.2.2.1; omega⟩
  exact cl_go hcl run C Lk hS0 hV hfin kk
end RC
theorem lv_args_at : ∀ (vs : List Value) (k : Nat), (∀ v ∈ vs, v.category = 1) → ∀ (i : Nat) (v : Value), vs[i]? = some v → (k + i, v) ∈ lv_args k vs
  | [], k, _, i, v, h => by simp at h
  | w :: vs, k, hc, i, v, h => by
    have hw : w.category = 1 := hc w List.mem_cons_self
    unfold lv_args
    rw [if_neg (by omega)]
    cases i with
    | zero =>
      rw [List.getElem?_cons_zero] at h
      cases h
      exact List.mem_cons_self
    | succ i =>
      rw [List.getElem?_cons_succ] at h
      have := lv_args_at vs (k + 1) (fun v hv => hc v (List.mem_cons_of_mem _ hv)) i v h
      rw [show k + (i + 1) = k + 1 + i by omega]
      exact List.mem_cons_of_mem _ this
theorem lg_sl_len : ∀ (vs : List Value), (∀ v ∈ vs, v.category = 1) → (lg_sl vs).length = vs.length
  | [], _ => rfl
  | w :: vs, hc => by
    have hw : w.category = 1 := hc w List.mem_cons_self
    have ih := lg_sl_len vs (fun v hv => hc v (List.mem_cons_of_mem _ hv))
    unfold lg_sl at ih ⊢
    rw [List.flatMap_cons, if_neg (by omega), List.length_append, ih]
    simp
    omega
theorem entry_loc {G : Gg} {as : List Vv} {n : Nat} (hn : as.length ≤ n) (hv : ∀ v ∈ as, vok v) : LocOK G ((lg_sl (as.map (tv G)) ++ List.replicate (n - (lg_sl (as.map (tv G))).length) Slot.unset).toArray) n (as.map some ++ List.replicate (n - as.length) none) := by
  have hc : ∀ v ∈ as.map (tv G), v.category = 1 := by
    intro v hv
    obtain ⟨w, -, rfl⟩ := List.mem_map.mp hv
    exact tv_cat G w
  have hl := lv_entry (as.map (tv G)) (n := n) (by rw [lg_sl_len _ hc, List.length_map]; exact hn)
  refine ⟨hl.1, hl.2.1, by simp; omega, fun i v h => ?_⟩
  rw [List.getElem?_append] at h
  split at h
  · rename_i hlt
    rw [List.getElem?_map] at h
    cases ha : as[i]? with
    | none => rw [ha] at h; cases h
    | some w =>
      rw [ha] at h
      cases h
      refine ⟨?_, hv v (List.mem_of_getElem? ha)⟩
      have h1 := lv_args_at (as.map (tv G)) 0 hc i (tv G v) (by rw [List.getElem?_map, ha]; rfl)
      rw [Nat.zero_add] at h1
      exact hl.2.2 _ h1
  · rename_i hlt
    have h2 := List.mem_of_getElem? h
    rw [List.mem_replicate] at h2
    cases h2.2
theorem met_of {y : MI} {as : List Vv} {M Mf : Mm} {r : Option Vv} (hw : SPW y M.2.1 0 (as.map some ++ List.replicate (mml y - as.length) none) [] M r Mf) (hn : as.length ≤ mml y) (hpl : plainName (mnm y).cls = true) (hr : rOK (mrt y) r) (hlaw : (mnm y).name ≠ "law") (h0 : 0 < M.2.1) : MetC y as M r Mf := by
  intro l G
  refine Met.ofW (cc := mbc y) (maxL := mml y) (ret := mrt y) hpl rfl ?_
  intro p e s m args below meth c s₁ B hml hpv
  obtain ⟨rfl, hR, hK, hXw, hXX, hv⟩ := hpv
  have hts := atoms_spec (ws := wsM y) B.pre
  have hown : s.vm.findClass (mnm y).cls = some m.cls := findClass_of_methodNamed B.named
  have hlocks := B.notSynchronized
  have hret := B.returns
  have hgh : gh G ≤ s.heap.size := by
    have h1 := wl_get (G := G) (M := M) (o := 0) (Int.le_refl 0) (by omega)
    have h2 := (hR.1 _ _ h1).lt
    rw [adr_pos (Int.le_refl 0)] at h2
    dsimp only at h2
    omega
  have C : Cx G y p s m (as.map (tv G)).toArray meth c := ⟨B.exec, B.bytes, hml, hown, fun w h => hts w (List.mem_cons_of_mem _ h), hK, hXw, fun h => (name_of_methodNamed B.named B.method).1.trans h, hgh, hXX⟩
  rw [lg_entry_eq]
  have hk := hw G p l e s m (as.map (tv G)).toArray below meth c s.heap [] _ (MQ below (MetQ G r Mf) (as.map (tv G)).toArray s (Mf.2.1 - M.2.1) (slt Mf.2.1 - slt M.2.1) (Ah G)) C hR (entry_loc hn hv) (fun _ h => by cases h) va_S.rf ?_
  · rw [Nat.sub_self, Nat.sub_self] at hk
    exact hk
  · intro H' locs' ls' pc' hR' hV' hvk hd
    have hq : ∀ t : State, t.heap = H' → s.WarmedH t.vm → MetQ G r Mf (as.map (tv G)).toArray s (.returned (r.map (tv G))) t := fun t ht hW => ⟨rfl, by rw [ht]; exact hR', hvk, hV'.F ht⟩
    have hx := B.exec
    have hb := B.bytes
    generalize hrt : mrt y = rt at hr hd hret
    rcases rt with _ | rt
    · cases r with
      | some v => exact hr.elim
      | none => exact W.vret hx hb hret hq hV'.2.2 hd
    · rcases r with _ | v
      · cases rt <;> exact hr.elim
      · cases rt with
        | int =>
          rcases v with x | q
          · exact W.iret hx hb hret hq hV'.2.2 hd
          · exact hr.elim
        | boolean =>
          rcases v with x | q
          · refine W.zret hx hb hret ?_ hq hV'.2.2 hd
            rcases hr with rfl | rfl <;> rfl
          · exact hr.elim
        | char =>
          rcases v with x | q
          · refine W.zret hx hb hret ?_ hq hV'.2.2 hd
            have := (pk_charN (q := x.toNat) (by have := hr.1; have := hr.2; omega)).1
            rw [oi_nI, Int.toNat_of_nonneg hr.1] at this
            exact this
          · exact hr.elim
        | object n =>
          rcases v with x | q
          · exact hr.elim
          · exact W.aret hx hb hret (Or.inl ⟨n, rfl⟩) (by cases q with | none => exact Or.inl rfl | some o => exact Or.inr ⟨_, rfl⟩) hq hV'.2.2 hd
        | _ => exact hr.elim
def cpA (μ : Int → Int → Int) (src dst n : Int) : Int → Int → Int := fun o k => if o = dst ∧ 0 ≤ k ∧ k < n then μ src k else μ o k
section RX
variable {y : MI} {t0 pc pc' tgt : Nat} {L L' : List (Option Vv)} {S : List Vv} {ρ : Int → Int → Option Int} {t : Nat} {μ : Int → Int → Int} {Mf : Mm} {r : Option Vv}
theorem wl_cpy {G : Gg} {src dst : Int} {n : Nat} {q : Nat} (hq : ¬ q < 7 ∧ kt q < 2) (hv : vk t dst q) : (wl G (ρ, t, μ)).set dst.toNat (adr G dst, .inl (gA G (kt q), kl q, .inl (va_cpy (fun j => Int32.ofInt (μ src j)) (fun j => Int32.ofInt (μ dst j)) 0 0 n))) = wl G (ρ, t, cpA μ src dst n) := by
  obtain ⟨h1, h2, h3⟩ := hv
  refine wl_set (M := (ρ, t, μ)) (M' := (ρ, t, cpA μ src dst n)) h1 rfl (fun z hz => ce_congr (fun _ => rfl) (fun j => if_neg (fun h => hz h.1))) ?_
  rw [ce_int h3 hq.1 hq.2]
  congr 4
  funext j
  show Int32.ofInt (cpA μ src dst n dst j) = va_cpy (fun j => Int32.ofInt (μ src j)) (fun j => Int32.ofInt (μ dst j)) 0 0 n j
  unfold cpA va_cpy
  by_cases hj : j < n
  · rw [if_pos ⟨rfl, by omega, by omega⟩, if_pos ⟨by omega, by omega⟩]
    simp
  · rw [if_neg (by omega), if_neg (by omega)]
theorem r_copy {src dst n : Int} {q q1 idx : Nat} (hd : Dc y pc (.invokestatic idx) 3 pc') (hl : Cond.methodLink (mnm y).cls idx arraycopyName ∈ lw_g) (hq : 8 ≤ q ∧ kt q = 0 ∧ 8 ≤ q1 ∧ kt q1 = 0) (hv : vk 219 src q1) (hw : vk 219 dst q) (hn : 0 ≤ n ∧ n ≤ (kl q : Nat) ∧ n ≤ (kl q1 : Nat)) (hR : 1 ≤ (mrm y).frames ∧ S.length + (nativeFrameWords "java/lang/System" "arraycopy" 5 + 11) ≤ (mrm y).locals) (kk : SPW y t0 pc' L S (ρ, 219, cpA μ src dst n) r Mf) : SPW y t0 pc L (vI n :: vI 0 :: vR dst :: vI 0 :: vR src :: S) (ρ, 219, μ) r Mf := by
  intro G p l e s m args below meth c H locs ls Z C R Lk hS hV hfin
  obtain ⟨hd, rfl⟩ := hd
  have hts := C.2.2.2.2.1
  have hnr : rng n := vok_h hS
  have he1 := wl_get (G := G) (M := (ρ, 219, μ)) hv.1 hv.2.1
  rw [ce_int hv.2.2 (by omega) (by omega)] at he1
  have he2 := wl_get (G := G) (M := (ρ, 219, μ)) hw.1 hw.2.1
  rw [ce_int hw.2.2 (by omega) (by omega)] at he2
  have hn1 : (Int32.ofInt n).toNatClampNeg = n.toNat := oi_cl hnr
  have h01 : (Int32.ofInt 0).toNatClampNeg = 0 := rfl
  refine va_copyi C.1 C.2.1 (C.2.2.1.trans Lk.1.symm) C.2.2.2.1 (hts _ hl) (hts _ nat_copy) (hts _ stat_copy) (hts _ ini_System) C.2.2.2.2.2.1 R.1 wl_D hV src.toNat dst.toNat (kt q1) (kt q) he1 he2 (by rw [tys_at q1 (by omega), hq.2.2.2]) (by rw [tys_at q (by omega), hq.2.1]) rfl (by decide) (by decide) (by rw [oi_0, oi_lt hnr rng_0]; omega) (by rw [hn1, h01]; omega) (by rw [hn1, h01]; omega) (fun i _ => rfl) hR.1 (by rw [tv_cats]; exact hR.2) hd (fun H1 locs1 hP' hD' hV' => ?_)
  rw [hn1, h01, wl_cpy ⟨by omega, by omega⟩ hw, Int.toNat_of_nonneg hn.1] at hP'
  refine kk G p l e s m args below meth c H1 locs1 ls Z C ⟨hP', fun z => absurd z (Nat.lt_irrefl 219), fun o k => ?_, ?_⟩ Lk (vok_t (vok_t (vok_t (vok_t (vok_t hS))))) hV' hfin
  · show rng (cpA μ src dst n o k)
    unfold cpA
    split
    · exact R.2.2.1 _ _
    · exact R.2.2.1 _ _
  · have hk : ∀ k, cpA μ src dst n (-1) k = μ (-1) k := fun k => if_neg (fun h => by have := hw.1; omega)
    exact ⟨by show cpA μ src dst n (-1) (-1) = _; rw [hk]; exact R.2.2.2.1, fun j hj => by show Int32.ofInt (cpA μ src dst n (-1) j) = _; rw [hk]; exact R.2.2.2.2 j hj⟩
/-- the memory may be said otherwise, where no object of it differs -/
theorem r_conv {ρ' : Int → Int → Option Int} {μ' : Int → Int → Int} (hc : ∀ o : Int, 0 ≤ o → o < t → ∀ k : Nat, k < szo o → (kd o < 7 → (tyk (kd o) k = 2 → ρ o k = ρ' o k) ∧ (tyk (kd o) k ≠ 2 → μ o k = μ' o k)) ∧ (7 ≤ kd o → (kt (kd o) < 2 → μ o k = μ' o k) ∧ (2 ≤ kt (kd o) → ρ o k = ρ' o k))) (hr : (∀ o k, rng (μ o k)) → ∀ o k, rng (μ' o k)) (hs : ∀ k, μ' (-1) k = μ (-1) k) (kk : SPW y t0 pc L S (ρ', t, μ') r Mf) : SPW y t0 pc L S (ρ, t, μ) r Mf := by
  intro G p l e s m args below meth c H locs ls Z C R Lk hS hV hfin
  refine kk G p l e s m args below meth c H locs ls Z C ⟨?_, R.2.1, hr R.2.2.1, ⟨by show μ' (-1) (-1) = _; rw [hs]; exact R.2.2.2.1, fun j hj => by show Int32.ofInt (μ' (-1) j) = _; rw [hs]; exact R.2.2.2.2 j hj⟩⟩ Lk hS hV hfin
  intro i q hq
  have hlt : i < t := by
    have := (List.getElem?_eq_some_iff.mp hq).1
    unfold wl at this
    simpa using this
  have h1 := wl_get (G := G) (M := (ρ', t, μ')) (o := (i : Int)) (by omega) (by show (i : Int) < (t : Int); omega)
  have h2 := wl_get (G := G) (M := (ρ, t, μ)) (o := (i : Int)) (by omega) (by show (i : Int) < (t : Int); omega)
  rw [Int.toNat_natCast] at h1 h2
  have h3 := R.1 i _ h2
  cases hq.symm.trans h1
  have ho := hc i (by omega) (by omega)
  by_cases hz : kd (i : Int) < 7
  · rw [ce_obj rfl hz] at h3 ⊢
    have e : (List.range (nfd (kd (i : Int)))).map (fvl G (ρ, t, μ) (kd (i : Int)) i) = (List.range (nfd (kd (i : Int)))).map (fvl G (ρ', t, μ') (kd (i : Int)) i) := by
      apply List.map_congr_left
      intro k hk
      have hk' := List.mem_range.mp hk
      obtain ⟨a1, -⟩ := ho k (by unfold szo; rw [if_pos hz]; exact hk')
      obtain ⟨b1, b2⟩ := a1 hz
      by_cases h2 : tyk (kd (i : Int)) k = 2
      · rw [fvl_ref h2, fvl_ref h2]
        dsimp only
        rw [b1 h2]
      · rw [fvl_int h2, fvl_int h2]
        dsimp only
        rw [b2 h2]
    rw [← e]
    exact h3
  · by_cases h2 : kt (kd (i : Int)) < 2
    · rw [ce_int rfl hz h2] at h3 ⊢
      have h3 : H[adr G i]? = some (vp_cell _ (_, .inl (fun j => Int32.ofInt (μ i j)))) := h3
      show H[adr G i]? = some (vp_cell _ (_, .inl (fun j => Int32.ofInt (μ' i j))))
      rw [h3, vp_cell_i, vp_cell_i]
      congr 1
      unfold arrV
      congr 1
      apply congrArg
      funext j
      have := ((ho j.val (by unfold szo; rw [if_neg hz]; exact j.isLt)).2 (by omega)).1 h2
      dsimp only
      rw [this]
    · rw [ce_ref rfl hz h2] at h3 ⊢
      have h3 : H[adr G i]? = some (vp_cell _ (_, .inr (.inr (.inr (.inr (fun j => (ρ i j).map (adr G))))))) := h3
      show H[adr G i]? = some (vp_cell _ (_, .inr (.inr (.inr (.inr (fun j => (ρ' i j).map (adr G)))))))
      rw [h3, vp_cell_q, vp_cell_q]
      congr 1
      unfold arrV
      congr 1
      apply congrArg
      funext j
      have := ((ho j.val (by unfold szo; rw [if_neg hz]; exact j.isLt)).2 (by omega)).2 (by omega)
      dsimp only
      rw [this]
/-- the law's script: object -1 -/
theorem r_slen (hd : Dc y pc .arraylength 1 pc') (kk : SPW y t0 pc' L (vI (μ (-1) (-1)) :: S) (ρ, t, μ) r Mf) : SPW y t0 pc L (vR (-1) :: S) (ρ, t, μ) r Mf := by
  intro G p l e s m args below meth c H locs ls Z C R Lk hS hV hfin
  obtain ⟨hd, rfl⟩ := hd
  obtain ⟨hX, hlt⟩ := C.2.2.2.2.2.2.2.2.2
  refine va_slen C.1 C.2.1 hX (Nat.lt_of_lt_of_le hlt C.2.2.2.2.2.2.2.2.1) (Nat.not_le.mpr hlt) hV hd ?_
  have he : Int32.ofNat (gL G) = Int32.ofInt (μ (-1) (-1)) := by rw [show μ (-1) (-1) = (gL G : Int) from R.2.2.2.1]; rfl
  rw [he]
  exact kk G p l e s m args below meth c H locs ls Z C R Lk (vok_c (v := vI _) (R.2.2.1 (-1) (-1)) (vok_t hS)) hV hfin
theorem r_sld {i : Int} (hd : Dc y pc .iaload 1 pc') (h0 : 0 ≤ i) (hi : i < μ (-1) (-1)) (kk : SPW y t0 pc' L (vI (μ (-1) i) :: S) (ρ, t, μ) r Mf) : SPW y t0 pc L (vI i :: vR (-1) :: S) (ρ, t, μ) r Mf := by
  intro G p l e s m args below meth c H locs ls Z C R Lk hS hV hfin
  obtain ⟨hd, rfl⟩ := hd
  obtain ⟨hX, hlt⟩ := C.2.2.2.2.2.2.2.2.2
  have hi' : i < (gL G : Int) := by rw [← show μ (-1) (-1) = (gL G : Int) from R.2.2.2.1]; exact hi
  obtain ⟨e1, e2⟩ := ix_ok (n := gL G) (vok_h hS) h0 hi'
  refine va_sld C.1 C.2.1 hX (Nat.lt_of_lt_of_le hlt C.2.2.2.2.2.2.2.2.1) (Nat.not_le.mpr hlt) hV e1 hd ?_
  rw [e2]
  have he : gx G i.toNat = Int32.ofInt (μ (-1) i) := by
    rw [← R.2.2.2.2 i.toNat (by omega), Int.toNat_of_nonneg h0]
  rw [he]
  exact kk G p l e s m args below meth c H locs ls Z C R Lk (vok_c (v := vI _) (R.2.2.1 (-1) i) (vok_t (vok_t hS))) hV hfin
end RX
end
section
/-! the finished objects: R0 says who points to whom; arities of calls; truth values -/
def R0 (o k : Int) : Option Int :=
  if kd o = 3 then (if k = 0 then some (o + 1) else if k = 1 then some (o + 18) else some (o + 19))
  else if kd o = 17 ∨ kd o = 18 ∨ kd o = 20 then some (o + 1 + k)
  else if kd o = 19 then some (81 + 26 * k)
  else if kd o = 6 then (if k = 0 then some 1 else if k = 1 then some 27 else if k = 2 then some 53 else if k = 4 then some 79 else if k = 5 then some 185 else some 218)
  else if kd o = 2 then some 80
  else if kd o = 5 then (if k = 0 then some 186 else some 187)
  else none
abbrev st (μ : Int → Int → Int) : Mm := (R0, 219, μ)
theorem vkd {t : Nat} {o : Int} {ci : Nat} (h : (decide (0 ≤ o) && (decide (o < (t : Int)) && decide (kd o = ci))) = true) : vk t o ci := by
  simp only [Bool.and_eq_true, decide_eq_true_eq] at h
  exact h
/-- the seven States -/
def stB (b : Int) : Prop := b = 1 ∨ b = 27 ∨ b = 53 ∨ b = 81 ∨ b = 107 ∨ b = 133 ∨ b = 159
theorem kd_st {b j : Int} (hb : stB b) (h0 : 0 ≤ j) (h1 : j < 26) : kd (b + j) = kS j := by
  unfold stB at hb
  unfold kd
  by_cases hl : b < 80
  · rw [if_neg (by omega), if_neg (by omega), if_pos (by omega), show (b + j - 1) % 26 = j by omega]
  · rw [if_neg (by omega), if_neg (by omega), if_neg (by omega), if_neg (by omega), if_neg (by omega), if_pos (by omega), show (b + j - 81) % 26 = j by omega]
theorem vk_st {b : Int} (hb : stB b) : vk 219 b 3 := by
  have h := kd_st hb (Int.le_refl 0) (by omega)
  rw [Int.add_zero] at h
  unfold stB at hb
  exact ⟨by omega, by omega, h⟩
theorem vk_j {b j : Int} {q : Nat} (hb : stB b) (h0 : 0 ≤ j) (h1 : j < 26) (hq : kS j = q) : vk 219 (b + j) q := by
  have h := kd_st hb h0 h1
  unfold stB at hb
  exact ⟨by omega, by omega, h.trans hq⟩
theorem kS_blk {j : Int} (h0 : 2 ≤ j) (h1 : j < 18) : kS j = 0 := by
  unfold kS
  rw [if_neg (by omega), if_neg (by omega), if_pos h1]
theorem kS_tsk {j : Int} (h0 : 20 ≤ j) : kS j = 4 := by
  unfold kS
  rw [if_neg (by omega), if_neg (by omega), if_neg (by omega), if_neg (by omega), if_neg (by omega)]
theorem vk_b {b i : Int} (hb : stB b) (h0 : 0 ≤ i) (h1 : i < 16) : vk 219 (b + 2 + i) 0 := by
  have h := vk_j (j := 2 + i) hb (by omega) (by omega) (kS_blk (by omega) (by omega))
  rw [show b + 2 + i = b + (2 + i) by omega]
  exact h
theorem vk_t {b i : Int} (hb : stB b) (h0 : 0 ≤ i) (h1 : i < 6) : vk 219 (b + 20 + i) 4 := by
  have h := vk_j (j := 20 + i) hb (by omega) (by omega) (kS_tsk (by omega))
  rw [show b + 20 + i = b + (20 + i) by omega]
  exact h
theorem stB_1 : stB 1 := Or.inl rfl
theorem vk_blk {i : Int} (h0 : 0 ≤ i) (h1 : i < 16) : vk 219 (3 + i) 0 := vk_b stB_1 h0 h1
theorem vk_tsk {i : Int} (h0 : 0 ≤ i) (h1 : i < 6) : vk 219 (21 + i) 4 := vk_t stB_1 h0 h1
theorem vk_cmd {i : Int} (h0 : 0 ≤ i) (h1 : i < 30) : vk 219 (188 + i) 1 := by
  refine ⟨by omega, by omega, ?_⟩
  unfold kd
  rw [if_neg (by omega), if_neg (by omega), if_neg (by omega), if_neg (by omega), if_neg (by omega), if_neg (by omega), if_neg (by omega), if_neg (by omega), if_neg (by omega), if_pos (by omega)]
theorem stB_h {j : Int} (h0 : 0 ≤ j) (h1 : j < 4) : stB (81 + 26 * j) := by
  unfold stB
  omega
theorem vk_hst {i : Int} (h0 : 0 ≤ i) (h1 : i < 4) : vk 219 (81 + 26 * i) 3 := vk_st (stB_h h0 h1)
theorem R0_s0 {b : Int} (hb : stB b) : R0 b 0 = some (b + 1) := by
  unfold R0
  rw [if_pos (vk_st hb).2.2, if_pos rfl]
theorem R0_s1 {b : Int} (hb : stB b) : R0 b 1 = some (b + 18) := by
  unfold R0
  rw [if_pos (vk_st hb).2.2, if_neg (by omega), if_pos rfl]
theorem R0_s2 {b : Int} (hb : stB b) : R0 b 2 = some (b + 19) := by
  unfold R0
  rw [if_pos (vk_st hb).2.2, if_neg (by omega), if_neg (by omega)]
theorem R0_b {b i : Int} (hb : stB b) : R0 (b + 1) i = some (b + 2 + i) := by
  have h := (vk_j (j := 1) (q := 17) hb (by omega) (by omega) rfl).2.2
  unfold R0
  rw [if_neg (by rw [h]; decide), if_pos (Or.inl h)]
  congr 1
  omega
theorem R0_t {b i : Int} (hb : stB b) : R0 (b + 19) i = some (b + 20 + i) := by
  have h := (vk_j (j := 19) (q := 18) hb (by omega) (by omega) rfl).2.2
  unfold R0
  rw [if_neg (by rw [h]; decide), if_pos (Or.inr (Or.inl h))]
  congr 1
  omega
theorem R0_2 {i : Int} : R0 2 i = some (3 + i) := R0_b stB_1
theorem R0_20 {i : Int} : R0 20 i = some (21 + i) := R0_t stB_1
theorem R0_80 {i : Int} : R0 80 i = some (81 + 26 * i) := rfl
theorem R0_187 {i : Int} : R0 187 i = some (188 + i) := by
  unfold R0
  rw [if_neg (by decide), if_pos (by decide)]
  congr 1
/-- a truth value as the machine has it -/
def b2 (p : Prop) [Decidable p] : Int := if p then 1 else 0
theorem b2_t {p : Prop} [Decidable p] (h : p) : b2 p = 1 := if_pos h
theorem b2_f {p : Prop} [Decidable p] (h : ¬ p) : b2 p = 0 := if_neg h
theorem b2_01 {p : Prop} [Decidable p] : b2 p = 0 ∨ b2 p = 1 := by
  by_cases h : p
  · exact Or.inr (b2_t h)
  · exact Or.inl (b2_f h)
theorem b2_iff {p q : Prop} [Decidable p] [Decidable q] (h : p ↔ q) : b2 p = b2 q := by
  by_cases hp : p
  · rw [b2_t hp, b2_t (h.mp hp)]
  · rw [b2_f hp, b2_f (fun x => hp (h.mpr x))]
section RS
variable {y y' : MI} {t0 pc pc' tgt idx n ci : Nat} {L L' : List (Option Vv)} {S : List Vv} {M M1 Mf : Mm} {r : Option Vv} {o : Int} {w v1 v2 v3 v4 : Vv}
theorem r_if_eq_b {p : Prop} [Decidable p] {off : Int} (hd : Db y pc (.ifCond .eq off) off pc' tgt) (kt : ¬ p → SPW y t0 tgt L S M r Mf) (kf : p → SPW y t0 pc' L S M r Mf) : SPW y t0 pc L (vI (b2 p) :: S) M r Mf :=
  r_if_eq hd (fun h => kt (fun q => by rw [b2_t q] at h; omega)) (fun h => kf (by by_cases q : p; exact q; exact absurd (b2_f q) h))
theorem r_if_ne_b {p : Prop} [Decidable p] {off : Int} (hd : Db y pc (.ifCond .ne off) off pc' tgt) (kt : p → SPW y t0 tgt L S M r Mf) (kf : ¬ p → SPW y t0 pc' L S M r Mf) : SPW y t0 pc L (vI (b2 p) :: S) M r Mf :=
  r_if_ne hd (fun h => kt (by by_cases q : p; exact q; exact absurd (b2_f q) h)) (fun h => kf (fun q => by rw [b2_t q] at h; omega))
theorem r_know (kk : (∀ v ∈ S, vok v) → (∀ (i : Nat) (v : Vv), L[i]? = some (some v) → vok v) → (∀ o k, rng (M.2.2 o k)) → SPW y t0 pc L S M r Mf) : SPW y t0 pc L S M r Mf := by
  intro G p l e s m args below meth c H locs ls Z C R Lk hS hV hfin
  exact kk hS (fun i v h => (Lk.2.2.2 i v h).2) R.2.2.1 G p l e s m args below meth c H locs ls Z C R Lk hS hV hfin
theorem r_retI {a b : Int} (hd : decode (mbc y) pc = .ok (retI (mrt y), 1)) (ha : a = b) (hM : M = Mf) : SPW y t0 pc L [vI a] M (some (vI b)) Mf := r_ret hd (by rw [ha]; rfl) hM
theorem r_retR {a b : Option Int} (hd : decode (mbc y) pc = .ok (retI (mrt y), 1)) (ha : a = b) (hM : M = Mf) : SPW y t0 pc L [.inr a] M (some (.inr b)) Mf := r_ret hd (by rw [ha]; rfl) hM
theorem r_retV (hd : decode (mbc y) pc = .ok (retI (mrt y), 1)) (hM : M = Mf) : SPW y t0 pc L [] M none Mf := r_ret hd rfl hM
theorem r_to {M' : Mm} (h : M = M') (kk : SPW y t0 pc L S M' r Mf) : SPW y t0 pc L S M r Mf := h ▸ kk
/-- a call's room where no cell is made: frames and words by computation -/
theorem clS {μ μ' : Int → Int → Int} (h : (Nat.ble ((mrm y').frames + 1) (mrm y).frames && (Nat.ble (8 + (mml y' + 11) + (mrm y').locals) (mrm y).locals && (Nat.beq (mrm y').cells 0 && Nat.beq (mrm y').slots 0))) = true) (ht : t0 ≤ 219) (hr : rmOK y t0 219) : clOK y y' t0 (st μ) (st μ') := by
  simp only [Bool.and_eq_true] at h
  obtain ⟨h1, h2, h3, h4⟩ := h
  refine ⟨Nat.le_of_ble_eq_true h1, Nat.le_of_ble_eq_true h2, ?_, ?_, ht, Nat.le_refl _, hr⟩
  · rw [Nat.eq_of_beq_eq_true h3]; exact (Nat.sub_self _).symm
  · rw [Nat.eq_of_beq_eq_true h4]; exact (Nat.sub_self _).symm
theorem r_V0W (hd : Dc y pc (.invokevirtual idx) 3 pc') (hl : Cond.methodLink (mnm y).cls idx (mnm y') ∈ lw_g) (ok : mOK y' 0) (vi : mVirt y') (hv : vk M.2.1 o ci) (hc : ci < 7 ∧ cnm ci = (mnm y').cls) (hcl : clOK y y' t0 M M1) (hlen : Nat.ble S.length 8 = true) (hM : MetC y' [vR o] M (some w) M1) (kk : SPW y t0 pc' L (w :: S) M1 r Mf) : SPW y t0 pc L (vR o :: S) M r Mf := r_callV_ (As := []) (r1 := (some w)) hd hl ok vi hM rfl hv hc hcl (Nat.le_of_ble_eq_true hlen) kk
theorem r_V0N (hd : Dc y pc (.invokevirtual idx) 3 pc') (hl : Cond.methodLink (mnm y).cls idx (mnm y') ∈ lw_g) (ok : mOK y' 0) (vi : mVirt y') (hv : vk M.2.1 o ci) (hc : ci < 7 ∧ cnm ci = (mnm y').cls) (hcl : clOK y y' t0 M M1) (hlen : Nat.ble S.length 8 = true) (hM : MetC y' [vR o] M none M1) (kk : SPW y t0 pc' L S M1 r Mf) : SPW y t0 pc L (vR o :: S) M r Mf := r_callV_ (As := []) (r1 := none) hd hl ok vi hM rfl hv hc hcl (Nat.le_of_ble_eq_true hlen) kk
theorem r_V1W (hd : Dc y pc (.invokevirtual idx) 3 pc') (hl : Cond.methodLink (mnm y).cls idx (mnm y') ∈ lw_g) (ok : mOK y' 1) (vi : mVirt y') (hv : vk M.2.1 o ci) (hc : ci < 7 ∧ cnm ci = (mnm y').cls) (hcl : clOK y y' t0 M M1) (hlen : Nat.ble S.length 8 = true) (hM : MetC y' [vR o, v1] M (some w) M1) (kk : SPW y t0 pc' L (w :: S) M1 r Mf) : SPW y t0 pc L (v1 :: vR o :: S) M r Mf := r_callV_ (As := [v1]) (r1 := (some w)) hd hl ok vi hM rfl hv hc hcl (Nat.le_of_ble_eq_true hlen) kk
theorem r_V1N (hd : Dc y pc (.invokevirtual idx) 3 pc') (hl : Cond.methodLink (mnm y).cls idx (mnm y') ∈ lw_g) (ok : mOK y' 1) (vi : mVirt y') (hv : vk M.2.1 o ci) (hc : ci < 7 ∧ cnm ci = (mnm y').cls) (hcl : clOK y y' t0 M M1) (hlen : Nat.ble S.length 8 = true) (hM : MetC y' [vR o, v1] M none M1) (kk : SPW y t0 pc' L S M1 r Mf) : SPW y t0 pc L (v1 :: vR o :: S) M r Mf := r_callV_ (As := [v1]) (r1 := none) hd hl ok vi hM rfl hv hc hcl (Nat.le_of_ble_eq_true hlen) kk
theorem r_V2W (hd : Dc y pc (.invokevirtual idx) 3 pc') (hl : Cond.methodLink (mnm y).cls idx (mnm y') ∈ lw_g) (ok : mOK y' 2) (vi : mVirt y') (hv : vk M.2.1 o ci) (hc : ci < 7 ∧ cnm ci = (mnm y').cls) (hcl : clOK y y' t0 M M1) (hlen : Nat.ble S.length 8 = true) (hM : MetC y' [vR o, v1, v2] M (some w) M1) (kk : SPW y t0 pc' L (w :: S) M1 r Mf) : SPW y t0 pc L (v2 :: v1 :: vR o :: S) M r Mf := r_callV_ (As := [v1, v2]) (r1 := (some w)) hd hl ok vi hM rfl hv hc hcl (Nat.le_of_ble_eq_true hlen) kk
theorem r_V2N (hd : Dc y pc (.invokevirtual idx) 3 pc') (hl : Cond.methodLink (mnm y).cls idx (mnm y') ∈ lw_g) (ok : mOK y' 2) (vi : mVirt y') (hv : vk M.2.1 o ci) (hc : ci < 7 ∧ cnm ci = (mnm y').cls) (hcl : clOK y y' t0 M M1) (hlen : Nat.ble S.length 8 = true) (hM : MetC y' [vR o, v1, v2] M none M1) (kk : SPW y t0 pc' L S M1 r Mf) : SPW y t0 pc L (v2 :: v1 :: vR o :: S) M r Mf := r_callV_ (As := [v1, v2]) (r1 := none) hd hl ok vi hM rfl hv hc hcl (Nat.le_of_ble_eq_true hlen) kk
theorem r_V3W (hd : Dc y pc (.invokevirtual idx) 3 pc') (hl : Cond.methodLink (mnm y).cls idx (mnm y') ∈ lw_g) (ok : mOK y' 3) (vi : mVirt y') (hv : vk M.2.1 o ci) (hc : ci < 7 ∧ cnm ci = (mnm y').cls) (hcl : clOK y y' t0 M M1) (hlen : Nat.ble S.length 8 = true) (hM : MetC y' [vR o, v1, v2, v3] M (some w) M1) (kk : SPW y t0 pc' L (w :: S) M1 r Mf) : SPW y t0 pc L (v3 :: v2 :: v1 :: vR o :: S) M r Mf := r_callV_ (As := [v1, v2, v3]) (r1 := (some w)) hd hl ok vi hM rfl hv hc hcl (Nat.le_of_ble_eq_true hlen) kk
theorem r_V3N (hd : Dc y pc (.invokevirtual idx) 3 pc') (hl : Cond.methodLink (mnm y).cls idx (mnm y') ∈ lw_g) (ok : mOK y' 3) (vi : mVirt y') (hv : vk M.2.1 o ci) (hc : ci < 7 ∧ cnm ci = (mnm y').cls) (hcl : clOK y y' t0 M M1) (hlen : Nat.ble S.length 8 = true) (hM : MetC y' [vR o, v1, v2, v3] M none M1) (kk : SPW y t0 pc' L S M1 r Mf) : SPW y t0 pc L (v3 :: v2 :: v1 :: vR o :: S) M r Mf := r_callV_ (As := [v1, v2, v3]) (r1 := none) hd hl ok vi hM rfl hv hc hcl (Nat.le_of_ble_eq_true hlen) kk
theorem r_V4W (hd : Dc y pc (.invokevirtual idx) 3 pc') (hl : Cond.methodLink (mnm y).cls idx (mnm y') ∈ lw_g) (ok : mOK y' 4) (vi : mVirt y') (hv : vk M.2.1 o ci) (hc : ci < 7 ∧ cnm ci = (mnm y').cls) (hcl : clOK y y' t0 M M1) (hlen : Nat.ble S.length 8 = true) (hM : MetC y' [vR o, v1, v2, v3, v4] M (some w) M1) (kk : SPW y t0 pc' L (w :: S) M1 r Mf) : SPW y t0 pc L (v4 :: v3 :: v2 :: v1 :: vR o :: S) M r Mf := r_callV_ (As := [v1, v2, v3, v4]) (r1 := (some w)) hd hl ok vi hM rfl hv hc hcl (Nat.le_of_ble_eq_true hlen) kk
theorem r_V4N (hd : Dc y pc (.invokevirtual idx) 3 pc') (hl : Cond.methodLink (mnm y).cls idx (mnm y') ∈ lw_g) (ok : mOK y' 4) (vi : mVirt y') (hv : vk M.2.1 o ci) (hc : ci < 7 ∧ cnm ci = (mnm y').cls) (hcl : clOK y y' t0 M M1) (hlen : Nat.ble S.length 8 = true) (hM : MetC y' [vR o, v1, v2, v3, v4] M none M1) (kk : SPW y t0 pc' L S M1 r Mf) : SPW y t0 pc L (v4 :: v3 :: v2 :: v1 :: vR o :: S) M r Mf := r_callV_ (As := [v1, v2, v3, v4]) (r1 := none) hd hl ok vi hM rfl hv hc hcl (Nat.le_of_ble_eq_true hlen) kk
theorem r_S0W (hd : Dc y pc (.invokestatic idx) 3 pc') (hl : Cond.methodLink (mnm y).cls idx (mnm y') ∈ lw_g) (ok : mOK y' 0) (sta : Cond.static (mnm y') ∈ lw_g) (hcl : clOK y y' t0 M M1) (hlen : Nat.ble S.length 8 = true) (hM : MetC y' [] M (some w) M1) (kk : SPW y t0 pc' L (w :: S) M1 r Mf) : SPW y t0 pc L (S) M r Mf := r_callS_ (As := []) (r1 := (some w)) hd hl ok sta hM rfl hcl (Nat.le_of_ble_eq_true hlen) kk
theorem r_S0N (hd : Dc y pc (.invokestatic idx) 3 pc') (hl : Cond.methodLink (mnm y).cls idx (mnm y') ∈ lw_g) (ok : mOK y' 0) (sta : Cond.static (mnm y') ∈ lw_g) (hcl : clOK y y' t0 M M1) (hlen : Nat.ble S.length 8 = true) (hM : MetC y' [] M none M1) (kk : SPW y t0 pc' L S M1 r Mf) : SPW y t0 pc L (S) M r Mf := r_callS_ (As := []) (r1 := none) hd hl ok sta hM rfl hcl (Nat.le_of_ble_eq_true hlen) kk
theorem r_S1W (hd : Dc y pc (.invokestatic idx) 3 pc') (hl : Cond.methodLink (mnm y).cls idx (mnm y') ∈ lw_g) (ok : mOK y' 1) (sta : Cond.static (mnm y') ∈ lw_g) (hcl : clOK y y' t0 M M1) (hlen : Nat.ble S.length 8 = true) (hM : MetC y' [v1] M (some w) M1) (kk : SPW y t0 pc' L (w :: S) M1 r Mf) : SPW y t0 pc L (v1 :: S) M r Mf := r_callS_ (As := [v1]) (r1 := (some w)) hd hl ok sta hM rfl hcl (Nat.le_of_ble_eq_true hlen) kk
theorem r_S1N (hd : Dc y pc (.invokestatic idx) 3 pc') (hl : Cond.methodLink (mnm y).cls idx (mnm y') ∈ lw_g) (ok : mOK y' 1) (sta : Cond.static (mnm y') ∈ lw_g) (hcl : clOK y y' t0 M M1) (hlen : Nat.ble S.length 8 = true) (hM : MetC y' [v1] M none M1) (kk : SPW y t0 pc' L S M1 r Mf) : SPW y t0 pc L (v1 :: S) M r Mf := r_callS_ (As := [v1]) (r1 := none) hd hl ok sta hM rfl hcl (Nat.le_of_ble_eq_true hlen) kk
theorem r_S2W (hd : Dc y pc (.invokestatic idx) 3 pc') (hl : Cond.methodLink (mnm y).cls idx (mnm y') ∈ lw_g) (ok : mOK y' 2) (sta : Cond.static (mnm y') ∈ lw_g) (hcl : clOK y y' t0 M M1) (hlen : Nat.ble S.length 8 = true) (hM : MetC y' [v1, v2] M (some w) M1) (kk : SPW y t0 pc' L (w :: S) M1 r Mf) : SPW y t0 pc L (v2 :: v1 :: S) M r Mf := r_callS_ (As := [v1, v2]) (r1 := (some w)) hd hl ok sta hM rfl hcl (Nat.le_of_ble_eq_true hlen) kk
theorem r_S2N (hd : Dc y pc (.invokestatic idx) 3 pc') (hl : Cond.methodLink (mnm y).cls idx (mnm y') ∈ lw_g) (ok : mOK y' 2) (sta : Cond.static (mnm y') ∈ lw_g) (hcl : clOK y y' t0 M M1) (hlen : Nat.ble S.length 8 = true) (hM : MetC y' [v1, v2] M none M1) (kk : SPW y t0 pc' L S M1 r Mf) : SPW y t0 pc L (v2 :: v1 :: S) M r Mf := r_callS_ (As := [v1, v2]) (r1 := none) hd hl ok sta hM rfl hcl (Nat.le_of_ble_eq_true hlen) kk
theorem r_S3W (hd : Dc y pc (.invokestatic idx) 3 pc') (hl : Cond.methodLink (mnm y).cls idx (mnm y') ∈ lw_g) (ok : mOK y' 3) (sta : Cond.static (mnm y') ∈ lw_g) (hcl : clOK y y' t0 M M1) (hlen : Nat.ble S.length 8 = true) (hM : MetC y' [v1, v2, v3] M (some w) M1) (kk : SPW y t0 pc' L (w :: S) M1 r Mf) : SPW y t0 pc L (v3 :: v2 :: v1 :: S) M r Mf := r_callS_ (As := [v1, v2, v3]) (r1 := (some w)) hd hl ok sta hM rfl hcl (Nat.le_of_ble_eq_true hlen) kk
theorem r_S3N (hd : Dc y pc (.invokestatic idx) 3 pc') (hl : Cond.methodLink (mnm y).cls idx (mnm y') ∈ lw_g) (ok : mOK y' 3) (sta : Cond.static (mnm y') ∈ lw_g) (hcl : clOK y y' t0 M M1) (hlen : Nat.ble S.length 8 = true) (hM : MetC y' [v1, v2, v3] M none M1) (kk : SPW y t0 pc' L S M1 r Mf) : SPW y t0 pc L (v3 :: v2 :: v1 :: S) M r Mf := r_callS_ (As := [v1, v2, v3]) (r1 := none) hd hl ok sta hM rfl hcl (Nat.le_of_ble_eq_true hlen) kk
theorem r_I0N (hd : Dc y pc (.invokespecial idx) 3 pc') (hl : Cond.methodLink (mnm y).cls idx (mnm y') ∈ lw_g) (ok : mOK y' 0) (inst : Cond.instanceMethod (mnm y') ∈ lw_g) (hy : (mnm y').name = "<init>" ∧ mrt y' = none) (hcl : clOK y y' t0 M M1) (hlen : Nat.ble S.length 8 = true) (hM : MetC y' [vR o] M none M1) (kk : SPW y t0 pc' L S M1 r Mf) : SPW y t0 pc L (vR o :: S) M r Mf := r_callI_ (As := []) (r1 := none) hd hl ok inst hy hM rfl hcl (Nat.le_of_ble_eq_true hlen) kk
theorem r_I1N (hd : Dc y pc (.invokespecial idx) 3 pc') (hl : Cond.methodLink (mnm y).cls idx (mnm y') ∈ lw_g) (ok : mOK y' 1) (inst : Cond.instanceMethod (mnm y') ∈ lw_g) (hy : (mnm y').name = "<init>" ∧ mrt y' = none) (hcl : clOK y y' t0 M M1) (hlen : Nat.ble S.length 8 = true) (hM : MetC y' [vR o, v1] M none M1) (kk : SPW y t0 pc' L S M1 r Mf) : SPW y t0 pc L (v1 :: vR o :: S) M r Mf := r_callI_ (As := [v1]) (r1 := none) hd hl ok inst hy hM rfl hcl (Nat.le_of_ble_eq_true hlen) kk
theorem r_I2N (hd : Dc y pc (.invokespecial idx) 3 pc') (hl : Cond.methodLink (mnm y).cls idx (mnm y') ∈ lw_g) (ok : mOK y' 2) (inst : Cond.instanceMethod (mnm y') ∈ lw_g) (hy : (mnm y').name = "<init>" ∧ mrt y' = none) (hcl : clOK y y' t0 M M1) (hlen : Nat.ble S.length 8 = true) (hM : MetC y' [vR o, v1, v2] M none M1) (kk : SPW y t0 pc' L S M1 r Mf) : SPW y t0 pc L (v2 :: v1 :: vR o :: S) M r Mf := r_callI_ (As := [v1, v2]) (r1 := none) hd hl ok inst hy hM rfl hcl (Nat.le_of_ble_eq_true hlen) kk
end RS
end
section
/-! decode rows, printed by wip/p28/gen_dec.py -/
theorem dd_Poo_init_0 : Dc mi_Poo_init 0 (.aload_n 0) 1 1 := ⟨by decide +kernel, rfl⟩
theorem dd_Poo_init_1 : Dc mi_Poo_init 1 (.invokespecial 1) 3 4 := ⟨by decide +kernel, rfl⟩
theorem dd_Poo_init_4 : Dc mi_Poo_init 4 (.aload_n 0) 1 5 := ⟨by decide +kernel, rfl⟩
theorem dd_Poo_init_5 : Dc mi_Poo_init 5 (.new 7) 3 8 := ⟨by decide +kernel, rfl⟩
theorem dd_Poo_init_8 : Dc mi_Poo_init 8 (.dup) 1 9 := ⟨by decide +kernel, rfl⟩
theorem dd_Poo_init_9 : Dc mi_Poo_init 9 (.invokespecial 9) 3 12 := ⟨by decide +kernel, rfl⟩
theorem dd_Poo_init_12 : Dc mi_Poo_init 12 (.putfield 10) 3 15 := ⟨by decide +kernel, rfl⟩
theorem dd_Poo_init_15 : Dc mi_Poo_init 15 (.aload_n 0) 1 16 := ⟨by decide +kernel, rfl⟩
theorem dd_Poo_init_16 : Dc mi_Poo_init 16 (.new 7) 3 19 := ⟨by decide +kernel, rfl⟩
theorem dd_Poo_init_19 : Dc mi_Poo_init 19 (.dup) 1 20 := ⟨by decide +kernel, rfl⟩
theorem dd_Poo_init_20 : Dc mi_Poo_init 20 (.invokespecial 9) 3 23 := ⟨by decide +kernel, rfl⟩
theorem dd_Poo_init_23 : Dc mi_Poo_init 23 (.putfield 16) 3 26 := ⟨by decide +kernel, rfl⟩
theorem dd_Poo_init_26 : Dc mi_Poo_init 26 (.aload_n 0) 1 27 := ⟨by decide +kernel, rfl⟩
theorem dd_Poo_init_27 : Dc mi_Poo_init 27 (.new 7) 3 30 := ⟨by decide +kernel, rfl⟩
theorem dd_Poo_init_30 : Dc mi_Poo_init 30 (.dup) 1 31 := ⟨by decide +kernel, rfl⟩
theorem dd_Poo_init_31 : Dc mi_Poo_init 31 (.invokespecial 9) 3 34 := ⟨by decide +kernel, rfl⟩
theorem dd_Poo_init_34 : Dc mi_Poo_init 34 (.putfield 19) 3 37 := ⟨by decide +kernel, rfl⟩
theorem dd_Poo_init_37 : Dc mi_Poo_init 37 (.aload_n 0) 1 38 := ⟨by decide +kernel, rfl⟩
theorem dd_Poo_init_38 : Dc mi_Poo_init 38 (.new 22) 3 41 := ⟨by decide +kernel, rfl⟩
theorem dd_Poo_init_41 : Dc mi_Poo_init 41 (.dup) 1 42 := ⟨by decide +kernel, rfl⟩
theorem dd_Poo_init_42 : Dc mi_Poo_init 42 (.invokespecial 24) 3 45 := ⟨by decide +kernel, rfl⟩
theorem dd_Poo_init_45 : Dc mi_Poo_init 45 (.putfield 25) 3 48 := ⟨by decide +kernel, rfl⟩
theorem dd_Poo_init_48 : Dc mi_Poo_init 48 (.aload_n 0) 1 49 := ⟨by decide +kernel, rfl⟩
theorem dd_Poo_init_49 : Dc mi_Poo_init 49 (.new 29) 3 52 := ⟨by decide +kernel, rfl⟩
theorem dd_Poo_init_52 : Dc mi_Poo_init 52 (.dup) 1 53 := ⟨by decide +kernel, rfl⟩
theorem dd_Poo_init_53 : Dc mi_Poo_init 53 (.invokespecial 31) 3 56 := ⟨by decide +kernel, rfl⟩
theorem dd_Poo_init_56 : Dc mi_Poo_init 56 (.putfield 32) 3 59 := ⟨by decide +kernel, rfl⟩
theorem dd_Poo_init_59 : Dc mi_Poo_init 59 (.aload_n 0) 1 60 := ⟨by decide +kernel, rfl⟩
theorem dd_Poo_init_60 : Dc mi_Poo_init 60 (.iconst 3) 1 61 := ⟨by decide +kernel, rfl⟩
theorem dd_Poo_init_61 : Dc mi_Poo_init 61 (.newarray .int) 2 63 := ⟨by decide +kernel, rfl⟩
theorem dd_Poo_init_63 : Dc mi_Poo_init 63 (.putfield 36) 3 66 := ⟨by decide +kernel, rfl⟩
theorem dd_Poo_init_66 : decode (mbc mi_Poo_init) 66 = .ok (retI (mrt mi_Poo_init), 1) := by decide +kernel
theorem dd_Blk_init_0 : Dc mi_Blk_init 0 (.aload_n 0) 1 1 := ⟨by decide +kernel, rfl⟩
theorem dd_Blk_init_1 : Dc mi_Blk_init 1 (.invokespecial 3) 3 4 := ⟨by decide +kernel, rfl⟩
theorem dd_Blk_init_4 : Dc mi_Blk_init 4 (.aload_n 0) 1 5 := ⟨by decide +kernel, rfl⟩
theorem dd_Blk_init_5 : Dc mi_Blk_init 5 (.iload_n 1) 1 6 := ⟨by decide +kernel, rfl⟩
theorem dd_Blk_init_6 : Dc mi_Blk_init 6 (.putfield 9) 3 9 := ⟨by decide +kernel, rfl⟩
theorem dd_Blk_init_9 : Dc mi_Blk_init 9 (.aload_n 0) 1 10 := ⟨by decide +kernel, rfl⟩
theorem dd_Blk_init_10 : Dc mi_Blk_init 10 (.iload_n 2) 1 11 := ⟨by decide +kernel, rfl⟩
theorem dd_Blk_init_11 : Dc mi_Blk_init 11 (.putfield 15) 3 14 := ⟨by decide +kernel, rfl⟩
theorem dd_Blk_init_14 : Dc mi_Blk_init 14 (.aload_n 0) 1 15 := ⟨by decide +kernel, rfl⟩
theorem dd_Blk_init_15 : Dc mi_Blk_init 15 (.iconst (-1)) 1 16 := ⟨by decide +kernel, rfl⟩
theorem dd_Blk_init_16 : Dc mi_Blk_init 16 (.putfield 18) 3 19 := ⟨by decide +kernel, rfl⟩
theorem dd_Blk_init_19 : decode (mbc mi_Blk_init) 19 = .ok (retI (mrt mi_Blk_init), 1) := by decide +kernel
theorem dd_Tsk_init_0 : Dc mi_Tsk_init 0 (.aload_n 0) 1 1 := ⟨by decide +kernel, rfl⟩
theorem dd_Tsk_init_1 : Dc mi_Tsk_init 1 (.invokespecial 3) 3 4 := ⟨by decide +kernel, rfl⟩
theorem dd_Tsk_init_4 : Dc mi_Tsk_init 4 (.aload_n 0) 1 5 := ⟨by decide +kernel, rfl⟩
theorem dd_Tsk_init_5 : Dc mi_Tsk_init 5 (.iconst 1) 1 6 := ⟨by decide +kernel, rfl⟩
theorem dd_Tsk_init_6 : Dc mi_Tsk_init 6 (.putfield 9) 3 9 := ⟨by decide +kernel, rfl⟩
theorem dd_Tsk_init_9 : Dc mi_Tsk_init 9 (.aload_n 0) 1 10 := ⟨by decide +kernel, rfl⟩
theorem dd_Tsk_init_10 : Dc mi_Tsk_init 10 (.bipush 32) 2 12 := ⟨by decide +kernel, rfl⟩
theorem dd_Tsk_init_12 : Dc mi_Tsk_init 12 (.putfield 15) 3 15 := ⟨by decide +kernel, rfl⟩
theorem dd_Tsk_init_15 : decode (mbc mi_Tsk_init) 15 = .ok (retI (mrt mi_Tsk_init), 1) := by decide +kernel
theorem dd_His_init_0 : Dc mi_His_init 0 (.aload_n 0) 1 1 := ⟨by decide +kernel, rfl⟩
theorem dd_His_init_1 : Dc mi_His_init 1 (.invokespecial 3) 3 4 := ⟨by decide +kernel, rfl⟩
theorem dd_His_init_4 : Dc mi_His_init 4 (.aload_n 0) 1 5 := ⟨by decide +kernel, rfl⟩
theorem dd_His_init_5 : Dc mi_His_init 5 (.iconst 4) 1 6 := ⟨by decide +kernel, rfl⟩
theorem dd_His_init_6 : Dc mi_His_init 6 (.anewarray 9) 3 9 := ⟨by decide +kernel, rfl⟩
theorem dd_His_init_9 : Dc mi_His_init 9 (.putfield 11) 3 12 := ⟨by decide +kernel, rfl⟩
theorem dd_His_init_12 : Dc mi_His_init 12 (.iconst 0) 1 13 := ⟨by decide +kernel, rfl⟩
theorem dd_His_init_13 : Dc mi_His_init 13 (.istore_n 1) 1 14 := ⟨by decide +kernel, rfl⟩
theorem dd_His_init_14 : Dc mi_His_init 14 (.iload_n 1) 1 15 := ⟨by decide +kernel, rfl⟩
theorem dd_His_init_15 : Dc mi_His_init 15 (.iconst 4) 1 16 := ⟨by decide +kernel, rfl⟩
theorem dd_His_init_16 : Db mi_His_init 16 (.if_icmp .ge 22) 22 19 38 := ⟨by decide +kernel, rfl, rfl⟩
theorem dd_His_init_19 : Dc mi_His_init 19 (.aload_n 0) 1 20 := ⟨by decide +kernel, rfl⟩
theorem dd_His_init_20 : Dc mi_His_init 20 (.getfield 11) 3 23 := ⟨by decide +kernel, rfl⟩
theorem dd_His_init_23 : Dc mi_His_init 23 (.iload_n 1) 1 24 := ⟨by decide +kernel, rfl⟩
theorem dd_His_init_24 : Dc mi_His_init 24 (.new 9) 3 27 := ⟨by decide +kernel, rfl⟩
theorem dd_His_init_27 : Dc mi_His_init 27 (.dup) 1 28 := ⟨by decide +kernel, rfl⟩
theorem dd_His_init_28 : Dc mi_His_init 28 (.invokespecial 17) 3 31 := ⟨by decide +kernel, rfl⟩
theorem dd_His_init_31 : Dc mi_His_init 31 (.aastore) 1 32 := ⟨by decide +kernel, rfl⟩
theorem dd_His_init_32 : Dc mi_His_init 32 (.iinc 1 1) 3 35 := ⟨by decide +kernel, rfl⟩
theorem dd_His_init_35 : Db mi_His_init 35 (.goto (-21)) (-21) 38 14 := ⟨by decide +kernel, rfl, rfl⟩
theorem dd_His_init_38 : decode (mbc mi_His_init) 38 = .ok (retI (mrt mi_His_init), 1) := by decide +kernel
theorem dd_Txt_init_0 : Dc mi_Txt_init 0 (.aload_n 0) 1 1 := ⟨by decide +kernel, rfl⟩
theorem dd_Txt_init_1 : Dc mi_Txt_init 1 (.invokespecial 3) 3 4 := ⟨by decide +kernel, rfl⟩
theorem dd_Txt_init_4 : Dc mi_Txt_init 4 (.aload_n 0) 1 5 := ⟨by decide +kernel, rfl⟩
theorem dd_Txt_init_5 : Dc mi_Txt_init 5 (.bipush 60) 2 7 := ⟨by decide +kernel, rfl⟩
theorem dd_Txt_init_7 : Dc mi_Txt_init 7 (.newarray .char) 2 9 := ⟨by decide +kernel, rfl⟩
theorem dd_Txt_init_9 : Dc mi_Txt_init 9 (.putfield 9) 3 12 := ⟨by decide +kernel, rfl⟩
theorem dd_Txt_init_12 : Dc mi_Txt_init 12 (.aload_n 0) 1 13 := ⟨by decide +kernel, rfl⟩
theorem dd_Txt_init_13 : Dc mi_Txt_init 13 (.bipush 30) 2 15 := ⟨by decide +kernel, rfl⟩
theorem dd_Txt_init_15 : Dc mi_Txt_init 15 (.anewarray 15) 3 18 := ⟨by decide +kernel, rfl⟩
theorem dd_Txt_init_18 : Dc mi_Txt_init 18 (.putfield 17) 3 21 := ⟨by decide +kernel, rfl⟩
theorem dd_Txt_init_21 : Dc mi_Txt_init 21 (.iconst 0) 1 22 := ⟨by decide +kernel, rfl⟩
theorem dd_Txt_init_22 : Dc mi_Txt_init 22 (.istore_n 1) 1 23 := ⟨by decide +kernel, rfl⟩
theorem dd_Txt_init_23 : Dc mi_Txt_init 23 (.iload_n 1) 1 24 := ⟨by decide +kernel, rfl⟩
theorem dd_Txt_init_24 : Dc mi_Txt_init 24 (.bipush 30) 2 26 := ⟨by decide +kernel, rfl⟩
theorem dd_Txt_init_26 : Db mi_Txt_init 26 (.if_icmp .ge 22) 22 29 48 := ⟨by decide +kernel, rfl, rfl⟩
theorem dd_Txt_init_29 : Dc mi_Txt_init 29 (.aload_n 0) 1 30 := ⟨by decide +kernel, rfl⟩
theorem dd_Txt_init_30 : Dc mi_Txt_init 30 (.getfield 17) 3 33 := ⟨by decide +kernel, rfl⟩
theorem dd_Txt_init_33 : Dc mi_Txt_init 33 (.iload_n 1) 1 34 := ⟨by decide +kernel, rfl⟩
theorem dd_Txt_init_34 : Dc mi_Txt_init 34 (.new 15) 3 37 := ⟨by decide +kernel, rfl⟩
theorem dd_Txt_init_37 : Dc mi_Txt_init 37 (.dup) 1 38 := ⟨by decide +kernel, rfl⟩
theorem dd_Txt_init_38 : Dc mi_Txt_init 38 (.invokespecial 21) 3 41 := ⟨by decide +kernel, rfl⟩
theorem dd_Txt_init_41 : Dc mi_Txt_init 41 (.aastore) 1 42 := ⟨by decide +kernel, rfl⟩
theorem dd_Txt_init_42 : Dc mi_Txt_init 42 (.iinc 1 1) 3 45 := ⟨by decide +kernel, rfl⟩
theorem dd_Txt_init_45 : Db mi_Txt_init 45 (.goto (-22)) (-22) 48 23 := ⟨by decide +kernel, rfl, rfl⟩
theorem dd_Txt_init_48 : decode (mbc mi_Txt_init) 48 = .ok (retI (mrt mi_Txt_init), 1) := by decide +kernel
theorem dd_Cmd_init_0 : Dc mi_Cmd_init 0 (.aload_n 0) 1 1 := ⟨by decide +kernel, rfl⟩
theorem dd_Cmd_init_1 : Dc mi_Cmd_init 1 (.invokespecial 1) 3 4 := ⟨by decide +kernel, rfl⟩
theorem dd_Cmd_init_4 : decode (mbc mi_Cmd_init) 4 = .ok (retI (mrt mi_Cmd_init), 1) := by decide +kernel
theorem dd_Poo_count_0 : Dc mi_Poo_count 0 (.iload_n 1) 1 1 := ⟨by decide +kernel, rfl⟩
theorem dd_Poo_count_1 : decode (mbc mi_Poo_count) 1 = .ok (.lookupswitch 43 #[(10, 27), (11, 35)], 27) := by decide +kernel
theorem dd_Poo_count_28 : Dc mi_Poo_count 28 (.aload_n 0) 1 29 := ⟨by decide +kernel, rfl⟩
theorem dd_Poo_count_29 : Dc mi_Poo_count 29 (.getfield 25) 3 32 := ⟨by decide +kernel, rfl⟩
theorem dd_Poo_count_32 : Dc mi_Poo_count 32 (.invokevirtual 154) 3 35 := ⟨by decide +kernel, rfl⟩
theorem dd_Poo_count_35 : decode (mbc mi_Poo_count) 35 = .ok (retI (mrt mi_Poo_count), 1) := by decide +kernel
theorem dd_Poo_count_36 : Dc mi_Poo_count 36 (.aload_n 0) 1 37 := ⟨by decide +kernel, rfl⟩
theorem dd_Poo_count_37 : Dc mi_Poo_count 37 (.getfield 32) 3 40 := ⟨by decide +kernel, rfl⟩
theorem dd_Poo_count_40 : Dc mi_Poo_count 40 (.invokevirtual 157) 3 43 := ⟨by decide +kernel, rfl⟩
theorem dd_Poo_count_43 : decode (mbc mi_Poo_count) 43 = .ok (retI (mrt mi_Poo_count), 1) := by decide +kernel
theorem dd_Poo_count_44 : Dc mi_Poo_count 44 (.aload_n 0) 1 45 := ⟨by decide +kernel, rfl⟩
theorem dd_Poo_count_45 : Dc mi_Poo_count 45 (.getfield 10) 3 48 := ⟨by decide +kernel, rfl⟩
theorem dd_Poo_count_48 : Dc mi_Poo_count 48 (.iload_n 1) 1 49 := ⟨by decide +kernel, rfl⟩
theorem dd_Poo_count_49 : Dc mi_Poo_count 49 (.invokevirtual 158) 3 52 := ⟨by decide +kernel, rfl⟩
theorem dd_Poo_count_52 : decode (mbc mi_Poo_count) 52 = .ok (retI (mrt mi_Poo_count), 1) := by decide +kernel
theorem dd_His_length_0 : Dc mi_His_length 0 (.aload_n 0) 1 1 := ⟨by decide +kernel, rfl⟩
theorem dd_His_length_1 : Dc mi_His_length 1 (.getfield 18) 3 4 := ⟨by decide +kernel, rfl⟩
theorem dd_His_length_4 : decode (mbc mi_His_length) 4 = .ok (retI (mrt mi_His_length), 1) := by decide +kernel
theorem dd_Txt_length_0 : Dc mi_Txt_length 0 (.aload_n 0) 1 1 := ⟨by decide +kernel, rfl⟩
theorem dd_Txt_length_1 : Dc mi_Txt_length 1 (.getfield 22) 3 4 := ⟨by decide +kernel, rfl⟩
theorem dd_Txt_length_4 : decode (mbc mi_Txt_length) 4 = .ok (retI (mrt mi_Txt_length), 1) := by decide +kernel
theorem dd_Blk_words_0 : Dc mi_Blk_words 0 (.aload_n 0) 1 1 := ⟨by decide +kernel, rfl⟩
theorem dd_Blk_words_1 : Dc mi_Blk_words 1 (.getfield 15) 3 4 := ⟨by decide +kernel, rfl⟩
theorem dd_Blk_words_4 : Dc mi_Blk_words 4 (.invokestatic 30) 3 7 := ⟨by decide +kernel, rfl⟩
theorem dd_Blk_words_7 : decode (mbc mi_Blk_words) 7 = .ok (retI (mrt mi_Blk_words), 1) := by decide +kernel
theorem dd_Blk_wordsOf_0 : Dc mi_Blk_wordsOf 0 (.iload_n 0) 1 1 := ⟨by decide +kernel, rfl⟩
theorem dd_Blk_wordsOf_1 : Db mi_Blk_wordsOf 1 (.ifCond .lt 8) 8 4 9 := ⟨by decide +kernel, rfl, rfl⟩
theorem dd_Blk_wordsOf_4 : Dc mi_Blk_wordsOf 4 (.iload_n 0) 1 5 := ⟨by decide +kernel, rfl⟩
theorem dd_Blk_wordsOf_5 : Dc mi_Blk_wordsOf 5 (.iconst 3) 1 6 := ⟨by decide +kernel, rfl⟩
theorem dd_Blk_wordsOf_6 : Db mi_Blk_wordsOf 6 (.if_icmp .lt 7) 7 9 13 := ⟨by decide +kernel, rfl, rfl⟩
theorem dd_Blk_wordsOf_9 : Dc mi_Blk_wordsOf 9 (.iconst 0) 1 10 := ⟨by decide +kernel, rfl⟩
theorem dd_Blk_wordsOf_10 : Db mi_Blk_wordsOf 10 (.goto 6) 6 13 16 := ⟨by decide +kernel, rfl, rfl⟩
theorem dd_Blk_wordsOf_13 : Dc mi_Blk_wordsOf 13 (.iconst 4) 1 14 := ⟨by decide +kernel, rfl⟩
theorem dd_Blk_wordsOf_14 : Dc mi_Blk_wordsOf 14 (.iload_n 0) 1 15 := ⟨by decide +kernel, rfl⟩
theorem dd_Blk_wordsOf_15 : Dc mi_Blk_wordsOf 15 (.ishl) 1 16 := ⟨by decide +kernel, rfl⟩
theorem dd_Blk_wordsOf_16 : decode (mbc mi_Blk_wordsOf) 16 = .ok (retI (mrt mi_Blk_wordsOf), 1) := by decide +kernel
theorem dd_Poo_word_0 : Dc mi_Poo_word 0 (.aload_n 0) 1 1 := ⟨by decide +kernel, rfl⟩
theorem dd_Poo_word_1 : Dc mi_Poo_word 1 (.getfield 10) 3 4 := ⟨by decide +kernel, rfl⟩
theorem dd_Poo_word_4 : Dc mi_Poo_word 4 (.iload_n 1) 1 5 := ⟨by decide +kernel, rfl⟩
theorem dd_Poo_word_5 : Dc mi_Poo_word 5 (.iload_n 2) 1 6 := ⟨by decide +kernel, rfl⟩
theorem dd_Poo_word_6 : Dc mi_Poo_word 6 (.invokevirtual 139) 3 9 := ⟨by decide +kernel, rfl⟩
theorem dd_Poo_word_9 : decode (mbc mi_Poo_word) 9 = .ok (retI (mrt mi_Poo_word), 1) := by decide +kernel
theorem dd_Blk_holds_0 : Dc mi_Blk_holds 0 (.iload_n 1) 1 1 := ⟨by decide +kernel, rfl⟩
theorem dd_Blk_holds_1 : Dc mi_Blk_holds 1 (.aload_n 0) 1 2 := ⟨by decide +kernel, rfl⟩
theorem dd_Blk_holds_2 : Dc mi_Blk_holds 2 (.getfield 9) 3 5 := ⟨by decide +kernel, rfl⟩
theorem dd_Blk_holds_5 : Db mi_Blk_holds 5 (.if_icmp .lt 20) 20 8 25 := ⟨by decide +kernel, rfl, rfl⟩
theorem dd_Blk_holds_8 : Dc mi_Blk_holds 8 (.iload_n 1) 1 9 := ⟨by decide +kernel, rfl⟩
theorem dd_Blk_holds_9 : Dc mi_Blk_holds 9 (.aload_n 0) 1 10 := ⟨by decide +kernel, rfl⟩
theorem dd_Blk_holds_10 : Dc mi_Blk_holds 10 (.getfield 9) 3 13 := ⟨by decide +kernel, rfl⟩
theorem dd_Blk_holds_13 : Dc mi_Blk_holds 13 (.aload_n 0) 1 14 := ⟨by decide +kernel, rfl⟩
theorem dd_Blk_holds_14 : Dc mi_Blk_holds 14 (.invokevirtual 34) 3 17 := ⟨by decide +kernel, rfl⟩
theorem dd_Blk_holds_17 : Dc mi_Blk_holds 17 (.iadd) 1 18 := ⟨by decide +kernel, rfl⟩
theorem dd_Blk_holds_18 : Db mi_Blk_holds 18 (.if_icmp .ge 7) 7 21 25 := ⟨by decide +kernel, rfl, rfl⟩
theorem dd_Blk_holds_21 : Dc mi_Blk_holds 21 (.iconst 1) 1 22 := ⟨by decide +kernel, rfl⟩
theorem dd_Blk_holds_22 : Db mi_Blk_holds 22 (.goto 4) 4 25 26 := ⟨by decide +kernel, rfl, rfl⟩
theorem dd_Blk_holds_25 : Dc mi_Blk_holds 25 (.iconst 0) 1 26 := ⟨by decide +kernel, rfl⟩
theorem dd_Blk_holds_26 : decode (mbc mi_Blk_holds) 26 = .ok (retI (mrt mi_Blk_holds), 1) := by decide +kernel
theorem dd_Blk_isOwned_0 : Dc mi_Blk_isOwned 0 (.aload_n 0) 1 1 := ⟨by decide +kernel, rfl⟩
theorem dd_Blk_isOwned_1 : Dc mi_Blk_isOwned 1 (.getfield 18) 3 4 := ⟨by decide +kernel, rfl⟩
theorem dd_Blk_isOwned_4 : Dc mi_Blk_isOwned 4 (.iconst (-1)) 1 5 := ⟨by decide +kernel, rfl⟩
theorem dd_Blk_isOwned_5 : Db mi_Blk_isOwned 5 (.if_icmp .eq 7) 7 8 12 := ⟨by decide +kernel, rfl, rfl⟩
theorem dd_Blk_isOwned_8 : Dc mi_Blk_isOwned 8 (.iconst 1) 1 9 := ⟨by decide +kernel, rfl⟩
theorem dd_Blk_isOwned_9 : Db mi_Blk_isOwned 9 (.goto 4) 4 12 13 := ⟨by decide +kernel, rfl, rfl⟩
theorem dd_Blk_isOwned_12 : Dc mi_Blk_isOwned 12 (.iconst 0) 1 13 := ⟨by decide +kernel, rfl⟩
theorem dd_Blk_isOwned_13 : decode (mbc mi_Blk_isOwned) 13 = .ok (retI (mrt mi_Blk_isOwned), 1) := by decide +kernel
theorem dd_Blk_hasGuardAt_0 : Dc mi_Blk_hasGuardAt 0 (.aload_n 0) 1 1 := ⟨by decide +kernel, rfl⟩
theorem dd_Blk_hasGuardAt_1 : Dc mi_Blk_hasGuardAt 1 (.invokevirtual 38) 3 4 := ⟨by decide +kernel, rfl⟩
theorem dd_Blk_hasGuardAt_4 : Db mi_Blk_hasGuardAt 4 (.ifCond .eq 23) 23 7 27 := ⟨by decide +kernel, rfl, rfl⟩
theorem dd_Blk_hasGuardAt_7 : Dc mi_Blk_hasGuardAt 7 (.iload_n 1) 1 8 := ⟨by decide +kernel, rfl⟩
theorem dd_Blk_hasGuardAt_8 : Dc mi_Blk_hasGuardAt 8 (.aload_n 0) 1 9 := ⟨by decide +kernel, rfl⟩
theorem dd_Blk_hasGuardAt_9 : Dc mi_Blk_hasGuardAt 9 (.getfield 9) 3 12 := ⟨by decide +kernel, rfl⟩
theorem dd_Blk_hasGuardAt_12 : Db mi_Blk_hasGuardAt 12 (.if_icmp .eq 11) 11 15 23 := ⟨by decide +kernel, rfl, rfl⟩
theorem dd_Blk_hasGuardAt_15 : Dc mi_Blk_hasGuardAt 15 (.iload_n 1) 1 16 := ⟨by decide +kernel, rfl⟩
theorem dd_Blk_hasGuardAt_16 : Dc mi_Blk_hasGuardAt 16 (.aload_n 0) 1 17 := ⟨by decide +kernel, rfl⟩
theorem dd_Blk_hasGuardAt_17 : Dc mi_Blk_hasGuardAt 17 (.invokevirtual 42) 3 20 := ⟨by decide +kernel, rfl⟩
theorem dd_Blk_hasGuardAt_20 : Db mi_Blk_hasGuardAt 20 (.if_icmp .ne 7) 7 23 27 := ⟨by decide +kernel, rfl, rfl⟩
theorem dd_Blk_hasGuardAt_23 : Dc mi_Blk_hasGuardAt 23 (.iconst 1) 1 24 := ⟨by decide +kernel, rfl⟩
theorem dd_Blk_hasGuardAt_24 : Db mi_Blk_hasGuardAt 24 (.goto 4) 4 27 28 := ⟨by decide +kernel, rfl, rfl⟩
theorem dd_Blk_hasGuardAt_27 : Dc mi_Blk_hasGuardAt 27 (.iconst 0) 1 28 := ⟨by decide +kernel, rfl⟩
theorem dd_Blk_hasGuardAt_28 : decode (mbc mi_Blk_hasGuardAt) 28 = .ok (retI (mrt mi_Blk_hasGuardAt), 1) := by decide +kernel
theorem dd_Blk_rearGuard_0 : Dc mi_Blk_rearGuard 0 (.aload_n 0) 1 1 := ⟨by decide +kernel, rfl⟩
theorem dd_Blk_rearGuard_1 : Dc mi_Blk_rearGuard 1 (.getfield 9) 3 4 := ⟨by decide +kernel, rfl⟩
theorem dd_Blk_rearGuard_4 : Dc mi_Blk_rearGuard 4 (.iconst 1) 1 5 := ⟨by decide +kernel, rfl⟩
theorem dd_Blk_rearGuard_5 : Dc mi_Blk_rearGuard 5 (.iadd) 1 6 := ⟨by decide +kernel, rfl⟩
theorem dd_Blk_rearGuard_6 : Dc mi_Blk_rearGuard 6 (.aload_n 0) 1 7 := ⟨by decide +kernel, rfl⟩
theorem dd_Blk_rearGuard_7 : Dc mi_Blk_rearGuard 7 (.getfield 24) 3 10 := ⟨by decide +kernel, rfl⟩
theorem dd_Blk_rearGuard_10 : Dc mi_Blk_rearGuard 10 (.iadd) 1 11 := ⟨by decide +kernel, rfl⟩
theorem dd_Blk_rearGuard_11 : decode (mbc mi_Blk_rearGuard) 11 = .ok (retI (mrt mi_Blk_rearGuard), 1) := by decide +kernel
theorem dd_Poo_block_0 : Dc mi_Poo_block 0 (.aload_n 0) 1 1 := ⟨by decide +kernel, rfl⟩
theorem dd_Poo_block_1 : Dc mi_Poo_block 1 (.getfield 10) 3 4 := ⟨by decide +kernel, rfl⟩
theorem dd_Poo_block_4 : Dc mi_Poo_block 4 (.iload_n 1) 1 5 := ⟨by decide +kernel, rfl⟩
theorem dd_Poo_block_5 : Dc mi_Poo_block 5 (.iload_n 2) 1 6 := ⟨by decide +kernel, rfl⟩
theorem dd_Poo_block_6 : Dc mi_Poo_block 6 (.invokevirtual 136) 3 9 := ⟨by decide +kernel, rfl⟩
theorem dd_Poo_block_9 : decode (mbc mi_Poo_block) 9 = .ok (retI (mrt mi_Poo_block), 1) := by decide +kernel
theorem dd_Poo_ask_0 : Dc mi_Poo_ask 0 (.aload_n 0) 1 1 := ⟨by decide +kernel, rfl⟩
theorem dd_Poo_ask_1 : Dc mi_Poo_ask 1 (.getfield 16) 3 4 := ⟨by decide +kernel, rfl⟩
theorem dd_Poo_ask_4 : Dc mi_Poo_ask 4 (.aload_n 0) 1 5 := ⟨by decide +kernel, rfl⟩
theorem dd_Poo_ask_5 : Dc mi_Poo_ask 5 (.getfield 10) 3 8 := ⟨by decide +kernel, rfl⟩
theorem dd_Poo_ask_8 : Dc mi_Poo_ask 8 (.invokevirtual 40) 3 11 := ⟨by decide +kernel, rfl⟩
theorem dd_Poo_ask_11 : Dc mi_Poo_ask 11 (.aload_n 0) 1 12 := ⟨by decide +kernel, rfl⟩
theorem dd_Poo_ask_12 : Dc mi_Poo_ask 12 (.getfield 10) 3 15 := ⟨by decide +kernel, rfl⟩
theorem dd_Poo_ask_15 : Dc mi_Poo_ask 15 (.iload_n 1) 1 16 := ⟨by decide +kernel, rfl⟩
theorem dd_Poo_ask_16 : Dc mi_Poo_ask 16 (.iload_n 2) 1 17 := ⟨by decide +kernel, rfl⟩
theorem dd_Poo_ask_17 : Dc mi_Poo_ask 17 (.invokevirtual 44) 3 20 := ⟨by decide +kernel, rfl⟩
theorem dd_Poo_ask_20 : Dc mi_Poo_ask 20 (.istore_n 3) 1 21 := ⟨by decide +kernel, rfl⟩
theorem dd_Poo_ask_21 : Dc mi_Poo_ask 21 (.iload_n 3) 1 22 := ⟨by decide +kernel, rfl⟩
theorem dd_Poo_ask_22 : Dc mi_Poo_ask 22 (.bipush (-6)) 2 24 := ⟨by decide +kernel, rfl⟩
theorem dd_Poo_ask_24 : Db mi_Poo_ask 24 (.if_icmp .ne 16) 16 27 40 := ⟨by decide +kernel, rfl, rfl⟩
theorem dd_Poo_ask_27 : Dc mi_Poo_ask 27 (.aload_n 0) 1 28 := ⟨by decide +kernel, rfl⟩
theorem dd_Poo_ask_28 : Dc mi_Poo_ask 28 (.aload_n 0) 1 29 := ⟨by decide +kernel, rfl⟩
theorem dd_Poo_ask_29 : Dc mi_Poo_ask 29 (.getfield 10) 3 32 := ⟨by decide +kernel, rfl⟩
theorem dd_Poo_ask_32 : Dc mi_Poo_ask 32 (.iload_n 1) 1 33 := ⟨by decide +kernel, rfl⟩
theorem dd_Poo_ask_33 : Dc mi_Poo_ask 33 (.iload_n 2) 1 34 := ⟨by decide +kernel, rfl⟩
theorem dd_Poo_ask_34 : Dc mi_Poo_ask 34 (.invokevirtual 48) 3 37 := ⟨by decide +kernel, rfl⟩
theorem dd_Poo_ask_37 : Dc mi_Poo_ask 37 (.invokevirtual 51) 3 40 := ⟨by decide +kernel, rfl⟩
theorem dd_Poo_ask_40 : Dc mi_Poo_ask 40 (.aload_n 0) 1 41 := ⟨by decide +kernel, rfl⟩
theorem dd_Poo_ask_41 : Dc mi_Poo_ask 41 (.iload_n 3) 1 42 := ⟨by decide +kernel, rfl⟩
theorem dd_Poo_ask_42 : Dc mi_Poo_ask 42 (.invokevirtual 55) 3 45 := ⟨by decide +kernel, rfl⟩
theorem dd_Poo_ask_45 : decode (mbc mi_Poo_ask) 45 = .ok (retI (mrt mi_Poo_ask), 1) := by decide +kernel
theorem dd_Blk_copyFrom_0 : Dc mi_Blk_copyFrom 0 (.aload_n 0) 1 1 := ⟨by decide +kernel, rfl⟩
theorem dd_Blk_copyFrom_1 : Dc mi_Blk_copyFrom 1 (.aload_n 1) 1 2 := ⟨by decide +kernel, rfl⟩
theorem dd_Blk_copyFrom_2 : Dc mi_Blk_copyFrom 2 (.getfield 15) 3 5 := ⟨by decide +kernel, rfl⟩
theorem dd_Blk_copyFrom_5 : Dc mi_Blk_copyFrom 5 (.putfield 15) 3 8 := ⟨by decide +kernel, rfl⟩
theorem dd_Blk_copyFrom_8 : Dc mi_Blk_copyFrom 8 (.aload_n 0) 1 9 := ⟨by decide +kernel, rfl⟩
theorem dd_Blk_copyFrom_9 : Dc mi_Blk_copyFrom 9 (.aload_n 1) 1 10 := ⟨by decide +kernel, rfl⟩
theorem dd_Blk_copyFrom_10 : Dc mi_Blk_copyFrom 10 (.getfield 18) 3 13 := ⟨by decide +kernel, rfl⟩
theorem dd_Blk_copyFrom_13 : Dc mi_Blk_copyFrom 13 (.putfield 18) 3 16 := ⟨by decide +kernel, rfl⟩
theorem dd_Blk_copyFrom_16 : Dc mi_Blk_copyFrom 16 (.aload_n 0) 1 17 := ⟨by decide +kernel, rfl⟩
theorem dd_Blk_copyFrom_17 : Dc mi_Blk_copyFrom 17 (.aload_n 1) 1 18 := ⟨by decide +kernel, rfl⟩
theorem dd_Blk_copyFrom_18 : Dc mi_Blk_copyFrom 18 (.getfield 21) 3 21 := ⟨by decide +kernel, rfl⟩
theorem dd_Blk_copyFrom_21 : Dc mi_Blk_copyFrom 21 (.putfield 21) 3 24 := ⟨by decide +kernel, rfl⟩
theorem dd_Blk_copyFrom_24 : Dc mi_Blk_copyFrom 24 (.aload_n 0) 1 25 := ⟨by decide +kernel, rfl⟩
theorem dd_Blk_copyFrom_25 : Dc mi_Blk_copyFrom 25 (.aload_n 1) 1 26 := ⟨by decide +kernel, rfl⟩
theorem dd_Blk_copyFrom_26 : Dc mi_Blk_copyFrom 26 (.getfield 24) 3 29 := ⟨by decide +kernel, rfl⟩
theorem dd_Blk_copyFrom_29 : Dc mi_Blk_copyFrom 29 (.putfield 24) 3 32 := ⟨by decide +kernel, rfl⟩
theorem dd_Blk_copyFrom_32 : Dc mi_Blk_copyFrom 32 (.aload_n 0) 1 33 := ⟨by decide +kernel, rfl⟩
theorem dd_Blk_copyFrom_33 : Dc mi_Blk_copyFrom 33 (.aload_n 1) 1 34 := ⟨by decide +kernel, rfl⟩
theorem dd_Blk_copyFrom_34 : Dc mi_Blk_copyFrom 34 (.getfield 27) 3 37 := ⟨by decide +kernel, rfl⟩
theorem dd_Blk_copyFrom_37 : Dc mi_Blk_copyFrom 37 (.putfield 27) 3 40 := ⟨by decide +kernel, rfl⟩
theorem dd_Blk_copyFrom_40 : decode (mbc mi_Blk_copyFrom) 40 = .ok (retI (mrt mi_Blk_copyFrom), 1) := by decide +kernel
theorem dd_Tsk_copyFrom_0 : Dc mi_Tsk_copyFrom 0 (.aload_n 0) 1 1 := ⟨by decide +kernel, rfl⟩
theorem dd_Tsk_copyFrom_1 : Dc mi_Tsk_copyFrom 1 (.aload_n 1) 1 2 := ⟨by decide +kernel, rfl⟩
theorem dd_Tsk_copyFrom_2 : Dc mi_Tsk_copyFrom 2 (.getfield 9) 3 5 := ⟨by decide +kernel, rfl⟩
theorem dd_Tsk_copyFrom_5 : Dc mi_Tsk_copyFrom 5 (.putfield 9) 3 8 := ⟨by decide +kernel, rfl⟩
theorem dd_Tsk_copyFrom_8 : Dc mi_Tsk_copyFrom 8 (.aload_n 0) 1 9 := ⟨by decide +kernel, rfl⟩
theorem dd_Tsk_copyFrom_9 : Dc mi_Tsk_copyFrom 9 (.aload_n 1) 1 10 := ⟨by decide +kernel, rfl⟩
theorem dd_Tsk_copyFrom_10 : Dc mi_Tsk_copyFrom 10 (.getfield 15) 3 13 := ⟨by decide +kernel, rfl⟩
theorem dd_Tsk_copyFrom_13 : Dc mi_Tsk_copyFrom 13 (.putfield 15) 3 16 := ⟨by decide +kernel, rfl⟩
theorem dd_Tsk_copyFrom_16 : Dc mi_Tsk_copyFrom 16 (.aload_n 0) 1 17 := ⟨by decide +kernel, rfl⟩
theorem dd_Tsk_copyFrom_17 : Dc mi_Tsk_copyFrom 17 (.aload_n 1) 1 18 := ⟨by decide +kernel, rfl⟩
theorem dd_Tsk_copyFrom_18 : Dc mi_Tsk_copyFrom 18 (.getfield 19) 3 21 := ⟨by decide +kernel, rfl⟩
theorem dd_Tsk_copyFrom_21 : Dc mi_Tsk_copyFrom 21 (.putfield 19) 3 24 := ⟨by decide +kernel, rfl⟩
theorem dd_Tsk_copyFrom_24 : decode (mbc mi_Tsk_copyFrom) 24 = .ok (retI (mrt mi_Tsk_copyFrom), 1) := by decide +kernel
theorem dd_Blk_isFreeOf_0 : Dc mi_Blk_isFreeOf 0 (.aload_n 0) 1 1 := ⟨by decide +kernel, rfl⟩
theorem dd_Blk_isFreeOf_1 : Dc mi_Blk_isFreeOf 1 (.getfield 15) 3 4 := ⟨by decide +kernel, rfl⟩
theorem dd_Blk_isFreeOf_4 : Dc mi_Blk_isFreeOf 4 (.iload_n 1) 1 5 := ⟨by decide +kernel, rfl⟩
theorem dd_Blk_isFreeOf_5 : Db mi_Blk_isFreeOf 5 (.if_icmp .ne 15) 15 8 20 := ⟨by decide +kernel, rfl, rfl⟩
theorem dd_Blk_isFreeOf_8 : Dc mi_Blk_isFreeOf 8 (.aload_n 0) 1 9 := ⟨by decide +kernel, rfl⟩
theorem dd_Blk_isFreeOf_9 : Dc mi_Blk_isFreeOf 9 (.getfield 18) 3 12 := ⟨by decide +kernel, rfl⟩
theorem dd_Blk_isFreeOf_12 : Dc mi_Blk_isFreeOf 12 (.iconst (-1)) 1 13 := ⟨by decide +kernel, rfl⟩
theorem dd_Blk_isFreeOf_13 : Db mi_Blk_isFreeOf 13 (.if_icmp .ne 7) 7 16 20 := ⟨by decide +kernel, rfl, rfl⟩
theorem dd_Blk_isFreeOf_16 : Dc mi_Blk_isFreeOf 16 (.iconst 1) 1 17 := ⟨by decide +kernel, rfl⟩
theorem dd_Blk_isFreeOf_17 : Db mi_Blk_isFreeOf 17 (.goto 4) 4 20 21 := ⟨by decide +kernel, rfl, rfl⟩
theorem dd_Blk_isFreeOf_20 : Dc mi_Blk_isFreeOf 20 (.iconst 0) 1 21 := ⟨by decide +kernel, rfl⟩
theorem dd_Blk_isFreeOf_21 : decode (mbc mi_Blk_isFreeOf) 21 = .ok (retI (mrt mi_Blk_isFreeOf), 1) := by decide +kernel
theorem dd_Poo_countRefusal_0 : Dc mi_Poo_countRefusal 0 (.iload_n 1) 1 1 := ⟨by decide +kernel, rfl⟩
theorem dd_Poo_countRefusal_1 : Dc mi_Poo_countRefusal 1 (.iconst 1) 1 2 := ⟨by decide +kernel, rfl⟩
theorem dd_Poo_countRefusal_2 : Db mi_Poo_countRefusal 2 (.if_icmp .lt 20) 20 5 22 := ⟨by decide +kernel, rfl, rfl⟩
theorem dd_Poo_countRefusal_5 : Dc mi_Poo_countRefusal 5 (.iload_n 1) 1 6 := ⟨by decide +kernel, rfl⟩
theorem dd_Poo_countRefusal_6 : Dc mi_Poo_countRefusal 6 (.iconst 3) 1 7 := ⟨by decide +kernel, rfl⟩
theorem dd_Poo_countRefusal_7 : Db mi_Poo_countRefusal 7 (.if_icmp .gt 15) 15 10 22 := ⟨by decide +kernel, rfl, rfl⟩
theorem dd_Poo_countRefusal_10 : Dc mi_Poo_countRefusal 10 (.aload_n 0) 1 11 := ⟨by decide +kernel, rfl⟩
theorem dd_Poo_countRefusal_11 : Dc mi_Poo_countRefusal 11 (.getfield 36) 3 14 := ⟨by decide +kernel, rfl⟩
theorem dd_Poo_countRefusal_14 : Dc mi_Poo_countRefusal 14 (.iload_n 1) 1 15 := ⟨by decide +kernel, rfl⟩
theorem dd_Poo_countRefusal_15 : Dc mi_Poo_countRefusal 15 (.iconst 1) 1 16 := ⟨by decide +kernel, rfl⟩
theorem dd_Poo_countRefusal_16 : Dc mi_Poo_countRefusal 16 (.isub) 1 17 := ⟨by decide +kernel, rfl⟩
theorem dd_Poo_countRefusal_17 : Dc mi_Poo_countRefusal 17 (.dup2) 1 18 := ⟨by decide +kernel, rfl⟩
theorem dd_Poo_countRefusal_18 : Dc mi_Poo_countRefusal 18 (.iaload) 1 19 := ⟨by decide +kernel, rfl⟩
theorem dd_Poo_countRefusal_19 : Dc mi_Poo_countRefusal 19 (.iconst 1) 1 20 := ⟨by decide +kernel, rfl⟩
theorem dd_Poo_countRefusal_20 : Dc mi_Poo_countRefusal 20 (.iadd) 1 21 := ⟨by decide +kernel, rfl⟩
theorem dd_Poo_countRefusal_21 : Dc mi_Poo_countRefusal 21 (.iastore) 1 22 := ⟨by decide +kernel, rfl⟩
theorem dd_Poo_countRefusal_22 : decode (mbc mi_Poo_countRefusal) 22 = .ok (retI (mrt mi_Poo_countRefusal), 1) := by decide +kernel
theorem dd_Poo_recorded_0 : Dc mi_Poo_recorded 0 (.iload_n 1) 1 1 := ⟨by decide +kernel, rfl⟩
theorem dd_Poo_recorded_1 : Db mi_Poo_recorded 1 (.ifCond .lt 14) 14 4 15 := ⟨by decide +kernel, rfl, rfl⟩
theorem dd_Poo_recorded_4 : Dc mi_Poo_recorded 4 (.aload_n 0) 1 5 := ⟨by decide +kernel, rfl⟩
theorem dd_Poo_recorded_5 : Dc mi_Poo_recorded 5 (.getfield 25) 3 8 := ⟨by decide +kernel, rfl⟩
theorem dd_Poo_recorded_8 : Dc mi_Poo_recorded 8 (.aload_n 0) 1 9 := ⟨by decide +kernel, rfl⟩
theorem dd_Poo_recorded_9 : Dc mi_Poo_recorded 9 (.getfield 16) 3 12 := ⟨by decide +kernel, rfl⟩
theorem dd_Poo_recorded_12 : Dc mi_Poo_recorded 12 (.invokevirtual 161) 3 15 := ⟨by decide +kernel, rfl⟩
theorem dd_Poo_recorded_15 : Dc mi_Poo_recorded 15 (.iload_n 1) 1 16 := ⟨by decide +kernel, rfl⟩
theorem dd_Poo_recorded_16 : decode (mbc mi_Poo_recorded) 16 = .ok (retI (mrt mi_Poo_recorded), 1) := by decide +kernel
theorem dd_His_record_0 : Dc mi_His_record 0 (.aload_n 0) 1 1 := ⟨by decide +kernel, rfl⟩
theorem dd_His_record_1 : Dc mi_His_record 1 (.getfield 22) 3 4 := ⟨by decide +kernel, rfl⟩
theorem dd_His_record_4 : Db mi_His_record 4 (.ifCond .lt 11) 11 7 15 := ⟨by decide +kernel, rfl, rfl⟩
theorem dd_His_record_7 : Dc mi_His_record 7 (.aload_n 0) 1 8 := ⟨by decide +kernel, rfl⟩
theorem dd_His_record_8 : Dc mi_His_record 8 (.getfield 22) 3 11 := ⟨by decide +kernel, rfl⟩
theorem dd_His_record_11 : Dc mi_His_record 11 (.iconst 4) 1 12 := ⟨by decide +kernel, rfl⟩
theorem dd_His_record_12 : Db mi_His_record 12 (.if_icmp .lt 4) 4 15 16 := ⟨by decide +kernel, rfl, rfl⟩
theorem dd_His_record_15 : decode (mbc mi_His_record) 15 = .ok (retI (mrt mi_His_record), 1) := by decide +kernel
theorem dd_His_record_16 : Dc mi_His_record 16 (.aload_n 0) 1 17 := ⟨by decide +kernel, rfl⟩
theorem dd_His_record_17 : Dc mi_His_record 17 (.getfield 11) 3 20 := ⟨by decide +kernel, rfl⟩
theorem dd_His_record_20 : Dc mi_His_record 20 (.aload_n 0) 1 21 := ⟨by decide +kernel, rfl⟩
theorem dd_His_record_21 : Dc mi_His_record 21 (.getfield 22) 3 24 := ⟨by decide +kernel, rfl⟩
theorem dd_His_record_24 : Dc mi_His_record 24 (.aaload) 1 25 := ⟨by decide +kernel, rfl⟩
theorem dd_His_record_25 : Dc mi_His_record 25 (.aload_n 1) 1 26 := ⟨by decide +kernel, rfl⟩
theorem dd_His_record_26 : Dc mi_His_record 26 (.invokevirtual 25) 3 29 := ⟨by decide +kernel, rfl⟩
theorem dd_His_record_29 : Dc mi_His_record 29 (.aload_n 0) 1 30 := ⟨by decide +kernel, rfl⟩
theorem dd_His_record_30 : Dc mi_His_record 30 (.aload_n 0) 1 31 := ⟨by decide +kernel, rfl⟩
theorem dd_His_record_31 : Dc mi_His_record 31 (.getfield 22) 3 34 := ⟨by decide +kernel, rfl⟩
theorem dd_His_record_34 : Dc mi_His_record 34 (.iconst 1) 1 35 := ⟨by decide +kernel, rfl⟩
theorem dd_His_record_35 : Dc mi_His_record 35 (.iadd) 1 36 := ⟨by decide +kernel, rfl⟩
theorem dd_His_record_36 : Dc mi_His_record 36 (.iconst 4) 1 37 := ⟨by decide +kernel, rfl⟩
theorem dd_His_record_37 : Dc mi_His_record 37 (.irem) 1 38 := ⟨by decide +kernel, rfl⟩
theorem dd_His_record_38 : Dc mi_His_record 38 (.putfield 22) 3 41 := ⟨by decide +kernel, rfl⟩
theorem dd_His_record_41 : Dc mi_His_record 41 (.aload_n 0) 1 42 := ⟨by decide +kernel, rfl⟩
theorem dd_His_record_42 : Dc mi_His_record 42 (.aload_n 0) 1 43 := ⟨by decide +kernel, rfl⟩
theorem dd_His_record_43 : Dc mi_His_record 43 (.getfield 18) 3 46 := ⟨by decide +kernel, rfl⟩
theorem dd_His_record_46 : Dc mi_His_record 46 (.iconst 1) 1 47 := ⟨by decide +kernel, rfl⟩
theorem dd_His_record_47 : Dc mi_His_record 47 (.iadd) 1 48 := ⟨by decide +kernel, rfl⟩
theorem dd_His_record_48 : Dc mi_His_record 48 (.iconst 4) 1 49 := ⟨by decide +kernel, rfl⟩
theorem dd_His_record_49 : Dc mi_His_record 49 (.invokestatic 29) 3 52 := ⟨by decide +kernel, rfl⟩
theorem dd_His_record_52 : Dc mi_His_record 52 (.putfield 18) 3 55 := ⟨by decide +kernel, rfl⟩
theorem dd_His_record_55 : decode (mbc mi_His_record) 55 = .ok (retI (mrt mi_His_record), 1) := by decide +kernel
theorem dd_Poo_giveBack_0 : Dc mi_Poo_giveBack 0 (.aload_n 0) 1 1 := ⟨by decide +kernel, rfl⟩
theorem dd_Poo_giveBack_1 : Dc mi_Poo_giveBack 1 (.getfield 16) 3 4 := ⟨by decide +kernel, rfl⟩
theorem dd_Poo_giveBack_4 : Dc mi_Poo_giveBack 4 (.aload_n 0) 1 5 := ⟨by decide +kernel, rfl⟩
theorem dd_Poo_giveBack_5 : Dc mi_Poo_giveBack 5 (.getfield 10) 3 8 := ⟨by decide +kernel, rfl⟩
theorem dd_Poo_giveBack_8 : Dc mi_Poo_giveBack 8 (.invokevirtual 40) 3 11 := ⟨by decide +kernel, rfl⟩
theorem dd_Poo_giveBack_11 : Dc mi_Poo_giveBack 11 (.aload_n 0) 1 12 := ⟨by decide +kernel, rfl⟩
theorem dd_Poo_giveBack_12 : Dc mi_Poo_giveBack 12 (.aload_n 0) 1 13 := ⟨by decide +kernel, rfl⟩
theorem dd_Poo_giveBack_13 : Dc mi_Poo_giveBack 13 (.getfield 10) 3 16 := ⟨by decide +kernel, rfl⟩
theorem dd_Poo_giveBack_16 : Dc mi_Poo_giveBack 16 (.iload_n 1) 1 17 := ⟨by decide +kernel, rfl⟩
theorem dd_Poo_giveBack_17 : Dc mi_Poo_giveBack 17 (.iload_n 2) 1 18 := ⟨by decide +kernel, rfl⟩
theorem dd_Poo_giveBack_18 : Dc mi_Poo_giveBack 18 (.invokevirtual 59) 3 21 := ⟨by decide +kernel, rfl⟩
theorem dd_Poo_giveBack_21 : Dc mi_Poo_giveBack 21 (.invokevirtual 55) 3 24 := ⟨by decide +kernel, rfl⟩
theorem dd_Poo_giveBack_24 : decode (mbc mi_Poo_giveBack) 24 = .ok (retI (mrt mi_Poo_giveBack), 1) := by decide +kernel
theorem dd_Poo_write_0 : Dc mi_Poo_write 0 (.aload_n 0) 1 1 := ⟨by decide +kernel, rfl⟩
theorem dd_Poo_write_1 : Dc mi_Poo_write 1 (.getfield 16) 3 4 := ⟨by decide +kernel, rfl⟩
theorem dd_Poo_write_4 : Dc mi_Poo_write 4 (.aload_n 0) 1 5 := ⟨by decide +kernel, rfl⟩
theorem dd_Poo_write_5 : Dc mi_Poo_write 5 (.getfield 10) 3 8 := ⟨by decide +kernel, rfl⟩
theorem dd_Poo_write_8 : Dc mi_Poo_write 8 (.invokevirtual 40) 3 11 := ⟨by decide +kernel, rfl⟩
theorem dd_Poo_write_11 : Dc mi_Poo_write 11 (.aload_n 0) 1 12 := ⟨by decide +kernel, rfl⟩
theorem dd_Poo_write_12 : Dc mi_Poo_write 12 (.aload_n 0) 1 13 := ⟨by decide +kernel, rfl⟩
theorem dd_Poo_write_13 : Dc mi_Poo_write 13 (.getfield 10) 3 16 := ⟨by decide +kernel, rfl⟩
theorem dd_Poo_write_16 : Dc mi_Poo_write 16 (.iload_n 1) 1 17 := ⟨by decide +kernel, rfl⟩
theorem dd_Poo_write_17 : Dc mi_Poo_write 17 (.iload_n 2) 1 18 := ⟨by decide +kernel, rfl⟩
theorem dd_Poo_write_18 : Dc mi_Poo_write 18 (.iload_n 3) 1 19 := ⟨by decide +kernel, rfl⟩
theorem dd_Poo_write_19 : Dc mi_Poo_write 19 (.iload 4) 2 21 := ⟨by decide +kernel, rfl⟩
theorem dd_Poo_write_21 : Dc mi_Poo_write 21 (.invokevirtual 62) 3 24 := ⟨by decide +kernel, rfl⟩
theorem dd_Poo_write_24 : Dc mi_Poo_write 24 (.invokevirtual 55) 3 27 := ⟨by decide +kernel, rfl⟩
theorem dd_Poo_write_27 : decode (mbc mi_Poo_write) 27 = .ok (retI (mrt mi_Poo_write), 1) := by decide +kernel
theorem dd_Blk_wasAskedFor_0 : Dc mi_Blk_wasAskedFor 0 (.aload_n 0) 1 1 := ⟨by decide +kernel, rfl⟩
theorem dd_Blk_wasAskedFor_1 : Dc mi_Blk_wasAskedFor 1 (.invokevirtual 38) 3 4 := ⟨by decide +kernel, rfl⟩
theorem dd_Blk_wasAskedFor_4 : Db mi_Blk_wasAskedFor 4 (.ifCond .eq 23) 23 7 27 := ⟨by decide +kernel, rfl, rfl⟩
theorem dd_Blk_wasAskedFor_7 : Dc mi_Blk_wasAskedFor 7 (.iload_n 1) 1 8 := ⟨by decide +kernel, rfl⟩
theorem dd_Blk_wasAskedFor_8 : Dc mi_Blk_wasAskedFor 8 (.aload_n 0) 1 9 := ⟨by decide +kernel, rfl⟩
theorem dd_Blk_wasAskedFor_9 : Dc mi_Blk_wasAskedFor 9 (.getfield 9) 3 12 := ⟨by decide +kernel, rfl⟩
theorem dd_Blk_wasAskedFor_12 : Db mi_Blk_wasAskedFor 12 (.if_icmp .le 15) 15 15 27 := ⟨by decide +kernel, rfl, rfl⟩
theorem dd_Blk_wasAskedFor_15 : Dc mi_Blk_wasAskedFor 15 (.iload_n 1) 1 16 := ⟨by decide +kernel, rfl⟩
theorem dd_Blk_wasAskedFor_16 : Dc mi_Blk_wasAskedFor 16 (.aload_n 0) 1 17 := ⟨by decide +kernel, rfl⟩
theorem dd_Blk_wasAskedFor_17 : Dc mi_Blk_wasAskedFor 17 (.invokevirtual 42) 3 20 := ⟨by decide +kernel, rfl⟩
theorem dd_Blk_wasAskedFor_20 : Db mi_Blk_wasAskedFor 20 (.if_icmp .ge 7) 7 23 27 := ⟨by decide +kernel, rfl, rfl⟩
theorem dd_Blk_wasAskedFor_23 : Dc mi_Blk_wasAskedFor 23 (.iconst 1) 1 24 := ⟨by decide +kernel, rfl⟩
theorem dd_Blk_wasAskedFor_24 : Db mi_Blk_wasAskedFor 24 (.goto 4) 4 27 28 := ⟨by decide +kernel, rfl, rfl⟩
theorem dd_Blk_wasAskedFor_27 : Dc mi_Blk_wasAskedFor 27 (.iconst 0) 1 28 := ⟨by decide +kernel, rfl⟩
theorem dd_Blk_wasAskedFor_28 : decode (mbc mi_Blk_wasAskedFor) 28 = .ok (retI (mrt mi_Blk_wasAskedFor), 1) := by decide +kernel
theorem dd_Poo_touch_0 : Dc mi_Poo_touch 0 (.aload_n 0) 1 1 := ⟨by decide +kernel, rfl⟩
theorem dd_Poo_touch_1 : Dc mi_Poo_touch 1 (.getfield 16) 3 4 := ⟨by decide +kernel, rfl⟩
theorem dd_Poo_touch_4 : Dc mi_Poo_touch 4 (.aload_n 0) 1 5 := ⟨by decide +kernel, rfl⟩
theorem dd_Poo_touch_5 : Dc mi_Poo_touch 5 (.getfield 10) 3 8 := ⟨by decide +kernel, rfl⟩
theorem dd_Poo_touch_8 : Dc mi_Poo_touch 8 (.invokevirtual 40) 3 11 := ⟨by decide +kernel, rfl⟩
theorem dd_Poo_touch_11 : Dc mi_Poo_touch 11 (.aload_n 0) 1 12 := ⟨by decide +kernel, rfl⟩
theorem dd_Poo_touch_12 : Dc mi_Poo_touch 12 (.aload_n 0) 1 13 := ⟨by decide +kernel, rfl⟩
theorem dd_Poo_touch_13 : Dc mi_Poo_touch 13 (.getfield 10) 3 16 := ⟨by decide +kernel, rfl⟩
theorem dd_Poo_touch_16 : Dc mi_Poo_touch 16 (.iload_n 1) 1 17 := ⟨by decide +kernel, rfl⟩
theorem dd_Poo_touch_17 : Dc mi_Poo_touch 17 (.invokevirtual 66) 3 20 := ⟨by decide +kernel, rfl⟩
theorem dd_Poo_touch_20 : Dc mi_Poo_touch 20 (.invokevirtual 55) 3 23 := ⟨by decide +kernel, rfl⟩
theorem dd_Poo_touch_23 : decode (mbc mi_Poo_touch) 23 = .ok (retI (mrt mi_Poo_touch), 1) := by decide +kernel
theorem dd_Poo_live_0 : Dc mi_Poo_live 0 (.aload_n 0) 1 1 := ⟨by decide +kernel, rfl⟩
theorem dd_Poo_live_1 : Dc mi_Poo_live 1 (.getfield 16) 3 4 := ⟨by decide +kernel, rfl⟩
theorem dd_Poo_live_4 : Dc mi_Poo_live 4 (.aload_n 0) 1 5 := ⟨by decide +kernel, rfl⟩
theorem dd_Poo_live_5 : Dc mi_Poo_live 5 (.getfield 10) 3 8 := ⟨by decide +kernel, rfl⟩
theorem dd_Poo_live_8 : Dc mi_Poo_live 8 (.invokevirtual 40) 3 11 := ⟨by decide +kernel, rfl⟩
theorem dd_Poo_live_11 : Dc mi_Poo_live 11 (.aload_n 0) 1 12 := ⟨by decide +kernel, rfl⟩
theorem dd_Poo_live_12 : Dc mi_Poo_live 12 (.aload_n 0) 1 13 := ⟨by decide +kernel, rfl⟩
theorem dd_Poo_live_13 : Dc mi_Poo_live 13 (.getfield 10) 3 16 := ⟨by decide +kernel, rfl⟩
theorem dd_Poo_live_16 : Dc mi_Poo_live 16 (.iload_n 1) 1 17 := ⟨by decide +kernel, rfl⟩
theorem dd_Poo_live_17 : Dc mi_Poo_live 17 (.iload_n 2) 1 18 := ⟨by decide +kernel, rfl⟩
theorem dd_Poo_live_18 : Dc mi_Poo_live 18 (.invokevirtual 69) 3 21 := ⟨by decide +kernel, rfl⟩
theorem dd_Poo_live_21 : Dc mi_Poo_live 21 (.invokevirtual 55) 3 24 := ⟨by decide +kernel, rfl⟩
theorem dd_Poo_live_24 : decode (mbc mi_Poo_live) 24 = .ok (retI (mrt mi_Poo_live), 1) := by decide +kernel
theorem dd_Poo_setLimit_0 : Dc mi_Poo_setLimit 0 (.aload_n 0) 1 1 := ⟨by decide +kernel, rfl⟩
theorem dd_Poo_setLimit_1 : Dc mi_Poo_setLimit 1 (.getfield 16) 3 4 := ⟨by decide +kernel, rfl⟩
theorem dd_Poo_setLimit_4 : Dc mi_Poo_setLimit 4 (.aload_n 0) 1 5 := ⟨by decide +kernel, rfl⟩
theorem dd_Poo_setLimit_5 : Dc mi_Poo_setLimit 5 (.getfield 10) 3 8 := ⟨by decide +kernel, rfl⟩
theorem dd_Poo_setLimit_8 : Dc mi_Poo_setLimit 8 (.invokevirtual 40) 3 11 := ⟨by decide +kernel, rfl⟩
theorem dd_Poo_setLimit_11 : Dc mi_Poo_setLimit 11 (.aload_n 0) 1 12 := ⟨by decide +kernel, rfl⟩
theorem dd_Poo_setLimit_12 : Dc mi_Poo_setLimit 12 (.aload_n 0) 1 13 := ⟨by decide +kernel, rfl⟩
theorem dd_Poo_setLimit_13 : Dc mi_Poo_setLimit 13 (.getfield 10) 3 16 := ⟨by decide +kernel, rfl⟩
theorem dd_Poo_setLimit_16 : Dc mi_Poo_setLimit 16 (.iload_n 1) 1 17 := ⟨by decide +kernel, rfl⟩
theorem dd_Poo_setLimit_17 : Dc mi_Poo_setLimit 17 (.iload_n 2) 1 18 := ⟨by decide +kernel, rfl⟩
theorem dd_Poo_setLimit_18 : Dc mi_Poo_setLimit 18 (.invokevirtual 73) 3 21 := ⟨by decide +kernel, rfl⟩
theorem dd_Poo_setLimit_21 : Dc mi_Poo_setLimit 21 (.invokevirtual 55) 3 24 := ⟨by decide +kernel, rfl⟩
theorem dd_Poo_setLimit_24 : decode (mbc mi_Poo_setLimit) 24 = .ok (retI (mrt mi_Poo_setLimit), 1) := by decide +kernel
theorem dd_Poo_setPatience_0 : Dc mi_Poo_setPatience 0 (.aload_n 0) 1 1 := ⟨by decide +kernel, rfl⟩
theorem dd_Poo_setPatience_1 : Dc mi_Poo_setPatience 1 (.getfield 16) 3 4 := ⟨by decide +kernel, rfl⟩
theorem dd_Poo_setPatience_4 : Dc mi_Poo_setPatience 4 (.aload_n 0) 1 5 := ⟨by decide +kernel, rfl⟩
theorem dd_Poo_setPatience_5 : Dc mi_Poo_setPatience 5 (.getfield 10) 3 8 := ⟨by decide +kernel, rfl⟩
theorem dd_Poo_setPatience_8 : Dc mi_Poo_setPatience 8 (.invokevirtual 40) 3 11 := ⟨by decide +kernel, rfl⟩
theorem dd_Poo_setPatience_11 : Dc mi_Poo_setPatience 11 (.aload_n 0) 1 12 := ⟨by decide +kernel, rfl⟩
theorem dd_Poo_setPatience_12 : Dc mi_Poo_setPatience 12 (.aload_n 0) 1 13 := ⟨by decide +kernel, rfl⟩
theorem dd_Poo_setPatience_13 : Dc mi_Poo_setPatience 13 (.getfield 10) 3 16 := ⟨by decide +kernel, rfl⟩
theorem dd_Poo_setPatience_16 : Dc mi_Poo_setPatience 16 (.iload_n 1) 1 17 := ⟨by decide +kernel, rfl⟩
theorem dd_Poo_setPatience_17 : Dc mi_Poo_setPatience 17 (.invokevirtual 76) 3 20 := ⟨by decide +kernel, rfl⟩
theorem dd_Poo_setPatience_20 : Dc mi_Poo_setPatience 20 (.invokevirtual 55) 3 23 := ⟨by decide +kernel, rfl⟩
theorem dd_Poo_setPatience_23 : decode (mbc mi_Poo_setPatience) 23 = .ok (retI (mrt mi_Poo_setPatience), 1) := by decide +kernel
theorem dd_Poo_sweep_0 : Dc mi_Poo_sweep 0 (.aload_n 0) 1 1 := ⟨by decide +kernel, rfl⟩
theorem dd_Poo_sweep_1 : Dc mi_Poo_sweep 1 (.getfield 16) 3 4 := ⟨by decide +kernel, rfl⟩
theorem dd_Poo_sweep_4 : Dc mi_Poo_sweep 4 (.aload_n 0) 1 5 := ⟨by decide +kernel, rfl⟩
theorem dd_Poo_sweep_5 : Dc mi_Poo_sweep 5 (.getfield 10) 3 8 := ⟨by decide +kernel, rfl⟩
theorem dd_Poo_sweep_8 : Dc mi_Poo_sweep 8 (.invokevirtual 40) 3 11 := ⟨by decide +kernel, rfl⟩
theorem dd_Poo_sweep_11 : Dc mi_Poo_sweep 11 (.aload_n 0) 1 12 := ⟨by decide +kernel, rfl⟩
theorem dd_Poo_sweep_12 : Dc mi_Poo_sweep 12 (.aload_n 0) 1 13 := ⟨by decide +kernel, rfl⟩
theorem dd_Poo_sweep_13 : Dc mi_Poo_sweep 13 (.getfield 10) 3 16 := ⟨by decide +kernel, rfl⟩
theorem dd_Poo_sweep_16 : Dc mi_Poo_sweep 16 (.invokevirtual 82) 3 19 := ⟨by decide +kernel, rfl⟩
theorem dd_Poo_sweep_19 : Dc mi_Poo_sweep 19 (.invokevirtual 55) 3 22 := ⟨by decide +kernel, rfl⟩
theorem dd_Poo_sweep_22 : decode (mbc mi_Poo_sweep) 22 = .ok (retI (mrt mi_Poo_sweep), 1) := by decide +kernel
theorem dd_Poo_pass_0 : Dc mi_Poo_pass 0 (.aload_n 0) 1 1 := ⟨by decide +kernel, rfl⟩
theorem dd_Poo_pass_1 : Dc mi_Poo_pass 1 (.getfield 16) 3 4 := ⟨by decide +kernel, rfl⟩
theorem dd_Poo_pass_4 : Dc mi_Poo_pass 4 (.aload_n 0) 1 5 := ⟨by decide +kernel, rfl⟩
theorem dd_Poo_pass_5 : Dc mi_Poo_pass 5 (.getfield 10) 3 8 := ⟨by decide +kernel, rfl⟩
theorem dd_Poo_pass_8 : Dc mi_Poo_pass 8 (.invokevirtual 40) 3 11 := ⟨by decide +kernel, rfl⟩
theorem dd_Poo_pass_11 : Dc mi_Poo_pass 11 (.aload_n 0) 1 12 := ⟨by decide +kernel, rfl⟩
theorem dd_Poo_pass_12 : Dc mi_Poo_pass 12 (.aload_n 0) 1 13 := ⟨by decide +kernel, rfl⟩
theorem dd_Poo_pass_13 : Dc mi_Poo_pass 13 (.getfield 10) 3 16 := ⟨by decide +kernel, rfl⟩
theorem dd_Poo_pass_16 : Dc mi_Poo_pass 16 (.iload_n 1) 1 17 := ⟨by decide +kernel, rfl⟩
theorem dd_Poo_pass_17 : Dc mi_Poo_pass 17 (.invokevirtual 79) 3 20 := ⟨by decide +kernel, rfl⟩
theorem dd_Poo_pass_20 : Dc mi_Poo_pass 20 (.invokevirtual 55) 3 23 := ⟨by decide +kernel, rfl⟩
theorem dd_Poo_pass_23 : decode (mbc mi_Poo_pass) 23 = .ok (retI (mrt mi_Poo_pass), 1) := by decide +kernel
theorem dd_Poo_task_0 : Dc mi_Poo_task 0 (.aload_n 0) 1 1 := ⟨by decide +kernel, rfl⟩
theorem dd_Poo_task_1 : Dc mi_Poo_task 1 (.getfield 10) 3 4 := ⟨by decide +kernel, rfl⟩
theorem dd_Poo_task_4 : Dc mi_Poo_task 4 (.iload_n 1) 1 5 := ⟨by decide +kernel, rfl⟩
theorem dd_Poo_task_5 : Dc mi_Poo_task 5 (.iload_n 2) 1 6 := ⟨by decide +kernel, rfl⟩
theorem dd_Poo_task_6 : Dc mi_Poo_task 6 (.invokevirtual 142) 3 9 := ⟨by decide +kernel, rfl⟩
theorem dd_Poo_task_9 : decode (mbc mi_Poo_task) 9 = .ok (retI (mrt mi_Poo_task), 1) := by decide +kernel
theorem dd_Poo_greatest_0 : Dc mi_Poo_greatest 0 (.aload_n 0) 1 1 := ⟨by decide +kernel, rfl⟩
theorem dd_Poo_greatest_1 : Dc mi_Poo_greatest 1 (.getfield 10) 3 4 := ⟨by decide +kernel, rfl⟩
theorem dd_Poo_greatest_4 : Dc mi_Poo_greatest 4 (.iload_n 1) 1 5 := ⟨by decide +kernel, rfl⟩
theorem dd_Poo_greatest_5 : Dc mi_Poo_greatest 5 (.invokevirtual 145) 3 8 := ⟨by decide +kernel, rfl⟩
theorem dd_Poo_greatest_8 : decode (mbc mi_Poo_greatest) 8 = .ok (retI (mrt mi_Poo_greatest), 1) := by decide +kernel
theorem dd_Poo_reason_0 : Dc mi_Poo_reason 0 (.aload_n 0) 1 1 := ⟨by decide +kernel, rfl⟩
theorem dd_Poo_reason_1 : Dc mi_Poo_reason 1 (.getfield 10) 3 4 := ⟨by decide +kernel, rfl⟩
theorem dd_Poo_reason_4 : Dc mi_Poo_reason 4 (.iload_n 1) 1 5 := ⟨by decide +kernel, rfl⟩
theorem dd_Poo_reason_5 : Dc mi_Poo_reason 5 (.iload_n 2) 1 6 := ⟨by decide +kernel, rfl⟩
theorem dd_Poo_reason_6 : Dc mi_Poo_reason 6 (.invokevirtual 48) 3 9 := ⟨by decide +kernel, rfl⟩
theorem dd_Poo_reason_9 : decode (mbc mi_Poo_reason) 9 = .ok (retI (mrt mi_Poo_reason), 1) := by decide +kernel
theorem dd_Poo_size_0 : Dc mi_Poo_size 0 (.aload_n 0) 1 1 := ⟨by decide +kernel, rfl⟩
theorem dd_Poo_size_1 : Dc mi_Poo_size 1 (.getfield 10) 3 4 := ⟨by decide +kernel, rfl⟩
theorem dd_Poo_size_4 : Dc mi_Poo_size 4 (.iload_n 1) 1 5 := ⟨by decide +kernel, rfl⟩
theorem dd_Poo_size_5 : Dc mi_Poo_size 5 (.iload_n 2) 1 6 := ⟨by decide +kernel, rfl⟩
theorem dd_Poo_size_6 : Dc mi_Poo_size 6 (.invokevirtual 151) 3 9 := ⟨by decide +kernel, rfl⟩
theorem dd_Poo_size_9 : decode (mbc mi_Poo_size) 9 = .ok (retI (mrt mi_Poo_size), 1) := by decide +kernel
theorem dd_Poo_leak_0 : Dc mi_Poo_leak 0 (.aload_n 0) 1 1 := ⟨by decide +kernel, rfl⟩
theorem dd_Poo_leak_1 : Dc mi_Poo_leak 1 (.getfield 10) 3 4 := ⟨by decide +kernel, rfl⟩
theorem dd_Poo_leak_4 : Dc mi_Poo_leak 4 (.iload_n 1) 1 5 := ⟨by decide +kernel, rfl⟩
theorem dd_Poo_leak_5 : Dc mi_Poo_leak 5 (.invokevirtual 148) 3 8 := ⟨by decide +kernel, rfl⟩
theorem dd_Poo_leak_8 : decode (mbc mi_Poo_leak) 8 = .ok (retI (mrt mi_Poo_leak), 1) := by decide +kernel
theorem dd_Poo_refused_0 : Dc mi_Poo_refused 0 (.iload_n 1) 1 1 := ⟨by decide +kernel, rfl⟩
theorem dd_Poo_refused_1 : Dc mi_Poo_refused 1 (.iconst 1) 1 2 := ⟨by decide +kernel, rfl⟩
theorem dd_Poo_refused_2 : Db mi_Poo_refused 2 (.if_icmp .lt 8) 8 5 10 := ⟨by decide +kernel, rfl, rfl⟩
theorem dd_Poo_refused_5 : Dc mi_Poo_refused 5 (.iload_n 1) 1 6 := ⟨by decide +kernel, rfl⟩
theorem dd_Poo_refused_6 : Dc mi_Poo_refused 6 (.iconst 3) 1 7 := ⟨by decide +kernel, rfl⟩
theorem dd_Poo_refused_7 : Db mi_Poo_refused 7 (.if_icmp .le 6) 6 10 13 := ⟨by decide +kernel, rfl, rfl⟩
theorem dd_Poo_refused_10 : Dc mi_Poo_refused 10 (.bipush (-2)) 2 12 := ⟨by decide +kernel, rfl⟩
theorem dd_Poo_refused_12 : decode (mbc mi_Poo_refused) 12 = .ok (retI (mrt mi_Poo_refused), 1) := by decide +kernel
theorem dd_Poo_refused_13 : Dc mi_Poo_refused 13 (.aload_n 0) 1 14 := ⟨by decide +kernel, rfl⟩
theorem dd_Poo_refused_14 : Dc mi_Poo_refused 14 (.getfield 36) 3 17 := ⟨by decide +kernel, rfl⟩
theorem dd_Poo_refused_17 : Dc mi_Poo_refused 17 (.iload_n 1) 1 18 := ⟨by decide +kernel, rfl⟩
theorem dd_Poo_refused_18 : Dc mi_Poo_refused 18 (.iconst 1) 1 19 := ⟨by decide +kernel, rfl⟩
theorem dd_Poo_refused_19 : Dc mi_Poo_refused 19 (.isub) 1 20 := ⟨by decide +kernel, rfl⟩
theorem dd_Poo_refused_20 : Dc mi_Poo_refused 20 (.iaload) 1 21 := ⟨by decide +kernel, rfl⟩
theorem dd_Poo_refused_21 : decode (mbc mi_Poo_refused) 21 = .ok (retI (mrt mi_Poo_refused), 1) := by decide +kernel
theorem dd_Poo_undo_0 : Dc mi_Poo_undo 0 (.aload_n 0) 1 1 := ⟨by decide +kernel, rfl⟩
theorem dd_Poo_undo_1 : Dc mi_Poo_undo 1 (.getfield 25) 3 4 := ⟨by decide +kernel, rfl⟩
theorem dd_Poo_undo_4 : Dc mi_Poo_undo 4 (.aload_n 0) 1 5 := ⟨by decide +kernel, rfl⟩
theorem dd_Poo_undo_5 : Dc mi_Poo_undo 5 (.getfield 10) 3 8 := ⟨by decide +kernel, rfl⟩
theorem dd_Poo_undo_8 : Dc mi_Poo_undo 8 (.invokevirtual 126) 3 11 := ⟨by decide +kernel, rfl⟩
theorem dd_Poo_undo_11 : decode (mbc mi_Poo_undo) 11 = .ok (retI (mrt mi_Poo_undo), 1) := by decide +kernel
theorem dd_His_takeLatest_0 : Dc mi_His_takeLatest 0 (.aload_n 0) 1 1 := ⟨by decide +kernel, rfl⟩
theorem dd_His_takeLatest_1 : Dc mi_His_takeLatest 1 (.getfield 22) 3 4 := ⟨by decide +kernel, rfl⟩
theorem dd_His_takeLatest_4 : Db mi_His_takeLatest 4 (.ifCond .ne 7) 7 7 11 := ⟨by decide +kernel, rfl, rfl⟩
theorem dd_His_takeLatest_7 : Dc mi_His_takeLatest 7 (.iconst 3) 1 8 := ⟨by decide +kernel, rfl⟩
theorem dd_His_takeLatest_8 : Db mi_His_takeLatest 8 (.goto 9) 9 11 17 := ⟨by decide +kernel, rfl, rfl⟩
theorem dd_His_takeLatest_11 : Dc mi_His_takeLatest 11 (.aload_n 0) 1 12 := ⟨by decide +kernel, rfl⟩
theorem dd_His_takeLatest_12 : Dc mi_His_takeLatest 12 (.getfield 22) 3 15 := ⟨by decide +kernel, rfl⟩
theorem dd_His_takeLatest_15 : Dc mi_His_takeLatest 15 (.iconst 1) 1 16 := ⟨by decide +kernel, rfl⟩
theorem dd_His_takeLatest_16 : Dc mi_His_takeLatest 16 (.isub) 1 17 := ⟨by decide +kernel, rfl⟩
theorem dd_His_takeLatest_17 : Dc mi_His_takeLatest 17 (.istore_n 2) 1 18 := ⟨by decide +kernel, rfl⟩
theorem dd_His_takeLatest_18 : Dc mi_His_takeLatest 18 (.aload_n 0) 1 19 := ⟨by decide +kernel, rfl⟩
theorem dd_His_takeLatest_19 : Dc mi_His_takeLatest 19 (.getfield 18) 3 22 := ⟨by decide +kernel, rfl⟩
theorem dd_His_takeLatest_22 : Db mi_His_takeLatest 22 (.ifCond .eq 12) 12 25 34 := ⟨by decide +kernel, rfl, rfl⟩
theorem dd_His_takeLatest_25 : Dc mi_His_takeLatest 25 (.iload_n 2) 1 26 := ⟨by decide +kernel, rfl⟩
theorem dd_His_takeLatest_26 : Db mi_His_takeLatest 26 (.ifCond .lt 8) 8 29 34 := ⟨by decide +kernel, rfl, rfl⟩
theorem dd_His_takeLatest_29 : Dc mi_His_takeLatest 29 (.iload_n 2) 1 30 := ⟨by decide +kernel, rfl⟩
theorem dd_His_takeLatest_30 : Dc mi_His_takeLatest 30 (.iconst 4) 1 31 := ⟨by decide +kernel, rfl⟩
theorem dd_His_takeLatest_31 : Db mi_His_takeLatest 31 (.if_icmp .lt 6) 6 34 37 := ⟨by decide +kernel, rfl, rfl⟩
theorem dd_His_takeLatest_34 : Dc mi_His_takeLatest 34 (.bipush (-5)) 2 36 := ⟨by decide +kernel, rfl⟩
theorem dd_His_takeLatest_36 : decode (mbc mi_His_takeLatest) 36 = .ok (retI (mrt mi_His_takeLatest), 1) := by decide +kernel
theorem dd_His_takeLatest_37 : Dc mi_His_takeLatest 37 (.aload_n 1) 1 38 := ⟨by decide +kernel, rfl⟩
theorem dd_His_takeLatest_38 : Dc mi_His_takeLatest 38 (.aload_n 0) 1 39 := ⟨by decide +kernel, rfl⟩
theorem dd_His_takeLatest_39 : Dc mi_His_takeLatest 39 (.getfield 11) 3 42 := ⟨by decide +kernel, rfl⟩
theorem dd_His_takeLatest_42 : Dc mi_His_takeLatest 42 (.iload_n 2) 1 43 := ⟨by decide +kernel, rfl⟩
theorem dd_His_takeLatest_43 : Dc mi_His_takeLatest 43 (.aaload) 1 44 := ⟨by decide +kernel, rfl⟩
theorem dd_His_takeLatest_44 : Dc mi_His_takeLatest 44 (.invokevirtual 25) 3 47 := ⟨by decide +kernel, rfl⟩
theorem dd_His_takeLatest_47 : Dc mi_His_takeLatest 47 (.aload_n 0) 1 48 := ⟨by decide +kernel, rfl⟩
theorem dd_His_takeLatest_48 : Dc mi_His_takeLatest 48 (.iload_n 2) 1 49 := ⟨by decide +kernel, rfl⟩
theorem dd_His_takeLatest_49 : Dc mi_His_takeLatest 49 (.putfield 22) 3 52 := ⟨by decide +kernel, rfl⟩
theorem dd_His_takeLatest_52 : Dc mi_His_takeLatest 52 (.aload_n 0) 1 53 := ⟨by decide +kernel, rfl⟩
theorem dd_His_takeLatest_53 : Dc mi_His_takeLatest 53 (.dup) 1 54 := ⟨by decide +kernel, rfl⟩
theorem dd_His_takeLatest_54 : Dc mi_His_takeLatest 54 (.getfield 18) 3 57 := ⟨by decide +kernel, rfl⟩
theorem dd_His_takeLatest_57 : Dc mi_His_takeLatest 57 (.iconst 1) 1 58 := ⟨by decide +kernel, rfl⟩
theorem dd_His_takeLatest_58 : Dc mi_His_takeLatest 58 (.isub) 1 59 := ⟨by decide +kernel, rfl⟩
theorem dd_His_takeLatest_59 : Dc mi_His_takeLatest 59 (.putfield 18) 3 62 := ⟨by decide +kernel, rfl⟩
theorem dd_His_takeLatest_62 : Dc mi_His_takeLatest 62 (.aload_n 0) 1 63 := ⟨by decide +kernel, rfl⟩
theorem dd_His_takeLatest_63 : Dc mi_His_takeLatest 63 (.getfield 18) 3 66 := ⟨by decide +kernel, rfl⟩
theorem dd_His_takeLatest_66 : decode (mbc mi_His_takeLatest) 66 = .ok (retI (mrt mi_His_takeLatest), 1) := by decide +kernel
end
section
/-! decode rows, printed by wip/p28/gen_dec.py -/
theorem dd_Sta_init_0 : Dc mi_Sta_init 0 (.aload_n 0) 1 1 := ⟨by decide +kernel, rfl⟩
theorem dd_Sta_init_1 : Dc mi_Sta_init 1 (.invokespecial 3) 3 4 := ⟨by decide +kernel, rfl⟩
theorem dd_Sta_init_4 : Dc mi_Sta_init 4 (.aload_n 0) 1 5 := ⟨by decide +kernel, rfl⟩
theorem dd_Sta_init_5 : Dc mi_Sta_init 5 (.bipush 16) 2 7 := ⟨by decide +kernel, rfl⟩
theorem dd_Sta_init_7 : Dc mi_Sta_init 7 (.anewarray 9) 3 10 := ⟨by decide +kernel, rfl⟩
theorem dd_Sta_init_10 : Dc mi_Sta_init 10 (.putfield 11) 3 13 := ⟨by decide +kernel, rfl⟩
theorem dd_Sta_init_13 : Dc mi_Sta_init 13 (.iconst 0) 1 14 := ⟨by decide +kernel, rfl⟩
theorem dd_Sta_init_14 : Dc mi_Sta_init 14 (.istore_n 1) 1 15 := ⟨by decide +kernel, rfl⟩
theorem dd_Sta_init_15 : Dc mi_Sta_init 15 (.iload_n 1) 1 16 := ⟨by decide +kernel, rfl⟩
theorem dd_Sta_init_16 : Dc mi_Sta_init 16 (.bipush 16) 2 18 := ⟨by decide +kernel, rfl⟩
theorem dd_Sta_init_18 : Db mi_Sta_init 18 (.if_icmp .ge 39) 39 21 57 := ⟨by decide +kernel, rfl, rfl⟩
theorem dd_Sta_init_21 : Dc mi_Sta_init 21 (.iload_n 1) 1 22 := ⟨by decide +kernel, rfl⟩
theorem dd_Sta_init_22 : Dc mi_Sta_init 22 (.iconst 4) 1 23 := ⟨by decide +kernel, rfl⟩
theorem dd_Sta_init_23 : Dc mi_Sta_init 23 (.imul) 1 24 := ⟨by decide +kernel, rfl⟩
theorem dd_Sta_init_24 : Dc mi_Sta_init 24 (.istore_n 2) 1 25 := ⟨by decide +kernel, rfl⟩
theorem dd_Sta_init_25 : Dc mi_Sta_init 25 (.aload_n 0) 1 26 := ⟨by decide +kernel, rfl⟩
theorem dd_Sta_init_26 : Dc mi_Sta_init 26 (.getfield 11) 3 29 := ⟨by decide +kernel, rfl⟩
theorem dd_Sta_init_29 : Dc mi_Sta_init 29 (.iload_n 1) 1 30 := ⟨by decide +kernel, rfl⟩
theorem dd_Sta_init_30 : Dc mi_Sta_init 30 (.new 9) 3 33 := ⟨by decide +kernel, rfl⟩
theorem dd_Sta_init_33 : Dc mi_Sta_init 33 (.dup) 1 34 := ⟨by decide +kernel, rfl⟩
theorem dd_Sta_init_34 : Dc mi_Sta_init 34 (.iload_n 2) 1 35 := ⟨by decide +kernel, rfl⟩
theorem dd_Sta_init_35 : Dc mi_Sta_init 35 (.iload_n 2) 1 36 := ⟨by decide +kernel, rfl⟩
theorem dd_Sta_init_36 : Dc mi_Sta_init 36 (.bipush 16) 2 38 := ⟨by decide +kernel, rfl⟩
theorem dd_Sta_init_38 : Dc mi_Sta_init 38 (.irem) 1 39 := ⟨by decide +kernel, rfl⟩
theorem dd_Sta_init_39 : Db mi_Sta_init 39 (.ifCond .ne 7) 7 42 46 := ⟨by decide +kernel, rfl, rfl⟩
theorem dd_Sta_init_42 : Dc mi_Sta_init 42 (.iconst 2) 1 43 := ⟨by decide +kernel, rfl⟩
theorem dd_Sta_init_43 : Db mi_Sta_init 43 (.goto 4) 4 46 47 := ⟨by decide +kernel, rfl, rfl⟩
theorem dd_Sta_init_46 : Dc mi_Sta_init 46 (.iconst (-1)) 1 47 := ⟨by decide +kernel, rfl⟩
theorem dd_Sta_init_47 : Dc mi_Sta_init 47 (.invokespecial 17) 3 50 := ⟨by decide +kernel, rfl⟩
theorem dd_Sta_init_50 : Dc mi_Sta_init 50 (.aastore) 1 51 := ⟨by decide +kernel, rfl⟩
theorem dd_Sta_init_51 : Dc mi_Sta_init 51 (.iinc 1 1) 3 54 := ⟨by decide +kernel, rfl⟩
theorem dd_Sta_init_54 : Db mi_Sta_init 54 (.goto (-39)) (-39) 57 15 := ⟨by decide +kernel, rfl, rfl⟩
theorem dd_Sta_init_57 : Dc mi_Sta_init 57 (.aload_n 0) 1 58 := ⟨by decide +kernel, rfl⟩
theorem dd_Sta_init_58 : Dc mi_Sta_init 58 (.bipush 64) 2 60 := ⟨by decide +kernel, rfl⟩
theorem dd_Sta_init_60 : Dc mi_Sta_init 60 (.newarray .int) 2 62 := ⟨by decide +kernel, rfl⟩
theorem dd_Sta_init_62 : Dc mi_Sta_init 62 (.putfield 20) 3 65 := ⟨by decide +kernel, rfl⟩
theorem dd_Sta_init_65 : Dc mi_Sta_init 65 (.aload_n 0) 1 66 := ⟨by decide +kernel, rfl⟩
theorem dd_Sta_init_66 : Dc mi_Sta_init 66 (.bipush 6) 2 68 := ⟨by decide +kernel, rfl⟩
theorem dd_Sta_init_68 : Dc mi_Sta_init 68 (.anewarray 24) 3 71 := ⟨by decide +kernel, rfl⟩
theorem dd_Sta_init_71 : Dc mi_Sta_init 71 (.putfield 26) 3 74 := ⟨by decide +kernel, rfl⟩
theorem dd_Sta_init_74 : Dc mi_Sta_init 74 (.iconst 0) 1 75 := ⟨by decide +kernel, rfl⟩
theorem dd_Sta_init_75 : Dc mi_Sta_init 75 (.istore_n 1) 1 76 := ⟨by decide +kernel, rfl⟩
theorem dd_Sta_init_76 : Dc mi_Sta_init 76 (.iload_n 1) 1 77 := ⟨by decide +kernel, rfl⟩
theorem dd_Sta_init_77 : Dc mi_Sta_init 77 (.bipush 6) 2 79 := ⟨by decide +kernel, rfl⟩
theorem dd_Sta_init_79 : Db mi_Sta_init 79 (.if_icmp .ge 22) 22 82 101 := ⟨by decide +kernel, rfl, rfl⟩
theorem dd_Sta_init_82 : Dc mi_Sta_init 82 (.aload_n 0) 1 83 := ⟨by decide +kernel, rfl⟩
theorem dd_Sta_init_83 : Dc mi_Sta_init 83 (.getfield 26) 3 86 := ⟨by decide +kernel, rfl⟩
theorem dd_Sta_init_86 : Dc mi_Sta_init 86 (.iload_n 1) 1 87 := ⟨by decide +kernel, rfl⟩
theorem dd_Sta_init_87 : Dc mi_Sta_init 87 (.new 24) 3 90 := ⟨by decide +kernel, rfl⟩
theorem dd_Sta_init_90 : Dc mi_Sta_init 90 (.dup) 1 91 := ⟨by decide +kernel, rfl⟩
theorem dd_Sta_init_91 : Dc mi_Sta_init 91 (.invokespecial 30) 3 94 := ⟨by decide +kernel, rfl⟩
theorem dd_Sta_init_94 : Dc mi_Sta_init 94 (.aastore) 1 95 := ⟨by decide +kernel, rfl⟩
theorem dd_Sta_init_95 : Dc mi_Sta_init 95 (.iinc 1 1) 3 98 := ⟨by decide +kernel, rfl⟩
theorem dd_Sta_init_98 : Db mi_Sta_init 98 (.goto (-22)) (-22) 101 76 := ⟨by decide +kernel, rfl, rfl⟩
theorem dd_Sta_init_101 : Dc mi_Sta_init 101 (.aload_n 0) 1 102 := ⟨by decide +kernel, rfl⟩
theorem dd_Sta_init_102 : Dc mi_Sta_init 102 (.bipush 50) 2 104 := ⟨by decide +kernel, rfl⟩
theorem dd_Sta_init_104 : Dc mi_Sta_init 104 (.putfield 31) 3 107 := ⟨by decide +kernel, rfl⟩
theorem dd_Sta_init_107 : decode (mbc mi_Sta_init) 107 = .ok (retI (mrt mi_Sta_init), 1) := by decide +kernel
theorem dd_Sta_tellCount_0 : Dc mi_Sta_tellCount 0 (.iload_n 1) 1 1 := ⟨by decide +kernel, rfl⟩
theorem dd_Sta_tellCount_1 : decode (mbc mi_Sta_tellCount) 1 = .ok (.tableswitch 113 0 9 #[55, 60, 68, 78, 83, 88, 93, 98, 103, 108], 55) := by decide +kernel
theorem dd_Sta_tellCount_56 : Dc mi_Sta_tellCount 56 (.aload_n 0) 1 57 := ⟨by decide +kernel, rfl⟩
theorem dd_Sta_tellCount_57 : Dc mi_Sta_tellCount 57 (.invokevirtual 196) 3 60 := ⟨by decide +kernel, rfl⟩
theorem dd_Sta_tellCount_60 : decode (mbc mi_Sta_tellCount) 60 = .ok (retI (mrt mi_Sta_tellCount), 1) := by decide +kernel
theorem dd_Sta_tellCount_61 : Dc mi_Sta_tellCount 61 (.bipush 64) 2 63 := ⟨by decide +kernel, rfl⟩
theorem dd_Sta_tellCount_63 : Dc mi_Sta_tellCount 63 (.aload_n 0) 1 64 := ⟨by decide +kernel, rfl⟩
theorem dd_Sta_tellCount_64 : Dc mi_Sta_tellCount 64 (.invokevirtual 199) 3 67 := ⟨by decide +kernel, rfl⟩
theorem dd_Sta_tellCount_67 : Dc mi_Sta_tellCount 67 (.isub) 1 68 := ⟨by decide +kernel, rfl⟩
theorem dd_Sta_tellCount_68 : decode (mbc mi_Sta_tellCount) 68 = .ok (retI (mrt mi_Sta_tellCount), 1) := by decide +kernel
theorem dd_Sta_tellCount_69 : Dc mi_Sta_tellCount 69 (.aload_n 0) 1 70 := ⟨by decide +kernel, rfl⟩
theorem dd_Sta_tellCount_70 : Dc mi_Sta_tellCount 70 (.invokevirtual 199) 3 73 := ⟨by decide +kernel, rfl⟩
theorem dd_Sta_tellCount_73 : Dc mi_Sta_tellCount 73 (.aload_n 0) 1 74 := ⟨by decide +kernel, rfl⟩
theorem dd_Sta_tellCount_74 : Dc mi_Sta_tellCount 74 (.invokevirtual 202) 3 77 := ⟨by decide +kernel, rfl⟩
theorem dd_Sta_tellCount_77 : Dc mi_Sta_tellCount 77 (.isub) 1 78 := ⟨by decide +kernel, rfl⟩
theorem dd_Sta_tellCount_78 : decode (mbc mi_Sta_tellCount) 78 = .ok (retI (mrt mi_Sta_tellCount), 1) := by decide +kernel
theorem dd_Sta_tellCount_79 : Dc mi_Sta_tellCount 79 (.aload_n 0) 1 80 := ⟨by decide +kernel, rfl⟩
theorem dd_Sta_tellCount_80 : Dc mi_Sta_tellCount 80 (.invokevirtual 130) 3 83 := ⟨by decide +kernel, rfl⟩
theorem dd_Sta_tellCount_83 : decode (mbc mi_Sta_tellCount) 83 = .ok (retI (mrt mi_Sta_tellCount), 1) := by decide +kernel
theorem dd_Sta_tellCount_84 : Dc mi_Sta_tellCount 84 (.aload_n 0) 1 85 := ⟨by decide +kernel, rfl⟩
theorem dd_Sta_tellCount_85 : Dc mi_Sta_tellCount 85 (.getfield 48) 3 88 := ⟨by decide +kernel, rfl⟩
theorem dd_Sta_tellCount_88 : decode (mbc mi_Sta_tellCount) 88 = .ok (retI (mrt mi_Sta_tellCount), 1) := by decide +kernel
theorem dd_Sta_tellCount_89 : Dc mi_Sta_tellCount 89 (.aload_n 0) 1 90 := ⟨by decide +kernel, rfl⟩
theorem dd_Sta_tellCount_90 : Dc mi_Sta_tellCount 90 (.getfield 54) 3 93 := ⟨by decide +kernel, rfl⟩
theorem dd_Sta_tellCount_93 : decode (mbc mi_Sta_tellCount) 93 = .ok (retI (mrt mi_Sta_tellCount), 1) := by decide +kernel
theorem dd_Sta_tellCount_94 : Dc mi_Sta_tellCount 94 (.aload_n 0) 1 95 := ⟨by decide +kernel, rfl⟩
theorem dd_Sta_tellCount_95 : Dc mi_Sta_tellCount 95 (.getfield 57) 3 98 := ⟨by decide +kernel, rfl⟩
theorem dd_Sta_tellCount_98 : decode (mbc mi_Sta_tellCount) 98 = .ok (retI (mrt mi_Sta_tellCount), 1) := by decide +kernel
theorem dd_Sta_tellCount_99 : Dc mi_Sta_tellCount 99 (.aload_n 0) 1 100 := ⟨by decide +kernel, rfl⟩
theorem dd_Sta_tellCount_100 : Dc mi_Sta_tellCount 100 (.getfield 60) 3 103 := ⟨by decide +kernel, rfl⟩
theorem dd_Sta_tellCount_103 : decode (mbc mi_Sta_tellCount) 103 = .ok (retI (mrt mi_Sta_tellCount), 1) := by decide +kernel
theorem dd_Sta_tellCount_104 : Dc mi_Sta_tellCount 104 (.aload_n 0) 1 105 := ⟨by decide +kernel, rfl⟩
theorem dd_Sta_tellCount_105 : Dc mi_Sta_tellCount 105 (.getfield 51) 3 108 := ⟨by decide +kernel, rfl⟩
theorem dd_Sta_tellCount_108 : decode (mbc mi_Sta_tellCount) 108 = .ok (retI (mrt mi_Sta_tellCount), 1) := by decide +kernel
theorem dd_Sta_tellCount_109 : Dc mi_Sta_tellCount 109 (.aload_n 0) 1 110 := ⟨by decide +kernel, rfl⟩
theorem dd_Sta_tellCount_110 : Dc mi_Sta_tellCount 110 (.getfield 31) 3 113 := ⟨by decide +kernel, rfl⟩
theorem dd_Sta_tellCount_113 : decode (mbc mi_Sta_tellCount) 113 = .ok (retI (mrt mi_Sta_tellCount), 1) := by decide +kernel
theorem dd_Sta_tellCount_114 : Dc mi_Sta_tellCount 114 (.bipush (-2)) 2 116 := ⟨by decide +kernel, rfl⟩
theorem dd_Sta_tellCount_116 : decode (mbc mi_Sta_tellCount) 116 = .ok (retI (mrt mi_Sta_tellCount), 1) := by decide +kernel
theorem dd_Sta_ownedBlocks_0 : Dc mi_Sta_ownedBlocks 0 (.iconst 0) 1 1 := ⟨by decide +kernel, rfl⟩
theorem dd_Sta_ownedBlocks_1 : Dc mi_Sta_ownedBlocks 1 (.istore_n 1) 1 2 := ⟨by decide +kernel, rfl⟩
theorem dd_Sta_ownedBlocks_2 : Dc mi_Sta_ownedBlocks 2 (.iconst 0) 1 3 := ⟨by decide +kernel, rfl⟩
theorem dd_Sta_ownedBlocks_3 : Dc mi_Sta_ownedBlocks 3 (.istore_n 2) 1 4 := ⟨by decide +kernel, rfl⟩
theorem dd_Sta_ownedBlocks_4 : Dc mi_Sta_ownedBlocks 4 (.iload_n 2) 1 5 := ⟨by decide +kernel, rfl⟩
theorem dd_Sta_ownedBlocks_5 : Dc mi_Sta_ownedBlocks 5 (.bipush 6) 2 7 := ⟨by decide +kernel, rfl⟩
theorem dd_Sta_ownedBlocks_7 : Db mi_Sta_ownedBlocks 7 (.if_icmp .ge 17) 17 10 24 := ⟨by decide +kernel, rfl, rfl⟩
theorem dd_Sta_ownedBlocks_10 : Dc mi_Sta_ownedBlocks 10 (.iload_n 1) 1 11 := ⟨by decide +kernel, rfl⟩
theorem dd_Sta_ownedBlocks_11 : Dc mi_Sta_ownedBlocks 11 (.aload_n 0) 1 12 := ⟨by decide +kernel, rfl⟩
theorem dd_Sta_ownedBlocks_12 : Dc mi_Sta_ownedBlocks 12 (.iload_n 2) 1 13 := ⟨by decide +kernel, rfl⟩
theorem dd_Sta_ownedBlocks_13 : Dc mi_Sta_ownedBlocks 13 (.invokevirtual 124) 3 16 := ⟨by decide +kernel, rfl⟩
theorem dd_Sta_ownedBlocks_16 : Dc mi_Sta_ownedBlocks 16 (.iadd) 1 17 := ⟨by decide +kernel, rfl⟩
theorem dd_Sta_ownedBlocks_17 : Dc mi_Sta_ownedBlocks 17 (.istore_n 1) 1 18 := ⟨by decide +kernel, rfl⟩
theorem dd_Sta_ownedBlocks_18 : Dc mi_Sta_ownedBlocks 18 (.iinc 2 1) 3 21 := ⟨by decide +kernel, rfl⟩
theorem dd_Sta_ownedBlocks_21 : Db mi_Sta_ownedBlocks 21 (.goto (-17)) (-17) 24 4 := ⟨by decide +kernel, rfl, rfl⟩
theorem dd_Sta_ownedBlocks_24 : Dc mi_Sta_ownedBlocks 24 (.iload_n 1) 1 25 := ⟨by decide +kernel, rfl⟩
theorem dd_Sta_ownedBlocks_25 : decode (mbc mi_Sta_ownedBlocks) 25 = .ok (retI (mrt mi_Sta_ownedBlocks), 1) := by decide +kernel
theorem dd_Sta_blocksOf_0 : Dc mi_Sta_blocksOf 0 (.iconst 0) 1 1 := ⟨by decide +kernel, rfl⟩
theorem dd_Sta_blocksOf_1 : Dc mi_Sta_blocksOf 1 (.istore_n 2) 1 2 := ⟨by decide +kernel, rfl⟩
theorem dd_Sta_blocksOf_2 : Dc mi_Sta_blocksOf 2 (.aload_n 0) 1 3 := ⟨by decide +kernel, rfl⟩
theorem dd_Sta_blocksOf_3 : Dc mi_Sta_blocksOf 3 (.getfield 11) 3 6 := ⟨by decide +kernel, rfl⟩
theorem dd_Sta_blocksOf_6 : Dc mi_Sta_blocksOf 6 (.astore_n 3) 1 7 := ⟨by decide +kernel, rfl⟩
theorem dd_Sta_blocksOf_7 : Dc mi_Sta_blocksOf 7 (.aload_n 3) 1 8 := ⟨by decide +kernel, rfl⟩
theorem dd_Sta_blocksOf_8 : Dc mi_Sta_blocksOf 8 (.arraylength) 1 9 := ⟨by decide +kernel, rfl⟩
theorem dd_Sta_blocksOf_9 : Dc mi_Sta_blocksOf 9 (.istore 4) 2 11 := ⟨by decide +kernel, rfl⟩
theorem dd_Sta_blocksOf_11 : Dc mi_Sta_blocksOf 11 (.iconst 0) 1 12 := ⟨by decide +kernel, rfl⟩
theorem dd_Sta_blocksOf_12 : Dc mi_Sta_blocksOf 12 (.istore 5) 2 14 := ⟨by decide +kernel, rfl⟩
theorem dd_Sta_blocksOf_14 : Dc mi_Sta_blocksOf 14 (.iload 5) 2 16 := ⟨by decide +kernel, rfl⟩
theorem dd_Sta_blocksOf_16 : Dc mi_Sta_blocksOf 16 (.iload 4) 2 18 := ⟨by decide +kernel, rfl⟩
theorem dd_Sta_blocksOf_18 : Db mi_Sta_blocksOf 18 (.if_icmp .ge 27) 27 21 45 := ⟨by decide +kernel, rfl, rfl⟩
theorem dd_Sta_blocksOf_21 : Dc mi_Sta_blocksOf 21 (.aload_n 3) 1 22 := ⟨by decide +kernel, rfl⟩
theorem dd_Sta_blocksOf_22 : Dc mi_Sta_blocksOf 22 (.iload 5) 2 24 := ⟨by decide +kernel, rfl⟩
theorem dd_Sta_blocksOf_24 : Dc mi_Sta_blocksOf 24 (.aaload) 1 25 := ⟨by decide +kernel, rfl⟩
theorem dd_Sta_blocksOf_25 : Dc mi_Sta_blocksOf 25 (.astore 6) 2 27 := ⟨by decide +kernel, rfl⟩
theorem dd_Sta_blocksOf_27 : Dc mi_Sta_blocksOf 27 (.aload 6) 2 29 := ⟨by decide +kernel, rfl⟩
theorem dd_Sta_blocksOf_29 : Dc mi_Sta_blocksOf 29 (.getfield 75) 3 32 := ⟨by decide +kernel, rfl⟩
theorem dd_Sta_blocksOf_32 : Dc mi_Sta_blocksOf 32 (.iload_n 1) 1 33 := ⟨by decide +kernel, rfl⟩
theorem dd_Sta_blocksOf_33 : Db mi_Sta_blocksOf 33 (.if_icmp .ne 6) 6 36 39 := ⟨by decide +kernel, rfl, rfl⟩
theorem dd_Sta_blocksOf_36 : Dc mi_Sta_blocksOf 36 (.iinc 2 1) 3 39 := ⟨by decide +kernel, rfl⟩
theorem dd_Sta_blocksOf_39 : Dc mi_Sta_blocksOf 39 (.iinc 5 1) 3 42 := ⟨by decide +kernel, rfl⟩
theorem dd_Sta_blocksOf_42 : Db mi_Sta_blocksOf 42 (.goto (-28)) (-28) 45 14 := ⟨by decide +kernel, rfl, rfl⟩
theorem dd_Sta_blocksOf_45 : Dc mi_Sta_blocksOf 45 (.iload_n 2) 1 46 := ⟨by decide +kernel, rfl⟩
theorem dd_Sta_blocksOf_46 : decode (mbc mi_Sta_blocksOf) 46 = .ok (retI (mrt mi_Sta_blocksOf), 1) := by decide +kernel
theorem dd_Sta_ownedWords_0 : Dc mi_Sta_ownedWords 0 (.iconst 0) 1 1 := ⟨by decide +kernel, rfl⟩
theorem dd_Sta_ownedWords_1 : Dc mi_Sta_ownedWords 1 (.istore_n 1) 1 2 := ⟨by decide +kernel, rfl⟩
theorem dd_Sta_ownedWords_2 : Dc mi_Sta_ownedWords 2 (.iconst 0) 1 3 := ⟨by decide +kernel, rfl⟩
theorem dd_Sta_ownedWords_3 : Dc mi_Sta_ownedWords 3 (.istore_n 2) 1 4 := ⟨by decide +kernel, rfl⟩
theorem dd_Sta_ownedWords_4 : Dc mi_Sta_ownedWords 4 (.iload_n 2) 1 5 := ⟨by decide +kernel, rfl⟩
theorem dd_Sta_ownedWords_5 : Dc mi_Sta_ownedWords 5 (.bipush 6) 2 7 := ⟨by decide +kernel, rfl⟩
theorem dd_Sta_ownedWords_7 : Db mi_Sta_ownedWords 7 (.if_icmp .ge 17) 17 10 24 := ⟨by decide +kernel, rfl, rfl⟩
theorem dd_Sta_ownedWords_10 : Dc mi_Sta_ownedWords 10 (.iload_n 1) 1 11 := ⟨by decide +kernel, rfl⟩
theorem dd_Sta_ownedWords_11 : Dc mi_Sta_ownedWords 11 (.aload_n 0) 1 12 := ⟨by decide +kernel, rfl⟩
theorem dd_Sta_ownedWords_12 : Dc mi_Sta_ownedWords 12 (.iload_n 2) 1 13 := ⟨by decide +kernel, rfl⟩
theorem dd_Sta_ownedWords_13 : Dc mi_Sta_ownedWords 13 (.invokevirtual 185) 3 16 := ⟨by decide +kernel, rfl⟩
theorem dd_Sta_ownedWords_16 : Dc mi_Sta_ownedWords 16 (.iadd) 1 17 := ⟨by decide +kernel, rfl⟩
theorem dd_Sta_ownedWords_17 : Dc mi_Sta_ownedWords 17 (.istore_n 1) 1 18 := ⟨by decide +kernel, rfl⟩
theorem dd_Sta_ownedWords_18 : Dc mi_Sta_ownedWords 18 (.iinc 2 1) 3 21 := ⟨by decide +kernel, rfl⟩
theorem dd_Sta_ownedWords_21 : Db mi_Sta_ownedWords 21 (.goto (-17)) (-17) 24 4 := ⟨by decide +kernel, rfl, rfl⟩
theorem dd_Sta_ownedWords_24 : Dc mi_Sta_ownedWords 24 (.iload_n 1) 1 25 := ⟨by decide +kernel, rfl⟩
theorem dd_Sta_ownedWords_25 : decode (mbc mi_Sta_ownedWords) 25 = .ok (retI (mrt mi_Sta_ownedWords), 1) := by decide +kernel
theorem dd_Sta_wordsOf_0 : Dc mi_Sta_wordsOf 0 (.iconst 0) 1 1 := ⟨by decide +kernel, rfl⟩
theorem dd_Sta_wordsOf_1 : Dc mi_Sta_wordsOf 1 (.istore_n 2) 1 2 := ⟨by decide +kernel, rfl⟩
theorem dd_Sta_wordsOf_2 : Dc mi_Sta_wordsOf 2 (.aload_n 0) 1 3 := ⟨by decide +kernel, rfl⟩
theorem dd_Sta_wordsOf_3 : Dc mi_Sta_wordsOf 3 (.getfield 11) 3 6 := ⟨by decide +kernel, rfl⟩
theorem dd_Sta_wordsOf_6 : Dc mi_Sta_wordsOf 6 (.astore_n 3) 1 7 := ⟨by decide +kernel, rfl⟩
theorem dd_Sta_wordsOf_7 : Dc mi_Sta_wordsOf 7 (.aload_n 3) 1 8 := ⟨by decide +kernel, rfl⟩
theorem dd_Sta_wordsOf_8 : Dc mi_Sta_wordsOf 8 (.arraylength) 1 9 := ⟨by decide +kernel, rfl⟩
theorem dd_Sta_wordsOf_9 : Dc mi_Sta_wordsOf 9 (.istore 4) 2 11 := ⟨by decide +kernel, rfl⟩
theorem dd_Sta_wordsOf_11 : Dc mi_Sta_wordsOf 11 (.iconst 0) 1 12 := ⟨by decide +kernel, rfl⟩
theorem dd_Sta_wordsOf_12 : Dc mi_Sta_wordsOf 12 (.istore 5) 2 14 := ⟨by decide +kernel, rfl⟩
theorem dd_Sta_wordsOf_14 : Dc mi_Sta_wordsOf 14 (.iload 5) 2 16 := ⟨by decide +kernel, rfl⟩
theorem dd_Sta_wordsOf_16 : Dc mi_Sta_wordsOf 16 (.iload 4) 2 18 := ⟨by decide +kernel, rfl⟩
theorem dd_Sta_wordsOf_18 : Db mi_Sta_wordsOf 18 (.if_icmp .ge 32) 32 21 50 := ⟨by decide +kernel, rfl, rfl⟩
theorem dd_Sta_wordsOf_21 : Dc mi_Sta_wordsOf 21 (.aload_n 3) 1 22 := ⟨by decide +kernel, rfl⟩
theorem dd_Sta_wordsOf_22 : Dc mi_Sta_wordsOf 22 (.iload 5) 2 24 := ⟨by decide +kernel, rfl⟩
theorem dd_Sta_wordsOf_24 : Dc mi_Sta_wordsOf 24 (.aaload) 1 25 := ⟨by decide +kernel, rfl⟩
theorem dd_Sta_wordsOf_25 : Dc mi_Sta_wordsOf 25 (.astore 6) 2 27 := ⟨by decide +kernel, rfl⟩
theorem dd_Sta_wordsOf_27 : Dc mi_Sta_wordsOf 27 (.aload 6) 2 29 := ⟨by decide +kernel, rfl⟩
theorem dd_Sta_wordsOf_29 : Dc mi_Sta_wordsOf 29 (.getfield 75) 3 32 := ⟨by decide +kernel, rfl⟩
theorem dd_Sta_wordsOf_32 : Dc mi_Sta_wordsOf 32 (.iload_n 1) 1 33 := ⟨by decide +kernel, rfl⟩
theorem dd_Sta_wordsOf_33 : Db mi_Sta_wordsOf 33 (.if_icmp .ne 11) 11 36 44 := ⟨by decide +kernel, rfl, rfl⟩
theorem dd_Sta_wordsOf_36 : Dc mi_Sta_wordsOf 36 (.iload_n 2) 1 37 := ⟨by decide +kernel, rfl⟩
theorem dd_Sta_wordsOf_37 : Dc mi_Sta_wordsOf 37 (.aload 6) 2 39 := ⟨by decide +kernel, rfl⟩
theorem dd_Sta_wordsOf_39 : Dc mi_Sta_wordsOf 39 (.invokevirtual 157) 3 42 := ⟨by decide +kernel, rfl⟩
theorem dd_Sta_wordsOf_42 : Dc mi_Sta_wordsOf 42 (.iadd) 1 43 := ⟨by decide +kernel, rfl⟩
theorem dd_Sta_wordsOf_43 : Dc mi_Sta_wordsOf 43 (.istore_n 2) 1 44 := ⟨by decide +kernel, rfl⟩
theorem dd_Sta_wordsOf_44 : Dc mi_Sta_wordsOf 44 (.iinc 5 1) 3 47 := ⟨by decide +kernel, rfl⟩
theorem dd_Sta_wordsOf_47 : Db mi_Sta_wordsOf 47 (.goto (-33)) (-33) 50 14 := ⟨by decide +kernel, rfl, rfl⟩
theorem dd_Sta_wordsOf_50 : Dc mi_Sta_wordsOf 50 (.iload_n 2) 1 51 := ⟨by decide +kernel, rfl⟩
theorem dd_Sta_wordsOf_51 : decode (mbc mi_Sta_wordsOf) 51 = .ok (retI (mrt mi_Sta_wordsOf), 1) := by decide +kernel
theorem dd_Sta_askedWords_0 : Dc mi_Sta_askedWords 0 (.iconst 0) 1 1 := ⟨by decide +kernel, rfl⟩
theorem dd_Sta_askedWords_1 : Dc mi_Sta_askedWords 1 (.istore_n 1) 1 2 := ⟨by decide +kernel, rfl⟩
theorem dd_Sta_askedWords_2 : Dc mi_Sta_askedWords 2 (.iconst 0) 1 3 := ⟨by decide +kernel, rfl⟩
theorem dd_Sta_askedWords_3 : Dc mi_Sta_askedWords 3 (.istore_n 2) 1 4 := ⟨by decide +kernel, rfl⟩
theorem dd_Sta_askedWords_4 : Dc mi_Sta_askedWords 4 (.iload_n 2) 1 5 := ⟨by decide +kernel, rfl⟩
theorem dd_Sta_askedWords_5 : Dc mi_Sta_askedWords 5 (.bipush 6) 2 7 := ⟨by decide +kernel, rfl⟩
theorem dd_Sta_askedWords_7 : Db mi_Sta_askedWords 7 (.if_icmp .ge 17) 17 10 24 := ⟨by decide +kernel, rfl, rfl⟩
theorem dd_Sta_askedWords_10 : Dc mi_Sta_askedWords 10 (.iload_n 1) 1 11 := ⟨by decide +kernel, rfl⟩
theorem dd_Sta_askedWords_11 : Dc mi_Sta_askedWords 11 (.aload_n 0) 1 12 := ⟨by decide +kernel, rfl⟩
theorem dd_Sta_askedWords_12 : Dc mi_Sta_askedWords 12 (.iload_n 2) 1 13 := ⟨by decide +kernel, rfl⟩
theorem dd_Sta_askedWords_13 : Dc mi_Sta_askedWords 13 (.invokevirtual 186) 3 16 := ⟨by decide +kernel, rfl⟩
theorem dd_Sta_askedWords_16 : Dc mi_Sta_askedWords 16 (.iadd) 1 17 := ⟨by decide +kernel, rfl⟩
theorem dd_Sta_askedWords_17 : Dc mi_Sta_askedWords 17 (.istore_n 1) 1 18 := ⟨by decide +kernel, rfl⟩
theorem dd_Sta_askedWords_18 : Dc mi_Sta_askedWords 18 (.iinc 2 1) 3 21 := ⟨by decide +kernel, rfl⟩
theorem dd_Sta_askedWords_21 : Db mi_Sta_askedWords 21 (.goto (-17)) (-17) 24 4 := ⟨by decide +kernel, rfl, rfl⟩
theorem dd_Sta_askedWords_24 : Dc mi_Sta_askedWords 24 (.iload_n 1) 1 25 := ⟨by decide +kernel, rfl⟩
theorem dd_Sta_askedWords_25 : decode (mbc mi_Sta_askedWords) 25 = .ok (retI (mrt mi_Sta_askedWords), 1) := by decide +kernel
theorem dd_Sta_askedBy_0 : Dc mi_Sta_askedBy 0 (.iconst 0) 1 1 := ⟨by decide +kernel, rfl⟩
theorem dd_Sta_askedBy_1 : Dc mi_Sta_askedBy 1 (.istore_n 2) 1 2 := ⟨by decide +kernel, rfl⟩
theorem dd_Sta_askedBy_2 : Dc mi_Sta_askedBy 2 (.aload_n 0) 1 3 := ⟨by decide +kernel, rfl⟩
theorem dd_Sta_askedBy_3 : Dc mi_Sta_askedBy 3 (.getfield 11) 3 6 := ⟨by decide +kernel, rfl⟩
theorem dd_Sta_askedBy_6 : Dc mi_Sta_askedBy 6 (.astore_n 3) 1 7 := ⟨by decide +kernel, rfl⟩
theorem dd_Sta_askedBy_7 : Dc mi_Sta_askedBy 7 (.aload_n 3) 1 8 := ⟨by decide +kernel, rfl⟩
theorem dd_Sta_askedBy_8 : Dc mi_Sta_askedBy 8 (.arraylength) 1 9 := ⟨by decide +kernel, rfl⟩
theorem dd_Sta_askedBy_9 : Dc mi_Sta_askedBy 9 (.istore 4) 2 11 := ⟨by decide +kernel, rfl⟩
theorem dd_Sta_askedBy_11 : Dc mi_Sta_askedBy 11 (.iconst 0) 1 12 := ⟨by decide +kernel, rfl⟩
theorem dd_Sta_askedBy_12 : Dc mi_Sta_askedBy 12 (.istore 5) 2 14 := ⟨by decide +kernel, rfl⟩
theorem dd_Sta_askedBy_14 : Dc mi_Sta_askedBy 14 (.iload 5) 2 16 := ⟨by decide +kernel, rfl⟩
theorem dd_Sta_askedBy_16 : Dc mi_Sta_askedBy 16 (.iload 4) 2 18 := ⟨by decide +kernel, rfl⟩
theorem dd_Sta_askedBy_18 : Db mi_Sta_askedBy 18 (.if_icmp .ge 32) 32 21 50 := ⟨by decide +kernel, rfl, rfl⟩
theorem dd_Sta_askedBy_21 : Dc mi_Sta_askedBy 21 (.aload_n 3) 1 22 := ⟨by decide +kernel, rfl⟩
theorem dd_Sta_askedBy_22 : Dc mi_Sta_askedBy 22 (.iload 5) 2 24 := ⟨by decide +kernel, rfl⟩
theorem dd_Sta_askedBy_24 : Dc mi_Sta_askedBy 24 (.aaload) 1 25 := ⟨by decide +kernel, rfl⟩
theorem dd_Sta_askedBy_25 : Dc mi_Sta_askedBy 25 (.astore 6) 2 27 := ⟨by decide +kernel, rfl⟩
theorem dd_Sta_askedBy_27 : Dc mi_Sta_askedBy 27 (.aload 6) 2 29 := ⟨by decide +kernel, rfl⟩
theorem dd_Sta_askedBy_29 : Dc mi_Sta_askedBy 29 (.getfield 75) 3 32 := ⟨by decide +kernel, rfl⟩
theorem dd_Sta_askedBy_32 : Dc mi_Sta_askedBy 32 (.iload_n 1) 1 33 := ⟨by decide +kernel, rfl⟩
theorem dd_Sta_askedBy_33 : Db mi_Sta_askedBy 33 (.if_icmp .ne 11) 11 36 44 := ⟨by decide +kernel, rfl, rfl⟩
theorem dd_Sta_askedBy_36 : Dc mi_Sta_askedBy 36 (.iload_n 2) 1 37 := ⟨by decide +kernel, rfl⟩
theorem dd_Sta_askedBy_37 : Dc mi_Sta_askedBy 37 (.aload 6) 2 39 := ⟨by decide +kernel, rfl⟩
theorem dd_Sta_askedBy_39 : Dc mi_Sta_askedBy 39 (.getfield 81) 3 42 := ⟨by decide +kernel, rfl⟩
theorem dd_Sta_askedBy_42 : Dc mi_Sta_askedBy 42 (.iadd) 1 43 := ⟨by decide +kernel, rfl⟩
theorem dd_Sta_askedBy_43 : Dc mi_Sta_askedBy 43 (.istore_n 2) 1 44 := ⟨by decide +kernel, rfl⟩
theorem dd_Sta_askedBy_44 : Dc mi_Sta_askedBy 44 (.iinc 5 1) 3 47 := ⟨by decide +kernel, rfl⟩
theorem dd_Sta_askedBy_47 : Db mi_Sta_askedBy 47 (.goto (-33)) (-33) 50 14 := ⟨by decide +kernel, rfl, rfl⟩
theorem dd_Sta_askedBy_50 : Dc mi_Sta_askedBy 50 (.iload_n 2) 1 51 := ⟨by decide +kernel, rfl⟩
theorem dd_Sta_askedBy_51 : decode (mbc mi_Sta_askedBy) 51 = .ok (retI (mrt mi_Sta_askedBy), 1) := by decide +kernel
theorem dd_Sta_leaks_0 : Dc mi_Sta_leaks 0 (.iconst 0) 1 1 := ⟨by decide +kernel, rfl⟩
theorem dd_Sta_leaks_1 : Dc mi_Sta_leaks 1 (.istore_n 1) 1 2 := ⟨by decide +kernel, rfl⟩
theorem dd_Sta_leaks_2 : Dc mi_Sta_leaks 2 (.iconst 0) 1 3 := ⟨by decide +kernel, rfl⟩
theorem dd_Sta_leaks_3 : Dc mi_Sta_leaks 3 (.istore_n 2) 1 4 := ⟨by decide +kernel, rfl⟩
theorem dd_Sta_leaks_4 : Dc mi_Sta_leaks 4 (.iload_n 2) 1 5 := ⟨by decide +kernel, rfl⟩
theorem dd_Sta_leaks_5 : Dc mi_Sta_leaks 5 (.bipush 6) 2 7 := ⟨by decide +kernel, rfl⟩
theorem dd_Sta_leaks_7 : Db mi_Sta_leaks 7 (.if_icmp .ge 17) 17 10 24 := ⟨by decide +kernel, rfl, rfl⟩
theorem dd_Sta_leaks_10 : Dc mi_Sta_leaks 10 (.iload_n 1) 1 11 := ⟨by decide +kernel, rfl⟩
theorem dd_Sta_leaks_11 : Dc mi_Sta_leaks 11 (.aload_n 0) 1 12 := ⟨by decide +kernel, rfl⟩
theorem dd_Sta_leaks_12 : Dc mi_Sta_leaks 12 (.iload_n 2) 1 13 := ⟨by decide +kernel, rfl⟩
theorem dd_Sta_leaks_13 : Dc mi_Sta_leaks 13 (.invokevirtual 189) 3 16 := ⟨by decide +kernel, rfl⟩
theorem dd_Sta_leaks_16 : Dc mi_Sta_leaks 16 (.iadd) 1 17 := ⟨by decide +kernel, rfl⟩
theorem dd_Sta_leaks_17 : Dc mi_Sta_leaks 17 (.istore_n 1) 1 18 := ⟨by decide +kernel, rfl⟩
theorem dd_Sta_leaks_18 : Dc mi_Sta_leaks 18 (.iinc 2 1) 3 21 := ⟨by decide +kernel, rfl⟩
theorem dd_Sta_leaks_21 : Db mi_Sta_leaks 21 (.goto (-17)) (-17) 24 4 := ⟨by decide +kernel, rfl, rfl⟩
theorem dd_Sta_leaks_24 : Dc mi_Sta_leaks 24 (.iload_n 1) 1 25 := ⟨by decide +kernel, rfl⟩
theorem dd_Sta_leaks_25 : decode (mbc mi_Sta_leaks) 25 = .ok (retI (mrt mi_Sta_leaks), 1) := by decide +kernel
theorem dd_Sta_leaksOf_0 : Dc mi_Sta_leaksOf 0 (.iconst 0) 1 1 := ⟨by decide +kernel, rfl⟩
theorem dd_Sta_leaksOf_1 : Dc mi_Sta_leaksOf 1 (.istore_n 2) 1 2 := ⟨by decide +kernel, rfl⟩
theorem dd_Sta_leaksOf_2 : Dc mi_Sta_leaksOf 2 (.aload_n 0) 1 3 := ⟨by decide +kernel, rfl⟩
theorem dd_Sta_leaksOf_3 : Dc mi_Sta_leaksOf 3 (.getfield 11) 3 6 := ⟨by decide +kernel, rfl⟩
theorem dd_Sta_leaksOf_6 : Dc mi_Sta_leaksOf 6 (.astore_n 3) 1 7 := ⟨by decide +kernel, rfl⟩
theorem dd_Sta_leaksOf_7 : Dc mi_Sta_leaksOf 7 (.aload_n 3) 1 8 := ⟨by decide +kernel, rfl⟩
theorem dd_Sta_leaksOf_8 : Dc mi_Sta_leaksOf 8 (.arraylength) 1 9 := ⟨by decide +kernel, rfl⟩
theorem dd_Sta_leaksOf_9 : Dc mi_Sta_leaksOf 9 (.istore 4) 2 11 := ⟨by decide +kernel, rfl⟩
theorem dd_Sta_leaksOf_11 : Dc mi_Sta_leaksOf 11 (.iconst 0) 1 12 := ⟨by decide +kernel, rfl⟩
theorem dd_Sta_leaksOf_12 : Dc mi_Sta_leaksOf 12 (.istore 5) 2 14 := ⟨by decide +kernel, rfl⟩
theorem dd_Sta_leaksOf_14 : Dc mi_Sta_leaksOf 14 (.iload 5) 2 16 := ⟨by decide +kernel, rfl⟩
theorem dd_Sta_leaksOf_16 : Dc mi_Sta_leaksOf 16 (.iload 4) 2 18 := ⟨by decide +kernel, rfl⟩
theorem dd_Sta_leaksOf_18 : Db mi_Sta_leaksOf 18 (.if_icmp .ge 36) 36 21 54 := ⟨by decide +kernel, rfl, rfl⟩
theorem dd_Sta_leaksOf_21 : Dc mi_Sta_leaksOf 21 (.aload_n 3) 1 22 := ⟨by decide +kernel, rfl⟩
theorem dd_Sta_leaksOf_22 : Dc mi_Sta_leaksOf 22 (.iload 5) 2 24 := ⟨by decide +kernel, rfl⟩
theorem dd_Sta_leaksOf_24 : Dc mi_Sta_leaksOf 24 (.aaload) 1 25 := ⟨by decide +kernel, rfl⟩
theorem dd_Sta_leaksOf_25 : Dc mi_Sta_leaksOf 25 (.astore 6) 2 27 := ⟨by decide +kernel, rfl⟩
theorem dd_Sta_leaksOf_27 : Dc mi_Sta_leaksOf 27 (.aload 6) 2 29 := ⟨by decide +kernel, rfl⟩
theorem dd_Sta_leaksOf_29 : Dc mi_Sta_leaksOf 29 (.getfield 75) 3 32 := ⟨by decide +kernel, rfl⟩
theorem dd_Sta_leaksOf_32 : Dc mi_Sta_leaksOf 32 (.iload_n 1) 1 33 := ⟨by decide +kernel, rfl⟩
theorem dd_Sta_leaksOf_33 : Db mi_Sta_leaksOf 33 (.if_icmp .ne 15) 15 36 48 := ⟨by decide +kernel, rfl, rfl⟩
theorem dd_Sta_leaksOf_36 : Dc mi_Sta_leaksOf 36 (.aload_n 0) 1 37 := ⟨by decide +kernel, rfl⟩
theorem dd_Sta_leaksOf_37 : Dc mi_Sta_leaksOf 37 (.aload 6) 2 39 := ⟨by decide +kernel, rfl⟩
theorem dd_Sta_leaksOf_39 : Dc mi_Sta_leaksOf 39 (.invokevirtual 134) 3 42 := ⟨by decide +kernel, rfl⟩
theorem dd_Sta_leaksOf_42 : Db mi_Sta_leaksOf 42 (.ifCond .eq 6) 6 45 48 := ⟨by decide +kernel, rfl, rfl⟩
theorem dd_Sta_leaksOf_45 : Dc mi_Sta_leaksOf 45 (.iinc 2 1) 3 48 := ⟨by decide +kernel, rfl⟩
theorem dd_Sta_leaksOf_48 : Dc mi_Sta_leaksOf 48 (.iinc 5 1) 3 51 := ⟨by decide +kernel, rfl⟩
theorem dd_Sta_leaksOf_51 : Db mi_Sta_leaksOf 51 (.goto (-37)) (-37) 54 14 := ⟨by decide +kernel, rfl, rfl⟩
theorem dd_Sta_leaksOf_54 : Dc mi_Sta_leaksOf 54 (.iload_n 2) 1 55 := ⟨by decide +kernel, rfl⟩
theorem dd_Sta_leaksOf_55 : decode (mbc mi_Sta_leaksOf) 55 = .ok (retI (mrt mi_Sta_leaksOf), 1) := by decide +kernel
theorem dd_Sta_isLeak_0 : Dc mi_Sta_isLeak 0 (.aload_n 0) 1 1 := ⟨by decide +kernel, rfl⟩
theorem dd_Sta_isLeak_1 : Dc mi_Sta_isLeak 1 (.aload_n 1) 1 2 := ⟨by decide +kernel, rfl⟩
theorem dd_Sta_isLeak_2 : Dc mi_Sta_isLeak 2 (.getfield 75) 3 5 := ⟨by decide +kernel, rfl⟩
theorem dd_Sta_isLeak_5 : Dc mi_Sta_isLeak 5 (.invokevirtual 90) 3 8 := ⟨by decide +kernel, rfl⟩
theorem dd_Sta_isLeak_8 : Dc mi_Sta_isLeak 8 (.astore_n 2) 1 9 := ⟨by decide +kernel, rfl⟩
theorem dd_Sta_isLeak_9 : Dc mi_Sta_isLeak 9 (.aload_n 2) 1 10 := ⟨by decide +kernel, rfl⟩
theorem dd_Sta_isLeak_10 : Db mi_Sta_isLeak 10 (.ifnull 26) 26 13 36 := ⟨by decide +kernel, rfl, rfl⟩
theorem dd_Sta_isLeak_13 : Dc mi_Sta_isLeak 13 (.aload_n 2) 1 14 := ⟨by decide +kernel, rfl⟩
theorem dd_Sta_isLeak_14 : Dc mi_Sta_isLeak 14 (.getfield 104) 3 17 := ⟨by decide +kernel, rfl⟩
theorem dd_Sta_isLeak_17 : Db mi_Sta_isLeak 17 (.ifCond .eq 15) 15 20 32 := ⟨by decide +kernel, rfl, rfl⟩
theorem dd_Sta_isLeak_20 : Dc mi_Sta_isLeak 20 (.aload_n 0) 1 21 := ⟨by decide +kernel, rfl⟩
theorem dd_Sta_isLeak_21 : Dc mi_Sta_isLeak 21 (.aload_n 1) 1 22 := ⟨by decide +kernel, rfl⟩
theorem dd_Sta_isLeak_22 : Dc mi_Sta_isLeak 22 (.invokevirtual 121) 3 25 := ⟨by decide +kernel, rfl⟩
theorem dd_Sta_isLeak_25 : Dc mi_Sta_isLeak 25 (.aload_n 0) 1 26 := ⟨by decide +kernel, rfl⟩
theorem dd_Sta_isLeak_26 : Dc mi_Sta_isLeak 26 (.getfield 31) 3 29 := ⟨by decide +kernel, rfl⟩
theorem dd_Sta_isLeak_29 : Db mi_Sta_isLeak 29 (.if_icmp .lt 7) 7 32 36 := ⟨by decide +kernel, rfl, rfl⟩
theorem dd_Sta_isLeak_32 : Dc mi_Sta_isLeak 32 (.iconst 1) 1 33 := ⟨by decide +kernel, rfl⟩
theorem dd_Sta_isLeak_33 : Db mi_Sta_isLeak 33 (.goto 4) 4 36 37 := ⟨by decide +kernel, rfl, rfl⟩
theorem dd_Sta_isLeak_36 : Dc mi_Sta_isLeak 36 (.iconst 0) 1 37 := ⟨by decide +kernel, rfl⟩
theorem dd_Sta_isLeak_37 : decode (mbc mi_Sta_isLeak) 37 = .ok (retI (mrt mi_Sta_isLeak), 1) := by decide +kernel
theorem dd_Sta_taskOf_0 : Dc mi_Sta_taskOf 0 (.iload_n 1) 1 1 := ⟨by decide +kernel, rfl⟩
theorem dd_Sta_taskOf_1 : Db mi_Sta_taskOf 1 (.ifCond .lt 9) 9 4 10 := ⟨by decide +kernel, rfl, rfl⟩
theorem dd_Sta_taskOf_4 : Dc mi_Sta_taskOf 4 (.iload_n 1) 1 5 := ⟨by decide +kernel, rfl⟩
theorem dd_Sta_taskOf_5 : Dc mi_Sta_taskOf 5 (.bipush 6) 2 7 := ⟨by decide +kernel, rfl⟩
theorem dd_Sta_taskOf_7 : Db mi_Sta_taskOf 7 (.if_icmp .lt 7) 7 10 14 := ⟨by decide +kernel, rfl, rfl⟩
theorem dd_Sta_taskOf_10 : Dc mi_Sta_taskOf 10 (.aconst_null) 1 11 := ⟨by decide +kernel, rfl⟩
theorem dd_Sta_taskOf_11 : Db mi_Sta_taskOf 11 (.goto 9) 9 14 20 := ⟨by decide +kernel, rfl, rfl⟩
theorem dd_Sta_taskOf_14 : Dc mi_Sta_taskOf 14 (.aload_n 0) 1 15 := ⟨by decide +kernel, rfl⟩
theorem dd_Sta_taskOf_15 : Dc mi_Sta_taskOf 15 (.getfield 26) 3 18 := ⟨by decide +kernel, rfl⟩
theorem dd_Sta_taskOf_18 : Dc mi_Sta_taskOf 18 (.iload_n 1) 1 19 := ⟨by decide +kernel, rfl⟩
theorem dd_Sta_taskOf_19 : Dc mi_Sta_taskOf 19 (.aaload) 1 20 := ⟨by decide +kernel, rfl⟩
theorem dd_Sta_taskOf_20 : decode (mbc mi_Sta_taskOf) 20 = .ok (retI (mrt mi_Sta_taskOf), 1) := by decide +kernel
theorem dd_Sta_ageOf_0 : Dc mi_Sta_ageOf 0 (.aload_n 0) 1 1 := ⟨by decide +kernel, rfl⟩
theorem dd_Sta_ageOf_1 : Dc mi_Sta_ageOf 1 (.getfield 48) 3 4 := ⟨by decide +kernel, rfl⟩
theorem dd_Sta_ageOf_4 : Dc mi_Sta_ageOf 4 (.aload_n 1) 1 5 := ⟨by decide +kernel, rfl⟩
theorem dd_Sta_ageOf_5 : Dc mi_Sta_ageOf 5 (.getfield 84) 3 8 := ⟨by decide +kernel, rfl⟩
theorem dd_Sta_ageOf_8 : Dc mi_Sta_ageOf 8 (.isub) 1 9 := ⟨by decide +kernel, rfl⟩
theorem dd_Sta_ageOf_9 : decode (mbc mi_Sta_ageOf) 9 = .ok (retI (mrt mi_Sta_ageOf), 1) := by decide +kernel
theorem dd_Sta_tellWord_0 : Dc mi_Sta_tellWord 0 (.aload_n 0) 1 1 := ⟨by decide +kernel, rfl⟩
theorem dd_Sta_tellWord_1 : Dc mi_Sta_tellWord 1 (.iload_n 1) 1 2 := ⟨by decide +kernel, rfl⟩
theorem dd_Sta_tellWord_2 : Dc mi_Sta_tellWord 2 (.invokevirtual 101) 3 5 := ⟨by decide +kernel, rfl⟩
theorem dd_Sta_tellWord_5 : Dc mi_Sta_tellWord 5 (.astore_n 3) 1 6 := ⟨by decide +kernel, rfl⟩
theorem dd_Sta_tellWord_6 : Dc mi_Sta_tellWord 6 (.aload_n 3) 1 7 := ⟨by decide +kernel, rfl⟩
theorem dd_Sta_tellWord_7 : Db mi_Sta_tellWord 7 (.ifnonnull 5) 5 10 12 := ⟨by decide +kernel, rfl, rfl⟩
theorem dd_Sta_tellWord_10 : Dc mi_Sta_tellWord 10 (.iconst (-1)) 1 11 := ⟨by decide +kernel, rfl⟩
theorem dd_Sta_tellWord_11 : decode (mbc mi_Sta_tellWord) 11 = .ok (retI (mrt mi_Sta_tellWord), 1) := by decide +kernel
theorem dd_Sta_tellWord_12 : Dc mi_Sta_tellWord 12 (.iload_n 2) 1 13 := ⟨by decide +kernel, rfl⟩
theorem dd_Sta_tellWord_13 : decode (mbc mi_Sta_tellWord) 13 = .ok (.tableswitch 73 0 3 #[31, 37, 54, 68], 31) := by decide +kernel
theorem dd_Sta_tellWord_44 : Dc mi_Sta_tellWord 44 (.aload_n 0) 1 45 := ⟨by decide +kernel, rfl⟩
theorem dd_Sta_tellWord_45 : Dc mi_Sta_tellWord 45 (.iload_n 1) 1 46 := ⟨by decide +kernel, rfl⟩
theorem dd_Sta_tellWord_46 : Dc mi_Sta_tellWord 46 (.invokevirtual 112) 3 49 := ⟨by decide +kernel, rfl⟩
theorem dd_Sta_tellWord_49 : decode (mbc mi_Sta_tellWord) 49 = .ok (retI (mrt mi_Sta_tellWord), 1) := by decide +kernel
theorem dd_Sta_tellWord_50 : Dc mi_Sta_tellWord 50 (.aload_n 3) 1 51 := ⟨by decide +kernel, rfl⟩
theorem dd_Sta_tellWord_51 : Dc mi_Sta_tellWord 51 (.invokevirtual 169) 3 54 := ⟨by decide +kernel, rfl⟩
theorem dd_Sta_tellWord_54 : Db mi_Sta_tellWord 54 (.ifCond .eq 10) 10 57 64 := ⟨by decide +kernel, rfl, rfl⟩
theorem dd_Sta_tellWord_57 : Dc mi_Sta_tellWord 57 (.aload_n 3) 1 58 := ⟨by decide +kernel, rfl⟩
theorem dd_Sta_tellWord_58 : Dc mi_Sta_tellWord 58 (.getfield 78) 3 61 := ⟨by decide +kernel, rfl⟩
theorem dd_Sta_tellWord_61 : Db mi_Sta_tellWord 61 (.goto 5) 5 64 66 := ⟨by decide +kernel, rfl, rfl⟩
theorem dd_Sta_tellWord_64 : Dc mi_Sta_tellWord 64 (.bipush (-5)) 2 66 := ⟨by decide +kernel, rfl⟩
theorem dd_Sta_tellWord_66 : decode (mbc mi_Sta_tellWord) 66 = .ok (retI (mrt mi_Sta_tellWord), 1) := by decide +kernel
theorem dd_Sta_tellWord_67 : Dc mi_Sta_tellWord 67 (.aload_n 3) 1 68 := ⟨by decide +kernel, rfl⟩
theorem dd_Sta_tellWord_68 : Dc mi_Sta_tellWord 68 (.iload_n 1) 1 69 := ⟨by decide +kernel, rfl⟩
theorem dd_Sta_tellWord_69 : Dc mi_Sta_tellWord 69 (.invokevirtual 176) 3 72 := ⟨by decide +kernel, rfl⟩
theorem dd_Sta_tellWord_72 : Db mi_Sta_tellWord 72 (.ifCond .eq 7) 7 75 79 := ⟨by decide +kernel, rfl, rfl⟩
theorem dd_Sta_tellWord_75 : Dc mi_Sta_tellWord 75 (.iconst 1) 1 76 := ⟨by decide +kernel, rfl⟩
theorem dd_Sta_tellWord_76 : Db mi_Sta_tellWord 76 (.goto 4) 4 79 80 := ⟨by decide +kernel, rfl, rfl⟩
theorem dd_Sta_tellWord_79 : Dc mi_Sta_tellWord 79 (.iconst 0) 1 80 := ⟨by decide +kernel, rfl⟩
theorem dd_Sta_tellWord_80 : decode (mbc mi_Sta_tellWord) 80 = .ok (retI (mrt mi_Sta_tellWord), 1) := by decide +kernel
theorem dd_Sta_tellWord_81 : Dc mi_Sta_tellWord 81 (.aload_n 3) 1 82 := ⟨by decide +kernel, rfl⟩
theorem dd_Sta_tellWord_82 : Dc mi_Sta_tellWord 82 (.getfield 151) 3 85 := ⟨by decide +kernel, rfl⟩
theorem dd_Sta_tellWord_85 : decode (mbc mi_Sta_tellWord) 85 = .ok (retI (mrt mi_Sta_tellWord), 1) := by decide +kernel
theorem dd_Sta_tellWord_86 : Dc mi_Sta_tellWord 86 (.bipush (-2)) 2 88 := ⟨by decide +kernel, rfl⟩
theorem dd_Sta_tellWord_88 : decode (mbc mi_Sta_tellWord) 88 = .ok (retI (mrt mi_Sta_tellWord), 1) := by decide +kernel
theorem dd_Sta_blockAt_0 : Dc mi_Sta_blockAt 0 (.aload_n 0) 1 1 := ⟨by decide +kernel, rfl⟩
theorem dd_Sta_blockAt_1 : Dc mi_Sta_blockAt 1 (.getfield 11) 3 4 := ⟨by decide +kernel, rfl⟩
theorem dd_Sta_blockAt_4 : Dc mi_Sta_blockAt 4 (.astore_n 2) 1 5 := ⟨by decide +kernel, rfl⟩
theorem dd_Sta_blockAt_5 : Dc mi_Sta_blockAt 5 (.aload_n 2) 1 6 := ⟨by decide +kernel, rfl⟩
theorem dd_Sta_blockAt_6 : Dc mi_Sta_blockAt 6 (.arraylength) 1 7 := ⟨by decide +kernel, rfl⟩
theorem dd_Sta_blockAt_7 : Dc mi_Sta_blockAt 7 (.istore_n 3) 1 8 := ⟨by decide +kernel, rfl⟩
theorem dd_Sta_blockAt_8 : Dc mi_Sta_blockAt 8 (.iconst 0) 1 9 := ⟨by decide +kernel, rfl⟩
theorem dd_Sta_blockAt_9 : Dc mi_Sta_blockAt 9 (.istore 4) 2 11 := ⟨by decide +kernel, rfl⟩
theorem dd_Sta_blockAt_11 : Dc mi_Sta_blockAt 11 (.iload 4) 2 13 := ⟨by decide +kernel, rfl⟩
theorem dd_Sta_blockAt_13 : Dc mi_Sta_blockAt 13 (.iload_n 3) 1 14 := ⟨by decide +kernel, rfl⟩
theorem dd_Sta_blockAt_14 : Db mi_Sta_blockAt 14 (.if_icmp .ge 27) 27 17 41 := ⟨by decide +kernel, rfl, rfl⟩
theorem dd_Sta_blockAt_17 : Dc mi_Sta_blockAt 17 (.aload_n 2) 1 18 := ⟨by decide +kernel, rfl⟩
theorem dd_Sta_blockAt_18 : Dc mi_Sta_blockAt 18 (.iload 4) 2 20 := ⟨by decide +kernel, rfl⟩
theorem dd_Sta_blockAt_20 : Dc mi_Sta_blockAt 20 (.aaload) 1 21 := ⟨by decide +kernel, rfl⟩
theorem dd_Sta_blockAt_21 : Dc mi_Sta_blockAt 21 (.astore 5) 2 23 := ⟨by decide +kernel, rfl⟩
theorem dd_Sta_blockAt_23 : Dc mi_Sta_blockAt 23 (.aload 5) 2 25 := ⟨by decide +kernel, rfl⟩
theorem dd_Sta_blockAt_25 : Dc mi_Sta_blockAt 25 (.iload_n 1) 1 26 := ⟨by decide +kernel, rfl⟩
theorem dd_Sta_blockAt_26 : Dc mi_Sta_blockAt 26 (.invokevirtual 173) 3 29 := ⟨by decide +kernel, rfl⟩
theorem dd_Sta_blockAt_29 : Db mi_Sta_blockAt 29 (.ifCond .eq 6) 6 32 35 := ⟨by decide +kernel, rfl, rfl⟩
theorem dd_Sta_blockAt_32 : Dc mi_Sta_blockAt 32 (.aload 5) 2 34 := ⟨by decide +kernel, rfl⟩
theorem dd_Sta_blockAt_34 : decode (mbc mi_Sta_blockAt) 34 = .ok (retI (mrt mi_Sta_blockAt), 1) := by decide +kernel
theorem dd_Sta_blockAt_35 : Dc mi_Sta_blockAt 35 (.iinc 4 1) 3 38 := ⟨by decide +kernel, rfl⟩
theorem dd_Sta_blockAt_38 : Db mi_Sta_blockAt 38 (.goto (-27)) (-27) 41 11 := ⟨by decide +kernel, rfl, rfl⟩
theorem dd_Sta_blockAt_41 : Dc mi_Sta_blockAt 41 (.aconst_null) 1 42 := ⟨by decide +kernel, rfl⟩
theorem dd_Sta_blockAt_42 : decode (mbc mi_Sta_blockAt) 42 = .ok (retI (mrt mi_Sta_blockAt), 1) := by decide +kernel
theorem dd_Sta_valueAt_0 : Dc mi_Sta_valueAt 0 (.iload_n 1) 1 1 := ⟨by decide +kernel, rfl⟩
theorem dd_Sta_valueAt_1 : Db mi_Sta_valueAt 1 (.ifCond .lt 9) 9 4 10 := ⟨by decide +kernel, rfl, rfl⟩
theorem dd_Sta_valueAt_4 : Dc mi_Sta_valueAt 4 (.iload_n 1) 1 5 := ⟨by decide +kernel, rfl⟩
theorem dd_Sta_valueAt_5 : Dc mi_Sta_valueAt 5 (.bipush 64) 2 7 := ⟨by decide +kernel, rfl⟩
theorem dd_Sta_valueAt_7 : Db mi_Sta_valueAt 7 (.if_icmp .lt 7) 7 10 14 := ⟨by decide +kernel, rfl, rfl⟩
theorem dd_Sta_valueAt_10 : Dc mi_Sta_valueAt 10 (.iconst 0) 1 11 := ⟨by decide +kernel, rfl⟩
theorem dd_Sta_valueAt_11 : Db mi_Sta_valueAt 11 (.goto 9) 9 14 20 := ⟨by decide +kernel, rfl, rfl⟩
theorem dd_Sta_valueAt_14 : Dc mi_Sta_valueAt 14 (.aload_n 0) 1 15 := ⟨by decide +kernel, rfl⟩
theorem dd_Sta_valueAt_15 : Dc mi_Sta_valueAt 15 (.getfield 20) 3 18 := ⟨by decide +kernel, rfl⟩
theorem dd_Sta_valueAt_18 : Dc mi_Sta_valueAt 18 (.iload_n 1) 1 19 := ⟨by decide +kernel, rfl⟩
theorem dd_Sta_valueAt_19 : Dc mi_Sta_valueAt 19 (.iaload) 1 20 := ⟨by decide +kernel, rfl⟩
theorem dd_Sta_valueAt_20 : decode (mbc mi_Sta_valueAt) 20 = .ok (retI (mrt mi_Sta_valueAt), 1) := by decide +kernel
theorem dd_Sta_tellBlock_0 : Dc mi_Sta_tellBlock 0 (.aload_n 0) 1 1 := ⟨by decide +kernel, rfl⟩
theorem dd_Sta_tellBlock_1 : Dc mi_Sta_tellBlock 1 (.iload_n 1) 1 2 := ⟨by decide +kernel, rfl⟩
theorem dd_Sta_tellBlock_2 : Dc mi_Sta_tellBlock 2 (.invokevirtual 87) 3 5 := ⟨by decide +kernel, rfl⟩
theorem dd_Sta_tellBlock_5 : Dc mi_Sta_tellBlock 5 (.astore_n 3) 1 6 := ⟨by decide +kernel, rfl⟩
theorem dd_Sta_tellBlock_6 : Dc mi_Sta_tellBlock 6 (.aload_n 3) 1 7 := ⟨by decide +kernel, rfl⟩
theorem dd_Sta_tellBlock_7 : Db mi_Sta_tellBlock 7 (.ifnonnull 5) 5 10 12 := ⟨by decide +kernel, rfl, rfl⟩
theorem dd_Sta_tellBlock_10 : Dc mi_Sta_tellBlock 10 (.iconst (-1)) 1 11 := ⟨by decide +kernel, rfl⟩
theorem dd_Sta_tellBlock_11 : decode (mbc mi_Sta_tellBlock) 11 = .ok (retI (mrt mi_Sta_tellBlock), 1) := by decide +kernel
theorem dd_Sta_tellBlock_12 : Dc mi_Sta_tellBlock 12 (.iload_n 2) 1 13 := ⟨by decide +kernel, rfl⟩
theorem dd_Sta_tellBlock_13 : decode (mbc mi_Sta_tellBlock) 13 = .ok (.tableswitch 89 0 6 #[43, 48, 53, 58, 63, 69, 75], 43) := by decide +kernel
theorem dd_Sta_tellBlock_56 : Dc mi_Sta_tellBlock 56 (.aload_n 3) 1 57 := ⟨by decide +kernel, rfl⟩
theorem dd_Sta_tellBlock_57 : Dc mi_Sta_tellBlock 57 (.getfield 98) 3 60 := ⟨by decide +kernel, rfl⟩
theorem dd_Sta_tellBlock_60 : decode (mbc mi_Sta_tellBlock) 60 = .ok (retI (mrt mi_Sta_tellBlock), 1) := by decide +kernel
theorem dd_Sta_tellBlock_61 : Dc mi_Sta_tellBlock 61 (.aload_n 3) 1 62 := ⟨by decide +kernel, rfl⟩
theorem dd_Sta_tellBlock_62 : Dc mi_Sta_tellBlock 62 (.getfield 151) 3 65 := ⟨by decide +kernel, rfl⟩
theorem dd_Sta_tellBlock_65 : decode (mbc mi_Sta_tellBlock) 65 = .ok (retI (mrt mi_Sta_tellBlock), 1) := by decide +kernel
theorem dd_Sta_tellBlock_66 : Dc mi_Sta_tellBlock 66 (.aload_n 3) 1 67 := ⟨by decide +kernel, rfl⟩
theorem dd_Sta_tellBlock_67 : Dc mi_Sta_tellBlock 67 (.getfield 75) 3 70 := ⟨by decide +kernel, rfl⟩
theorem dd_Sta_tellBlock_70 : decode (mbc mi_Sta_tellBlock) 70 = .ok (retI (mrt mi_Sta_tellBlock), 1) := by decide +kernel
theorem dd_Sta_tellBlock_71 : Dc mi_Sta_tellBlock 71 (.aload_n 3) 1 72 := ⟨by decide +kernel, rfl⟩
theorem dd_Sta_tellBlock_72 : Dc mi_Sta_tellBlock 72 (.getfield 81) 3 75 := ⟨by decide +kernel, rfl⟩
theorem dd_Sta_tellBlock_75 : decode (mbc mi_Sta_tellBlock) 75 = .ok (retI (mrt mi_Sta_tellBlock), 1) := by decide +kernel
theorem dd_Sta_tellBlock_76 : Dc mi_Sta_tellBlock 76 (.aload_n 0) 1 77 := ⟨by decide +kernel, rfl⟩
theorem dd_Sta_tellBlock_77 : Dc mi_Sta_tellBlock 77 (.aload_n 3) 1 78 := ⟨by decide +kernel, rfl⟩
theorem dd_Sta_tellBlock_78 : Dc mi_Sta_tellBlock 78 (.invokevirtual 163) 3 81 := ⟨by decide +kernel, rfl⟩
theorem dd_Sta_tellBlock_81 : decode (mbc mi_Sta_tellBlock) 81 = .ok (retI (mrt mi_Sta_tellBlock), 1) := by decide +kernel
theorem dd_Sta_tellBlock_82 : Dc mi_Sta_tellBlock 82 (.aload_n 0) 1 83 := ⟨by decide +kernel, rfl⟩
theorem dd_Sta_tellBlock_83 : Dc mi_Sta_tellBlock 83 (.aload_n 3) 1 84 := ⟨by decide +kernel, rfl⟩
theorem dd_Sta_tellBlock_84 : Dc mi_Sta_tellBlock 84 (.invokevirtual 121) 3 87 := ⟨by decide +kernel, rfl⟩
theorem dd_Sta_tellBlock_87 : decode (mbc mi_Sta_tellBlock) 87 = .ok (retI (mrt mi_Sta_tellBlock), 1) := by decide +kernel
theorem dd_Sta_tellBlock_88 : Dc mi_Sta_tellBlock 88 (.aload_n 0) 1 89 := ⟨by decide +kernel, rfl⟩
theorem dd_Sta_tellBlock_89 : Dc mi_Sta_tellBlock 89 (.aload_n 3) 1 90 := ⟨by decide +kernel, rfl⟩
theorem dd_Sta_tellBlock_90 : Dc mi_Sta_tellBlock 90 (.invokevirtual 134) 3 93 := ⟨by decide +kernel, rfl⟩
theorem dd_Sta_tellBlock_93 : Db mi_Sta_tellBlock 93 (.ifCond .eq 7) 7 96 100 := ⟨by decide +kernel, rfl, rfl⟩
theorem dd_Sta_tellBlock_96 : Dc mi_Sta_tellBlock 96 (.iconst 1) 1 97 := ⟨by decide +kernel, rfl⟩
theorem dd_Sta_tellBlock_97 : Db mi_Sta_tellBlock 97 (.goto 4) 4 100 101 := ⟨by decide +kernel, rfl, rfl⟩
theorem dd_Sta_tellBlock_100 : Dc mi_Sta_tellBlock 100 (.iconst 0) 1 101 := ⟨by decide +kernel, rfl⟩
theorem dd_Sta_tellBlock_101 : decode (mbc mi_Sta_tellBlock) 101 = .ok (retI (mrt mi_Sta_tellBlock), 1) := by decide +kernel
theorem dd_Sta_tellBlock_102 : Dc mi_Sta_tellBlock 102 (.bipush (-2)) 2 104 := ⟨by decide +kernel, rfl⟩
theorem dd_Sta_tellBlock_104 : decode (mbc mi_Sta_tellBlock) 104 = .ok (retI (mrt mi_Sta_tellBlock), 1) := by decide +kernel
theorem dd_Sta_blockOf_0 : Dc mi_Sta_blockOf 0 (.aload_n 0) 1 1 := ⟨by decide +kernel, rfl⟩
theorem dd_Sta_blockOf_1 : Dc mi_Sta_blockOf 1 (.getfield 11) 3 4 := ⟨by decide +kernel, rfl⟩
theorem dd_Sta_blockOf_4 : Dc mi_Sta_blockOf 4 (.astore_n 2) 1 5 := ⟨by decide +kernel, rfl⟩
theorem dd_Sta_blockOf_5 : Dc mi_Sta_blockOf 5 (.aload_n 2) 1 6 := ⟨by decide +kernel, rfl⟩
theorem dd_Sta_blockOf_6 : Dc mi_Sta_blockOf 6 (.arraylength) 1 7 := ⟨by decide +kernel, rfl⟩
theorem dd_Sta_blockOf_7 : Dc mi_Sta_blockOf 7 (.istore_n 3) 1 8 := ⟨by decide +kernel, rfl⟩
theorem dd_Sta_blockOf_8 : Dc mi_Sta_blockOf 8 (.iconst 0) 1 9 := ⟨by decide +kernel, rfl⟩
theorem dd_Sta_blockOf_9 : Dc mi_Sta_blockOf 9 (.istore 4) 2 11 := ⟨by decide +kernel, rfl⟩
theorem dd_Sta_blockOf_11 : Dc mi_Sta_blockOf 11 (.iload 4) 2 13 := ⟨by decide +kernel, rfl⟩
theorem dd_Sta_blockOf_13 : Dc mi_Sta_blockOf 13 (.iload_n 3) 1 14 := ⟨by decide +kernel, rfl⟩
theorem dd_Sta_blockOf_14 : Db mi_Sta_blockOf 14 (.if_icmp .ge 35) 35 17 49 := ⟨by decide +kernel, rfl, rfl⟩
theorem dd_Sta_blockOf_17 : Dc mi_Sta_blockOf 17 (.aload_n 2) 1 18 := ⟨by decide +kernel, rfl⟩
theorem dd_Sta_blockOf_18 : Dc mi_Sta_blockOf 18 (.iload 4) 2 20 := ⟨by decide +kernel, rfl⟩
theorem dd_Sta_blockOf_20 : Dc mi_Sta_blockOf 20 (.aaload) 1 21 := ⟨by decide +kernel, rfl⟩
theorem dd_Sta_blockOf_21 : Dc mi_Sta_blockOf 21 (.astore 5) 2 23 := ⟨by decide +kernel, rfl⟩
theorem dd_Sta_blockOf_23 : Dc mi_Sta_blockOf 23 (.aload 5) 2 25 := ⟨by decide +kernel, rfl⟩
theorem dd_Sta_blockOf_25 : Dc mi_Sta_blockOf 25 (.invokevirtual 169) 3 28 := ⟨by decide +kernel, rfl⟩
theorem dd_Sta_blockOf_28 : Db mi_Sta_blockOf 28 (.ifCond .eq 15) 15 31 43 := ⟨by decide +kernel, rfl, rfl⟩
theorem dd_Sta_blockOf_31 : Dc mi_Sta_blockOf 31 (.aload 5) 2 33 := ⟨by decide +kernel, rfl⟩
theorem dd_Sta_blockOf_33 : Dc mi_Sta_blockOf 33 (.getfield 78) 3 36 := ⟨by decide +kernel, rfl⟩
theorem dd_Sta_blockOf_36 : Dc mi_Sta_blockOf 36 (.iload_n 1) 1 37 := ⟨by decide +kernel, rfl⟩
theorem dd_Sta_blockOf_37 : Db mi_Sta_blockOf 37 (.if_icmp .ne 6) 6 40 43 := ⟨by decide +kernel, rfl, rfl⟩
theorem dd_Sta_blockOf_40 : Dc mi_Sta_blockOf 40 (.aload 5) 2 42 := ⟨by decide +kernel, rfl⟩
theorem dd_Sta_blockOf_42 : decode (mbc mi_Sta_blockOf) 42 = .ok (retI (mrt mi_Sta_blockOf), 1) := by decide +kernel
theorem dd_Sta_blockOf_43 : Dc mi_Sta_blockOf 43 (.iinc 4 1) 3 46 := ⟨by decide +kernel, rfl⟩
theorem dd_Sta_blockOf_46 : Db mi_Sta_blockOf 46 (.goto (-35)) (-35) 49 11 := ⟨by decide +kernel, rfl, rfl⟩
theorem dd_Sta_blockOf_49 : Dc mi_Sta_blockOf 49 (.aconst_null) 1 50 := ⟨by decide +kernel, rfl⟩
theorem dd_Sta_blockOf_50 : decode (mbc mi_Sta_blockOf) 50 = .ok (retI (mrt mi_Sta_blockOf), 1) := by decide +kernel
theorem dd_Sta_brokenGuards_0 : Dc mi_Sta_brokenGuards 0 (.aload_n 0) 1 1 := ⟨by decide +kernel, rfl⟩
theorem dd_Sta_brokenGuards_1 : Dc mi_Sta_brokenGuards 1 (.aload_n 1) 1 2 := ⟨by decide +kernel, rfl⟩
theorem dd_Sta_brokenGuards_2 : Dc mi_Sta_brokenGuards 2 (.getfield 98) 3 5 := ⟨by decide +kernel, rfl⟩
theorem dd_Sta_brokenGuards_5 : Dc mi_Sta_brokenGuards 5 (.invokevirtual 112) 3 8 := ⟨by decide +kernel, rfl⟩
theorem dd_Sta_brokenGuards_8 : Db mi_Sta_brokenGuards 8 (.ifCond .ne 7) 7 11 15 := ⟨by decide +kernel, rfl, rfl⟩
theorem dd_Sta_brokenGuards_11 : Dc mi_Sta_brokenGuards 11 (.iconst 0) 1 12 := ⟨by decide +kernel, rfl⟩
theorem dd_Sta_brokenGuards_12 : Db mi_Sta_brokenGuards 12 (.goto 4) 4 15 16 := ⟨by decide +kernel, rfl, rfl⟩
theorem dd_Sta_brokenGuards_15 : Dc mi_Sta_brokenGuards 15 (.iconst 1) 1 16 := ⟨by decide +kernel, rfl⟩
theorem dd_Sta_brokenGuards_16 : Dc mi_Sta_brokenGuards 16 (.istore_n 2) 1 17 := ⟨by decide +kernel, rfl⟩
theorem dd_Sta_brokenGuards_17 : Dc mi_Sta_brokenGuards 17 (.aload_n 0) 1 18 := ⟨by decide +kernel, rfl⟩
theorem dd_Sta_brokenGuards_18 : Dc mi_Sta_brokenGuards 18 (.aload_n 1) 1 19 := ⟨by decide +kernel, rfl⟩
theorem dd_Sta_brokenGuards_19 : Dc mi_Sta_brokenGuards 19 (.invokevirtual 182) 3 22 := ⟨by decide +kernel, rfl⟩
theorem dd_Sta_brokenGuards_22 : Dc mi_Sta_brokenGuards 22 (.invokevirtual 112) 3 25 := ⟨by decide +kernel, rfl⟩
theorem dd_Sta_brokenGuards_25 : Db mi_Sta_brokenGuards 25 (.ifCond .ne 7) 7 28 32 := ⟨by decide +kernel, rfl, rfl⟩
theorem dd_Sta_brokenGuards_28 : Dc mi_Sta_brokenGuards 28 (.iconst 0) 1 29 := ⟨by decide +kernel, rfl⟩
theorem dd_Sta_brokenGuards_29 : Db mi_Sta_brokenGuards 29 (.goto 4) 4 32 33 := ⟨by decide +kernel, rfl, rfl⟩
theorem dd_Sta_brokenGuards_32 : Dc mi_Sta_brokenGuards 32 (.iconst 1) 1 33 := ⟨by decide +kernel, rfl⟩
theorem dd_Sta_brokenGuards_33 : Dc mi_Sta_brokenGuards 33 (.istore_n 3) 1 34 := ⟨by decide +kernel, rfl⟩
theorem dd_Sta_brokenGuards_34 : Dc mi_Sta_brokenGuards 34 (.iload_n 2) 1 35 := ⟨by decide +kernel, rfl⟩
theorem dd_Sta_brokenGuards_35 : Dc mi_Sta_brokenGuards 35 (.iload_n 3) 1 36 := ⟨by decide +kernel, rfl⟩
theorem dd_Sta_brokenGuards_36 : Dc mi_Sta_brokenGuards 36 (.iadd) 1 37 := ⟨by decide +kernel, rfl⟩
theorem dd_Sta_brokenGuards_37 : decode (mbc mi_Sta_brokenGuards) 37 = .ok (retI (mrt mi_Sta_brokenGuards), 1) := by decide +kernel
theorem dd_Sta_copyFrom_0 : Dc mi_Sta_copyFrom 0 (.iconst 0) 1 1 := ⟨by decide +kernel, rfl⟩
theorem dd_Sta_copyFrom_1 : Dc mi_Sta_copyFrom 1 (.istore_n 2) 1 2 := ⟨by decide +kernel, rfl⟩
theorem dd_Sta_copyFrom_2 : Dc mi_Sta_copyFrom 2 (.iload_n 2) 1 3 := ⟨by decide +kernel, rfl⟩
theorem dd_Sta_copyFrom_3 : Dc mi_Sta_copyFrom 3 (.bipush 16) 2 5 := ⟨by decide +kernel, rfl⟩
theorem dd_Sta_copyFrom_5 : Db mi_Sta_copyFrom 5 (.if_icmp .ge 24) 24 8 29 := ⟨by decide +kernel, rfl, rfl⟩
theorem dd_Sta_copyFrom_8 : Dc mi_Sta_copyFrom 8 (.aload_n 0) 1 9 := ⟨by decide +kernel, rfl⟩
theorem dd_Sta_copyFrom_9 : Dc mi_Sta_copyFrom 9 (.getfield 11) 3 12 := ⟨by decide +kernel, rfl⟩
theorem dd_Sta_copyFrom_12 : Dc mi_Sta_copyFrom 12 (.iload_n 2) 1 13 := ⟨by decide +kernel, rfl⟩
theorem dd_Sta_copyFrom_13 : Dc mi_Sta_copyFrom 13 (.aaload) 1 14 := ⟨by decide +kernel, rfl⟩
theorem dd_Sta_copyFrom_14 : Dc mi_Sta_copyFrom 14 (.aload_n 1) 1 15 := ⟨by decide +kernel, rfl⟩
theorem dd_Sta_copyFrom_15 : Dc mi_Sta_copyFrom 15 (.getfield 11) 3 18 := ⟨by decide +kernel, rfl⟩
theorem dd_Sta_copyFrom_18 : Dc mi_Sta_copyFrom 18 (.iload_n 2) 1 19 := ⟨by decide +kernel, rfl⟩
theorem dd_Sta_copyFrom_19 : Dc mi_Sta_copyFrom 19 (.aaload) 1 20 := ⟨by decide +kernel, rfl⟩
theorem dd_Sta_copyFrom_20 : Dc mi_Sta_copyFrom 20 (.invokevirtual 35) 3 23 := ⟨by decide +kernel, rfl⟩
theorem dd_Sta_copyFrom_23 : Dc mi_Sta_copyFrom 23 (.iinc 2 1) 3 26 := ⟨by decide +kernel, rfl⟩
theorem dd_Sta_copyFrom_26 : Db mi_Sta_copyFrom 26 (.goto (-24)) (-24) 29 2 := ⟨by decide +kernel, rfl, rfl⟩
theorem dd_Sta_copyFrom_29 : Dc mi_Sta_copyFrom 29 (.aload_n 1) 1 30 := ⟨by decide +kernel, rfl⟩
theorem dd_Sta_copyFrom_30 : Dc mi_Sta_copyFrom 30 (.getfield 20) 3 33 := ⟨by decide +kernel, rfl⟩
theorem dd_Sta_copyFrom_33 : Dc mi_Sta_copyFrom 33 (.iconst 0) 1 34 := ⟨by decide +kernel, rfl⟩
theorem dd_Sta_copyFrom_34 : Dc mi_Sta_copyFrom 34 (.aload_n 0) 1 35 := ⟨by decide +kernel, rfl⟩
theorem dd_Sta_copyFrom_35 : Dc mi_Sta_copyFrom 35 (.getfield 20) 3 38 := ⟨by decide +kernel, rfl⟩
theorem dd_Sta_copyFrom_38 : Dc mi_Sta_copyFrom 38 (.iconst 0) 1 39 := ⟨by decide +kernel, rfl⟩
theorem dd_Sta_copyFrom_39 : Dc mi_Sta_copyFrom 39 (.bipush 64) 2 41 := ⟨by decide +kernel, rfl⟩
theorem dd_Sta_copyFrom_41 : Dc mi_Sta_copyFrom 41 (.invokestatic 39) 3 44 := ⟨by decide +kernel, rfl⟩
theorem dd_Sta_copyFrom_44 : Dc mi_Sta_copyFrom 44 (.iconst 0) 1 45 := ⟨by decide +kernel, rfl⟩
theorem dd_Sta_copyFrom_45 : Dc mi_Sta_copyFrom 45 (.istore_n 2) 1 46 := ⟨by decide +kernel, rfl⟩
theorem dd_Sta_copyFrom_46 : Dc mi_Sta_copyFrom 46 (.iload_n 2) 1 47 := ⟨by decide +kernel, rfl⟩
theorem dd_Sta_copyFrom_47 : Dc mi_Sta_copyFrom 47 (.bipush 6) 2 49 := ⟨by decide +kernel, rfl⟩
theorem dd_Sta_copyFrom_49 : Db mi_Sta_copyFrom 49 (.if_icmp .ge 24) 24 52 73 := ⟨by decide +kernel, rfl, rfl⟩
theorem dd_Sta_copyFrom_52 : Dc mi_Sta_copyFrom 52 (.aload_n 0) 1 53 := ⟨by decide +kernel, rfl⟩
theorem dd_Sta_copyFrom_53 : Dc mi_Sta_copyFrom 53 (.getfield 26) 3 56 := ⟨by decide +kernel, rfl⟩
theorem dd_Sta_copyFrom_56 : Dc mi_Sta_copyFrom 56 (.iload_n 2) 1 57 := ⟨by decide +kernel, rfl⟩
theorem dd_Sta_copyFrom_57 : Dc mi_Sta_copyFrom 57 (.aaload) 1 58 := ⟨by decide +kernel, rfl⟩
theorem dd_Sta_copyFrom_58 : Dc mi_Sta_copyFrom 58 (.aload_n 1) 1 59 := ⟨by decide +kernel, rfl⟩
theorem dd_Sta_copyFrom_59 : Dc mi_Sta_copyFrom 59 (.getfield 26) 3 62 := ⟨by decide +kernel, rfl⟩
theorem dd_Sta_copyFrom_62 : Dc mi_Sta_copyFrom 62 (.iload_n 2) 1 63 := ⟨by decide +kernel, rfl⟩
theorem dd_Sta_copyFrom_63 : Dc mi_Sta_copyFrom 63 (.aaload) 1 64 := ⟨by decide +kernel, rfl⟩
theorem dd_Sta_copyFrom_64 : Dc mi_Sta_copyFrom 64 (.invokevirtual 45) 3 67 := ⟨by decide +kernel, rfl⟩
theorem dd_Sta_copyFrom_67 : Dc mi_Sta_copyFrom 67 (.iinc 2 1) 3 70 := ⟨by decide +kernel, rfl⟩
theorem dd_Sta_copyFrom_70 : Db mi_Sta_copyFrom 70 (.goto (-24)) (-24) 73 46 := ⟨by decide +kernel, rfl, rfl⟩
theorem dd_Sta_copyFrom_73 : Dc mi_Sta_copyFrom 73 (.aload_n 0) 1 74 := ⟨by decide +kernel, rfl⟩
theorem dd_Sta_copyFrom_74 : Dc mi_Sta_copyFrom 74 (.aload_n 1) 1 75 := ⟨by decide +kernel, rfl⟩
theorem dd_Sta_copyFrom_75 : Dc mi_Sta_copyFrom 75 (.getfield 48) 3 78 := ⟨by decide +kernel, rfl⟩
theorem dd_Sta_copyFrom_78 : Dc mi_Sta_copyFrom 78 (.putfield 48) 3 81 := ⟨by decide +kernel, rfl⟩
theorem dd_Sta_copyFrom_81 : Dc mi_Sta_copyFrom 81 (.aload_n 0) 1 82 := ⟨by decide +kernel, rfl⟩
theorem dd_Sta_copyFrom_82 : Dc mi_Sta_copyFrom 82 (.aload_n 1) 1 83 := ⟨by decide +kernel, rfl⟩
theorem dd_Sta_copyFrom_83 : Dc mi_Sta_copyFrom 83 (.getfield 31) 3 86 := ⟨by decide +kernel, rfl⟩
theorem dd_Sta_copyFrom_86 : Dc mi_Sta_copyFrom 86 (.putfield 31) 3 89 := ⟨by decide +kernel, rfl⟩
theorem dd_Sta_copyFrom_89 : Dc mi_Sta_copyFrom 89 (.aload_n 0) 1 90 := ⟨by decide +kernel, rfl⟩
theorem dd_Sta_copyFrom_90 : Dc mi_Sta_copyFrom 90 (.aload_n 1) 1 91 := ⟨by decide +kernel, rfl⟩
theorem dd_Sta_copyFrom_91 : Dc mi_Sta_copyFrom 91 (.getfield 51) 3 94 := ⟨by decide +kernel, rfl⟩
theorem dd_Sta_copyFrom_94 : Dc mi_Sta_copyFrom 94 (.putfield 51) 3 97 := ⟨by decide +kernel, rfl⟩
theorem dd_Sta_copyFrom_97 : Dc mi_Sta_copyFrom 97 (.aload_n 0) 1 98 := ⟨by decide +kernel, rfl⟩
theorem dd_Sta_copyFrom_98 : Dc mi_Sta_copyFrom 98 (.aload_n 1) 1 99 := ⟨by decide +kernel, rfl⟩
theorem dd_Sta_copyFrom_99 : Dc mi_Sta_copyFrom 99 (.getfield 54) 3 102 := ⟨by decide +kernel, rfl⟩
theorem dd_Sta_copyFrom_102 : Dc mi_Sta_copyFrom 102 (.putfield 54) 3 105 := ⟨by decide +kernel, rfl⟩
theorem dd_Sta_copyFrom_105 : Dc mi_Sta_copyFrom 105 (.aload_n 0) 1 106 := ⟨by decide +kernel, rfl⟩
theorem dd_Sta_copyFrom_106 : Dc mi_Sta_copyFrom 106 (.aload_n 1) 1 107 := ⟨by decide +kernel, rfl⟩
theorem dd_Sta_copyFrom_107 : Dc mi_Sta_copyFrom 107 (.getfield 57) 3 110 := ⟨by decide +kernel, rfl⟩
theorem dd_Sta_copyFrom_110 : Dc mi_Sta_copyFrom 110 (.putfield 57) 3 113 := ⟨by decide +kernel, rfl⟩
theorem dd_Sta_copyFrom_113 : Dc mi_Sta_copyFrom 113 (.aload_n 0) 1 114 := ⟨by decide +kernel, rfl⟩
theorem dd_Sta_copyFrom_114 : Dc mi_Sta_copyFrom 114 (.aload_n 1) 1 115 := ⟨by decide +kernel, rfl⟩
theorem dd_Sta_copyFrom_115 : Dc mi_Sta_copyFrom 115 (.getfield 60) 3 118 := ⟨by decide +kernel, rfl⟩
theorem dd_Sta_copyFrom_118 : Dc mi_Sta_copyFrom 118 (.putfield 60) 3 121 := ⟨by decide +kernel, rfl⟩
theorem dd_Sta_copyFrom_121 : decode (mbc mi_Sta_copyFrom) 121 = .ok (retI (mrt mi_Sta_copyFrom), 1) := by decide +kernel
theorem dd_Sta_grant_0 : Dc mi_Sta_grant 0 (.aload_n 0) 1 1 := ⟨by decide +kernel, rfl⟩
theorem dd_Sta_grant_1 : Dc mi_Sta_grant 1 (.iload_n 1) 1 2 := ⟨by decide +kernel, rfl⟩
theorem dd_Sta_grant_2 : Dc mi_Sta_grant 2 (.iload_n 2) 1 3 := ⟨by decide +kernel, rfl⟩
theorem dd_Sta_grant_3 : Dc mi_Sta_grant 3 (.invokevirtual 63) 3 6 := ⟨by decide +kernel, rfl⟩
theorem dd_Sta_grant_6 : Dc mi_Sta_grant 6 (.istore_n 3) 1 7 := ⟨by decide +kernel, rfl⟩
theorem dd_Sta_grant_7 : Dc mi_Sta_grant 7 (.iload_n 3) 1 8 := ⟨by decide +kernel, rfl⟩
theorem dd_Sta_grant_8 : Db mi_Sta_grant 8 (.ifCond .ge 5) 5 11 13 := ⟨by decide +kernel, rfl, rfl⟩
theorem dd_Sta_grant_11 : Dc mi_Sta_grant 11 (.iload_n 3) 1 12 := ⟨by decide +kernel, rfl⟩
theorem dd_Sta_grant_12 : decode (mbc mi_Sta_grant) 12 = .ok (retI (mrt mi_Sta_grant), 1) := by decide +kernel
theorem dd_Sta_grant_13 : Dc mi_Sta_grant 13 (.aload_n 0) 1 14 := ⟨by decide +kernel, rfl⟩
theorem dd_Sta_grant_14 : Dc mi_Sta_grant 14 (.getfield 51) 3 17 := ⟨by decide +kernel, rfl⟩
theorem dd_Sta_grant_17 : Dc mi_Sta_grant 17 (.sipush 300) 3 20 := ⟨by decide +kernel, rfl⟩
theorem dd_Sta_grant_20 : Db mi_Sta_grant 20 (.if_icmp .lt 6) 6 23 26 := ⟨by decide +kernel, rfl, rfl⟩
theorem dd_Sta_grant_23 : Dc mi_Sta_grant 23 (.bipush (-3)) 2 25 := ⟨by decide +kernel, rfl⟩
theorem dd_Sta_grant_25 : decode (mbc mi_Sta_grant) 25 = .ok (retI (mrt mi_Sta_grant), 1) := by decide +kernel
theorem dd_Sta_grant_26 : Dc mi_Sta_grant 26 (.iload_n 3) 1 27 := ⟨by decide +kernel, rfl⟩
theorem dd_Sta_grant_27 : Db mi_Sta_grant 27 (.ifCond .ne 14) 14 30 41 := ⟨by decide +kernel, rfl, rfl⟩
theorem dd_Sta_grant_30 : Dc mi_Sta_grant 30 (.aload_n 0) 1 31 := ⟨by decide +kernel, rfl⟩
theorem dd_Sta_grant_31 : Dc mi_Sta_grant 31 (.iload_n 2) 1 32 := ⟨by decide +kernel, rfl⟩
theorem dd_Sta_grant_32 : Dc mi_Sta_grant 32 (.invokestatic 67) 3 35 := ⟨by decide +kernel, rfl⟩
theorem dd_Sta_grant_35 : Dc mi_Sta_grant 35 (.invokevirtual 71) 3 38 := ⟨by decide +kernel, rfl⟩
theorem dd_Sta_grant_38 : Db mi_Sta_grant 38 (.goto 4) 4 41 42 := ⟨by decide +kernel, rfl, rfl⟩
theorem dd_Sta_grant_41 : Dc mi_Sta_grant 41 (.aconst_null) 1 42 := ⟨by decide +kernel, rfl⟩
theorem dd_Sta_grant_42 : Dc mi_Sta_grant 42 (.astore 4) 2 44 := ⟨by decide +kernel, rfl⟩
theorem dd_Sta_grant_44 : Dc mi_Sta_grant 44 (.aload 4) 2 46 := ⟨by decide +kernel, rfl⟩
theorem dd_Sta_grant_46 : Db mi_Sta_grant 46 (.ifnonnull 6) 6 49 52 := ⟨by decide +kernel, rfl, rfl⟩
theorem dd_Sta_grant_49 : Dc mi_Sta_grant 49 (.bipush (-6)) 2 51 := ⟨by decide +kernel, rfl⟩
theorem dd_Sta_grant_51 : decode (mbc mi_Sta_grant) 51 = .ok (retI (mrt mi_Sta_grant), 1) := by decide +kernel
theorem dd_Sta_grant_52 : Dc mi_Sta_grant 52 (.aload 4) 2 54 := ⟨by decide +kernel, rfl⟩
theorem dd_Sta_grant_54 : Dc mi_Sta_grant 54 (.iload_n 1) 1 55 := ⟨by decide +kernel, rfl⟩
theorem dd_Sta_grant_55 : Dc mi_Sta_grant 55 (.putfield 75) 3 58 := ⟨by decide +kernel, rfl⟩
theorem dd_Sta_grant_58 : Dc mi_Sta_grant 58 (.aload 4) 2 60 := ⟨by decide +kernel, rfl⟩
theorem dd_Sta_grant_60 : Dc mi_Sta_grant 60 (.aload_n 0) 1 61 := ⟨by decide +kernel, rfl⟩
theorem dd_Sta_grant_61 : Dc mi_Sta_grant 61 (.getfield 51) 3 64 := ⟨by decide +kernel, rfl⟩
theorem dd_Sta_grant_64 : Dc mi_Sta_grant 64 (.putfield 78) 3 67 := ⟨by decide +kernel, rfl⟩
theorem dd_Sta_grant_67 : Dc mi_Sta_grant 67 (.aload 4) 2 69 := ⟨by decide +kernel, rfl⟩
theorem dd_Sta_grant_69 : Dc mi_Sta_grant 69 (.iload_n 2) 1 70 := ⟨by decide +kernel, rfl⟩
theorem dd_Sta_grant_70 : Dc mi_Sta_grant 70 (.putfield 81) 3 73 := ⟨by decide +kernel, rfl⟩
theorem dd_Sta_grant_73 : Dc mi_Sta_grant 73 (.aload 4) 2 75 := ⟨by decide +kernel, rfl⟩
theorem dd_Sta_grant_75 : Dc mi_Sta_grant 75 (.aload_n 0) 1 76 := ⟨by decide +kernel, rfl⟩
theorem dd_Sta_grant_76 : Dc mi_Sta_grant 76 (.getfield 48) 3 79 := ⟨by decide +kernel, rfl⟩
theorem dd_Sta_grant_79 : Dc mi_Sta_grant 79 (.putfield 84) 3 82 := ⟨by decide +kernel, rfl⟩
theorem dd_Sta_grant_82 : Dc mi_Sta_grant 82 (.aload_n 0) 1 83 := ⟨by decide +kernel, rfl⟩
theorem dd_Sta_grant_83 : Dc mi_Sta_grant 83 (.dup) 1 84 := ⟨by decide +kernel, rfl⟩
theorem dd_Sta_grant_84 : Dc mi_Sta_grant 84 (.getfield 51) 3 87 := ⟨by decide +kernel, rfl⟩
theorem dd_Sta_grant_87 : Dc mi_Sta_grant 87 (.iconst 1) 1 88 := ⟨by decide +kernel, rfl⟩
theorem dd_Sta_grant_88 : Dc mi_Sta_grant 88 (.iadd) 1 89 := ⟨by decide +kernel, rfl⟩
theorem dd_Sta_grant_89 : Dc mi_Sta_grant 89 (.putfield 51) 3 92 := ⟨by decide +kernel, rfl⟩
theorem dd_Sta_grant_92 : Dc mi_Sta_grant 92 (.aload 4) 2 94 := ⟨by decide +kernel, rfl⟩
theorem dd_Sta_grant_94 : Dc mi_Sta_grant 94 (.getfield 78) 3 97 := ⟨by decide +kernel, rfl⟩
theorem dd_Sta_grant_97 : decode (mbc mi_Sta_grant) 97 = .ok (retI (mrt mi_Sta_grant), 1) := by decide +kernel
theorem dd_Sta_whyNot_0 : Dc mi_Sta_whyNot 0 (.aload_n 0) 1 1 := ⟨by decide +kernel, rfl⟩
theorem dd_Sta_whyNot_1 : Dc mi_Sta_whyNot 1 (.iload_n 1) 1 2 := ⟨by decide +kernel, rfl⟩
theorem dd_Sta_whyNot_2 : Dc mi_Sta_whyNot 2 (.invokevirtual 90) 3 5 := ⟨by decide +kernel, rfl⟩
theorem dd_Sta_whyNot_5 : Dc mi_Sta_whyNot 5 (.astore_n 3) 1 6 := ⟨by decide +kernel, rfl⟩
theorem dd_Sta_whyNot_6 : Dc mi_Sta_whyNot 6 (.aload_n 3) 1 7 := ⟨by decide +kernel, rfl⟩
theorem dd_Sta_whyNot_7 : Db mi_Sta_whyNot 7 (.ifnonnull 5) 5 10 12 := ⟨by decide +kernel, rfl, rfl⟩
theorem dd_Sta_whyNot_10 : Dc mi_Sta_whyNot 10 (.iconst (-1)) 1 11 := ⟨by decide +kernel, rfl⟩
theorem dd_Sta_whyNot_11 : decode (mbc mi_Sta_whyNot) 11 = .ok (retI (mrt mi_Sta_whyNot), 1) := by decide +kernel
theorem dd_Sta_whyNot_12 : Dc mi_Sta_whyNot 12 (.iload_n 2) 1 13 := ⟨by decide +kernel, rfl⟩
theorem dd_Sta_whyNot_13 : Dc mi_Sta_whyNot 13 (.iconst 1) 1 14 := ⟨by decide +kernel, rfl⟩
theorem dd_Sta_whyNot_14 : Db mi_Sta_whyNot 14 (.if_icmp .lt 9) 9 17 23 := ⟨by decide +kernel, rfl, rfl⟩
theorem dd_Sta_whyNot_17 : Dc mi_Sta_whyNot 17 (.iload_n 2) 1 18 := ⟨by decide +kernel, rfl⟩
theorem dd_Sta_whyNot_18 : Dc mi_Sta_whyNot 18 (.bipush 14) 2 20 := ⟨by decide +kernel, rfl⟩
theorem dd_Sta_whyNot_20 : Db mi_Sta_whyNot 20 (.if_icmp .le 6) 6 23 26 := ⟨by decide +kernel, rfl, rfl⟩
theorem dd_Sta_whyNot_23 : Dc mi_Sta_whyNot 23 (.bipush (-2)) 2 25 := ⟨by decide +kernel, rfl⟩
theorem dd_Sta_whyNot_25 : decode (mbc mi_Sta_whyNot) 25 = .ok (retI (mrt mi_Sta_whyNot), 1) := by decide +kernel
theorem dd_Sta_whyNot_26 : Dc mi_Sta_whyNot 26 (.aload_n 3) 1 27 := ⟨by decide +kernel, rfl⟩
theorem dd_Sta_whyNot_27 : Dc mi_Sta_whyNot 27 (.getfield 104) 3 30 := ⟨by decide +kernel, rfl⟩
theorem dd_Sta_whyNot_30 : Db mi_Sta_whyNot 30 (.ifCond .ne 5) 5 33 35 := ⟨by decide +kernel, rfl, rfl⟩
theorem dd_Sta_whyNot_33 : Dc mi_Sta_whyNot 33 (.iconst 1) 1 34 := ⟨by decide +kernel, rfl⟩
theorem dd_Sta_whyNot_34 : decode (mbc mi_Sta_whyNot) 34 = .ok (retI (mrt mi_Sta_whyNot), 1) := by decide +kernel
theorem dd_Sta_whyNot_35 : Dc mi_Sta_whyNot 35 (.iload_n 2) 1 36 := ⟨by decide +kernel, rfl⟩
theorem dd_Sta_whyNot_36 : Dc mi_Sta_whyNot 36 (.invokestatic 67) 3 39 := ⟨by decide +kernel, rfl⟩
theorem dd_Sta_whyNot_39 : Dc mi_Sta_whyNot 39 (.istore 4) 2 41 := ⟨by decide +kernel, rfl⟩
theorem dd_Sta_whyNot_41 : Dc mi_Sta_whyNot 41 (.aload_n 0) 1 42 := ⟨by decide +kernel, rfl⟩
theorem dd_Sta_whyNot_42 : Dc mi_Sta_whyNot 42 (.iload_n 1) 1 43 := ⟨by decide +kernel, rfl⟩
theorem dd_Sta_whyNot_43 : Dc mi_Sta_whyNot 43 (.invokevirtual 185) 3 46 := ⟨by decide +kernel, rfl⟩
theorem dd_Sta_whyNot_46 : Dc mi_Sta_whyNot 46 (.iload 4) 2 48 := ⟨by decide +kernel, rfl⟩
theorem dd_Sta_whyNot_48 : Dc mi_Sta_whyNot 48 (.invokestatic 138) 3 51 := ⟨by decide +kernel, rfl⟩
theorem dd_Sta_whyNot_51 : Dc mi_Sta_whyNot 51 (.iadd) 1 52 := ⟨by decide +kernel, rfl⟩
theorem dd_Sta_whyNot_52 : Dc mi_Sta_whyNot 52 (.aload_n 3) 1 53 := ⟨by decide +kernel, rfl⟩
theorem dd_Sta_whyNot_53 : Dc mi_Sta_whyNot 53 (.getfield 127) 3 56 := ⟨by decide +kernel, rfl⟩
theorem dd_Sta_whyNot_56 : Db mi_Sta_whyNot 56 (.if_icmp .le 5) 5 59 61 := ⟨by decide +kernel, rfl, rfl⟩
theorem dd_Sta_whyNot_59 : Dc mi_Sta_whyNot 59 (.iconst 2) 1 60 := ⟨by decide +kernel, rfl⟩
theorem dd_Sta_whyNot_60 : decode (mbc mi_Sta_whyNot) 60 = .ok (retI (mrt mi_Sta_whyNot), 1) := by decide +kernel
theorem dd_Sta_whyNot_61 : Dc mi_Sta_whyNot 61 (.aload_n 0) 1 62 := ⟨by decide +kernel, rfl⟩
theorem dd_Sta_whyNot_62 : Dc mi_Sta_whyNot 62 (.iload 4) 2 64 := ⟨by decide +kernel, rfl⟩
theorem dd_Sta_whyNot_64 : Dc mi_Sta_whyNot 64 (.invokevirtual 148) 3 67 := ⟨by decide +kernel, rfl⟩
theorem dd_Sta_whyNot_67 : Db mi_Sta_whyNot 67 (.ifnonnull 7) 7 70 74 := ⟨by decide +kernel, rfl, rfl⟩
theorem dd_Sta_whyNot_70 : Dc mi_Sta_whyNot 70 (.iconst 3) 1 71 := ⟨by decide +kernel, rfl⟩
theorem dd_Sta_whyNot_71 : Db mi_Sta_whyNot 71 (.goto 4) 4 74 75 := ⟨by decide +kernel, rfl, rfl⟩
theorem dd_Sta_whyNot_74 : Dc mi_Sta_whyNot 74 (.iconst 0) 1 75 := ⟨by decide +kernel, rfl⟩
theorem dd_Sta_whyNot_75 : decode (mbc mi_Sta_whyNot) 75 = .ok (retI (mrt mi_Sta_whyNot), 1) := by decide +kernel
theorem dd_Sta_sizeFor_0 : Dc mi_Sta_sizeFor 0 (.iconst 0) 1 1 := ⟨by decide +kernel, rfl⟩
theorem dd_Sta_sizeFor_1 : Dc mi_Sta_sizeFor 1 (.istore_n 1) 1 2 := ⟨by decide +kernel, rfl⟩
theorem dd_Sta_sizeFor_2 : Dc mi_Sta_sizeFor 2 (.iload_n 1) 1 3 := ⟨by decide +kernel, rfl⟩
theorem dd_Sta_sizeFor_3 : Dc mi_Sta_sizeFor 3 (.iconst 2) 1 4 := ⟨by decide +kernel, rfl⟩
theorem dd_Sta_sizeFor_4 : Db mi_Sta_sizeFor 4 (.if_icmp .ge 19) 19 7 23 := ⟨by decide +kernel, rfl, rfl⟩
theorem dd_Sta_sizeFor_7 : Dc mi_Sta_sizeFor 7 (.iload_n 1) 1 8 := ⟨by decide +kernel, rfl⟩
theorem dd_Sta_sizeFor_8 : Dc mi_Sta_sizeFor 8 (.invokestatic 138) 3 11 := ⟨by decide +kernel, rfl⟩
theorem dd_Sta_sizeFor_11 : Dc mi_Sta_sizeFor 11 (.iload_n 0) 1 12 := ⟨by decide +kernel, rfl⟩
theorem dd_Sta_sizeFor_12 : Dc mi_Sta_sizeFor 12 (.iconst 2) 1 13 := ⟨by decide +kernel, rfl⟩
theorem dd_Sta_sizeFor_13 : Dc mi_Sta_sizeFor 13 (.iadd) 1 14 := ⟨by decide +kernel, rfl⟩
theorem dd_Sta_sizeFor_14 : Db mi_Sta_sizeFor 14 (.if_icmp .ge 9) 9 17 23 := ⟨by decide +kernel, rfl, rfl⟩
theorem dd_Sta_sizeFor_17 : Dc mi_Sta_sizeFor 17 (.iinc 1 1) 3 20 := ⟨by decide +kernel, rfl⟩
theorem dd_Sta_sizeFor_20 : Db mi_Sta_sizeFor 20 (.goto (-18)) (-18) 23 2 := ⟨by decide +kernel, rfl, rfl⟩
theorem dd_Sta_sizeFor_23 : Dc mi_Sta_sizeFor 23 (.iload_n 1) 1 24 := ⟨by decide +kernel, rfl⟩
theorem dd_Sta_sizeFor_24 : decode (mbc mi_Sta_sizeFor) 24 = .ok (retI (mrt mi_Sta_sizeFor), 1) := by decide +kernel
theorem dd_Sta_roomFor_0 : Dc mi_Sta_roomFor 0 (.iload_n 1) 1 1 := ⟨by decide +kernel, rfl⟩
theorem dd_Sta_roomFor_1 : Dc mi_Sta_roomFor 1 (.istore_n 2) 1 2 := ⟨by decide +kernel, rfl⟩
theorem dd_Sta_roomFor_2 : Dc mi_Sta_roomFor 2 (.iload_n 2) 1 3 := ⟨by decide +kernel, rfl⟩
theorem dd_Sta_roomFor_3 : Dc mi_Sta_roomFor 3 (.iconst 3) 1 4 := ⟨by decide +kernel, rfl⟩
theorem dd_Sta_roomFor_4 : Db mi_Sta_roomFor 4 (.if_icmp .ge 21) 21 7 25 := ⟨by decide +kernel, rfl, rfl⟩
theorem dd_Sta_roomFor_7 : Dc mi_Sta_roomFor 7 (.aload_n 0) 1 8 := ⟨by decide +kernel, rfl⟩
theorem dd_Sta_roomFor_8 : Dc mi_Sta_roomFor 8 (.iload_n 2) 1 9 := ⟨by decide +kernel, rfl⟩
theorem dd_Sta_roomFor_9 : Dc mi_Sta_roomFor 9 (.invokevirtual 145) 3 12 := ⟨by decide +kernel, rfl⟩
theorem dd_Sta_roomFor_12 : Dc mi_Sta_roomFor 12 (.astore_n 3) 1 13 := ⟨by decide +kernel, rfl⟩
theorem dd_Sta_roomFor_13 : Dc mi_Sta_roomFor 13 (.aload_n 3) 1 14 := ⟨by decide +kernel, rfl⟩
theorem dd_Sta_roomFor_14 : Db mi_Sta_roomFor 14 (.ifnull 5) 5 17 19 := ⟨by decide +kernel, rfl, rfl⟩
theorem dd_Sta_roomFor_17 : Dc mi_Sta_roomFor 17 (.aload_n 3) 1 18 := ⟨by decide +kernel, rfl⟩
theorem dd_Sta_roomFor_18 : decode (mbc mi_Sta_roomFor) 18 = .ok (retI (mrt mi_Sta_roomFor), 1) := by decide +kernel
theorem dd_Sta_roomFor_19 : Dc mi_Sta_roomFor 19 (.iinc 2 1) 3 22 := ⟨by decide +kernel, rfl⟩
theorem dd_Sta_roomFor_22 : Db mi_Sta_roomFor 22 (.goto (-20)) (-20) 25 2 := ⟨by decide +kernel, rfl, rfl⟩
theorem dd_Sta_roomFor_25 : Dc mi_Sta_roomFor 25 (.aconst_null) 1 26 := ⟨by decide +kernel, rfl⟩
theorem dd_Sta_roomFor_26 : decode (mbc mi_Sta_roomFor) 26 = .ok (retI (mrt mi_Sta_roomFor), 1) := by decide +kernel
theorem dd_Sta_lowestFree_0 : Dc mi_Sta_lowestFree 0 (.aload_n 0) 1 1 := ⟨by decide +kernel, rfl⟩
theorem dd_Sta_lowestFree_1 : Dc mi_Sta_lowestFree 1 (.getfield 11) 3 4 := ⟨by decide +kernel, rfl⟩
theorem dd_Sta_lowestFree_4 : Dc mi_Sta_lowestFree 4 (.astore_n 2) 1 5 := ⟨by decide +kernel, rfl⟩
theorem dd_Sta_lowestFree_5 : Dc mi_Sta_lowestFree 5 (.aload_n 2) 1 6 := ⟨by decide +kernel, rfl⟩
theorem dd_Sta_lowestFree_6 : Dc mi_Sta_lowestFree 6 (.arraylength) 1 7 := ⟨by decide +kernel, rfl⟩
theorem dd_Sta_lowestFree_7 : Dc mi_Sta_lowestFree 7 (.istore_n 3) 1 8 := ⟨by decide +kernel, rfl⟩
theorem dd_Sta_lowestFree_8 : Dc mi_Sta_lowestFree 8 (.iconst 0) 1 9 := ⟨by decide +kernel, rfl⟩
theorem dd_Sta_lowestFree_9 : Dc mi_Sta_lowestFree 9 (.istore 4) 2 11 := ⟨by decide +kernel, rfl⟩
theorem dd_Sta_lowestFree_11 : Dc mi_Sta_lowestFree 11 (.iload 4) 2 13 := ⟨by decide +kernel, rfl⟩
theorem dd_Sta_lowestFree_13 : Dc mi_Sta_lowestFree 13 (.iload_n 3) 1 14 := ⟨by decide +kernel, rfl⟩
theorem dd_Sta_lowestFree_14 : Db mi_Sta_lowestFree 14 (.if_icmp .ge 27) 27 17 41 := ⟨by decide +kernel, rfl, rfl⟩
theorem dd_Sta_lowestFree_17 : Dc mi_Sta_lowestFree 17 (.aload_n 2) 1 18 := ⟨by decide +kernel, rfl⟩
theorem dd_Sta_lowestFree_18 : Dc mi_Sta_lowestFree 18 (.iload 4) 2 20 := ⟨by decide +kernel, rfl⟩
theorem dd_Sta_lowestFree_20 : Dc mi_Sta_lowestFree 20 (.aaload) 1 21 := ⟨by decide +kernel, rfl⟩
theorem dd_Sta_lowestFree_21 : Dc mi_Sta_lowestFree 21 (.astore 5) 2 23 := ⟨by decide +kernel, rfl⟩
theorem dd_Sta_lowestFree_23 : Dc mi_Sta_lowestFree 23 (.aload 5) 2 25 := ⟨by decide +kernel, rfl⟩
theorem dd_Sta_lowestFree_25 : Dc mi_Sta_lowestFree 25 (.iload_n 1) 1 26 := ⟨by decide +kernel, rfl⟩
theorem dd_Sta_lowestFree_26 : Dc mi_Sta_lowestFree 26 (.invokevirtual 141) 3 29 := ⟨by decide +kernel, rfl⟩
theorem dd_Sta_lowestFree_29 : Db mi_Sta_lowestFree 29 (.ifCond .eq 6) 6 32 35 := ⟨by decide +kernel, rfl, rfl⟩
theorem dd_Sta_lowestFree_32 : Dc mi_Sta_lowestFree 32 (.aload 5) 2 34 := ⟨by decide +kernel, rfl⟩
theorem dd_Sta_lowestFree_34 : decode (mbc mi_Sta_lowestFree) 34 = .ok (retI (mrt mi_Sta_lowestFree), 1) := by decide +kernel
theorem dd_Sta_lowestFree_35 : Dc mi_Sta_lowestFree 35 (.iinc 4 1) 3 38 := ⟨by decide +kernel, rfl⟩
theorem dd_Sta_lowestFree_38 : Db mi_Sta_lowestFree 38 (.goto (-27)) (-27) 41 11 := ⟨by decide +kernel, rfl, rfl⟩
theorem dd_Sta_lowestFree_41 : Dc mi_Sta_lowestFree 41 (.aconst_null) 1 42 := ⟨by decide +kernel, rfl⟩
theorem dd_Sta_lowestFree_42 : decode (mbc mi_Sta_lowestFree) 42 = .ok (retI (mrt mi_Sta_lowestFree), 1) := by decide +kernel
theorem dd_Sta_cutOut_0 : Dc mi_Sta_cutOut 0 (.aload_n 0) 1 1 := ⟨by decide +kernel, rfl⟩
theorem dd_Sta_cutOut_1 : Dc mi_Sta_cutOut 1 (.iload_n 1) 1 2 := ⟨by decide +kernel, rfl⟩
theorem dd_Sta_cutOut_2 : Dc mi_Sta_cutOut 2 (.invokevirtual 148) 3 5 := ⟨by decide +kernel, rfl⟩
theorem dd_Sta_cutOut_5 : Dc mi_Sta_cutOut 5 (.astore_n 2) 1 6 := ⟨by decide +kernel, rfl⟩
theorem dd_Sta_cutOut_6 : Dc mi_Sta_cutOut 6 (.aload_n 2) 1 7 := ⟨by decide +kernel, rfl⟩
theorem dd_Sta_cutOut_7 : Db mi_Sta_cutOut 7 (.ifnonnull 5) 5 10 12 := ⟨by decide +kernel, rfl, rfl⟩
theorem dd_Sta_cutOut_10 : Dc mi_Sta_cutOut 10 (.aconst_null) 1 11 := ⟨by decide +kernel, rfl⟩
theorem dd_Sta_cutOut_11 : decode (mbc mi_Sta_cutOut) 11 = .ok (retI (mrt mi_Sta_cutOut), 1) := by decide +kernel
theorem dd_Sta_cutOut_12 : Dc mi_Sta_cutOut 12 (.aload_n 2) 1 13 := ⟨by decide +kernel, rfl⟩
theorem dd_Sta_cutOut_13 : Dc mi_Sta_cutOut 13 (.getfield 151) 3 16 := ⟨by decide +kernel, rfl⟩
theorem dd_Sta_cutOut_16 : Dc mi_Sta_cutOut 16 (.istore_n 3) 1 17 := ⟨by decide +kernel, rfl⟩
theorem dd_Sta_cutOut_17 : Dc mi_Sta_cutOut 17 (.iload_n 3) 1 18 := ⟨by decide +kernel, rfl⟩
theorem dd_Sta_cutOut_18 : Dc mi_Sta_cutOut 18 (.iload_n 1) 1 19 := ⟨by decide +kernel, rfl⟩
theorem dd_Sta_cutOut_19 : Db mi_Sta_cutOut 19 (.if_icmp .le 14) 14 22 33 := ⟨by decide +kernel, rfl, rfl⟩
theorem dd_Sta_cutOut_22 : Dc mi_Sta_cutOut 22 (.aload_n 0) 1 23 := ⟨by decide +kernel, rfl⟩
theorem dd_Sta_cutOut_23 : Dc mi_Sta_cutOut 23 (.aload_n 2) 1 24 := ⟨by decide +kernel, rfl⟩
theorem dd_Sta_cutOut_24 : Dc mi_Sta_cutOut 24 (.invokevirtual 154) 3 27 := ⟨by decide +kernel, rfl⟩
theorem dd_Sta_cutOut_27 : Dc mi_Sta_cutOut 27 (.iinc 3 (-1)) 3 30 := ⟨by decide +kernel, rfl⟩
theorem dd_Sta_cutOut_30 : Db mi_Sta_cutOut 30 (.goto (-13)) (-13) 33 17 := ⟨by decide +kernel, rfl, rfl⟩
theorem dd_Sta_cutOut_33 : Dc mi_Sta_cutOut 33 (.aload_n 2) 1 34 := ⟨by decide +kernel, rfl⟩
theorem dd_Sta_cutOut_34 : decode (mbc mi_Sta_cutOut) 34 = .ok (retI (mrt mi_Sta_cutOut), 1) := by decide +kernel
theorem dd_Sta_halve_0 : Dc mi_Sta_halve 0 (.aload_n 0) 1 1 := ⟨by decide +kernel, rfl⟩
theorem dd_Sta_halve_1 : Dc mi_Sta_halve 1 (.aload_n 1) 1 2 := ⟨by decide +kernel, rfl⟩
theorem dd_Sta_halve_2 : Dc mi_Sta_halve 2 (.getfield 98) 3 5 := ⟨by decide +kernel, rfl⟩
theorem dd_Sta_halve_5 : Dc mi_Sta_halve 5 (.aload_n 1) 1 6 := ⟨by decide +kernel, rfl⟩
theorem dd_Sta_halve_6 : Dc mi_Sta_halve 6 (.invokevirtual 157) 3 9 := ⟨by decide +kernel, rfl⟩
theorem dd_Sta_halve_9 : Dc mi_Sta_halve 9 (.iconst 2) 1 10 := ⟨by decide +kernel, rfl⟩
theorem dd_Sta_halve_10 : Dc mi_Sta_halve 10 (.idiv) 1 11 := ⟨by decide +kernel, rfl⟩
theorem dd_Sta_halve_11 : Dc mi_Sta_halve 11 (.iadd) 1 12 := ⟨by decide +kernel, rfl⟩
theorem dd_Sta_halve_12 : Dc mi_Sta_halve 12 (.invokevirtual 160) 3 15 := ⟨by decide +kernel, rfl⟩
theorem dd_Sta_halve_15 : Dc mi_Sta_halve 15 (.astore_n 2) 1 16 := ⟨by decide +kernel, rfl⟩
theorem dd_Sta_halve_16 : Dc mi_Sta_halve 16 (.aload_n 2) 1 17 := ⟨by decide +kernel, rfl⟩
theorem dd_Sta_halve_17 : Db mi_Sta_halve 17 (.ifnonnull 4) 4 20 21 := ⟨by decide +kernel, rfl, rfl⟩
theorem dd_Sta_halve_20 : decode (mbc mi_Sta_halve) 20 = .ok (retI (mrt mi_Sta_halve), 1) := by decide +kernel
theorem dd_Sta_halve_21 : Dc mi_Sta_halve 21 (.aload_n 1) 1 22 := ⟨by decide +kernel, rfl⟩
theorem dd_Sta_halve_22 : Dc mi_Sta_halve 22 (.dup) 1 23 := ⟨by decide +kernel, rfl⟩
theorem dd_Sta_halve_23 : Dc mi_Sta_halve 23 (.getfield 151) 3 26 := ⟨by decide +kernel, rfl⟩
theorem dd_Sta_halve_26 : Dc mi_Sta_halve 26 (.iconst 1) 1 27 := ⟨by decide +kernel, rfl⟩
theorem dd_Sta_halve_27 : Dc mi_Sta_halve 27 (.isub) 1 28 := ⟨by decide +kernel, rfl⟩
theorem dd_Sta_halve_28 : Dc mi_Sta_halve 28 (.putfield 151) 3 31 := ⟨by decide +kernel, rfl⟩
theorem dd_Sta_halve_31 : Dc mi_Sta_halve 31 (.aload_n 2) 1 32 := ⟨by decide +kernel, rfl⟩
theorem dd_Sta_halve_32 : Dc mi_Sta_halve 32 (.aload_n 1) 1 33 := ⟨by decide +kernel, rfl⟩
theorem dd_Sta_halve_33 : Dc mi_Sta_halve 33 (.getfield 151) 3 36 := ⟨by decide +kernel, rfl⟩
theorem dd_Sta_halve_36 : Dc mi_Sta_halve 36 (.putfield 151) 3 39 := ⟨by decide +kernel, rfl⟩
theorem dd_Sta_halve_39 : Dc mi_Sta_halve 39 (.aload_n 0) 1 40 := ⟨by decide +kernel, rfl⟩
theorem dd_Sta_halve_40 : Dc mi_Sta_halve 40 (.dup) 1 41 := ⟨by decide +kernel, rfl⟩
theorem dd_Sta_halve_41 : Dc mi_Sta_halve 41 (.getfield 54) 3 44 := ⟨by decide +kernel, rfl⟩
theorem dd_Sta_halve_44 : Dc mi_Sta_halve 44 (.iconst 1) 1 45 := ⟨by decide +kernel, rfl⟩
theorem dd_Sta_halve_45 : Dc mi_Sta_halve 45 (.iadd) 1 46 := ⟨by decide +kernel, rfl⟩
theorem dd_Sta_halve_46 : Dc mi_Sta_halve 46 (.putfield 54) 3 49 := ⟨by decide +kernel, rfl⟩
theorem dd_Sta_halve_49 : decode (mbc mi_Sta_halve) 49 = .ok (retI (mrt mi_Sta_halve), 1) := by decide +kernel
theorem dd_Sta_placeAt_0 : Dc mi_Sta_placeAt 0 (.iload_n 1) 1 1 := ⟨by decide +kernel, rfl⟩
theorem dd_Sta_placeAt_1 : Db mi_Sta_placeAt 1 (.ifCond .lt 9) 9 4 10 := ⟨by decide +kernel, rfl, rfl⟩
theorem dd_Sta_placeAt_4 : Dc mi_Sta_placeAt 4 (.iload_n 1) 1 5 := ⟨by decide +kernel, rfl⟩
theorem dd_Sta_placeAt_5 : Dc mi_Sta_placeAt 5 (.bipush 64) 2 7 := ⟨by decide +kernel, rfl⟩
theorem dd_Sta_placeAt_7 : Db mi_Sta_placeAt 7 (.if_icmp .lt 7) 7 10 14 := ⟨by decide +kernel, rfl, rfl⟩
theorem dd_Sta_placeAt_10 : Dc mi_Sta_placeAt 10 (.aconst_null) 1 11 := ⟨by decide +kernel, rfl⟩
theorem dd_Sta_placeAt_11 : Db mi_Sta_placeAt 11 (.goto 11) 11 14 22 := ⟨by decide +kernel, rfl, rfl⟩
theorem dd_Sta_placeAt_14 : Dc mi_Sta_placeAt 14 (.aload_n 0) 1 15 := ⟨by decide +kernel, rfl⟩
theorem dd_Sta_placeAt_15 : Dc mi_Sta_placeAt 15 (.getfield 11) 3 18 := ⟨by decide +kernel, rfl⟩
theorem dd_Sta_placeAt_18 : Dc mi_Sta_placeAt 18 (.iload_n 1) 1 19 := ⟨by decide +kernel, rfl⟩
theorem dd_Sta_placeAt_19 : Dc mi_Sta_placeAt 19 (.iconst 4) 1 20 := ⟨by decide +kernel, rfl⟩
theorem dd_Sta_placeAt_20 : Dc mi_Sta_placeAt 20 (.idiv) 1 21 := ⟨by decide +kernel, rfl⟩
theorem dd_Sta_placeAt_21 : Dc mi_Sta_placeAt 21 (.aaload) 1 22 := ⟨by decide +kernel, rfl⟩
theorem dd_Sta_placeAt_22 : decode (mbc mi_Sta_placeAt) 22 = .ok (retI (mrt mi_Sta_placeAt), 1) := by decide +kernel
theorem dd_Sta_takeBack_0 : Dc mi_Sta_takeBack 0 (.aload_n 0) 1 1 := ⟨by decide +kernel, rfl⟩
theorem dd_Sta_takeBack_1 : Dc mi_Sta_takeBack 1 (.iload_n 2) 1 2 := ⟨by decide +kernel, rfl⟩
theorem dd_Sta_takeBack_2 : Dc mi_Sta_takeBack 2 (.invokevirtual 87) 3 5 := ⟨by decide +kernel, rfl⟩
theorem dd_Sta_takeBack_5 : Dc mi_Sta_takeBack 5 (.astore_n 3) 1 6 := ⟨by decide +kernel, rfl⟩
theorem dd_Sta_takeBack_6 : Dc mi_Sta_takeBack 6 (.aload_n 0) 1 7 := ⟨by decide +kernel, rfl⟩
theorem dd_Sta_takeBack_7 : Dc mi_Sta_takeBack 7 (.iload_n 1) 1 8 := ⟨by decide +kernel, rfl⟩
theorem dd_Sta_takeBack_8 : Dc mi_Sta_takeBack 8 (.invokevirtual 90) 3 11 := ⟨by decide +kernel, rfl⟩
theorem dd_Sta_takeBack_11 : Db mi_Sta_takeBack 11 (.ifnull 7) 7 14 18 := ⟨by decide +kernel, rfl, rfl⟩
theorem dd_Sta_takeBack_14 : Dc mi_Sta_takeBack 14 (.aload_n 3) 1 15 := ⟨by decide +kernel, rfl⟩
theorem dd_Sta_takeBack_15 : Db mi_Sta_takeBack 15 (.ifnonnull 5) 5 18 20 := ⟨by decide +kernel, rfl, rfl⟩
theorem dd_Sta_takeBack_18 : Dc mi_Sta_takeBack 18 (.iconst (-1)) 1 19 := ⟨by decide +kernel, rfl⟩
theorem dd_Sta_takeBack_19 : decode (mbc mi_Sta_takeBack) 19 = .ok (retI (mrt mi_Sta_takeBack), 1) := by decide +kernel
theorem dd_Sta_takeBack_20 : Dc mi_Sta_takeBack 20 (.aload_n 3) 1 21 := ⟨by decide +kernel, rfl⟩
theorem dd_Sta_takeBack_21 : Dc mi_Sta_takeBack 21 (.getfield 75) 3 24 := ⟨by decide +kernel, rfl⟩
theorem dd_Sta_takeBack_24 : Dc mi_Sta_takeBack 24 (.iload_n 1) 1 25 := ⟨by decide +kernel, rfl⟩
theorem dd_Sta_takeBack_25 : Db mi_Sta_takeBack 25 (.if_icmp .eq 6) 6 28 31 := ⟨by decide +kernel, rfl, rfl⟩
theorem dd_Sta_takeBack_28 : Dc mi_Sta_takeBack 28 (.bipush (-4)) 2 30 := ⟨by decide +kernel, rfl⟩
theorem dd_Sta_takeBack_30 : decode (mbc mi_Sta_takeBack) 30 = .ok (retI (mrt mi_Sta_takeBack), 1) := by decide +kernel
theorem dd_Sta_takeBack_31 : Dc mi_Sta_takeBack 31 (.aload_n 0) 1 32 := ⟨by decide +kernel, rfl⟩
theorem dd_Sta_takeBack_32 : Dc mi_Sta_takeBack 32 (.aload_n 3) 1 33 := ⟨by decide +kernel, rfl⟩
theorem dd_Sta_takeBack_33 : Dc mi_Sta_takeBack 33 (.invokevirtual 94) 3 36 := ⟨by decide +kernel, rfl⟩
theorem dd_Sta_takeBack_36 : decode (mbc mi_Sta_takeBack) 36 = .ok (retI (mrt mi_Sta_takeBack), 1) := by decide +kernel
theorem dd_Sta_free_0 : Dc mi_Sta_free 0 (.aload_n 0) 1 1 := ⟨by decide +kernel, rfl⟩
theorem dd_Sta_free_1 : Dc mi_Sta_free 1 (.aload_n 1) 1 2 := ⟨by decide +kernel, rfl⟩
theorem dd_Sta_free_2 : Dc mi_Sta_free 2 (.invokevirtual 163) 3 5 := ⟨by decide +kernel, rfl⟩
theorem dd_Sta_free_5 : Dc mi_Sta_free 5 (.istore_n 2) 1 6 := ⟨by decide +kernel, rfl⟩
theorem dd_Sta_free_6 : Dc mi_Sta_free 6 (.aload_n 0) 1 7 := ⟨by decide +kernel, rfl⟩
theorem dd_Sta_free_7 : Dc mi_Sta_free 7 (.dup) 1 8 := ⟨by decide +kernel, rfl⟩
theorem dd_Sta_free_8 : Dc mi_Sta_free 8 (.getfield 60) 3 11 := ⟨by decide +kernel, rfl⟩
theorem dd_Sta_free_11 : Dc mi_Sta_free 11 (.iload_n 2) 1 12 := ⟨by decide +kernel, rfl⟩
theorem dd_Sta_free_12 : Dc mi_Sta_free 12 (.iadd) 1 13 := ⟨by decide +kernel, rfl⟩
theorem dd_Sta_free_13 : Dc mi_Sta_free 13 (.putfield 60) 3 16 := ⟨by decide +kernel, rfl⟩
theorem dd_Sta_free_16 : Dc mi_Sta_free 16 (.aload_n 1) 1 17 := ⟨by decide +kernel, rfl⟩
theorem dd_Sta_free_17 : Dc mi_Sta_free 17 (.getfield 98) 3 20 := ⟨by decide +kernel, rfl⟩
theorem dd_Sta_free_20 : Dc mi_Sta_free 20 (.aload_n 1) 1 21 := ⟨by decide +kernel, rfl⟩
theorem dd_Sta_free_21 : Dc mi_Sta_free 21 (.invokevirtual 157) 3 24 := ⟨by decide +kernel, rfl⟩
theorem dd_Sta_free_24 : Dc mi_Sta_free 24 (.iadd) 1 25 := ⟨by decide +kernel, rfl⟩
theorem dd_Sta_free_25 : Dc mi_Sta_free 25 (.istore_n 3) 1 26 := ⟨by decide +kernel, rfl⟩
theorem dd_Sta_free_26 : Dc mi_Sta_free 26 (.aload_n 1) 1 27 := ⟨by decide +kernel, rfl⟩
theorem dd_Sta_free_27 : Dc mi_Sta_free 27 (.getfield 98) 3 30 := ⟨by decide +kernel, rfl⟩
theorem dd_Sta_free_30 : Dc mi_Sta_free 30 (.istore 4) 2 32 := ⟨by decide +kernel, rfl⟩
theorem dd_Sta_free_32 : Dc mi_Sta_free 32 (.iload 4) 2 34 := ⟨by decide +kernel, rfl⟩
theorem dd_Sta_free_34 : Dc mi_Sta_free 34 (.iload_n 3) 1 35 := ⟨by decide +kernel, rfl⟩
theorem dd_Sta_free_35 : Db mi_Sta_free 35 (.if_icmp .ge 16) 16 38 51 := ⟨by decide +kernel, rfl, rfl⟩
theorem dd_Sta_free_38 : Dc mi_Sta_free 38 (.aload_n 0) 1 39 := ⟨by decide +kernel, rfl⟩
theorem dd_Sta_free_39 : Dc mi_Sta_free 39 (.iload 4) 2 41 := ⟨by decide +kernel, rfl⟩
theorem dd_Sta_free_41 : Dc mi_Sta_free 41 (.iconst 0) 1 42 := ⟨by decide +kernel, rfl⟩
theorem dd_Sta_free_42 : Dc mi_Sta_free 42 (.invokevirtual 118) 3 45 := ⟨by decide +kernel, rfl⟩
theorem dd_Sta_free_45 : Dc mi_Sta_free 45 (.iinc 4 1) 3 48 := ⟨by decide +kernel, rfl⟩
theorem dd_Sta_free_48 : Db mi_Sta_free 48 (.goto (-16)) (-16) 51 32 := ⟨by decide +kernel, rfl, rfl⟩
theorem dd_Sta_free_51 : Dc mi_Sta_free 51 (.aload_n 1) 1 52 := ⟨by decide +kernel, rfl⟩
theorem dd_Sta_free_52 : Dc mi_Sta_free 52 (.iconst (-1)) 1 53 := ⟨by decide +kernel, rfl⟩
theorem dd_Sta_free_53 : Dc mi_Sta_free 53 (.putfield 75) 3 56 := ⟨by decide +kernel, rfl⟩
theorem dd_Sta_free_56 : Dc mi_Sta_free 56 (.aload_n 0) 1 57 := ⟨by decide +kernel, rfl⟩
theorem dd_Sta_free_57 : Dc mi_Sta_free 57 (.aload_n 1) 1 58 := ⟨by decide +kernel, rfl⟩
theorem dd_Sta_free_58 : Dc mi_Sta_free 58 (.invokevirtual 166) 3 61 := ⟨by decide +kernel, rfl⟩
theorem dd_Sta_free_61 : Dc mi_Sta_free 61 (.iload_n 2) 1 62 := ⟨by decide +kernel, rfl⟩
theorem dd_Sta_free_62 : decode (mbc mi_Sta_free) 62 = .ok (retI (mrt mi_Sta_free), 1) := by decide +kernel
theorem dd_Sta_setValue_0 : Dc mi_Sta_setValue 0 (.iload_n 1) 1 1 := ⟨by decide +kernel, rfl⟩
theorem dd_Sta_setValue_1 : Db mi_Sta_setValue 1 (.ifCond .lt 16) 16 4 17 := ⟨by decide +kernel, rfl, rfl⟩
theorem dd_Sta_setValue_4 : Dc mi_Sta_setValue 4 (.iload_n 1) 1 5 := ⟨by decide +kernel, rfl⟩
theorem dd_Sta_setValue_5 : Dc mi_Sta_setValue 5 (.bipush 64) 2 7 := ⟨by decide +kernel, rfl⟩
theorem dd_Sta_setValue_7 : Db mi_Sta_setValue 7 (.if_icmp .ge 10) 10 10 17 := ⟨by decide +kernel, rfl, rfl⟩
theorem dd_Sta_setValue_10 : Dc mi_Sta_setValue 10 (.aload_n 0) 1 11 := ⟨by decide +kernel, rfl⟩
theorem dd_Sta_setValue_11 : Dc mi_Sta_setValue 11 (.getfield 20) 3 14 := ⟨by decide +kernel, rfl⟩
theorem dd_Sta_setValue_14 : Dc mi_Sta_setValue 14 (.iload_n 1) 1 15 := ⟨by decide +kernel, rfl⟩
theorem dd_Sta_setValue_15 : Dc mi_Sta_setValue 15 (.iload_n 2) 1 16 := ⟨by decide +kernel, rfl⟩
theorem dd_Sta_setValue_16 : Dc mi_Sta_setValue 16 (.iastore) 1 17 := ⟨by decide +kernel, rfl⟩
theorem dd_Sta_setValue_17 : decode (mbc mi_Sta_setValue) 17 = .ok (retI (mrt mi_Sta_setValue), 1) := by decide +kernel
theorem dd_Sta_joinTwins_0 : Dc mi_Sta_joinTwins 0 (.aload_n 1) 1 1 := ⟨by decide +kernel, rfl⟩
theorem dd_Sta_joinTwins_1 : Dc mi_Sta_joinTwins 1 (.astore_n 2) 1 2 := ⟨by decide +kernel, rfl⟩
theorem dd_Sta_joinTwins_2 : Dc mi_Sta_joinTwins 2 (.aload_n 1) 1 3 := ⟨by decide +kernel, rfl⟩
theorem dd_Sta_joinTwins_3 : Dc mi_Sta_joinTwins 3 (.getfield 151) 3 6 := ⟨by decide +kernel, rfl⟩
theorem dd_Sta_joinTwins_6 : Dc mi_Sta_joinTwins 6 (.istore_n 3) 1 7 := ⟨by decide +kernel, rfl⟩
theorem dd_Sta_joinTwins_7 : Dc mi_Sta_joinTwins 7 (.iload_n 3) 1 8 := ⟨by decide +kernel, rfl⟩
theorem dd_Sta_joinTwins_8 : Dc mi_Sta_joinTwins 8 (.iconst 2) 1 9 := ⟨by decide +kernel, rfl⟩
theorem dd_Sta_joinTwins_9 : Db mi_Sta_joinTwins 9 (.if_icmp .ge 84) 84 12 93 := ⟨by decide +kernel, rfl, rfl⟩
theorem dd_Sta_joinTwins_12 : Dc mi_Sta_joinTwins 12 (.aload_n 0) 1 13 := ⟨by decide +kernel, rfl⟩
theorem dd_Sta_joinTwins_13 : Dc mi_Sta_joinTwins 13 (.aload_n 2) 1 14 := ⟨by decide +kernel, rfl⟩
theorem dd_Sta_joinTwins_14 : Dc mi_Sta_joinTwins 14 (.getfield 98) 3 17 := ⟨by decide +kernel, rfl⟩
theorem dd_Sta_joinTwins_17 : Dc mi_Sta_joinTwins 17 (.iload_n 3) 1 18 := ⟨by decide +kernel, rfl⟩
theorem dd_Sta_joinTwins_18 : Dc mi_Sta_joinTwins 18 (.invokestatic 138) 3 21 := ⟨by decide +kernel, rfl⟩
theorem dd_Sta_joinTwins_21 : Dc mi_Sta_joinTwins 21 (.ixor) 1 22 := ⟨by decide +kernel, rfl⟩
theorem dd_Sta_joinTwins_22 : Dc mi_Sta_joinTwins 22 (.invokevirtual 160) 3 25 := ⟨by decide +kernel, rfl⟩
theorem dd_Sta_joinTwins_25 : Dc mi_Sta_joinTwins 25 (.astore 4) 2 27 := ⟨by decide +kernel, rfl⟩
theorem dd_Sta_joinTwins_27 : Dc mi_Sta_joinTwins 27 (.aload 4) 2 29 := ⟨by decide +kernel, rfl⟩
theorem dd_Sta_joinTwins_29 : Db mi_Sta_joinTwins 29 (.ifnull 12) 12 32 41 := ⟨by decide +kernel, rfl, rfl⟩
theorem dd_Sta_joinTwins_32 : Dc mi_Sta_joinTwins 32 (.aload 4) 2 34 := ⟨by decide +kernel, rfl⟩
theorem dd_Sta_joinTwins_34 : Dc mi_Sta_joinTwins 34 (.iload_n 3) 1 35 := ⟨by decide +kernel, rfl⟩
theorem dd_Sta_joinTwins_35 : Dc mi_Sta_joinTwins 35 (.invokevirtual 141) 3 38 := ⟨by decide +kernel, rfl⟩
theorem dd_Sta_joinTwins_38 : Db mi_Sta_joinTwins 38 (.ifCond .ne 4) 4 41 42 := ⟨by decide +kernel, rfl, rfl⟩
theorem dd_Sta_joinTwins_41 : decode (mbc mi_Sta_joinTwins) 41 = .ok (retI (mrt mi_Sta_joinTwins), 1) := by decide +kernel
theorem dd_Sta_joinTwins_42 : Dc mi_Sta_joinTwins 42 (.aload 4) 2 44 := ⟨by decide +kernel, rfl⟩
theorem dd_Sta_joinTwins_44 : Dc mi_Sta_joinTwins 44 (.astore 5) 2 46 := ⟨by decide +kernel, rfl⟩
theorem dd_Sta_joinTwins_46 : Dc mi_Sta_joinTwins 46 (.aload 4) 2 48 := ⟨by decide +kernel, rfl⟩
theorem dd_Sta_joinTwins_48 : Dc mi_Sta_joinTwins 48 (.getfield 98) 3 51 := ⟨by decide +kernel, rfl⟩
theorem dd_Sta_joinTwins_51 : Dc mi_Sta_joinTwins 51 (.aload_n 2) 1 52 := ⟨by decide +kernel, rfl⟩
theorem dd_Sta_joinTwins_52 : Dc mi_Sta_joinTwins 52 (.getfield 98) 3 55 := ⟨by decide +kernel, rfl⟩
theorem dd_Sta_joinTwins_55 : Db mi_Sta_joinTwins 55 (.if_icmp .ge 9) 9 58 64 := ⟨by decide +kernel, rfl, rfl⟩
theorem dd_Sta_joinTwins_58 : Dc mi_Sta_joinTwins 58 (.aload_n 2) 1 59 := ⟨by decide +kernel, rfl⟩
theorem dd_Sta_joinTwins_59 : Dc mi_Sta_joinTwins 59 (.astore 5) 2 61 := ⟨by decide +kernel, rfl⟩
theorem dd_Sta_joinTwins_61 : Dc mi_Sta_joinTwins 61 (.aload 4) 2 63 := ⟨by decide +kernel, rfl⟩
theorem dd_Sta_joinTwins_63 : Dc mi_Sta_joinTwins 63 (.astore_n 2) 1 64 := ⟨by decide +kernel, rfl⟩
theorem dd_Sta_joinTwins_64 : Dc mi_Sta_joinTwins 64 (.aload 5) 2 66 := ⟨by decide +kernel, rfl⟩
theorem dd_Sta_joinTwins_66 : Dc mi_Sta_joinTwins 66 (.iconst (-1)) 1 67 := ⟨by decide +kernel, rfl⟩
theorem dd_Sta_joinTwins_67 : Dc mi_Sta_joinTwins 67 (.putfield 151) 3 70 := ⟨by decide +kernel, rfl⟩
theorem dd_Sta_joinTwins_70 : Dc mi_Sta_joinTwins 70 (.aload_n 2) 1 71 := ⟨by decide +kernel, rfl⟩
theorem dd_Sta_joinTwins_71 : Dc mi_Sta_joinTwins 71 (.iload_n 3) 1 72 := ⟨by decide +kernel, rfl⟩
theorem dd_Sta_joinTwins_72 : Dc mi_Sta_joinTwins 72 (.iconst 1) 1 73 := ⟨by decide +kernel, rfl⟩
theorem dd_Sta_joinTwins_73 : Dc mi_Sta_joinTwins 73 (.iadd) 1 74 := ⟨by decide +kernel, rfl⟩
theorem dd_Sta_joinTwins_74 : Dc mi_Sta_joinTwins 74 (.putfield 151) 3 77 := ⟨by decide +kernel, rfl⟩
theorem dd_Sta_joinTwins_77 : Dc mi_Sta_joinTwins 77 (.aload_n 0) 1 78 := ⟨by decide +kernel, rfl⟩
theorem dd_Sta_joinTwins_78 : Dc mi_Sta_joinTwins 78 (.dup) 1 79 := ⟨by decide +kernel, rfl⟩
theorem dd_Sta_joinTwins_79 : Dc mi_Sta_joinTwins 79 (.getfield 57) 3 82 := ⟨by decide +kernel, rfl⟩
theorem dd_Sta_joinTwins_82 : Dc mi_Sta_joinTwins 82 (.iconst 1) 1 83 := ⟨by decide +kernel, rfl⟩
theorem dd_Sta_joinTwins_83 : Dc mi_Sta_joinTwins 83 (.iadd) 1 84 := ⟨by decide +kernel, rfl⟩
theorem dd_Sta_joinTwins_84 : Dc mi_Sta_joinTwins 84 (.putfield 57) 3 87 := ⟨by decide +kernel, rfl⟩
theorem dd_Sta_joinTwins_87 : Dc mi_Sta_joinTwins 87 (.iinc 3 1) 3 90 := ⟨by decide +kernel, rfl⟩
theorem dd_Sta_joinTwins_90 : Db mi_Sta_joinTwins 90 (.goto (-83)) (-83) 93 7 := ⟨by decide +kernel, rfl, rfl⟩
theorem dd_Sta_joinTwins_93 : decode (mbc mi_Sta_joinTwins) 93 = .ok (retI (mrt mi_Sta_joinTwins), 1) := by decide +kernel
theorem dd_Sta_put_0 : Dc mi_Sta_put 0 (.aload_n 0) 1 1 := ⟨by decide +kernel, rfl⟩
theorem dd_Sta_put_1 : Dc mi_Sta_put 1 (.iload_n 1) 1 2 := ⟨by decide +kernel, rfl⟩
theorem dd_Sta_put_2 : Dc mi_Sta_put 2 (.invokevirtual 90) 3 5 := ⟨by decide +kernel, rfl⟩
theorem dd_Sta_put_5 : Dc mi_Sta_put 5 (.astore 5) 2 7 := ⟨by decide +kernel, rfl⟩
theorem dd_Sta_put_7 : Dc mi_Sta_put 7 (.aload_n 0) 1 8 := ⟨by decide +kernel, rfl⟩
theorem dd_Sta_put_8 : Dc mi_Sta_put 8 (.iload_n 2) 1 9 := ⟨by decide +kernel, rfl⟩
theorem dd_Sta_put_9 : Dc mi_Sta_put 9 (.invokevirtual 87) 3 12 := ⟨by decide +kernel, rfl⟩
theorem dd_Sta_put_12 : Dc mi_Sta_put 12 (.astore 6) 2 14 := ⟨by decide +kernel, rfl⟩
theorem dd_Sta_put_14 : Dc mi_Sta_put 14 (.aload 5) 2 16 := ⟨by decide +kernel, rfl⟩
theorem dd_Sta_put_16 : Db mi_Sta_put 16 (.ifnull 8) 8 19 24 := ⟨by decide +kernel, rfl, rfl⟩
theorem dd_Sta_put_19 : Dc mi_Sta_put 19 (.aload 6) 2 21 := ⟨by decide +kernel, rfl⟩
theorem dd_Sta_put_21 : Db mi_Sta_put 21 (.ifnonnull 5) 5 24 26 := ⟨by decide +kernel, rfl, rfl⟩
theorem dd_Sta_put_24 : Dc mi_Sta_put 24 (.iconst (-1)) 1 25 := ⟨by decide +kernel, rfl⟩
theorem dd_Sta_put_25 : decode (mbc mi_Sta_put) 25 = .ok (retI (mrt mi_Sta_put), 1) := by decide +kernel
theorem dd_Sta_put_26 : Dc mi_Sta_put 26 (.iload_n 3) 1 27 := ⟨by decide +kernel, rfl⟩
theorem dd_Sta_put_27 : Dc mi_Sta_put 27 (.bipush (-64)) 2 29 := ⟨by decide +kernel, rfl⟩
theorem dd_Sta_put_29 : Db mi_Sta_put 29 (.if_icmp .lt 22) 22 32 51 := ⟨by decide +kernel, rfl, rfl⟩
theorem dd_Sta_put_32 : Dc mi_Sta_put 32 (.iload_n 3) 1 33 := ⟨by decide +kernel, rfl⟩
theorem dd_Sta_put_33 : Dc mi_Sta_put 33 (.bipush 64) 2 35 := ⟨by decide +kernel, rfl⟩
theorem dd_Sta_put_35 : Db mi_Sta_put 35 (.if_icmp .gt 16) 16 38 51 := ⟨by decide +kernel, rfl, rfl⟩
theorem dd_Sta_put_38 : Dc mi_Sta_put 38 (.iload 4) 2 40 := ⟨by decide +kernel, rfl⟩
theorem dd_Sta_put_40 : Dc mi_Sta_put 40 (.iconst 1) 1 41 := ⟨by decide +kernel, rfl⟩
theorem dd_Sta_put_41 : Db mi_Sta_put 41 (.if_icmp .lt 10) 10 44 51 := ⟨by decide +kernel, rfl, rfl⟩
theorem dd_Sta_put_44 : Dc mi_Sta_put 44 (.iload 4) 2 46 := ⟨by decide +kernel, rfl⟩
theorem dd_Sta_put_46 : Dc mi_Sta_put 46 (.bipush 99) 2 48 := ⟨by decide +kernel, rfl⟩
theorem dd_Sta_put_48 : Db mi_Sta_put 48 (.if_icmp .le 6) 6 51 54 := ⟨by decide +kernel, rfl, rfl⟩
theorem dd_Sta_put_51 : Dc mi_Sta_put 51 (.bipush (-2)) 2 53 := ⟨by decide +kernel, rfl⟩
theorem dd_Sta_put_53 : decode (mbc mi_Sta_put) 53 = .ok (retI (mrt mi_Sta_put), 1) := by decide +kernel
theorem dd_Sta_put_54 : Dc mi_Sta_put 54 (.aload 6) 2 56 := ⟨by decide +kernel, rfl⟩
theorem dd_Sta_put_56 : Dc mi_Sta_put 56 (.getfield 98) 3 59 := ⟨by decide +kernel, rfl⟩
theorem dd_Sta_put_59 : Dc mi_Sta_put 59 (.iconst 1) 1 60 := ⟨by decide +kernel, rfl⟩
theorem dd_Sta_put_60 : Dc mi_Sta_put 60 (.iadd) 1 61 := ⟨by decide +kernel, rfl⟩
theorem dd_Sta_put_61 : Dc mi_Sta_put 61 (.iload_n 3) 1 62 := ⟨by decide +kernel, rfl⟩
theorem dd_Sta_put_62 : Dc mi_Sta_put 62 (.iadd) 1 63 := ⟨by decide +kernel, rfl⟩
theorem dd_Sta_put_63 : Dc mi_Sta_put 63 (.istore 7) 2 65 := ⟨by decide +kernel, rfl⟩
theorem dd_Sta_put_65 : Dc mi_Sta_put 65 (.aload_n 0) 1 66 := ⟨by decide +kernel, rfl⟩
theorem dd_Sta_put_66 : Dc mi_Sta_put 66 (.iload 7) 2 68 := ⟨by decide +kernel, rfl⟩
theorem dd_Sta_put_68 : Dc mi_Sta_put 68 (.invokevirtual 101) 3 71 := ⟨by decide +kernel, rfl⟩
theorem dd_Sta_put_71 : Dc mi_Sta_put 71 (.astore 8) 2 73 := ⟨by decide +kernel, rfl⟩
theorem dd_Sta_put_73 : Dc mi_Sta_put 73 (.aload 6) 2 75 := ⟨by decide +kernel, rfl⟩
theorem dd_Sta_put_75 : Dc mi_Sta_put 75 (.getfield 75) 3 78 := ⟨by decide +kernel, rfl⟩
theorem dd_Sta_put_78 : Dc mi_Sta_put 78 (.iload_n 1) 1 79 := ⟨by decide +kernel, rfl⟩
theorem dd_Sta_put_79 : Db mi_Sta_put 79 (.if_icmp .ne 16) 16 82 95 := ⟨by decide +kernel, rfl, rfl⟩
theorem dd_Sta_put_82 : Dc mi_Sta_put 82 (.aload 5) 2 84 := ⟨by decide +kernel, rfl⟩
theorem dd_Sta_put_84 : Dc mi_Sta_put 84 (.getfield 104) 3 87 := ⟨by decide +kernel, rfl⟩
theorem dd_Sta_put_87 : Db mi_Sta_put 87 (.ifCond .eq 8) 8 90 95 := ⟨by decide +kernel, rfl, rfl⟩
theorem dd_Sta_put_90 : Dc mi_Sta_put 90 (.aload 8) 2 92 := ⟨by decide +kernel, rfl⟩
theorem dd_Sta_put_92 : Db mi_Sta_put 92 (.ifnonnull 6) 6 95 98 := ⟨by decide +kernel, rfl, rfl⟩
theorem dd_Sta_put_95 : Dc mi_Sta_put 95 (.bipush (-4)) 2 97 := ⟨by decide +kernel, rfl⟩
theorem dd_Sta_put_97 : decode (mbc mi_Sta_put) 97 = .ok (retI (mrt mi_Sta_put), 1) := by decide +kernel
theorem dd_Sta_put_98 : Dc mi_Sta_put 98 (.aload 6) 2 100 := ⟨by decide +kernel, rfl⟩
theorem dd_Sta_put_100 : Dc mi_Sta_put 100 (.aload_n 0) 1 101 := ⟨by decide +kernel, rfl⟩
theorem dd_Sta_put_101 : Dc mi_Sta_put 101 (.getfield 48) 3 104 := ⟨by decide +kernel, rfl⟩
theorem dd_Sta_put_104 : Dc mi_Sta_put 104 (.putfield 84) 3 107 := ⟨by decide +kernel, rfl⟩
theorem dd_Sta_put_107 : Dc mi_Sta_put 107 (.iload 7) 2 109 := ⟨by decide +kernel, rfl⟩
theorem dd_Sta_put_109 : Dc mi_Sta_put 109 (.aload 6) 2 111 := ⟨by decide +kernel, rfl⟩
theorem dd_Sta_put_111 : Dc mi_Sta_put 111 (.aload 8) 2 113 := ⟨by decide +kernel, rfl⟩
theorem dd_Sta_put_113 : Dc mi_Sta_put 113 (.invokestatic 108) 3 116 := ⟨by decide +kernel, rfl⟩
theorem dd_Sta_put_116 : Dc mi_Sta_put 116 (.istore 9) 2 118 := ⟨by decide +kernel, rfl⟩
theorem dd_Sta_put_118 : Dc mi_Sta_put 118 (.iload 9) 2 120 := ⟨by decide +kernel, rfl⟩
theorem dd_Sta_put_120 : Dc mi_Sta_put 120 (.iconst 2) 1 121 := ⟨by decide +kernel, rfl⟩
theorem dd_Sta_put_121 : Db mi_Sta_put 121 (.if_icmp .ne 23) 23 124 144 := ⟨by decide +kernel, rfl, rfl⟩
theorem dd_Sta_put_124 : Dc mi_Sta_put 124 (.aload_n 0) 1 125 := ⟨by decide +kernel, rfl⟩
theorem dd_Sta_put_125 : Dc mi_Sta_put 125 (.iload 7) 2 127 := ⟨by decide +kernel, rfl⟩
theorem dd_Sta_put_127 : Dc mi_Sta_put 127 (.invokevirtual 112) 3 130 := ⟨by decide +kernel, rfl⟩
theorem dd_Sta_put_130 : Db mi_Sta_put 130 (.ifCond .ne 14) 14 133 144 := ⟨by decide +kernel, rfl, rfl⟩
theorem dd_Sta_put_133 : Dc mi_Sta_put 133 (.aload 5) 2 135 := ⟨by decide +kernel, rfl⟩
theorem dd_Sta_put_135 : Dc mi_Sta_put 135 (.dup) 1 136 := ⟨by decide +kernel, rfl⟩
theorem dd_Sta_put_136 : Dc mi_Sta_put 136 (.getfield 115) 3 139 := ⟨by decide +kernel, rfl⟩
theorem dd_Sta_put_139 : Dc mi_Sta_put 139 (.iconst 1) 1 140 := ⟨by decide +kernel, rfl⟩
theorem dd_Sta_put_140 : Dc mi_Sta_put 140 (.iadd) 1 141 := ⟨by decide +kernel, rfl⟩
theorem dd_Sta_put_141 : Dc mi_Sta_put 141 (.putfield 115) 3 144 := ⟨by decide +kernel, rfl⟩
theorem dd_Sta_put_144 : Dc mi_Sta_put 144 (.iload 9) 2 146 := ⟨by decide +kernel, rfl⟩
theorem dd_Sta_put_146 : Dc mi_Sta_put 146 (.iconst 3) 1 147 := ⟨by decide +kernel, rfl⟩
theorem dd_Sta_put_147 : Db mi_Sta_put 147 (.if_icmp .eq 11) 11 150 158 := ⟨by decide +kernel, rfl, rfl⟩
theorem dd_Sta_put_150 : Dc mi_Sta_put 150 (.aload_n 0) 1 151 := ⟨by decide +kernel, rfl⟩
theorem dd_Sta_put_151 : Dc mi_Sta_put 151 (.iload 7) 2 153 := ⟨by decide +kernel, rfl⟩
theorem dd_Sta_put_153 : Dc mi_Sta_put 153 (.iload 4) 2 155 := ⟨by decide +kernel, rfl⟩
theorem dd_Sta_put_155 : Dc mi_Sta_put 155 (.invokevirtual 118) 3 158 := ⟨by decide +kernel, rfl⟩
theorem dd_Sta_put_158 : Dc mi_Sta_put 158 (.iload 9) 2 160 := ⟨by decide +kernel, rfl⟩
theorem dd_Sta_put_160 : decode (mbc mi_Sta_put) 160 = .ok (retI (mrt mi_Sta_put), 1) := by decide +kernel
theorem dd_Sta_kindOfHit_0 : Dc mi_Sta_kindOfHit 0 (.aload_n 2) 1 1 := ⟨by decide +kernel, rfl⟩
theorem dd_Sta_kindOfHit_1 : Dc mi_Sta_kindOfHit 1 (.invokevirtual 169) 3 4 := ⟨by decide +kernel, rfl⟩
theorem dd_Sta_kindOfHit_4 : Db mi_Sta_kindOfHit 4 (.ifCond .ne 5) 5 7 9 := ⟨by decide +kernel, rfl, rfl⟩
theorem dd_Sta_kindOfHit_7 : Dc mi_Sta_kindOfHit 7 (.iconst 3) 1 8 := ⟨by decide +kernel, rfl⟩
theorem dd_Sta_kindOfHit_8 : decode (mbc mi_Sta_kindOfHit) 8 = .ok (retI (mrt mi_Sta_kindOfHit), 1) := by decide +kernel
theorem dd_Sta_kindOfHit_9 : Dc mi_Sta_kindOfHit 9 (.aload_n 2) 1 10 := ⟨by decide +kernel, rfl⟩
theorem dd_Sta_kindOfHit_10 : Dc mi_Sta_kindOfHit 10 (.iload_n 0) 1 11 := ⟨by decide +kernel, rfl⟩
theorem dd_Sta_kindOfHit_11 : Dc mi_Sta_kindOfHit 11 (.invokevirtual 176) 3 14 := ⟨by decide +kernel, rfl⟩
theorem dd_Sta_kindOfHit_14 : Db mi_Sta_kindOfHit 14 (.ifCond .eq 5) 5 17 19 := ⟨by decide +kernel, rfl, rfl⟩
theorem dd_Sta_kindOfHit_17 : Dc mi_Sta_kindOfHit 17 (.iconst 2) 1 18 := ⟨by decide +kernel, rfl⟩
theorem dd_Sta_kindOfHit_18 : decode (mbc mi_Sta_kindOfHit) 18 = .ok (retI (mrt mi_Sta_kindOfHit), 1) := by decide +kernel
theorem dd_Sta_kindOfHit_19 : Dc mi_Sta_kindOfHit 19 (.aload_n 2) 1 20 := ⟨by decide +kernel, rfl⟩
theorem dd_Sta_kindOfHit_20 : Dc mi_Sta_kindOfHit 20 (.aload_n 1) 1 21 := ⟨by decide +kernel, rfl⟩
theorem dd_Sta_kindOfHit_21 : Db mi_Sta_kindOfHit 21 (.if_acmp .eq 5) 5 24 26 := ⟨by decide +kernel, rfl, rfl⟩
theorem dd_Sta_kindOfHit_24 : Dc mi_Sta_kindOfHit 24 (.iconst 1) 1 25 := ⟨by decide +kernel, rfl⟩
theorem dd_Sta_kindOfHit_25 : decode (mbc mi_Sta_kindOfHit) 25 = .ok (retI (mrt mi_Sta_kindOfHit), 1) := by decide +kernel
theorem dd_Sta_kindOfHit_26 : Dc mi_Sta_kindOfHit 26 (.aload_n 2) 1 27 := ⟨by decide +kernel, rfl⟩
theorem dd_Sta_kindOfHit_27 : Dc mi_Sta_kindOfHit 27 (.iload_n 0) 1 28 := ⟨by decide +kernel, rfl⟩
theorem dd_Sta_kindOfHit_28 : Dc mi_Sta_kindOfHit 28 (.invokevirtual 179) 3 31 := ⟨by decide +kernel, rfl⟩
theorem dd_Sta_kindOfHit_31 : Db mi_Sta_kindOfHit 31 (.ifCond .eq 7) 7 34 38 := ⟨by decide +kernel, rfl, rfl⟩
theorem dd_Sta_kindOfHit_34 : Dc mi_Sta_kindOfHit 34 (.iconst 0) 1 35 := ⟨by decide +kernel, rfl⟩
theorem dd_Sta_kindOfHit_35 : Db mi_Sta_kindOfHit 35 (.goto 4) 4 38 39 := ⟨by decide +kernel, rfl, rfl⟩
theorem dd_Sta_kindOfHit_38 : Dc mi_Sta_kindOfHit 38 (.iconst 4) 1 39 := ⟨by decide +kernel, rfl⟩
theorem dd_Sta_kindOfHit_39 : decode (mbc mi_Sta_kindOfHit) 39 = .ok (retI (mrt mi_Sta_kindOfHit), 1) := by decide +kernel
theorem dd_Sta_useNow_0 : Dc mi_Sta_useNow 0 (.aload_n 0) 1 1 := ⟨by decide +kernel, rfl⟩
theorem dd_Sta_useNow_1 : Dc mi_Sta_useNow 1 (.iload_n 1) 1 2 := ⟨by decide +kernel, rfl⟩
theorem dd_Sta_useNow_2 : Dc mi_Sta_useNow 2 (.invokevirtual 87) 3 5 := ⟨by decide +kernel, rfl⟩
theorem dd_Sta_useNow_5 : Dc mi_Sta_useNow 5 (.astore_n 2) 1 6 := ⟨by decide +kernel, rfl⟩
theorem dd_Sta_useNow_6 : Dc mi_Sta_useNow 6 (.aload_n 2) 1 7 := ⟨by decide +kernel, rfl⟩
theorem dd_Sta_useNow_7 : Db mi_Sta_useNow 7 (.ifnonnull 5) 5 10 12 := ⟨by decide +kernel, rfl, rfl⟩
theorem dd_Sta_useNow_10 : Dc mi_Sta_useNow 10 (.iconst (-1)) 1 11 := ⟨by decide +kernel, rfl⟩
theorem dd_Sta_useNow_11 : decode (mbc mi_Sta_useNow) 11 = .ok (retI (mrt mi_Sta_useNow), 1) := by decide +kernel
theorem dd_Sta_useNow_12 : Dc mi_Sta_useNow 12 (.aload_n 0) 1 13 := ⟨by decide +kernel, rfl⟩
theorem dd_Sta_useNow_13 : Dc mi_Sta_useNow 13 (.aload_n 2) 1 14 := ⟨by decide +kernel, rfl⟩
theorem dd_Sta_useNow_14 : Dc mi_Sta_useNow 14 (.invokevirtual 121) 3 17 := ⟨by decide +kernel, rfl⟩
theorem dd_Sta_useNow_17 : Dc mi_Sta_useNow 17 (.istore_n 3) 1 18 := ⟨by decide +kernel, rfl⟩
theorem dd_Sta_useNow_18 : Dc mi_Sta_useNow 18 (.iload_n 3) 1 19 := ⟨by decide +kernel, rfl⟩
theorem dd_Sta_useNow_19 : Db mi_Sta_useNow 19 (.ifCond .ne 6) 6 22 25 := ⟨by decide +kernel, rfl, rfl⟩
theorem dd_Sta_useNow_22 : Dc mi_Sta_useNow 22 (.bipush (-5)) 2 24 := ⟨by decide +kernel, rfl⟩
theorem dd_Sta_useNow_24 : decode (mbc mi_Sta_useNow) 24 = .ok (retI (mrt mi_Sta_useNow), 1) := by decide +kernel
theorem dd_Sta_useNow_25 : Dc mi_Sta_useNow 25 (.aload_n 2) 1 26 := ⟨by decide +kernel, rfl⟩
theorem dd_Sta_useNow_26 : Dc mi_Sta_useNow 26 (.aload_n 0) 1 27 := ⟨by decide +kernel, rfl⟩
theorem dd_Sta_useNow_27 : Dc mi_Sta_useNow 27 (.getfield 48) 3 30 := ⟨by decide +kernel, rfl⟩
theorem dd_Sta_useNow_30 : Dc mi_Sta_useNow 30 (.putfield 84) 3 33 := ⟨by decide +kernel, rfl⟩
theorem dd_Sta_useNow_33 : Dc mi_Sta_useNow 33 (.iload_n 3) 1 34 := ⟨by decide +kernel, rfl⟩
theorem dd_Sta_useNow_34 : decode (mbc mi_Sta_useNow) 34 = .ok (retI (mrt mi_Sta_useNow), 1) := by decide +kernel
theorem dd_Sta_makeAlive_0 : Dc mi_Sta_makeAlive 0 (.aload_n 0) 1 1 := ⟨by decide +kernel, rfl⟩
theorem dd_Sta_makeAlive_1 : Dc mi_Sta_makeAlive 1 (.iload_n 1) 1 2 := ⟨by decide +kernel, rfl⟩
theorem dd_Sta_makeAlive_2 : Dc mi_Sta_makeAlive 2 (.invokevirtual 90) 3 5 := ⟨by decide +kernel, rfl⟩
theorem dd_Sta_makeAlive_5 : Dc mi_Sta_makeAlive 5 (.astore_n 3) 1 6 := ⟨by decide +kernel, rfl⟩
theorem dd_Sta_makeAlive_6 : Dc mi_Sta_makeAlive 6 (.aload_n 3) 1 7 := ⟨by decide +kernel, rfl⟩
theorem dd_Sta_makeAlive_7 : Db mi_Sta_makeAlive 7 (.ifnonnull 5) 5 10 12 := ⟨by decide +kernel, rfl, rfl⟩
theorem dd_Sta_makeAlive_10 : Dc mi_Sta_makeAlive 10 (.iconst (-1)) 1 11 := ⟨by decide +kernel, rfl⟩
theorem dd_Sta_makeAlive_11 : decode (mbc mi_Sta_makeAlive) 11 = .ok (retI (mrt mi_Sta_makeAlive), 1) := by decide +kernel
theorem dd_Sta_makeAlive_12 : Dc mi_Sta_makeAlive 12 (.aload_n 3) 1 13 := ⟨by decide +kernel, rfl⟩
theorem dd_Sta_makeAlive_13 : Dc mi_Sta_makeAlive 13 (.getfield 104) 3 16 := ⟨by decide +kernel, rfl⟩
theorem dd_Sta_makeAlive_16 : Dc mi_Sta_makeAlive 16 (.iload_n 2) 1 17 := ⟨by decide +kernel, rfl⟩
theorem dd_Sta_makeAlive_17 : Db mi_Sta_makeAlive 17 (.if_icmp .ne 6) 6 20 23 := ⟨by decide +kernel, rfl, rfl⟩
theorem dd_Sta_makeAlive_20 : Dc mi_Sta_makeAlive 20 (.bipush (-5)) 2 22 := ⟨by decide +kernel, rfl⟩
theorem dd_Sta_makeAlive_22 : decode (mbc mi_Sta_makeAlive) 22 = .ok (retI (mrt mi_Sta_makeAlive), 1) := by decide +kernel
theorem dd_Sta_makeAlive_23 : Dc mi_Sta_makeAlive 23 (.aload_n 3) 1 24 := ⟨by decide +kernel, rfl⟩
theorem dd_Sta_makeAlive_24 : Dc mi_Sta_makeAlive 24 (.iload_n 2) 1 25 := ⟨by decide +kernel, rfl⟩
theorem dd_Sta_makeAlive_25 : Dc mi_Sta_makeAlive 25 (.putfield 104) 3 28 := ⟨by decide +kernel, rfl⟩
theorem dd_Sta_makeAlive_28 : Dc mi_Sta_makeAlive 28 (.aload_n 0) 1 29 := ⟨by decide +kernel, rfl⟩
theorem dd_Sta_makeAlive_29 : Dc mi_Sta_makeAlive 29 (.iload_n 1) 1 30 := ⟨by decide +kernel, rfl⟩
theorem dd_Sta_makeAlive_30 : Dc mi_Sta_makeAlive 30 (.invokevirtual 124) 3 33 := ⟨by decide +kernel, rfl⟩
theorem dd_Sta_makeAlive_33 : decode (mbc mi_Sta_makeAlive) 33 = .ok (retI (mrt mi_Sta_makeAlive), 1) := by decide +kernel
theorem dd_Sta_changeLimit_0 : Dc mi_Sta_changeLimit 0 (.aload_n 0) 1 1 := ⟨by decide +kernel, rfl⟩
theorem dd_Sta_changeLimit_1 : Dc mi_Sta_changeLimit 1 (.iload_n 1) 1 2 := ⟨by decide +kernel, rfl⟩
theorem dd_Sta_changeLimit_2 : Dc mi_Sta_changeLimit 2 (.invokevirtual 90) 3 5 := ⟨by decide +kernel, rfl⟩
theorem dd_Sta_changeLimit_5 : Dc mi_Sta_changeLimit 5 (.astore_n 3) 1 6 := ⟨by decide +kernel, rfl⟩
theorem dd_Sta_changeLimit_6 : Dc mi_Sta_changeLimit 6 (.aload_n 3) 1 7 := ⟨by decide +kernel, rfl⟩
theorem dd_Sta_changeLimit_7 : Db mi_Sta_changeLimit 7 (.ifnonnull 5) 5 10 12 := ⟨by decide +kernel, rfl, rfl⟩
theorem dd_Sta_changeLimit_10 : Dc mi_Sta_changeLimit 10 (.iconst (-1)) 1 11 := ⟨by decide +kernel, rfl⟩
theorem dd_Sta_changeLimit_11 : decode (mbc mi_Sta_changeLimit) 11 = .ok (retI (mrt mi_Sta_changeLimit), 1) := by decide +kernel
theorem dd_Sta_changeLimit_12 : Dc mi_Sta_changeLimit 12 (.iload_n 2) 1 13 := ⟨by decide +kernel, rfl⟩
theorem dd_Sta_changeLimit_13 : Db mi_Sta_changeLimit 13 (.ifCond .lt 9) 9 16 22 := ⟨by decide +kernel, rfl, rfl⟩
theorem dd_Sta_changeLimit_16 : Dc mi_Sta_changeLimit 16 (.iload_n 2) 1 17 := ⟨by decide +kernel, rfl⟩
theorem dd_Sta_changeLimit_17 : Dc mi_Sta_changeLimit 17 (.bipush 64) 2 19 := ⟨by decide +kernel, rfl⟩
theorem dd_Sta_changeLimit_19 : Db mi_Sta_changeLimit 19 (.if_icmp .le 6) 6 22 25 := ⟨by decide +kernel, rfl, rfl⟩
theorem dd_Sta_changeLimit_22 : Dc mi_Sta_changeLimit 22 (.bipush (-2)) 2 24 := ⟨by decide +kernel, rfl⟩
theorem dd_Sta_changeLimit_24 : decode (mbc mi_Sta_changeLimit) 24 = .ok (retI (mrt mi_Sta_changeLimit), 1) := by decide +kernel
theorem dd_Sta_changeLimit_25 : Dc mi_Sta_changeLimit 25 (.aload_n 3) 1 26 := ⟨by decide +kernel, rfl⟩
theorem dd_Sta_changeLimit_26 : Dc mi_Sta_changeLimit 26 (.getfield 127) 3 29 := ⟨by decide +kernel, rfl⟩
theorem dd_Sta_changeLimit_29 : Dc mi_Sta_changeLimit 29 (.iload_n 2) 1 30 := ⟨by decide +kernel, rfl⟩
theorem dd_Sta_changeLimit_30 : Db mi_Sta_changeLimit 30 (.if_icmp .ne 6) 6 33 36 := ⟨by decide +kernel, rfl, rfl⟩
theorem dd_Sta_changeLimit_33 : Dc mi_Sta_changeLimit 33 (.bipush (-5)) 2 35 := ⟨by decide +kernel, rfl⟩
theorem dd_Sta_changeLimit_35 : decode (mbc mi_Sta_changeLimit) 35 = .ok (retI (mrt mi_Sta_changeLimit), 1) := by decide +kernel
theorem dd_Sta_changeLimit_36 : Dc mi_Sta_changeLimit 36 (.aload_n 3) 1 37 := ⟨by decide +kernel, rfl⟩
theorem dd_Sta_changeLimit_37 : Dc mi_Sta_changeLimit 37 (.getfield 127) 3 40 := ⟨by decide +kernel, rfl⟩
theorem dd_Sta_changeLimit_40 : Dc mi_Sta_changeLimit 40 (.istore 4) 2 42 := ⟨by decide +kernel, rfl⟩
theorem dd_Sta_changeLimit_42 : Dc mi_Sta_changeLimit 42 (.aload_n 3) 1 43 := ⟨by decide +kernel, rfl⟩
theorem dd_Sta_changeLimit_43 : Dc mi_Sta_changeLimit 43 (.iload_n 2) 1 44 := ⟨by decide +kernel, rfl⟩
theorem dd_Sta_changeLimit_44 : Dc mi_Sta_changeLimit 44 (.putfield 127) 3 47 := ⟨by decide +kernel, rfl⟩
theorem dd_Sta_changeLimit_47 : Dc mi_Sta_changeLimit 47 (.iload 4) 2 49 := ⟨by decide +kernel, rfl⟩
theorem dd_Sta_changeLimit_49 : decode (mbc mi_Sta_changeLimit) 49 = .ok (retI (mrt mi_Sta_changeLimit), 1) := by decide +kernel
theorem dd_Sta_changePatience_0 : Dc mi_Sta_changePatience 0 (.iload_n 1) 1 1 := ⟨by decide +kernel, rfl⟩
theorem dd_Sta_changePatience_1 : Dc mi_Sta_changePatience 1 (.iconst 1) 1 2 := ⟨by decide +kernel, rfl⟩
theorem dd_Sta_changePatience_2 : Db mi_Sta_changePatience 2 (.if_icmp .lt 10) 10 5 12 := ⟨by decide +kernel, rfl, rfl⟩
theorem dd_Sta_changePatience_5 : Dc mi_Sta_changePatience 5 (.iload_n 1) 1 6 := ⟨by decide +kernel, rfl⟩
theorem dd_Sta_changePatience_6 : Dc mi_Sta_changePatience 6 (.sipush 500) 3 9 := ⟨by decide +kernel, rfl⟩
theorem dd_Sta_changePatience_9 : Db mi_Sta_changePatience 9 (.if_icmp .le 6) 6 12 15 := ⟨by decide +kernel, rfl, rfl⟩
theorem dd_Sta_changePatience_12 : Dc mi_Sta_changePatience 12 (.bipush (-2)) 2 14 := ⟨by decide +kernel, rfl⟩
theorem dd_Sta_changePatience_14 : decode (mbc mi_Sta_changePatience) 14 = .ok (retI (mrt mi_Sta_changePatience), 1) := by decide +kernel
theorem dd_Sta_changePatience_15 : Dc mi_Sta_changePatience 15 (.aload_n 0) 1 16 := ⟨by decide +kernel, rfl⟩
theorem dd_Sta_changePatience_16 : Dc mi_Sta_changePatience 16 (.getfield 31) 3 19 := ⟨by decide +kernel, rfl⟩
theorem dd_Sta_changePatience_19 : Dc mi_Sta_changePatience 19 (.iload_n 1) 1 20 := ⟨by decide +kernel, rfl⟩
theorem dd_Sta_changePatience_20 : Db mi_Sta_changePatience 20 (.if_icmp .ne 6) 6 23 26 := ⟨by decide +kernel, rfl, rfl⟩
theorem dd_Sta_changePatience_23 : Dc mi_Sta_changePatience 23 (.bipush (-5)) 2 25 := ⟨by decide +kernel, rfl⟩
theorem dd_Sta_changePatience_25 : decode (mbc mi_Sta_changePatience) 25 = .ok (retI (mrt mi_Sta_changePatience), 1) := by decide +kernel
theorem dd_Sta_changePatience_26 : Dc mi_Sta_changePatience 26 (.aload_n 0) 1 27 := ⟨by decide +kernel, rfl⟩
theorem dd_Sta_changePatience_27 : Dc mi_Sta_changePatience 27 (.getfield 31) 3 30 := ⟨by decide +kernel, rfl⟩
theorem dd_Sta_changePatience_30 : Dc mi_Sta_changePatience 30 (.istore_n 2) 1 31 := ⟨by decide +kernel, rfl⟩
theorem dd_Sta_changePatience_31 : Dc mi_Sta_changePatience 31 (.aload_n 0) 1 32 := ⟨by decide +kernel, rfl⟩
theorem dd_Sta_changePatience_32 : Dc mi_Sta_changePatience 32 (.iload_n 1) 1 33 := ⟨by decide +kernel, rfl⟩
theorem dd_Sta_changePatience_33 : Dc mi_Sta_changePatience 33 (.putfield 31) 3 36 := ⟨by decide +kernel, rfl⟩
theorem dd_Sta_changePatience_36 : Dc mi_Sta_changePatience 36 (.iload_n 2) 1 37 := ⟨by decide +kernel, rfl⟩
theorem dd_Sta_changePatience_37 : decode (mbc mi_Sta_changePatience) 37 = .ok (retI (mrt mi_Sta_changePatience), 1) := by decide +kernel
theorem dd_Sta_takeLeaksBack_0 : Dc mi_Sta_takeLeaksBack 0 (.iconst 0) 1 1 := ⟨by decide +kernel, rfl⟩
theorem dd_Sta_takeLeaksBack_1 : Dc mi_Sta_takeLeaksBack 1 (.istore_n 1) 1 2 := ⟨by decide +kernel, rfl⟩
theorem dd_Sta_takeLeaksBack_2 : Dc mi_Sta_takeLeaksBack 2 (.aload_n 0) 1 3 := ⟨by decide +kernel, rfl⟩
theorem dd_Sta_takeLeaksBack_3 : Dc mi_Sta_takeLeaksBack 3 (.getfield 11) 3 6 := ⟨by decide +kernel, rfl⟩
theorem dd_Sta_takeLeaksBack_6 : Dc mi_Sta_takeLeaksBack 6 (.astore_n 2) 1 7 := ⟨by decide +kernel, rfl⟩
theorem dd_Sta_takeLeaksBack_7 : Dc mi_Sta_takeLeaksBack 7 (.aload_n 2) 1 8 := ⟨by decide +kernel, rfl⟩
theorem dd_Sta_takeLeaksBack_8 : Dc mi_Sta_takeLeaksBack 8 (.arraylength) 1 9 := ⟨by decide +kernel, rfl⟩
theorem dd_Sta_takeLeaksBack_9 : Dc mi_Sta_takeLeaksBack 9 (.istore_n 3) 1 10 := ⟨by decide +kernel, rfl⟩
theorem dd_Sta_takeLeaksBack_10 : Dc mi_Sta_takeLeaksBack 10 (.iconst 0) 1 11 := ⟨by decide +kernel, rfl⟩
theorem dd_Sta_takeLeaksBack_11 : Dc mi_Sta_takeLeaksBack 11 (.istore 4) 2 13 := ⟨by decide +kernel, rfl⟩
theorem dd_Sta_takeLeaksBack_13 : Dc mi_Sta_takeLeaksBack 13 (.iload 4) 2 15 := ⟨by decide +kernel, rfl⟩
theorem dd_Sta_takeLeaksBack_15 : Dc mi_Sta_takeLeaksBack 15 (.iload_n 3) 1 16 := ⟨by decide +kernel, rfl⟩
theorem dd_Sta_takeLeaksBack_16 : Db mi_Sta_takeLeaksBack 16 (.if_icmp .ge 34) 34 19 50 := ⟨by decide +kernel, rfl, rfl⟩
theorem dd_Sta_takeLeaksBack_19 : Dc mi_Sta_takeLeaksBack 19 (.aload_n 2) 1 20 := ⟨by decide +kernel, rfl⟩
theorem dd_Sta_takeLeaksBack_20 : Dc mi_Sta_takeLeaksBack 20 (.iload 4) 2 22 := ⟨by decide +kernel, rfl⟩
theorem dd_Sta_takeLeaksBack_22 : Dc mi_Sta_takeLeaksBack 22 (.aaload) 1 23 := ⟨by decide +kernel, rfl⟩
theorem dd_Sta_takeLeaksBack_23 : Dc mi_Sta_takeLeaksBack 23 (.astore 5) 2 25 := ⟨by decide +kernel, rfl⟩
theorem dd_Sta_takeLeaksBack_25 : Dc mi_Sta_takeLeaksBack 25 (.aload_n 0) 1 26 := ⟨by decide +kernel, rfl⟩
theorem dd_Sta_takeLeaksBack_26 : Dc mi_Sta_takeLeaksBack 26 (.aload 5) 2 28 := ⟨by decide +kernel, rfl⟩
theorem dd_Sta_takeLeaksBack_28 : Dc mi_Sta_takeLeaksBack 28 (.invokevirtual 134) 3 31 := ⟨by decide +kernel, rfl⟩
theorem dd_Sta_takeLeaksBack_31 : Db mi_Sta_takeLeaksBack 31 (.ifCond .eq 13) 13 34 44 := ⟨by decide +kernel, rfl, rfl⟩
theorem dd_Sta_takeLeaksBack_34 : Dc mi_Sta_takeLeaksBack 34 (.aload_n 0) 1 35 := ⟨by decide +kernel, rfl⟩
theorem dd_Sta_takeLeaksBack_35 : Dc mi_Sta_takeLeaksBack 35 (.aload 5) 2 37 := ⟨by decide +kernel, rfl⟩
theorem dd_Sta_takeLeaksBack_37 : Dc mi_Sta_takeLeaksBack 37 (.invokevirtual 94) 3 40 := ⟨by decide +kernel, rfl⟩
theorem dd_Sta_takeLeaksBack_40 : Dc mi_Sta_takeLeaksBack 40 (.pop) 1 41 := ⟨by decide +kernel, rfl⟩
theorem dd_Sta_takeLeaksBack_41 : Dc mi_Sta_takeLeaksBack 41 (.iinc 1 1) 3 44 := ⟨by decide +kernel, rfl⟩
theorem dd_Sta_takeLeaksBack_44 : Dc mi_Sta_takeLeaksBack 44 (.iinc 4 1) 3 47 := ⟨by decide +kernel, rfl⟩
theorem dd_Sta_takeLeaksBack_47 : Db mi_Sta_takeLeaksBack 47 (.goto (-34)) (-34) 50 13 := ⟨by decide +kernel, rfl, rfl⟩
theorem dd_Sta_takeLeaksBack_50 : Dc mi_Sta_takeLeaksBack 50 (.iload_n 1) 1 51 := ⟨by decide +kernel, rfl⟩
theorem dd_Sta_takeLeaksBack_51 : Db mi_Sta_takeLeaksBack 51 (.ifCond .ne 8) 8 54 59 := ⟨by decide +kernel, rfl, rfl⟩
theorem dd_Sta_takeLeaksBack_54 : Dc mi_Sta_takeLeaksBack 54 (.bipush (-5)) 2 56 := ⟨by decide +kernel, rfl⟩
theorem dd_Sta_takeLeaksBack_56 : Db mi_Sta_takeLeaksBack 56 (.goto 4) 4 59 60 := ⟨by decide +kernel, rfl, rfl⟩
theorem dd_Sta_takeLeaksBack_59 : Dc mi_Sta_takeLeaksBack 59 (.iload_n 1) 1 60 := ⟨by decide +kernel, rfl⟩
theorem dd_Sta_takeLeaksBack_60 : decode (mbc mi_Sta_takeLeaksBack) 60 = .ok (retI (mrt mi_Sta_takeLeaksBack), 1) := by decide +kernel
theorem dd_Sta_advance_0 : Dc mi_Sta_advance 0 (.iload_n 1) 1 1 := ⟨by decide +kernel, rfl⟩
theorem dd_Sta_advance_1 : Dc mi_Sta_advance 1 (.iconst 1) 1 2 := ⟨by decide +kernel, rfl⟩
theorem dd_Sta_advance_2 : Db mi_Sta_advance 2 (.if_icmp .lt 10) 10 5 12 := ⟨by decide +kernel, rfl, rfl⟩
theorem dd_Sta_advance_5 : Dc mi_Sta_advance 5 (.iload_n 1) 1 6 := ⟨by decide +kernel, rfl⟩
theorem dd_Sta_advance_6 : Dc mi_Sta_advance 6 (.sipush 500) 3 9 := ⟨by decide +kernel, rfl⟩
theorem dd_Sta_advance_9 : Db mi_Sta_advance 9 (.if_icmp .le 6) 6 12 15 := ⟨by decide +kernel, rfl, rfl⟩
theorem dd_Sta_advance_12 : Dc mi_Sta_advance 12 (.bipush (-2)) 2 14 := ⟨by decide +kernel, rfl⟩
theorem dd_Sta_advance_14 : decode (mbc mi_Sta_advance) 14 = .ok (retI (mrt mi_Sta_advance), 1) := by decide +kernel
theorem dd_Sta_advance_15 : Dc mi_Sta_advance 15 (.aload_n 0) 1 16 := ⟨by decide +kernel, rfl⟩
theorem dd_Sta_advance_16 : Dc mi_Sta_advance 16 (.getfield 48) 3 19 := ⟨by decide +kernel, rfl⟩
theorem dd_Sta_advance_19 : Dc mi_Sta_advance 19 (.iload_n 1) 1 20 := ⟨by decide +kernel, rfl⟩
theorem dd_Sta_advance_20 : Dc mi_Sta_advance 20 (.iadd) 1 21 := ⟨by decide +kernel, rfl⟩
theorem dd_Sta_advance_21 : Dc mi_Sta_advance 21 (.sipush 9999) 3 24 := ⟨by decide +kernel, rfl⟩
theorem dd_Sta_advance_24 : Db mi_Sta_advance 24 (.if_icmp .le 6) 6 27 30 := ⟨by decide +kernel, rfl, rfl⟩
theorem dd_Sta_advance_27 : Dc mi_Sta_advance 27 (.bipush (-3)) 2 29 := ⟨by decide +kernel, rfl⟩
theorem dd_Sta_advance_29 : decode (mbc mi_Sta_advance) 29 = .ok (retI (mrt mi_Sta_advance), 1) := by decide +kernel
theorem dd_Sta_advance_30 : Dc mi_Sta_advance 30 (.aload_n 0) 1 31 := ⟨by decide +kernel, rfl⟩
theorem dd_Sta_advance_31 : Dc mi_Sta_advance 31 (.invokevirtual 130) 3 34 := ⟨by decide +kernel, rfl⟩
theorem dd_Sta_advance_34 : Dc mi_Sta_advance 34 (.istore_n 2) 1 35 := ⟨by decide +kernel, rfl⟩
theorem dd_Sta_advance_35 : Dc mi_Sta_advance 35 (.aload_n 0) 1 36 := ⟨by decide +kernel, rfl⟩
theorem dd_Sta_advance_36 : Dc mi_Sta_advance 36 (.dup) 1 37 := ⟨by decide +kernel, rfl⟩
theorem dd_Sta_advance_37 : Dc mi_Sta_advance 37 (.getfield 48) 3 40 := ⟨by decide +kernel, rfl⟩
theorem dd_Sta_advance_40 : Dc mi_Sta_advance 40 (.iload_n 1) 1 41 := ⟨by decide +kernel, rfl⟩
theorem dd_Sta_advance_41 : Dc mi_Sta_advance 41 (.iadd) 1 42 := ⟨by decide +kernel, rfl⟩
theorem dd_Sta_advance_42 : Dc mi_Sta_advance 42 (.putfield 48) 3 45 := ⟨by decide +kernel, rfl⟩
theorem dd_Sta_advance_45 : Dc mi_Sta_advance 45 (.aload_n 0) 1 46 := ⟨by decide +kernel, rfl⟩
theorem dd_Sta_advance_46 : Dc mi_Sta_advance 46 (.invokevirtual 130) 3 49 := ⟨by decide +kernel, rfl⟩
theorem dd_Sta_advance_49 : Dc mi_Sta_advance 49 (.iload_n 2) 1 50 := ⟨by decide +kernel, rfl⟩
theorem dd_Sta_advance_50 : Dc mi_Sta_advance 50 (.isub) 1 51 := ⟨by decide +kernel, rfl⟩
theorem dd_Sta_advance_51 : decode (mbc mi_Sta_advance) 51 = .ok (retI (mrt mi_Sta_advance), 1) := by decide +kernel
theorem dd_Sta_tellTask_0 : Dc mi_Sta_tellTask 0 (.aload_n 0) 1 1 := ⟨by decide +kernel, rfl⟩
theorem dd_Sta_tellTask_1 : Dc mi_Sta_tellTask 1 (.iload_n 1) 1 2 := ⟨by decide +kernel, rfl⟩
theorem dd_Sta_tellTask_2 : Dc mi_Sta_tellTask 2 (.invokevirtual 90) 3 5 := ⟨by decide +kernel, rfl⟩
theorem dd_Sta_tellTask_5 : Dc mi_Sta_tellTask 5 (.astore_n 3) 1 6 := ⟨by decide +kernel, rfl⟩
theorem dd_Sta_tellTask_6 : Dc mi_Sta_tellTask 6 (.aload_n 3) 1 7 := ⟨by decide +kernel, rfl⟩
theorem dd_Sta_tellTask_7 : Db mi_Sta_tellTask 7 (.ifnonnull 5) 5 10 12 := ⟨by decide +kernel, rfl, rfl⟩
theorem dd_Sta_tellTask_10 : Dc mi_Sta_tellTask 10 (.iconst (-1)) 1 11 := ⟨by decide +kernel, rfl⟩
theorem dd_Sta_tellTask_11 : decode (mbc mi_Sta_tellTask) 11 = .ok (retI (mrt mi_Sta_tellTask), 1) := by decide +kernel
theorem dd_Sta_tellTask_12 : Dc mi_Sta_tellTask 12 (.iload_n 2) 1 13 := ⟨by decide +kernel, rfl⟩
theorem dd_Sta_tellTask_13 : decode (mbc mi_Sta_tellTask) 13 = .ok (.tableswitch 90 0 6 #[43, 56, 62, 68, 74, 79, 85], 43) := by decide +kernel
theorem dd_Sta_tellTask_56 : Dc mi_Sta_tellTask 56 (.aload_n 3) 1 57 := ⟨by decide +kernel, rfl⟩
theorem dd_Sta_tellTask_57 : Dc mi_Sta_tellTask 57 (.getfield 104) 3 60 := ⟨by decide +kernel, rfl⟩
theorem dd_Sta_tellTask_60 : Db mi_Sta_tellTask 60 (.ifCond .eq 7) 7 63 67 := ⟨by decide +kernel, rfl, rfl⟩
theorem dd_Sta_tellTask_63 : Dc mi_Sta_tellTask 63 (.iconst 1) 1 64 := ⟨by decide +kernel, rfl⟩
theorem dd_Sta_tellTask_64 : Db mi_Sta_tellTask 64 (.goto 4) 4 67 68 := ⟨by decide +kernel, rfl, rfl⟩
theorem dd_Sta_tellTask_67 : Dc mi_Sta_tellTask 67 (.iconst 0) 1 68 := ⟨by decide +kernel, rfl⟩
theorem dd_Sta_tellTask_68 : decode (mbc mi_Sta_tellTask) 68 = .ok (retI (mrt mi_Sta_tellTask), 1) := by decide +kernel
theorem dd_Sta_tellTask_69 : Dc mi_Sta_tellTask 69 (.aload_n 0) 1 70 := ⟨by decide +kernel, rfl⟩
theorem dd_Sta_tellTask_70 : Dc mi_Sta_tellTask 70 (.iload_n 1) 1 71 := ⟨by decide +kernel, rfl⟩
theorem dd_Sta_tellTask_71 : Dc mi_Sta_tellTask 71 (.invokevirtual 124) 3 74 := ⟨by decide +kernel, rfl⟩
theorem dd_Sta_tellTask_74 : decode (mbc mi_Sta_tellTask) 74 = .ok (retI (mrt mi_Sta_tellTask), 1) := by decide +kernel
theorem dd_Sta_tellTask_75 : Dc mi_Sta_tellTask 75 (.aload_n 0) 1 76 := ⟨by decide +kernel, rfl⟩
theorem dd_Sta_tellTask_76 : Dc mi_Sta_tellTask 76 (.iload_n 1) 1 77 := ⟨by decide +kernel, rfl⟩
theorem dd_Sta_tellTask_77 : Dc mi_Sta_tellTask 77 (.invokevirtual 185) 3 80 := ⟨by decide +kernel, rfl⟩
theorem dd_Sta_tellTask_80 : decode (mbc mi_Sta_tellTask) 80 = .ok (retI (mrt mi_Sta_tellTask), 1) := by decide +kernel
theorem dd_Sta_tellTask_81 : Dc mi_Sta_tellTask 81 (.aload_n 0) 1 82 := ⟨by decide +kernel, rfl⟩
theorem dd_Sta_tellTask_82 : Dc mi_Sta_tellTask 82 (.iload_n 1) 1 83 := ⟨by decide +kernel, rfl⟩
theorem dd_Sta_tellTask_83 : Dc mi_Sta_tellTask 83 (.invokevirtual 186) 3 86 := ⟨by decide +kernel, rfl⟩
theorem dd_Sta_tellTask_86 : decode (mbc mi_Sta_tellTask) 86 = .ok (retI (mrt mi_Sta_tellTask), 1) := by decide +kernel
theorem dd_Sta_tellTask_87 : Dc mi_Sta_tellTask 87 (.aload_n 3) 1 88 := ⟨by decide +kernel, rfl⟩
theorem dd_Sta_tellTask_88 : Dc mi_Sta_tellTask 88 (.getfield 127) 3 91 := ⟨by decide +kernel, rfl⟩
theorem dd_Sta_tellTask_91 : decode (mbc mi_Sta_tellTask) 91 = .ok (retI (mrt mi_Sta_tellTask), 1) := by decide +kernel
theorem dd_Sta_tellTask_92 : Dc mi_Sta_tellTask 92 (.aload_n 0) 1 93 := ⟨by decide +kernel, rfl⟩
theorem dd_Sta_tellTask_93 : Dc mi_Sta_tellTask 93 (.iload_n 1) 1 94 := ⟨by decide +kernel, rfl⟩
theorem dd_Sta_tellTask_94 : Dc mi_Sta_tellTask 94 (.invokevirtual 189) 3 97 := ⟨by decide +kernel, rfl⟩
theorem dd_Sta_tellTask_97 : decode (mbc mi_Sta_tellTask) 97 = .ok (retI (mrt mi_Sta_tellTask), 1) := by decide +kernel
theorem dd_Sta_tellTask_98 : Dc mi_Sta_tellTask 98 (.aload_n 3) 1 99 := ⟨by decide +kernel, rfl⟩
theorem dd_Sta_tellTask_99 : Dc mi_Sta_tellTask 99 (.getfield 115) 3 102 := ⟨by decide +kernel, rfl⟩
theorem dd_Sta_tellTask_102 : decode (mbc mi_Sta_tellTask) 102 = .ok (retI (mrt mi_Sta_tellTask), 1) := by decide +kernel
theorem dd_Sta_tellTask_103 : Dc mi_Sta_tellTask 103 (.bipush (-2)) 2 105 := ⟨by decide +kernel, rfl⟩
theorem dd_Sta_tellTask_105 : decode (mbc mi_Sta_tellTask) 105 = .ok (retI (mrt mi_Sta_tellTask), 1) := by decide +kernel
theorem dd_Sta_greatestRequest_0 : Dc mi_Sta_greatestRequest 0 (.aload_n 0) 1 1 := ⟨by decide +kernel, rfl⟩
theorem dd_Sta_greatestRequest_1 : Dc mi_Sta_greatestRequest 1 (.iload_n 1) 1 2 := ⟨by decide +kernel, rfl⟩
theorem dd_Sta_greatestRequest_2 : Dc mi_Sta_greatestRequest 2 (.invokevirtual 90) 3 5 := ⟨by decide +kernel, rfl⟩
theorem dd_Sta_greatestRequest_5 : Db mi_Sta_greatestRequest 5 (.ifnonnull 5) 5 8 10 := ⟨by decide +kernel, rfl, rfl⟩
theorem dd_Sta_greatestRequest_8 : Dc mi_Sta_greatestRequest 8 (.iconst (-1)) 1 9 := ⟨by decide +kernel, rfl⟩
theorem dd_Sta_greatestRequest_9 : decode (mbc mi_Sta_greatestRequest) 9 = .ok (retI (mrt mi_Sta_greatestRequest), 1) := by decide +kernel
theorem dd_Sta_greatestRequest_10 : Dc mi_Sta_greatestRequest 10 (.bipush 14) 2 12 := ⟨by decide +kernel, rfl⟩
theorem dd_Sta_greatestRequest_12 : Dc mi_Sta_greatestRequest 12 (.istore_n 2) 1 13 := ⟨by decide +kernel, rfl⟩
theorem dd_Sta_greatestRequest_13 : Dc mi_Sta_greatestRequest 13 (.iload_n 2) 1 14 := ⟨by decide +kernel, rfl⟩
theorem dd_Sta_greatestRequest_14 : Dc mi_Sta_greatestRequest 14 (.iconst 1) 1 15 := ⟨by decide +kernel, rfl⟩
theorem dd_Sta_greatestRequest_15 : Db mi_Sta_greatestRequest 15 (.if_icmp .lt 20) 20 18 35 := ⟨by decide +kernel, rfl, rfl⟩
theorem dd_Sta_greatestRequest_18 : Dc mi_Sta_greatestRequest 18 (.aload_n 0) 1 19 := ⟨by decide +kernel, rfl⟩
theorem dd_Sta_greatestRequest_19 : Dc mi_Sta_greatestRequest 19 (.iload_n 1) 1 20 := ⟨by decide +kernel, rfl⟩
theorem dd_Sta_greatestRequest_20 : Dc mi_Sta_greatestRequest 20 (.iload_n 2) 1 21 := ⟨by decide +kernel, rfl⟩
theorem dd_Sta_greatestRequest_21 : Dc mi_Sta_greatestRequest 21 (.invokevirtual 63) 3 24 := ⟨by decide +kernel, rfl⟩
theorem dd_Sta_greatestRequest_24 : Db mi_Sta_greatestRequest 24 (.ifCond .ne 5) 5 27 29 := ⟨by decide +kernel, rfl, rfl⟩
theorem dd_Sta_greatestRequest_27 : Dc mi_Sta_greatestRequest 27 (.iload_n 2) 1 28 := ⟨by decide +kernel, rfl⟩
theorem dd_Sta_greatestRequest_28 : decode (mbc mi_Sta_greatestRequest) 28 = .ok (retI (mrt mi_Sta_greatestRequest), 1) := by decide +kernel
theorem dd_Sta_greatestRequest_29 : Dc mi_Sta_greatestRequest 29 (.iinc 2 (-1)) 3 32 := ⟨by decide +kernel, rfl⟩
theorem dd_Sta_greatestRequest_32 : Db mi_Sta_greatestRequest 32 (.goto (-19)) (-19) 35 13 := ⟨by decide +kernel, rfl, rfl⟩
theorem dd_Sta_greatestRequest_35 : Dc mi_Sta_greatestRequest 35 (.bipush (-5)) 2 37 := ⟨by decide +kernel, rfl⟩
theorem dd_Sta_greatestRequest_37 : decode (mbc mi_Sta_greatestRequest) 37 = .ok (retI (mrt mi_Sta_greatestRequest), 1) := by decide +kernel
theorem dd_Sta_tellSize_0 : Dc mi_Sta_tellSize 0 (.iload_n 1) 1 1 := ⟨by decide +kernel, rfl⟩
theorem dd_Sta_tellSize_1 : Db mi_Sta_tellSize 1 (.ifCond .lt 8) 8 4 9 := ⟨by decide +kernel, rfl, rfl⟩
theorem dd_Sta_tellSize_4 : Dc mi_Sta_tellSize 4 (.iload_n 1) 1 5 := ⟨by decide +kernel, rfl⟩
theorem dd_Sta_tellSize_5 : Dc mi_Sta_tellSize 5 (.iconst 3) 1 6 := ⟨by decide +kernel, rfl⟩
theorem dd_Sta_tellSize_6 : Db mi_Sta_tellSize 6 (.if_icmp .lt 5) 5 9 11 := ⟨by decide +kernel, rfl, rfl⟩
theorem dd_Sta_tellSize_9 : Dc mi_Sta_tellSize 9 (.iconst (-1)) 1 10 := ⟨by decide +kernel, rfl⟩
theorem dd_Sta_tellSize_10 : decode (mbc mi_Sta_tellSize) 10 = .ok (retI (mrt mi_Sta_tellSize), 1) := by decide +kernel
theorem dd_Sta_tellSize_11 : Dc mi_Sta_tellSize 11 (.iload_n 2) 1 12 := ⟨by decide +kernel, rfl⟩
theorem dd_Sta_tellSize_12 : decode (mbc mi_Sta_tellSize) 12 = .ok (.tableswitch 62 0 2 #[28, 35, 42], 28) := by decide +kernel
theorem dd_Sta_tellSize_40 : Dc mi_Sta_tellSize 40 (.aload_n 0) 1 41 := ⟨by decide +kernel, rfl⟩
theorem dd_Sta_tellSize_41 : Dc mi_Sta_tellSize 41 (.iload_n 1) 1 42 := ⟨by decide +kernel, rfl⟩
theorem dd_Sta_tellSize_42 : Dc mi_Sta_tellSize 42 (.iconst 0) 1 43 := ⟨by decide +kernel, rfl⟩
theorem dd_Sta_tellSize_43 : Dc mi_Sta_tellSize 43 (.invokevirtual 192) 3 46 := ⟨by decide +kernel, rfl⟩
theorem dd_Sta_tellSize_46 : decode (mbc mi_Sta_tellSize) 46 = .ok (retI (mrt mi_Sta_tellSize), 1) := by decide +kernel
theorem dd_Sta_tellSize_47 : Dc mi_Sta_tellSize 47 (.aload_n 0) 1 48 := ⟨by decide +kernel, rfl⟩
theorem dd_Sta_tellSize_48 : Dc mi_Sta_tellSize 48 (.iload_n 1) 1 49 := ⟨by decide +kernel, rfl⟩
theorem dd_Sta_tellSize_49 : Dc mi_Sta_tellSize 49 (.iconst 1) 1 50 := ⟨by decide +kernel, rfl⟩
theorem dd_Sta_tellSize_50 : Dc mi_Sta_tellSize 50 (.invokevirtual 192) 3 53 := ⟨by decide +kernel, rfl⟩
theorem dd_Sta_tellSize_53 : decode (mbc mi_Sta_tellSize) 53 = .ok (retI (mrt mi_Sta_tellSize), 1) := by decide +kernel
theorem dd_Sta_tellSize_54 : Dc mi_Sta_tellSize 54 (.aload_n 0) 1 55 := ⟨by decide +kernel, rfl⟩
theorem dd_Sta_tellSize_55 : Dc mi_Sta_tellSize 55 (.iload_n 1) 1 56 := ⟨by decide +kernel, rfl⟩
theorem dd_Sta_tellSize_56 : Dc mi_Sta_tellSize 56 (.invokevirtual 145) 3 59 := ⟨by decide +kernel, rfl⟩
theorem dd_Sta_tellSize_59 : Dc mi_Sta_tellSize 59 (.astore_n 3) 1 60 := ⟨by decide +kernel, rfl⟩
theorem dd_Sta_tellSize_60 : Dc mi_Sta_tellSize 60 (.aload_n 3) 1 61 := ⟨by decide +kernel, rfl⟩
theorem dd_Sta_tellSize_61 : Db mi_Sta_tellSize 61 (.ifnonnull 8) 8 64 69 := ⟨by decide +kernel, rfl, rfl⟩
theorem dd_Sta_tellSize_64 : Dc mi_Sta_tellSize 64 (.bipush (-5)) 2 66 := ⟨by decide +kernel, rfl⟩
theorem dd_Sta_tellSize_66 : Db mi_Sta_tellSize 66 (.goto 7) 7 69 73 := ⟨by decide +kernel, rfl, rfl⟩
theorem dd_Sta_tellSize_69 : Dc mi_Sta_tellSize 69 (.aload_n 3) 1 70 := ⟨by decide +kernel, rfl⟩
theorem dd_Sta_tellSize_70 : Dc mi_Sta_tellSize 70 (.getfield 98) 3 73 := ⟨by decide +kernel, rfl⟩
theorem dd_Sta_tellSize_73 : decode (mbc mi_Sta_tellSize) 73 = .ok (retI (mrt mi_Sta_tellSize), 1) := by decide +kernel
theorem dd_Sta_tellSize_74 : Dc mi_Sta_tellSize 74 (.bipush (-2)) 2 76 := ⟨by decide +kernel, rfl⟩
theorem dd_Sta_tellSize_76 : decode (mbc mi_Sta_tellSize) 76 = .ok (retI (mrt mi_Sta_tellSize), 1) := by decide +kernel
theorem dd_Sta_blocksOfSize_0 : Dc mi_Sta_blocksOfSize 0 (.iconst 0) 1 1 := ⟨by decide +kernel, rfl⟩
theorem dd_Sta_blocksOfSize_1 : Dc mi_Sta_blocksOfSize 1 (.istore_n 3) 1 2 := ⟨by decide +kernel, rfl⟩
theorem dd_Sta_blocksOfSize_2 : Dc mi_Sta_blocksOfSize 2 (.aload_n 0) 1 3 := ⟨by decide +kernel, rfl⟩
theorem dd_Sta_blocksOfSize_3 : Dc mi_Sta_blocksOfSize 3 (.getfield 11) 3 6 := ⟨by decide +kernel, rfl⟩
theorem dd_Sta_blocksOfSize_6 : Dc mi_Sta_blocksOfSize 6 (.astore 4) 2 8 := ⟨by decide +kernel, rfl⟩
theorem dd_Sta_blocksOfSize_8 : Dc mi_Sta_blocksOfSize 8 (.aload 4) 2 10 := ⟨by decide +kernel, rfl⟩
theorem dd_Sta_blocksOfSize_10 : Dc mi_Sta_blocksOfSize 10 (.arraylength) 1 11 := ⟨by decide +kernel, rfl⟩
theorem dd_Sta_blocksOfSize_11 : Dc mi_Sta_blocksOfSize 11 (.istore 5) 2 13 := ⟨by decide +kernel, rfl⟩
theorem dd_Sta_blocksOfSize_13 : Dc mi_Sta_blocksOfSize 13 (.iconst 0) 1 14 := ⟨by decide +kernel, rfl⟩
theorem dd_Sta_blocksOfSize_14 : Dc mi_Sta_blocksOfSize 14 (.istore 6) 2 16 := ⟨by decide +kernel, rfl⟩
theorem dd_Sta_blocksOfSize_16 : Dc mi_Sta_blocksOfSize 16 (.iload 6) 2 18 := ⟨by decide +kernel, rfl⟩
theorem dd_Sta_blocksOfSize_18 : Dc mi_Sta_blocksOfSize 18 (.iload 5) 2 20 := ⟨by decide +kernel, rfl⟩
theorem dd_Sta_blocksOfSize_20 : Db mi_Sta_blocksOfSize 20 (.if_icmp .ge 37) 37 23 57 := ⟨by decide +kernel, rfl, rfl⟩
theorem dd_Sta_blocksOfSize_23 : Dc mi_Sta_blocksOfSize 23 (.aload 4) 2 25 := ⟨by decide +kernel, rfl⟩
theorem dd_Sta_blocksOfSize_25 : Dc mi_Sta_blocksOfSize 25 (.iload 6) 2 27 := ⟨by decide +kernel, rfl⟩
theorem dd_Sta_blocksOfSize_27 : Dc mi_Sta_blocksOfSize 27 (.aaload) 1 28 := ⟨by decide +kernel, rfl⟩
theorem dd_Sta_blocksOfSize_28 : Dc mi_Sta_blocksOfSize 28 (.astore 7) 2 30 := ⟨by decide +kernel, rfl⟩
theorem dd_Sta_blocksOfSize_30 : Dc mi_Sta_blocksOfSize 30 (.aload 7) 2 32 := ⟨by decide +kernel, rfl⟩
theorem dd_Sta_blocksOfSize_32 : Dc mi_Sta_blocksOfSize 32 (.getfield 151) 3 35 := ⟨by decide +kernel, rfl⟩
theorem dd_Sta_blocksOfSize_35 : Dc mi_Sta_blocksOfSize 35 (.iload_n 1) 1 36 := ⟨by decide +kernel, rfl⟩
theorem dd_Sta_blocksOfSize_36 : Db mi_Sta_blocksOfSize 36 (.if_icmp .ne 15) 15 39 51 := ⟨by decide +kernel, rfl, rfl⟩
theorem dd_Sta_blocksOfSize_39 : Dc mi_Sta_blocksOfSize 39 (.aload 7) 2 41 := ⟨by decide +kernel, rfl⟩
theorem dd_Sta_blocksOfSize_41 : Dc mi_Sta_blocksOfSize 41 (.invokevirtual 169) 3 44 := ⟨by decide +kernel, rfl⟩
theorem dd_Sta_blocksOfSize_44 : Dc mi_Sta_blocksOfSize 44 (.iload_n 2) 1 45 := ⟨by decide +kernel, rfl⟩
theorem dd_Sta_blocksOfSize_45 : Db mi_Sta_blocksOfSize 45 (.if_icmp .ne 6) 6 48 51 := ⟨by decide +kernel, rfl, rfl⟩
theorem dd_Sta_blocksOfSize_48 : Dc mi_Sta_blocksOfSize 48 (.iinc 3 1) 3 51 := ⟨by decide +kernel, rfl⟩
theorem dd_Sta_blocksOfSize_51 : Dc mi_Sta_blocksOfSize 51 (.iinc 6 1) 3 54 := ⟨by decide +kernel, rfl⟩
theorem dd_Sta_blocksOfSize_54 : Db mi_Sta_blocksOfSize 54 (.goto (-38)) (-38) 57 16 := ⟨by decide +kernel, rfl, rfl⟩
theorem dd_Sta_blocksOfSize_57 : Dc mi_Sta_blocksOfSize 57 (.iload_n 3) 1 58 := ⟨by decide +kernel, rfl⟩
theorem dd_Sta_blocksOfSize_58 : decode (mbc mi_Sta_blocksOfSize) 58 = .ok (retI (mrt mi_Sta_blocksOfSize), 1) := by decide +kernel
theorem dd_Sta_leakOfRank_0 : Dc mi_Sta_leakOfRank 0 (.iload_n 1) 1 1 := ⟨by decide +kernel, rfl⟩
theorem dd_Sta_leakOfRank_1 : Db mi_Sta_leakOfRank 1 (.ifCond .ge 6) 6 4 7 := ⟨by decide +kernel, rfl, rfl⟩
theorem dd_Sta_leakOfRank_4 : Dc mi_Sta_leakOfRank 4 (.bipush (-2)) 2 6 := ⟨by decide +kernel, rfl⟩
theorem dd_Sta_leakOfRank_6 : decode (mbc mi_Sta_leakOfRank) 6 = .ok (retI (mrt mi_Sta_leakOfRank), 1) := by decide +kernel
theorem dd_Sta_leakOfRank_7 : Dc mi_Sta_leakOfRank 7 (.aload_n 0) 1 8 := ⟨by decide +kernel, rfl⟩
theorem dd_Sta_leakOfRank_8 : Dc mi_Sta_leakOfRank 8 (.getfield 11) 3 11 := ⟨by decide +kernel, rfl⟩
theorem dd_Sta_leakOfRank_11 : Dc mi_Sta_leakOfRank 11 (.astore_n 2) 1 12 := ⟨by decide +kernel, rfl⟩
theorem dd_Sta_leakOfRank_12 : Dc mi_Sta_leakOfRank 12 (.aload_n 2) 1 13 := ⟨by decide +kernel, rfl⟩
theorem dd_Sta_leakOfRank_13 : Dc mi_Sta_leakOfRank 13 (.arraylength) 1 14 := ⟨by decide +kernel, rfl⟩
theorem dd_Sta_leakOfRank_14 : Dc mi_Sta_leakOfRank 14 (.istore_n 3) 1 15 := ⟨by decide +kernel, rfl⟩
theorem dd_Sta_leakOfRank_15 : Dc mi_Sta_leakOfRank 15 (.iconst 0) 1 16 := ⟨by decide +kernel, rfl⟩
theorem dd_Sta_leakOfRank_16 : Dc mi_Sta_leakOfRank 16 (.istore 4) 2 18 := ⟨by decide +kernel, rfl⟩
theorem dd_Sta_leakOfRank_18 : Dc mi_Sta_leakOfRank 18 (.iload 4) 2 20 := ⟨by decide +kernel, rfl⟩
theorem dd_Sta_leakOfRank_20 : Dc mi_Sta_leakOfRank 20 (.iload_n 3) 1 21 := ⟨by decide +kernel, rfl⟩
theorem dd_Sta_leakOfRank_21 : Db mi_Sta_leakOfRank 21 (.if_icmp .ge 40) 40 24 61 := ⟨by decide +kernel, rfl, rfl⟩
theorem dd_Sta_leakOfRank_24 : Dc mi_Sta_leakOfRank 24 (.aload_n 2) 1 25 := ⟨by decide +kernel, rfl⟩
theorem dd_Sta_leakOfRank_25 : Dc mi_Sta_leakOfRank 25 (.iload 4) 2 27 := ⟨by decide +kernel, rfl⟩
theorem dd_Sta_leakOfRank_27 : Dc mi_Sta_leakOfRank 27 (.aaload) 1 28 := ⟨by decide +kernel, rfl⟩
theorem dd_Sta_leakOfRank_28 : Dc mi_Sta_leakOfRank 28 (.astore 5) 2 30 := ⟨by decide +kernel, rfl⟩
theorem dd_Sta_leakOfRank_30 : Dc mi_Sta_leakOfRank 30 (.aload_n 0) 1 31 := ⟨by decide +kernel, rfl⟩
theorem dd_Sta_leakOfRank_31 : Dc mi_Sta_leakOfRank 31 (.aload 5) 2 33 := ⟨by decide +kernel, rfl⟩
theorem dd_Sta_leakOfRank_33 : Dc mi_Sta_leakOfRank 33 (.invokevirtual 134) 3 36 := ⟨by decide +kernel, rfl⟩
theorem dd_Sta_leakOfRank_36 : Db mi_Sta_leakOfRank 36 (.ifCond .eq 19) 19 39 55 := ⟨by decide +kernel, rfl, rfl⟩
theorem dd_Sta_leakOfRank_39 : Dc mi_Sta_leakOfRank 39 (.aload_n 0) 1 40 := ⟨by decide +kernel, rfl⟩
theorem dd_Sta_leakOfRank_40 : Dc mi_Sta_leakOfRank 40 (.aload 5) 2 42 := ⟨by decide +kernel, rfl⟩
theorem dd_Sta_leakOfRank_42 : Dc mi_Sta_leakOfRank 42 (.invokevirtual 205) 3 45 := ⟨by decide +kernel, rfl⟩
theorem dd_Sta_leakOfRank_45 : Dc mi_Sta_leakOfRank 45 (.iload_n 1) 1 46 := ⟨by decide +kernel, rfl⟩
theorem dd_Sta_leakOfRank_46 : Db mi_Sta_leakOfRank 46 (.if_icmp .ne 9) 9 49 55 := ⟨by decide +kernel, rfl, rfl⟩
theorem dd_Sta_leakOfRank_49 : Dc mi_Sta_leakOfRank 49 (.aload 5) 2 51 := ⟨by decide +kernel, rfl⟩
theorem dd_Sta_leakOfRank_51 : Dc mi_Sta_leakOfRank 51 (.getfield 78) 3 54 := ⟨by decide +kernel, rfl⟩
theorem dd_Sta_leakOfRank_54 : decode (mbc mi_Sta_leakOfRank) 54 = .ok (retI (mrt mi_Sta_leakOfRank), 1) := by decide +kernel
theorem dd_Sta_leakOfRank_55 : Dc mi_Sta_leakOfRank 55 (.iinc 4 1) 3 58 := ⟨by decide +kernel, rfl⟩
theorem dd_Sta_leakOfRank_58 : Db mi_Sta_leakOfRank 58 (.goto (-40)) (-40) 61 18 := ⟨by decide +kernel, rfl, rfl⟩
theorem dd_Sta_leakOfRank_61 : Dc mi_Sta_leakOfRank 61 (.bipush (-5)) 2 63 := ⟨by decide +kernel, rfl⟩
theorem dd_Sta_leakOfRank_63 : decode (mbc mi_Sta_leakOfRank) 63 = .ok (retI (mrt mi_Sta_leakOfRank), 1) := by decide +kernel
theorem dd_Sta_leaksAheadOf_0 : Dc mi_Sta_leaksAheadOf 0 (.iconst 0) 1 1 := ⟨by decide +kernel, rfl⟩
theorem dd_Sta_leaksAheadOf_1 : Dc mi_Sta_leaksAheadOf 1 (.istore_n 2) 1 2 := ⟨by decide +kernel, rfl⟩
theorem dd_Sta_leaksAheadOf_2 : Dc mi_Sta_leaksAheadOf 2 (.aload_n 0) 1 3 := ⟨by decide +kernel, rfl⟩
theorem dd_Sta_leaksAheadOf_3 : Dc mi_Sta_leaksAheadOf 3 (.getfield 11) 3 6 := ⟨by decide +kernel, rfl⟩
theorem dd_Sta_leaksAheadOf_6 : Dc mi_Sta_leaksAheadOf 6 (.astore_n 3) 1 7 := ⟨by decide +kernel, rfl⟩
theorem dd_Sta_leaksAheadOf_7 : Dc mi_Sta_leaksAheadOf 7 (.aload_n 3) 1 8 := ⟨by decide +kernel, rfl⟩
theorem dd_Sta_leaksAheadOf_8 : Dc mi_Sta_leaksAheadOf 8 (.arraylength) 1 9 := ⟨by decide +kernel, rfl⟩
theorem dd_Sta_leaksAheadOf_9 : Dc mi_Sta_leaksAheadOf 9 (.istore 4) 2 11 := ⟨by decide +kernel, rfl⟩
theorem dd_Sta_leaksAheadOf_11 : Dc mi_Sta_leaksAheadOf 11 (.iconst 0) 1 12 := ⟨by decide +kernel, rfl⟩
theorem dd_Sta_leaksAheadOf_12 : Dc mi_Sta_leaksAheadOf 12 (.istore 5) 2 14 := ⟨by decide +kernel, rfl⟩
theorem dd_Sta_leaksAheadOf_14 : Dc mi_Sta_leaksAheadOf 14 (.iload 5) 2 16 := ⟨by decide +kernel, rfl⟩
theorem dd_Sta_leaksAheadOf_16 : Dc mi_Sta_leaksAheadOf 16 (.iload 4) 2 18 := ⟨by decide +kernel, rfl⟩
theorem dd_Sta_leaksAheadOf_18 : Db mi_Sta_leaksAheadOf 18 (.if_icmp .ge 75) 75 21 93 := ⟨by decide +kernel, rfl, rfl⟩
theorem dd_Sta_leaksAheadOf_21 : Dc mi_Sta_leaksAheadOf 21 (.aload_n 3) 1 22 := ⟨by decide +kernel, rfl⟩
theorem dd_Sta_leaksAheadOf_22 : Dc mi_Sta_leaksAheadOf 22 (.iload 5) 2 24 := ⟨by decide +kernel, rfl⟩
theorem dd_Sta_leaksAheadOf_24 : Dc mi_Sta_leaksAheadOf 24 (.aaload) 1 25 := ⟨by decide +kernel, rfl⟩
theorem dd_Sta_leaksAheadOf_25 : Dc mi_Sta_leaksAheadOf 25 (.astore 6) 2 27 := ⟨by decide +kernel, rfl⟩
theorem dd_Sta_leaksAheadOf_27 : Dc mi_Sta_leaksAheadOf 27 (.aload 6) 2 29 := ⟨by decide +kernel, rfl⟩
theorem dd_Sta_leaksAheadOf_29 : Dc mi_Sta_leaksAheadOf 29 (.getfield 84) 3 32 := ⟨by decide +kernel, rfl⟩
theorem dd_Sta_leaksAheadOf_32 : Dc mi_Sta_leaksAheadOf 32 (.aload_n 1) 1 33 := ⟨by decide +kernel, rfl⟩
theorem dd_Sta_leaksAheadOf_33 : Dc mi_Sta_leaksAheadOf 33 (.getfield 84) 3 36 := ⟨by decide +kernel, rfl⟩
theorem dd_Sta_leaksAheadOf_36 : Db mi_Sta_leaksAheadOf 36 (.if_icmp .lt 27) 27 39 63 := ⟨by decide +kernel, rfl, rfl⟩
theorem dd_Sta_leaksAheadOf_39 : Dc mi_Sta_leaksAheadOf 39 (.aload 6) 2 41 := ⟨by decide +kernel, rfl⟩
theorem dd_Sta_leaksAheadOf_41 : Dc mi_Sta_leaksAheadOf 41 (.getfield 84) 3 44 := ⟨by decide +kernel, rfl⟩
theorem dd_Sta_leaksAheadOf_44 : Dc mi_Sta_leaksAheadOf 44 (.aload_n 1) 1 45 := ⟨by decide +kernel, rfl⟩
theorem dd_Sta_leaksAheadOf_45 : Dc mi_Sta_leaksAheadOf 45 (.getfield 84) 3 48 := ⟨by decide +kernel, rfl⟩
theorem dd_Sta_leaksAheadOf_48 : Db mi_Sta_leaksAheadOf 48 (.if_icmp .ne 19) 19 51 67 := ⟨by decide +kernel, rfl, rfl⟩
theorem dd_Sta_leaksAheadOf_51 : Dc mi_Sta_leaksAheadOf 51 (.aload 6) 2 53 := ⟨by decide +kernel, rfl⟩
theorem dd_Sta_leaksAheadOf_53 : Dc mi_Sta_leaksAheadOf 53 (.getfield 78) 3 56 := ⟨by decide +kernel, rfl⟩
theorem dd_Sta_leaksAheadOf_56 : Dc mi_Sta_leaksAheadOf 56 (.aload_n 1) 1 57 := ⟨by decide +kernel, rfl⟩
theorem dd_Sta_leaksAheadOf_57 : Dc mi_Sta_leaksAheadOf 57 (.getfield 78) 3 60 := ⟨by decide +kernel, rfl⟩
theorem dd_Sta_leaksAheadOf_60 : Db mi_Sta_leaksAheadOf 60 (.if_icmp .ge 7) 7 63 67 := ⟨by decide +kernel, rfl, rfl⟩
theorem dd_Sta_leaksAheadOf_63 : Dc mi_Sta_leaksAheadOf 63 (.iconst 1) 1 64 := ⟨by decide +kernel, rfl⟩
theorem dd_Sta_leaksAheadOf_64 : Db mi_Sta_leaksAheadOf 64 (.goto 4) 4 67 68 := ⟨by decide +kernel, rfl, rfl⟩
theorem dd_Sta_leaksAheadOf_67 : Dc mi_Sta_leaksAheadOf 67 (.iconst 0) 1 68 := ⟨by decide +kernel, rfl⟩
theorem dd_Sta_leaksAheadOf_68 : Dc mi_Sta_leaksAheadOf 68 (.istore 7) 2 70 := ⟨by decide +kernel, rfl⟩
theorem dd_Sta_leaksAheadOf_70 : Dc mi_Sta_leaksAheadOf 70 (.iload 7) 2 72 := ⟨by decide +kernel, rfl⟩
theorem dd_Sta_leaksAheadOf_72 : Db mi_Sta_leaksAheadOf 72 (.ifCond .eq 15) 15 75 87 := ⟨by decide +kernel, rfl, rfl⟩
theorem dd_Sta_leaksAheadOf_75 : Dc mi_Sta_leaksAheadOf 75 (.aload_n 0) 1 76 := ⟨by decide +kernel, rfl⟩
theorem dd_Sta_leaksAheadOf_76 : Dc mi_Sta_leaksAheadOf 76 (.aload 6) 2 78 := ⟨by decide +kernel, rfl⟩
theorem dd_Sta_leaksAheadOf_78 : Dc mi_Sta_leaksAheadOf 78 (.invokevirtual 134) 3 81 := ⟨by decide +kernel, rfl⟩
theorem dd_Sta_leaksAheadOf_81 : Db mi_Sta_leaksAheadOf 81 (.ifCond .eq 6) 6 84 87 := ⟨by decide +kernel, rfl, rfl⟩
theorem dd_Sta_leaksAheadOf_84 : Dc mi_Sta_leaksAheadOf 84 (.iinc 2 1) 3 87 := ⟨by decide +kernel, rfl⟩
theorem dd_Sta_leaksAheadOf_87 : Dc mi_Sta_leaksAheadOf 87 (.iinc 5 1) 3 90 := ⟨by decide +kernel, rfl⟩
theorem dd_Sta_leaksAheadOf_90 : Db mi_Sta_leaksAheadOf 90 (.goto (-76)) (-76) 93 14 := ⟨by decide +kernel, rfl, rfl⟩
theorem dd_Sta_leaksAheadOf_93 : Dc mi_Sta_leaksAheadOf 93 (.iload_n 2) 1 94 := ⟨by decide +kernel, rfl⟩
theorem dd_Sta_leaksAheadOf_94 : decode (mbc mi_Sta_leaksAheadOf) 94 = .ok (retI (mrt mi_Sta_leaksAheadOf), 1) := by decide +kernel
end
section
/-! decode rows, printed by wip/p28/gen_dec.py -/
theorem dd_Law_cell_0 : Dc mi_Law_cell 0 (.iload_n 1) 1 1 := ⟨by decide +kernel, rfl⟩
theorem dd_Law_cell_1 : Dc mi_Law_cell 1 (.aload_n 0) 1 2 := ⟨by decide +kernel, rfl⟩
theorem dd_Law_cell_2 : Dc mi_Law_cell 2 (.arraylength) 1 3 := ⟨by decide +kernel, rfl⟩
theorem dd_Law_cell_3 : Db mi_Law_cell 3 (.if_icmp .ge 9) 9 6 12 := ⟨by decide +kernel, rfl, rfl⟩
theorem dd_Law_cell_6 : Dc mi_Law_cell 6 (.aload_n 0) 1 7 := ⟨by decide +kernel, rfl⟩
theorem dd_Law_cell_7 : Dc mi_Law_cell 7 (.iload_n 1) 1 8 := ⟨by decide +kernel, rfl⟩
theorem dd_Law_cell_8 : Dc mi_Law_cell 8 (.iaload) 1 9 := ⟨by decide +kernel, rfl⟩
theorem dd_Law_cell_9 : Db mi_Law_cell 9 (.goto 15) 15 12 24 := ⟨by decide +kernel, rfl, rfl⟩
theorem dd_Law_cell_12 : Dc mi_Law_cell 12 (.sipush 7919) 3 15 := ⟨by decide +kernel, rfl⟩
theorem dd_Law_cell_15 : Dc mi_Law_cell 15 (.iload_n 1) 1 16 := ⟨by decide +kernel, rfl⟩
theorem dd_Law_cell_16 : Dc mi_Law_cell 16 (.iconst 3) 1 17 := ⟨by decide +kernel, rfl⟩
theorem dd_Law_cell_17 : Dc mi_Law_cell 17 (.iadd) 1 18 := ⟨by decide +kernel, rfl⟩
theorem dd_Law_cell_18 : Dc mi_Law_cell 18 (.imul) 1 19 := ⟨by decide +kernel, rfl⟩
theorem dd_Law_cell_19 : Dc mi_Law_cell 19 (.iload_n 1) 1 20 := ⟨by decide +kernel, rfl⟩
theorem dd_Law_cell_20 : Dc mi_Law_cell 20 (.bipush 11) 2 22 := ⟨by decide +kernel, rfl⟩
theorem dd_Law_cell_22 : Dc mi_Law_cell 22 (.iadd) 1 23 := ⟨by decide +kernel, rfl⟩
theorem dd_Law_cell_23 : Dc mi_Law_cell 23 (.imul) 1 24 := ⟨by decide +kernel, rfl⟩
theorem dd_Law_cell_24 : decode (mbc mi_Law_cell) 24 = .ok (retI (mrt mi_Law_cell), 1) := by decide +kernel
theorem dd_Law_low_0 : Dc mi_Law_low 0 (.iload_n 0) 1 1 := ⟨by decide +kernel, rfl⟩
theorem dd_Law_low_1 : Dc mi_Law_low 1 (.ldc 7) 2 3 := ⟨by decide +kernel, rfl⟩
theorem dd_Law_low_3 : Dc mi_Law_low 3 (.iand) 1 4 := ⟨by decide +kernel, rfl⟩
theorem dd_Law_low_4 : Dc mi_Law_low 4 (.iload_n 1) 1 5 := ⟨by decide +kernel, rfl⟩
theorem dd_Law_low_5 : Dc mi_Law_low 5 (.irem) 1 6 := ⟨by decide +kernel, rfl⟩
theorem dd_Law_low_6 : decode (mbc mi_Law_low) 6 = .ok (retI (mrt mi_Law_low), 1) := by decide +kernel
theorem dd_Law_does_0 : Dc mi_Law_does 0 (.iload_n 1) 1 1 := ⟨by decide +kernel, rfl⟩
theorem dd_Law_does_1 : Dc mi_Law_does 1 (.iconst 4) 1 2 := ⟨by decide +kernel, rfl⟩
theorem dd_Law_does_2 : Dc mi_Law_does 2 (.ishr) 1 3 := ⟨by decide +kernel, rfl⟩
theorem dd_Law_does_3 : Dc mi_Law_does 3 (.bipush 6) 2 5 := ⟨by decide +kernel, rfl⟩
theorem dd_Law_does_5 : Dc mi_Law_does 5 (.invokestatic 14) 3 8 := ⟨by decide +kernel, rfl⟩
theorem dd_Law_does_8 : Dc mi_Law_does 8 (.istore_n 2) 1 9 := ⟨by decide +kernel, rfl⟩
theorem dd_Law_does_9 : Dc mi_Law_does 9 (.aload_n 0) 1 10 := ⟨by decide +kernel, rfl⟩
theorem dd_Law_does_10 : Dc mi_Law_does 10 (.iload_n 1) 1 11 := ⟨by decide +kernel, rfl⟩
theorem dd_Law_does_11 : Dc mi_Law_does 11 (.bipush 7) 2 13 := ⟨by decide +kernel, rfl⟩
theorem dd_Law_does_13 : Dc mi_Law_does 13 (.ishr) 1 14 := ⟨by decide +kernel, rfl⟩
theorem dd_Law_does_14 : Dc mi_Law_does 14 (.invokestatic 26) 3 17 := ⟨by decide +kernel, rfl⟩
theorem dd_Law_does_17 : Dc mi_Law_does 17 (.istore_n 3) 1 18 := ⟨by decide +kernel, rfl⟩
theorem dd_Law_does_18 : Dc mi_Law_does 18 (.iload_n 3) 1 19 := ⟨by decide +kernel, rfl⟩
theorem dd_Law_does_19 : Db mi_Law_does 19 (.ifCond .ge 7) 7 22 26 := ⟨by decide +kernel, rfl, rfl⟩
theorem dd_Law_does_22 : Dc mi_Law_does 22 (.iload_n 2) 1 23 := ⟨by decide +kernel, rfl⟩
theorem dd_Law_does_23 : Db mi_Law_does 23 (.goto 9) 9 26 32 := ⟨by decide +kernel, rfl, rfl⟩
theorem dd_Law_does_26 : Dc mi_Law_does 26 (.aload_n 0) 1 27 := ⟨by decide +kernel, rfl⟩
theorem dd_Law_does_27 : Dc mi_Law_does 27 (.iload_n 3) 1 28 := ⟨by decide +kernel, rfl⟩
theorem dd_Law_does_28 : Dc mi_Law_does 28 (.iconst 2) 1 29 := ⟨by decide +kernel, rfl⟩
theorem dd_Law_does_29 : Dc mi_Law_does 29 (.invokevirtual 23) 3 32 := ⟨by decide +kernel, rfl⟩
theorem dd_Law_does_32 : Dc mi_Law_does 32 (.istore 4) 2 34 := ⟨by decide +kernel, rfl⟩
theorem dd_Law_does_34 : Dc mi_Law_does 34 (.iload_n 1) 1 35 := ⟨by decide +kernel, rfl⟩
theorem dd_Law_does_35 : Dc mi_Law_does 35 (.bipush 15) 2 37 := ⟨by decide +kernel, rfl⟩
theorem dd_Law_does_37 : Dc mi_Law_does 37 (.iand) 1 38 := ⟨by decide +kernel, rfl⟩
theorem dd_Law_does_38 : decode (mbc mi_Law_does) 38 = .ok (.tableswitch 230 0 13 #[70, 70, 70, 70, 70, 87, 87, 108, 108, 108, 152, 158, 178, 225], 70) := by decide +kernel
theorem dd_Law_does_108 : Dc mi_Law_does 108 (.aload_n 0) 1 109 := ⟨by decide +kernel, rfl⟩
theorem dd_Law_does_109 : Dc mi_Law_does 109 (.iload_n 2) 1 110 := ⟨by decide +kernel, rfl⟩
theorem dd_Law_does_110 : Dc mi_Law_does 110 (.iconst 1) 1 111 := ⟨by decide +kernel, rfl⟩
theorem dd_Law_does_111 : Dc mi_Law_does 111 (.iload_n 1) 1 112 := ⟨by decide +kernel, rfl⟩
theorem dd_Law_does_112 : Dc mi_Law_does 112 (.bipush 7) 2 114 := ⟨by decide +kernel, rfl⟩
theorem dd_Law_does_114 : Dc mi_Law_does 114 (.ishr) 1 115 := ⟨by decide +kernel, rfl⟩
theorem dd_Law_does_115 : Dc mi_Law_does 115 (.bipush 14) 2 117 := ⟨by decide +kernel, rfl⟩
theorem dd_Law_does_117 : Dc mi_Law_does 117 (.invokestatic 14) 3 120 := ⟨by decide +kernel, rfl⟩
theorem dd_Law_does_120 : Dc mi_Law_does 120 (.iadd) 1 121 := ⟨by decide +kernel, rfl⟩
theorem dd_Law_does_121 : Dc mi_Law_does 121 (.invokevirtual 30) 3 124 := ⟨by decide +kernel, rfl⟩
theorem dd_Law_does_124 : decode (mbc mi_Law_does) 124 = .ok (retI (mrt mi_Law_does), 1) := by decide +kernel
theorem dd_Law_does_125 : Dc mi_Law_does 125 (.aload_n 0) 1 126 := ⟨by decide +kernel, rfl⟩
theorem dd_Law_does_126 : Dc mi_Law_does 126 (.iload_n 1) 1 127 := ⟨by decide +kernel, rfl⟩
theorem dd_Law_does_127 : Dc mi_Law_does 127 (.bipush 11) 2 129 := ⟨by decide +kernel, rfl⟩
theorem dd_Law_does_129 : Dc mi_Law_does 129 (.ishr) 1 130 := ⟨by decide +kernel, rfl⟩
theorem dd_Law_does_130 : Dc mi_Law_does 130 (.iconst 3) 1 131 := ⟨by decide +kernel, rfl⟩
theorem dd_Law_does_131 : Dc mi_Law_does 131 (.iand) 1 132 := ⟨by decide +kernel, rfl⟩
theorem dd_Law_does_132 : Db mi_Law_does 132 (.ifCond .ne 7) 7 135 139 := ⟨by decide +kernel, rfl, rfl⟩
theorem dd_Law_does_135 : Dc mi_Law_does 135 (.iload_n 2) 1 136 := ⟨by decide +kernel, rfl⟩
theorem dd_Law_does_136 : Db mi_Law_does 136 (.goto 5) 5 139 141 := ⟨by decide +kernel, rfl, rfl⟩
theorem dd_Law_does_139 : Dc mi_Law_does 139 (.iload 4) 2 141 := ⟨by decide +kernel, rfl⟩
theorem dd_Law_does_141 : Dc mi_Law_does 141 (.iload_n 3) 1 142 := ⟨by decide +kernel, rfl⟩
theorem dd_Law_does_142 : Dc mi_Law_does 142 (.invokevirtual 33) 3 145 := ⟨by decide +kernel, rfl⟩
theorem dd_Law_does_145 : decode (mbc mi_Law_does) 145 = .ok (retI (mrt mi_Law_does), 1) := by decide +kernel
theorem dd_Law_does_146 : Dc mi_Law_does 146 (.aload_n 0) 1 147 := ⟨by decide +kernel, rfl⟩
theorem dd_Law_does_147 : Dc mi_Law_does 147 (.iload_n 1) 1 148 := ⟨by decide +kernel, rfl⟩
theorem dd_Law_does_148 : Dc mi_Law_does 148 (.bipush 11) 2 150 := ⟨by decide +kernel, rfl⟩
theorem dd_Law_does_150 : Dc mi_Law_does 150 (.ishr) 1 151 := ⟨by decide +kernel, rfl⟩
theorem dd_Law_does_151 : Dc mi_Law_does 151 (.bipush 7) 2 153 := ⟨by decide +kernel, rfl⟩
theorem dd_Law_does_153 : Dc mi_Law_does 153 (.iand) 1 154 := ⟨by decide +kernel, rfl⟩
theorem dd_Law_does_154 : Db mi_Law_does 154 (.ifCond .ne 7) 7 157 161 := ⟨by decide +kernel, rfl, rfl⟩
theorem dd_Law_does_157 : Dc mi_Law_does 157 (.iload_n 2) 1 158 := ⟨by decide +kernel, rfl⟩
theorem dd_Law_does_158 : Db mi_Law_does 158 (.goto 5) 5 161 163 := ⟨by decide +kernel, rfl, rfl⟩
theorem dd_Law_does_161 : Dc mi_Law_does 161 (.iload 4) 2 163 := ⟨by decide +kernel, rfl⟩
theorem dd_Law_does_163 : Dc mi_Law_does 163 (.iload_n 3) 1 164 := ⟨by decide +kernel, rfl⟩
theorem dd_Law_does_164 : Dc mi_Law_does 164 (.iload_n 1) 1 165 := ⟨by decide +kernel, rfl⟩
theorem dd_Law_does_165 : Dc mi_Law_does 165 (.bipush 12) 2 167 := ⟨by decide +kernel, rfl⟩
theorem dd_Law_does_167 : Dc mi_Law_does 167 (.ishr) 1 168 := ⟨by decide +kernel, rfl⟩
theorem dd_Law_does_168 : Dc mi_Law_does 168 (.bipush 30) 2 170 := ⟨by decide +kernel, rfl⟩
theorem dd_Law_does_170 : Dc mi_Law_does 170 (.invokestatic 14) 3 173 := ⟨by decide +kernel, rfl⟩
theorem dd_Law_does_173 : Dc mi_Law_does 173 (.bipush 8) 2 175 := ⟨by decide +kernel, rfl⟩
theorem dd_Law_does_175 : Dc mi_Law_does 175 (.isub) 1 176 := ⟨by decide +kernel, rfl⟩
theorem dd_Law_does_176 : Dc mi_Law_does 176 (.iconst 1) 1 177 := ⟨by decide +kernel, rfl⟩
theorem dd_Law_does_177 : Dc mi_Law_does 177 (.iload_n 1) 1 178 := ⟨by decide +kernel, rfl⟩
theorem dd_Law_does_178 : Dc mi_Law_does 178 (.iconst 5) 1 179 := ⟨by decide +kernel, rfl⟩
theorem dd_Law_does_179 : Dc mi_Law_does 179 (.ishr) 1 180 := ⟨by decide +kernel, rfl⟩
theorem dd_Law_does_180 : Dc mi_Law_does 180 (.bipush 99) 2 182 := ⟨by decide +kernel, rfl⟩
theorem dd_Law_does_182 : Dc mi_Law_does 182 (.invokestatic 14) 3 185 := ⟨by decide +kernel, rfl⟩
theorem dd_Law_does_185 : Dc mi_Law_does 185 (.iadd) 1 186 := ⟨by decide +kernel, rfl⟩
theorem dd_Law_does_186 : Dc mi_Law_does 186 (.invokevirtual 36) 3 189 := ⟨by decide +kernel, rfl⟩
theorem dd_Law_does_189 : decode (mbc mi_Law_does) 189 = .ok (retI (mrt mi_Law_does), 1) := by decide +kernel
theorem dd_Law_does_190 : Dc mi_Law_does 190 (.aload_n 0) 1 191 := ⟨by decide +kernel, rfl⟩
theorem dd_Law_does_191 : Dc mi_Law_does 191 (.iload_n 3) 1 192 := ⟨by decide +kernel, rfl⟩
theorem dd_Law_does_192 : Dc mi_Law_does 192 (.invokevirtual 40) 3 195 := ⟨by decide +kernel, rfl⟩
theorem dd_Law_does_195 : decode (mbc mi_Law_does) 195 = .ok (retI (mrt mi_Law_does), 1) := by decide +kernel
theorem dd_Law_does_196 : Dc mi_Law_does 196 (.aload_n 0) 1 197 := ⟨by decide +kernel, rfl⟩
theorem dd_Law_does_197 : Dc mi_Law_does 197 (.iload_n 2) 1 198 := ⟨by decide +kernel, rfl⟩
theorem dd_Law_does_198 : Dc mi_Law_does 198 (.iload_n 1) 1 199 := ⟨by decide +kernel, rfl⟩
theorem dd_Law_does_199 : Dc mi_Law_does 199 (.bipush 8) 2 201 := ⟨by decide +kernel, rfl⟩
theorem dd_Law_does_201 : Dc mi_Law_does 201 (.ishr) 1 202 := ⟨by decide +kernel, rfl⟩
theorem dd_Law_does_202 : Dc mi_Law_does 202 (.iconst 3) 1 203 := ⟨by decide +kernel, rfl⟩
theorem dd_Law_does_203 : Dc mi_Law_does 203 (.iand) 1 204 := ⟨by decide +kernel, rfl⟩
theorem dd_Law_does_204 : Db mi_Law_does 204 (.ifCond .le 7) 7 207 211 := ⟨by decide +kernel, rfl, rfl⟩
theorem dd_Law_does_207 : Dc mi_Law_does 207 (.iconst 1) 1 208 := ⟨by decide +kernel, rfl⟩
theorem dd_Law_does_208 : Db mi_Law_does 208 (.goto 4) 4 211 212 := ⟨by decide +kernel, rfl, rfl⟩
theorem dd_Law_does_211 : Dc mi_Law_does 211 (.iconst 0) 1 212 := ⟨by decide +kernel, rfl⟩
theorem dd_Law_does_212 : Dc mi_Law_does 212 (.invokevirtual 43) 3 215 := ⟨by decide +kernel, rfl⟩
theorem dd_Law_does_215 : decode (mbc mi_Law_does) 215 = .ok (retI (mrt mi_Law_does), 1) := by decide +kernel
theorem dd_Law_does_216 : Dc mi_Law_does 216 (.iload_n 1) 1 217 := ⟨by decide +kernel, rfl⟩
theorem dd_Law_does_217 : Dc mi_Law_does 217 (.iconst 4) 1 218 := ⟨by decide +kernel, rfl⟩
theorem dd_Law_does_218 : Dc mi_Law_does 218 (.ishr) 1 219 := ⟨by decide +kernel, rfl⟩
theorem dd_Law_does_219 : Dc mi_Law_does 219 (.iconst 1) 1 220 := ⟨by decide +kernel, rfl⟩
theorem dd_Law_does_220 : Dc mi_Law_does 220 (.iand) 1 221 := ⟨by decide +kernel, rfl⟩
theorem dd_Law_does_221 : Db mi_Law_does 221 (.ifCond .ne 27) 27 224 248 := ⟨by decide +kernel, rfl, rfl⟩
theorem dd_Law_does_224 : Dc mi_Law_does 224 (.aload_n 0) 1 225 := ⟨by decide +kernel, rfl⟩
theorem dd_Law_does_225 : Dc mi_Law_does 225 (.iload_n 1) 1 226 := ⟨by decide +kernel, rfl⟩
theorem dd_Law_does_226 : Dc mi_Law_does 226 (.iconst 5) 1 227 := ⟨by decide +kernel, rfl⟩
theorem dd_Law_does_227 : Dc mi_Law_does 227 (.ishr) 1 228 := ⟨by decide +kernel, rfl⟩
theorem dd_Law_does_228 : Dc mi_Law_does 228 (.bipush 6) 2 230 := ⟨by decide +kernel, rfl⟩
theorem dd_Law_does_230 : Dc mi_Law_does 230 (.invokestatic 14) 3 233 := ⟨by decide +kernel, rfl⟩
theorem dd_Law_does_233 : Dc mi_Law_does 233 (.iload_n 1) 1 234 := ⟨by decide +kernel, rfl⟩
theorem dd_Law_does_234 : Dc mi_Law_does 234 (.bipush 8) 2 236 := ⟨by decide +kernel, rfl⟩
theorem dd_Law_does_236 : Dc mi_Law_does 236 (.ishr) 1 237 := ⟨by decide +kernel, rfl⟩
theorem dd_Law_does_237 : Dc mi_Law_does 237 (.bipush 65) 2 239 := ⟨by decide +kernel, rfl⟩
theorem dd_Law_does_239 : Dc mi_Law_does 239 (.invokestatic 14) 3 242 := ⟨by decide +kernel, rfl⟩
theorem dd_Law_does_242 : Dc mi_Law_does 242 (.invokevirtual 47) 3 245 := ⟨by decide +kernel, rfl⟩
theorem dd_Law_does_245 : Db mi_Law_does 245 (.goto 17) 17 248 262 := ⟨by decide +kernel, rfl, rfl⟩
theorem dd_Law_does_248 : Dc mi_Law_does 248 (.aload_n 0) 1 249 := ⟨by decide +kernel, rfl⟩
theorem dd_Law_does_249 : Dc mi_Law_does 249 (.iconst 1) 1 250 := ⟨by decide +kernel, rfl⟩
theorem dd_Law_does_250 : Dc mi_Law_does 250 (.iload_n 1) 1 251 := ⟨by decide +kernel, rfl⟩
theorem dd_Law_does_251 : Dc mi_Law_does 251 (.iconst 5) 1 252 := ⟨by decide +kernel, rfl⟩
theorem dd_Law_does_252 : Dc mi_Law_does 252 (.ishr) 1 253 := ⟨by decide +kernel, rfl⟩
theorem dd_Law_does_253 : Dc mi_Law_does 253 (.bipush 60) 2 255 := ⟨by decide +kernel, rfl⟩
theorem dd_Law_does_255 : Dc mi_Law_does 255 (.invokestatic 14) 3 258 := ⟨by decide +kernel, rfl⟩
theorem dd_Law_does_258 : Dc mi_Law_does 258 (.iadd) 1 259 := ⟨by decide +kernel, rfl⟩
theorem dd_Law_does_259 : Dc mi_Law_does 259 (.invokevirtual 50) 3 262 := ⟨by decide +kernel, rfl⟩
theorem dd_Law_does_262 : decode (mbc mi_Law_does) 262 = .ok (retI (mrt mi_Law_does), 1) := by decide +kernel
theorem dd_Law_does_263 : Dc mi_Law_does 263 (.aload_n 0) 1 264 := ⟨by decide +kernel, rfl⟩
theorem dd_Law_does_264 : Dc mi_Law_does 264 (.invokevirtual 53) 3 267 := ⟨by decide +kernel, rfl⟩
theorem dd_Law_does_267 : decode (mbc mi_Law_does) 267 = .ok (retI (mrt mi_Law_does), 1) := by decide +kernel
theorem dd_Law_does_268 : Dc mi_Law_does 268 (.aload_n 0) 1 269 := ⟨by decide +kernel, rfl⟩
theorem dd_Law_does_269 : Dc mi_Law_does 269 (.iconst 1) 1 270 := ⟨by decide +kernel, rfl⟩
theorem dd_Law_does_270 : Dc mi_Law_does 270 (.iload_n 1) 1 271 := ⟨by decide +kernel, rfl⟩
theorem dd_Law_does_271 : Dc mi_Law_does 271 (.iconst 4) 1 272 := ⟨by decide +kernel, rfl⟩
theorem dd_Law_does_272 : Dc mi_Law_does 272 (.ishr) 1 273 := ⟨by decide +kernel, rfl⟩
theorem dd_Law_does_273 : Dc mi_Law_does 273 (.bipush 30) 2 275 := ⟨by decide +kernel, rfl⟩
theorem dd_Law_does_275 : Dc mi_Law_does 275 (.invokestatic 14) 3 278 := ⟨by decide +kernel, rfl⟩
theorem dd_Law_does_278 : Dc mi_Law_does 278 (.iadd) 1 279 := ⟨by decide +kernel, rfl⟩
theorem dd_Law_does_279 : Dc mi_Law_does 279 (.invokevirtual 57) 3 282 := ⟨by decide +kernel, rfl⟩
theorem dd_Law_does_282 : decode (mbc mi_Law_does) 282 = .ok (retI (mrt mi_Law_does), 1) := by decide +kernel
theorem dd_Law_owned_0 : Dc mi_Law_owned 0 (.aload_n 0) 1 1 := ⟨by decide +kernel, rfl⟩
theorem dd_Law_owned_1 : Dc mi_Law_owned 1 (.iconst 0) 1 2 := ⟨by decide +kernel, rfl⟩
theorem dd_Law_owned_2 : Dc mi_Law_owned 2 (.invokevirtual 8) 3 5 := ⟨by decide +kernel, rfl⟩
theorem dd_Law_owned_5 : Db mi_Law_owned 5 (.ifCond .ne 7) 7 8 12 := ⟨by decide +kernel, rfl, rfl⟩
theorem dd_Law_owned_8 : Dc mi_Law_owned 8 (.iconst 0) 1 9 := ⟨by decide +kernel, rfl⟩
theorem dd_Law_owned_9 : Db mi_Law_owned 9 (.goto 12) 12 12 21 := ⟨by decide +kernel, rfl, rfl⟩
theorem dd_Law_owned_12 : Dc mi_Law_owned 12 (.iload_n 1) 1 13 := ⟨by decide +kernel, rfl⟩
theorem dd_Law_owned_13 : Dc mi_Law_owned 13 (.aload_n 0) 1 14 := ⟨by decide +kernel, rfl⟩
theorem dd_Law_owned_14 : Dc mi_Law_owned 14 (.iconst 0) 1 15 := ⟨by decide +kernel, rfl⟩
theorem dd_Law_owned_15 : Dc mi_Law_owned 15 (.invokevirtual 8) 3 18 := ⟨by decide +kernel, rfl⟩
theorem dd_Law_owned_18 : Dc mi_Law_owned 18 (.invokestatic 14) 3 21 := ⟨by decide +kernel, rfl⟩
theorem dd_Law_owned_21 : Dc mi_Law_owned 21 (.istore_n 2) 1 22 := ⟨by decide +kernel, rfl⟩
theorem dd_Law_owned_22 : Dc mi_Law_owned 22 (.iconst 0) 1 23 := ⟨by decide +kernel, rfl⟩
theorem dd_Law_owned_23 : Dc mi_Law_owned 23 (.istore_n 3) 1 24 := ⟨by decide +kernel, rfl⟩
theorem dd_Law_owned_24 : Dc mi_Law_owned 24 (.iload_n 3) 1 25 := ⟨by decide +kernel, rfl⟩
theorem dd_Law_owned_25 : Dc mi_Law_owned 25 (.bipush 64) 2 27 := ⟨by decide +kernel, rfl⟩
theorem dd_Law_owned_27 : Db mi_Law_owned 27 (.if_icmp .ge 43) 43 30 70 := ⟨by decide +kernel, rfl, rfl⟩
theorem dd_Law_owned_30 : Dc mi_Law_owned 30 (.aload_n 0) 1 31 := ⟨by decide +kernel, rfl⟩
theorem dd_Law_owned_31 : Dc mi_Law_owned 31 (.iload_n 3) 1 32 := ⟨by decide +kernel, rfl⟩
theorem dd_Law_owned_32 : Dc mi_Law_owned 32 (.iconst 1) 1 33 := ⟨by decide +kernel, rfl⟩
theorem dd_Law_owned_33 : Dc mi_Law_owned 33 (.invokevirtual 20) 3 36 := ⟨by decide +kernel, rfl⟩
theorem dd_Law_owned_36 : Dc mi_Law_owned 36 (.istore 4) 2 38 := ⟨by decide +kernel, rfl⟩
theorem dd_Law_owned_38 : Dc mi_Law_owned 38 (.iload 4) 2 40 := ⟨by decide +kernel, rfl⟩
theorem dd_Law_owned_40 : Db mi_Law_owned 40 (.ifCond .lt 24) 24 43 64 := ⟨by decide +kernel, rfl, rfl⟩
theorem dd_Law_owned_43 : Dc mi_Law_owned 43 (.aload_n 0) 1 44 := ⟨by decide +kernel, rfl⟩
theorem dd_Law_owned_44 : Dc mi_Law_owned 44 (.iload 4) 2 46 := ⟨by decide +kernel, rfl⟩
theorem dd_Law_owned_46 : Dc mi_Law_owned 46 (.iconst 0) 1 47 := ⟨by decide +kernel, rfl⟩
theorem dd_Law_owned_47 : Dc mi_Law_owned 47 (.invokevirtual 23) 3 50 := ⟨by decide +kernel, rfl⟩
theorem dd_Law_owned_50 : Dc mi_Law_owned 50 (.iload_n 3) 1 51 := ⟨by decide +kernel, rfl⟩
theorem dd_Law_owned_51 : Db mi_Law_owned 51 (.if_icmp .ne 13) 13 54 64 := ⟨by decide +kernel, rfl, rfl⟩
theorem dd_Law_owned_54 : Dc mi_Law_owned 54 (.iload_n 2) 1 55 := ⟨by decide +kernel, rfl⟩
theorem dd_Law_owned_55 : Db mi_Law_owned 55 (.ifCond .ne 6) 6 58 61 := ⟨by decide +kernel, rfl, rfl⟩
theorem dd_Law_owned_58 : Dc mi_Law_owned 58 (.iload 4) 2 60 := ⟨by decide +kernel, rfl⟩
theorem dd_Law_owned_60 : decode (mbc mi_Law_owned) 60 = .ok (retI (mrt mi_Law_owned), 1) := by decide +kernel
theorem dd_Law_owned_61 : Dc mi_Law_owned 61 (.iinc 2 (-1)) 3 64 := ⟨by decide +kernel, rfl⟩
theorem dd_Law_owned_64 : Dc mi_Law_owned 64 (.iinc 3 1) 3 67 := ⟨by decide +kernel, rfl⟩
theorem dd_Law_owned_67 : Db mi_Law_owned 67 (.goto (-43)) (-43) 70 24 := ⟨by decide +kernel, rfl, rfl⟩
theorem dd_Law_owned_70 : Dc mi_Law_owned 70 (.bipush (-5)) 2 72 := ⟨by decide +kernel, rfl⟩
theorem dd_Law_owned_72 : decode (mbc mi_Law_owned) 72 = .ok (retI (mrt mi_Law_owned), 1) := by decide +kernel
theorem dd_Law_arePartsSo_0 : Dc mi_Law_arePartsSo 0 (.iconst 0) 1 1 := ⟨by decide +kernel, rfl⟩
theorem dd_Law_arePartsSo_1 : Dc mi_Law_arePartsSo 1 (.istore_n 1) 1 2 := ⟨by decide +kernel, rfl⟩
theorem dd_Law_arePartsSo_2 : Dc mi_Law_arePartsSo 2 (.iconst 0) 1 3 := ⟨by decide +kernel, rfl⟩
theorem dd_Law_arePartsSo_3 : Dc mi_Law_arePartsSo 3 (.istore_n 2) 1 4 := ⟨by decide +kernel, rfl⟩
theorem dd_Law_arePartsSo_4 : Dc mi_Law_arePartsSo 4 (.iconst 0) 1 5 := ⟨by decide +kernel, rfl⟩
theorem dd_Law_arePartsSo_5 : Dc mi_Law_arePartsSo 5 (.istore_n 3) 1 6 := ⟨by decide +kernel, rfl⟩
theorem dd_Law_arePartsSo_6 : Dc mi_Law_arePartsSo 6 (.iconst 0) 1 7 := ⟨by decide +kernel, rfl⟩
theorem dd_Law_arePartsSo_7 : Dc mi_Law_arePartsSo 7 (.istore 4) 2 9 := ⟨by decide +kernel, rfl⟩
theorem dd_Law_arePartsSo_9 : Dc mi_Law_arePartsSo 9 (.iconst 0) 1 10 := ⟨by decide +kernel, rfl⟩
theorem dd_Law_arePartsSo_10 : Dc mi_Law_arePartsSo 10 (.istore 5) 2 12 := ⟨by decide +kernel, rfl⟩
theorem dd_Law_arePartsSo_12 : Dc mi_Law_arePartsSo 12 (.iconst (-1)) 1 13 := ⟨by decide +kernel, rfl⟩
theorem dd_Law_arePartsSo_13 : Dc mi_Law_arePartsSo 13 (.istore 6) 2 15 := ⟨by decide +kernel, rfl⟩
theorem dd_Law_arePartsSo_15 : Dc mi_Law_arePartsSo 15 (.iconst 0) 1 16 := ⟨by decide +kernel, rfl⟩
theorem dd_Law_arePartsSo_16 : Dc mi_Law_arePartsSo 16 (.istore 7) 2 18 := ⟨by decide +kernel, rfl⟩
theorem dd_Law_arePartsSo_18 : Dc mi_Law_arePartsSo 18 (.iconst 1) 1 19 := ⟨by decide +kernel, rfl⟩
theorem dd_Law_arePartsSo_19 : Dc mi_Law_arePartsSo 19 (.istore 8) 2 21 := ⟨by decide +kernel, rfl⟩
theorem dd_Law_arePartsSo_21 : Dc mi_Law_arePartsSo 21 (.iconst 0) 1 22 := ⟨by decide +kernel, rfl⟩
theorem dd_Law_arePartsSo_22 : Dc mi_Law_arePartsSo 22 (.istore 9) 2 24 := ⟨by decide +kernel, rfl⟩
theorem dd_Law_arePartsSo_24 : Dc mi_Law_arePartsSo 24 (.iload 9) 2 26 := ⟨by decide +kernel, rfl⟩
theorem dd_Law_arePartsSo_26 : Dc mi_Law_arePartsSo 26 (.bipush 64) 2 28 := ⟨by decide +kernel, rfl⟩
theorem dd_Law_arePartsSo_28 : Db mi_Law_arePartsSo 28 (.if_icmp .ge 460) 460 31 488 := ⟨by decide +kernel, rfl, rfl⟩
theorem dd_Law_arePartsSo_31 : Dc mi_Law_arePartsSo 31 (.iconst 4) 1 32 := ⟨by decide +kernel, rfl⟩
theorem dd_Law_arePartsSo_32 : Dc mi_Law_arePartsSo 32 (.aload_n 0) 1 33 := ⟨by decide +kernel, rfl⟩
theorem dd_Law_arePartsSo_33 : Dc mi_Law_arePartsSo 33 (.iload 9) 2 35 := ⟨by decide +kernel, rfl⟩
theorem dd_Law_arePartsSo_35 : Dc mi_Law_arePartsSo 35 (.iconst 3) 1 36 := ⟨by decide +kernel, rfl⟩
theorem dd_Law_arePartsSo_36 : Dc mi_Law_arePartsSo 36 (.invokevirtual 20) 3 39 := ⟨by decide +kernel, rfl⟩
theorem dd_Law_arePartsSo_39 : Dc mi_Law_arePartsSo 39 (.ishl) 1 40 := ⟨by decide +kernel, rfl⟩
theorem dd_Law_arePartsSo_40 : Dc mi_Law_arePartsSo 40 (.istore 10) 2 42 := ⟨by decide +kernel, rfl⟩
theorem dd_Law_arePartsSo_42 : Dc mi_Law_arePartsSo 42 (.aload_n 0) 1 43 := ⟨by decide +kernel, rfl⟩
theorem dd_Law_arePartsSo_43 : Dc mi_Law_arePartsSo 43 (.iload 9) 2 45 := ⟨by decide +kernel, rfl⟩
theorem dd_Law_arePartsSo_45 : Dc mi_Law_arePartsSo 45 (.iconst 1) 1 46 := ⟨by decide +kernel, rfl⟩
theorem dd_Law_arePartsSo_46 : Dc mi_Law_arePartsSo 46 (.invokevirtual 20) 3 49 := ⟨by decide +kernel, rfl⟩
theorem dd_Law_arePartsSo_49 : Dc mi_Law_arePartsSo 49 (.istore 11) 2 51 := ⟨by decide +kernel, rfl⟩
theorem dd_Law_arePartsSo_51 : Dc mi_Law_arePartsSo 51 (.iinc 2 1) 3 54 := ⟨by decide +kernel, rfl⟩
theorem dd_Law_arePartsSo_54 : Dc mi_Law_arePartsSo 54 (.iload 8) 2 56 := ⟨by decide +kernel, rfl⟩
theorem dd_Law_arePartsSo_56 : Db mi_Law_arePartsSo 56 (.ifCond .eq 15) 15 59 71 := ⟨by decide +kernel, rfl, rfl⟩
theorem dd_Law_arePartsSo_59 : Dc mi_Law_arePartsSo 59 (.iload 9) 2 61 := ⟨by decide +kernel, rfl⟩
theorem dd_Law_arePartsSo_61 : Dc mi_Law_arePartsSo 61 (.iload 10) 2 63 := ⟨by decide +kernel, rfl⟩
theorem dd_Law_arePartsSo_63 : Dc mi_Law_arePartsSo 63 (.irem) 1 64 := ⟨by decide +kernel, rfl⟩
theorem dd_Law_arePartsSo_64 : Db mi_Law_arePartsSo 64 (.ifCond .ne 7) 7 67 71 := ⟨by decide +kernel, rfl, rfl⟩
theorem dd_Law_arePartsSo_67 : Dc mi_Law_arePartsSo 67 (.iconst 1) 1 68 := ⟨by decide +kernel, rfl⟩
theorem dd_Law_arePartsSo_68 : Db mi_Law_arePartsSo 68 (.goto 4) 4 71 72 := ⟨by decide +kernel, rfl, rfl⟩
theorem dd_Law_arePartsSo_71 : Dc mi_Law_arePartsSo 71 (.iconst 0) 1 72 := ⟨by decide +kernel, rfl⟩
theorem dd_Law_arePartsSo_72 : Dc mi_Law_arePartsSo 72 (.istore 8) 2 74 := ⟨by decide +kernel, rfl⟩
theorem dd_Law_arePartsSo_74 : Dc mi_Law_arePartsSo 74 (.iload 9) 2 76 := ⟨by decide +kernel, rfl⟩
theorem dd_Law_arePartsSo_76 : Dc mi_Law_arePartsSo 76 (.istore 12) 2 78 := ⟨by decide +kernel, rfl⟩
theorem dd_Law_arePartsSo_78 : Dc mi_Law_arePartsSo 78 (.iload 12) 2 80 := ⟨by decide +kernel, rfl⟩
theorem dd_Law_arePartsSo_80 : Dc mi_Law_arePartsSo 80 (.iload 9) 2 82 := ⟨by decide +kernel, rfl⟩
theorem dd_Law_arePartsSo_82 : Dc mi_Law_arePartsSo 82 (.iload 10) 2 84 := ⟨by decide +kernel, rfl⟩
theorem dd_Law_arePartsSo_84 : Dc mi_Law_arePartsSo 84 (.iadd) 1 85 := ⟨by decide +kernel, rfl⟩
theorem dd_Law_arePartsSo_85 : Db mi_Law_arePartsSo 85 (.if_icmp .ge 122) 122 88 207 := ⟨by decide +kernel, rfl, rfl⟩
theorem dd_Law_arePartsSo_88 : Dc mi_Law_arePartsSo 88 (.iload 11) 2 90 := ⟨by decide +kernel, rfl⟩
theorem dd_Law_arePartsSo_90 : Db mi_Law_arePartsSo 90 (.ifCond .lt 31) 31 93 121 := ⟨by decide +kernel, rfl, rfl⟩
theorem dd_Law_arePartsSo_93 : Dc mi_Law_arePartsSo 93 (.iload 12) 2 95 := ⟨by decide +kernel, rfl⟩
theorem dd_Law_arePartsSo_95 : Dc mi_Law_arePartsSo 95 (.iload 9) 2 97 := ⟨by decide +kernel, rfl⟩
theorem dd_Law_arePartsSo_97 : Db mi_Law_arePartsSo 97 (.if_icmp .eq 20) 20 100 117 := ⟨by decide +kernel, rfl, rfl⟩
theorem dd_Law_arePartsSo_100 : Dc mi_Law_arePartsSo 100 (.iload 12) 2 102 := ⟨by decide +kernel, rfl⟩
theorem dd_Law_arePartsSo_102 : Dc mi_Law_arePartsSo 102 (.iload 9) 2 104 := ⟨by decide +kernel, rfl⟩
theorem dd_Law_arePartsSo_104 : Dc mi_Law_arePartsSo 104 (.aload_n 0) 1 105 := ⟨by decide +kernel, rfl⟩
theorem dd_Law_arePartsSo_105 : Dc mi_Law_arePartsSo 105 (.iload 11) 2 107 := ⟨by decide +kernel, rfl⟩
theorem dd_Law_arePartsSo_107 : Dc mi_Law_arePartsSo 107 (.iconst 3) 1 108 := ⟨by decide +kernel, rfl⟩
theorem dd_Law_arePartsSo_108 : Dc mi_Law_arePartsSo 108 (.invokevirtual 23) 3 111 := ⟨by decide +kernel, rfl⟩
theorem dd_Law_arePartsSo_111 : Dc mi_Law_arePartsSo 111 (.iadd) 1 112 := ⟨by decide +kernel, rfl⟩
theorem dd_Law_arePartsSo_112 : Dc mi_Law_arePartsSo 112 (.iconst 1) 1 113 := ⟨by decide +kernel, rfl⟩
theorem dd_Law_arePartsSo_113 : Dc mi_Law_arePartsSo 113 (.iadd) 1 114 := ⟨by decide +kernel, rfl⟩
theorem dd_Law_arePartsSo_114 : Db mi_Law_arePartsSo 114 (.if_icmp .ne 7) 7 117 121 := ⟨by decide +kernel, rfl, rfl⟩
theorem dd_Law_arePartsSo_117 : Dc mi_Law_arePartsSo 117 (.iconst 1) 1 118 := ⟨by decide +kernel, rfl⟩
theorem dd_Law_arePartsSo_118 : Db mi_Law_arePartsSo 118 (.goto 4) 4 121 122 := ⟨by decide +kernel, rfl, rfl⟩
theorem dd_Law_arePartsSo_121 : Dc mi_Law_arePartsSo 121 (.iconst 0) 1 122 := ⟨by decide +kernel, rfl⟩
theorem dd_Law_arePartsSo_122 : Dc mi_Law_arePartsSo 122 (.istore 13) 2 124 := ⟨by decide +kernel, rfl⟩
theorem dd_Law_arePartsSo_124 : Dc mi_Law_arePartsSo 124 (.iload 8) 2 126 := ⟨by decide +kernel, rfl⟩
theorem dd_Law_arePartsSo_126 : Db mi_Law_arePartsSo 126 (.ifCond .eq 72) 72 129 198 := ⟨by decide +kernel, rfl, rfl⟩
theorem dd_Law_arePartsSo_129 : Dc mi_Law_arePartsSo 129 (.aload_n 0) 1 130 := ⟨by decide +kernel, rfl⟩
theorem dd_Law_arePartsSo_130 : Dc mi_Law_arePartsSo 130 (.iload 12) 2 132 := ⟨by decide +kernel, rfl⟩
theorem dd_Law_arePartsSo_132 : Dc mi_Law_arePartsSo 132 (.iconst 3) 1 133 := ⟨by decide +kernel, rfl⟩
theorem dd_Law_arePartsSo_133 : Dc mi_Law_arePartsSo 133 (.invokevirtual 20) 3 136 := ⟨by decide +kernel, rfl⟩
theorem dd_Law_arePartsSo_136 : Dc mi_Law_arePartsSo 136 (.aload_n 0) 1 137 := ⟨by decide +kernel, rfl⟩
theorem dd_Law_arePartsSo_137 : Dc mi_Law_arePartsSo 137 (.iload 9) 2 139 := ⟨by decide +kernel, rfl⟩
theorem dd_Law_arePartsSo_139 : Dc mi_Law_arePartsSo 139 (.iconst 3) 1 140 := ⟨by decide +kernel, rfl⟩
theorem dd_Law_arePartsSo_140 : Dc mi_Law_arePartsSo 140 (.invokevirtual 20) 3 143 := ⟨by decide +kernel, rfl⟩
theorem dd_Law_arePartsSo_143 : Db mi_Law_arePartsSo 143 (.if_icmp .ne 55) 55 146 198 := ⟨by decide +kernel, rfl, rfl⟩
theorem dd_Law_arePartsSo_146 : Dc mi_Law_arePartsSo 146 (.aload_n 0) 1 147 := ⟨by decide +kernel, rfl⟩
theorem dd_Law_arePartsSo_147 : Dc mi_Law_arePartsSo 147 (.iload 12) 2 149 := ⟨by decide +kernel, rfl⟩
theorem dd_Law_arePartsSo_149 : Dc mi_Law_arePartsSo 149 (.iconst 1) 1 150 := ⟨by decide +kernel, rfl⟩
theorem dd_Law_arePartsSo_150 : Dc mi_Law_arePartsSo 150 (.invokevirtual 20) 3 153 := ⟨by decide +kernel, rfl⟩
theorem dd_Law_arePartsSo_153 : Dc mi_Law_arePartsSo 153 (.iload 11) 2 155 := ⟨by decide +kernel, rfl⟩
theorem dd_Law_arePartsSo_155 : Db mi_Law_arePartsSo 155 (.if_icmp .ne 43) 43 158 198 := ⟨by decide +kernel, rfl, rfl⟩
theorem dd_Law_arePartsSo_158 : Dc mi_Law_arePartsSo 158 (.aload_n 0) 1 159 := ⟨by decide +kernel, rfl⟩
theorem dd_Law_arePartsSo_159 : Dc mi_Law_arePartsSo 159 (.iload 12) 2 161 := ⟨by decide +kernel, rfl⟩
theorem dd_Law_arePartsSo_161 : Dc mi_Law_arePartsSo 161 (.iconst 2) 1 162 := ⟨by decide +kernel, rfl⟩
theorem dd_Law_arePartsSo_162 : Dc mi_Law_arePartsSo 162 (.invokevirtual 20) 3 165 := ⟨by decide +kernel, rfl⟩
theorem dd_Law_arePartsSo_165 : Dc mi_Law_arePartsSo 165 (.iconst 1) 1 166 := ⟨by decide +kernel, rfl⟩
theorem dd_Law_arePartsSo_166 : Db mi_Law_arePartsSo 166 (.if_icmp .ne 7) 7 169 173 := ⟨by decide +kernel, rfl, rfl⟩
theorem dd_Law_arePartsSo_169 : Dc mi_Law_arePartsSo 169 (.iconst 1) 1 170 := ⟨by decide +kernel, rfl⟩
theorem dd_Law_arePartsSo_170 : Db mi_Law_arePartsSo 170 (.goto 4) 4 173 174 := ⟨by decide +kernel, rfl, rfl⟩
theorem dd_Law_arePartsSo_173 : Dc mi_Law_arePartsSo 173 (.iconst 0) 1 174 := ⟨by decide +kernel, rfl⟩
theorem dd_Law_arePartsSo_174 : Dc mi_Law_arePartsSo 174 (.iload 13) 2 176 := ⟨by decide +kernel, rfl⟩
theorem dd_Law_arePartsSo_176 : Db mi_Law_arePartsSo 176 (.if_icmp .ne 22) 22 179 198 := ⟨by decide +kernel, rfl, rfl⟩
theorem dd_Law_arePartsSo_179 : Dc mi_Law_arePartsSo 179 (.iload 11) 2 181 := ⟨by decide +kernel, rfl⟩
theorem dd_Law_arePartsSo_181 : Db mi_Law_arePartsSo 181 (.ifCond .ge 13) 13 184 194 := ⟨by decide +kernel, rfl, rfl⟩
theorem dd_Law_arePartsSo_184 : Dc mi_Law_arePartsSo 184 (.aload_n 0) 1 185 := ⟨by decide +kernel, rfl⟩
theorem dd_Law_arePartsSo_185 : Dc mi_Law_arePartsSo 185 (.iload 12) 2 187 := ⟨by decide +kernel, rfl⟩
theorem dd_Law_arePartsSo_187 : Dc mi_Law_arePartsSo 187 (.iconst 0) 1 188 := ⟨by decide +kernel, rfl⟩
theorem dd_Law_arePartsSo_188 : Dc mi_Law_arePartsSo 188 (.invokevirtual 20) 3 191 := ⟨by decide +kernel, rfl⟩
theorem dd_Law_arePartsSo_191 : Db mi_Law_arePartsSo 191 (.ifCond .ne 7) 7 194 198 := ⟨by decide +kernel, rfl, rfl⟩
theorem dd_Law_arePartsSo_194 : Dc mi_Law_arePartsSo 194 (.iconst 1) 1 195 := ⟨by decide +kernel, rfl⟩
theorem dd_Law_arePartsSo_195 : Db mi_Law_arePartsSo 195 (.goto 4) 4 198 199 := ⟨by decide +kernel, rfl, rfl⟩
theorem dd_Law_arePartsSo_198 : Dc mi_Law_arePartsSo 198 (.iconst 0) 1 199 := ⟨by decide +kernel, rfl⟩
theorem dd_Law_arePartsSo_199 : Dc mi_Law_arePartsSo 199 (.istore 8) 2 201 := ⟨by decide +kernel, rfl⟩
theorem dd_Law_arePartsSo_201 : Dc mi_Law_arePartsSo 201 (.iinc 12 1) 3 204 := ⟨by decide +kernel, rfl⟩
theorem dd_Law_arePartsSo_204 : Db mi_Law_arePartsSo 204 (.goto (-126)) (-126) 207 78 := ⟨by decide +kernel, rfl, rfl⟩
theorem dd_Law_arePartsSo_207 : Dc mi_Law_arePartsSo 207 (.iload 11) 2 209 := ⟨by decide +kernel, rfl⟩
theorem dd_Law_arePartsSo_209 : Db mi_Law_arePartsSo 209 (.ifCond .ge 65) 65 212 274 := ⟨by decide +kernel, rfl, rfl⟩
theorem dd_Law_arePartsSo_212 : Dc mi_Law_arePartsSo 212 (.iload 8) 2 214 := ⟨by decide +kernel, rfl⟩
theorem dd_Law_arePartsSo_214 : Db mi_Law_arePartsSo 214 (.ifCond .eq 41) 41 217 255 := ⟨by decide +kernel, rfl, rfl⟩
theorem dd_Law_arePartsSo_217 : Dc mi_Law_arePartsSo 217 (.iload 10) 2 219 := ⟨by decide +kernel, rfl⟩
theorem dd_Law_arePartsSo_219 : Dc mi_Law_arePartsSo 219 (.bipush 16) 2 221 := ⟨by decide +kernel, rfl⟩
theorem dd_Law_arePartsSo_221 : Db mi_Law_arePartsSo 221 (.if_icmp .ge 30) 30 224 251 := ⟨by decide +kernel, rfl, rfl⟩
theorem dd_Law_arePartsSo_224 : Dc mi_Law_arePartsSo 224 (.iload 6) 2 226 := ⟨by decide +kernel, rfl⟩
theorem dd_Law_arePartsSo_226 : Dc mi_Law_arePartsSo 226 (.iload 9) 2 228 := ⟨by decide +kernel, rfl⟩
theorem dd_Law_arePartsSo_228 : Dc mi_Law_arePartsSo 228 (.iload 10) 2 230 := ⟨by decide +kernel, rfl⟩
theorem dd_Law_arePartsSo_230 : Dc mi_Law_arePartsSo 230 (.isub) 1 231 := ⟨by decide +kernel, rfl⟩
theorem dd_Law_arePartsSo_231 : Db mi_Law_arePartsSo 231 (.if_icmp .ne 20) 20 234 251 := ⟨by decide +kernel, rfl, rfl⟩
theorem dd_Law_arePartsSo_234 : Dc mi_Law_arePartsSo 234 (.iload 7) 2 236 := ⟨by decide +kernel, rfl⟩
theorem dd_Law_arePartsSo_236 : Dc mi_Law_arePartsSo 236 (.iload 10) 2 238 := ⟨by decide +kernel, rfl⟩
theorem dd_Law_arePartsSo_238 : Db mi_Law_arePartsSo 238 (.if_icmp .ne 13) 13 241 251 := ⟨by decide +kernel, rfl, rfl⟩
theorem dd_Law_arePartsSo_241 : Dc mi_Law_arePartsSo 241 (.iload 6) 2 243 := ⟨by decide +kernel, rfl⟩
theorem dd_Law_arePartsSo_243 : Dc mi_Law_arePartsSo 243 (.iconst 2) 1 244 := ⟨by decide +kernel, rfl⟩
theorem dd_Law_arePartsSo_244 : Dc mi_Law_arePartsSo 244 (.iload 10) 2 246 := ⟨by decide +kernel, rfl⟩
theorem dd_Law_arePartsSo_246 : Dc mi_Law_arePartsSo 246 (.imul) 1 247 := ⟨by decide +kernel, rfl⟩
theorem dd_Law_arePartsSo_247 : Dc mi_Law_arePartsSo 247 (.irem) 1 248 := ⟨by decide +kernel, rfl⟩
theorem dd_Law_arePartsSo_248 : Db mi_Law_arePartsSo 248 (.ifCond .eq 7) 7 251 255 := ⟨by decide +kernel, rfl, rfl⟩
theorem dd_Law_arePartsSo_251 : Dc mi_Law_arePartsSo 251 (.iconst 1) 1 252 := ⟨by decide +kernel, rfl⟩
theorem dd_Law_arePartsSo_252 : Db mi_Law_arePartsSo 252 (.goto 4) 4 255 256 := ⟨by decide +kernel, rfl, rfl⟩
theorem dd_Law_arePartsSo_255 : Dc mi_Law_arePartsSo 255 (.iconst 0) 1 256 := ⟨by decide +kernel, rfl⟩
theorem dd_Law_arePartsSo_256 : Dc mi_Law_arePartsSo 256 (.istore 8) 2 258 := ⟨by decide +kernel, rfl⟩
theorem dd_Law_arePartsSo_258 : Dc mi_Law_arePartsSo 258 (.iload_n 1) 1 259 := ⟨by decide +kernel, rfl⟩
theorem dd_Law_arePartsSo_259 : Dc mi_Law_arePartsSo 259 (.iload 10) 2 261 := ⟨by decide +kernel, rfl⟩
theorem dd_Law_arePartsSo_261 : Dc mi_Law_arePartsSo 261 (.iadd) 1 262 := ⟨by decide +kernel, rfl⟩
theorem dd_Law_arePartsSo_262 : Dc mi_Law_arePartsSo 262 (.istore_n 1) 1 263 := ⟨by decide +kernel, rfl⟩
theorem dd_Law_arePartsSo_263 : Dc mi_Law_arePartsSo 263 (.iload 9) 2 265 := ⟨by decide +kernel, rfl⟩
theorem dd_Law_arePartsSo_265 : Dc mi_Law_arePartsSo 265 (.istore 6) 2 267 := ⟨by decide +kernel, rfl⟩
theorem dd_Law_arePartsSo_267 : Dc mi_Law_arePartsSo 267 (.iload 10) 2 269 := ⟨by decide +kernel, rfl⟩
theorem dd_Law_arePartsSo_269 : Dc mi_Law_arePartsSo 269 (.istore 7) 2 271 := ⟨by decide +kernel, rfl⟩
theorem dd_Law_arePartsSo_271 : Db mi_Law_arePartsSo 271 (.goto 207) 207 274 478 := ⟨by decide +kernel, rfl, rfl⟩
theorem dd_Law_arePartsSo_274 : Dc mi_Law_arePartsSo 274 (.aload_n 0) 1 275 := ⟨by decide +kernel, rfl⟩
theorem dd_Law_arePartsSo_275 : Dc mi_Law_arePartsSo 275 (.iload 11) 2 277 := ⟨by decide +kernel, rfl⟩
theorem dd_Law_arePartsSo_277 : Dc mi_Law_arePartsSo 277 (.iconst 3) 1 278 := ⟨by decide +kernel, rfl⟩
theorem dd_Law_arePartsSo_278 : Dc mi_Law_arePartsSo 278 (.invokevirtual 23) 3 281 := ⟨by decide +kernel, rfl⟩
theorem dd_Law_arePartsSo_281 : Dc mi_Law_arePartsSo 281 (.istore 12) 2 283 := ⟨by decide +kernel, rfl⟩
theorem dd_Law_arePartsSo_283 : Dc mi_Law_arePartsSo 283 (.aload_n 0) 1 284 := ⟨by decide +kernel, rfl⟩
theorem dd_Law_arePartsSo_284 : Dc mi_Law_arePartsSo 284 (.iload 9) 2 286 := ⟨by decide +kernel, rfl⟩
theorem dd_Law_arePartsSo_286 : Dc mi_Law_arePartsSo 286 (.iconst 0) 1 287 := ⟨by decide +kernel, rfl⟩
theorem dd_Law_arePartsSo_287 : Dc mi_Law_arePartsSo 287 (.invokevirtual 20) 3 290 := ⟨by decide +kernel, rfl⟩
theorem dd_Law_arePartsSo_290 : Db mi_Law_arePartsSo 290 (.ifCond .le 7) 7 293 297 := ⟨by decide +kernel, rfl, rfl⟩
theorem dd_Law_arePartsSo_293 : Dc mi_Law_arePartsSo 293 (.iconst 1) 1 294 := ⟨by decide +kernel, rfl⟩
theorem dd_Law_arePartsSo_294 : Db mi_Law_arePartsSo 294 (.goto 4) 4 297 298 := ⟨by decide +kernel, rfl, rfl⟩
theorem dd_Law_arePartsSo_297 : Dc mi_Law_arePartsSo 297 (.iconst 0) 1 298 := ⟨by decide +kernel, rfl⟩
theorem dd_Law_arePartsSo_298 : Dc mi_Law_arePartsSo 298 (.aload_n 0) 1 299 := ⟨by decide +kernel, rfl⟩
theorem dd_Law_arePartsSo_299 : Dc mi_Law_arePartsSo 299 (.iload 9) 2 301 := ⟨by decide +kernel, rfl⟩
theorem dd_Law_arePartsSo_301 : Dc mi_Law_arePartsSo 301 (.iload 12) 2 303 := ⟨by decide +kernel, rfl⟩
theorem dd_Law_arePartsSo_303 : Dc mi_Law_arePartsSo 303 (.iadd) 1 304 := ⟨by decide +kernel, rfl⟩
theorem dd_Law_arePartsSo_304 : Dc mi_Law_arePartsSo 304 (.iconst 1) 1 305 := ⟨by decide +kernel, rfl⟩
theorem dd_Law_arePartsSo_305 : Dc mi_Law_arePartsSo 305 (.iadd) 1 306 := ⟨by decide +kernel, rfl⟩
theorem dd_Law_arePartsSo_306 : Dc mi_Law_arePartsSo 306 (.iconst 0) 1 307 := ⟨by decide +kernel, rfl⟩
theorem dd_Law_arePartsSo_307 : Dc mi_Law_arePartsSo 307 (.invokevirtual 20) 3 310 := ⟨by decide +kernel, rfl⟩
theorem dd_Law_arePartsSo_310 : Db mi_Law_arePartsSo 310 (.ifCond .le 7) 7 313 317 := ⟨by decide +kernel, rfl, rfl⟩
theorem dd_Law_arePartsSo_313 : Dc mi_Law_arePartsSo 313 (.iconst 1) 1 314 := ⟨by decide +kernel, rfl⟩
theorem dd_Law_arePartsSo_314 : Db mi_Law_arePartsSo 314 (.goto 4) 4 317 318 := ⟨by decide +kernel, rfl, rfl⟩
theorem dd_Law_arePartsSo_317 : Dc mi_Law_arePartsSo 317 (.iconst 0) 1 318 := ⟨by decide +kernel, rfl⟩
theorem dd_Law_arePartsSo_318 : Dc mi_Law_arePartsSo 318 (.iadd) 1 319 := ⟨by decide +kernel, rfl⟩
theorem dd_Law_arePartsSo_319 : Dc mi_Law_arePartsSo 319 (.istore 13) 2 321 := ⟨by decide +kernel, rfl⟩
theorem dd_Law_arePartsSo_321 : Dc mi_Law_arePartsSo 321 (.iload 12) 2 323 := ⟨by decide +kernel, rfl⟩
theorem dd_Law_arePartsSo_323 : Dc mi_Law_arePartsSo 323 (.iconst 2) 1 324 := ⟨by decide +kernel, rfl⟩
theorem dd_Law_arePartsSo_324 : Db mi_Law_arePartsSo 324 (.if_icmp .gt 7) 7 327 331 := ⟨by decide +kernel, rfl, rfl⟩
theorem dd_Law_arePartsSo_327 : Dc mi_Law_arePartsSo 327 (.iconst 4) 1 328 := ⟨by decide +kernel, rfl⟩
theorem dd_Law_arePartsSo_328 : Db mi_Law_arePartsSo 328 (.goto 17) 17 331 345 := ⟨by decide +kernel, rfl, rfl⟩
theorem dd_Law_arePartsSo_331 : Dc mi_Law_arePartsSo 331 (.iload 12) 2 333 := ⟨by decide +kernel, rfl⟩
theorem dd_Law_arePartsSo_333 : Dc mi_Law_arePartsSo 333 (.bipush 6) 2 335 := ⟨by decide +kernel, rfl⟩
theorem dd_Law_arePartsSo_335 : Db mi_Law_arePartsSo 335 (.if_icmp .gt 8) 8 338 343 := ⟨by decide +kernel, rfl, rfl⟩
theorem dd_Law_arePartsSo_338 : Dc mi_Law_arePartsSo 338 (.bipush 8) 2 340 := ⟨by decide +kernel, rfl⟩
theorem dd_Law_arePartsSo_340 : Db mi_Law_arePartsSo 340 (.goto 5) 5 343 345 := ⟨by decide +kernel, rfl, rfl⟩
theorem dd_Law_arePartsSo_343 : Dc mi_Law_arePartsSo 343 (.bipush 16) 2 345 := ⟨by decide +kernel, rfl⟩
theorem dd_Law_arePartsSo_345 : Dc mi_Law_arePartsSo 345 (.istore 14) 2 347 := ⟨by decide +kernel, rfl⟩
theorem dd_Law_arePartsSo_347 : Dc mi_Law_arePartsSo 347 (.aload_n 0) 1 348 := ⟨by decide +kernel, rfl⟩
theorem dd_Law_arePartsSo_348 : Dc mi_Law_arePartsSo 348 (.aload_n 0) 1 349 := ⟨by decide +kernel, rfl⟩
theorem dd_Law_arePartsSo_349 : Dc mi_Law_arePartsSo 349 (.iload 11) 2 351 := ⟨by decide +kernel, rfl⟩
theorem dd_Law_arePartsSo_351 : Dc mi_Law_arePartsSo 351 (.iconst 2) 1 352 := ⟨by decide +kernel, rfl⟩
theorem dd_Law_arePartsSo_352 : Dc mi_Law_arePartsSo 352 (.invokevirtual 23) 3 355 := ⟨by decide +kernel, rfl⟩
theorem dd_Law_arePartsSo_355 : Dc mi_Law_arePartsSo 355 (.iconst 0) 1 356 := ⟨by decide +kernel, rfl⟩
theorem dd_Law_arePartsSo_356 : Dc mi_Law_arePartsSo 356 (.invokevirtual 60) 3 359 := ⟨by decide +kernel, rfl⟩
theorem dd_Law_arePartsSo_359 : Db mi_Law_arePartsSo 359 (.ifCond .eq 19) 19 362 378 := ⟨by decide +kernel, rfl, rfl⟩
theorem dd_Law_arePartsSo_362 : Dc mi_Law_arePartsSo 362 (.aload_n 0) 1 363 := ⟨by decide +kernel, rfl⟩
theorem dd_Law_arePartsSo_363 : Dc mi_Law_arePartsSo 363 (.iload 11) 2 365 := ⟨by decide +kernel, rfl⟩
theorem dd_Law_arePartsSo_365 : Dc mi_Law_arePartsSo 365 (.iconst 5) 1 366 := ⟨by decide +kernel, rfl⟩
theorem dd_Law_arePartsSo_366 : Dc mi_Law_arePartsSo 366 (.invokevirtual 23) 3 369 := ⟨by decide +kernel, rfl⟩
theorem dd_Law_arePartsSo_369 : Dc mi_Law_arePartsSo 369 (.aload_n 0) 1 370 := ⟨by decide +kernel, rfl⟩
theorem dd_Law_arePartsSo_370 : Dc mi_Law_arePartsSo 370 (.bipush 9) 2 372 := ⟨by decide +kernel, rfl⟩
theorem dd_Law_arePartsSo_372 : Dc mi_Law_arePartsSo 372 (.invokevirtual 8) 3 375 := ⟨by decide +kernel, rfl⟩
theorem dd_Law_arePartsSo_375 : Db mi_Law_arePartsSo 375 (.if_icmp .lt 7) 7 378 382 := ⟨by decide +kernel, rfl, rfl⟩
theorem dd_Law_arePartsSo_378 : Dc mi_Law_arePartsSo 378 (.iconst 1) 1 379 := ⟨by decide +kernel, rfl⟩
theorem dd_Law_arePartsSo_379 : Db mi_Law_arePartsSo 379 (.goto 4) 4 382 383 := ⟨by decide +kernel, rfl, rfl⟩
theorem dd_Law_arePartsSo_382 : Dc mi_Law_arePartsSo 382 (.iconst 0) 1 383 := ⟨by decide +kernel, rfl⟩
theorem dd_Law_arePartsSo_383 : Dc mi_Law_arePartsSo 383 (.istore 15) 2 385 := ⟨by decide +kernel, rfl⟩
theorem dd_Law_arePartsSo_385 : Dc mi_Law_arePartsSo 385 (.iload 8) 2 387 := ⟨by decide +kernel, rfl⟩
theorem dd_Law_arePartsSo_387 : Db mi_Law_arePartsSo 387 (.ifCond .eq 60) 60 390 447 := ⟨by decide +kernel, rfl, rfl⟩
theorem dd_Law_arePartsSo_390 : Dc mi_Law_arePartsSo 390 (.iload 10) 2 392 := ⟨by decide +kernel, rfl⟩
theorem dd_Law_arePartsSo_392 : Dc mi_Law_arePartsSo 392 (.iload 14) 2 394 := ⟨by decide +kernel, rfl⟩
theorem dd_Law_arePartsSo_394 : Db mi_Law_arePartsSo 394 (.if_icmp .ne 53) 53 397 447 := ⟨by decide +kernel, rfl, rfl⟩
theorem dd_Law_arePartsSo_397 : Dc mi_Law_arePartsSo 397 (.aload_n 0) 1 398 := ⟨by decide +kernel, rfl⟩
theorem dd_Law_arePartsSo_398 : Dc mi_Law_arePartsSo 398 (.iload 11) 2 400 := ⟨by decide +kernel, rfl⟩
theorem dd_Law_arePartsSo_400 : Dc mi_Law_arePartsSo 400 (.iconst 0) 1 401 := ⟨by decide +kernel, rfl⟩
theorem dd_Law_arePartsSo_401 : Dc mi_Law_arePartsSo 401 (.invokevirtual 23) 3 404 := ⟨by decide +kernel, rfl⟩
theorem dd_Law_arePartsSo_404 : Dc mi_Law_arePartsSo 404 (.iload 9) 2 406 := ⟨by decide +kernel, rfl⟩
theorem dd_Law_arePartsSo_406 : Db mi_Law_arePartsSo 406 (.if_icmp .ne 41) 41 409 447 := ⟨by decide +kernel, rfl, rfl⟩
theorem dd_Law_arePartsSo_409 : Dc mi_Law_arePartsSo 409 (.aload_n 0) 1 410 := ⟨by decide +kernel, rfl⟩
theorem dd_Law_arePartsSo_410 : Dc mi_Law_arePartsSo 410 (.iload 11) 2 412 := ⟨by decide +kernel, rfl⟩
theorem dd_Law_arePartsSo_412 : Dc mi_Law_arePartsSo 412 (.iconst 4) 1 413 := ⟨by decide +kernel, rfl⟩
theorem dd_Law_arePartsSo_413 : Dc mi_Law_arePartsSo 413 (.invokevirtual 23) 3 416 := ⟨by decide +kernel, rfl⟩
theorem dd_Law_arePartsSo_416 : Dc mi_Law_arePartsSo 416 (.iload 13) 2 418 := ⟨by decide +kernel, rfl⟩
theorem dd_Law_arePartsSo_418 : Db mi_Law_arePartsSo 418 (.if_icmp .ne 29) 29 421 447 := ⟨by decide +kernel, rfl, rfl⟩
theorem dd_Law_arePartsSo_421 : Dc mi_Law_arePartsSo 421 (.aload_n 0) 1 422 := ⟨by decide +kernel, rfl⟩
theorem dd_Law_arePartsSo_422 : Dc mi_Law_arePartsSo 422 (.iload 11) 2 424 := ⟨by decide +kernel, rfl⟩
theorem dd_Law_arePartsSo_424 : Dc mi_Law_arePartsSo 424 (.bipush 6) 2 426 := ⟨by decide +kernel, rfl⟩
theorem dd_Law_arePartsSo_426 : Dc mi_Law_arePartsSo 426 (.invokevirtual 23) 3 429 := ⟨by decide +kernel, rfl⟩
theorem dd_Law_arePartsSo_429 : Dc mi_Law_arePartsSo 429 (.iconst 1) 1 430 := ⟨by decide +kernel, rfl⟩
theorem dd_Law_arePartsSo_430 : Db mi_Law_arePartsSo 430 (.if_icmp .ne 7) 7 433 437 := ⟨by decide +kernel, rfl, rfl⟩
theorem dd_Law_arePartsSo_433 : Dc mi_Law_arePartsSo 433 (.iconst 1) 1 434 := ⟨by decide +kernel, rfl⟩
theorem dd_Law_arePartsSo_434 : Db mi_Law_arePartsSo 434 (.goto 4) 4 437 438 := ⟨by decide +kernel, rfl, rfl⟩
theorem dd_Law_arePartsSo_437 : Dc mi_Law_arePartsSo 437 (.iconst 0) 1 438 := ⟨by decide +kernel, rfl⟩
theorem dd_Law_arePartsSo_438 : Dc mi_Law_arePartsSo 438 (.iload 15) 2 440 := ⟨by decide +kernel, rfl⟩
theorem dd_Law_arePartsSo_440 : Db mi_Law_arePartsSo 440 (.if_icmp .ne 7) 7 443 447 := ⟨by decide +kernel, rfl, rfl⟩
theorem dd_Law_arePartsSo_443 : Dc mi_Law_arePartsSo 443 (.iconst 1) 1 444 := ⟨by decide +kernel, rfl⟩
theorem dd_Law_arePartsSo_444 : Db mi_Law_arePartsSo 444 (.goto 4) 4 447 448 := ⟨by decide +kernel, rfl, rfl⟩
theorem dd_Law_arePartsSo_447 : Dc mi_Law_arePartsSo 447 (.iconst 0) 1 448 := ⟨by decide +kernel, rfl⟩
theorem dd_Law_arePartsSo_448 : Dc mi_Law_arePartsSo 448 (.istore 8) 2 450 := ⟨by decide +kernel, rfl⟩
theorem dd_Law_arePartsSo_450 : Dc mi_Law_arePartsSo 450 (.iinc 3 1) 3 453 := ⟨by decide +kernel, rfl⟩
theorem dd_Law_arePartsSo_453 : Dc mi_Law_arePartsSo 453 (.iload 4) 2 455 := ⟨by decide +kernel, rfl⟩
theorem dd_Law_arePartsSo_455 : Dc mi_Law_arePartsSo 455 (.iload 10) 2 457 := ⟨by decide +kernel, rfl⟩
theorem dd_Law_arePartsSo_457 : Dc mi_Law_arePartsSo 457 (.iload 12) 2 459 := ⟨by decide +kernel, rfl⟩
theorem dd_Law_arePartsSo_459 : Dc mi_Law_arePartsSo 459 (.isub) 1 460 := ⟨by decide +kernel, rfl⟩
theorem dd_Law_arePartsSo_460 : Dc mi_Law_arePartsSo 460 (.iadd) 1 461 := ⟨by decide +kernel, rfl⟩
theorem dd_Law_arePartsSo_461 : Dc mi_Law_arePartsSo 461 (.istore 4) 2 463 := ⟨by decide +kernel, rfl⟩
theorem dd_Law_arePartsSo_463 : Dc mi_Law_arePartsSo 463 (.iload 5) 2 465 := ⟨by decide +kernel, rfl⟩
theorem dd_Law_arePartsSo_465 : Dc mi_Law_arePartsSo 465 (.iload 15) 2 467 := ⟨by decide +kernel, rfl⟩
theorem dd_Law_arePartsSo_467 : Db mi_Law_arePartsSo 467 (.ifCond .eq 7) 7 470 474 := ⟨by decide +kernel, rfl, rfl⟩
theorem dd_Law_arePartsSo_470 : Dc mi_Law_arePartsSo 470 (.iconst 1) 1 471 := ⟨by decide +kernel, rfl⟩
theorem dd_Law_arePartsSo_471 : Db mi_Law_arePartsSo 471 (.goto 4) 4 474 475 := ⟨by decide +kernel, rfl, rfl⟩
theorem dd_Law_arePartsSo_474 : Dc mi_Law_arePartsSo 474 (.iconst 0) 1 475 := ⟨by decide +kernel, rfl⟩
theorem dd_Law_arePartsSo_475 : Dc mi_Law_arePartsSo 475 (.iadd) 1 476 := ⟨by decide +kernel, rfl⟩
theorem dd_Law_arePartsSo_476 : Dc mi_Law_arePartsSo 476 (.istore 5) 2 478 := ⟨by decide +kernel, rfl⟩
theorem dd_Law_arePartsSo_478 : Dc mi_Law_arePartsSo 478 (.iload 9) 2 480 := ⟨by decide +kernel, rfl⟩
theorem dd_Law_arePartsSo_480 : Dc mi_Law_arePartsSo 480 (.iload 10) 2 482 := ⟨by decide +kernel, rfl⟩
theorem dd_Law_arePartsSo_482 : Dc mi_Law_arePartsSo 482 (.iadd) 1 483 := ⟨by decide +kernel, rfl⟩
theorem dd_Law_arePartsSo_483 : Dc mi_Law_arePartsSo 483 (.istore 9) 2 485 := ⟨by decide +kernel, rfl⟩
theorem dd_Law_arePartsSo_485 : Db mi_Law_arePartsSo 485 (.goto (-461)) (-461) 488 24 := ⟨by decide +kernel, rfl, rfl⟩
theorem dd_Law_arePartsSo_488 : Dc mi_Law_arePartsSo 488 (.iload 8) 2 490 := ⟨by decide +kernel, rfl⟩
theorem dd_Law_arePartsSo_490 : Db mi_Law_arePartsSo 490 (.ifCond .eq 63) 63 493 553 := ⟨by decide +kernel, rfl, rfl⟩
theorem dd_Law_arePartsSo_493 : Dc mi_Law_arePartsSo 493 (.iload_n 1) 1 494 := ⟨by decide +kernel, rfl⟩
theorem dd_Law_arePartsSo_494 : Dc mi_Law_arePartsSo 494 (.aload_n 0) 1 495 := ⟨by decide +kernel, rfl⟩
theorem dd_Law_arePartsSo_495 : Dc mi_Law_arePartsSo 495 (.iconst 1) 1 496 := ⟨by decide +kernel, rfl⟩
theorem dd_Law_arePartsSo_496 : Dc mi_Law_arePartsSo 496 (.invokevirtual 8) 3 499 := ⟨by decide +kernel, rfl⟩
theorem dd_Law_arePartsSo_499 : Db mi_Law_arePartsSo 499 (.if_icmp .ne 54) 54 502 553 := ⟨by decide +kernel, rfl, rfl⟩
theorem dd_Law_arePartsSo_502 : Dc mi_Law_arePartsSo 502 (.iload_n 3) 1 503 := ⟨by decide +kernel, rfl⟩
theorem dd_Law_arePartsSo_503 : Dc mi_Law_arePartsSo 503 (.aload_n 0) 1 504 := ⟨by decide +kernel, rfl⟩
theorem dd_Law_arePartsSo_504 : Dc mi_Law_arePartsSo 504 (.iconst 0) 1 505 := ⟨by decide +kernel, rfl⟩
theorem dd_Law_arePartsSo_505 : Dc mi_Law_arePartsSo 505 (.invokevirtual 8) 3 508 := ⟨by decide +kernel, rfl⟩
theorem dd_Law_arePartsSo_508 : Db mi_Law_arePartsSo 508 (.if_icmp .ne 45) 45 511 553 := ⟨by decide +kernel, rfl, rfl⟩
theorem dd_Law_arePartsSo_511 : Dc mi_Law_arePartsSo 511 (.iload 4) 2 513 := ⟨by decide +kernel, rfl⟩
theorem dd_Law_arePartsSo_513 : Dc mi_Law_arePartsSo 513 (.aload_n 0) 1 514 := ⟨by decide +kernel, rfl⟩
theorem dd_Law_arePartsSo_514 : Dc mi_Law_arePartsSo 514 (.iconst 2) 1 515 := ⟨by decide +kernel, rfl⟩
theorem dd_Law_arePartsSo_515 : Dc mi_Law_arePartsSo 515 (.invokevirtual 8) 3 518 := ⟨by decide +kernel, rfl⟩
theorem dd_Law_arePartsSo_518 : Db mi_Law_arePartsSo 518 (.if_icmp .ne 35) 35 521 553 := ⟨by decide +kernel, rfl, rfl⟩
theorem dd_Law_arePartsSo_521 : Dc mi_Law_arePartsSo 521 (.iload 5) 2 523 := ⟨by decide +kernel, rfl⟩
theorem dd_Law_arePartsSo_523 : Dc mi_Law_arePartsSo 523 (.aload_n 0) 1 524 := ⟨by decide +kernel, rfl⟩
theorem dd_Law_arePartsSo_524 : Dc mi_Law_arePartsSo 524 (.iconst 3) 1 525 := ⟨by decide +kernel, rfl⟩
theorem dd_Law_arePartsSo_525 : Dc mi_Law_arePartsSo 525 (.invokevirtual 8) 3 528 := ⟨by decide +kernel, rfl⟩
theorem dd_Law_arePartsSo_528 : Db mi_Law_arePartsSo 528 (.if_icmp .ne 25) 25 531 553 := ⟨by decide +kernel, rfl, rfl⟩
theorem dd_Law_arePartsSo_531 : Dc mi_Law_arePartsSo 531 (.aload_n 0) 1 532 := ⟨by decide +kernel, rfl⟩
theorem dd_Law_arePartsSo_532 : Dc mi_Law_arePartsSo 532 (.iconst 5) 1 533 := ⟨by decide +kernel, rfl⟩
theorem dd_Law_arePartsSo_533 : Dc mi_Law_arePartsSo 533 (.invokevirtual 8) 3 536 := ⟨by decide +kernel, rfl⟩
theorem dd_Law_arePartsSo_536 : Dc mi_Law_arePartsSo 536 (.aload_n 0) 1 537 := ⟨by decide +kernel, rfl⟩
theorem dd_Law_arePartsSo_537 : Dc mi_Law_arePartsSo 537 (.bipush 6) 2 539 := ⟨by decide +kernel, rfl⟩
theorem dd_Law_arePartsSo_539 : Dc mi_Law_arePartsSo 539 (.invokevirtual 8) 3 542 := ⟨by decide +kernel, rfl⟩
theorem dd_Law_arePartsSo_542 : Dc mi_Law_arePartsSo 542 (.isub) 1 543 := ⟨by decide +kernel, rfl⟩
theorem dd_Law_arePartsSo_543 : Dc mi_Law_arePartsSo 543 (.iload_n 2) 1 544 := ⟨by decide +kernel, rfl⟩
theorem dd_Law_arePartsSo_544 : Dc mi_Law_arePartsSo 544 (.iconst 4) 1 545 := ⟨by decide +kernel, rfl⟩
theorem dd_Law_arePartsSo_545 : Dc mi_Law_arePartsSo 545 (.isub) 1 546 := ⟨by decide +kernel, rfl⟩
theorem dd_Law_arePartsSo_546 : Db mi_Law_arePartsSo 546 (.if_icmp .ne 7) 7 549 553 := ⟨by decide +kernel, rfl, rfl⟩
theorem dd_Law_arePartsSo_549 : Dc mi_Law_arePartsSo 549 (.iconst 1) 1 550 := ⟨by decide +kernel, rfl⟩
theorem dd_Law_arePartsSo_550 : Db mi_Law_arePartsSo 550 (.goto 4) 4 553 554 := ⟨by decide +kernel, rfl, rfl⟩
theorem dd_Law_arePartsSo_553 : Dc mi_Law_arePartsSo 553 (.iconst 0) 1 554 := ⟨by decide +kernel, rfl⟩
theorem dd_Law_arePartsSo_554 : decode (mbc mi_Law_arePartsSo) 554 = .ok (retI (mrt mi_Law_arePartsSo), 1) := by decide +kernel
theorem dd_Law_areTasksSo_0 : Dc mi_Law_areTasksSo 0 (.iconst 0) 1 1 := ⟨by decide +kernel, rfl⟩
theorem dd_Law_areTasksSo_1 : Dc mi_Law_areTasksSo 1 (.istore_n 1) 1 2 := ⟨by decide +kernel, rfl⟩
theorem dd_Law_areTasksSo_2 : Dc mi_Law_areTasksSo 2 (.iconst 0) 1 3 := ⟨by decide +kernel, rfl⟩
theorem dd_Law_areTasksSo_3 : Dc mi_Law_areTasksSo 3 (.istore_n 2) 1 4 := ⟨by decide +kernel, rfl⟩
theorem dd_Law_areTasksSo_4 : Dc mi_Law_areTasksSo 4 (.iconst 0) 1 5 := ⟨by decide +kernel, rfl⟩
theorem dd_Law_areTasksSo_5 : Dc mi_Law_areTasksSo 5 (.istore_n 3) 1 6 := ⟨by decide +kernel, rfl⟩
theorem dd_Law_areTasksSo_6 : Dc mi_Law_areTasksSo 6 (.iconst 1) 1 7 := ⟨by decide +kernel, rfl⟩
theorem dd_Law_areTasksSo_7 : Dc mi_Law_areTasksSo 7 (.istore 4) 2 9 := ⟨by decide +kernel, rfl⟩
theorem dd_Law_areTasksSo_9 : Dc mi_Law_areTasksSo 9 (.iconst 0) 1 10 := ⟨by decide +kernel, rfl⟩
theorem dd_Law_areTasksSo_10 : Dc mi_Law_areTasksSo 10 (.istore 5) 2 12 := ⟨by decide +kernel, rfl⟩
theorem dd_Law_areTasksSo_12 : Dc mi_Law_areTasksSo 12 (.iload 5) 2 14 := ⟨by decide +kernel, rfl⟩
theorem dd_Law_areTasksSo_14 : Dc mi_Law_areTasksSo 14 (.bipush 6) 2 16 := ⟨by decide +kernel, rfl⟩
theorem dd_Law_areTasksSo_16 : Db mi_Law_areTasksSo 16 (.if_icmp .ge 152) 152 19 168 := ⟨by decide +kernel, rfl, rfl⟩
theorem dd_Law_areTasksSo_19 : Dc mi_Law_areTasksSo 19 (.aload_n 0) 1 20 := ⟨by decide +kernel, rfl⟩
theorem dd_Law_areTasksSo_20 : Dc mi_Law_areTasksSo 20 (.iload 5) 2 22 := ⟨by decide +kernel, rfl⟩
theorem dd_Law_areTasksSo_22 : Dc mi_Law_areTasksSo 22 (.invokevirtual 63) 3 25 := ⟨by decide +kernel, rfl⟩
theorem dd_Law_areTasksSo_25 : Dc mi_Law_areTasksSo 25 (.istore 6) 2 27 := ⟨by decide +kernel, rfl⟩
theorem dd_Law_areTasksSo_27 : Dc mi_Law_areTasksSo 27 (.iload_n 1) 1 28 := ⟨by decide +kernel, rfl⟩
theorem dd_Law_areTasksSo_28 : Dc mi_Law_areTasksSo 28 (.aload_n 0) 1 29 := ⟨by decide +kernel, rfl⟩
theorem dd_Law_areTasksSo_29 : Dc mi_Law_areTasksSo 29 (.iload 5) 2 31 := ⟨by decide +kernel, rfl⟩
theorem dd_Law_areTasksSo_31 : Dc mi_Law_areTasksSo 31 (.iconst 2) 1 32 := ⟨by decide +kernel, rfl⟩
theorem dd_Law_areTasksSo_32 : Dc mi_Law_areTasksSo 32 (.invokevirtual 60) 3 35 := ⟨by decide +kernel, rfl⟩
theorem dd_Law_areTasksSo_35 : Dc mi_Law_areTasksSo 35 (.iadd) 1 36 := ⟨by decide +kernel, rfl⟩
theorem dd_Law_areTasksSo_36 : Dc mi_Law_areTasksSo 36 (.istore_n 1) 1 37 := ⟨by decide +kernel, rfl⟩
theorem dd_Law_areTasksSo_37 : Dc mi_Law_areTasksSo 37 (.iload_n 2) 1 38 := ⟨by decide +kernel, rfl⟩
theorem dd_Law_areTasksSo_38 : Dc mi_Law_areTasksSo 38 (.aload_n 0) 1 39 := ⟨by decide +kernel, rfl⟩
theorem dd_Law_areTasksSo_39 : Dc mi_Law_areTasksSo 39 (.iload 5) 2 41 := ⟨by decide +kernel, rfl⟩
theorem dd_Law_areTasksSo_41 : Dc mi_Law_areTasksSo 41 (.iconst 1) 1 42 := ⟨by decide +kernel, rfl⟩
theorem dd_Law_areTasksSo_42 : Dc mi_Law_areTasksSo 42 (.invokevirtual 60) 3 45 := ⟨by decide +kernel, rfl⟩
theorem dd_Law_areTasksSo_45 : Dc mi_Law_areTasksSo 45 (.iadd) 1 46 := ⟨by decide +kernel, rfl⟩
theorem dd_Law_areTasksSo_46 : Dc mi_Law_areTasksSo 46 (.istore_n 2) 1 47 := ⟨by decide +kernel, rfl⟩
theorem dd_Law_areTasksSo_47 : Dc mi_Law_areTasksSo 47 (.iload_n 3) 1 48 := ⟨by decide +kernel, rfl⟩
theorem dd_Law_areTasksSo_48 : Dc mi_Law_areTasksSo 48 (.aload_n 0) 1 49 := ⟨by decide +kernel, rfl⟩
theorem dd_Law_areTasksSo_49 : Dc mi_Law_areTasksSo 49 (.iload 5) 2 51 := ⟨by decide +kernel, rfl⟩
theorem dd_Law_areTasksSo_51 : Dc mi_Law_areTasksSo 51 (.iconst 5) 1 52 := ⟨by decide +kernel, rfl⟩
theorem dd_Law_areTasksSo_52 : Dc mi_Law_areTasksSo 52 (.invokevirtual 60) 3 55 := ⟨by decide +kernel, rfl⟩
theorem dd_Law_areTasksSo_55 : Dc mi_Law_areTasksSo 55 (.iadd) 1 56 := ⟨by decide +kernel, rfl⟩
theorem dd_Law_areTasksSo_56 : Dc mi_Law_areTasksSo 56 (.istore_n 3) 1 57 := ⟨by decide +kernel, rfl⟩
theorem dd_Law_areTasksSo_57 : Dc mi_Law_areTasksSo 57 (.iconst 1) 1 58 := ⟨by decide +kernel, rfl⟩
theorem dd_Law_areTasksSo_58 : Dc mi_Law_areTasksSo 58 (.istore 7) 2 60 := ⟨by decide +kernel, rfl⟩
theorem dd_Law_areTasksSo_60 : Dc mi_Law_areTasksSo 60 (.iload 7) 2 62 := ⟨by decide +kernel, rfl⟩
theorem dd_Law_areTasksSo_62 : Dc mi_Law_areTasksSo 62 (.bipush 15) 2 64 := ⟨by decide +kernel, rfl⟩
theorem dd_Law_areTasksSo_64 : Db mi_Law_areTasksSo 64 (.if_icmp .ge 57) 57 67 121 := ⟨by decide +kernel, rfl, rfl⟩
theorem dd_Law_areTasksSo_67 : Dc mi_Law_areTasksSo 67 (.iload 4) 2 69 := ⟨by decide +kernel, rfl⟩
theorem dd_Law_areTasksSo_69 : Db mi_Law_areTasksSo 69 (.ifCond .eq 43) 43 72 112 := ⟨by decide +kernel, rfl, rfl⟩
theorem dd_Law_areTasksSo_72 : Dc mi_Law_areTasksSo 72 (.aload_n 0) 1 73 := ⟨by decide +kernel, rfl⟩
theorem dd_Law_areTasksSo_73 : Dc mi_Law_areTasksSo 73 (.iload 5) 2 75 := ⟨by decide +kernel, rfl⟩
theorem dd_Law_areTasksSo_75 : Dc mi_Law_areTasksSo 75 (.iload 7) 2 77 := ⟨by decide +kernel, rfl⟩
theorem dd_Law_areTasksSo_77 : Dc mi_Law_areTasksSo 77 (.invokevirtual 66) 3 80 := ⟨by decide +kernel, rfl⟩
theorem dd_Law_areTasksSo_80 : Db mi_Law_areTasksSo 80 (.ifCond .eq 10) 10 83 90 := ⟨by decide +kernel, rfl, rfl⟩
theorem dd_Law_areTasksSo_83 : Dc mi_Law_areTasksSo 83 (.iload 7) 2 85 := ⟨by decide +kernel, rfl⟩
theorem dd_Law_areTasksSo_85 : Dc mi_Law_areTasksSo 85 (.iload 6) 2 87 := ⟨by decide +kernel, rfl⟩
theorem dd_Law_areTasksSo_87 : Db mi_Law_areTasksSo 87 (.if_icmp .le 25) 25 90 112 := ⟨by decide +kernel, rfl, rfl⟩
theorem dd_Law_areTasksSo_90 : Dc mi_Law_areTasksSo 90 (.iload 7) 2 92 := ⟨by decide +kernel, rfl⟩
theorem dd_Law_areTasksSo_92 : Dc mi_Law_areTasksSo 92 (.iload 6) 2 94 := ⟨by decide +kernel, rfl⟩
theorem dd_Law_areTasksSo_94 : Db mi_Law_areTasksSo 94 (.if_icmp .ne 14) 14 97 108 := ⟨by decide +kernel, rfl, rfl⟩
theorem dd_Law_areTasksSo_97 : Dc mi_Law_areTasksSo 97 (.aload_n 0) 1 98 := ⟨by decide +kernel, rfl⟩
theorem dd_Law_areTasksSo_98 : Dc mi_Law_areTasksSo 98 (.iload 5) 2 100 := ⟨by decide +kernel, rfl⟩
theorem dd_Law_areTasksSo_100 : Dc mi_Law_areTasksSo 100 (.iload 7) 2 102 := ⟨by decide +kernel, rfl⟩
theorem dd_Law_areTasksSo_102 : Dc mi_Law_areTasksSo 102 (.invokevirtual 66) 3 105 := ⟨by decide +kernel, rfl⟩
theorem dd_Law_areTasksSo_105 : Db mi_Law_areTasksSo 105 (.ifCond .ne 7) 7 108 112 := ⟨by decide +kernel, rfl, rfl⟩
theorem dd_Law_areTasksSo_108 : Dc mi_Law_areTasksSo 108 (.iconst 1) 1 109 := ⟨by decide +kernel, rfl⟩
theorem dd_Law_areTasksSo_109 : Db mi_Law_areTasksSo 109 (.goto 4) 4 112 113 := ⟨by decide +kernel, rfl, rfl⟩
theorem dd_Law_areTasksSo_112 : Dc mi_Law_areTasksSo 112 (.iconst 0) 1 113 := ⟨by decide +kernel, rfl⟩
theorem dd_Law_areTasksSo_113 : Dc mi_Law_areTasksSo 113 (.istore 4) 2 115 := ⟨by decide +kernel, rfl⟩
theorem dd_Law_areTasksSo_115 : Dc mi_Law_areTasksSo 115 (.iinc 7 1) 3 118 := ⟨by decide +kernel, rfl⟩
theorem dd_Law_areTasksSo_118 : Db mi_Law_areTasksSo 118 (.goto (-58)) (-58) 121 60 := ⟨by decide +kernel, rfl, rfl⟩
theorem dd_Law_areTasksSo_121 : Dc mi_Law_areTasksSo 121 (.iload 4) 2 123 := ⟨by decide +kernel, rfl⟩
theorem dd_Law_areTasksSo_123 : Db mi_Law_areTasksSo 123 (.ifCond .eq 36) 36 126 159 := ⟨by decide +kernel, rfl, rfl⟩
theorem dd_Law_areTasksSo_126 : Dc mi_Law_areTasksSo 126 (.aload_n 0) 1 127 := ⟨by decide +kernel, rfl⟩
theorem dd_Law_areTasksSo_127 : Dc mi_Law_areTasksSo 127 (.iload 5) 2 129 := ⟨by decide +kernel, rfl⟩
theorem dd_Law_areTasksSo_129 : Dc mi_Law_areTasksSo 129 (.iconst 0) 1 130 := ⟨by decide +kernel, rfl⟩
theorem dd_Law_areTasksSo_130 : Dc mi_Law_areTasksSo 130 (.invokevirtual 60) 3 133 := ⟨by decide +kernel, rfl⟩
theorem dd_Law_areTasksSo_133 : Dc mi_Law_areTasksSo 133 (.iconst 1) 1 134 := ⟨by decide +kernel, rfl⟩
theorem dd_Law_areTasksSo_134 : Db mi_Law_areTasksSo 134 (.if_icmp .eq 21) 21 137 155 := ⟨by decide +kernel, rfl, rfl⟩
theorem dd_Law_areTasksSo_137 : Dc mi_Law_areTasksSo 137 (.iload 6) 2 139 := ⟨by decide +kernel, rfl⟩
theorem dd_Law_areTasksSo_139 : Dc mi_Law_areTasksSo 139 (.bipush (-5)) 2 141 := ⟨by decide +kernel, rfl⟩
theorem dd_Law_areTasksSo_141 : Db mi_Law_areTasksSo 141 (.if_icmp .ne 18) 18 144 159 := ⟨by decide +kernel, rfl, rfl⟩
theorem dd_Law_areTasksSo_144 : Dc mi_Law_areTasksSo 144 (.aload_n 0) 1 145 := ⟨by decide +kernel, rfl⟩
theorem dd_Law_areTasksSo_145 : Dc mi_Law_areTasksSo 145 (.iload 5) 2 147 := ⟨by decide +kernel, rfl⟩
theorem dd_Law_areTasksSo_147 : Dc mi_Law_areTasksSo 147 (.iconst 1) 1 148 := ⟨by decide +kernel, rfl⟩
theorem dd_Law_areTasksSo_148 : Dc mi_Law_areTasksSo 148 (.invokevirtual 66) 3 151 := ⟨by decide +kernel, rfl⟩
theorem dd_Law_areTasksSo_151 : Dc mi_Law_areTasksSo 151 (.iconst 1) 1 152 := ⟨by decide +kernel, rfl⟩
theorem dd_Law_areTasksSo_152 : Db mi_Law_areTasksSo 152 (.if_icmp .ne 7) 7 155 159 := ⟨by decide +kernel, rfl, rfl⟩
theorem dd_Law_areTasksSo_155 : Dc mi_Law_areTasksSo 155 (.iconst 1) 1 156 := ⟨by decide +kernel, rfl⟩
theorem dd_Law_areTasksSo_156 : Db mi_Law_areTasksSo 156 (.goto 4) 4 159 160 := ⟨by decide +kernel, rfl, rfl⟩
theorem dd_Law_areTasksSo_159 : Dc mi_Law_areTasksSo 159 (.iconst 0) 1 160 := ⟨by decide +kernel, rfl⟩
theorem dd_Law_areTasksSo_160 : Dc mi_Law_areTasksSo 160 (.istore 4) 2 162 := ⟨by decide +kernel, rfl⟩
theorem dd_Law_areTasksSo_162 : Dc mi_Law_areTasksSo 162 (.iinc 5 1) 3 165 := ⟨by decide +kernel, rfl⟩
theorem dd_Law_areTasksSo_165 : Db mi_Law_areTasksSo 165 (.goto (-153)) (-153) 168 12 := ⟨by decide +kernel, rfl, rfl⟩
theorem dd_Law_areTasksSo_168 : Dc mi_Law_areTasksSo 168 (.iconst 0) 1 169 := ⟨by decide +kernel, rfl⟩
theorem dd_Law_areTasksSo_169 : Dc mi_Law_areTasksSo 169 (.istore 5) 2 171 := ⟨by decide +kernel, rfl⟩
theorem dd_Law_areTasksSo_171 : Dc mi_Law_areTasksSo 171 (.iconst 0) 1 172 := ⟨by decide +kernel, rfl⟩
theorem dd_Law_areTasksSo_172 : Dc mi_Law_areTasksSo 172 (.istore 6) 2 174 := ⟨by decide +kernel, rfl⟩
theorem dd_Law_areTasksSo_174 : Dc mi_Law_areTasksSo 174 (.iload 6) 2 176 := ⟨by decide +kernel, rfl⟩
theorem dd_Law_areTasksSo_176 : Dc mi_Law_areTasksSo 176 (.iconst 3) 1 177 := ⟨by decide +kernel, rfl⟩
theorem dd_Law_areTasksSo_177 : Db mi_Law_areTasksSo 177 (.if_icmp .ge 114) 114 180 291 := ⟨by decide +kernel, rfl, rfl⟩
theorem dd_Law_areTasksSo_180 : Dc mi_Law_areTasksSo 180 (.iload 5) 2 182 := ⟨by decide +kernel, rfl⟩
theorem dd_Law_areTasksSo_182 : Dc mi_Law_areTasksSo 182 (.iconst 4) 1 183 := ⟨by decide +kernel, rfl⟩
theorem dd_Law_areTasksSo_183 : Dc mi_Law_areTasksSo 183 (.iload 6) 2 185 := ⟨by decide +kernel, rfl⟩
theorem dd_Law_areTasksSo_185 : Dc mi_Law_areTasksSo 185 (.ishl) 1 186 := ⟨by decide +kernel, rfl⟩
theorem dd_Law_areTasksSo_186 : Dc mi_Law_areTasksSo 186 (.aload_n 0) 1 187 := ⟨by decide +kernel, rfl⟩
theorem dd_Law_areTasksSo_187 : Dc mi_Law_areTasksSo 187 (.iload 6) 2 189 := ⟨by decide +kernel, rfl⟩
theorem dd_Law_areTasksSo_189 : Dc mi_Law_areTasksSo 189 (.iconst 0) 1 190 := ⟨by decide +kernel, rfl⟩
theorem dd_Law_areTasksSo_190 : Dc mi_Law_areTasksSo 190 (.invokevirtual 69) 3 193 := ⟨by decide +kernel, rfl⟩
theorem dd_Law_areTasksSo_193 : Dc mi_Law_areTasksSo 193 (.aload_n 0) 1 194 := ⟨by decide +kernel, rfl⟩
theorem dd_Law_areTasksSo_194 : Dc mi_Law_areTasksSo 194 (.iload 6) 2 196 := ⟨by decide +kernel, rfl⟩
theorem dd_Law_areTasksSo_196 : Dc mi_Law_areTasksSo 196 (.iconst 1) 1 197 := ⟨by decide +kernel, rfl⟩
theorem dd_Law_areTasksSo_197 : Dc mi_Law_areTasksSo 197 (.invokevirtual 69) 3 200 := ⟨by decide +kernel, rfl⟩
theorem dd_Law_areTasksSo_200 : Dc mi_Law_areTasksSo 200 (.iadd) 1 201 := ⟨by decide +kernel, rfl⟩
theorem dd_Law_areTasksSo_201 : Dc mi_Law_areTasksSo 201 (.imul) 1 202 := ⟨by decide +kernel, rfl⟩
theorem dd_Law_areTasksSo_202 : Dc mi_Law_areTasksSo 202 (.iadd) 1 203 := ⟨by decide +kernel, rfl⟩
theorem dd_Law_areTasksSo_203 : Dc mi_Law_areTasksSo 203 (.istore 5) 2 205 := ⟨by decide +kernel, rfl⟩
theorem dd_Law_areTasksSo_205 : Dc mi_Law_areTasksSo 205 (.aload_n 0) 1 206 := ⟨by decide +kernel, rfl⟩
theorem dd_Law_areTasksSo_206 : Dc mi_Law_areTasksSo 206 (.iload 6) 2 208 := ⟨by decide +kernel, rfl⟩
theorem dd_Law_areTasksSo_208 : Dc mi_Law_areTasksSo 208 (.iconst 2) 1 209 := ⟨by decide +kernel, rfl⟩
theorem dd_Law_areTasksSo_209 : Dc mi_Law_areTasksSo 209 (.invokevirtual 69) 3 212 := ⟨by decide +kernel, rfl⟩
theorem dd_Law_areTasksSo_212 : Dc mi_Law_areTasksSo 212 (.istore 7) 2 214 := ⟨by decide +kernel, rfl⟩
theorem dd_Law_areTasksSo_214 : Dc mi_Law_areTasksSo 214 (.iload 4) 2 216 := ⟨by decide +kernel, rfl⟩
theorem dd_Law_areTasksSo_216 : Db mi_Law_areTasksSo 216 (.ifCond .eq 66) 66 219 282 := ⟨by decide +kernel, rfl, rfl⟩
theorem dd_Law_areTasksSo_219 : Dc mi_Law_areTasksSo 219 (.iload 7) 2 221 := ⟨by decide +kernel, rfl⟩
theorem dd_Law_areTasksSo_221 : Dc mi_Law_areTasksSo 221 (.bipush (-5)) 2 223 := ⟨by decide +kernel, rfl⟩
theorem dd_Law_areTasksSo_223 : Db mi_Law_areTasksSo 223 (.if_icmp .ne 7) 7 226 230 := ⟨by decide +kernel, rfl, rfl⟩
theorem dd_Law_areTasksSo_226 : Dc mi_Law_areTasksSo 226 (.iconst 1) 1 227 := ⟨by decide +kernel, rfl⟩
theorem dd_Law_areTasksSo_227 : Db mi_Law_areTasksSo 227 (.goto 4) 4 230 231 := ⟨by decide +kernel, rfl, rfl⟩
theorem dd_Law_areTasksSo_230 : Dc mi_Law_areTasksSo 230 (.iconst 0) 1 231 := ⟨by decide +kernel, rfl⟩
theorem dd_Law_areTasksSo_231 : Dc mi_Law_areTasksSo 231 (.aload_n 0) 1 232 := ⟨by decide +kernel, rfl⟩
theorem dd_Law_areTasksSo_232 : Dc mi_Law_areTasksSo 232 (.iload 6) 2 234 := ⟨by decide +kernel, rfl⟩
theorem dd_Law_areTasksSo_234 : Dc mi_Law_areTasksSo 234 (.iconst 0) 1 235 := ⟨by decide +kernel, rfl⟩
theorem dd_Law_areTasksSo_235 : Dc mi_Law_areTasksSo 235 (.invokevirtual 69) 3 238 := ⟨by decide +kernel, rfl⟩
theorem dd_Law_areTasksSo_238 : Db mi_Law_areTasksSo 238 (.ifCond .ne 7) 7 241 245 := ⟨by decide +kernel, rfl, rfl⟩
theorem dd_Law_areTasksSo_241 : Dc mi_Law_areTasksSo 241 (.iconst 1) 1 242 := ⟨by decide +kernel, rfl⟩
theorem dd_Law_areTasksSo_242 : Db mi_Law_areTasksSo 242 (.goto 4) 4 245 246 := ⟨by decide +kernel, rfl, rfl⟩
theorem dd_Law_areTasksSo_245 : Dc mi_Law_areTasksSo 245 (.iconst 0) 1 246 := ⟨by decide +kernel, rfl⟩
theorem dd_Law_areTasksSo_246 : Db mi_Law_areTasksSo 246 (.if_icmp .ne 36) 36 249 282 := ⟨by decide +kernel, rfl, rfl⟩
theorem dd_Law_areTasksSo_249 : Dc mi_Law_areTasksSo 249 (.iload 7) 2 251 := ⟨by decide +kernel, rfl⟩
theorem dd_Law_areTasksSo_251 : Db mi_Law_areTasksSo 251 (.ifCond .lt 27) 27 254 278 := ⟨by decide +kernel, rfl, rfl⟩
theorem dd_Law_areTasksSo_254 : Dc mi_Law_areTasksSo 254 (.aload_n 0) 1 255 := ⟨by decide +kernel, rfl⟩
theorem dd_Law_areTasksSo_255 : Dc mi_Law_areTasksSo 255 (.iload 7) 2 257 := ⟨by decide +kernel, rfl⟩
theorem dd_Law_areTasksSo_257 : Dc mi_Law_areTasksSo 257 (.iconst 1) 1 258 := ⟨by decide +kernel, rfl⟩
theorem dd_Law_areTasksSo_258 : Dc mi_Law_areTasksSo 258 (.invokevirtual 20) 3 261 := ⟨by decide +kernel, rfl⟩
theorem dd_Law_areTasksSo_261 : Dc mi_Law_areTasksSo 261 (.bipush (-5)) 2 263 := ⟨by decide +kernel, rfl⟩
theorem dd_Law_areTasksSo_263 : Db mi_Law_areTasksSo 263 (.if_icmp .ne 19) 19 266 282 := ⟨by decide +kernel, rfl, rfl⟩
theorem dd_Law_areTasksSo_266 : Dc mi_Law_areTasksSo 266 (.aload_n 0) 1 267 := ⟨by decide +kernel, rfl⟩
theorem dd_Law_areTasksSo_267 : Dc mi_Law_areTasksSo 267 (.iload 7) 2 269 := ⟨by decide +kernel, rfl⟩
theorem dd_Law_areTasksSo_269 : Dc mi_Law_areTasksSo 269 (.iconst 3) 1 270 := ⟨by decide +kernel, rfl⟩
theorem dd_Law_areTasksSo_270 : Dc mi_Law_areTasksSo 270 (.invokevirtual 20) 3 273 := ⟨by decide +kernel, rfl⟩
theorem dd_Law_areTasksSo_273 : Dc mi_Law_areTasksSo 273 (.iload 6) 2 275 := ⟨by decide +kernel, rfl⟩
theorem dd_Law_areTasksSo_275 : Db mi_Law_areTasksSo 275 (.if_icmp .ne 7) 7 278 282 := ⟨by decide +kernel, rfl, rfl⟩
theorem dd_Law_areTasksSo_278 : Dc mi_Law_areTasksSo 278 (.iconst 1) 1 279 := ⟨by decide +kernel, rfl⟩
theorem dd_Law_areTasksSo_279 : Db mi_Law_areTasksSo 279 (.goto 4) 4 282 283 := ⟨by decide +kernel, rfl, rfl⟩
theorem dd_Law_areTasksSo_282 : Dc mi_Law_areTasksSo 282 (.iconst 0) 1 283 := ⟨by decide +kernel, rfl⟩
theorem dd_Law_areTasksSo_283 : Dc mi_Law_areTasksSo 283 (.istore 4) 2 285 := ⟨by decide +kernel, rfl⟩
theorem dd_Law_areTasksSo_285 : Dc mi_Law_areTasksSo 285 (.iinc 6 1) 3 288 := ⟨by decide +kernel, rfl⟩
theorem dd_Law_areTasksSo_288 : Db mi_Law_areTasksSo 288 (.goto (-114)) (-114) 291 174 := ⟨by decide +kernel, rfl, rfl⟩
theorem dd_Law_areTasksSo_291 : Dc mi_Law_areTasksSo 291 (.bipush (-5)) 2 293 := ⟨by decide +kernel, rfl⟩
theorem dd_Law_areTasksSo_293 : Dc mi_Law_areTasksSo 293 (.istore 6) 2 295 := ⟨by decide +kernel, rfl⟩
theorem dd_Law_areTasksSo_295 : Dc mi_Law_areTasksSo 295 (.iconst 0) 1 296 := ⟨by decide +kernel, rfl⟩
theorem dd_Law_areTasksSo_296 : Dc mi_Law_areTasksSo 296 (.istore 7) 2 298 := ⟨by decide +kernel, rfl⟩
theorem dd_Law_areTasksSo_298 : Dc mi_Law_areTasksSo 298 (.iload 7) 2 300 := ⟨by decide +kernel, rfl⟩
theorem dd_Law_areTasksSo_300 : Dc mi_Law_areTasksSo 300 (.iload_n 3) 1 301 := ⟨by decide +kernel, rfl⟩
theorem dd_Law_areTasksSo_301 : Db mi_Law_areTasksSo 301 (.if_icmp .ge 96) 96 304 397 := ⟨by decide +kernel, rfl, rfl⟩
theorem dd_Law_areTasksSo_304 : Dc mi_Law_areTasksSo 304 (.aload_n 0) 1 305 := ⟨by decide +kernel, rfl⟩
theorem dd_Law_areTasksSo_305 : Dc mi_Law_areTasksSo 305 (.iload 7) 2 307 := ⟨by decide +kernel, rfl⟩
theorem dd_Law_areTasksSo_307 : Dc mi_Law_areTasksSo 307 (.invokevirtual 72) 3 310 := ⟨by decide +kernel, rfl⟩
theorem dd_Law_areTasksSo_310 : Dc mi_Law_areTasksSo 310 (.istore 8) 2 312 := ⟨by decide +kernel, rfl⟩
theorem dd_Law_areTasksSo_312 : Dc mi_Law_areTasksSo 312 (.iload 4) 2 314 := ⟨by decide +kernel, rfl⟩
theorem dd_Law_areTasksSo_314 : Db mi_Law_areTasksSo 314 (.ifCond .eq 70) 70 317 384 := ⟨by decide +kernel, rfl, rfl⟩
theorem dd_Law_areTasksSo_317 : Dc mi_Law_areTasksSo 317 (.iload 8) 2 319 := ⟨by decide +kernel, rfl⟩
theorem dd_Law_areTasksSo_319 : Db mi_Law_areTasksSo 319 (.ifCond .lt 65) 65 322 384 := ⟨by decide +kernel, rfl, rfl⟩
theorem dd_Law_areTasksSo_322 : Dc mi_Law_areTasksSo 322 (.aload_n 0) 1 323 := ⟨by decide +kernel, rfl⟩
theorem dd_Law_areTasksSo_323 : Dc mi_Law_areTasksSo 323 (.iload 8) 2 325 := ⟨by decide +kernel, rfl⟩
theorem dd_Law_areTasksSo_325 : Dc mi_Law_areTasksSo 325 (.bipush 6) 2 327 := ⟨by decide +kernel, rfl⟩
theorem dd_Law_areTasksSo_327 : Dc mi_Law_areTasksSo 327 (.invokevirtual 23) 3 330 := ⟨by decide +kernel, rfl⟩
theorem dd_Law_areTasksSo_330 : Dc mi_Law_areTasksSo 330 (.iconst 1) 1 331 := ⟨by decide +kernel, rfl⟩
theorem dd_Law_areTasksSo_331 : Db mi_Law_areTasksSo 331 (.if_icmp .ne 53) 53 334 384 := ⟨by decide +kernel, rfl, rfl⟩
theorem dd_Law_areTasksSo_334 : Dc mi_Law_areTasksSo 334 (.iload 7) 2 336 := ⟨by decide +kernel, rfl⟩
theorem dd_Law_areTasksSo_336 : Db mi_Law_areTasksSo 336 (.ifCond .eq 44) 44 339 380 := ⟨by decide +kernel, rfl, rfl⟩
theorem dd_Law_areTasksSo_339 : Dc mi_Law_areTasksSo 339 (.aload_n 0) 1 340 := ⟨by decide +kernel, rfl⟩
theorem dd_Law_areTasksSo_340 : Dc mi_Law_areTasksSo 340 (.iload 6) 2 342 := ⟨by decide +kernel, rfl⟩
theorem dd_Law_areTasksSo_342 : Dc mi_Law_areTasksSo 342 (.iconst 5) 1 343 := ⟨by decide +kernel, rfl⟩
theorem dd_Law_areTasksSo_343 : Dc mi_Law_areTasksSo 343 (.invokevirtual 23) 3 346 := ⟨by decide +kernel, rfl⟩
theorem dd_Law_areTasksSo_346 : Dc mi_Law_areTasksSo 346 (.aload_n 0) 1 347 := ⟨by decide +kernel, rfl⟩
theorem dd_Law_areTasksSo_347 : Dc mi_Law_areTasksSo 347 (.iload 8) 2 349 := ⟨by decide +kernel, rfl⟩
theorem dd_Law_areTasksSo_349 : Dc mi_Law_areTasksSo 349 (.iconst 5) 1 350 := ⟨by decide +kernel, rfl⟩
theorem dd_Law_areTasksSo_350 : Dc mi_Law_areTasksSo 350 (.invokevirtual 23) 3 353 := ⟨by decide +kernel, rfl⟩
theorem dd_Law_areTasksSo_353 : Db mi_Law_areTasksSo 353 (.if_icmp .gt 27) 27 356 380 := ⟨by decide +kernel, rfl, rfl⟩
theorem dd_Law_areTasksSo_356 : Dc mi_Law_areTasksSo 356 (.aload_n 0) 1 357 := ⟨by decide +kernel, rfl⟩
theorem dd_Law_areTasksSo_357 : Dc mi_Law_areTasksSo 357 (.iload 6) 2 359 := ⟨by decide +kernel, rfl⟩
theorem dd_Law_areTasksSo_359 : Dc mi_Law_areTasksSo 359 (.iconst 5) 1 360 := ⟨by decide +kernel, rfl⟩
theorem dd_Law_areTasksSo_360 : Dc mi_Law_areTasksSo 360 (.invokevirtual 23) 3 363 := ⟨by decide +kernel, rfl⟩
theorem dd_Law_areTasksSo_363 : Dc mi_Law_areTasksSo 363 (.aload_n 0) 1 364 := ⟨by decide +kernel, rfl⟩
theorem dd_Law_areTasksSo_364 : Dc mi_Law_areTasksSo 364 (.iload 8) 2 366 := ⟨by decide +kernel, rfl⟩
theorem dd_Law_areTasksSo_366 : Dc mi_Law_areTasksSo 366 (.iconst 5) 1 367 := ⟨by decide +kernel, rfl⟩
theorem dd_Law_areTasksSo_367 : Dc mi_Law_areTasksSo 367 (.invokevirtual 23) 3 370 := ⟨by decide +kernel, rfl⟩
theorem dd_Law_areTasksSo_370 : Db mi_Law_areTasksSo 370 (.if_icmp .ne 14) 14 373 384 := ⟨by decide +kernel, rfl, rfl⟩
theorem dd_Law_areTasksSo_373 : Dc mi_Law_areTasksSo 373 (.iload 6) 2 375 := ⟨by decide +kernel, rfl⟩
theorem dd_Law_areTasksSo_375 : Dc mi_Law_areTasksSo 375 (.iload 8) 2 377 := ⟨by decide +kernel, rfl⟩
theorem dd_Law_areTasksSo_377 : Db mi_Law_areTasksSo 377 (.if_icmp .ge 7) 7 380 384 := ⟨by decide +kernel, rfl, rfl⟩
theorem dd_Law_areTasksSo_380 : Dc mi_Law_areTasksSo 380 (.iconst 1) 1 381 := ⟨by decide +kernel, rfl⟩
theorem dd_Law_areTasksSo_381 : Db mi_Law_areTasksSo 381 (.goto 4) 4 384 385 := ⟨by decide +kernel, rfl, rfl⟩
theorem dd_Law_areTasksSo_384 : Dc mi_Law_areTasksSo 384 (.iconst 0) 1 385 := ⟨by decide +kernel, rfl⟩
theorem dd_Law_areTasksSo_385 : Dc mi_Law_areTasksSo 385 (.istore 4) 2 387 := ⟨by decide +kernel, rfl⟩
theorem dd_Law_areTasksSo_387 : Dc mi_Law_areTasksSo 387 (.iload 8) 2 389 := ⟨by decide +kernel, rfl⟩
theorem dd_Law_areTasksSo_389 : Dc mi_Law_areTasksSo 389 (.istore 6) 2 391 := ⟨by decide +kernel, rfl⟩
theorem dd_Law_areTasksSo_391 : Dc mi_Law_areTasksSo 391 (.iinc 7 1) 3 394 := ⟨by decide +kernel, rfl⟩
theorem dd_Law_areTasksSo_394 : Db mi_Law_areTasksSo 394 (.goto (-96)) (-96) 397 298 := ⟨by decide +kernel, rfl, rfl⟩
theorem dd_Law_areTasksSo_397 : Dc mi_Law_areTasksSo 397 (.iload 4) 2 399 := ⟨by decide +kernel, rfl⟩
theorem dd_Law_areTasksSo_399 : Db mi_Law_areTasksSo 399 (.ifCond .eq 54) 54 402 453 := ⟨by decide +kernel, rfl, rfl⟩
theorem dd_Law_areTasksSo_402 : Dc mi_Law_areTasksSo 402 (.iload_n 1) 1 403 := ⟨by decide +kernel, rfl⟩
theorem dd_Law_areTasksSo_403 : Dc mi_Law_areTasksSo 403 (.bipush 64) 2 405 := ⟨by decide +kernel, rfl⟩
theorem dd_Law_areTasksSo_405 : Dc mi_Law_areTasksSo 405 (.aload_n 0) 1 406 := ⟨by decide +kernel, rfl⟩
theorem dd_Law_areTasksSo_406 : Dc mi_Law_areTasksSo 406 (.iconst 1) 1 407 := ⟨by decide +kernel, rfl⟩
theorem dd_Law_areTasksSo_407 : Dc mi_Law_areTasksSo 407 (.invokevirtual 8) 3 410 := ⟨by decide +kernel, rfl⟩
theorem dd_Law_areTasksSo_410 : Dc mi_Law_areTasksSo 410 (.isub) 1 411 := ⟨by decide +kernel, rfl⟩
theorem dd_Law_areTasksSo_411 : Db mi_Law_areTasksSo 411 (.if_icmp .ne 42) 42 414 453 := ⟨by decide +kernel, rfl, rfl⟩
theorem dd_Law_areTasksSo_414 : Dc mi_Law_areTasksSo 414 (.iload_n 2) 1 415 := ⟨by decide +kernel, rfl⟩
theorem dd_Law_areTasksSo_415 : Dc mi_Law_areTasksSo 415 (.aload_n 0) 1 416 := ⟨by decide +kernel, rfl⟩
theorem dd_Law_areTasksSo_416 : Dc mi_Law_areTasksSo 416 (.iconst 0) 1 417 := ⟨by decide +kernel, rfl⟩
theorem dd_Law_areTasksSo_417 : Dc mi_Law_areTasksSo 417 (.invokevirtual 8) 3 420 := ⟨by decide +kernel, rfl⟩
theorem dd_Law_areTasksSo_420 : Db mi_Law_areTasksSo 420 (.if_icmp .ne 33) 33 423 453 := ⟨by decide +kernel, rfl, rfl⟩
theorem dd_Law_areTasksSo_423 : Dc mi_Law_areTasksSo 423 (.iload_n 3) 1 424 := ⟨by decide +kernel, rfl⟩
theorem dd_Law_areTasksSo_424 : Dc mi_Law_areTasksSo 424 (.aload_n 0) 1 425 := ⟨by decide +kernel, rfl⟩
theorem dd_Law_areTasksSo_425 : Dc mi_Law_areTasksSo 425 (.iconst 3) 1 426 := ⟨by decide +kernel, rfl⟩
theorem dd_Law_areTasksSo_426 : Dc mi_Law_areTasksSo 426 (.invokevirtual 8) 3 429 := ⟨by decide +kernel, rfl⟩
theorem dd_Law_areTasksSo_429 : Db mi_Law_areTasksSo 429 (.if_icmp .ne 24) 24 432 453 := ⟨by decide +kernel, rfl, rfl⟩
theorem dd_Law_areTasksSo_432 : Dc mi_Law_areTasksSo 432 (.iload 5) 2 434 := ⟨by decide +kernel, rfl⟩
theorem dd_Law_areTasksSo_434 : Dc mi_Law_areTasksSo 434 (.bipush 64) 2 436 := ⟨by decide +kernel, rfl⟩
theorem dd_Law_areTasksSo_436 : Db mi_Law_areTasksSo 436 (.if_icmp .ne 17) 17 439 453 := ⟨by decide +kernel, rfl, rfl⟩
theorem dd_Law_areTasksSo_439 : Dc mi_Law_areTasksSo 439 (.aload_n 0) 1 440 := ⟨by decide +kernel, rfl⟩
theorem dd_Law_areTasksSo_440 : Dc mi_Law_areTasksSo 440 (.iload_n 3) 1 441 := ⟨by decide +kernel, rfl⟩
theorem dd_Law_areTasksSo_441 : Dc mi_Law_areTasksSo 441 (.invokevirtual 72) 3 444 := ⟨by decide +kernel, rfl⟩
theorem dd_Law_areTasksSo_444 : Dc mi_Law_areTasksSo 444 (.bipush (-5)) 2 446 := ⟨by decide +kernel, rfl⟩
theorem dd_Law_areTasksSo_446 : Db mi_Law_areTasksSo 446 (.if_icmp .ne 7) 7 449 453 := ⟨by decide +kernel, rfl, rfl⟩
theorem dd_Law_areTasksSo_449 : Dc mi_Law_areTasksSo 449 (.iconst 1) 1 450 := ⟨by decide +kernel, rfl⟩
theorem dd_Law_areTasksSo_450 : Db mi_Law_areTasksSo 450 (.goto 4) 4 453 454 := ⟨by decide +kernel, rfl, rfl⟩
theorem dd_Law_areTasksSo_453 : Dc mi_Law_areTasksSo 453 (.iconst 0) 1 454 := ⟨by decide +kernel, rfl⟩
theorem dd_Law_areTasksSo_454 : decode (mbc mi_Law_areTasksSo) 454 = .ok (retI (mrt mi_Law_areTasksSo), 1) := by decide +kernel
theorem dd_Law_isAskSo_0 : Dc mi_Law_isAskSo 0 (.aload_n 0) 1 1 := ⟨by decide +kernel, rfl⟩
theorem dd_Law_isAskSo_1 : Dc mi_Law_isAskSo 1 (.iload_n 1) 1 2 := ⟨by decide +kernel, rfl⟩
theorem dd_Law_isAskSo_2 : Dc mi_Law_isAskSo 2 (.iload_n 2) 1 3 := ⟨by decide +kernel, rfl⟩
theorem dd_Law_isAskSo_3 : Dc mi_Law_isAskSo 3 (.invokevirtual 66) 3 6 := ⟨by decide +kernel, rfl⟩
theorem dd_Law_isAskSo_6 : Dc mi_Law_isAskSo 6 (.istore_n 3) 1 7 := ⟨by decide +kernel, rfl⟩
theorem dd_Law_isAskSo_7 : Dc mi_Law_isAskSo 7 (.iload_n 3) 1 8 := ⟨by decide +kernel, rfl⟩
theorem dd_Law_isAskSo_8 : Db mi_Law_isAskSo 8 (.ifCond .le 11) 11 11 19 := ⟨by decide +kernel, rfl, rfl⟩
theorem dd_Law_isAskSo_11 : Dc mi_Law_isAskSo 11 (.aload_n 0) 1 12 := ⟨by decide +kernel, rfl⟩
theorem dd_Law_isAskSo_12 : Dc mi_Law_isAskSo 12 (.iload_n 3) 1 13 := ⟨by decide +kernel, rfl⟩
theorem dd_Law_isAskSo_13 : Dc mi_Law_isAskSo 13 (.invokevirtual 75) 3 16 := ⟨by decide +kernel, rfl⟩
theorem dd_Law_isAskSo_16 : Db mi_Law_isAskSo 16 (.goto 4) 4 19 20 := ⟨by decide +kernel, rfl, rfl⟩
theorem dd_Law_isAskSo_19 : Dc mi_Law_isAskSo 19 (.iconst 0) 1 20 := ⟨by decide +kernel, rfl⟩
theorem dd_Law_isAskSo_20 : Dc mi_Law_isAskSo 20 (.istore 4) 2 22 := ⟨by decide +kernel, rfl⟩
theorem dd_Law_isAskSo_22 : Dc mi_Law_isAskSo 22 (.aload_n 0) 1 23 := ⟨by decide +kernel, rfl⟩
theorem dd_Law_isAskSo_23 : Dc mi_Law_isAskSo 23 (.bipush 8) 2 25 := ⟨by decide +kernel, rfl⟩
theorem dd_Law_isAskSo_25 : Dc mi_Law_isAskSo 25 (.invokevirtual 8) 3 28 := ⟨by decide +kernel, rfl⟩
theorem dd_Law_isAskSo_28 : Dc mi_Law_isAskSo 28 (.istore 5) 2 30 := ⟨by decide +kernel, rfl⟩
theorem dd_Law_isAskSo_30 : Dc mi_Law_isAskSo 30 (.aload_n 0) 1 31 := ⟨by decide +kernel, rfl⟩
theorem dd_Law_isAskSo_31 : Dc mi_Law_isAskSo 31 (.iconst 0) 1 32 := ⟨by decide +kernel, rfl⟩
theorem dd_Law_isAskSo_32 : Dc mi_Law_isAskSo 32 (.iconst 0) 1 33 := ⟨by decide +kernel, rfl⟩
theorem dd_Law_isAskSo_33 : Dc mi_Law_isAskSo 33 (.invokevirtual 69) 3 36 := ⟨by decide +kernel, rfl⟩
theorem dd_Law_isAskSo_36 : Dc mi_Law_isAskSo 36 (.istore 6) 2 38 := ⟨by decide +kernel, rfl⟩
theorem dd_Law_isAskSo_38 : Dc mi_Law_isAskSo 38 (.aload_n 0) 1 39 := ⟨by decide +kernel, rfl⟩
theorem dd_Law_isAskSo_39 : Dc mi_Law_isAskSo 39 (.iconst 1) 1 40 := ⟨by decide +kernel, rfl⟩
theorem dd_Law_isAskSo_40 : Dc mi_Law_isAskSo 40 (.iconst 0) 1 41 := ⟨by decide +kernel, rfl⟩
theorem dd_Law_isAskSo_41 : Dc mi_Law_isAskSo 41 (.invokevirtual 69) 3 44 := ⟨by decide +kernel, rfl⟩
theorem dd_Law_isAskSo_44 : Dc mi_Law_isAskSo 44 (.istore 7) 2 46 := ⟨by decide +kernel, rfl⟩
theorem dd_Law_isAskSo_46 : Dc mi_Law_isAskSo 46 (.aload_n 0) 1 47 := ⟨by decide +kernel, rfl⟩
theorem dd_Law_isAskSo_47 : Dc mi_Law_isAskSo 47 (.iconst 2) 1 48 := ⟨by decide +kernel, rfl⟩
theorem dd_Law_isAskSo_48 : Dc mi_Law_isAskSo 48 (.iconst 0) 1 49 := ⟨by decide +kernel, rfl⟩
theorem dd_Law_isAskSo_49 : Dc mi_Law_isAskSo 49 (.invokevirtual 69) 3 52 := ⟨by decide +kernel, rfl⟩
theorem dd_Law_isAskSo_52 : Dc mi_Law_isAskSo 52 (.istore 8) 2 54 := ⟨by decide +kernel, rfl⟩
theorem dd_Law_isAskSo_54 : Dc mi_Law_isAskSo 54 (.aload_n 0) 1 55 := ⟨by decide +kernel, rfl⟩
theorem dd_Law_isAskSo_55 : Dc mi_Law_isAskSo 55 (.iload_n 1) 1 56 := ⟨by decide +kernel, rfl⟩
theorem dd_Law_isAskSo_56 : Dc mi_Law_isAskSo 56 (.iload_n 2) 1 57 := ⟨by decide +kernel, rfl⟩
theorem dd_Law_isAskSo_57 : Dc mi_Law_isAskSo 57 (.invokevirtual 30) 3 60 := ⟨by decide +kernel, rfl⟩
theorem dd_Law_isAskSo_60 : Dc mi_Law_isAskSo 60 (.istore 9) 2 62 := ⟨by decide +kernel, rfl⟩
theorem dd_Law_isAskSo_62 : Dc mi_Law_isAskSo 62 (.iload_n 3) 1 63 := ⟨by decide +kernel, rfl⟩
theorem dd_Law_isAskSo_63 : Db mi_Law_isAskSo 63 (.ifCond .le 39) 39 66 102 := ⟨by decide +kernel, rfl, rfl⟩
theorem dd_Law_isAskSo_66 : Dc mi_Law_isAskSo 66 (.iload 9) 2 68 := ⟨by decide +kernel, rfl⟩
theorem dd_Law_isAskSo_68 : Dc mi_Law_isAskSo 68 (.bipush (-6)) 2 70 := ⟨by decide +kernel, rfl⟩
theorem dd_Law_isAskSo_70 : Db mi_Law_isAskSo 70 (.if_icmp .ne 30) 30 73 100 := ⟨by decide +kernel, rfl, rfl⟩
theorem dd_Law_isAskSo_73 : Dc mi_Law_isAskSo 73 (.aload_n 0) 1 74 := ⟨by decide +kernel, rfl⟩
theorem dd_Law_isAskSo_74 : Dc mi_Law_isAskSo 74 (.iload_n 3) 1 75 := ⟨by decide +kernel, rfl⟩
theorem dd_Law_isAskSo_75 : Dc mi_Law_isAskSo 75 (.invokevirtual 75) 3 78 := ⟨by decide +kernel, rfl⟩
theorem dd_Law_isAskSo_78 : Dc mi_Law_isAskSo 78 (.iload 4) 2 80 := ⟨by decide +kernel, rfl⟩
theorem dd_Law_isAskSo_80 : Dc mi_Law_isAskSo 80 (.iconst 1) 1 81 := ⟨by decide +kernel, rfl⟩
theorem dd_Law_isAskSo_81 : Dc mi_Law_isAskSo 81 (.iadd) 1 82 := ⟨by decide +kernel, rfl⟩
theorem dd_Law_isAskSo_82 : Db mi_Law_isAskSo 82 (.if_icmp .ne 18) 18 85 100 := ⟨by decide +kernel, rfl, rfl⟩
theorem dd_Law_isAskSo_85 : Dc mi_Law_isAskSo 85 (.aload_n 0) 1 86 := ⟨by decide +kernel, rfl⟩
theorem dd_Law_isAskSo_86 : Dc mi_Law_isAskSo 86 (.bipush 8) 2 88 := ⟨by decide +kernel, rfl⟩
theorem dd_Law_isAskSo_88 : Dc mi_Law_isAskSo 88 (.invokevirtual 8) 3 91 := ⟨by decide +kernel, rfl⟩
theorem dd_Law_isAskSo_91 : Dc mi_Law_isAskSo 91 (.iload 5) 2 93 := ⟨by decide +kernel, rfl⟩
theorem dd_Law_isAskSo_93 : Db mi_Law_isAskSo 93 (.if_icmp .ne 7) 7 96 100 := ⟨by decide +kernel, rfl, rfl⟩
theorem dd_Law_isAskSo_96 : Dc mi_Law_isAskSo 96 (.iconst 1) 1 97 := ⟨by decide +kernel, rfl⟩
theorem dd_Law_isAskSo_97 : Db mi_Law_isAskSo 97 (.goto 4) 4 100 101 := ⟨by decide +kernel, rfl, rfl⟩
theorem dd_Law_isAskSo_100 : Dc mi_Law_isAskSo 100 (.iconst 0) 1 101 := ⟨by decide +kernel, rfl⟩
theorem dd_Law_isAskSo_101 : decode (mbc mi_Law_isAskSo) 101 = .ok (retI (mrt mi_Law_isAskSo), 1) := by decide +kernel
theorem dd_Law_isAskSo_102 : Dc mi_Law_isAskSo 102 (.iload 9) 2 104 := ⟨by decide +kernel, rfl⟩
theorem dd_Law_isAskSo_104 : Dc mi_Law_isAskSo 104 (.iload 5) 2 106 := ⟨by decide +kernel, rfl⟩
theorem dd_Law_isAskSo_106 : Db mi_Law_isAskSo 106 (.if_icmp .ne 92) 92 109 198 := ⟨by decide +kernel, rfl, rfl⟩
theorem dd_Law_isAskSo_109 : Dc mi_Law_isAskSo 109 (.aload_n 0) 1 110 := ⟨by decide +kernel, rfl⟩
theorem dd_Law_isAskSo_110 : Dc mi_Law_isAskSo 110 (.iload 9) 2 112 := ⟨by decide +kernel, rfl⟩
theorem dd_Law_isAskSo_112 : Dc mi_Law_isAskSo 112 (.iconst 2) 1 113 := ⟨by decide +kernel, rfl⟩
theorem dd_Law_isAskSo_113 : Dc mi_Law_isAskSo 113 (.invokevirtual 23) 3 116 := ⟨by decide +kernel, rfl⟩
theorem dd_Law_isAskSo_116 : Dc mi_Law_isAskSo 116 (.iload_n 1) 1 117 := ⟨by decide +kernel, rfl⟩
theorem dd_Law_isAskSo_117 : Db mi_Law_isAskSo 117 (.if_icmp .ne 81) 81 120 198 := ⟨by decide +kernel, rfl, rfl⟩
theorem dd_Law_isAskSo_120 : Dc mi_Law_isAskSo 120 (.aload_n 0) 1 121 := ⟨by decide +kernel, rfl⟩
theorem dd_Law_isAskSo_121 : Dc mi_Law_isAskSo 121 (.iload 9) 2 123 := ⟨by decide +kernel, rfl⟩
theorem dd_Law_isAskSo_123 : Dc mi_Law_isAskSo 123 (.iconst 3) 1 124 := ⟨by decide +kernel, rfl⟩
theorem dd_Law_isAskSo_124 : Dc mi_Law_isAskSo 124 (.invokevirtual 23) 3 127 := ⟨by decide +kernel, rfl⟩
theorem dd_Law_isAskSo_127 : Dc mi_Law_isAskSo 127 (.iload_n 2) 1 128 := ⟨by decide +kernel, rfl⟩
theorem dd_Law_isAskSo_128 : Db mi_Law_isAskSo 128 (.if_icmp .ne 70) 70 131 198 := ⟨by decide +kernel, rfl, rfl⟩
theorem dd_Law_isAskSo_131 : Dc mi_Law_isAskSo 131 (.aload_n 0) 1 132 := ⟨by decide +kernel, rfl⟩
theorem dd_Law_isAskSo_132 : Dc mi_Law_isAskSo 132 (.iload 9) 2 134 := ⟨by decide +kernel, rfl⟩
theorem dd_Law_isAskSo_134 : Dc mi_Law_isAskSo 134 (.iconst 4) 1 135 := ⟨by decide +kernel, rfl⟩
theorem dd_Law_isAskSo_135 : Dc mi_Law_isAskSo 135 (.invokevirtual 23) 3 138 := ⟨by decide +kernel, rfl⟩
theorem dd_Law_isAskSo_138 : Db mi_Law_isAskSo 138 (.ifCond .ne 60) 60 141 198 := ⟨by decide +kernel, rfl, rfl⟩
theorem dd_Law_isAskSo_141 : Dc mi_Law_isAskSo 141 (.aload_n 0) 1 142 := ⟨by decide +kernel, rfl⟩
theorem dd_Law_isAskSo_142 : Dc mi_Law_isAskSo 142 (.iload 9) 2 144 := ⟨by decide +kernel, rfl⟩
theorem dd_Law_isAskSo_144 : Dc mi_Law_isAskSo 144 (.iconst 5) 1 145 := ⟨by decide +kernel, rfl⟩
theorem dd_Law_isAskSo_145 : Dc mi_Law_isAskSo 145 (.invokevirtual 23) 3 148 := ⟨by decide +kernel, rfl⟩
theorem dd_Law_isAskSo_148 : Db mi_Law_isAskSo 148 (.ifCond .ne 50) 50 151 198 := ⟨by decide +kernel, rfl, rfl⟩
theorem dd_Law_isAskSo_151 : Dc mi_Law_isAskSo 151 (.aload_n 0) 1 152 := ⟨by decide +kernel, rfl⟩
theorem dd_Law_isAskSo_152 : Dc mi_Law_isAskSo 152 (.iload_n 1) 1 153 := ⟨by decide +kernel, rfl⟩
theorem dd_Law_isAskSo_153 : Dc mi_Law_isAskSo 153 (.iload 9) 2 155 := ⟨by decide +kernel, rfl⟩
theorem dd_Law_isAskSo_155 : Dc mi_Law_isAskSo 155 (.invokevirtual 33) 3 158 := ⟨by decide +kernel, rfl⟩
theorem dd_Law_isAskSo_158 : Db mi_Law_isAskSo 158 (.ifCond .ne 40) 40 161 198 := ⟨by decide +kernel, rfl, rfl⟩
theorem dd_Law_isAskSo_161 : Dc mi_Law_isAskSo 161 (.aload_n 0) 1 162 := ⟨by decide +kernel, rfl⟩
theorem dd_Law_isAskSo_162 : Dc mi_Law_isAskSo 162 (.iconst 0) 1 163 := ⟨by decide +kernel, rfl⟩
theorem dd_Law_isAskSo_163 : Dc mi_Law_isAskSo 163 (.iconst 0) 1 164 := ⟨by decide +kernel, rfl⟩
theorem dd_Law_isAskSo_164 : Dc mi_Law_isAskSo 164 (.invokevirtual 69) 3 167 := ⟨by decide +kernel, rfl⟩
theorem dd_Law_isAskSo_167 : Dc mi_Law_isAskSo 167 (.iload 6) 2 169 := ⟨by decide +kernel, rfl⟩
theorem dd_Law_isAskSo_169 : Db mi_Law_isAskSo 169 (.if_icmp .ne 29) 29 172 198 := ⟨by decide +kernel, rfl, rfl⟩
theorem dd_Law_isAskSo_172 : Dc mi_Law_isAskSo 172 (.aload_n 0) 1 173 := ⟨by decide +kernel, rfl⟩
theorem dd_Law_isAskSo_173 : Dc mi_Law_isAskSo 173 (.iconst 1) 1 174 := ⟨by decide +kernel, rfl⟩
theorem dd_Law_isAskSo_174 : Dc mi_Law_isAskSo 174 (.iconst 0) 1 175 := ⟨by decide +kernel, rfl⟩
theorem dd_Law_isAskSo_175 : Dc mi_Law_isAskSo 175 (.invokevirtual 69) 3 178 := ⟨by decide +kernel, rfl⟩
theorem dd_Law_isAskSo_178 : Dc mi_Law_isAskSo 178 (.iload 7) 2 180 := ⟨by decide +kernel, rfl⟩
theorem dd_Law_isAskSo_180 : Db mi_Law_isAskSo 180 (.if_icmp .ne 18) 18 183 198 := ⟨by decide +kernel, rfl, rfl⟩
theorem dd_Law_isAskSo_183 : Dc mi_Law_isAskSo 183 (.aload_n 0) 1 184 := ⟨by decide +kernel, rfl⟩
theorem dd_Law_isAskSo_184 : Dc mi_Law_isAskSo 184 (.iconst 2) 1 185 := ⟨by decide +kernel, rfl⟩
theorem dd_Law_isAskSo_185 : Dc mi_Law_isAskSo 185 (.iconst 0) 1 186 := ⟨by decide +kernel, rfl⟩
theorem dd_Law_isAskSo_186 : Dc mi_Law_isAskSo 186 (.invokevirtual 69) 3 189 := ⟨by decide +kernel, rfl⟩
theorem dd_Law_isAskSo_189 : Dc mi_Law_isAskSo 189 (.iload 8) 2 191 := ⟨by decide +kernel, rfl⟩
theorem dd_Law_isAskSo_191 : Db mi_Law_isAskSo 191 (.if_icmp .ne 7) 7 194 198 := ⟨by decide +kernel, rfl, rfl⟩
theorem dd_Law_isAskSo_194 : Dc mi_Law_isAskSo 194 (.iconst 1) 1 195 := ⟨by decide +kernel, rfl⟩
theorem dd_Law_isAskSo_195 : Db mi_Law_isAskSo 195 (.goto 4) 4 198 199 := ⟨by decide +kernel, rfl, rfl⟩
theorem dd_Law_isAskSo_198 : Dc mi_Law_isAskSo 198 (.iconst 0) 1 199 := ⟨by decide +kernel, rfl⟩
theorem dd_Law_isAskSo_199 : Dc mi_Law_isAskSo 199 (.istore 10) 2 201 := ⟨by decide +kernel, rfl⟩
theorem dd_Law_isAskSo_201 : Dc mi_Law_isAskSo 201 (.aload_n 0) 1 202 := ⟨by decide +kernel, rfl⟩
theorem dd_Law_isAskSo_202 : Dc mi_Law_isAskSo 202 (.invokevirtual 78) 3 205 := ⟨by decide +kernel, rfl⟩
theorem dd_Law_isAskSo_205 : Dc mi_Law_isAskSo 205 (.istore 11) 2 207 := ⟨by decide +kernel, rfl⟩
theorem dd_Law_isAskSo_207 : Dc mi_Law_isAskSo 207 (.aload_n 0) 1 208 := ⟨by decide +kernel, rfl⟩
theorem dd_Law_isAskSo_208 : Dc mi_Law_isAskSo 208 (.invokevirtual 78) 3 211 := ⟨by decide +kernel, rfl⟩
theorem dd_Law_isAskSo_211 : Dc mi_Law_isAskSo 211 (.istore 11) 2 213 := ⟨by decide +kernel, rfl⟩
theorem dd_Law_isAskSo_213 : Dc mi_Law_isAskSo 213 (.iload 10) 2 215 := ⟨by decide +kernel, rfl⟩
theorem dd_Law_isAskSo_215 : Db mi_Law_isAskSo 215 (.ifCond .eq 23) 23 218 238 := ⟨by decide +kernel, rfl, rfl⟩
theorem dd_Law_isAskSo_218 : Dc mi_Law_isAskSo 218 (.iload 11) 2 220 := ⟨by decide +kernel, rfl⟩
theorem dd_Law_isAskSo_220 : Db mi_Law_isAskSo 220 (.ifCond .lt 18) 18 223 238 := ⟨by decide +kernel, rfl, rfl⟩
theorem dd_Law_isAskSo_223 : Dc mi_Law_isAskSo 223 (.aload_n 0) 1 224 := ⟨by decide +kernel, rfl⟩
theorem dd_Law_isAskSo_224 : Dc mi_Law_isAskSo 224 (.bipush 8) 2 226 := ⟨by decide +kernel, rfl⟩
theorem dd_Law_isAskSo_226 : Dc mi_Law_isAskSo 226 (.invokevirtual 8) 3 229 := ⟨by decide +kernel, rfl⟩
theorem dd_Law_isAskSo_229 : Dc mi_Law_isAskSo 229 (.iload 5) 2 231 := ⟨by decide +kernel, rfl⟩
theorem dd_Law_isAskSo_231 : Db mi_Law_isAskSo 231 (.if_icmp .ne 7) 7 234 238 := ⟨by decide +kernel, rfl, rfl⟩
theorem dd_Law_isAskSo_234 : Dc mi_Law_isAskSo 234 (.iconst 1) 1 235 := ⟨by decide +kernel, rfl⟩
theorem dd_Law_isAskSo_235 : Db mi_Law_isAskSo 235 (.goto 4) 4 238 239 := ⟨by decide +kernel, rfl, rfl⟩
theorem dd_Law_isAskSo_238 : Dc mi_Law_isAskSo 238 (.iconst 0) 1 239 := ⟨by decide +kernel, rfl⟩
theorem dd_Law_isAskSo_239 : decode (mbc mi_Law_isAskSo) 239 = .ok (retI (mrt mi_Law_isAskSo), 1) := by decide +kernel
theorem dd_Law_law_0 : Dc mi_Law_law 0 (.new 9) 3 3 := ⟨by decide +kernel, rfl⟩
theorem dd_Law_law_3 : Dc mi_Law_law 3 (.dup) 1 4 := ⟨by decide +kernel, rfl⟩
theorem dd_Law_law_4 : Dc mi_Law_law 4 (.invokespecial 81) 3 7 := ⟨by decide +kernel, rfl⟩
theorem dd_Law_law_7 : Dc mi_Law_law 7 (.astore_n 1) 1 8 := ⟨by decide +kernel, rfl⟩
theorem dd_Law_law_8 : Dc mi_Law_law 8 (.iconst 0) 1 9 := ⟨by decide +kernel, rfl⟩
theorem dd_Law_law_9 : Dc mi_Law_law 9 (.istore_n 2) 1 10 := ⟨by decide +kernel, rfl⟩
theorem dd_Law_law_10 : Dc mi_Law_law 10 (.iload_n 2) 1 11 := ⟨by decide +kernel, rfl⟩
theorem dd_Law_law_11 : Dc mi_Law_law 11 (.bipush 54) 2 13 := ⟨by decide +kernel, rfl⟩
theorem dd_Law_law_13 : Db mi_Law_law 13 (.if_icmp .ge 112) 112 16 125 := ⟨by decide +kernel, rfl, rfl⟩
theorem dd_Law_law_16 : Dc mi_Law_law 16 (.aload_n 0) 1 17 := ⟨by decide +kernel, rfl⟩
theorem dd_Law_law_17 : Dc mi_Law_law 17 (.iload_n 2) 1 18 := ⟨by decide +kernel, rfl⟩
theorem dd_Law_law_18 : Dc mi_Law_law 18 (.invokestatic 82) 3 21 := ⟨by decide +kernel, rfl⟩
theorem dd_Law_law_21 : Dc mi_Law_law 21 (.istore_n 3) 1 22 := ⟨by decide +kernel, rfl⟩
theorem dd_Law_law_22 : Dc mi_Law_law 22 (.iload_n 3) 1 23 := ⟨by decide +kernel, rfl⟩
theorem dd_Law_law_23 : Dc mi_Law_law 23 (.bipush 15) 2 25 := ⟨by decide +kernel, rfl⟩
theorem dd_Law_law_25 : Dc mi_Law_law 25 (.iand) 1 26 := ⟨by decide +kernel, rfl⟩
theorem dd_Law_law_26 : Dc mi_Law_law 26 (.istore 4) 2 28 := ⟨by decide +kernel, rfl⟩
theorem dd_Law_law_28 : Dc mi_Law_law 28 (.aload_n 1) 1 29 := ⟨by decide +kernel, rfl⟩
theorem dd_Law_law_29 : Dc mi_Law_law 29 (.iload_n 3) 1 30 := ⟨by decide +kernel, rfl⟩
theorem dd_Law_law_30 : Dc mi_Law_law 30 (.invokestatic 86) 3 33 := ⟨by decide +kernel, rfl⟩
theorem dd_Law_law_33 : Dc mi_Law_law 33 (.istore 5) 2 35 := ⟨by decide +kernel, rfl⟩
theorem dd_Law_law_35 : Dc mi_Law_law 35 (.iload 5) 2 37 := ⟨by decide +kernel, rfl⟩
theorem dd_Law_law_37 : Dc mi_Law_law 37 (.bipush (-6)) 2 39 := ⟨by decide +kernel, rfl⟩
theorem dd_Law_law_39 : Db mi_Law_law 39 (.if_icmp .lt 78) 78 42 117 := ⟨by decide +kernel, rfl, rfl⟩
theorem dd_Law_law_42 : Dc mi_Law_law 42 (.iload 4) 2 44 := ⟨by decide +kernel, rfl⟩
theorem dd_Law_law_44 : Dc mi_Law_law 44 (.bipush 13) 2 46 := ⟨by decide +kernel, rfl⟩
theorem dd_Law_law_46 : Db mi_Law_law 46 (.if_icmp .ne 16) 16 49 62 := ⟨by decide +kernel, rfl, rfl⟩
theorem dd_Law_law_49 : Dc mi_Law_law 49 (.iload 5) 2 51 := ⟨by decide +kernel, rfl⟩
theorem dd_Law_law_51 : Db mi_Law_law 51 (.ifCond .eq 11) 11 54 62 := ⟨by decide +kernel, rfl, rfl⟩
theorem dd_Law_law_54 : Dc mi_Law_law 54 (.aload_n 1) 1 55 := ⟨by decide +kernel, rfl⟩
theorem dd_Law_law_55 : Dc mi_Law_law 55 (.iconst 3) 1 56 := ⟨by decide +kernel, rfl⟩
theorem dd_Law_law_56 : Dc mi_Law_law 56 (.invokevirtual 8) 3 59 := ⟨by decide +kernel, rfl⟩
theorem dd_Law_law_59 : Db mi_Law_law 59 (.ifCond .ne 58) 58 62 117 := ⟨by decide +kernel, rfl, rfl⟩
theorem dd_Law_law_62 : Dc mi_Law_law 62 (.aload_n 1) 1 63 := ⟨by decide +kernel, rfl⟩
theorem dd_Law_law_63 : Dc mi_Law_law 63 (.invokestatic 89) 3 66 := ⟨by decide +kernel, rfl⟩
theorem dd_Law_law_66 : Db mi_Law_law 66 (.ifCond .eq 51) 51 69 117 := ⟨by decide +kernel, rfl, rfl⟩
theorem dd_Law_law_69 : Dc mi_Law_law 69 (.iload_n 2) 1 70 := ⟨by decide +kernel, rfl⟩
theorem dd_Law_law_70 : Dc mi_Law_law 70 (.iconst 4) 1 71 := ⟨by decide +kernel, rfl⟩
theorem dd_Law_law_71 : Dc mi_Law_law 71 (.irem) 1 72 := ⟨by decide +kernel, rfl⟩
theorem dd_Law_law_72 : Dc mi_Law_law 72 (.iconst 1) 1 73 := ⟨by decide +kernel, rfl⟩
theorem dd_Law_law_73 : Db mi_Law_law 73 (.if_icmp .ne 10) 10 76 83 := ⟨by decide +kernel, rfl, rfl⟩
theorem dd_Law_law_76 : Dc mi_Law_law 76 (.aload_n 1) 1 77 := ⟨by decide +kernel, rfl⟩
theorem dd_Law_law_77 : Dc mi_Law_law 77 (.invokestatic 93) 3 80 := ⟨by decide +kernel, rfl⟩
theorem dd_Law_law_80 : Db mi_Law_law 80 (.ifCond .eq 37) 37 83 117 := ⟨by decide +kernel, rfl, rfl⟩
theorem dd_Law_law_83 : Dc mi_Law_law 83 (.iload_n 2) 1 84 := ⟨by decide +kernel, rfl⟩
theorem dd_Law_law_84 : Dc mi_Law_law 84 (.iconst 3) 1 85 := ⟨by decide +kernel, rfl⟩
theorem dd_Law_law_85 : Dc mi_Law_law 85 (.irem) 1 86 := ⟨by decide +kernel, rfl⟩
theorem dd_Law_law_86 : Dc mi_Law_law 86 (.iconst 2) 1 87 := ⟨by decide +kernel, rfl⟩
theorem dd_Law_law_87 : Db mi_Law_law 87 (.if_icmp .ne 32) 32 90 119 := ⟨by decide +kernel, rfl, rfl⟩
theorem dd_Law_law_90 : Dc mi_Law_law 90 (.aload_n 1) 1 91 := ⟨by decide +kernel, rfl⟩
theorem dd_Law_law_91 : Dc mi_Law_law 91 (.iload_n 3) 1 92 := ⟨by decide +kernel, rfl⟩
theorem dd_Law_law_92 : Dc mi_Law_law 92 (.bipush 6) 2 94 := ⟨by decide +kernel, rfl⟩
theorem dd_Law_law_94 : Dc mi_Law_law 94 (.ishr) 1 95 := ⟨by decide +kernel, rfl⟩
theorem dd_Law_law_95 : Dc mi_Law_law 95 (.bipush 6) 2 97 := ⟨by decide +kernel, rfl⟩
theorem dd_Law_law_97 : Dc mi_Law_law 97 (.invokestatic 14) 3 100 := ⟨by decide +kernel, rfl⟩
theorem dd_Law_law_100 : Dc mi_Law_law 100 (.iconst 1) 1 101 := ⟨by decide +kernel, rfl⟩
theorem dd_Law_law_101 : Dc mi_Law_law 101 (.iload_n 3) 1 102 := ⟨by decide +kernel, rfl⟩
theorem dd_Law_law_102 : Dc mi_Law_law 102 (.bipush 9) 2 104 := ⟨by decide +kernel, rfl⟩
theorem dd_Law_law_104 : Dc mi_Law_law 104 (.ishr) 1 105 := ⟨by decide +kernel, rfl⟩
theorem dd_Law_law_105 : Dc mi_Law_law 105 (.bipush 14) 2 107 := ⟨by decide +kernel, rfl⟩
theorem dd_Law_law_107 : Dc mi_Law_law 107 (.invokestatic 14) 3 110 := ⟨by decide +kernel, rfl⟩
theorem dd_Law_law_110 : Dc mi_Law_law 110 (.iadd) 1 111 := ⟨by decide +kernel, rfl⟩
theorem dd_Law_law_111 : Dc mi_Law_law 111 (.invokestatic 96) 3 114 := ⟨by decide +kernel, rfl⟩
theorem dd_Law_law_114 : Db mi_Law_law 114 (.ifCond .ne 5) 5 117 119 := ⟨by decide +kernel, rfl, rfl⟩
theorem dd_Law_law_117 : Dc mi_Law_law 117 (.iconst 0) 1 118 := ⟨by decide +kernel, rfl⟩
theorem dd_Law_law_118 : decode (mbc mi_Law_law) 118 = .ok (retI (mrt mi_Law_law), 1) := by decide +kernel
theorem dd_Law_law_119 : Dc mi_Law_law 119 (.iinc 2 1) 3 122 := ⟨by decide +kernel, rfl⟩
theorem dd_Law_law_122 : Db mi_Law_law 122 (.goto (-112)) (-112) 125 10 := ⟨by decide +kernel, rfl, rfl⟩
theorem dd_Law_law_125 : Dc mi_Law_law 125 (.iconst 1) 1 126 := ⟨by decide +kernel, rfl⟩
theorem dd_Law_law_126 : decode (mbc mi_Law_law) 126 = .ok (retI (mrt mi_Law_law), 1) := by decide +kernel
end
section
/-! fields, by program; objects and references that are known by number -/
theorem i8_ok {n : Int} (h : -128 ≤ n ∧ n ≤ 127) : (Int8.ofInt n).toInt32 = Int32.ofInt n := by
  apply Int32.toInt_inj.mp
  rw [Int8.toInt_toInt32, Int8.toInt_ofInt, oi_t ⟨by omega, by omega⟩]
  exact Int.bmod_eq_of_le (by simp [Int8.size]; omega) (by simp [Int8.size]; omega)
theorem i16_ok {n : Int} (h : -32768 ≤ n ∧ n ≤ 32767) : (Int16.ofInt n).toInt32 = Int32.ofInt n := by
  apply Int32.toInt_inj.mp
  rw [Int16.toInt_toInt32, Int16.toInt_ofInt, oi_t ⟨by omega, by omega⟩]
  exact Int.bmod_eq_of_le (by simp [Int16.size]; omega) (by simp [Int16.size]; omega)
def p4 (z : Int) : Int := if z = 0 then 4 else if z = 1 then 8 else 16
section RB
variable {y : MI} {t0 pc pc' : Nat} {L : List (Option Vv)} {S : List Vv} {M Mf : Mm} {r : Option Vv}
theorem r_bip {n : Int} (hd : Dc y pc (.bipush n) 2 pc') (h : -128 ≤ n ∧ n ≤ 127) (kk : SPW y t0 pc' L (vI n :: S) M r Mf) : SPW y t0 pc L S M r Mf := r_bipush hd ⟨by omega, by omega⟩ (i8_ok h) kk
theorem r_sip {n : Int} (hd : Dc y pc (.sipush n) 3 pc') (h : -32768 ≤ n ∧ n ≤ 32767) (kk : SPW y t0 pc' L (vI n :: S) M r Mf) : SPW y t0 pc L S M r Mf := r_sipush hd ⟨by omega, by omega⟩ (i16_ok h) kk
theorem r_loc (kk : SPW y t0 pc L S M r Mf) {L2 : List (Option Vv)} (h : L2 = L) : SPW y t0 pc L2 S M r Mf := by rw [h]; exact kk
/-- 4, shifted by a size -/
theorem r_shl4 {z : Int} (hd : Dc y pc .ishl 1 pc') (hz : 0 ≤ z ∧ z ≤ 2) (kk : SPW y t0 pc' L (vI (p4 z) :: S) M r Mf) : SPW y t0 pc L (vI z :: vI 4 :: S) M r Mf := by
  rcases (show z = 0 ∨ z = 1 ∨ z = 2 by omega) with rfl | rfl | rfl
  · exact r_ishl (a := 4) (k := 0) hd (by decide) (by decide) kk
  · exact r_ishl (a := 4) (k := 1) hd (by decide) (by decide) kk
  · exact r_ishl (a := 4) (k := 2) hd (by decide) (by decide) kk
/-- a local that is not read again may be forgotten -/
theorem r_drop (i : Nat) (kk : SPW y t0 pc (L.set i none) S M r Mf) : SPW y t0 pc L S M r Mf := by
  intro G p l e s m args below meth c H locs ls Z C R Lk hS hV hfin
  refine kk G p l e s m args below meth c H locs ls Z C R ⟨Lk.1, Lk.2.1, by rw [List.length_set]; exact Lk.2.2.1, fun j v h => ?_⟩ hS hV hfin
  rw [List.getElem?_set] at h
  by_cases e : i = j
  · rw [if_pos e] at h
    split at h <;> cases h
  · rw [if_neg e] at h
    exact Lk.2.2.2 j v h
theorem r_tabAt {x c dflt lo hi off : Int} {offs : Array Int} {len tgt : Nat} (hd : decode (mbc y) pc = .ok (.tableswitch dflt lo hi offs, len)) (hx : x = c) (h1 : lo ≤ c ∧ c ≤ hi) (ho : offs[(c - lo).toNat]? = some off) (ht : (pc : Int) + off = (tgt : Int)) (kk : SPW y t0 tgt L S M r Mf) : SPW y t0 pc L (vI x :: S) M r Mf := r_tabIn hd (by omega) (by omega) (by rw [hx]; exact ho) ht kk
theorem r_lookAt {x c dflt off : Int} {ps : Array (Int × Int)} {len tgt : Nat} (hd : decode (mbc y) pc = .ok (.lookupswitch dflt ps, len)) (hx : x = c) (hp : (ps.toList.zip (ps.toList.drop 1)).all (fun (a, next) => a.1 < next.1) = true) (ho : Op.lookupswitch.offset ps.toList dflt c = off) (ht : (pc : Int) + off = (tgt : Int)) (kk : SPW y t0 tgt L S M r Mf) : SPW y t0 pc L (vI x :: S) M r Mf := r_look hd hp (by rw [hx]; exact ho) ht kk
end RB
theorem fc_Blk_0 : 0 < 7 ∧ 0 < nfd 0 := by decide +kernel
theorem ff_Blk_0 : (Tcl 0 0).2.2.2 = true := by decide +kernel
theorem fi_Blk_0 : 0 < 7 ∧ 0 < nfd 0 ∧ tyk 0 0 ≠ 2 := by decide +kernel
theorem pi_Blk_0 (x : Int) : putOK 0 0 x := Or.inl (by decide +kernel)
theorem fc_Blk_1 : 0 < 7 ∧ 1 < nfd 0 := by decide +kernel
theorem ff_Blk_1 : (Tcl 0 1).2.2.2 = false := by decide +kernel
theorem fi_Blk_1 : 0 < 7 ∧ 1 < nfd 0 ∧ tyk 0 1 ≠ 2 := by decide +kernel
theorem pi_Blk_1 (x : Int) : putOK 0 1 x := Or.inl (by decide +kernel)
theorem fc_Blk_2 : 0 < 7 ∧ 2 < nfd 0 := by decide +kernel
theorem ff_Blk_2 : (Tcl 0 2).2.2.2 = false := by decide +kernel
theorem fi_Blk_2 : 0 < 7 ∧ 2 < nfd 0 ∧ tyk 0 2 ≠ 2 := by decide +kernel
theorem pi_Blk_2 (x : Int) : putOK 0 2 x := Or.inl (by decide +kernel)
theorem fc_Blk_3 : 0 < 7 ∧ 3 < nfd 0 := by decide +kernel
theorem ff_Blk_3 : (Tcl 0 3).2.2.2 = false := by decide +kernel
theorem fi_Blk_3 : 0 < 7 ∧ 3 < nfd 0 ∧ tyk 0 3 ≠ 2 := by decide +kernel
theorem pi_Blk_3 (x : Int) : putOK 0 3 x := Or.inl (by decide +kernel)
theorem fc_Blk_4 : 0 < 7 ∧ 4 < nfd 0 := by decide +kernel
theorem ff_Blk_4 : (Tcl 0 4).2.2.2 = false := by decide +kernel
theorem fi_Blk_4 : 0 < 7 ∧ 4 < nfd 0 ∧ tyk 0 4 ≠ 2 := by decide +kernel
theorem pi_Blk_4 (x : Int) : putOK 0 4 x := Or.inl (by decide +kernel)
theorem fc_Blk_5 : 0 < 7 ∧ 5 < nfd 0 := by decide +kernel
theorem ff_Blk_5 : (Tcl 0 5).2.2.2 = false := by decide +kernel
theorem fi_Blk_5 : 0 < 7 ∧ 5 < nfd 0 ∧ tyk 0 5 ≠ 2 := by decide +kernel
theorem pi_Blk_5 (x : Int) : putOK 0 5 x := Or.inl (by decide +kernel)
theorem fc_Cmd_0 : 1 < 7 ∧ 0 < nfd 1 := by decide +kernel
theorem ff_Cmd_0 : (Tcl 1 0).2.2.2 = false := by decide +kernel
theorem fi_Cmd_0 : 1 < 7 ∧ 0 < nfd 1 ∧ tyk 1 0 ≠ 2 := by decide +kernel
theorem pi_Cmd_0 (x : Int) : putOK 1 0 x := Or.inl (by decide +kernel)
theorem fc_Cmd_1 : 1 < 7 ∧ 1 < nfd 1 := by decide +kernel
theorem ff_Cmd_1 : (Tcl 1 1).2.2.2 = false := by decide +kernel
theorem fi_Cmd_1 : 1 < 7 ∧ 1 < nfd 1 ∧ tyk 1 1 ≠ 2 := by decide +kernel
theorem pi_Cmd_1 (x : Int) : putOK 1 1 x := Or.inl (by decide +kernel)
theorem fc_Cmd_2 : 1 < 7 ∧ 2 < nfd 1 := by decide +kernel
theorem ff_Cmd_2 : (Tcl 1 2).2.2.2 = false := by decide +kernel
theorem fi_Cmd_2 : 1 < 7 ∧ 2 < nfd 1 ∧ tyk 1 2 ≠ 2 := by decide +kernel
theorem pi_Cmd_2 (x : Int) : putOK 1 2 x := Or.inl (by decide +kernel)
theorem fc_His_0 : 2 < 7 ∧ 0 < nfd 2 := by decide +kernel
theorem ff_His_0 : (Tcl 2 0).2.2.2 = true := by decide +kernel
theorem fr_His_0 : 2 < 7 ∧ 0 < nfd 2 ∧ tyk 2 0 = 2 := by decide +kernel
theorem pr_His_0 : putRK 2 0 := Or.inr ⟨(.object "GuardedPool$State"), by decide +kernel⟩
theorem fc_His_1 : 2 < 7 ∧ 1 < nfd 2 := by decide +kernel
theorem ff_His_1 : (Tcl 2 1).2.2.2 = false := by decide +kernel
theorem fi_His_1 : 2 < 7 ∧ 1 < nfd 2 ∧ tyk 2 1 ≠ 2 := by decide +kernel
theorem pi_His_1 (x : Int) : putOK 2 1 x := Or.inl (by decide +kernel)
theorem fc_His_2 : 2 < 7 ∧ 2 < nfd 2 := by decide +kernel
theorem ff_His_2 : (Tcl 2 2).2.2.2 = false := by decide +kernel
theorem fi_His_2 : 2 < 7 ∧ 2 < nfd 2 ∧ tyk 2 2 ≠ 2 := by decide +kernel
theorem pi_His_2 (x : Int) : putOK 2 2 x := Or.inl (by decide +kernel)
theorem fc_Sta_0 : 3 < 7 ∧ 0 < nfd 3 := by decide +kernel
theorem ff_Sta_0 : (Tcl 3 0).2.2.2 = true := by decide +kernel
theorem fr_Sta_0 : 3 < 7 ∧ 0 < nfd 3 ∧ tyk 3 0 = 2 := by decide +kernel
theorem pr_Sta_0 : putRK 3 0 := Or.inr ⟨(.object "GuardedPool$Block"), by decide +kernel⟩
theorem fc_Sta_1 : 3 < 7 ∧ 1 < nfd 3 := by decide +kernel
theorem ff_Sta_1 : (Tcl 3 1).2.2.2 = true := by decide +kernel
theorem fr_Sta_1 : 3 < 7 ∧ 1 < nfd 3 ∧ tyk 3 1 = 2 := by decide +kernel
theorem pr_Sta_1 : putRK 3 1 := Or.inr ⟨.int, by decide +kernel⟩
theorem fc_Sta_2 : 3 < 7 ∧ 2 < nfd 3 := by decide +kernel
theorem ff_Sta_2 : (Tcl 3 2).2.2.2 = true := by decide +kernel
theorem fr_Sta_2 : 3 < 7 ∧ 2 < nfd 3 ∧ tyk 3 2 = 2 := by decide +kernel
theorem pr_Sta_2 : putRK 3 2 := Or.inr ⟨(.object "GuardedPool$Task"), by decide +kernel⟩
theorem fc_Sta_3 : 3 < 7 ∧ 3 < nfd 3 := by decide +kernel
theorem ff_Sta_3 : (Tcl 3 3).2.2.2 = false := by decide +kernel
theorem fi_Sta_3 : 3 < 7 ∧ 3 < nfd 3 ∧ tyk 3 3 ≠ 2 := by decide +kernel
theorem pi_Sta_3 (x : Int) : putOK 3 3 x := Or.inl (by decide +kernel)
theorem fc_Sta_4 : 3 < 7 ∧ 4 < nfd 3 := by decide +kernel
theorem ff_Sta_4 : (Tcl 3 4).2.2.2 = false := by decide +kernel
theorem fi_Sta_4 : 3 < 7 ∧ 4 < nfd 3 ∧ tyk 3 4 ≠ 2 := by decide +kernel
theorem pi_Sta_4 (x : Int) : putOK 3 4 x := Or.inl (by decide +kernel)
theorem fc_Sta_5 : 3 < 7 ∧ 5 < nfd 3 := by decide +kernel
theorem ff_Sta_5 : (Tcl 3 5).2.2.2 = false := by decide +kernel
theorem fi_Sta_5 : 3 < 7 ∧ 5 < nfd 3 ∧ tyk 3 5 ≠ 2 := by decide +kernel
theorem pi_Sta_5 (x : Int) : putOK 3 5 x := Or.inl (by decide +kernel)
theorem fc_Sta_6 : 3 < 7 ∧ 6 < nfd 3 := by decide +kernel
theorem ff_Sta_6 : (Tcl 3 6).2.2.2 = false := by decide +kernel
theorem fi_Sta_6 : 3 < 7 ∧ 6 < nfd 3 ∧ tyk 3 6 ≠ 2 := by decide +kernel
theorem pi_Sta_6 (x : Int) : putOK 3 6 x := Or.inl (by decide +kernel)
theorem fc_Sta_7 : 3 < 7 ∧ 7 < nfd 3 := by decide +kernel
theorem ff_Sta_7 : (Tcl 3 7).2.2.2 = false := by decide +kernel
theorem fi_Sta_7 : 3 < 7 ∧ 7 < nfd 3 ∧ tyk 3 7 ≠ 2 := by decide +kernel
theorem pi_Sta_7 (x : Int) : putOK 3 7 x := Or.inl (by decide +kernel)
theorem fc_Sta_8 : 3 < 7 ∧ 8 < nfd 3 := by decide +kernel
theorem ff_Sta_8 : (Tcl 3 8).2.2.2 = false := by decide +kernel
theorem fi_Sta_8 : 3 < 7 ∧ 8 < nfd 3 ∧ tyk 3 8 ≠ 2 := by decide +kernel
theorem pi_Sta_8 (x : Int) : putOK 3 8 x := Or.inl (by decide +kernel)
theorem fc_Tsk_0 : 4 < 7 ∧ 0 < nfd 4 := by decide +kernel
theorem ff_Tsk_0 : (Tcl 4 0).2.2.2 = false := by decide +kernel
theorem fi_Tsk_0 : 4 < 7 ∧ 0 < nfd 4 ∧ tyk 4 0 ≠ 2 := by decide +kernel
theorem pb_Tsk_0 {x : Int} (h : x = 0 ∨ x = 1) : putOK 4 0 x := Or.inr ⟨by decide +kernel, by decide +kernel, h⟩
theorem fc_Tsk_1 : 4 < 7 ∧ 1 < nfd 4 := by decide +kernel
theorem ff_Tsk_1 : (Tcl 4 1).2.2.2 = false := by decide +kernel
theorem fi_Tsk_1 : 4 < 7 ∧ 1 < nfd 4 ∧ tyk 4 1 ≠ 2 := by decide +kernel
theorem pi_Tsk_1 (x : Int) : putOK 4 1 x := Or.inl (by decide +kernel)
theorem fc_Tsk_2 : 4 < 7 ∧ 2 < nfd 4 := by decide +kernel
theorem ff_Tsk_2 : (Tcl 4 2).2.2.2 = false := by decide +kernel
theorem fi_Tsk_2 : 4 < 7 ∧ 2 < nfd 4 ∧ tyk 4 2 ≠ 2 := by decide +kernel
theorem pi_Tsk_2 (x : Int) : putOK 4 2 x := Or.inl (by decide +kernel)
theorem fc_Txt_0 : 5 < 7 ∧ 0 < nfd 5 := by decide +kernel
theorem ff_Txt_0 : (Tcl 5 0).2.2.2 = true := by decide +kernel
theorem fr_Txt_0 : 5 < 7 ∧ 0 < nfd 5 ∧ tyk 5 0 = 2 := by decide +kernel
theorem pr_Txt_0 : putRK 5 0 := Or.inr ⟨.char, by decide +kernel⟩
theorem fc_Txt_1 : 5 < 7 ∧ 1 < nfd 5 := by decide +kernel
theorem ff_Txt_1 : (Tcl 5 1).2.2.2 = false := by decide +kernel
theorem fi_Txt_1 : 5 < 7 ∧ 1 < nfd 5 ∧ tyk 5 1 ≠ 2 := by decide +kernel
theorem pi_Txt_1 (x : Int) : putOK 5 1 x := Or.inl (by decide +kernel)
theorem fc_Txt_2 : 5 < 7 ∧ 2 < nfd 5 := by decide +kernel
theorem ff_Txt_2 : (Tcl 5 2).2.2.2 = true := by decide +kernel
theorem fr_Txt_2 : 5 < 7 ∧ 2 < nfd 5 ∧ tyk 5 2 = 2 := by decide +kernel
theorem pr_Txt_2 : putRK 5 2 := Or.inr ⟨(.object "GuardedPool$Command"), by decide +kernel⟩
theorem fc_Txt_3 : 5 < 7 ∧ 3 < nfd 5 := by decide +kernel
theorem ff_Txt_3 : (Tcl 5 3).2.2.2 = false := by decide +kernel
theorem fi_Txt_3 : 5 < 7 ∧ 3 < nfd 5 ∧ tyk 5 3 ≠ 2 := by decide +kernel
theorem pi_Txt_3 (x : Int) : putOK 5 3 x := Or.inl (by decide +kernel)
theorem fc_Txt_4 : 5 < 7 ∧ 4 < nfd 5 := by decide +kernel
theorem ff_Txt_4 : (Tcl 5 4).2.2.2 = false := by decide +kernel
theorem fi_Txt_4 : 5 < 7 ∧ 4 < nfd 5 ∧ tyk 5 4 ≠ 2 := by decide +kernel
theorem pi_Txt_4 (x : Int) : putOK 5 4 x := Or.inl (by decide +kernel)
theorem fc_Txt_5 : 5 < 7 ∧ 5 < nfd 5 := by decide +kernel
theorem ff_Txt_5 : (Tcl 5 5).2.2.2 = false := by decide +kernel
theorem fi_Txt_5 : 5 < 7 ∧ 5 < nfd 5 ∧ tyk 5 5 ≠ 2 := by decide +kernel
theorem pb_Txt_5 {x : Int} (h : x = 0 ∨ x = 1) : putOK 5 5 x := Or.inr ⟨by decide +kernel, by decide +kernel, h⟩
theorem fc_Poo_0 : 6 < 7 ∧ 0 < nfd 6 := by decide +kernel
theorem ff_Poo_0 : (Tcl 6 0).2.2.2 = true := by decide +kernel
theorem fr_Poo_0 : 6 < 7 ∧ 0 < nfd 6 ∧ tyk 6 0 = 2 := by decide +kernel
theorem pr_Poo_0 : putRK 6 0 := Or.inl ⟨"GuardedPool$State", by decide +kernel⟩
theorem fc_Poo_1 : 6 < 7 ∧ 1 < nfd 6 := by decide +kernel
theorem ff_Poo_1 : (Tcl 6 1).2.2.2 = true := by decide +kernel
theorem fr_Poo_1 : 6 < 7 ∧ 1 < nfd 6 ∧ tyk 6 1 = 2 := by decide +kernel
theorem pr_Poo_1 : putRK 6 1 := Or.inl ⟨"GuardedPool$State", by decide +kernel⟩
theorem fc_Poo_2 : 6 < 7 ∧ 2 < nfd 6 := by decide +kernel
theorem ff_Poo_2 : (Tcl 6 2).2.2.2 = true := by decide +kernel
theorem fr_Poo_2 : 6 < 7 ∧ 2 < nfd 6 ∧ tyk 6 2 = 2 := by decide +kernel
theorem pr_Poo_2 : putRK 6 2 := Or.inl ⟨"GuardedPool$State", by decide +kernel⟩
theorem fc_Poo_3 : 6 < 7 ∧ 3 < nfd 6 := by decide +kernel
theorem ff_Poo_3 : (Tcl 6 3).2.2.2 = false := by decide +kernel
theorem fi_Poo_3 : 6 < 7 ∧ 3 < nfd 6 ∧ tyk 6 3 ≠ 2 := by decide +kernel
theorem pb_Poo_3 {x : Int} (h : x = 0 ∨ x = 1) : putOK 6 3 x := Or.inr ⟨by decide +kernel, by decide +kernel, h⟩
theorem fc_Poo_4 : 6 < 7 ∧ 4 < nfd 6 := by decide +kernel
theorem ff_Poo_4 : (Tcl 6 4).2.2.2 = true := by decide +kernel
theorem fr_Poo_4 : 6 < 7 ∧ 4 < nfd 6 ∧ tyk 6 4 = 2 := by decide +kernel
theorem pr_Poo_4 : putRK 6 4 := Or.inl ⟨"GuardedPool$History", by decide +kernel⟩
theorem fc_Poo_5 : 6 < 7 ∧ 5 < nfd 6 := by decide +kernel
theorem ff_Poo_5 : (Tcl 6 5).2.2.2 = true := by decide +kernel
theorem fr_Poo_5 : 6 < 7 ∧ 5 < nfd 6 ∧ tyk 6 5 = 2 := by decide +kernel
theorem pr_Poo_5 : putRK 6 5 := Or.inl ⟨"GuardedPool$Text", by decide +kernel⟩
theorem fc_Poo_6 : 6 < 7 ∧ 6 < nfd 6 := by decide +kernel
theorem ff_Poo_6 : (Tcl 6 6).2.2.2 = true := by decide +kernel
theorem fr_Poo_6 : 6 < 7 ∧ 6 < nfd 6 ∧ tyk 6 6 = 2 := by decide +kernel
theorem pr_Poo_6 : putRK 6 6 := Or.inr ⟨.int, by decide +kernel⟩
theorem fc_Poo_7 : 6 < 7 ∧ 7 < nfd 6 := by decide +kernel
theorem ff_Poo_7 : (Tcl 6 7).2.2.2 = false := by decide +kernel
theorem fi_Poo_7 : 6 < 7 ∧ 7 < nfd 6 ∧ tyk 6 7 ≠ 2 := by decide +kernel
theorem pb_Poo_7 {x : Int} (h : x = 0 ∨ x = 1) : putOK 6 7 x := Or.inr ⟨by decide +kernel, by decide +kernel, h⟩
theorem fc_Poo_8 : 6 < 7 ∧ 8 < nfd 6 := by decide +kernel
theorem ff_Poo_8 : (Tcl 6 8).2.2.2 = false := by decide +kernel
theorem fi_Poo_8 : 6 < 7 ∧ 8 < nfd 6 ∧ tyk 6 8 ≠ 2 := by decide +kernel
theorem pi_Poo_8 (x : Int) : putOK 6 8 x := Or.inl (by decide +kernel)
theorem fc_Poo_9 : 6 < 7 ∧ 9 < nfd 6 := by decide +kernel
theorem ff_Poo_9 : (Tcl 6 9).2.2.2 = false := by decide +kernel
theorem fi_Poo_9 : 6 < 7 ∧ 9 < nfd 6 ∧ tyk 6 9 ≠ 2 := by decide +kernel
theorem pi_Poo_9 (x : Int) : putOK 6 9 x := Or.inl (by decide +kernel)
theorem vk_0 : vk 219 0 6 := ⟨by decide, by decide, by decide⟩
theorem R0_0_0 : R0 0 0 = some 1 := by decide
theorem R0_0_1 : R0 0 1 = some 27 := by decide
theorem R0_0_2 : R0 0 2 = some 53 := by decide
theorem R0_0_4 : R0 0 4 = some 79 := by decide
theorem R0_0_5 : R0 0 5 = some 185 := by decide
theorem R0_0_6 : R0 0 6 = some 218 := by decide
theorem vk_1 : vk 219 1 3 := ⟨by decide, by decide, by decide⟩
theorem R0_1_0 : R0 1 0 = some 2 := by decide
theorem R0_1_1 : R0 1 1 = some 19 := by decide
theorem R0_1_2 : R0 1 2 = some 20 := by decide
theorem vk_2 : vk 219 2 17 := ⟨by decide, by decide, by decide⟩
theorem vk_19 : vk 219 19 10 := ⟨by decide, by decide, by decide⟩
theorem vk_20 : vk 219 20 18 := ⟨by decide, by decide, by decide⟩
theorem vk_27 : vk 219 27 3 := ⟨by decide, by decide, by decide⟩
theorem R0_27_0 : R0 27 0 = some 28 := by decide
theorem R0_27_1 : R0 27 1 = some 45 := by decide
theorem R0_27_2 : R0 27 2 = some 46 := by decide
theorem vk_28 : vk 219 28 17 := ⟨by decide, by decide, by decide⟩
theorem vk_45 : vk 219 45 10 := ⟨by decide, by decide, by decide⟩
theorem vk_46 : vk 219 46 18 := ⟨by decide, by decide, by decide⟩
theorem vk_53 : vk 219 53 3 := ⟨by decide, by decide, by decide⟩
theorem R0_53_0 : R0 53 0 = some 54 := by decide
theorem R0_53_1 : R0 53 1 = some 71 := by decide
theorem R0_53_2 : R0 53 2 = some 72 := by decide
theorem vk_54 : vk 219 54 17 := ⟨by decide, by decide, by decide⟩
theorem vk_71 : vk 219 71 10 := ⟨by decide, by decide, by decide⟩
theorem vk_72 : vk 219 72 18 := ⟨by decide, by decide, by decide⟩
theorem vk_79 : vk 219 79 2 := ⟨by decide, by decide, by decide⟩
theorem R0_79_0 : R0 79 0 = some 80 := by decide
theorem vk_80 : vk 219 80 19 := ⟨by decide, by decide, by decide⟩
theorem vk_185 : vk 219 185 5 := ⟨by decide, by decide, by decide⟩
theorem R0_185_0 : R0 185 0 = some 186 := by decide
theorem R0_185_2 : R0 185 2 = some 187 := by decide
theorem vk_186 : vk 219 186 16 := ⟨by decide, by decide, by decide⟩
theorem vk_187 : vk 219 187 20 := ⟨by decide, by decide, by decide⟩
theorem vk_218 : vk 219 218 11 := ⟨by decide, by decide, by decide⟩
end

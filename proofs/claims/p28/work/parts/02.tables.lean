/-! tables: classes, fields, methods, links; printed by wip/whole/gen_tables.py out of the claim -/
abbrev MI : Type := MethodName × ByteArray × Nat × Option FieldType × Room
abbrev mnm (y : MI) : MethodName := y.1
abbrev mbc (y : MI) : ByteArray := y.2.1
abbrev mml (y : MI) : Nat := y.2.2.1
abbrev mrt (y : MI) : Option FieldType := y.2.2.2.1
abbrev mrm (y : MI) : Room := y.2.2.2.2
def cnm (ci : Nat) : String := match ci with
  | 0 => "GuardedPool$Block"
  | 1 => "GuardedPool$Command"
  | 2 => "GuardedPool$History"
  | 3 => "GuardedPool$State"
  | 4 => "GuardedPool$Task"
  | 5 => "GuardedPool$Text"
  | _ => "GuardedPool"
/-- fields: name, descriptor, final, kind (0 int, 1 boolean, 2 reference) -/
def ftb (ci : Nat) : List (String × String × Bool × Nat) := match ci with
  | 0 => [("begin", "I", true, 0), ("size", "I", false, 0), ("owner", "I", false, 0), ("number", "I", false, 0), ("asked", "I", false, 0), ("used", "I", false, 0)]
  | 1 => [("kind", "I", false, 0), ("first", "I", false, 0), ("second", "I", false, 0)]
  | 2 => [("states", "[LGuardedPool$State;", true, 2), ("next", "I", false, 0), ("length", "I", false, 0)]
  | 3 => [("blocks", "[LGuardedPool$Block;", true, 2), ("values", "[I", true, 2), ("tasks", "[LGuardedPool$Task;", true, 2), ("clock", "I", false, 0), ("patience", "I", false, 0), ("granted", "I", false, 0), ("splits", "I", false, 0), ("joins", "I", false, 0), ("foundBroken", "I", false, 0)]
  | 4 => [("alive", "Z", false, 1), ("limit", "I", false, 0), ("guardsBroken", "I", false, 0)]
  | 5 => [("characters", "[C", true, 2), ("length", "I", false, 0), ("commands", "[LGuardedPool$Command;", true, 2), ("commandCount", "I", false, 0), ("position", "I", false, 0), ("faulty", "Z", false, 1)]
  | _ => [("now", "LGuardedPool$State;", true, 2), ("before", "LGuardedPool$State;", true, 2), ("snapshot", "LGuardedPool$State;", true, 2), ("hasSnapshot", "Z", false, 1), ("history", "LGuardedPool$History;", true, 2), ("text", "LGuardedPool$Text;", true, 2), ("refusals", "[I", true, 2), ("hasStopped", "Z", false, 1), ("stoppedCommand", "I", false, 0), ("stoppedError", "I", false, 0)]
def nfd (ci : Nat) : Nat := match ci with
  | 0 => 6
  | 1 => 3
  | 2 => 3
  | 3 => 9
  | 4 => 3
  | 5 => 6
  | _ => 10
def Tcl (ci : Nat) : u_T := fun k => (cnm ci, ((ftb ci).getD k ("", "I", false, 0)).1, ((ftb ci).getD k ("", "I", false, 0)).2.1, ((ftb ci).getD k ("", "I", false, 0)).2.2.1)
def tyk (ci k : Nat) : Nat := ((ftb ci).getD k ("", "I", false, 0)).2.2.2
def tyc (ci : Nat) : Nat → FieldType := fun k => (parseFieldDescriptor (Tcl ci k).2.2.1).getD .int
def cls_l : List vw_C := [(cnm 0, Tcl 0, 6), (cnm 1, Tcl 1, 3), (cnm 2, Tcl 2, 3), (cnm 3, Tcl 3, 9), (cnm 4, Tcl 4, 3), (cnm 5, Tcl 5, 6), (cnm 6, Tcl 6, 10)]
theorem tyc_ok : ∀ ci, ci < 7 → ∀ k, k < nfd ci → parseFieldDescriptor (Tcl ci k).2.2.1 = some (tyc ci k) := by decide +kernel
theorem nm_ok : ∀ ci, ci < 7 → ∀ a, a < nfd ci → ∀ b, b < nfd ci → a ≠ b → (Tcl ci a).2.1 ≠ (Tcl ci b).2.1 := by decide +kernel
theorem cls_ok : ∀ ci, ci < 7 → cls_l[ci]? = some (cnm ci, Tcl ci, nfd ci) := by
  intro ci h
  match ci, h with
  | 0, _ => rfl
  | 1, _ => rfl
  | 2, _ => rfl
  | 3, _ => rfl
  | 4, _ => rfl
  | 5, _ => rfl
  | 6, _ => rfl
theorem in_raw (i : Nat) {w : Cond} (h : tables_1[i]? = some w) : w ∈ lw_tbl := List.mem_append_right _ (List.mem_of_getElem? h)
def lw_g : List Cond := lw_tbl.filter goodWord
theorem in_tbl (i : Nat) {w : Cond} (h : tables_1[i]? = some w ∧ goodWord w = true) : w ∈ lw_g := List.mem_filter.mpr ⟨List.mem_append_right _ (List.mem_of_getElem? h.1), h.2⟩
theorem in_sel (i : Nat) {w : Cond} (h : (k2_sels lw_privs)[i]? = some w ∧ goodWord w = true) : w ∈ lw_g := List.mem_filter.mpr ⟨List.mem_append_left _ (List.mem_of_getElem? h.1), h.2⟩
theorem lw_good : ∀ w ∈ lw_g, (w.onTables && w.keeps) = true ∨ ∃ ty, w = .arrayClass ty := fun w h => good_of_word (List.mem_filter.mp h).2
theorem lay_Blk : ∀ w ∈ u_ws (cnm 0) (Tcl 0) 6, w ∈ lw_g := by
  intro w hw
  obtain ⟨k, hk, rfl⟩ := List.mem_map.mp hw
  have hk := List.mem_range.mp hk
  rcases (show k = 0 ∨ k = 1 ∨ k = 2 ∨ k = 3 ∨ k = 4 ∨ k = 5 by omega) with rfl | rfl | rfl | rfl | rfl | rfl
  · exact in_tbl 43 (by decide +kernel)
  · exact in_tbl 45 (by decide +kernel)
  · exact in_tbl 47 (by decide +kernel)
  · exact in_tbl 49 (by decide +kernel)
  · exact in_tbl 51 (by decide +kernel)
  · exact in_tbl 53 (by decide +kernel)
theorem lay_Cmd : ∀ w ∈ u_ws (cnm 1) (Tcl 1) 3, w ∈ lw_g := by
  intro w hw
  obtain ⟨k, hk, rfl⟩ := List.mem_map.mp hw
  have hk := List.mem_range.mp hk
  rcases (show k = 0 ∨ k = 1 ∨ k = 2 by omega) with rfl | rfl | rfl
  · exact in_tbl 137 (by decide +kernel)
  · exact in_tbl 139 (by decide +kernel)
  · exact in_tbl 141 (by decide +kernel)
theorem lay_His : ∀ w ∈ u_ws (cnm 2) (Tcl 2) 3, w ∈ lw_g := by
  intro w hw
  obtain ⟨k, hk, rfl⟩ := List.mem_map.mp hw
  have hk := List.mem_range.mp hk
  rcases (show k = 0 ∨ k = 1 ∨ k = 2 by omega) with rfl | rfl | rfl
  · exact in_tbl 117 (by decide +kernel)
  · exact in_tbl 119 (by decide +kernel)
  · exact in_tbl 121 (by decide +kernel)
theorem lay_Sta : ∀ w ∈ u_ws (cnm 3) (Tcl 3) 9, w ∈ lw_g := by
  intro w hw
  obtain ⟨k, hk, rfl⟩ := List.mem_map.mp hw
  have hk := List.mem_range.mp hk
  rcases (show k = 0 ∨ k = 1 ∨ k = 2 ∨ k = 3 ∨ k = 4 ∨ k = 5 ∨ k = 6 ∨ k = 7 ∨ k = 8 by omega) with rfl | rfl | rfl | rfl | rfl | rfl | rfl | rfl | rfl
  · exact in_tbl 86 (by decide +kernel)
  · exact in_tbl 88 (by decide +kernel)
  · exact in_tbl 90 (by decide +kernel)
  · exact in_tbl 92 (by decide +kernel)
  · exact in_tbl 94 (by decide +kernel)
  · exact in_tbl 96 (by decide +kernel)
  · exact in_tbl 98 (by decide +kernel)
  · exact in_tbl 100 (by decide +kernel)
  · exact in_tbl 102 (by decide +kernel)
theorem lay_Tsk : ∀ w ∈ u_ws (cnm 4) (Tcl 4) 3, w ∈ lw_g := by
  intro w hw
  obtain ⟨k, hk, rfl⟩ := List.mem_map.mp hw
  have hk := List.mem_range.mp hk
  rcases (show k = 0 ∨ k = 1 ∨ k = 2 by omega) with rfl | rfl | rfl
  · exact in_tbl 69 (by decide +kernel)
  · exact in_tbl 71 (by decide +kernel)
  · exact in_tbl 73 (by decide +kernel)
theorem lay_Txt : ∀ w ∈ u_ws (cnm 5) (Tcl 5) 6, w ∈ lw_g := by
  intro w hw
  obtain ⟨k, hk, rfl⟩ := List.mem_map.mp hw
  have hk := List.mem_range.mp hk
  rcases (show k = 0 ∨ k = 1 ∨ k = 2 ∨ k = 3 ∨ k = 4 ∨ k = 5 by omega) with rfl | rfl | rfl | rfl | rfl | rfl
  · exact in_tbl 148 (by decide +kernel)
  · exact in_tbl 150 (by decide +kernel)
  · exact in_tbl 152 (by decide +kernel)
  · exact in_tbl 154 (by decide +kernel)
  · exact in_tbl 156 (by decide +kernel)
  · exact in_tbl 158 (by decide +kernel)
theorem lay_Poo : ∀ w ∈ u_ws (cnm 6) (Tcl 6) 10, w ∈ lw_g := by
  intro w hw
  obtain ⟨k, hk, rfl⟩ := List.mem_map.mp hw
  have hk := List.mem_range.mp hk
  rcases (show k = 0 ∨ k = 1 ∨ k = 2 ∨ k = 3 ∨ k = 4 ∨ k = 5 ∨ k = 6 ∨ k = 7 ∨ k = 8 ∨ k = 9 by omega) with rfl | rfl | rfl | rfl | rfl | rfl | rfl | rfl | rfl | rfl
  · exact in_tbl 167 (by decide +kernel)
  · exact in_tbl 169 (by decide +kernel)
  · exact in_tbl 171 (by decide +kernel)
  · exact in_tbl 173 (by decide +kernel)
  · exact in_tbl 175 (by decide +kernel)
  · exact in_tbl 177 (by decide +kernel)
  · exact in_tbl 179 (by decide +kernel)
  · exact in_tbl 181 (by decide +kernel)
  · exact in_tbl 183 (by decide +kernel)
  · exact in_tbl 185 (by decide +kernel)
theorem lay_ok : ∀ ci, ci < 7 → ∀ w ∈ u_ws (cnm ci) (Tcl ci) (nfd ci), w ∈ lw_g := by
  intro ci h
  match ci, h with
  | 0, _ => exact lay_Blk
  | 1, _ => exact lay_Cmd
  | 2, _ => exact lay_His
  | 3, _ => exact lay_Sta
  | 4, _ => exact lay_Tsk
  | 5, _ => exact lay_Txt
  | 6, _ => exact lay_Poo
theorem ini_Law : Cond.initialized "GuardedPoolLaw" ∈ lw_g := in_tbl 0 (by decide +kernel)
theorem ini_Poo : Cond.initialized "GuardedPool" ∈ lw_g := in_tbl 1 (by decide +kernel)
theorem ini_Sta : Cond.initialized "GuardedPool$State" ∈ lw_g := in_tbl 2 (by decide +kernel)
theorem ini_Blk : Cond.initialized "GuardedPool$Block" ∈ lw_g := in_tbl 3 (by decide +kernel)
theorem ini_Tsk : Cond.initialized "GuardedPool$Task" ∈ lw_g := in_tbl 4 (by decide +kernel)
theorem ini_His : Cond.initialized "GuardedPool$History" ∈ lw_g := in_tbl 5 (by decide +kernel)
theorem ini_Txt : Cond.initialized "GuardedPool$Text" ∈ lw_g := in_tbl 6 (by decide +kernel)
theorem ini_Cmd : Cond.initialized "GuardedPool$Command" ∈ lw_g := in_tbl 7 (by decide +kernel)
theorem ini_System : Cond.initialized "java/lang/System" ∈ lw_g := in_tbl 8 (by decide +kernel)
theorem ini_Math : Cond.initialized "java/lang/Math" ∈ lw_g := in_tbl 9 (by decide +kernel)
def mi_Poo_init : MI := (⟨"GuardedPool", "<init>", "()V"⟩, prog_1_method_1_code, 1, none, ({ frames := 4, cells := 218, slots := 1659, locals := 85 } : Room))
def mi_Sta_init : MI := (⟨"GuardedPool$State", "<init>", "()V"⟩, prog_5_method_1_code, 3, none, ({ frames := 2, cells := 25, slots := 200, locals := 42 } : Room))
def mi_Blk_init : MI := (⟨"GuardedPool$Block", "<init>", "(II)V"⟩, prog_2_method_1_code, 3, none, ({ frames := 1, cells := 0, slots := 0, locals := 20 } : Room))
def mi_Tsk_init : MI := (⟨"GuardedPool$Task", "<init>", "()V"⟩, prog_6_method_1_code, 1, none, ({ frames := 1, cells := 0, slots := 0, locals := 20 } : Room))
def mi_His_init : MI := (⟨"GuardedPool$History", "<init>", "()V"⟩, prog_4_method_1_code, 2, none, ({ frames := 3, cells := 105, slots := 840, locals := 64 } : Room))
def mi_Txt_init : MI := (⟨"GuardedPool$Text", "<init>", "()V"⟩, prog_7_method_1_code, 2, none, ({ frames := 2, cells := 32, slots := 180, locals := 40 } : Room))
def mi_Cmd_init : MI := (⟨"GuardedPool$Command", "<init>", "()V"⟩, prog_3_method_1_code, 1, none, ({ frames := 1, cells := 0, slots := 0, locals := 20 } : Room))
def mi_Poo_count : MI := (⟨"GuardedPool", "count", "(I)I"⟩, prog_1_method_26_code, 2, some .int, ({ frames := 5, cells := 0, slots := 0, locals := 112 } : Room))
def mi_His_length : MI := (⟨"GuardedPool$History", "length", "()I"⟩, prog_4_method_2_code, 1, some .int, ({ frames := 0, cells := 0, slots := 0, locals := 0 } : Room))
def mi_Txt_length : MI := (⟨"GuardedPool$Text", "length", "()I"⟩, prog_7_method_2_code, 1, some .int, ({ frames := 0, cells := 0, slots := 0, locals := 0 } : Room))
def mi_Sta_tellCount : MI := (⟨"GuardedPool$State", "tellCount", "(I)I"⟩, prog_5_method_33_code, 2, some .int, ({ frames := 4, cells := 0, slots := 0, locals := 91 } : Room))
def mi_Sta_ownedBlocks : MI := (⟨"GuardedPool$State", "ownedBlocks", "()I"⟩, prog_5_method_38_code, 3, some .int, ({ frames := 1, cells := 0, slots := 0, locals := 26 } : Room))
def mi_Sta_blocksOf : MI := (⟨"GuardedPool$State", "blocksOf", "(I)I"⟩, prog_5_method_42_code, 7, some .int, ({ frames := 0, cells := 0, slots := 0, locals := 0 } : Room))
def mi_Sta_ownedWords : MI := (⟨"GuardedPool$State", "ownedWords", "()I"⟩, prog_5_method_39_code, 3, some .int, ({ frames := 3, cells := 0, slots := 0, locals := 66 } : Room))
def mi_Sta_wordsOf : MI := (⟨"GuardedPool$State", "wordsOf", "(I)I"⟩, prog_5_method_43_code, 7, some .int, ({ frames := 2, cells := 0, slots := 0, locals := 40 } : Room))
def mi_Blk_words : MI := (⟨"GuardedPool$Block", "words", "()I"⟩, prog_2_method_4_code, 1, some .int, ({ frames := 1, cells := 0, slots := 0, locals := 20 } : Room))
def mi_Blk_wordsOf : MI := (⟨"GuardedPool$Block", "wordsOf", "(I)I"⟩, prog_2_method_2_code, 1, some .int, ({ frames := 0, cells := 0, slots := 0, locals := 0 } : Room))
def mi_Sta_askedWords : MI := (⟨"GuardedPool$State", "askedWords", "()I"⟩, prog_5_method_40_code, 3, some .int, ({ frames := 1, cells := 0, slots := 0, locals := 26 } : Room))
def mi_Sta_askedBy : MI := (⟨"GuardedPool$State", "askedBy", "(I)I"⟩, prog_5_method_44_code, 7, some .int, ({ frames := 0, cells := 0, slots := 0, locals := 0 } : Room))
def mi_Sta_leaks : MI := (⟨"GuardedPool$State", "leaks", "()I"⟩, prog_5_method_41_code, 3, some .int, ({ frames := 3, cells := 0, slots := 0, locals := 69 } : Room))
def mi_Sta_leaksOf : MI := (⟨"GuardedPool$State", "leaksOf", "(I)I"⟩, prog_5_method_45_code, 7, some .int, ({ frames := 2, cells := 0, slots := 0, locals := 43 } : Room))
def mi_Sta_isLeak : MI := (⟨"GuardedPool$State", "isLeak", "(LGuardedPool$Block;)Z"⟩, prog_5_method_28_code, 3, some .boolean, ({ frames := 1, cells := 0, slots := 0, locals := 21 } : Room))
def mi_Sta_taskOf : MI := (⟨"GuardedPool$State", "taskOf", "(I)LGuardedPool$Task;"⟩, prog_5_method_19_code, 2, some (.object "GuardedPool$Task"), ({ frames := 0, cells := 0, slots := 0, locals := 0 } : Room))
def mi_Sta_ageOf : MI := (⟨"GuardedPool$State", "ageOf", "(LGuardedPool$Block;)I"⟩, prog_5_method_27_code, 2, some .int, ({ frames := 0, cells := 0, slots := 0, locals := 0 } : Room))
def mi_Law_cell : MI := (⟨"GuardedPoolLaw", "cell", "([II)I"⟩, method_2_code, 2, some .int, ({ frames := 0, cells := 0, slots := 0, locals := 0 } : Room))
def mi_Law_low : MI := (⟨"GuardedPoolLaw", "low", "(II)I"⟩, method_3_code, 2, some .int, ({ frames := 0, cells := 0, slots := 0, locals := 0 } : Room))
def mi_Law_does : MI := (⟨"GuardedPoolLaw", "does", "(LGuardedPool;I)I"⟩, method_5_code, 5, some .int, ({ frames := 7, cells := 0, slots := 0, locals := 157 } : Room))
def mi_Law_owned : MI := (⟨"GuardedPoolLaw", "owned", "(LGuardedPool;I)I"⟩, method_4_code, 5, some .int, ({ frames := 6, cells := 0, slots := 0, locals := 133 } : Room))
def mi_Poo_word : MI := (⟨"GuardedPool", "word", "(II)I"⟩, prog_1_method_19_code, 3, some .int, ({ frames := 5, cells := 0, slots := 0, locals := 109 } : Room))
def mi_Sta_tellWord : MI := (⟨"GuardedPool$State", "tellWord", "(II)I"⟩, prog_5_method_30_code, 4, some .int, ({ frames := 4, cells := 0, slots := 0, locals := 86 } : Room))
def mi_Sta_blockAt : MI := (⟨"GuardedPool$State", "blockAt", "(I)LGuardedPool$Block;"⟩, prog_5_method_21_code, 6, some (.object "GuardedPool$Block"), ({ frames := 3, cells := 0, slots := 0, locals := 61 } : Room))
def mi_Blk_holds : MI := (⟨"GuardedPool$Block", "holds", "(I)Z"⟩, prog_2_method_7_code, 2, some .boolean, ({ frames := 2, cells := 0, slots := 0, locals := 40 } : Room))
def mi_Sta_valueAt : MI := (⟨"GuardedPool$State", "valueAt", "(I)I"⟩, prog_5_method_23_code, 2, some .int, ({ frames := 0, cells := 0, slots := 0, locals := 0 } : Room))
def mi_Blk_isOwned : MI := (⟨"GuardedPool$Block", "isOwned", "()Z"⟩, prog_2_method_5_code, 1, some .boolean, ({ frames := 0, cells := 0, slots := 0, locals := 0 } : Room))
def mi_Blk_hasGuardAt : MI := (⟨"GuardedPool$Block", "hasGuardAt", "(I)Z"⟩, prog_2_method_9_code, 2, some .boolean, ({ frames := 1, cells := 0, slots := 0, locals := 20 } : Room))
def mi_Blk_rearGuard : MI := (⟨"GuardedPool$Block", "rearGuard", "()I"⟩, prog_2_method_8_code, 1, some .int, ({ frames := 0, cells := 0, slots := 0, locals := 0 } : Room))
def mi_Poo_block : MI := (⟨"GuardedPool", "block", "(II)I"⟩, prog_1_method_18_code, 3, some .int, ({ frames := 3, cells := 0, slots := 0, locals := 68 } : Room))
def mi_Sta_tellBlock : MI := (⟨"GuardedPool$State", "tellBlock", "(II)I"⟩, prog_5_method_29_code, 4, some .int, ({ frames := 2, cells := 0, slots := 0, locals := 45 } : Room))
def mi_Sta_blockOf : MI := (⟨"GuardedPool$State", "blockOf", "(I)LGuardedPool$Block;"⟩, prog_5_method_20_code, 6, some (.object "GuardedPool$Block"), ({ frames := 1, cells := 0, slots := 0, locals := 20 } : Room))
def mi_Sta_brokenGuards : MI := (⟨"GuardedPool$State", "brokenGuards", "(LGuardedPool$Block;)I"⟩, prog_5_method_26_code, 4, some .int, ({ frames := 1, cells := 0, slots := 0, locals := 21 } : Room))
def mi_Poo_ask : MI := (⟨"GuardedPool", "ask", "(II)I"⟩, prog_1_method_2_code, 4, some .int, ({ frames := 5, cells := 0, slots := 0, locals := 117 } : Room))
def mi_Sta_copyFrom : MI := (⟨"GuardedPool$State", "copyFrom", "(LGuardedPool$State;)V"⟩, prog_5_method_2_code, 3, none, ({ frames := 1, cells := 0, slots := 0, locals := 40 } : Room))
def mi_Blk_copyFrom : MI := (⟨"GuardedPool$Block", "copyFrom", "(LGuardedPool$Block;)V"⟩, prog_2_method_3_code, 2, none, ({ frames := 0, cells := 0, slots := 0, locals := 0 } : Room))
def mi_Tsk_copyFrom : MI := (⟨"GuardedPool$Task", "copyFrom", "(LGuardedPool$Task;)V"⟩, prog_6_method_2_code, 2, none, ({ frames := 0, cells := 0, slots := 0, locals := 0 } : Room))
def mi_Sta_grant : MI := (⟨"GuardedPool$State", "grant", "(II)I"⟩, prog_5_method_3_code, 5, some .int, ({ frames := 4, cells := 0, slots := 0, locals := 93 } : Room))
def mi_Sta_whyNot : MI := (⟨"GuardedPool$State", "whyNot", "(II)I"⟩, prog_5_method_34_code, 5, some .int, ({ frames := 3, cells := 0, slots := 0, locals := 69 } : Room))
def mi_Sta_sizeFor : MI := (⟨"GuardedPool$State", "sizeFor", "(I)I"⟩, prog_5_method_12_code, 2, some .int, ({ frames := 1, cells := 0, slots := 0, locals := 20 } : Room))
def mi_Sta_roomFor : MI := (⟨"GuardedPool$State", "roomFor", "(I)LGuardedPool$Block;"⟩, prog_5_method_14_code, 4, some (.object "GuardedPool$Block"), ({ frames := 2, cells := 0, slots := 0, locals := 46 } : Room))
def mi_Sta_lowestFree : MI := (⟨"GuardedPool$State", "lowestFree", "(I)LGuardedPool$Block;"⟩, prog_5_method_13_code, 6, some (.object "GuardedPool$Block"), ({ frames := 1, cells := 0, slots := 0, locals := 21 } : Room))
def mi_Blk_isFreeOf : MI := (⟨"GuardedPool$Block", "isFreeOf", "(I)Z"⟩, prog_2_method_6_code, 2, some .boolean, ({ frames := 0, cells := 0, slots := 0, locals := 0 } : Room))
def mi_Sta_cutOut : MI := (⟨"GuardedPool$State", "cutOut", "(I)LGuardedPool$Block;"⟩, prog_5_method_15_code, 4, some (.object "GuardedPool$Block"), ({ frames := 3, cells := 0, slots := 0, locals := 69 } : Room))
def mi_Sta_halve : MI := (⟨"GuardedPool$State", "halve", "(LGuardedPool$Block;)V"⟩, prog_5_method_16_code, 3, none, ({ frames := 2, cells := 0, slots := 0, locals := 40 } : Room))
def mi_Sta_placeAt : MI := (⟨"GuardedPool$State", "placeAt", "(I)LGuardedPool$Block;"⟩, prog_5_method_22_code, 2, some (.object "GuardedPool$Block"), ({ frames := 0, cells := 0, slots := 0, locals := 0 } : Room))
def mi_Poo_countRefusal : MI := (⟨"GuardedPool", "countRefusal", "(I)V"⟩, prog_1_method_29_code, 2, none, ({ frames := 0, cells := 0, slots := 0, locals := 0 } : Room))
def mi_Poo_recorded : MI := (⟨"GuardedPool", "recorded", "(I)I"⟩, prog_1_method_28_code, 2, some .int, ({ frames := 3, cells := 0, slots := 0, locals := 83 } : Room))
def mi_His_record : MI := (⟨"GuardedPool$History", "record", "(LGuardedPool$State;)V"⟩, prog_4_method_3_code, 2, none, ({ frames := 2, cells := 0, slots := 0, locals := 62 } : Room))
def mi_Poo_giveBack : MI := (⟨"GuardedPool", "giveBack", "(II)I"⟩, prog_1_method_3_code, 3, some .int, ({ frames := 4, cells := 0, slots := 0, locals := 104 } : Room))
def mi_Sta_takeBack : MI := (⟨"GuardedPool$State", "takeBack", "(II)I"⟩, prog_5_method_4_code, 4, some .int, ({ frames := 3, cells := 0, slots := 0, locals := 70 } : Room))
def mi_Sta_free : MI := (⟨"GuardedPool$State", "free", "(LGuardedPool$Block;)I"⟩, prog_5_method_17_code, 5, some .int, ({ frames := 2, cells := 0, slots := 0, locals := 46 } : Room))
def mi_Sta_setValue : MI := (⟨"GuardedPool$State", "setValue", "(II)V"⟩, prog_5_method_24_code, 3, none, ({ frames := 0, cells := 0, slots := 0, locals := 0 } : Room))
def mi_Sta_joinTwins : MI := (⟨"GuardedPool$State", "joinTwins", "(LGuardedPool$Block;)V"⟩, prog_5_method_18_code, 6, none, ({ frames := 1, cells := 0, slots := 0, locals := 21 } : Room))
def mi_Poo_write : MI := (⟨"GuardedPool", "write", "(IIII)I"⟩, prog_1_method_4_code, 5, some .int, ({ frames := 5, cells := 0, slots := 0, locals := 115 } : Room))
def mi_Sta_put : MI := (⟨"GuardedPool$State", "put", "(IIII)I"⟩, prog_5_method_5_code, 10, some .int, ({ frames := 4, cells := 0, slots := 0, locals := 86 } : Room))
def mi_Sta_kindOfHit : MI := (⟨"GuardedPool$State", "kindOfHit", "(ILGuardedPool$Block;LGuardedPool$Block;)I"⟩, prog_5_method_25_code, 3, some .int, ({ frames := 2, cells := 0, slots := 0, locals := 41 } : Room))
def mi_Blk_wasAskedFor : MI := (⟨"GuardedPool$Block", "wasAskedFor", "(I)Z"⟩, prog_2_method_10_code, 2, some .boolean, ({ frames := 1, cells := 0, slots := 0, locals := 20 } : Room))
def mi_Poo_touch : MI := (⟨"GuardedPool", "touch", "(I)I"⟩, prog_1_method_5_code, 2, some .int, ({ frames := 4, cells := 0, slots := 0, locals := 104 } : Room))
def mi_Sta_useNow : MI := (⟨"GuardedPool$State", "useNow", "(I)I"⟩, prog_5_method_6_code, 4, some .int, ({ frames := 2, cells := 0, slots := 0, locals := 45 } : Room))
def mi_Poo_live : MI := (⟨"GuardedPool", "live", "(IZ)I"⟩, prog_1_method_6_code, 3, some .int, ({ frames := 4, cells := 0, slots := 0, locals := 104 } : Room))
def mi_Sta_makeAlive : MI := (⟨"GuardedPool$State", "makeAlive", "(IZ)I"⟩, prog_5_method_7_code, 4, some .int, ({ frames := 1, cells := 0, slots := 0, locals := 26 } : Room))
def mi_Poo_setLimit : MI := (⟨"GuardedPool", "setLimit", "(II)I"⟩, prog_1_method_7_code, 3, some .int, ({ frames := 4, cells := 0, slots := 0, locals := 104 } : Room))
def mi_Sta_changeLimit : MI := (⟨"GuardedPool$State", "changeLimit", "(II)I"⟩, prog_5_method_8_code, 5, some .int, ({ frames := 1, cells := 0, slots := 0, locals := 21 } : Room))
def mi_Poo_setPatience : MI := (⟨"GuardedPool", "setPatience", "(I)I"⟩, prog_1_method_8_code, 2, some .int, ({ frames := 4, cells := 0, slots := 0, locals := 104 } : Room))
def mi_Sta_changePatience : MI := (⟨"GuardedPool$State", "changePatience", "(I)I"⟩, prog_5_method_9_code, 3, some .int, ({ frames := 0, cells := 0, slots := 0, locals := 0 } : Room))
def mi_Poo_sweep : MI := (⟨"GuardedPool", "sweep", "()I"⟩, prog_1_method_10_code, 1, some .int, ({ frames := 4, cells := 0, slots := 0, locals := 104 } : Room))
def mi_Sta_takeLeaksBack : MI := (⟨"GuardedPool$State", "takeLeaksBack", "()I"⟩, prog_5_method_11_code, 6, some .int, ({ frames := 3, cells := 0, slots := 0, locals := 70 } : Room))
def mi_Poo_pass : MI := (⟨"GuardedPool", "pass", "(I)I"⟩, prog_1_method_9_code, 2, some .int, ({ frames := 5, cells := 0, slots := 0, locals := 113 } : Room))
def mi_Sta_advance : MI := (⟨"GuardedPool$State", "advance", "(I)I"⟩, prog_5_method_10_code, 3, some .int, ({ frames := 4, cells := 0, slots := 0, locals := 91 } : Room))
def mi_Law_arePartsSo : MI := (⟨"GuardedPoolLaw", "arePartsSo", "(LGuardedPool;)Z"⟩, method_6_code, 16, some .boolean, ({ frames := 6, cells := 0, slots := 0, locals := 133 } : Room))
def mi_Poo_task : MI := (⟨"GuardedPool", "task", "(II)I"⟩, prog_1_method_20_code, 3, some .int, ({ frames := 4, cells := 0, slots := 0, locals := 92 } : Room))
def mi_Sta_tellTask : MI := (⟨"GuardedPool$State", "tellTask", "(II)I"⟩, prog_5_method_31_code, 4, some .int, ({ frames := 3, cells := 0, slots := 0, locals := 69 } : Room))
def mi_Law_areTasksSo : MI := (⟨"GuardedPoolLaw", "areTasksSo", "(LGuardedPool;)Z"⟩, method_7_code, 9, some .boolean, ({ frames := 6, cells := 0, slots := 0, locals := 136 } : Room))
def mi_Poo_greatest : MI := (⟨"GuardedPool", "greatest", "(I)I"⟩, prog_1_method_22_code, 2, some .int, ({ frames := 5, cells := 0, slots := 0, locals := 115 } : Room))
def mi_Sta_greatestRequest : MI := (⟨"GuardedPool$State", "greatestRequest", "(I)I"⟩, prog_5_method_35_code, 3, some .int, ({ frames := 4, cells := 0, slots := 0, locals := 93 } : Room))
def mi_Poo_reason : MI := (⟨"GuardedPool", "reason", "(II)I"⟩, prog_1_method_21_code, 3, some .int, ({ frames := 4, cells := 0, slots := 0, locals := 93 } : Room))
def mi_Poo_size : MI := (⟨"GuardedPool", "size", "(II)I"⟩, prog_1_method_25_code, 3, some .int, ({ frames := 3, cells := 0, slots := 0, locals := 70 } : Room))
def mi_Sta_tellSize : MI := (⟨"GuardedPool$State", "tellSize", "(II)I"⟩, prog_5_method_32_code, 4, some .int, ({ frames := 2, cells := 0, slots := 0, locals := 47 } : Room))
def mi_Sta_blocksOfSize : MI := (⟨"GuardedPool$State", "blocksOfSize", "(IZ)I"⟩, prog_5_method_46_code, 8, some .int, ({ frames := 1, cells := 0, slots := 0, locals := 20 } : Room))
def mi_Poo_leak : MI := (⟨"GuardedPool", "leak", "(I)I"⟩, prog_1_method_23_code, 2, some .int, ({ frames := 4, cells := 0, slots := 0, locals := 95 } : Room))
def mi_Sta_leakOfRank : MI := (⟨"GuardedPool$State", "leakOfRank", "(I)I"⟩, prog_5_method_36_code, 6, some .int, ({ frames := 3, cells := 0, slots := 0, locals := 70 } : Room))
def mi_Sta_leaksAheadOf : MI := (⟨"GuardedPool$State", "leaksAheadOf", "(LGuardedPool$Block;)I"⟩, prog_5_method_37_code, 8, some .int, ({ frames := 2, cells := 0, slots := 0, locals := 43 } : Room))
def mi_Law_isAskSo : MI := (⟨"GuardedPoolLaw", "isAskSo", "(LGuardedPool;II)Z"⟩, method_8_code, 12, some .boolean, ({ frames := 6, cells := 0, slots := 0, locals := 140 } : Room))
def mi_Poo_refused : MI := (⟨"GuardedPool", "refused", "(I)I"⟩, prog_1_method_24_code, 2, some .int, ({ frames := 0, cells := 0, slots := 0, locals := 0 } : Room))
def mi_Poo_undo : MI := (⟨"GuardedPool", "undo", "()I"⟩, prog_1_method_15_code, 1, some .int, ({ frames := 3, cells := 0, slots := 0, locals := 84 } : Room))
def mi_His_takeLatest : MI := (⟨"GuardedPool$History", "takeLatest", "(LGuardedPool$State;)I"⟩, prog_4_method_4_code, 3, some .int, ({ frames := 2, cells := 0, slots := 0, locals := 62 } : Room))
def mi_Law_law : MI := (x, code, maxLocals, ret, room_1)
/-- what a method needs to be called: its code, its class begun, its parameters -/
def mOK (y : MI) (n : Nat) : Prop := Cond.code (mnm y) (mbc y) (mml y) (mrt y) ∈ lw_g ∧ plainName (mnm y).cls = true ∧ (mnm y).cls ≠ "java/lang/invoke/MethodHandle" ∧ (mnm y).cls ≠ "java/lang/invoke/VarHandle" ∧ Cond.initialized (mnm y).cls ∈ lw_g ∧ (parseMethodDescriptor (mnm y).desc).map (fun d => d.parameters.length) = some n
def mVirt (y : MI) : Prop := Cond.instanceMethod (mnm y) ∈ lw_g ∧ Cond.selects (mnm y).cls (mnm y) (mnm y) ∈ lw_g
theorem ok_Poo_init : mOK mi_Poo_init 0 := ⟨in_tbl 14 (by decide +kernel), by decide +kernel, by decide +kernel, by decide +kernel, ini_Poo, by decide +kernel⟩
theorem in_Poo_init : Cond.instanceMethod (mnm mi_Poo_init) ∈ lw_g := in_tbl 13 (by decide +kernel)
theorem ok_Sta_init : mOK mi_Sta_init 0 := ⟨in_tbl 22 (by decide +kernel), by decide +kernel, by decide +kernel, by decide +kernel, ini_Sta, by decide +kernel⟩
theorem in_Sta_init : Cond.instanceMethod (mnm mi_Sta_init) ∈ lw_g := in_tbl 21 (by decide +kernel)
theorem ok_Blk_init : mOK mi_Blk_init 2 := ⟨in_tbl 29 (by decide +kernel), by decide +kernel, by decide +kernel, by decide +kernel, ini_Blk, by decide +kernel⟩
theorem in_Blk_init : Cond.instanceMethod (mnm mi_Blk_init) ∈ lw_g := in_tbl 28 (by decide +kernel)
theorem ok_Tsk_init : mOK mi_Tsk_init 0 := ⟨in_tbl 61 (by decide +kernel), by decide +kernel, by decide +kernel, by decide +kernel, ini_Tsk, by decide +kernel⟩
theorem in_Tsk_init : Cond.instanceMethod (mnm mi_Tsk_init) ∈ lw_g := in_tbl 60 (by decide +kernel)
theorem ok_His_init : mOK mi_His_init 0 := ⟨in_tbl 109 (by decide +kernel), by decide +kernel, by decide +kernel, by decide +kernel, ini_His, by decide +kernel⟩
theorem in_His_init : Cond.instanceMethod (mnm mi_His_init) ∈ lw_g := in_tbl 108 (by decide +kernel)
theorem ok_Txt_init : mOK mi_Txt_init 0 := ⟨in_tbl 128 (by decide +kernel), by decide +kernel, by decide +kernel, by decide +kernel, ini_Txt, by decide +kernel⟩
theorem in_Txt_init : Cond.instanceMethod (mnm mi_Txt_init) ∈ lw_g := in_tbl 127 (by decide +kernel)
theorem ok_Cmd_init : mOK mi_Cmd_init 0 := ⟨in_tbl 135 (by decide +kernel), by decide +kernel, by decide +kernel, by decide +kernel, ini_Cmd, by decide +kernel⟩
theorem in_Cmd_init : Cond.instanceMethod (mnm mi_Cmd_init) ∈ lw_g := in_tbl 134 (by decide +kernel)
theorem ok_Poo_count : mOK mi_Poo_count 1 := ⟨in_tbl 191 (by decide +kernel), by decide +kernel, by decide +kernel, by decide +kernel, ini_Poo, by decide +kernel⟩
theorem vi_Poo_count : mVirt mi_Poo_count := ⟨in_tbl 189 (by decide +kernel), in_tbl 190 (by decide +kernel)⟩
theorem ok_His_length : mOK mi_His_length 0 := ⟨in_tbl 195 (by decide +kernel), by decide +kernel, by decide +kernel, by decide +kernel, ini_His, by decide +kernel⟩
theorem vi_His_length : mVirt mi_His_length := ⟨in_tbl 193 (by decide +kernel), in_tbl 194 (by decide +kernel)⟩
theorem ok_Txt_length : mOK mi_Txt_length 0 := ⟨in_tbl 199 (by decide +kernel), by decide +kernel, by decide +kernel, by decide +kernel, ini_Txt, by decide +kernel⟩
theorem vi_Txt_length : mVirt mi_Txt_length := ⟨in_tbl 197 (by decide +kernel), in_tbl 198 (by decide +kernel)⟩
theorem ok_Sta_tellCount : mOK mi_Sta_tellCount 1 := ⟨in_tbl 203 (by decide +kernel), by decide +kernel, by decide +kernel, by decide +kernel, ini_Sta, by decide +kernel⟩
theorem vi_Sta_tellCount : mVirt mi_Sta_tellCount := ⟨in_tbl 201 (by decide +kernel), in_tbl 202 (by decide +kernel)⟩
theorem ok_Sta_ownedBlocks : mOK mi_Sta_ownedBlocks 0 := ⟨in_tbl 207 (by decide +kernel), by decide +kernel, by decide +kernel, by decide +kernel, ini_Sta, by decide +kernel⟩
theorem vi_Sta_ownedBlocks : mVirt mi_Sta_ownedBlocks := ⟨in_tbl 205 (by decide +kernel), in_tbl 206 (by decide +kernel)⟩
theorem ok_Sta_blocksOf : mOK mi_Sta_blocksOf 1 := ⟨in_tbl 211 (by decide +kernel), by decide +kernel, by decide +kernel, by decide +kernel, ini_Sta, by decide +kernel⟩
theorem vi_Sta_blocksOf : mVirt mi_Sta_blocksOf := ⟨in_tbl 210 (by decide +kernel), in_sel 0 (by decide +kernel)⟩
theorem ok_Sta_ownedWords : mOK mi_Sta_ownedWords 0 := ⟨in_tbl 215 (by decide +kernel), by decide +kernel, by decide +kernel, by decide +kernel, ini_Sta, by decide +kernel⟩
theorem vi_Sta_ownedWords : mVirt mi_Sta_ownedWords := ⟨in_tbl 214 (by decide +kernel), in_sel 1 (by decide +kernel)⟩
theorem ok_Sta_wordsOf : mOK mi_Sta_wordsOf 1 := ⟨in_tbl 219 (by decide +kernel), by decide +kernel, by decide +kernel, by decide +kernel, ini_Sta, by decide +kernel⟩
theorem vi_Sta_wordsOf : mVirt mi_Sta_wordsOf := ⟨in_tbl 218 (by decide +kernel), in_sel 2 (by decide +kernel)⟩
theorem ok_Blk_words : mOK mi_Blk_words 0 := ⟨in_tbl 223 (by decide +kernel), by decide +kernel, by decide +kernel, by decide +kernel, ini_Blk, by decide +kernel⟩
theorem vi_Blk_words : mVirt mi_Blk_words := ⟨in_tbl 221 (by decide +kernel), in_tbl 222 (by decide +kernel)⟩
theorem ok_Blk_wordsOf : mOK mi_Blk_wordsOf 1 := ⟨in_tbl 226 (by decide +kernel), by decide +kernel, by decide +kernel, by decide +kernel, ini_Blk, by decide +kernel⟩
theorem st_Blk_wordsOf : Cond.static (mnm mi_Blk_wordsOf) ∈ lw_g := in_tbl 225 (by decide +kernel)
theorem ok_Sta_askedWords : mOK mi_Sta_askedWords 0 := ⟨in_tbl 230 (by decide +kernel), by decide +kernel, by decide +kernel, by decide +kernel, ini_Sta, by decide +kernel⟩
theorem vi_Sta_askedWords : mVirt mi_Sta_askedWords := ⟨in_tbl 229 (by decide +kernel), in_sel 3 (by decide +kernel)⟩
theorem ok_Sta_askedBy : mOK mi_Sta_askedBy 1 := ⟨in_tbl 234 (by decide +kernel), by decide +kernel, by decide +kernel, by decide +kernel, ini_Sta, by decide +kernel⟩
theorem vi_Sta_askedBy : mVirt mi_Sta_askedBy := ⟨in_tbl 233 (by decide +kernel), in_sel 4 (by decide +kernel)⟩
theorem ok_Sta_leaks : mOK mi_Sta_leaks 0 := ⟨in_tbl 238 (by decide +kernel), by decide +kernel, by decide +kernel, by decide +kernel, ini_Sta, by decide +kernel⟩
theorem vi_Sta_leaks : mVirt mi_Sta_leaks := ⟨in_tbl 237 (by decide +kernel), in_sel 5 (by decide +kernel)⟩
theorem ok_Sta_leaksOf : mOK mi_Sta_leaksOf 1 := ⟨in_tbl 242 (by decide +kernel), by decide +kernel, by decide +kernel, by decide +kernel, ini_Sta, by decide +kernel⟩
theorem vi_Sta_leaksOf : mVirt mi_Sta_leaksOf := ⟨in_tbl 241 (by decide +kernel), in_sel 6 (by decide +kernel)⟩
theorem ok_Sta_isLeak : mOK mi_Sta_isLeak 1 := ⟨in_tbl 246 (by decide +kernel), by decide +kernel, by decide +kernel, by decide +kernel, ini_Sta, by decide +kernel⟩
theorem vi_Sta_isLeak : mVirt mi_Sta_isLeak := ⟨in_tbl 245 (by decide +kernel), in_sel 7 (by decide +kernel)⟩
theorem ok_Sta_taskOf : mOK mi_Sta_taskOf 1 := ⟨in_tbl 250 (by decide +kernel), by decide +kernel, by decide +kernel, by decide +kernel, ini_Sta, by decide +kernel⟩
theorem vi_Sta_taskOf : mVirt mi_Sta_taskOf := ⟨in_tbl 249 (by decide +kernel), in_sel 8 (by decide +kernel)⟩
theorem ok_Sta_ageOf : mOK mi_Sta_ageOf 1 := ⟨in_tbl 254 (by decide +kernel), by decide +kernel, by decide +kernel, by decide +kernel, ini_Sta, by decide +kernel⟩
theorem vi_Sta_ageOf : mVirt mi_Sta_ageOf := ⟨in_tbl 253 (by decide +kernel), in_sel 9 (by decide +kernel)⟩
theorem ok_Law_cell : mOK mi_Law_cell 2 := ⟨in_tbl 257 (by decide +kernel), by decide +kernel, by decide +kernel, by decide +kernel, ini_Law, by decide +kernel⟩
theorem st_Law_cell : Cond.static (mnm mi_Law_cell) ∈ lw_g := in_tbl 256 (by decide +kernel)
theorem ok_Law_low : mOK mi_Law_low 2 := ⟨in_tbl 260 (by decide +kernel), by decide +kernel, by decide +kernel, by decide +kernel, ini_Law, by decide +kernel⟩
theorem st_Law_low : Cond.static (mnm mi_Law_low) ∈ lw_g := in_tbl 259 (by decide +kernel)
theorem ok_Law_does : mOK mi_Law_does 2 := ⟨in_tbl 264 (by decide +kernel), by decide +kernel, by decide +kernel, by decide +kernel, ini_Law, by decide +kernel⟩
theorem st_Law_does : Cond.static (mnm mi_Law_does) ∈ lw_g := in_tbl 263 (by decide +kernel)
theorem ok_Law_owned : mOK mi_Law_owned 2 := ⟨in_tbl 267 (by decide +kernel), by decide +kernel, by decide +kernel, by decide +kernel, ini_Law, by decide +kernel⟩
theorem st_Law_owned : Cond.static (mnm mi_Law_owned) ∈ lw_g := in_tbl 266 (by decide +kernel)
theorem ok_Poo_word : mOK mi_Poo_word 2 := ⟨in_tbl 271 (by decide +kernel), by decide +kernel, by decide +kernel, by decide +kernel, ini_Poo, by decide +kernel⟩
theorem vi_Poo_word : mVirt mi_Poo_word := ⟨in_tbl 269 (by decide +kernel), in_tbl 270 (by decide +kernel)⟩
theorem ok_Sta_tellWord : mOK mi_Sta_tellWord 2 := ⟨in_tbl 275 (by decide +kernel), by decide +kernel, by decide +kernel, by decide +kernel, ini_Sta, by decide +kernel⟩
theorem vi_Sta_tellWord : mVirt mi_Sta_tellWord := ⟨in_tbl 273 (by decide +kernel), in_tbl 274 (by decide +kernel)⟩
theorem ok_Sta_blockAt : mOK mi_Sta_blockAt 1 := ⟨in_tbl 279 (by decide +kernel), by decide +kernel, by decide +kernel, by decide +kernel, ini_Sta, by decide +kernel⟩
theorem vi_Sta_blockAt : mVirt mi_Sta_blockAt := ⟨in_tbl 278 (by decide +kernel), in_sel 10 (by decide +kernel)⟩
theorem ok_Blk_holds : mOK mi_Blk_holds 1 := ⟨in_tbl 283 (by decide +kernel), by decide +kernel, by decide +kernel, by decide +kernel, ini_Blk, by decide +kernel⟩
theorem vi_Blk_holds : mVirt mi_Blk_holds := ⟨in_tbl 281 (by decide +kernel), in_tbl 282 (by decide +kernel)⟩
theorem ok_Sta_valueAt : mOK mi_Sta_valueAt 1 := ⟨in_tbl 288 (by decide +kernel), by decide +kernel, by decide +kernel, by decide +kernel, ini_Sta, by decide +kernel⟩
theorem vi_Sta_valueAt : mVirt mi_Sta_valueAt := ⟨in_tbl 287 (by decide +kernel), in_sel 11 (by decide +kernel)⟩
theorem ok_Blk_isOwned : mOK mi_Blk_isOwned 0 := ⟨in_tbl 292 (by decide +kernel), by decide +kernel, by decide +kernel, by decide +kernel, ini_Blk, by decide +kernel⟩
theorem vi_Blk_isOwned : mVirt mi_Blk_isOwned := ⟨in_tbl 290 (by decide +kernel), in_tbl 291 (by decide +kernel)⟩
theorem ok_Blk_hasGuardAt : mOK mi_Blk_hasGuardAt 1 := ⟨in_tbl 296 (by decide +kernel), by decide +kernel, by decide +kernel, by decide +kernel, ini_Blk, by decide +kernel⟩
theorem vi_Blk_hasGuardAt : mVirt mi_Blk_hasGuardAt := ⟨in_tbl 294 (by decide +kernel), in_tbl 295 (by decide +kernel)⟩
theorem ok_Blk_rearGuard : mOK mi_Blk_rearGuard 0 := ⟨in_tbl 301 (by decide +kernel), by decide +kernel, by decide +kernel, by decide +kernel, ini_Blk, by decide +kernel⟩
theorem vi_Blk_rearGuard : mVirt mi_Blk_rearGuard := ⟨in_tbl 299 (by decide +kernel), in_tbl 300 (by decide +kernel)⟩
theorem ok_Poo_block : mOK mi_Poo_block 2 := ⟨in_tbl 305 (by decide +kernel), by decide +kernel, by decide +kernel, by decide +kernel, ini_Poo, by decide +kernel⟩
theorem vi_Poo_block : mVirt mi_Poo_block := ⟨in_tbl 303 (by decide +kernel), in_tbl 304 (by decide +kernel)⟩
theorem ok_Sta_tellBlock : mOK mi_Sta_tellBlock 2 := ⟨in_tbl 309 (by decide +kernel), by decide +kernel, by decide +kernel, by decide +kernel, ini_Sta, by decide +kernel⟩
theorem vi_Sta_tellBlock : mVirt mi_Sta_tellBlock := ⟨in_tbl 307 (by decide +kernel), in_tbl 308 (by decide +kernel)⟩
theorem ok_Sta_blockOf : mOK mi_Sta_blockOf 1 := ⟨in_tbl 313 (by decide +kernel), by decide +kernel, by decide +kernel, by decide +kernel, ini_Sta, by decide +kernel⟩
theorem vi_Sta_blockOf : mVirt mi_Sta_blockOf := ⟨in_tbl 312 (by decide +kernel), in_sel 12 (by decide +kernel)⟩
theorem ok_Sta_brokenGuards : mOK mi_Sta_brokenGuards 1 := ⟨in_tbl 317 (by decide +kernel), by decide +kernel, by decide +kernel, by decide +kernel, ini_Sta, by decide +kernel⟩
theorem vi_Sta_brokenGuards : mVirt mi_Sta_brokenGuards := ⟨in_tbl 316 (by decide +kernel), in_sel 13 (by decide +kernel)⟩
theorem ok_Poo_ask : mOK mi_Poo_ask 2 := ⟨in_tbl 322 (by decide +kernel), by decide +kernel, by decide +kernel, by decide +kernel, ini_Poo, by decide +kernel⟩
theorem vi_Poo_ask : mVirt mi_Poo_ask := ⟨in_tbl 320 (by decide +kernel), in_tbl 321 (by decide +kernel)⟩
theorem ok_Sta_copyFrom : mOK mi_Sta_copyFrom 1 := ⟨in_tbl 326 (by decide +kernel), by decide +kernel, by decide +kernel, by decide +kernel, ini_Sta, by decide +kernel⟩
theorem vi_Sta_copyFrom : mVirt mi_Sta_copyFrom := ⟨in_tbl 324 (by decide +kernel), in_tbl 325 (by decide +kernel)⟩
theorem ok_Blk_copyFrom : mOK mi_Blk_copyFrom 1 := ⟨in_tbl 330 (by decide +kernel), by decide +kernel, by decide +kernel, by decide +kernel, ini_Blk, by decide +kernel⟩
theorem vi_Blk_copyFrom : mVirt mi_Blk_copyFrom := ⟨in_tbl 328 (by decide +kernel), in_tbl 329 (by decide +kernel)⟩
theorem ok_Tsk_copyFrom : mOK mi_Tsk_copyFrom 1 := ⟨in_tbl 337 (by decide +kernel), by decide +kernel, by decide +kernel, by decide +kernel, ini_Tsk, by decide +kernel⟩
theorem vi_Tsk_copyFrom : mVirt mi_Tsk_copyFrom := ⟨in_tbl 335 (by decide +kernel), in_tbl 336 (by decide +kernel)⟩
theorem ok_Sta_grant : mOK mi_Sta_grant 2 := ⟨in_tbl 341 (by decide +kernel), by decide +kernel, by decide +kernel, by decide +kernel, ini_Sta, by decide +kernel⟩
theorem vi_Sta_grant : mVirt mi_Sta_grant := ⟨in_tbl 339 (by decide +kernel), in_tbl 340 (by decide +kernel)⟩
theorem ok_Sta_whyNot : mOK mi_Sta_whyNot 2 := ⟨in_tbl 345 (by decide +kernel), by decide +kernel, by decide +kernel, by decide +kernel, ini_Sta, by decide +kernel⟩
theorem vi_Sta_whyNot : mVirt mi_Sta_whyNot := ⟨in_tbl 343 (by decide +kernel), in_tbl 344 (by decide +kernel)⟩
theorem ok_Sta_sizeFor : mOK mi_Sta_sizeFor 1 := ⟨in_tbl 348 (by decide +kernel), by decide +kernel, by decide +kernel, by decide +kernel, ini_Sta, by decide +kernel⟩
theorem st_Sta_sizeFor : Cond.static (mnm mi_Sta_sizeFor) ∈ lw_g := in_tbl 347 (by decide +kernel)
theorem ok_Sta_roomFor : mOK mi_Sta_roomFor 1 := ⟨in_tbl 353 (by decide +kernel), by decide +kernel, by decide +kernel, by decide +kernel, ini_Sta, by decide +kernel⟩
theorem vi_Sta_roomFor : mVirt mi_Sta_roomFor := ⟨in_tbl 352 (by decide +kernel), in_sel 14 (by decide +kernel)⟩
theorem ok_Sta_lowestFree : mOK mi_Sta_lowestFree 1 := ⟨in_tbl 357 (by decide +kernel), by decide +kernel, by decide +kernel, by decide +kernel, ini_Sta, by decide +kernel⟩
theorem vi_Sta_lowestFree : mVirt mi_Sta_lowestFree := ⟨in_tbl 356 (by decide +kernel), in_sel 15 (by decide +kernel)⟩
theorem ok_Blk_isFreeOf : mOK mi_Blk_isFreeOf 1 := ⟨in_tbl 361 (by decide +kernel), by decide +kernel, by decide +kernel, by decide +kernel, ini_Blk, by decide +kernel⟩
theorem vi_Blk_isFreeOf : mVirt mi_Blk_isFreeOf := ⟨in_tbl 359 (by decide +kernel), in_tbl 360 (by decide +kernel)⟩
theorem ok_Sta_cutOut : mOK mi_Sta_cutOut 1 := ⟨in_tbl 365 (by decide +kernel), by decide +kernel, by decide +kernel, by decide +kernel, ini_Sta, by decide +kernel⟩
theorem vi_Sta_cutOut : mVirt mi_Sta_cutOut := ⟨in_tbl 364 (by decide +kernel), in_sel 16 (by decide +kernel)⟩
theorem ok_Sta_halve : mOK mi_Sta_halve 1 := ⟨in_tbl 369 (by decide +kernel), by decide +kernel, by decide +kernel, by decide +kernel, ini_Sta, by decide +kernel⟩
theorem vi_Sta_halve : mVirt mi_Sta_halve := ⟨in_tbl 368 (by decide +kernel), in_sel 17 (by decide +kernel)⟩
theorem ok_Sta_placeAt : mOK mi_Sta_placeAt 1 := ⟨in_tbl 373 (by decide +kernel), by decide +kernel, by decide +kernel, by decide +kernel, ini_Sta, by decide +kernel⟩
theorem vi_Sta_placeAt : mVirt mi_Sta_placeAt := ⟨in_tbl 372 (by decide +kernel), in_sel 18 (by decide +kernel)⟩
theorem ok_Poo_countRefusal : mOK mi_Poo_countRefusal 1 := ⟨in_tbl 378 (by decide +kernel), by decide +kernel, by decide +kernel, by decide +kernel, ini_Poo, by decide +kernel⟩
theorem vi_Poo_countRefusal : mVirt mi_Poo_countRefusal := ⟨in_tbl 377 (by decide +kernel), in_sel 19 (by decide +kernel)⟩
theorem ok_Poo_recorded : mOK mi_Poo_recorded 1 := ⟨in_tbl 382 (by decide +kernel), by decide +kernel, by decide +kernel, by decide +kernel, ini_Poo, by decide +kernel⟩
theorem vi_Poo_recorded : mVirt mi_Poo_recorded := ⟨in_tbl 381 (by decide +kernel), in_sel 20 (by decide +kernel)⟩
theorem ok_His_record : mOK mi_His_record 1 := ⟨in_tbl 386 (by decide +kernel), by decide +kernel, by decide +kernel, by decide +kernel, ini_His, by decide +kernel⟩
theorem vi_His_record : mVirt mi_His_record := ⟨in_tbl 384 (by decide +kernel), in_tbl 385 (by decide +kernel)⟩
theorem ok_Poo_giveBack : mOK mi_Poo_giveBack 2 := ⟨in_tbl 394 (by decide +kernel), by decide +kernel, by decide +kernel, by decide +kernel, ini_Poo, by decide +kernel⟩
theorem vi_Poo_giveBack : mVirt mi_Poo_giveBack := ⟨in_tbl 392 (by decide +kernel), in_tbl 393 (by decide +kernel)⟩
theorem ok_Sta_takeBack : mOK mi_Sta_takeBack 2 := ⟨in_tbl 398 (by decide +kernel), by decide +kernel, by decide +kernel, by decide +kernel, ini_Sta, by decide +kernel⟩
theorem vi_Sta_takeBack : mVirt mi_Sta_takeBack := ⟨in_tbl 396 (by decide +kernel), in_tbl 397 (by decide +kernel)⟩
theorem ok_Sta_free : mOK mi_Sta_free 1 := ⟨in_tbl 402 (by decide +kernel), by decide +kernel, by decide +kernel, by decide +kernel, ini_Sta, by decide +kernel⟩
theorem vi_Sta_free : mVirt mi_Sta_free := ⟨in_tbl 401 (by decide +kernel), in_sel 21 (by decide +kernel)⟩
theorem ok_Sta_setValue : mOK mi_Sta_setValue 2 := ⟨in_tbl 406 (by decide +kernel), by decide +kernel, by decide +kernel, by decide +kernel, ini_Sta, by decide +kernel⟩
theorem vi_Sta_setValue : mVirt mi_Sta_setValue := ⟨in_tbl 405 (by decide +kernel), in_sel 22 (by decide +kernel)⟩
theorem ok_Sta_joinTwins : mOK mi_Sta_joinTwins 1 := ⟨in_tbl 410 (by decide +kernel), by decide +kernel, by decide +kernel, by decide +kernel, ini_Sta, by decide +kernel⟩
theorem vi_Sta_joinTwins : mVirt mi_Sta_joinTwins := ⟨in_tbl 409 (by decide +kernel), in_sel 23 (by decide +kernel)⟩
theorem ok_Poo_write : mOK mi_Poo_write 4 := ⟨in_tbl 414 (by decide +kernel), by decide +kernel, by decide +kernel, by decide +kernel, ini_Poo, by decide +kernel⟩
theorem vi_Poo_write : mVirt mi_Poo_write := ⟨in_tbl 412 (by decide +kernel), in_tbl 413 (by decide +kernel)⟩
theorem ok_Sta_put : mOK mi_Sta_put 4 := ⟨in_tbl 418 (by decide +kernel), by decide +kernel, by decide +kernel, by decide +kernel, ini_Sta, by decide +kernel⟩
theorem vi_Sta_put : mVirt mi_Sta_put := ⟨in_tbl 416 (by decide +kernel), in_tbl 417 (by decide +kernel)⟩
theorem ok_Sta_kindOfHit : mOK mi_Sta_kindOfHit 3 := ⟨in_tbl 421 (by decide +kernel), by decide +kernel, by decide +kernel, by decide +kernel, ini_Sta, by decide +kernel⟩
theorem st_Sta_kindOfHit : Cond.static (mnm mi_Sta_kindOfHit) ∈ lw_g := in_tbl 420 (by decide +kernel)
theorem ok_Blk_wasAskedFor : mOK mi_Blk_wasAskedFor 1 := ⟨in_tbl 425 (by decide +kernel), by decide +kernel, by decide +kernel, by decide +kernel, ini_Blk, by decide +kernel⟩
theorem vi_Blk_wasAskedFor : mVirt mi_Blk_wasAskedFor := ⟨in_tbl 423 (by decide +kernel), in_tbl 424 (by decide +kernel)⟩
theorem ok_Poo_touch : mOK mi_Poo_touch 1 := ⟨in_tbl 429 (by decide +kernel), by decide +kernel, by decide +kernel, by decide +kernel, ini_Poo, by decide +kernel⟩
theorem vi_Poo_touch : mVirt mi_Poo_touch := ⟨in_tbl 427 (by decide +kernel), in_tbl 428 (by decide +kernel)⟩
theorem ok_Sta_useNow : mOK mi_Sta_useNow 1 := ⟨in_tbl 433 (by decide +kernel), by decide +kernel, by decide +kernel, by decide +kernel, ini_Sta, by decide +kernel⟩
theorem vi_Sta_useNow : mVirt mi_Sta_useNow := ⟨in_tbl 431 (by decide +kernel), in_tbl 432 (by decide +kernel)⟩
theorem ok_Poo_live : mOK mi_Poo_live 2 := ⟨in_tbl 437 (by decide +kernel), by decide +kernel, by decide +kernel, by decide +kernel, ini_Poo, by decide +kernel⟩
theorem vi_Poo_live : mVirt mi_Poo_live := ⟨in_tbl 435 (by decide +kernel), in_tbl 436 (by decide +kernel)⟩
theorem ok_Sta_makeAlive : mOK mi_Sta_makeAlive 2 := ⟨in_tbl 441 (by decide +kernel), by decide +kernel, by decide +kernel, by decide +kernel, ini_Sta, by decide +kernel⟩
theorem vi_Sta_makeAlive : mVirt mi_Sta_makeAlive := ⟨in_tbl 439 (by decide +kernel), in_tbl 440 (by decide +kernel)⟩
theorem ok_Poo_setLimit : mOK mi_Poo_setLimit 2 := ⟨in_tbl 445 (by decide +kernel), by decide +kernel, by decide +kernel, by decide +kernel, ini_Poo, by decide +kernel⟩
theorem vi_Poo_setLimit : mVirt mi_Poo_setLimit := ⟨in_tbl 443 (by decide +kernel), in_tbl 444 (by decide +kernel)⟩
theorem ok_Sta_changeLimit : mOK mi_Sta_changeLimit 2 := ⟨in_tbl 449 (by decide +kernel), by decide +kernel, by decide +kernel, by decide +kernel, ini_Sta, by decide +kernel⟩
theorem vi_Sta_changeLimit : mVirt mi_Sta_changeLimit := ⟨in_tbl 447 (by decide +kernel), in_tbl 448 (by decide +kernel)⟩
theorem ok_Poo_setPatience : mOK mi_Poo_setPatience 1 := ⟨in_tbl 453 (by decide +kernel), by decide +kernel, by decide +kernel, by decide +kernel, ini_Poo, by decide +kernel⟩
theorem vi_Poo_setPatience : mVirt mi_Poo_setPatience := ⟨in_tbl 451 (by decide +kernel), in_tbl 452 (by decide +kernel)⟩
theorem ok_Sta_changePatience : mOK mi_Sta_changePatience 1 := ⟨in_tbl 457 (by decide +kernel), by decide +kernel, by decide +kernel, by decide +kernel, ini_Sta, by decide +kernel⟩
theorem vi_Sta_changePatience : mVirt mi_Sta_changePatience := ⟨in_tbl 455 (by decide +kernel), in_tbl 456 (by decide +kernel)⟩
theorem ok_Poo_sweep : mOK mi_Poo_sweep 0 := ⟨in_tbl 461 (by decide +kernel), by decide +kernel, by decide +kernel, by decide +kernel, ini_Poo, by decide +kernel⟩
theorem vi_Poo_sweep : mVirt mi_Poo_sweep := ⟨in_tbl 459 (by decide +kernel), in_tbl 460 (by decide +kernel)⟩
theorem ok_Sta_takeLeaksBack : mOK mi_Sta_takeLeaksBack 0 := ⟨in_tbl 465 (by decide +kernel), by decide +kernel, by decide +kernel, by decide +kernel, ini_Sta, by decide +kernel⟩
theorem vi_Sta_takeLeaksBack : mVirt mi_Sta_takeLeaksBack := ⟨in_tbl 463 (by decide +kernel), in_tbl 464 (by decide +kernel)⟩
theorem ok_Poo_pass : mOK mi_Poo_pass 1 := ⟨in_tbl 469 (by decide +kernel), by decide +kernel, by decide +kernel, by decide +kernel, ini_Poo, by decide +kernel⟩
theorem vi_Poo_pass : mVirt mi_Poo_pass := ⟨in_tbl 467 (by decide +kernel), in_tbl 468 (by decide +kernel)⟩
theorem ok_Sta_advance : mOK mi_Sta_advance 1 := ⟨in_tbl 473 (by decide +kernel), by decide +kernel, by decide +kernel, by decide +kernel, ini_Sta, by decide +kernel⟩
theorem vi_Sta_advance : mVirt mi_Sta_advance := ⟨in_tbl 471 (by decide +kernel), in_tbl 472 (by decide +kernel)⟩
theorem ok_Law_arePartsSo : mOK mi_Law_arePartsSo 1 := ⟨in_tbl 476 (by decide +kernel), by decide +kernel, by decide +kernel, by decide +kernel, ini_Law, by decide +kernel⟩
theorem st_Law_arePartsSo : Cond.static (mnm mi_Law_arePartsSo) ∈ lw_g := in_tbl 475 (by decide +kernel)
theorem ok_Poo_task : mOK mi_Poo_task 2 := ⟨in_tbl 480 (by decide +kernel), by decide +kernel, by decide +kernel, by decide +kernel, ini_Poo, by decide +kernel⟩
theorem vi_Poo_task : mVirt mi_Poo_task := ⟨in_tbl 478 (by decide +kernel), in_tbl 479 (by decide +kernel)⟩
theorem ok_Sta_tellTask : mOK mi_Sta_tellTask 2 := ⟨in_tbl 484 (by decide +kernel), by decide +kernel, by decide +kernel, by decide +kernel, ini_Sta, by decide +kernel⟩
theorem vi_Sta_tellTask : mVirt mi_Sta_tellTask := ⟨in_tbl 482 (by decide +kernel), in_tbl 483 (by decide +kernel)⟩
theorem ok_Law_areTasksSo : mOK mi_Law_areTasksSo 1 := ⟨in_tbl 487 (by decide +kernel), by decide +kernel, by decide +kernel, by decide +kernel, ini_Law, by decide +kernel⟩
theorem st_Law_areTasksSo : Cond.static (mnm mi_Law_areTasksSo) ∈ lw_g := in_tbl 486 (by decide +kernel)
theorem ok_Poo_greatest : mOK mi_Poo_greatest 1 := ⟨in_tbl 491 (by decide +kernel), by decide +kernel, by decide +kernel, by decide +kernel, ini_Poo, by decide +kernel⟩
theorem vi_Poo_greatest : mVirt mi_Poo_greatest := ⟨in_tbl 489 (by decide +kernel), in_tbl 490 (by decide +kernel)⟩
theorem ok_Sta_greatestRequest : mOK mi_Sta_greatestRequest 1 := ⟨in_tbl 495 (by decide +kernel), by decide +kernel, by decide +kernel, by decide +kernel, ini_Sta, by decide +kernel⟩
theorem vi_Sta_greatestRequest : mVirt mi_Sta_greatestRequest := ⟨in_tbl 493 (by decide +kernel), in_tbl 494 (by decide +kernel)⟩
theorem ok_Poo_reason : mOK mi_Poo_reason 2 := ⟨in_tbl 499 (by decide +kernel), by decide +kernel, by decide +kernel, by decide +kernel, ini_Poo, by decide +kernel⟩
theorem vi_Poo_reason : mVirt mi_Poo_reason := ⟨in_tbl 497 (by decide +kernel), in_tbl 498 (by decide +kernel)⟩
theorem ok_Poo_size : mOK mi_Poo_size 2 := ⟨in_tbl 503 (by decide +kernel), by decide +kernel, by decide +kernel, by decide +kernel, ini_Poo, by decide +kernel⟩
theorem vi_Poo_size : mVirt mi_Poo_size := ⟨in_tbl 501 (by decide +kernel), in_tbl 502 (by decide +kernel)⟩
theorem ok_Sta_tellSize : mOK mi_Sta_tellSize 2 := ⟨in_tbl 507 (by decide +kernel), by decide +kernel, by decide +kernel, by decide +kernel, ini_Sta, by decide +kernel⟩
theorem vi_Sta_tellSize : mVirt mi_Sta_tellSize := ⟨in_tbl 505 (by decide +kernel), in_tbl 506 (by decide +kernel)⟩
theorem ok_Sta_blocksOfSize : mOK mi_Sta_blocksOfSize 2 := ⟨in_tbl 511 (by decide +kernel), by decide +kernel, by decide +kernel, by decide +kernel, ini_Sta, by decide +kernel⟩
theorem vi_Sta_blocksOfSize : mVirt mi_Sta_blocksOfSize := ⟨in_tbl 510 (by decide +kernel), in_sel 24 (by decide +kernel)⟩
theorem ok_Poo_leak : mOK mi_Poo_leak 1 := ⟨in_tbl 515 (by decide +kernel), by decide +kernel, by decide +kernel, by decide +kernel, ini_Poo, by decide +kernel⟩
theorem vi_Poo_leak : mVirt mi_Poo_leak := ⟨in_tbl 513 (by decide +kernel), in_tbl 514 (by decide +kernel)⟩
theorem ok_Sta_leakOfRank : mOK mi_Sta_leakOfRank 1 := ⟨in_tbl 519 (by decide +kernel), by decide +kernel, by decide +kernel, by decide +kernel, ini_Sta, by decide +kernel⟩
theorem vi_Sta_leakOfRank : mVirt mi_Sta_leakOfRank := ⟨in_tbl 517 (by decide +kernel), in_tbl 518 (by decide +kernel)⟩
theorem ok_Sta_leaksAheadOf : mOK mi_Sta_leaksAheadOf 1 := ⟨in_tbl 523 (by decide +kernel), by decide +kernel, by decide +kernel, by decide +kernel, ini_Sta, by decide +kernel⟩
theorem vi_Sta_leaksAheadOf : mVirt mi_Sta_leaksAheadOf := ⟨in_tbl 522 (by decide +kernel), in_sel 25 (by decide +kernel)⟩
theorem ok_Law_isAskSo : mOK mi_Law_isAskSo 3 := ⟨in_tbl 526 (by decide +kernel), by decide +kernel, by decide +kernel, by decide +kernel, ini_Law, by decide +kernel⟩
theorem st_Law_isAskSo : Cond.static (mnm mi_Law_isAskSo) ∈ lw_g := in_tbl 525 (by decide +kernel)
theorem ok_Poo_refused : mOK mi_Poo_refused 1 := ⟨in_tbl 530 (by decide +kernel), by decide +kernel, by decide +kernel, by decide +kernel, ini_Poo, by decide +kernel⟩
theorem vi_Poo_refused : mVirt mi_Poo_refused := ⟨in_tbl 528 (by decide +kernel), in_tbl 529 (by decide +kernel)⟩
theorem ok_Poo_undo : mOK mi_Poo_undo 0 := ⟨in_tbl 534 (by decide +kernel), by decide +kernel, by decide +kernel, by decide +kernel, ini_Poo, by decide +kernel⟩
theorem vi_Poo_undo : mVirt mi_Poo_undo := ⟨in_tbl 532 (by decide +kernel), in_tbl 533 (by decide +kernel)⟩
theorem ok_His_takeLatest : mOK mi_His_takeLatest 1 := ⟨in_tbl 538 (by decide +kernel), by decide +kernel, by decide +kernel, by decide +kernel, ini_His, by decide +kernel⟩
theorem vi_His_takeLatest : mVirt mi_His_takeLatest := ⟨in_tbl 536 (by decide +kernel), in_tbl 537 (by decide +kernel)⟩
theorem ml_Law_81 : Cond.methodLink "GuardedPoolLaw" 81 (mnm mi_Poo_init) ∈ lw_g := in_tbl 12 (by decide +kernel)
theorem ml_Poo_1 : Cond.methodLink "GuardedPool" 1 Lib.objectInit ∈ lw_g := in_tbl 15 (by decide +kernel)
theorem ml_Poo_9 : Cond.methodLink "GuardedPool" 9 (mnm mi_Sta_init) ∈ lw_g := in_tbl 20 (by decide +kernel)
theorem ml_Sta_3 : Cond.methodLink "GuardedPool$State" 3 Lib.objectInit ∈ lw_g := in_tbl 23 (by decide +kernel)
theorem ml_Sta_17 : Cond.methodLink "GuardedPool$State" 17 (mnm mi_Blk_init) ∈ lw_g := in_tbl 27 (by decide +kernel)
theorem ml_Blk_3 : Cond.methodLink "GuardedPool$Block" 3 Lib.objectInit ∈ lw_g := in_tbl 30 (by decide +kernel)
theorem ml_Sta_30 : Cond.methodLink "GuardedPool$State" 30 (mnm mi_Tsk_init) ∈ lw_g := in_tbl 59 (by decide +kernel)
theorem ml_Tsk_3 : Cond.methodLink "GuardedPool$Task" 3 Lib.objectInit ∈ lw_g := in_tbl 62 (by decide +kernel)
theorem ml_Poo_24 : Cond.methodLink "GuardedPool" 24 (mnm mi_His_init) ∈ lw_g := in_tbl 107 (by decide +kernel)
theorem ml_His_3 : Cond.methodLink "GuardedPool$History" 3 Lib.objectInit ∈ lw_g := in_tbl 110 (by decide +kernel)
theorem ml_His_17 : Cond.methodLink "GuardedPool$History" 17 (mnm mi_Sta_init) ∈ lw_g := in_tbl 113 (by decide +kernel)
theorem ml_Poo_31 : Cond.methodLink "GuardedPool" 31 (mnm mi_Txt_init) ∈ lw_g := in_tbl 126 (by decide +kernel)
theorem ml_Txt_3 : Cond.methodLink "GuardedPool$Text" 3 Lib.objectInit ∈ lw_g := in_tbl 129 (by decide +kernel)
theorem ml_Txt_21 : Cond.methodLinkNest "GuardedPool$Text" 21 (mnm mi_Cmd_init) "GuardedPool" ∈ lw_tbl := in_raw 133 (by decide +kernel)
theorem ml_Cmd_1 : Cond.methodLink "GuardedPool$Command" 1 Lib.objectInit ∈ lw_g := in_tbl 136 (by decide +kernel)
theorem ml_Law_8 : Cond.methodLink "GuardedPoolLaw" 8 (mnm mi_Poo_count) ∈ lw_g := in_tbl 188 (by decide +kernel)
theorem ml_Poo_154 : Cond.methodLink "GuardedPool" 154 (mnm mi_His_length) ∈ lw_g := in_tbl 192 (by decide +kernel)
theorem ml_Poo_157 : Cond.methodLink "GuardedPool" 157 (mnm mi_Txt_length) ∈ lw_g := in_tbl 196 (by decide +kernel)
theorem ml_Poo_158 : Cond.methodLink "GuardedPool" 158 (mnm mi_Sta_tellCount) ∈ lw_g := in_tbl 200 (by decide +kernel)
theorem ml_Sta_196 : Cond.methodLink "GuardedPool$State" 196 (mnm mi_Sta_ownedBlocks) ∈ lw_g := in_tbl 204 (by decide +kernel)
theorem ml_Sta_124 : Cond.methodLink "GuardedPool$State" 124 (mnm mi_Sta_blocksOf) ∈ lw_g := in_tbl 208 (by decide +kernel)
theorem ml_Sta_199 : Cond.methodLink "GuardedPool$State" 199 (mnm mi_Sta_ownedWords) ∈ lw_g := in_tbl 212 (by decide +kernel)
theorem ml_Sta_185 : Cond.methodLink "GuardedPool$State" 185 (mnm mi_Sta_wordsOf) ∈ lw_g := in_tbl 216 (by decide +kernel)
theorem ml_Sta_157 : Cond.methodLink "GuardedPool$State" 157 (mnm mi_Blk_words) ∈ lw_g := in_tbl 220 (by decide +kernel)
theorem ml_Blk_30 : Cond.methodLink "GuardedPool$Block" 30 (mnm mi_Blk_wordsOf) ∈ lw_g := in_tbl 224 (by decide +kernel)
theorem ml_Sta_202 : Cond.methodLink "GuardedPool$State" 202 (mnm mi_Sta_askedWords) ∈ lw_g := in_tbl 227 (by decide +kernel)
theorem ml_Sta_186 : Cond.methodLink "GuardedPool$State" 186 (mnm mi_Sta_askedBy) ∈ lw_g := in_tbl 231 (by decide +kernel)
theorem ml_Sta_130 : Cond.methodLink "GuardedPool$State" 130 (mnm mi_Sta_leaks) ∈ lw_g := in_tbl 235 (by decide +kernel)
theorem ml_Sta_189 : Cond.methodLink "GuardedPool$State" 189 (mnm mi_Sta_leaksOf) ∈ lw_g := in_tbl 239 (by decide +kernel)
theorem ml_Sta_134 : Cond.methodLink "GuardedPool$State" 134 (mnm mi_Sta_isLeak) ∈ lw_g := in_tbl 243 (by decide +kernel)
theorem ml_Sta_90 : Cond.methodLink "GuardedPool$State" 90 (mnm mi_Sta_taskOf) ∈ lw_g := in_tbl 247 (by decide +kernel)
theorem ml_Sta_121 : Cond.methodLink "GuardedPool$State" 121 (mnm mi_Sta_ageOf) ∈ lw_g := in_tbl 251 (by decide +kernel)
theorem ml_Law_82 : Cond.methodLink "GuardedPoolLaw" 82 (mnm mi_Law_cell) ∈ lw_g := in_tbl 255 (by decide +kernel)
theorem ml_Law_14 : Cond.methodLink "GuardedPoolLaw" 14 (mnm mi_Law_low) ∈ lw_g := in_tbl 258 (by decide +kernel)
theorem ml_Law_86 : Cond.methodLink "GuardedPoolLaw" 86 (mnm mi_Law_does) ∈ lw_g := in_tbl 262 (by decide +kernel)
theorem ml_Law_26 : Cond.methodLink "GuardedPoolLaw" 26 (mnm mi_Law_owned) ∈ lw_g := in_tbl 265 (by decide +kernel)
theorem ml_Law_20 : Cond.methodLink "GuardedPoolLaw" 20 (mnm mi_Poo_word) ∈ lw_g := in_tbl 268 (by decide +kernel)
theorem ml_Poo_139 : Cond.methodLink "GuardedPool" 139 (mnm mi_Sta_tellWord) ∈ lw_g := in_tbl 272 (by decide +kernel)
theorem ml_Sta_101 : Cond.methodLink "GuardedPool$State" 101 (mnm mi_Sta_blockAt) ∈ lw_g := in_tbl 276 (by decide +kernel)
theorem ml_Sta_173 : Cond.methodLink "GuardedPool$State" 173 (mnm mi_Blk_holds) ∈ lw_g := in_tbl 280 (by decide +kernel)
theorem ml_Blk_34 : Cond.methodLink "GuardedPool$Block" 34 (mnm mi_Blk_words) ∈ lw_g := in_tbl 284 (by decide +kernel)
theorem ml_Sta_112 : Cond.methodLink "GuardedPool$State" 112 (mnm mi_Sta_valueAt) ∈ lw_g := in_tbl 285 (by decide +kernel)
theorem ml_Sta_169 : Cond.methodLink "GuardedPool$State" 169 (mnm mi_Blk_isOwned) ∈ lw_g := in_tbl 289 (by decide +kernel)
theorem ml_Sta_176 : Cond.methodLink "GuardedPool$State" 176 (mnm mi_Blk_hasGuardAt) ∈ lw_g := in_tbl 293 (by decide +kernel)
theorem ml_Blk_38 : Cond.methodLink "GuardedPool$Block" 38 (mnm mi_Blk_isOwned) ∈ lw_g := in_tbl 297 (by decide +kernel)
theorem ml_Blk_42 : Cond.methodLink "GuardedPool$Block" 42 (mnm mi_Blk_rearGuard) ∈ lw_g := in_tbl 298 (by decide +kernel)
theorem ml_Law_23 : Cond.methodLink "GuardedPoolLaw" 23 (mnm mi_Poo_block) ∈ lw_g := in_tbl 302 (by decide +kernel)
theorem ml_Poo_136 : Cond.methodLink "GuardedPool" 136 (mnm mi_Sta_tellBlock) ∈ lw_g := in_tbl 306 (by decide +kernel)
theorem ml_Sta_87 : Cond.methodLink "GuardedPool$State" 87 (mnm mi_Sta_blockOf) ∈ lw_g := in_tbl 310 (by decide +kernel)
theorem ml_Sta_163 : Cond.methodLink "GuardedPool$State" 163 (mnm mi_Sta_brokenGuards) ∈ lw_g := in_tbl 314 (by decide +kernel)
theorem ml_Sta_182 : Cond.methodLink "GuardedPool$State" 182 (mnm mi_Blk_rearGuard) ∈ lw_g := in_tbl 318 (by decide +kernel)
theorem ml_Law_30 : Cond.methodLink "GuardedPoolLaw" 30 (mnm mi_Poo_ask) ∈ lw_g := in_tbl 319 (by decide +kernel)
theorem ml_Poo_40 : Cond.methodLink "GuardedPool" 40 (mnm mi_Sta_copyFrom) ∈ lw_g := in_tbl 323 (by decide +kernel)
theorem ml_Sta_35 : Cond.methodLink "GuardedPool$State" 35 (mnm mi_Blk_copyFrom) ∈ lw_g := in_tbl 327 (by decide +kernel)
theorem ml_Sta_39 : Cond.methodLink "GuardedPool$State" 39 arraycopyName ∈ lw_g := in_tbl 331 (by decide +kernel)
theorem ml_Sta_45 : Cond.methodLink "GuardedPool$State" 45 (mnm mi_Tsk_copyFrom) ∈ lw_g := in_tbl 334 (by decide +kernel)
theorem ml_Poo_44 : Cond.methodLink "GuardedPool" 44 (mnm mi_Sta_grant) ∈ lw_g := in_tbl 338 (by decide +kernel)
theorem ml_Sta_63 : Cond.methodLink "GuardedPool$State" 63 (mnm mi_Sta_whyNot) ∈ lw_g := in_tbl 342 (by decide +kernel)
theorem ml_Sta_67 : Cond.methodLink "GuardedPool$State" 67 (mnm mi_Sta_sizeFor) ∈ lw_g := in_tbl 346 (by decide +kernel)
theorem ml_Sta_138 : Cond.methodLink "GuardedPool$State" 138 (mnm mi_Blk_wordsOf) ∈ lw_g := in_tbl 349 (by decide +kernel)
theorem ml_Sta_148 : Cond.methodLink "GuardedPool$State" 148 (mnm mi_Sta_roomFor) ∈ lw_g := in_tbl 350 (by decide +kernel)
theorem ml_Sta_145 : Cond.methodLink "GuardedPool$State" 145 (mnm mi_Sta_lowestFree) ∈ lw_g := in_tbl 354 (by decide +kernel)
theorem ml_Sta_141 : Cond.methodLink "GuardedPool$State" 141 (mnm mi_Blk_isFreeOf) ∈ lw_g := in_tbl 358 (by decide +kernel)
theorem ml_Sta_71 : Cond.methodLink "GuardedPool$State" 71 (mnm mi_Sta_cutOut) ∈ lw_g := in_tbl 362 (by decide +kernel)
theorem ml_Sta_154 : Cond.methodLink "GuardedPool$State" 154 (mnm mi_Sta_halve) ∈ lw_g := in_tbl 366 (by decide +kernel)
theorem ml_Sta_160 : Cond.methodLink "GuardedPool$State" 160 (mnm mi_Sta_placeAt) ∈ lw_g := in_tbl 370 (by decide +kernel)
theorem ml_Poo_48 : Cond.methodLink "GuardedPool" 48 (mnm mi_Sta_whyNot) ∈ lw_g := in_tbl 374 (by decide +kernel)
theorem ml_Poo_51 : Cond.methodLink "GuardedPool" 51 (mnm mi_Poo_countRefusal) ∈ lw_g := in_tbl 375 (by decide +kernel)
theorem ml_Poo_55 : Cond.methodLink "GuardedPool" 55 (mnm mi_Poo_recorded) ∈ lw_g := in_tbl 379 (by decide +kernel)
theorem ml_Poo_161 : Cond.methodLink "GuardedPool" 161 (mnm mi_His_record) ∈ lw_g := in_tbl 383 (by decide +kernel)
theorem ml_His_25 : Cond.methodLink "GuardedPool$History" 25 (mnm mi_Sta_copyFrom) ∈ lw_g := in_tbl 387 (by decide +kernel)
theorem ml_His_29 : Cond.methodLink "GuardedPool$History" 29 Lib.Math.min.name ∈ lw_g := in_tbl 388 (by decide +kernel)
theorem ml_Law_33 : Cond.methodLink "GuardedPoolLaw" 33 (mnm mi_Poo_giveBack) ∈ lw_g := in_tbl 391 (by decide +kernel)
theorem ml_Poo_59 : Cond.methodLink "GuardedPool" 59 (mnm mi_Sta_takeBack) ∈ lw_g := in_tbl 395 (by decide +kernel)
theorem ml_Sta_94 : Cond.methodLink "GuardedPool$State" 94 (mnm mi_Sta_free) ∈ lw_g := in_tbl 399 (by decide +kernel)
theorem ml_Sta_118 : Cond.methodLink "GuardedPool$State" 118 (mnm mi_Sta_setValue) ∈ lw_g := in_tbl 403 (by decide +kernel)
theorem ml_Sta_166 : Cond.methodLink "GuardedPool$State" 166 (mnm mi_Sta_joinTwins) ∈ lw_g := in_tbl 407 (by decide +kernel)
theorem ml_Law_36 : Cond.methodLink "GuardedPoolLaw" 36 (mnm mi_Poo_write) ∈ lw_g := in_tbl 411 (by decide +kernel)
theorem ml_Poo_62 : Cond.methodLink "GuardedPool" 62 (mnm mi_Sta_put) ∈ lw_g := in_tbl 415 (by decide +kernel)
theorem ml_Sta_108 : Cond.methodLink "GuardedPool$State" 108 (mnm mi_Sta_kindOfHit) ∈ lw_g := in_tbl 419 (by decide +kernel)
theorem ml_Sta_179 : Cond.methodLink "GuardedPool$State" 179 (mnm mi_Blk_wasAskedFor) ∈ lw_g := in_tbl 422 (by decide +kernel)
theorem ml_Law_40 : Cond.methodLink "GuardedPoolLaw" 40 (mnm mi_Poo_touch) ∈ lw_g := in_tbl 426 (by decide +kernel)
theorem ml_Poo_66 : Cond.methodLink "GuardedPool" 66 (mnm mi_Sta_useNow) ∈ lw_g := in_tbl 430 (by decide +kernel)
theorem ml_Law_43 : Cond.methodLink "GuardedPoolLaw" 43 (mnm mi_Poo_live) ∈ lw_g := in_tbl 434 (by decide +kernel)
theorem ml_Poo_69 : Cond.methodLink "GuardedPool" 69 (mnm mi_Sta_makeAlive) ∈ lw_g := in_tbl 438 (by decide +kernel)
theorem ml_Law_47 : Cond.methodLink "GuardedPoolLaw" 47 (mnm mi_Poo_setLimit) ∈ lw_g := in_tbl 442 (by decide +kernel)
theorem ml_Poo_73 : Cond.methodLink "GuardedPool" 73 (mnm mi_Sta_changeLimit) ∈ lw_g := in_tbl 446 (by decide +kernel)
theorem ml_Law_50 : Cond.methodLink "GuardedPoolLaw" 50 (mnm mi_Poo_setPatience) ∈ lw_g := in_tbl 450 (by decide +kernel)
theorem ml_Poo_76 : Cond.methodLink "GuardedPool" 76 (mnm mi_Sta_changePatience) ∈ lw_g := in_tbl 454 (by decide +kernel)
theorem ml_Law_53 : Cond.methodLink "GuardedPoolLaw" 53 (mnm mi_Poo_sweep) ∈ lw_g := in_tbl 458 (by decide +kernel)
theorem ml_Poo_82 : Cond.methodLink "GuardedPool" 82 (mnm mi_Sta_takeLeaksBack) ∈ lw_g := in_tbl 462 (by decide +kernel)
theorem ml_Law_57 : Cond.methodLink "GuardedPoolLaw" 57 (mnm mi_Poo_pass) ∈ lw_g := in_tbl 466 (by decide +kernel)
theorem ml_Poo_79 : Cond.methodLink "GuardedPool" 79 (mnm mi_Sta_advance) ∈ lw_g := in_tbl 470 (by decide +kernel)
theorem ml_Law_89 : Cond.methodLink "GuardedPoolLaw" 89 (mnm mi_Law_arePartsSo) ∈ lw_g := in_tbl 474 (by decide +kernel)
theorem ml_Law_60 : Cond.methodLink "GuardedPoolLaw" 60 (mnm mi_Poo_task) ∈ lw_g := in_tbl 477 (by decide +kernel)
theorem ml_Poo_142 : Cond.methodLink "GuardedPool" 142 (mnm mi_Sta_tellTask) ∈ lw_g := in_tbl 481 (by decide +kernel)
theorem ml_Law_93 : Cond.methodLink "GuardedPoolLaw" 93 (mnm mi_Law_areTasksSo) ∈ lw_g := in_tbl 485 (by decide +kernel)
theorem ml_Law_63 : Cond.methodLink "GuardedPoolLaw" 63 (mnm mi_Poo_greatest) ∈ lw_g := in_tbl 488 (by decide +kernel)
theorem ml_Poo_145 : Cond.methodLink "GuardedPool" 145 (mnm mi_Sta_greatestRequest) ∈ lw_g := in_tbl 492 (by decide +kernel)
theorem ml_Law_66 : Cond.methodLink "GuardedPoolLaw" 66 (mnm mi_Poo_reason) ∈ lw_g := in_tbl 496 (by decide +kernel)
theorem ml_Law_69 : Cond.methodLink "GuardedPoolLaw" 69 (mnm mi_Poo_size) ∈ lw_g := in_tbl 500 (by decide +kernel)
theorem ml_Poo_151 : Cond.methodLink "GuardedPool" 151 (mnm mi_Sta_tellSize) ∈ lw_g := in_tbl 504 (by decide +kernel)
theorem ml_Sta_192 : Cond.methodLink "GuardedPool$State" 192 (mnm mi_Sta_blocksOfSize) ∈ lw_g := in_tbl 508 (by decide +kernel)
theorem ml_Law_72 : Cond.methodLink "GuardedPoolLaw" 72 (mnm mi_Poo_leak) ∈ lw_g := in_tbl 512 (by decide +kernel)
theorem ml_Poo_148 : Cond.methodLink "GuardedPool" 148 (mnm mi_Sta_leakOfRank) ∈ lw_g := in_tbl 516 (by decide +kernel)
theorem ml_Sta_205 : Cond.methodLink "GuardedPool$State" 205 (mnm mi_Sta_leaksAheadOf) ∈ lw_g := in_tbl 520 (by decide +kernel)
theorem ml_Law_96 : Cond.methodLink "GuardedPoolLaw" 96 (mnm mi_Law_isAskSo) ∈ lw_g := in_tbl 524 (by decide +kernel)
theorem ml_Law_75 : Cond.methodLink "GuardedPoolLaw" 75 (mnm mi_Poo_refused) ∈ lw_g := in_tbl 527 (by decide +kernel)
theorem ml_Law_78 : Cond.methodLink "GuardedPoolLaw" 78 (mnm mi_Poo_undo) ∈ lw_g := in_tbl 531 (by decide +kernel)
theorem ml_Poo_126 : Cond.methodLink "GuardedPool" 126 (mnm mi_His_takeLatest) ∈ lw_g := in_tbl 535 (by decide +kernel)
theorem fl_Blk_9 : Cond.fieldLink "GuardedPool$Block" 9 (cnm 0) (Tcl 0 0).2.1 (Tcl 0 0).2.2.1 ∈ lw_g := in_tbl 31 (by decide +kernel)
theorem fl_Sta_98 : Cond.fieldLink "GuardedPool$State" 98 (cnm 0) (Tcl 0 0).2.1 (Tcl 0 0).2.2.1 ∈ lw_g := in_tbl 32 (by decide +kernel)
theorem fl_Blk_15 : Cond.fieldLink "GuardedPool$Block" 15 (cnm 0) (Tcl 0 1).2.1 (Tcl 0 1).2.2.1 ∈ lw_g := in_tbl 33 (by decide +kernel)
theorem fl_Sta_151 : Cond.fieldLink "GuardedPool$State" 151 (cnm 0) (Tcl 0 1).2.1 (Tcl 0 1).2.2.1 ∈ lw_g := in_tbl 34 (by decide +kernel)
theorem fl_Blk_18 : Cond.fieldLink "GuardedPool$Block" 18 (cnm 0) (Tcl 0 2).2.1 (Tcl 0 2).2.2.1 ∈ lw_g := in_tbl 35 (by decide +kernel)
theorem fl_Sta_75 : Cond.fieldLink "GuardedPool$State" 75 (cnm 0) (Tcl 0 2).2.1 (Tcl 0 2).2.2.1 ∈ lw_g := in_tbl 36 (by decide +kernel)
theorem fl_Blk_21 : Cond.fieldLink "GuardedPool$Block" 21 (cnm 0) (Tcl 0 3).2.1 (Tcl 0 3).2.2.1 ∈ lw_g := in_tbl 37 (by decide +kernel)
theorem fl_Sta_78 : Cond.fieldLink "GuardedPool$State" 78 (cnm 0) (Tcl 0 3).2.1 (Tcl 0 3).2.2.1 ∈ lw_g := in_tbl 38 (by decide +kernel)
theorem fl_Blk_24 : Cond.fieldLink "GuardedPool$Block" 24 (cnm 0) (Tcl 0 4).2.1 (Tcl 0 4).2.2.1 ∈ lw_g := in_tbl 39 (by decide +kernel)
theorem fl_Sta_81 : Cond.fieldLink "GuardedPool$State" 81 (cnm 0) (Tcl 0 4).2.1 (Tcl 0 4).2.2.1 ∈ lw_g := in_tbl 40 (by decide +kernel)
theorem fl_Blk_27 : Cond.fieldLink "GuardedPool$Block" 27 (cnm 0) (Tcl 0 5).2.1 (Tcl 0 5).2.2.1 ∈ lw_g := in_tbl 41 (by decide +kernel)
theorem fl_Sta_84 : Cond.fieldLink "GuardedPool$State" 84 (cnm 0) (Tcl 0 5).2.1 (Tcl 0 5).2.2.1 ∈ lw_g := in_tbl 42 (by decide +kernel)
theorem fl_Tsk_9 : Cond.fieldLink "GuardedPool$Task" 9 (cnm 4) (Tcl 4 0).2.1 (Tcl 4 0).2.2.1 ∈ lw_g := in_tbl 63 (by decide +kernel)
theorem fl_Sta_104 : Cond.fieldLink "GuardedPool$State" 104 (cnm 4) (Tcl 4 0).2.1 (Tcl 4 0).2.2.1 ∈ lw_g := in_tbl 64 (by decide +kernel)
theorem fl_Tsk_15 : Cond.fieldLink "GuardedPool$Task" 15 (cnm 4) (Tcl 4 1).2.1 (Tcl 4 1).2.2.1 ∈ lw_g := in_tbl 65 (by decide +kernel)
theorem fl_Sta_127 : Cond.fieldLink "GuardedPool$State" 127 (cnm 4) (Tcl 4 1).2.1 (Tcl 4 1).2.2.1 ∈ lw_g := in_tbl 66 (by decide +kernel)
theorem fl_Tsk_19 : Cond.fieldLink "GuardedPool$Task" 19 (cnm 4) (Tcl 4 2).2.1 (Tcl 4 2).2.2.1 ∈ lw_g := in_tbl 67 (by decide +kernel)
theorem fl_Sta_115 : Cond.fieldLink "GuardedPool$State" 115 (cnm 4) (Tcl 4 2).2.1 (Tcl 4 2).2.2.1 ∈ lw_g := in_tbl 68 (by decide +kernel)
theorem fl_Sta_11 : Cond.fieldLink "GuardedPool$State" 11 (cnm 3) (Tcl 3 0).2.1 (Tcl 3 0).2.2.1 ∈ lw_g := in_tbl 77 (by decide +kernel)
theorem fl_Sta_20 : Cond.fieldLink "GuardedPool$State" 20 (cnm 3) (Tcl 3 1).2.1 (Tcl 3 1).2.2.1 ∈ lw_g := in_tbl 78 (by decide +kernel)
theorem fl_Sta_26 : Cond.fieldLink "GuardedPool$State" 26 (cnm 3) (Tcl 3 2).2.1 (Tcl 3 2).2.2.1 ∈ lw_g := in_tbl 79 (by decide +kernel)
theorem fl_Sta_48 : Cond.fieldLink "GuardedPool$State" 48 (cnm 3) (Tcl 3 3).2.1 (Tcl 3 3).2.2.1 ∈ lw_g := in_tbl 80 (by decide +kernel)
theorem fl_Sta_31 : Cond.fieldLink "GuardedPool$State" 31 (cnm 3) (Tcl 3 4).2.1 (Tcl 3 4).2.2.1 ∈ lw_g := in_tbl 81 (by decide +kernel)
theorem fl_Sta_51 : Cond.fieldLink "GuardedPool$State" 51 (cnm 3) (Tcl 3 5).2.1 (Tcl 3 5).2.2.1 ∈ lw_g := in_tbl 82 (by decide +kernel)
theorem fl_Sta_54 : Cond.fieldLink "GuardedPool$State" 54 (cnm 3) (Tcl 3 6).2.1 (Tcl 3 6).2.2.1 ∈ lw_g := in_tbl 83 (by decide +kernel)
theorem fl_Sta_57 : Cond.fieldLink "GuardedPool$State" 57 (cnm 3) (Tcl 3 7).2.1 (Tcl 3 7).2.2.1 ∈ lw_g := in_tbl 84 (by decide +kernel)
theorem fl_Sta_60 : Cond.fieldLink "GuardedPool$State" 60 (cnm 3) (Tcl 3 8).2.1 (Tcl 3 8).2.2.1 ∈ lw_g := in_tbl 85 (by decide +kernel)
theorem fl_His_11 : Cond.fieldLink "GuardedPool$History" 11 (cnm 2) (Tcl 2 0).2.1 (Tcl 2 0).2.2.1 ∈ lw_g := in_tbl 114 (by decide +kernel)
theorem fl_His_22 : Cond.fieldLink "GuardedPool$History" 22 (cnm 2) (Tcl 2 1).2.1 (Tcl 2 1).2.2.1 ∈ lw_g := in_tbl 115 (by decide +kernel)
theorem fl_His_18 : Cond.fieldLink "GuardedPool$History" 18 (cnm 2) (Tcl 2 2).2.1 (Tcl 2 2).2.2.1 ∈ lw_g := in_tbl 116 (by decide +kernel)
theorem fl_Txt_9 : Cond.fieldLink "GuardedPool$Text" 9 (cnm 5) (Tcl 5 0).2.1 (Tcl 5 0).2.2.1 ∈ lw_g := in_tbl 145 (by decide +kernel)
theorem fl_Txt_22 : Cond.fieldLink "GuardedPool$Text" 22 (cnm 5) (Tcl 5 1).2.1 (Tcl 5 1).2.2.1 ∈ lw_g := in_tbl 146 (by decide +kernel)
theorem fl_Txt_17 : Cond.fieldLink "GuardedPool$Text" 17 (cnm 5) (Tcl 5 2).2.1 (Tcl 5 2).2.2.1 ∈ lw_g := in_tbl 147 (by decide +kernel)
theorem fl_Poo_10 : Cond.fieldLink "GuardedPool" 10 (cnm 6) (Tcl 6 0).2.1 (Tcl 6 0).2.2.1 ∈ lw_g := in_tbl 161 (by decide +kernel)
theorem fl_Poo_16 : Cond.fieldLink "GuardedPool" 16 (cnm 6) (Tcl 6 1).2.1 (Tcl 6 1).2.2.1 ∈ lw_g := in_tbl 162 (by decide +kernel)
theorem fl_Poo_19 : Cond.fieldLink "GuardedPool" 19 (cnm 6) (Tcl 6 2).2.1 (Tcl 6 2).2.2.1 ∈ lw_g := in_tbl 163 (by decide +kernel)
theorem fl_Poo_25 : Cond.fieldLink "GuardedPool" 25 (cnm 6) (Tcl 6 4).2.1 (Tcl 6 4).2.2.1 ∈ lw_g := in_tbl 164 (by decide +kernel)
theorem fl_Poo_32 : Cond.fieldLink "GuardedPool" 32 (cnm 6) (Tcl 6 5).2.1 (Tcl 6 5).2.2.1 ∈ lw_g := in_tbl 165 (by decide +kernel)
theorem fl_Poo_36 : Cond.fieldLink "GuardedPool" 36 (cnm 6) (Tcl 6 6).2.1 (Tcl 6 6).2.2.1 ∈ lw_g := in_tbl 166 (by decide +kernel)
theorem cl_Law_9 : Cond.classLink "GuardedPoolLaw" 9 (cnm 6) ∈ lw_g := in_tbl 10 (by decide +kernel)
theorem cl_Poo_7 : Cond.classLink "GuardedPool" 7 (cnm 3) ∈ lw_g := in_tbl 18 (by decide +kernel)
theorem cl_Sta_9 : Cond.classLink "GuardedPool$State" 9 (cnm 0) ∈ lw_g := in_tbl 24 (by decide +kernel)
theorem cl_Sta_24 : Cond.classLink "GuardedPool$State" 24 (cnm 4) ∈ lw_g := in_tbl 56 (by decide +kernel)
theorem cl_Poo_22 : Cond.classLink "GuardedPool" 22 (cnm 2) ∈ lw_g := in_tbl 105 (by decide +kernel)
theorem cl_His_9 : Cond.classLink "GuardedPool$History" 9 (cnm 3) ∈ lw_g := in_tbl 111 (by decide +kernel)
theorem cl_Poo_29 : Cond.classLink "GuardedPool" 29 (cnm 5) ∈ lw_g := in_tbl 124 (by decide +kernel)
theorem cl_Txt_15 : Cond.classLink "GuardedPool$Text" 15 (cnm 1) ∈ lw_g := in_tbl 130 (by decide +kernel)
theorem is_Poo : Cond.instantiable (cnm 6) (nfd 6) ∈ lw_g := in_tbl 11 (by decide +kernel)
theorem is_Sta : Cond.instantiable (cnm 3) (nfd 3) ∈ lw_g := in_tbl 19 (by decide +kernel)
theorem is_Blk : Cond.instantiable (cnm 0) (nfd 0) ∈ lw_g := in_tbl 26 (by decide +kernel)
theorem is_Tsk : Cond.instantiable (cnm 4) (nfd 4) ∈ lw_g := in_tbl 58 (by decide +kernel)
theorem is_His : Cond.instantiable (cnm 2) (nfd 2) ∈ lw_g := in_tbl 106 (by decide +kernel)
theorem is_Txt : Cond.instantiable (cnm 5) (nfd 5) ∈ lw_g := in_tbl 125 (by decide +kernel)
theorem is_Cmd : Cond.instantiable (cnm 1) (nfd 1) ∈ lw_g := in_tbl 132 (by decide +kernel)
theorem inst_obj : Cond.instanceMethod Lib.objectInit ∈ lw_g := in_tbl 16 (by decide +kernel)
theorem code_obj : Cond.code Lib.objectInit ⟨#[0xb1]⟩ 1 none ∈ lw_g := in_tbl 17 (by decide +kernel)
theorem ao_Blk : Cond.arrayOver (.object (cnm 0)) ∈ lw_tbl := in_raw 25 (by decide +kernel)
theorem ao_Tsk : Cond.arrayOver (.object (cnm 4)) ∈ lw_tbl := in_raw 57 (by decide +kernel)
theorem ac_int : Cond.arrayClass .int ∈ lw_g := in_tbl 76 (by decide +kernel)
theorem ao_Sta : Cond.arrayOver (.object (cnm 3)) ∈ lw_tbl := in_raw 112 (by decide +kernel)
theorem ao_Cmd : Cond.arrayOver (.object (cnm 1)) ∈ lw_tbl := in_raw 131 (by decide +kernel)
theorem ac_char : Cond.arrayClass .char ∈ lw_g := in_tbl 144 (by decide +kernel)
theorem stat_copy : Cond.static arraycopyName ∈ lw_g := in_tbl 332 (by decide +kernel)
theorem nat_copy : Cond.native arraycopyName ∈ lw_g := in_tbl 333 (by decide +kernel)
theorem stat_min : Cond.static Lib.Math.min.name ∈ lw_g := in_tbl 389 (by decide +kernel)
theorem code_min : Cond.code Lib.Math.min.name Lib.Math.min.code 2 (some .int) ∈ lw_g := in_tbl 390 (by decide +kernel)

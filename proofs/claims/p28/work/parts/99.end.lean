/-! THE CLAIM OUT OF ONE WALK OF THE LAW'S BODY. Your part is whole_start (and what it stands on); all else here is the same for every law, but numbers. -/
def R_law : String := "GuardedPoolLaw"
def lw_P (b : Addr) (xs : List Int32) (args : Array Value) (s : State) : Prop := args = #[.ref b] ∧ s.IntsAt b xs ∧ xs.length ≤ 260 ∧ (Jvm.Cond.and given_1 narrow_1).before args s = true
def lw_Q (_ : Array Value) (s : State) (o : Outcome) (t : State) : Prop := o = .returned (some (.int 1)) ∧ Framed s o t [] 636678 7192214
def lw_Z (below : List Frame) (a : Array Value) (s : State) : State → Prop := fun t => ∃ o, t.status = .running ∧ Ended t below o ∧ lw_Q a s o t
/-- the law's own end, with 1 on the stack, nothing written that was there before, its room as the claim has it -/
theorem lw_ret {p : Program} {l : Launch} {e : Env} {s : State} {m : MethodId} {below : List Frame} {meth : Method} {c : Code} {b : Nat} (hx : p.tables.exec = Jvm.exec) (hb : c.code = code) (hr : meth.sig.returnType = ret) (hlocks : meth.locks = false) {pc : Nat} {H : Heap} {ls : Array Slot} (hdg : decode code pc = .ok (.ireturn, 1)) : W p l e room_1 s m #[Value.ref b] below meth c H [] 636678 7192214 (lw_Z below #[Value.ref b] s) (F0 m pc ls [.int 1]) := by
  intro T hT X
  obtain ⟨fs, hret, hrun, hended, hW, hframe⟩ := X.leave (v := some (.int 1)) (hlocks := hlocks) (fun h => by rw [hr] at h; cases h)
  have hmeth' : T.vm.method? m = some meth := X.method'
  refine ⟨T.setFrames fs, ?_, .returned (some (.int 1)), hrun, hended, rfl, ⟨_, rfl⟩, hW, hframe⟩
  jvm_step X.here [X.here.top, hx, hb, hdg, hmeth', hr, ret, narrow_b1]
  (try refine ⟨rfl, ?_⟩); (try refine ⟨rfl, ?_⟩)
  first | (intro acts; rw [hret _ acts rfl rfl rfl]) | rw [hret _ _ rfl rfl rfl]
  exact Steps.refl _
/-- what holds at the law's entry: the machine, the code, the tables' words (any of lw_tbl by 'hts w (by decide +kernel)'), the script of L ints xs at the cell b, what the Statement gives of the start (any of its parts by flat_of_before) -/
def lw_At (p : Program) (s : State) (m : MethodId) (meth : Method) (c : Code) (b L : Nat) (xs : Nat → Int32) : Prop :=
  p.tables.exec = Jvm.exec ∧ c.code = code ∧ meth.sig.returnType = ret ∧ c.maxLocals = 6 ∧ s.vm.findClass R_law = some m.cls ∧ (∀ w ∈ lw_tbl, w.before #[Value.ref b] s = true) ∧ va_X b L xs s s.heap ∧ b < s.heap.size ∧ meth.locks = false ∧ (Jvm.Cond.and given_1 narrow_1).before #[Value.ref b] s = true
theorem ar_prim {s : State} {args : Array Value} {ty : FieldType} (h : (Cond.arrayClass ty).before args s = true) : ∃ cA, ArrOfT s cA ty ∧ s.vm.findClass ("[" ++ ty.toString) = some cA := by
  obtain ⟨c, k, comp, h1, h2, h3⟩ := Cond.arrayClass_spec h
  exact ⟨c, fun n z => ⟨(fun k h => by cases h), k, h2, comp, h3⟩, h1⟩
theorem ar_obj {s : State} {C : String} (h : va_AO C s) : ∃ cA, ArrOfT s cA (.object C) ∧ va_RA s cA (.object C) := by
  obtain ⟨comp, c, k, h1, h2, h3, h4, h5⟩ := Cond.arrayOver_spec h
  exact ⟨c, fun n z => ⟨(fun k h => by cases h), k, h3, comp, h4⟩, k, comp, h3, h4, h1, h5⟩
theorem is_all : ∀ ci, ci < 7 → Cond.instantiable (cnm ci) (nfd ci) ∈ lw_g := by
  intro ci h
  match ci, h with
  | 0, _ => exact is_Blk
  | 1, _ => exact is_Cmd
  | 2, _ => exact is_His
  | 3, _ => exact is_Sta
  | 4, _ => exact is_Tsk
  | 5, _ => exact is_Txt
  | 6, _ => exact is_Poo
theorem all_Kn {s : State} {args : Array Value} (htg : ∀ w ∈ lw_g, w.before args s = true) : ∃ (dC : Nat → ClassId) (dI : Nat → Nat → Nat), ∀ ci, ci < 7 → u_Kn s (cnm ci) (Tcl ci) (nfd ci) (dC ci) (dI ci) := by
  have hk : ∀ ci, ci < 7 → ∃ (cC : ClassId) (iS : Nat → Nat), u_Kn s (cnm ci) (Tcl ci) (nfd ci) cC iS := fun ci h => u_known htg (lay_ok ci h) (htg _ (is_all ci h))
  obtain ⟨c0, i0, -⟩ := hk 0 (by decide)
  refine ⟨fun ci => if h : ci < 7 then (hk ci h).choose else c0, fun ci => if h : ci < 7 then (hk ci h).choose_spec.choose else i0, fun ci h => ?_⟩
  have e1 : (if h : ci < 7 then (hk ci h).choose else c0) = (hk ci h).choose := dif_pos h
  have e2 : (if h : ci < 7 then (hk ci h).choose_spec.choose else i0) = (hk ci h).choose_spec.choose := dif_pos h
  show u_Kn s (cnm ci) (Tcl ci) (nfd ci) (if h : ci < 7 then (hk ci h).choose else c0) (if h : ci < 7 then (hk ci h).choose_spec.choose else i0)
  rw [e1, e2]
  exact (hk ci h).choose_spec.choose_spec
/-- the memory at the start: the script alone -/
def mu0 (L : Nat) (xs : Nat → Int32) : Int → Int → Int := fun o k => if o = -1 then (if k = -1 then (L : Int) else (xs k.toNat).toInt) else 0
-- ===== YOUR PART BEGINS =====
theorem whole_start {p : Program} {e : Env} {s : State} {m : MethodId} {below : List Frame} {meth : Method} {c : Code} (l : Launch) (hflags : l.flags = flags0) {b L : Nat} {xs : Nat → Int32} (hL : L ≤ 260) (C0 : lw_At p s m meth c b L xs) : W p l e room_1 s m #[Value.ref b] below meth c s.heap [] 0 0 (lw_Z below #[Value.ref b] s) (entryFrame m ([Value.ref b] : List Value).toArray 6) := by
  obtain ⟨hx, hb, hr, hml, hown, hts, hX, hbl, hlocks, hgv⟩ := id C0
  have htg : ∀ w ∈ lw_g, w.before #[Value.ref b] s = true := fun w h => hts w (List.mem_filter.mp h).1
  obtain ⟨dC, dI, hKc⟩ := all_Kn htg
  obtain ⟨a0, p0, q0⟩ := ar_prim (htg _ ac_int)
  obtain ⟨a1, p1, q1⟩ := ar_prim (htg _ ac_char)
  obtain ⟨a2, p2, q2⟩ := ar_obj (va_AO.of (hts _ ao_Blk))
  obtain ⟨a3, p3, q3⟩ := ar_obj (va_AO.of (hts _ ao_Tsk))
  obtain ⟨a4, p4, q4⟩ := ar_obj (va_AO.of (hts _ ao_Sta))
  obtain ⟨a5, p5, q5⟩ := ar_obj (va_AO.of (hts _ ao_Cmd))
  have hXw : Xw s := ⟨va_AO.of (hts _ ao_Blk), va_AO.of (hts _ ao_Tsk), va_AO.of (hts _ ao_Sta), va_AO.of (hts _ ao_Cmd), va_Nw.of rfl (hts _ ml_Txt_21)⟩
  obtain ⟨G, hG1, hG2, hG3, hG4, hG5, hG6⟩ : ∃ G : Gg, gD G = (dC, dI) ∧ gA G = (fun k => if k = 0 then a0 else if k = 1 then a1 else if k = 2 then a2 else if k = 3 then a3 else if k = 4 then a4 else a5) ∧ gh G = s.heap.size ∧ gs G = b ∧ gL G = L ∧ gx G = xs := ⟨((dC, dI), (fun k => if k = 0 then a0 else if k = 1 then a1 else if k = 2 then a2 else if k = 3 then a3 else if k = 4 then a4 else a5), s.heap.size, b, L, xs), rfl, rfl, rfl, rfl, rfl, rfl⟩
  have hK : va_K (gD G) cls_l (tys_l G) s := by
    refine ⟨fun c q hq => ?_, fun k q hq => ?_⟩
    · have hc : c < 7 := (List.getElem?_eq_some_iff.mp hq).1
      rw [cls_ok c hc] at hq
      cases hq
      rw [hG1]
      exact hKc c hc
    · unfold tys_l at hq
      rw [hG2] at hq
      match k, hq with
      | 0, hq => cases hq; exact ⟨p0, q0⟩
      | 1, hq => cases hq; exact ⟨p1, q1⟩
      | 2, hq => cases hq; exact ⟨p2, q2⟩
      | 3, hq => cases hq; exact ⟨p3, q3⟩
      | 4, hq => cases hq; exact ⟨p4, q4⟩
      | 5, hq => cases hq; exact ⟨p5, q5⟩
      | k + 6, hq => simp at hq
  have hC : Cx G mi_Law_law p s m #[Value.ref b] meth c := by
    refine ⟨hx, hb, hml, hown, htg, hK, hXw, fun h => absurd h (by decide), by rw [hG3]; exact Nat.le_refl _, ⟨?_, ?_⟩⟩
    · rw [hG4, hG5, hG6]
      exact hX
    · rw [hG4, hG3]
      exact hbl
  have hR : Rep G ((fun _ _ => none), 0, mu0 L xs) s.heap := by
    refine ⟨fun k q h => ?_, fun _ => by rw [hG3]; rfl, fun o k => ?_, ?_, fun j hj => ?_⟩
    · unfold wl at h
      simp at h
    · show rng (mu0 L xs o k)
      unfold mu0
      split
      · split
        · exact ⟨by omega, by omega⟩
        · exact rng_toInt _
      · exact rng_0
    · show mu0 L xs (-1) (-1) = _
      rw [hG5]
      rfl
    · show Int32.ofInt (mu0 L xs (-1) j) = _
      rw [hG6]
      unfold mu0
      rw [if_pos rfl, if_neg (by omega), oi_toInt, Int.toNat_natCast]
  have hF : FZ (fun _ _ => none) (mu0 L xs) 0 := fun o k a => ⟨if_neg (by omega), rfl⟩
  obtain ⟨μf, hw⟩ := law_all (ρ := fun _ _ => none) (μ := mu0 L xs) hF
  have hloc := entry_loc (G := G) (as := [vR (-1)]) (n := 6) (by decide) (fun v h => by
    rcases List.mem_cons.mp h with rfl | h
    · trivial
    · cases h)
  have eb : [vR (-1)].map (tv G) = [Value.ref b] := by
    show [Value.ref (adr G (-1))] = _
    unfold adr
    rw [if_pos (by decide), hG4]
  rw [eb] at hloc
  rw [lg_entry_eq]
  refine hw G p l e s m #[Value.ref b] below meth c s.heap [] _ (lw_Z below #[Value.ref b] s) hC hR hloc (fun _ h => by cases h) va_S.rf (fun H' locs' ls' pc' hR' hV' hvk hd => ?_)
  refine va_forget (fun q hq => by have := hV'.2.2 q hq; unfold Ah at this; rw [hG3] at this; exact this) ?_
  refine W.widen (k := 636678) (n := 7192214) (show 219 - 0 ≤ 636678 from Nat.le_of_ble_eq_true rfl) (show slt 219 - slt 0 ≤ 7192214 from Nat.le_of_ble_eq_true (by decide +kernel)) ?_
  exact lw_ret hx hb hr hlocks hd
-- ===== YOUR PART ENDS =====
set_option maxHeartbeats 4000000 in
theorem lw_walk (l : Launch) (hflags : l.flags = flags0) (b : Addr) (xs : List Int32) : MetFree l x (headSpec (Jvm.Cond.code x code maxLocals ret :: tables_1) room_1) (lw_P b xs) (fun _ _ _ _ _ => True) lw_Q := by
  refine MetFree.of_bodyS (code := code) (maxLocals := maxLocals) (ret := ret) (by decide) ?_ ?_
  · intro args s m h hn
    obtain ⟨meth, c, h1, h2, h3, h4, h5, h6, -, -⟩ := Cond.code_spec hn (atoms_spec (ws := Jvm.Cond.code x code maxLocals ret :: tables_1) h _ List.mem_cons_self)
    exact ⟨meth, c, h1, h2, h3, h4, h5, h6⟩
  · intro p e s m args below meth c s₁ B hml0 hP _
    obtain ⟨rfl, hx, hbd, hgv⟩ := hP
    obtain ⟨scr, harrAt, hlist, hof, hsmall⟩ := hx
    obtain ⟨hcb, hkn, -, -⟩ := State.arrayAt?_spec harrAt
    have hown : s.vm.findClass R_law = some m.cls := findClass_of_methodNamed B.named
    have hts0 : ∀ c ∈ (Jvm.Cond.code x code maxLocals ret :: tables_1), c.before #[Value.ref b] s = true := atoms_spec (ws := Jvm.Cond.code x code maxLocals ret :: tables_1) B.pre
    have hts : ∀ w ∈ lw_tbl, w.before #[Value.ref b] s = true := k2_hts_sels lw_privs (fun w hw => hts0 w (List.mem_cons_of_mem _ hw)) lw_privs_ok
    have hml : c.maxLocals = 6 := B.maxLocals_eq (hts0 _ List.mem_cons_self)
    have X₀ : Stand p l e room_1 s m #[Value.ref b] below meth c s₁ [] 0 0 := Stand.of_body B
    have hh0 : s₁.heap = s.heap := by rw [B.state]; rfl
    have hsz : scr.slots.size = xs.length := by rw [← Array.length_toList, hlist, List.length_map]
    have hval : ∀ j : Nat, j < xs.length → scr.slots[j]? = some (.int (xs.getD j 0)) := fun j hj => by
      rw [← Array.getElem?_toList, hlist]
      simp [hj]
    have hbl : b < s.heap.size := (Array.getElem?_eq_some_iff.mp hcb).1
    have hX : va_X b xs.length (fun j => xs.getD j 0) s s.heap := ⟨scr, hcb, hof, hkn, hsz, hval⟩
    have K : W p l e room_1 s m #[Value.ref b] below meth c s₁.heap [] 0 0 (lw_Z below #[Value.ref b] s) (entryFrame m ([Value.ref b] : List Value).toArray 6) := by
      rw [hh0]
      exact whole_start l hflags hbd ⟨B.exec, B.bytes, B.returns, hml, hown, hts, hX, hbl, B.notSynchronized, hgv⟩
    obtain ⟨t, a1, o, b1, b2, b3⟩ := K s₁ rfl X₀
    exact ⟨t, o, a1, b1, b2, b3⟩
theorem lw_pre_spec {args : Array Value} {s : State} (h : (Jvm.Cond.and given_1 narrow_1).before args s = true) (hr : rest_1_c.before args s = true) : ∃ (b : Addr) (xs : List Int32), lw_P b xs args s := by
  have hs := flat_of_before _ h
  have hq := flat_of_before _ hr
  have hc : (Cond.count 1).before args s = true := hs _ (by decide +kernel)
  have harr : (Cond.arrayOf (.arg 0) .int).before args s = true := hs _ (by decide +kernel)
  have hle : (Cond.le (.length (.arg 0)) (.int 260)).before args s = true := hs _ (by decide +kernel)
  have hlen : (Cond.isInt (.length (.arg 0))).before args s = true := hq _ (by decide +kernel)
  have hall : (Cond.all (.arg 0) (.isInt (.elem (.arg 0) (.index 0)))).before args s = true := hq _ (by decide +kernel)
  obtain ⟨b, xs, hb, hx⟩ := State.ints_of_pre rfl harr hlen hall
  have hsm : xs.length < 2 ^ 31 := hx.choose_spec.2.2.2
  have hev : (Term.length (.arg 0)).eval args s none [] s = some (.int xs.length.toInt32) := hx.length_eval hb
  have hv := Cond.le_ints hev (show (Term.int 260).eval args s none [] s = some (.int 260) from rfl)
  have hd : xs.length.toInt32 ≤ 260 := by
    simpa [Cond.before, Cond.holds, hv] using hle
  have hN : xs.length ≤ 260 := (Int32.ofNat_le_ofNat hsm (by decide)).mp (show Int32.ofNat xs.length ≤ Int32.ofNat 260 from hd)
  exact ⟨b, xs, Cond.one_arg hc (show args[0]? = some (.ref b) from hb), hx, hN, h⟩
theorem lw_comes (l : Launch) (hflags : l.flags = flags0) : Comes l x (Jvm.Cond.code x code maxLocals ret :: tables_1) room_1 (fun tb e args s => Calls_1 tb e args s ∧ rest_1 tb e args s ∧ Pre_1 tb e args s)
    (fun _ _ args s o t => lw_Q args s o t) := by
  intro p e ha hc hk s m args below hf hfit hheap happ hpre
  obtain ⟨b, xs, hP⟩ := lw_pre_spec hpre.2.2 hpre.2.1
  obtain ⟨k, o, h1, h2, h3, hQ⟩ := lw_walk l hflags b xs p e ha hc hk s m args below hf ((Spec.applies_iff_loose hf).mp happ).1 hP trivial
  exact ⟨k, o, h1, h2, h3, hQ⟩
theorem lw_frame {s t : State} {o : Outcome} {args : Array Value} (h : Framed s o t [] 636678 7192214) :
    Framed s o t (fieldLocs frame_1_writes args s ++ arrayLocs frame_1_arrays args s ++ staticLocs frame_1_statics s) 636678 7192214 := h
theorem lw_limb (L : Cond) (hL : ∀ (args : Array Value) (s t : State), L.after args s (.returned (some (.int 1))) t = true) :
    ArmFor flags0 classFile x code maxLocals ret World_1 tables_1 room_1 Calls_1 rest_1 Pre_1
      (fun tb e a s o t => postC L tb e a s o t ∧ Framed s o t (fieldLocs frame_1_writes a s ++ arrayLocs frame_1_arrays a s ++ staticLocs frame_1_statics s) 636678 7192214) := by
  intro l hflags _ _ p e ha hc hk s m args below hf hfit hheap happ hpre
  obtain ⟨k, o, h1, h2, h3, rfl, hF⟩ := lw_comes l hflags p e ha hc hk s m args below hf hfit hheap happ hpre
  exact ⟨k, _, h1, h2, h3, hL args s _, lw_frame hF⟩
theorem i_vc : Claimed_1_1 ∧ Claimed_1_2 := ⟨lw_limb limb_1_1 (fun args s t => by simp [limb_1_1, Cond.after, Cond.holds, Cond.value]), lw_limb limb_1_2 (fun args s t => Cond.after_iff.mpr (by
  first | (rw [show limb_1_2 = Cond.eq .result (.int 1) from rfl, Cond.eq_ints (x := 1) (y := 1) rfl rfl]; simp; done) | (simp [limb_1_2, Cond.value, Term.eval]; done)))⟩

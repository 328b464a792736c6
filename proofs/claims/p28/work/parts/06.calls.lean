/-! new cells, calls, and from a walk to a contract -/
theorem slt_le {a b : Nat} (h : a ≤ b) : slt a ≤ slt b := by
  induction b with
  | zero => rw [Nat.le_zero.mp h]; exact Nat.le_refl _
  | succ n ih =>
    by_cases e : a = n + 1
    · rw [e]; exact Nat.le_refl _
    · exact Nat.le_trans (ih (by omega)) (Nat.le_add_right _ _)
/-- there is room in y's own count, from t0 objects up to t -/
def rmOK (y : MI) (t0 t : Nat) : Prop := t - t0 ≤ (mrm y).cells ∧ slt t - slt t0 ≤ (mrm y).slots
theorem rmOK_self (y : MI) (t : Nat) : rmOK y t t := ⟨by rw [Nat.sub_self]; exact Nat.zero_le _, by rw [Nat.sub_self]; exact Nat.zero_le _⟩
theorem wl_push {G : Gg} {ρ : Int → Int → Option Int} {t : Nat} {μ : Int → Int → Int} : wl G (ρ, t + 1, μ) = wl G (ρ, t, μ) ++ [(gh G + t, ce G (ρ, t, μ) (t : Int))] := by
  unfold wl
  dsimp only
  rw [List.range_succ, List.map_append]
  rfl
theorem adr_nat {G : Gg} (t : Nat) : adr G (t : Int) = gh G + t := by
  rw [adr_pos (by omega)]
  rfl
section RN
variable {y : MI} {t0 pc pc' tgt : Nat} {L L' : List (Option Vv)} {S : List Vv} {ρ : Int → Int → Option Int} {t : Nat} {μ : Int → Int → Int} {Mf : Mm} {r : Option Vv}
theorem r_new {idx ci : Nat} (hd : Dc y pc (.new idx) 3 pc') (hcl : Cond.classLink (mnm y).cls idx (cnm ci) ∈ lw_g) (his : Cond.instantiable (cnm ci) (nfd ci) ∈ lw_g) (hini : Cond.initialized (cnm ci) ∈ lw_g) (hc : ci < 7 ∧ kd t = ci ∧ t < 219 ∧ t0 ≤ t) (hty : ∀ k, k < nfd ci → defaultValue (tyc ci k) = if tyk ci k = 2 then .null else .int 0)
    (hz : (∀ k : Nat, μ t k = 0) ∧ ∀ k : Nat, ρ t k = none) (hroom : rmOK y t0 (t + 1)) (kk : SPW y t0 pc' L (vR t :: S) (ρ, t + 1, μ) r Mf) : SPW y t0 pc L S (ρ, t, μ) r Mf := by
  intro G p l e s m args below meth c H locs ls Z C R Lk hS hV hfin
  obtain ⟨hd, rfl⟩ := hd
  have hsz := R.2.1 hc.2.2.1
  have hK := C.2.2.2.2.2.1
  have hts := C.2.2.2.2.1
  have hKn := hK.1 ci _ (cls_ok ci hc.1)
  have hso : szo t = nfd ci := by unfold szo; rw [hc.2.1, if_pos hc.1]
  have hmon := slt_le hc.2.2.2
  have hsl : slt (t + 1) = slt t + nfd ci := by rw [slt, hso]
  have e1 : t - t0 + 1 = t + 1 - t0 := by omega
  have e2 : slt t - slt t0 + nfd ci = slt (t + 1) - slt t0 := by rw [hsl]; omega
  refine W.newcK C.1 C.2.1 C.2.2.2.1 (hts _ hcl) (hts _ his) (hts _ hini) rfl hd (by show t - t0 + 1 ≤ _; rw [e1]; exact hroom.1) (by show slt t - slt t0 + nfd ci ≤ _; rw [e2]; exact hroom.2) hKn.2.1 rfl fun H1 kC hkC f1 f2 f3 => ?_
  have hob := u_born (tyc ci) hts (lay_ok ci hc.1) hKn hkC f1 (tyc_ok ci hc.1)
  have hkeep : ∀ (k : Nat) (x : Nat × va_E), (wl G (ρ, t, μ))[k]? = some x → H1[x.1]? = H[x.1]? := fun k x hx => f3 x.1 ((R.1 k x hx).lt)
  have hR1 : Rep G (ρ, t + 1, μ) H1 := by
    refine ⟨?_, fun _ => by show H1.size = gh G + (t + 1); rw [f2, hsz]; rfl, R.2.2⟩
    rw [wl_push]
    refine (R.1.kept hkeep).app (fun k x hx => ?_)
    have hk0 : k < 1 := (List.getElem?_eq_some_iff.mp hx).1
    rw [show k = 0 by omega] at hx
    cases hx
    rw [ce_obj hc.2.1 hc.1]
    rw [show gh G + t = H.size from hsz.symm]
    refine ⟨_, cls_ok ci hc.1, hob.to (fun j hj => ?_)⟩
    unfold vp_V
    rw [List.getD_eq_getElem?_getD, fvl_at hj, hty j hj]
    unfold fvl
    dsimp only
    rw [hz.1, hz.2]
    rfl
  refine W.cs e1 e2 ?_
  have hadr : Value.ref H.size = tv G (vR t) := by
    show _ = Value.ref (adr G t)
    rw [adr_nat, hsz]
  rw [hadr]
  exact kk G p l e s m args below meth c H1 locs ls Z C hR1 Lk (vok_c (v := vR t) trivial hS) ⟨by rw [f2]; exact Nat.le_succ_of_le hV.1, fun q h1 h2 => by rw [f3 q (Nat.lt_of_lt_of_le h1 hV.1)]; exact hV.2.1 q h1 h2, hV.2.2⟩ hfin
theorem r_newarr {n : Int} {q : Nat} {at' : ArrayType} (hd : Dc y pc (.newarray at') 2 pc') (hac : Cond.arrayClass (newarray.typeOf at') ∈ lw_g) (hat : newarray.typeOf at' = ety (kt q) ∧ ((at' = .int ∧ kt q = 0) ∨ (at' = .char ∧ kt q = 1))) (hq : 8 ≤ q ∧ kd t = q ∧ t < 219 ∧ t0 ≤ t) (hn : ((kl q : Nat) : Int) = n) (hb : kl q * 4 ≤ 536870912)
    (hz : ∀ k : Nat, μ t k = 0) (hroom : rmOK y t0 (t + 1)) (kk : SPW y t0 pc' L (vR t :: S) (ρ, t + 1, μ) r Mf) : SPW y t0 pc L (vI n :: S) (ρ, t, μ) r Mf := by
  intro G p l e s m args below meth c H locs ls Z C R Lk hS hV hfin
  obtain ⟨hd, rfl⟩ := hd
  subst hn
  have hsz := R.2.1 hq.2.2.1
  have hK := C.2.2.2.2.2.1
  have hts := C.2.2.2.2.1
  have hnr : rng (kl q : Nat) := vok_h (v := vI _) hS
  have hso : szo t = kl q := by unfold szo; rw [hq.2.1, if_neg (by omega)]
  have hmon := slt_le hq.2.2.2
  have hsl : slt (t + 1) = slt t + kl q := by rw [slt, hso]
  have e1 : t - t0 + 1 = t + 1 - t0 := by omega
  have e2 : slt t - slt t0 + kl q = slt (t + 1) - slt t0 := by rw [hsl]; omega
  have hcb : kl q * componentBytes (newarray.typeOf at') ≤ 536870912 := by
    rcases hat.2 with ⟨rfl, -⟩ | ⟨rfl, -⟩
    · exact hb
    · exact Nat.le_trans (Nat.mul_le_mul_left _ (by decide)) hb
  have hdef : defaultValue (newarray.typeOf at') = .int 0 := by
    rcases hat.2 with ⟨rfl, -⟩ | ⟨rfl, -⟩ <;> rfl
  refine va_newaK C.1 C.2.1 (hts _ hac) rfl hd rfl (N := kl q) (by rw [oi_0, oi_lt hnr rng_0]; omega) (by rw [oi_cl hnr]; rfl) hcb (by show t - t0 + 1 ≤ _; rw [e1]; exact hroom.1) (by show slt t - slt t0 + kl q ≤ _; rw [e2]; exact hroom.2) hsz fun H1 cA f1 f2 f3 f4 f5 => ?_
  have hkt : kt q < 2 := by rcases hat.2 with ⟨-, h⟩ | ⟨-, h⟩ <;> omega
  have hcA : cA = gA G (kt q) := by
    have hra := (hK.2 (kt q) _ (tys_at q (by omega))).2
    rw [hat.1] at f5
    rcases hat.2 with ⟨-, h⟩ | ⟨-, h⟩
    · rw [h] at hra f5 ⊢
      exact Option.some.inj (f5.symm.trans hra)
    · rw [h] at hra f5 ⊢
      exact Option.some.inj (f5.symm.trans hra)
  have hkeep : ∀ (k : Nat) (x : Nat × va_E), (wl G (ρ, t, μ))[k]? = some x → H1[x.1]? = H[x.1]? := fun k x hx => f3 x.1 (by rw [← hsz]; exact (R.1 k x hx).lt)
  have hR1 : Rep G (ρ, t + 1, μ) H1 := by
    refine ⟨?_, fun _ => by show H1.size = gh G + (t + 1); rw [f2]; rfl, R.2.2⟩
    rw [wl_push]
    refine (R.1.kept hkeep).app (fun k x hx => ?_)
    have hk0 : k < 1 := (List.getElem?_eq_some_iff.mp hx).1
    rw [show k = 0 by omega] at hx
    cases hx
    rw [ce_int hq.2.1 (by omega) hkt]
    show H1[gh G + t]? = some (vp_cell _ _)
    rw [f1, hcA, hdef, vp_cell_i]
    congr 2
    funext j
    dsimp only
    rw [hz j]
    rfl
  refine W.cs e1 e2 ?_
  have hadr : Value.ref (gh G + t) = tv G (vR t) := by
    show _ = Value.ref (adr G t)
    rw [adr_nat]
  rw [hadr]
  exact kk G p l e s m args below meth c H1 locs ls Z C hR1 Lk (vok_c (v := vR t) trivial (vok_t hS)) ⟨by rw [f2]; rw [← hsz]; exact Nat.le_succ_of_le hV.1, fun q h1 h2 => by rw [f3 q (by rw [← hsz]; exact Nat.lt_of_lt_of_le h1 hV.1)]; exact hV.2.1 q h1 h2, hV.2.2⟩ hfin
theorem Xw.at {s : State} (h : Xw s) {ci : Nat} (hc : ci = 0 ∨ ci = 4 ∨ ci = 3 ∨ ci = 1) : va_AO (cnm ci) s := by
  rcases hc with rfl | rfl | rfl | rfl
  · exact h.1
  · exact h.2.1
  · exact h.2.2.1
  · exact h.2.2.2.1
theorem r_newref {n : Int} {q idx ci : Nat} (hd : Dc y pc (.anewarray idx) 3 pc') (hcl : Cond.classLink (mnm y).cls idx (cnm ci) ∈ lw_g) (hci : ci = 0 ∨ ci = 4 ∨ ci = 3 ∨ ci = 1) (hat : ety (kt q) = .object (cnm ci) ∧ 2 ≤ kt q ∧ kt q < 6) (hq : 8 ≤ q ∧ kd t = q ∧ t < 219 ∧ t0 ≤ t) (hn : ((kl q : Nat) : Int) = n) (hb : kl q * 4 ≤ 536870912)
    (hz : ∀ k : Nat, ρ t k = none) (hroom : rmOK y t0 (t + 1)) (kk : SPW y t0 pc' L (vR t :: S) (ρ, t + 1, μ) r Mf) : SPW y t0 pc L (vI n :: S) (ρ, t, μ) r Mf := by
  intro G p l e s m args below meth c H locs ls Z C R Lk hS hV hfin
  obtain ⟨hd, rfl⟩ := hd
  subst hn
  have hsz := R.2.1 hq.2.2.1
  have hK := C.2.2.2.2.2.1
  have hts := C.2.2.2.2.1
  have hnr : rng (kl q : Nat) := vok_h (v := vI _) hS
  have hcl1 : (Int32.ofInt ((kl q : Nat) : Int)).toNatClampNeg = kl q := by rw [oi_cl hnr]; rfl
  have hso : szo t = kl q := by unfold szo; rw [hq.2.1, if_neg (by omega)]
  have hmon := slt_le hq.2.2.2
  have hsl : slt (t + 1) = slt t + kl q := by rw [slt, hso]
  have e1 : t - t0 + 1 = t + 1 - t0 := by omega
  have e2 : slt t - slt t0 + kl q = slt (t + 1) - slt t0 := by rw [hsl]; omega
  refine W.anew (C := cnm ci) C.1 C.2.1 C.2.2.2.1 (hts _ hcl) (va_AO.use (C.2.2.2.2.2.2.1.at hci)) rfl hd rfl (by rw [oi_0, oi_lt hnr rng_0]; omega) (by rw [hcl1]; exact hb) (by show t - t0 + 1 ≤ _; rw [e1]; exact hroom.1) (by show slt t - slt t0 + _ ≤ _; rw [hcl1, e2]; exact hroom.2) fun cA kA comp g1 g2 g3 g4 => ?_
  rw [hcl1]
  have hcA : cA = gA G (kt q) := by
    have hra := (hK.2 (kt q) _ (tys_at q hat.2.2)).2
    rw [hat.1] at hra
    obtain ⟨_, _, -, -, -, h4⟩ := hra
    exact Option.some.inj (g1.symm.trans h4)
  generalize hH1 : H.push ({ cls := cA, slots := Array.replicate (kl q) .null, vm := .none } : Cell) = H1
  have f2 : H1.size = H.size + 1 := by rw [← hH1, Array.size_push]
  have f1 : H1[H.size]? = some (arrV cA (kl q) (fun _ => .null)) := by rw [← hH1, Array.getElem?_push_size, ← arrV_new]
  have f3 : ∀ q : Nat, q < H.size → H1[q]? = H[q]? := fun q hq => by rw [← hH1, Array.getElem?_push, if_neg (Nat.ne_of_lt hq)]
  have hkeep : ∀ (k : Nat) (x : Nat × va_E), (wl G (ρ, t, μ))[k]? = some x → H1[x.1]? = H[x.1]? := fun k x hx => f3 x.1 ((R.1 k x hx).lt)
  have hR1 : Rep G (ρ, t + 1, μ) H1 := by
    refine ⟨?_, fun _ => by show H1.size = gh G + (t + 1); rw [f2, hsz]; rfl, R.2.2⟩
    rw [wl_push]
    refine (R.1.kept hkeep).app (fun k x hx => ?_)
    have hk0 : k < 1 := (List.getElem?_eq_some_iff.mp hx).1
    rw [show k = 0 by omega] at hx
    cases hx
    rw [ce_ref hq.2.1 (by omega) (by omega)]
    show H1[gh G + t]? = some (vp_cell _ _)
    rw [show gh G + t = H.size from hsz.symm]
    rw [f1, hcA, vp_cell_q]
    congr 2
    funext j
    dsimp only
    rw [hz j]
    rfl
  refine W.cs e1 e2 ?_
  have hadr : Value.ref H.size = tv G (vR t) := by
    show _ = Value.ref (adr G t)
    rw [adr_nat, hsz]
  rw [hadr]
  exact kk G p l e s m args below meth c H1 locs ls Z C hR1 Lk (vok_c (v := vR t) trivial (vok_t hS)) ⟨by rw [f2]; exact Nat.le_succ_of_le hV.1, fun q h1 h2 => by rw [f3 q (Nat.lt_of_lt_of_le h1 hV.1)]; exact hV.2.1 q h1 h2, hV.2.2⟩ hfin
theorem tv_cats (G : Gg) (S : List Vv) : ((S.map (tv G)).map fun v => v.category).sum = S.length := by
  induction S with
  | nil => rfl
  | cons v S ih =>
    simp only [List.map_cons, List.sum_cons, tv_cat, List.length_cons] at ih ⊢
    omega
theorem r_obj {o : Int} {idx : Nat} (hd : Dc y pc (.invokespecial idx) 3 pc') (hl : Cond.methodLink (mnm y).cls idx Lib.objectInit ∈ lw_g) (hR : 1 ≤ (mrm y).frames ∧ 12 + S.length ≤ (mrm y).locals) (kk : SPW y t0 pc' L S (ρ, t, μ) r Mf) : SPW y t0 pc L (vR o :: S) (ρ, t, μ) r Mf := by
  intro G p l e s m args below meth c H locs ls Z C R Lk hS hV hfin
  obtain ⟨hd, rfl⟩ := hd
  have hts := C.2.2.2.2.1
  exact W.objInit C.1 C.2.1 C.2.2.2.1 (hts _ hl) (hts _ inst_obj) (hts _ code_obj) rfl (Lk.1.trans C.2.2.1.symm) rfl hd hR.1 (by rw [tv_cats]; show 2 * 0 + _ + 12 ≤ _; omega) (kk G p l e s m args below meth c H locs ls Z C R Lk (vok_t hS) hV hfin)
theorem r_min {x z : Int} {idx : Nat} (hd : Dc y pc (.invokestatic idx) 3 pc') (hl : Cond.methodLink (mnm y).cls idx Lib.Math.min.name ∈ lw_g) (hR : 1 ≤ (mrm y).frames ∧ 13 + S.length ≤ (mrm y).locals) (hroom : rmOK y t0 t) (kk : SPW y t0 pc' L (vI (if z < x then z else x) :: S) (ρ, t, μ) r Mf) : SPW y t0 pc L (vI z :: vI x :: S) (ρ, t, μ) r Mf := by
  intro G p l e s m args below meth c H locs ls Z C R Lk hS hV hfin
  obtain ⟨hd, rfl⟩ := hd
  have hts := C.2.2.2.2.1
  have hz : rng z := vok_h hS
  have hx : rng x := vok_h (vok_t hS)
  refine va_mmin C.1 C.2.1 (C.2.2.1.trans Lk.1.symm) C.2.2.2.1 (hts _ hl) (hts _ stat_min) (hts _ ini_Math) (hts _ code_min) hR.1 (by rw [tv_cats]; omega) hroom.1 hroom.2 hd ?_
  have he : (if Int32.ofInt z < Int32.ofInt x then Int32.ofInt z else Int32.ofInt x) = Int32.ofInt (if z < x then z else x) := by
    by_cases h : z < x
    · rw [if_pos h, if_pos ((oi_lt hz hx).mpr h)]
    · rw [if_neg h, if_neg (fun q => h ((oi_lt hz hx).mp q))]
  rw [he]
  exact kk G p l e s m args below meth c H locs ls Z C R Lk (vok_c (v := vI _) (by show rng _; split <;> assumption) (vok_t (vok_t hS))) hV hfin
end RN
theorem Xw.warm {s U : State} (h : Xw s) (hW : s.WarmedH U.vm) : Xw U := ⟨h.1.moved hW.alike, h.2.1.moved hW.alike, h.2.2.1.moved hW.alike, h.2.2.2.1.moved hW.alike, va_Nw.warmM hW h.2.2.2.2⟩
theorem Xw.same {u U : State} (h : Xw u) (e : u.vm = U.vm) : Xw U := by
  have hal : u.vm.Alike U.vm := by rw [e]; exact Vm.Alike.refl _
  exact ⟨h.1.moved hal, h.2.1.moved hal, h.2.2.1.moved hal, h.2.2.2.1.moved hal, va_Nw.same rfl e h.2.2.2.2⟩
theorem MetP_blind (as : List Value) (G : Gg) (vs : List Vv) (M : Mm) : FrameBlind (va_Pc as (MetP G vs M)) := fun a U g mk q => ⟨q.1, q.2.1, va_K.moved (u := U) (U := U.calling g mk a) (Vm.Alike.refl U.vm) q.2.2.1, q.2.2.2.1.same (U := U.calling g mk a) rfl, ⟨va_X.moved (u := U) (U := U.calling g mk a) (Vm.Alike.refl U.vm) q.2.2.2.2.1.1, q.2.2.2.2.1.2⟩, q.2.2.2.2.2⟩
theorem good_M {y : MI} (h : Cond.code (mnm y) (mbc y) (mml y) (mrt y) ∈ lw_g) : GoodIn lw_g (wsM y) := by
  intro w hw
  rcases List.mem_cons.mp hw with rfl | hw
  · exact ⟨h, lw_good _ h⟩
  · exact ⟨hw, lw_good _ hw⟩
section RC
variable {y y' : MI} {t0 pc pc' idx n ci : Nat} {L : List (Option Vv)} {S As : List Vv} {M M1 Mf : Mm} {r r1 : Option Vv} {o : Int}
/-- what a caller owes of room: the callee's frames and words, and its cells within its own -/
def clOK (y y' : MI) (t0 : Nat) (M M1 : Mm) : Prop := (mrm y').frames + 1 ≤ (mrm y).frames ∧ 8 + (mml y' + 11) + (mrm y').locals ≤ (mrm y).locals ∧ (mrm y').cells = M1.2.1 - M.2.1 ∧ (mrm y').slots = slt M1.2.1 - slt M.2.1 ∧ t0 ≤ M.2.1 ∧ M.2.1 ≤ M1.2.1 ∧ rmOK y t0 M1.2.1
theorem cl_go {G : Gg} {p : Program} {l : Launch} {e : Env} {s : State} {m : MethodId} {args a : Array Value} {below : List Frame} {meth : Method} {c : Code} {H : Heap} {locs : List Loc} {ls : Array Slot} {Z : State → Prop} {st0 : List Value} (hcl : clOK y y' t0 M M1)
    (hr : va_Run p l e (mrm y) s m args below meth c H locs (M.2.1 - t0) (slt M.2.1 - slt t0) (M1.2.1 - M.2.1) (slt M1.2.1 - slt M.2.1) (F0 m pc ls st0) (S.map (tv G)) (MetQ G r1 M1 a) (Ah G))
    (C : Cx G y p s m args meth c) (Lk : LocOK G ls (mml y) L) (hS : ∀ v ∈ S, vok v) (hV : va_S (Ah G) s.heap H locs)
    (hfin : ∀ (H' : Heap) (locs' : List Loc) (ls' : Array Slot) (pc' : Nat), Rep G Mf H' → va_S (Ah G) s.heap H' locs' → (∀ v, r = some v → vok v) → decode (mbc y) pc' = .ok (retI (mrt y), 1) →
      W p l e (mrm y) s m args below meth c H' locs' (Mf.2.1 - t0) (slt Mf.2.1 - slt t0) Z (F0 m pc' ls' (r.toList.map (tv G))))
    (kk : SPW y t0 (pc + 3) L (r1.toList ++ S) M1 r Mf) : W p l e (mrm y) s m args below meth c H locs (M.2.1 - t0) (slt M.2.1 - slt t0) Z (F0 m pc ls st0) := by
  intro T hT X
  obtain ⟨v, st₀, t, T', L2, h0, X', hL, e1, e2, hq, st⟩ := hr T hT X
  obtain ⟨hv, hR1, hvk, hF⟩ := hq
  have hv' : v = r1.map (tv G) := by cases hv; rfl
  subst hv'
  obtain ⟨-, -, -, -, g1, g2, -⟩ := hcl
  have m1 := slt_le g1
  have m2 := slt_le g2
  rw [show M.2.1 - t0 + (M1.2.1 - M.2.1) = M1.2.1 - t0 by omega, show slt M.2.1 - slt t0 + (slt M1.2.1 - slt M.2.1) = slt M1.2.1 - slt t0 by omega] at X'
  unfold va_F at hF
  rw [h0] at hF
  have hV' : va_S (Ah G) s.heap T'.heap (locs ++ L2) := by
    refine ⟨Nat.le_trans hV.1 (by rw [e1]; exact hF.1), fun q h1 h2 => ?_, fun q hq => ?_⟩
    · rw [e1, hF.2 q (Nat.lt_of_lt_of_le h1 hV.1) h2]
      exact hV.2.1 q h1 h2
    · rcases List.mem_append.mp hq with h | h
      · exact hV.2.2 q h
      · exact hL q h
  have hS' : ∀ v ∈ r1.toList ++ S, vok v := by
    intro v hv
    rcases List.mem_append.mp hv with h | h
    · exact hvk v (by simpa using h)
    · exact hS v h
  obtain ⟨t2, a1, b1⟩ := kk G p l e s m args below meth c T'.heap (locs ++ L2) ls Z C (by rw [e1]; exact hR1) Lk hS' hV' hfin T' rfl X'
  refine ⟨t2, st t2 ?_, b1⟩
  have hst : (r1.toList ++ S).map (tv G) = (r1.map (tv G)).toList ++ S.map (tv G) := by cases r1 <;> simp
  rw [hst] at a1
  exact a1
theorem r_callV_ (hd : Dc y pc (.invokevirtual idx) 3 pc') (hl : Cond.methodLink (mnm y).cls idx (mnm y') ∈ lw_g) (ok : mOK y' n) (vi : mVirt y') (hM : MetC y' (vR o :: As) M r1 M1) (hn : As.length = n) (hv : vk M.2.1 o ci) (hc : ci < 7 ∧ cnm ci = (mnm y').cls) (hcl : clOK y y' t0 M M1) (hlen : S.length ≤ 8) (kk : SPW y t0 pc' L (r1.toList ++ S) M1 r Mf) : SPW y t0 pc L (As.reverse ++ vR o :: S) M r Mf := by
  intro G p l e s m args below meth c H locs ls Z C R Lk hS hV hfin
  obtain ⟨hd, rfl⟩ := hd
  have hts := C.2.2.2.2.1
  have hS0 : ∀ v ∈ S, vok v := fun v h => hS v (List.mem_append_right _ (List.mem_cons_of_mem _ h))
  have hAs : ∀ v ∈ vR o :: As, vok v := fun v h => (List.mem_cons.mp h).elim (fun q => by rw [q]; trivial) (fun q => hS v (List.mem_append_left _ (List.mem_reverse.mpr q)))
  have he := wl_get (G := G) (M := M) hv.1 hv.2.1
  rw [ce_obj hv.2.2 hc.1] at he
  obtain ⟨o1, o2, o3, o4, o5, o6⟩ := ok
  have hG : GoodIn lw_g (wsV (mnm y).cls idx (mnm y').cls (mnm y') (wsM y')) := by
    intro w hw
    rcases List.mem_append.mp hw with hw | hw
    · have hw' : w ∈ lw_g := by
        rcases List.mem_cons.mp hw with rfl | hw
        · exact hl
        rcases List.mem_cons.mp hw with rfl | hw
        · exact vi.1
        rcases List.mem_cons.mp hw with rfl | hw
        · exact vi.2
        rcases List.mem_cons.mp hw with rfl | hw
        · exact o5
        · cases hw
      exact ⟨hw', lw_good _ hw'⟩
    · exact good_M o1 w hw
  have cw := cwV (args := args) (s := s) (R := mrm y) (rm := mrm y') n hts hG rfl hcl.2.2.1 hcl.2.2.2.1 ⟨rfl, o3, o4, o6⟩ ⟨hcl.1, hcl.2.1⟩
  have hrec := va_recv C.2.2.2.2.2.1 R.1 (cls_ok ci hc.1) he
  rw [show (cnm ci, Tcl ci, nfd ci).1 = (mnm y').cls from hc.2] at hrec
  have run := va_runV (b := adr G o) (As := As.map (tv G)) (rest := S.map (tv G)) (g := F0 m pc ls ((As.reverse ++ vR o :: S).map (tv G))) (cells := M.2.1 - t0) (slots := slt M.2.1 - slt t0) (locs := locs) (below := below) (meth := meth) (e := e) ⟨C.1, C.2.1, C.2.2.1, C.2.2.2.1, hts⟩ (hM l G) cw
    ⟨MetP_blind _ G _ M, hrec, fun U hU hW => ⟨rfl, by rw [hU]; exact R, va_K.moved hW.alike C.2.2.2.2.2.1, C.2.2.2.2.2.2.1.warm hW, ⟨by rw [hU]; exact va_X.moved hW.alike (C.2.2.2.2.2.2.2.2.2.1.kept (hV.2.1 _ (Nat.lt_of_lt_of_le C.2.2.2.2.2.2.2.2.2.2 C.2.2.2.2.2.2.2.2.1) (Nat.not_le.mpr C.2.2.2.2.2.2.2.2.2.2))), C.2.2.2.2.2.2.2.2.2.2⟩, hAs⟩⟩ rfl (by rw [List.length_map]; exact hn) Lk.1 (by simp [tv, va_rf]) (lv_room (by rw [tv_cats]; exact hlen)) hd ⟨by have := hcl.2.2.2.2.2.2.1; have := hcl.2.2.2.2.1; have := hcl.2.2.2.2.2.1; omega, by have := hcl.2.2.2.2.2.2.2; have := slt_le hcl.2.2.2.2.1; have := slt_le hcl.2.2.2.2.2.1; omega⟩
  exact cl_go hcl run C Lk hS0 hV hfin kk
theorem r_callS_ (hd : Dc y pc (.invokestatic idx) 3 pc') (hl : Cond.methodLink (mnm y).cls idx (mnm y') ∈ lw_g) (ok : mOK y' n) (sta : Cond.static (mnm y') ∈ lw_g) (hM : MetC y' As M r1 M1) (hn : As.length = n) (hcl : clOK y y' t0 M M1) (hlen : S.length ≤ 8) (kk : SPW y t0 pc' L (r1.toList ++ S) M1 r Mf) : SPW y t0 pc L (As.reverse ++ S) M r Mf := by
  intro G p l e s m args below meth c H locs ls Z C R Lk hS hV hfin
  obtain ⟨hd, rfl⟩ := hd
  have hts := C.2.2.2.2.1
  have hS0 : ∀ v ∈ S, vok v := fun v h => hS v (List.mem_append_right _ h)
  have hAs : ∀ v ∈ As, vok v := fun v q => hS v (List.mem_append_left _ (List.mem_reverse.mpr q))
  obtain ⟨o1, o2, o3, o4, o5, o6⟩ := ok
  have cw := callB_of (args := args) (s := s) (R := mrm y) (rm := mrm y') (own := (mnm y).cls) (index := idx) n hts (good_M o1) rfl hcl.2.2.1 hcl.2.2.2.1 (hts _ o5) (hts _ hl) ⟨o3, o4, o6⟩ ⟨hcl.1, hcl.2.1⟩
  have run := va_runS (As := As.map (tv G)) (rest := S.map (tv G)) (g := F0 m pc ls ((As.reverse ++ S).map (tv G))) (cells := M.2.1 - t0) (slots := slt M.2.1 - slt t0) (locs := locs) (below := below) (meth := meth) (e := e) ⟨C.1, C.2.1, C.2.2.1, C.2.2.2.1, hts⟩ (hM l G) ⟨cw, hts _ sta⟩
    ⟨MetP_blind _ G _ M, fun U hU hW => ⟨rfl, by rw [hU]; exact R, va_K.moved hW.alike C.2.2.2.2.2.1, C.2.2.2.2.2.2.1.warm hW, ⟨by rw [hU]; exact va_X.moved hW.alike (C.2.2.2.2.2.2.2.2.2.1.kept (hV.2.1 _ (Nat.lt_of_lt_of_le C.2.2.2.2.2.2.2.2.2.2 C.2.2.2.2.2.2.2.2.1) (Nat.not_le.mpr C.2.2.2.2.2.2.2.2.2.2))), C.2.2.2.2.2.2.2.2.2.2⟩, hAs⟩⟩ rfl (by rw [List.length_map]; exact hn) Lk.1 (by simp) (lv_room (by rw [tv_cats]; exact hlen)) hd ⟨by have := hcl.2.2.2.2.2.2.1; have := hcl.2.2.2.2.1; have := hcl.2.2.2.2.2.1; omega, by have := hcl.2.2.2.2.2.2.2; have := slt_le hcl.2.2.2.2.1; have := slt_le hcl.2.2.2.2.2.1; omega⟩
  exact cl_go hcl run C Lk hS0 hV hfin kk
theorem r_callI_ (hd : Dc y pc (.invokespecial idx) 3 pc') (hl : Cond.methodLink (mnm y).cls idx (mnm y') ∈ lw_g) (ok : mOK y' n) (inst : Cond.instanceMethod (mnm y') ∈ lw_g) (hy : (mnm y').name = "<init>" ∧ mrt y' = none) (hM : MetC y' (vR o :: As) M r1 M1) (hn : As.length = n) (hcl : clOK y y' t0 M M1) (hlen : S.length ≤ 8) (kk : SPW y t0 pc' L (r1.toList ++ S) M1 r Mf) : SPW y t0 pc L (As.reverse ++ vR o :: S) M r Mf := by
  intro G p l e s m args below meth c H locs ls Z C R Lk hS hV hfin
  obtain ⟨hd, rfl⟩ := hd
  have hts := C.2.2.2.2.1
  have hS0 : ∀ v ∈ S, vok v := fun v h => hS v (List.mem_append_right _ (List.mem_cons_of_mem _ h))
  have hAs : ∀ v ∈ vR o :: As, vok v := fun v h => (List.mem_cons.mp h).elim (fun q => by rw [q]; trivial) (fun q => hS v (List.mem_append_left _ (List.mem_reverse.mpr q)))
  obtain ⟨o1, o2, o3, o4, o5, o6⟩ := ok
  have cw := callB_of (args := args) (s := s) (R := mrm y) (rm := mrm y') (own := (mnm y).cls) (index := idx) n hts (good_M o1) rfl hcl.2.2.1 hcl.2.2.2.1 (hts _ o5) (hts _ hl) ⟨o3, o4, o6⟩ ⟨hcl.1, hcl.2.1⟩
  rw [hy.2] at cw
  have run := va_runI (b := adr G o) (As := As.map (tv G)) (rest := S.map (tv G)) (g := F0 m pc ls ((As.reverse ++ vR o :: S).map (tv G))) (cells := M.2.1 - t0) (slots := slt M.2.1 - slt t0) (locs := locs) (below := below) (meth := meth) (e := e) ⟨C.1, C.2.1, C.2.2.1, C.2.2.2.1, hts⟩ (hM l G) ⟨cw, hy.1, hts _ inst⟩
    ⟨MetP_blind _ G _ M, fun U hU hW => ⟨rfl, by rw [hU]; exact R, va_K.moved hW.alike C.2.2.2.2.2.1, C.2.2.2.2.2.2.1.warm hW, ⟨by rw [hU]; exact va_X.moved hW.alike (C.2.2.2.2.2.2.2.2.2.1.kept (hV.2.1 _ (Nat.lt_of_lt_of_le C.2.2.2.2.2.2.2.2.2.2 C.2.2.2.2.2.2.2.2.1) (Nat.not_le.mpr C.2.2.2.2.2.2.2.2.2.2))), C.2.2.2.2.2.2.2.2.2.2⟩, hAs⟩⟩ rfl (by rw [List.length_map]; exact hn) Lk.1 (by simp [tv, va_rf]) (lv_room (by rw [tv_cats]; exact hlen)) hd ⟨by have := hcl.2.2.2.2.2.2.1; have := hcl.2.2.2.2.1; have := hcl.2.2.2.2.2.1; omega, by have := hcl.2.2.2.2.2.2.2; have := slt_le hcl.2.2.2.2.1; have := slt_le hcl.2.2.2.2.2.1; omega⟩
  exact cl_go hcl run C Lk hS0 hV hfin kk
end RC
theorem lv_args_at : ∀ (vs : List Value) (k : Nat), (∀ v ∈ vs, v.category = 1) → ∀ (i : Nat) (v : Value), vs[i]? = some v → (k + i, v) ∈ lv_args k vs
  | [], k, _, i, v, h => by simp at h
  | w :: vs, k, hc, i, v, h => by
    have hw : w.category = 1 := hc w List.mem_cons_self
    unfold lv_args
    rw [if_neg (by omega)]
    cases i with
    | zero =>
      rw [List.getElem?_cons_zero] at h
      cases h
      exact List.mem_cons_self
    | succ i =>
      rw [List.getElem?_cons_succ] at h
      have := lv_args_at vs (k + 1) (fun v hv => hc v (List.mem_cons_of_mem _ hv)) i v h
      rw [show k + (i + 1) = k + 1 + i by omega]
      exact List.mem_cons_of_mem _ this
theorem lg_sl_len : ∀ (vs : List Value), (∀ v ∈ vs, v.category = 1) → (lg_sl vs).length = vs.length
  | [], _ => rfl
  | w :: vs, hc => by
    have hw : w.category = 1 := hc w List.mem_cons_self
    have ih := lg_sl_len vs (fun v hv => hc v (List.mem_cons_of_mem _ hv))
    unfold lg_sl at ih ⊢
    rw [List.flatMap_cons, if_neg (by omega), List.length_append, ih]
    simp
    omega
theorem entry_loc {G : Gg} {as : List Vv} {n : Nat} (hn : as.length ≤ n) (hv : ∀ v ∈ as, vok v) : LocOK G ((lg_sl (as.map (tv G)) ++ List.replicate (n - (lg_sl (as.map (tv G))).length) Slot.unset).toArray) n (as.map some ++ List.replicate (n - as.length) none) := by
  have hc : ∀ v ∈ as.map (tv G), v.category = 1 := by
    intro v hv
    obtain ⟨w, -, rfl⟩ := List.mem_map.mp hv
    exact tv_cat G w
  have hl := lv_entry (as.map (tv G)) (n := n) (by rw [lg_sl_len _ hc, List.length_map]; exact hn)
  refine ⟨hl.1, hl.2.1, by simp; omega, fun i v h => ?_⟩
  rw [List.getElem?_append] at h
  split at h
  · rename_i hlt
    rw [List.getElem?_map] at h
    cases ha : as[i]? with
    | none => rw [ha] at h; cases h
    | some w =>
      rw [ha] at h
      cases h
      refine ⟨?_, hv v (List.mem_of_getElem? ha)⟩
      have h1 := lv_args_at (as.map (tv G)) 0 hc i (tv G v) (by rw [List.getElem?_map, ha]; rfl)
      rw [Nat.zero_add] at h1
      exact hl.2.2 _ h1
  · rename_i hlt
    have h2 := List.mem_of_getElem? h
    rw [List.mem_replicate] at h2
    cases h2.2
theorem met_of {y : MI} {as : List Vv} {M Mf : Mm} {r : Option Vv} (hw : SPW y M.2.1 0 (as.map some ++ List.replicate (mml y - as.length) none) [] M r Mf) (hn : as.length ≤ mml y) (hpl : plainName (mnm y).cls = true) (hr : rOK (mrt y) r) (hlaw : (mnm y).name ≠ "law") (h0 : 0 < M.2.1) : MetC y as M r Mf := by
  intro l G
  refine Met.ofW (cc := mbc y) (maxL := mml y) (ret := mrt y) hpl rfl ?_
  intro p e s m args below meth c s₁ B hml hpv
  obtain ⟨rfl, hR, hK, hXw, hXX, hv⟩ := hpv
  have hts := atoms_spec (ws := wsM y) B.pre
  have hown : s.vm.findClass (mnm y).cls = some m.cls := findClass_of_methodNamed B.named
  have hlocks := B.notSynchronized
  have hret := B.returns
  have hgh : gh G ≤ s.heap.size := by
    have h1 := wl_get (G := G) (M := M) (o := 0) (Int.le_refl 0) (by omega)
    have h2 := (hR.1 _ _ h1).lt
    rw [adr_pos (Int.le_refl 0)] at h2
    dsimp only at h2
    omega
  have C : Cx G y p s m (as.map (tv G)).toArray meth c := ⟨B.exec, B.bytes, hml, hown, fun w h => hts w (List.mem_cons_of_mem _ h), hK, hXw, fun h => (name_of_methodNamed B.named B.method).1.trans h, hgh, hXX⟩
  rw [lg_entry_eq]
  have hk := hw G p l e s m (as.map (tv G)).toArray below meth c s.heap [] _ (MQ below (MetQ G r Mf) (as.map (tv G)).toArray s (Mf.2.1 - M.2.1) (slt Mf.2.1 - slt M.2.1) (Ah G)) C hR (entry_loc hn hv) (fun _ h => by cases h) va_S.rf ?_
  · rw [Nat.sub_self, Nat.sub_self] at hk
    exact hk
  · intro H' locs' ls' pc' hR' hV' hvk hd
    have hq : ∀ t : State, t.heap = H' → s.WarmedH t.vm → MetQ G r Mf (as.map (tv G)).toArray s (.returned (r.map (tv G))) t := fun t ht hW => ⟨rfl, by rw [ht]; exact hR', hvk, hV'.F ht⟩
    have hx := B.exec
    have hb := B.bytes
    generalize hrt : mrt y = rt at hr hd hret
    rcases rt with _ | rt
    · cases r with
      | some v => exact hr.elim
      | none => exact W.vret hx hb hret hq hV'.2.2 hd
    · rcases r with _ | v
      · cases rt <;> exact hr.elim
      · cases rt with
        | int =>
          rcases v with x | q
          · exact W.iret hx hb hret hq hV'.2.2 hd
          · exact hr.elim
        | boolean =>
          rcases v with x | q
          · refine W.zret hx hb hret ?_ hq hV'.2.2 hd
            rcases hr with rfl | rfl <;> rfl
          · exact hr.elim
        | char =>
          rcases v with x | q
          · refine W.zret hx hb hret ?_ hq hV'.2.2 hd
            have := (pk_charN (q := x.toNat) (by have := hr.1; have := hr.2; omega)).1
            rw [oi_nI, Int.toNat_of_nonneg hr.1] at this
            exact this
          · exact hr.elim
        | object n =>
          rcases v with x | q
          · exact hr.elim
          · exact W.aret hx hb hret (Or.inl ⟨n, rfl⟩) (by cases q with | none => exact Or.inl rfl | some o => exact Or.inr ⟨_, rfl⟩) hq hV'.2.2 hd
        | _ => exact hr.elim
def cpA (μ : Int → Int → Int) (src dst n : Int) : Int → Int → Int := fun o k => if o = dst ∧ 0 ≤ k ∧ k < n then μ src k else μ o k
section RX
variable {y : MI} {t0 pc pc' tgt : Nat} {L L' : List (Option Vv)} {S : List Vv} {ρ : Int → Int → Option Int} {t : Nat} {μ : Int → Int → Int} {Mf : Mm} {r : Option Vv}
theorem wl_cpy {G : Gg} {src dst : Int} {n : Nat} {q : Nat} (hq : ¬ q < 7 ∧ kt q < 2) (hv : vk t dst q) : (wl G (ρ, t, μ)).set dst.toNat (adr G dst, .inl (gA G (kt q), kl q, .inl (va_cpy (fun j => Int32.ofInt (μ src j)) (fun j => Int32.ofInt (μ dst j)) 0 0 n))) = wl G (ρ, t, cpA μ src dst n) := by
  obtain ⟨h1, h2, h3⟩ := hv
  refine wl_set (M := (ρ, t, μ)) (M' := (ρ, t, cpA μ src dst n)) h1 rfl (fun z hz => ce_congr (fun _ => rfl) (fun j => if_neg (fun h => hz h.1))) ?_
  rw [ce_int h3 hq.1 hq.2]
  congr 4
  funext j
  show Int32.ofInt (cpA μ src dst n dst j) = va_cpy (fun j => Int32.ofInt (μ src j)) (fun j => Int32.ofInt (μ dst j)) 0 0 n j
  unfold cpA va_cpy
  by_cases hj : j < n
  · rw [if_pos ⟨rfl, by omega, by omega⟩, if_pos ⟨by omega, by omega⟩]
    simp
  · rw [if_neg (by omega), if_neg (by omega)]
theorem r_copy {src dst n : Int} {q q1 idx : Nat} (hd : Dc y pc (.invokestatic idx) 3 pc') (hl : Cond.methodLink (mnm y).cls idx arraycopyName ∈ lw_g) (hq : 8 ≤ q ∧ kt q = 0 ∧ 8 ≤ q1 ∧ kt q1 = 0) (hv : vk 219 src q1) (hw : vk 219 dst q) (hn : 0 ≤ n ∧ n ≤ (kl q : Nat) ∧ n ≤ (kl q1 : Nat)) (hR : 1 ≤ (mrm y).frames ∧ S.length + (nativeFrameWords "java/lang/System" "arraycopy" 5 + 11) ≤ (mrm y).locals) (kk : SPW y t0 pc' L S (ρ, 219, cpA μ src dst n) r Mf) : SPW y t0 pc L (vI n :: vI 0 :: vR dst :: vI 0 :: vR src :: S) (ρ, 219, μ) r Mf := by
  intro G p l e s m args below meth c H locs ls Z C R Lk hS hV hfin
  obtain ⟨hd, rfl⟩ := hd
  have hts := C.2.2.2.2.1
  have hnr : rng n := vok_h hS
  have he1 := wl_get (G := G) (M := (ρ, 219, μ)) hv.1 hv.2.1
  rw [ce_int hv.2.2 (by omega) (by omega)] at he1
  have he2 := wl_get (G := G) (M := (ρ, 219, μ)) hw.1 hw.2.1
  rw [ce_int hw.2.2 (by omega) (by omega)] at he2
  have hn1 : (Int32.ofInt n).toNatClampNeg = n.toNat := oi_cl hnr
  have h01 : (Int32.ofInt 0).toNatClampNeg = 0 := rfl
  refine va_copyi C.1 C.2.1 (C.2.2.1.trans Lk.1.symm) C.2.2.2.1 (hts _ hl) (hts _ nat_copy) (hts _ stat_copy) (hts _ ini_System) C.2.2.2.2.2.1 R.1 wl_D hV src.toNat dst.toNat (kt q1) (kt q) he1 he2 (by rw [tys_at q1 (by omega), hq.2.2.2]) (by rw [tys_at q (by omega), hq.2.1]) rfl (by decide) (by decide) (by rw [oi_0, oi_lt hnr rng_0]; omega) (by rw [hn1, h01]; omega) (by rw [hn1, h01]; omega) (fun i _ => rfl) hR.1 (by rw [tv_cats]; exact hR.2) hd (fun H1 locs1 hP' hD' hV' => ?_)
  rw [hn1, h01, wl_cpy ⟨by omega, by omega⟩ hw, Int.toNat_of_nonneg hn.1] at hP'
  refine kk G p l e s m args below meth c H1 locs1 ls Z C ⟨hP', fun z => absurd z (Nat.lt_irrefl 219), fun o k => ?_, ?_⟩ Lk (vok_t (vok_t (vok_t (vok_t (vok_t hS))))) hV' hfin
  · show rng (cpA μ src dst n o k)
    unfold cpA
    split
    · exact R.2.2.1 _ _
    · exact R.2.2.1 _ _
  · have hk : ∀ k, cpA μ src dst n (-1) k = μ (-1) k := fun k => if_neg (fun h => by have := hw.1; omega)
    exact ⟨by show cpA μ src dst n (-1) (-1) = _; rw [hk]; exact R.2.2.2.1, fun j hj => by show Int32.ofInt (cpA μ src dst n (-1) j) = _; rw [hk]; exact R.2.2.2.2 j hj⟩
/-- the memory may be said otherwise, where no object of it differs -/
theorem r_conv {ρ' : Int → Int → Option Int} {μ' : Int → Int → Int} (hc : ∀ o : Int, 0 ≤ o → o < t → ∀ k : Nat, k < szo o → (kd o < 7 → (tyk (kd o) k = 2 → ρ o k = ρ' o k) ∧ (tyk (kd o) k ≠ 2 → μ o k = μ' o k)) ∧ (7 ≤ kd o → (kt (kd o) < 2 → μ o k = μ' o k) ∧ (2 ≤ kt (kd o) → ρ o k = ρ' o k))) (hr : (∀ o k, rng (μ o k)) → ∀ o k, rng (μ' o k)) (hs : ∀ k, μ' (-1) k = μ (-1) k) (kk : SPW y t0 pc L S (ρ', t, μ') r Mf) : SPW y t0 pc L S (ρ, t, μ) r Mf := by
  intro G p l e s m args below meth c H locs ls Z C R Lk hS hV hfin
  refine kk G p l e s m args below meth c H locs ls Z C ⟨?_, R.2.1, hr R.2.2.1, ⟨by show μ' (-1) (-1) = _; rw [hs]; exact R.2.2.2.1, fun j hj => by show Int32.ofInt (μ' (-1) j) = _; rw [hs]; exact R.2.2.2.2 j hj⟩⟩ Lk hS hV hfin
  intro i q hq
  have hlt : i < t := by
    have := (List.getElem?_eq_some_iff.mp hq).1
    unfold wl at this
    simpa using this
  have h1 := wl_get (G := G) (M := (ρ', t, μ')) (o := (i : Int)) (by omega) (by show (i : Int) < (t : Int); omega)
  have h2 := wl_get (G := G) (M := (ρ, t, μ)) (o := (i : Int)) (by omega) (by show (i : Int) < (t : Int); omega)
  rw [Int.toNat_natCast] at h1 h2
  have h3 := R.1 i _ h2
  cases hq.symm.trans h1
  have ho := hc i (by omega) (by omega)
  by_cases hz : kd (i : Int) < 7
  · rw [ce_obj rfl hz] at h3 ⊢
    have e : (List.range (nfd (kd (i : Int)))).map (fvl G (ρ, t, μ) (kd (i : Int)) i) = (List.range (nfd (kd (i : Int)))).map (fvl G (ρ', t, μ') (kd (i : Int)) i) := by
      apply List.map_congr_left
      intro k hk
      have hk' := List.mem_range.mp hk
      obtain ⟨a1, -⟩ := ho k (by unfold szo; rw [if_pos hz]; exact hk')
      obtain ⟨b1, b2⟩ := a1 hz
      by_cases h2 : tyk (kd (i : Int)) k = 2
      · rw [fvl_ref h2, fvl_ref h2]
        dsimp only
        rw [b1 h2]
      · rw [fvl_int h2, fvl_int h2]
        dsimp only
        rw [b2 h2]
    rw [← e]
    exact h3
  · by_cases h2 : kt (kd (i : Int)) < 2
    · rw [ce_int rfl hz h2] at h3 ⊢
      have h3 : H[adr G i]? = some (vp_cell _ (_, .inl (fun j => Int32.ofInt (μ i j)))) := h3
      show H[adr G i]? = some (vp_cell _ (_, .inl (fun j => Int32.ofInt (μ' i j))))
      rw [h3, vp_cell_i, vp_cell_i]
      congr 1
      unfold arrV
      congr 1
      apply congrArg
      funext j
      have := ((ho j.val (by unfold szo; rw [if_neg hz]; exact j.isLt)).2 (by omega)).1 h2
      dsimp only
      rw [this]
    · rw [ce_ref rfl hz h2] at h3 ⊢
      have h3 : H[adr G i]? = some (vp_cell _ (_, .inr (.inr (.inr (.inr (fun j => (ρ i j).map (adr G))))))) := h3
      show H[adr G i]? = some (vp_cell _ (_, .inr (.inr (.inr (.inr (fun j => (ρ' i j).map (adr G)))))))
      rw [h3, vp_cell_q, vp_cell_q]
      congr 1
      unfold arrV
      congr 1
      apply congrArg
      funext j
      have := ((ho j.val (by unfold szo; rw [if_neg hz]; exact j.isLt)).2 (by omega)).2 (by omega)
      dsimp only
      rw [this]
/-- the law's script: object -1 -/
theorem r_slen (hd : Dc y pc .arraylength 1 pc') (kk : SPW y t0 pc' L (vI (μ (-1) (-1)) :: S) (ρ, t, μ) r Mf) : SPW y t0 pc L (vR (-1) :: S) (ρ, t, μ) r Mf := by
  intro G p l e s m args below meth c H locs ls Z C R Lk hS hV hfin
  obtain ⟨hd, rfl⟩ := hd
  obtain ⟨hX, hlt⟩ := C.2.2.2.2.2.2.2.2.2
  refine va_slen C.1 C.2.1 hX (Nat.lt_of_lt_of_le hlt C.2.2.2.2.2.2.2.2.1) (Nat.not_le.mpr hlt) hV hd ?_
  have he : Int32.ofNat (gL G) = Int32.ofInt (μ (-1) (-1)) := by rw [show μ (-1) (-1) = (gL G : Int) from R.2.2.2.1]; rfl
  rw [he]
  exact kk G p l e s m args below meth c H locs ls Z C R Lk (vok_c (v := vI _) (R.2.2.1 (-1) (-1)) (vok_t hS)) hV hfin
theorem r_sld {i : Int} (hd : Dc y pc .iaload 1 pc') (h0 : 0 ≤ i) (hi : i < μ (-1) (-1)) (kk : SPW y t0 pc' L (vI (μ (-1) i) :: S) (ρ, t, μ) r Mf) : SPW y t0 pc L (vI i :: vR (-1) :: S) (ρ, t, μ) r Mf := by
  intro G p l e s m args below meth c H locs ls Z C R Lk hS hV hfin
  obtain ⟨hd, rfl⟩ := hd
  obtain ⟨hX, hlt⟩ := C.2.2.2.2.2.2.2.2.2
  have hi' : i < (gL G : Int) := by rw [← show μ (-1) (-1) = (gL G : Int) from R.2.2.2.1]; exact hi
  obtain ⟨e1, e2⟩ := ix_ok (n := gL G) (vok_h hS) h0 hi'
  refine va_sld C.1 C.2.1 hX (Nat.lt_of_lt_of_le hlt C.2.2.2.2.2.2.2.2.1) (Nat.not_le.mpr hlt) hV e1 hd ?_
  rw [e2]
  have he : gx G i.toNat = Int32.ofInt (μ (-1) i) := by
    rw [← R.2.2.2.2 i.toNat (by omega), Int.toNat_of_nonneg h0]
  rw [he]
  exact kk G p l e s m args below meth c H locs ls Z C R Lk (vok_c (v := vI _) (R.2.2.1 (-1) i) (vok_t (vok_t hS))) hV hfin
end RX

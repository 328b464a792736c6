/-! the world in plain words: objects by number, ints and references by object and slot; what a method does to them (SPW), its contract (MetC) -/
abbrev Vv : Type := Int ⊕ Option Int
abbrev vI (x : Int) : Vv := .inl x
abbrev vR (o : Int) : Vv := .inr (some o)
abbrev vN : Vv := .inr none
def rng (x : Int) : Prop := -2147483648 ≤ x ∧ x ≤ 2147483647
abbrev Gg : Type := va_G × (Nat → ClassId) × Nat × Nat × Nat × (Nat → Int32)
abbrev gD (G : Gg) : va_G := G.1
abbrev gA (G : Gg) : Nat → ClassId := G.2.1
abbrev gh (G : Gg) : Nat := G.2.2.1
abbrev gs (G : Gg) : Nat := G.2.2.2.1
abbrev gL (G : Gg) : Nat := G.2.2.2.2.1
abbrev gx (G : Gg) : Nat → Int32 := G.2.2.2.2.2
abbrev Mm : Type := (Int → Int → Option Int) × Nat × (Int → Int → Int)
def adr (G : Gg) (o : Int) : Nat := if o < 0 then gs G else gh G + o.toNat
def tv (G : Gg) (v : Vv) : Value := match v with
  | .inl x => .int (Int32.ofInt x)
  | .inr r => va_rf (r.map (adr G))
def vok (v : Vv) : Prop := match v with
  | .inl x => rng x
  | .inr _ => True
theorem tv_cat (G : Gg) (v : Vv) : (tv G v).category = 1 := by
  rcases v with x | (_ | o) <;> rfl
-- Int32 of an Int
theorem oi_t {a : Int} (h : rng a) : (Int32.ofInt a).toInt = a := by
  obtain ⟨h1, h2⟩ := h
  rw [Int32.toInt_ofInt]
  exact Int.bmod_eq_of_le (by show -((Int32.size : Int) / 2) ≤ a; simp [Int32.size]; omega) (by show a < ((Int32.size : Int) + 1) / 2; simp [Int32.size]; omega)
theorem oi_eq {a b : Int} (ha : rng a) (hb : rng b) : Int32.ofInt a = Int32.ofInt b ↔ a = b := ⟨fun h => by rw [← oi_t ha, ← oi_t hb, h], fun h => by rw [h]⟩
theorem oi_lt {a b : Int} (ha : rng a) (hb : rng b) : Int32.ofInt a < Int32.ofInt b ↔ a < b := by rw [Int32.lt_iff_toInt_lt, oi_t ha, oi_t hb]
theorem oi_le {a b : Int} (ha : rng a) (hb : rng b) : Int32.ofInt a ≤ Int32.ofInt b ↔ a ≤ b := by rw [Int32.le_iff_toInt_le, oi_t ha, oi_t hb]
theorem oi_0 : (0 : Int32) = Int32.ofInt 0 := rfl
theorem rng_0 : rng 0 := ⟨by decide, by decide⟩
theorem oi_cl {a : Int} (h : rng a) : (Int32.ofInt a).toNatClampNeg = a.toNat := by
  show (Int32.ofInt a).toInt.toNat = _
  rw [oi_t h]
theorem oi_in {a : Int} {n : Nat} (h : rng a) (h0 : 0 ≤ a) (hn : a < n) : vp_in (Int32.ofInt a) n := by
  unfold vp_in
  rw [oi_cl h, oi_0, oi_lt h rng_0]
  omega
theorem oi_nI (n : Nat) : nI n = Int32.ofInt n := rfl
theorem oi_toInt (x : Int32) : Int32.ofInt x.toInt = x := Int32.ofInt_toInt x
theorem rng_toInt (x : Int32) : rng x.toInt := ⟨x.le_toInt, by have := x.toInt_lt; omega⟩
-- kinds of objects, by their numbers
def kS (j : Int) : Nat := if j = 0 then 3 else if j = 1 then 17 else if j < 18 then 0 else if j = 18 then 10 else if j = 19 then 18 else 4
def kd (o : Int) : Nat :=
  if o < 0 then 99 else if o = 0 then 6
  else if o < 79 then kS ((o - 1) % 26)
  else if o = 79 then 2 else if o = 80 then 19
  else if o < 185 then kS ((o - 81) % 26)
  else if o = 185 then 5 else if o = 186 then 16 else if o = 187 then 20
  else if o < 218 then 1 else if o = 218 then 11
  else 99
/-- an array's length, by its kind -/
def kl (k : Nat) : Nat := match k with
  | 10 => 64
  | 11 => 3
  | 12 => 472
  | 13 => 1888
  | 14 => 4
  | 15 => 60
  | 16 => 60
  | 17 => 16
  | 18 => 6
  | 19 => 4
  | _ => 30
/-- an array's sort: 0 int, 1 char, 2 Block, 3 Task, 4 State, 5 Command -/
def kt (k : Nat) : Nat := match k with
  | 16 => 1
  | 17 => 2
  | 18 => 3
  | 19 => 4
  | 20 => 5
  | _ => 0
def ety (a : Nat) : FieldType := match a with
  | 0 => .int
  | 1 => .char
  | 2 => .object (cnm 0)
  | 3 => .object (cnm 4)
  | 4 => .object (cnm 3)
  | _ => .object (cnm 1)
def tys_l (G : Gg) : List (ClassId × FieldType) := [(gA G 0, ety 0), (gA G 1, ety 1), (gA G 2, ety 2), (gA G 3, ety 3), (gA G 4, ety 4), (gA G 5, ety 5)]
def szo (o : Int) : Nat := if kd o < 7 then nfd (kd o) else kl (kd o)
def slt : Nat → Nat
  | 0 => 0
  | n + 1 => slt n + szo n
def fvl (G : Gg) (M : Mm) (ci : Nat) (o : Int) (k : Nat) : Value := if tyk ci k = 2 then tv G (.inr (M.1 o k)) else .int (Int32.ofInt (M.2.2 o k))
def ce (G : Gg) (M : Mm) (o : Int) : va_E :=
  if kd o < 7 then .inr (kd o, (List.range (nfd (kd o))).map (fvl G M (kd o) o))
  else if kt (kd o) < 2 then .inl (gA G (kt (kd o)), kl (kd o), .inl (fun j => Int32.ofInt (M.2.2 o j)))
  else .inl (gA G (kt (kd o)), kl (kd o), .inr (.inr (.inr (.inr (fun j => (M.1 o j).map (adr G))))))
def wl (G : Gg) (M : Mm) : va_W := (List.range M.2.1).map (fun i => (gh G + i, ce G M (i : Int)))
/-- the law's script is object -1, its length at -1 -/
def scr (G : Gg) (μ : Int → Int → Int) : Prop := μ (-1) (-1) = (gL G : Int) ∧ ∀ j : Nat, j < gL G → Int32.ofInt (μ (-1) j) = gx G j
/-- the heap holds the memory; how long it is matters while cells are still made -/
def Rep (G : Gg) (M : Mm) (H : Heap) : Prop := va_P (gD G) cls_l (wl G M) H ∧ (M.2.1 < 219 → H.size = gh G + M.2.1) ∧ (∀ o k, rng (M.2.2 o k)) ∧ scr G M.2.2
def vk (t : Nat) (o : Int) (ci : Nat) : Prop := 0 ≤ o ∧ o < t ∧ kd o = ci
theorem adr_pos {G : Gg} {o : Int} (h : 0 ≤ o) : adr G o = gh G + o.toNat := by
  unfold adr
  rw [if_neg (by omega)]
theorem wl_get {G : Gg} {M : Mm} {o : Int} (h0 : 0 ≤ o) (ht : o < M.2.1) : (wl G M)[o.toNat]? = some (adr G o, ce G M o) := by
  unfold wl
  rw [List.getElem?_map, List.getElem?_range (by omega), Option.map_some, adr_pos h0, Int.toNat_of_nonneg h0]
theorem wl_set {G : Gg} {M M' : Mm} {o : Int} (h0 : 0 ≤ o) (ht : M'.2.1 = M.2.1) (h : ∀ i : Int, i ≠ o → ce G M' i = ce G M i) {e : va_E} (he : ce G M' o = e) : (wl G M).set o.toNat (adr G o, e) = wl G M' := by
  subst he
  apply List.ext_getElem?
  intro i
  rw [List.getElem?_set]
  unfold wl
  simp only [List.getElem?_map, List.length_map, List.length_range, ht]
  by_cases hi : o.toNat = i
  · subst hi
    rw [if_pos rfl]
    by_cases hl : o.toNat < M.2.1
    · rw [if_pos hl, List.getElem?_range hl, Option.map_some, adr_pos h0, Int.toNat_of_nonneg h0]
    · rw [if_neg hl, List.getElem?_eq_none (by simp; omega)]
      rfl
  · rw [if_neg hi]
    by_cases hl : i < M.2.1
    · rw [List.getElem?_range hl, Option.map_some, Option.map_some, h i (by omega)]
    · rw [List.getElem?_eq_none (by simp; omega)]
      rfl
theorem wl_D {G : Gg} {M : Mm} : va_D (fun q : Nat => gh G ≤ q) (wl G M) := by
  have key : ∀ (i : Nat) (p : Nat × va_E), (wl G M)[i]? = some p → p.1 = gh G + i := by
    intro i p h
    unfold wl at h
    rw [List.getElem?_map] at h
    by_cases hl : i < M.2.1
    · rw [List.getElem?_range hl] at h
      cases h
      rfl
    · rw [List.getElem?_eq_none (by simp; omega)] at h
      cases h
  refine ⟨fun i j p q hp hq e => ?_, fun k q hq => ?_⟩
  · rw [key i p hp, key j q hq] at e
    omega
  · show gh G ≤ q.1
    rw [key k q hq]
    omega
def upM (μ : Int → Int → Int) (o k v : Int) : Int → Int → Int := fun o' k' => if o' = o ∧ k' = k then v else μ o' k'
def upR (ρ : Int → Int → Option Int) (o k : Int) (v : Option Int) : Int → Int → Option Int := fun o' k' => if o' = o ∧ k' = k then v else ρ o' k'
theorem ce_congr {G : Gg} {M M' : Mm} {o : Int} (h1 : ∀ k : Nat, M'.1 o k = M.1 o k) (h2 : ∀ k : Nat, M'.2.2 o k = M.2.2 o k) : ce G M' o = ce G M o := by
  have e1 : fvl G M' (kd o) o = fvl G M (kd o) o := by
    funext k
    unfold fvl
    rw [h1, h2]
  unfold ce
  rw [e1]
  simp only [h1, h2]
theorem fvl_at {G : Gg} {M : Mm} {ci : Nat} {o : Int} {k : Nat} (hk : k < nfd ci) : ((List.range (nfd ci)).map (fvl G M ci o))[k]? = some (fvl G M ci o k) := by
  rw [List.getElem?_map, List.getElem?_range hk]
  rfl
theorem ce_obj {G : Gg} {M : Mm} {o : Int} {ci : Nat} (h : kd o = ci) (hc : ci < 7) : ce G M o = .inr (ci, (List.range (nfd ci)).map (fvl G M ci o)) := by
  subst h
  unfold ce
  rw [if_pos hc]
theorem ce_int {G : Gg} {M : Mm} {o : Int} {q : Nat} (h : kd o = q) (hc : ¬ q < 7) (ht : kt q < 2) : ce G M o = .inl (gA G (kt q), kl q, .inl (fun j => Int32.ofInt (M.2.2 o j))) := by
  subst h
  unfold ce
  rw [if_neg hc, if_pos ht]
theorem ce_ref {G : Gg} {M : Mm} {o : Int} {q : Nat} (h : kd o = q) (hc : ¬ q < 7) (ht : ¬ kt q < 2) : ce G M o = .inl (gA G (kt q), kl q, .inr (.inr (.inr (.inr (fun j => (M.1 o j).map (adr G)))))) := by
  subst h
  unfold ce
  rw [if_neg hc, if_neg ht]
def LocOK (G : Gg) (ls : Array Slot) (n : Nat) (L : List (Option Vv)) : Prop := ls.size = n ∧ lv_wf ls ∧ L.length = n ∧ ∀ (i : Nat) (v : Vv), L[i]? = some (some v) → ls[i]? = some (.val (tv G v)) ∧ vok v
/-- words of the start that no list of words carries -/
def Xw (s : State) : Prop := va_AO (cnm 0) s ∧ va_AO (cnm 4) s ∧ va_AO (cnm 3) s ∧ va_AO (cnm 1) s ∧ va_Nw (.methodLinkNest "GuardedPool$Text" 21 (mnm mi_Cmd_init) "GuardedPool") s
def retI (r : Option FieldType) : Instr := match r with
  | none => .return_
  | some (.object _) => .areturn
  | some (.array _) => .areturn
  | some _ => .ireturn
def Cx (G : Gg) (y : MI) (p : Program) (s : State) (m : MethodId) (args : Array Value) (meth : Method) (c : Code) : Prop :=
  p.tables.exec = Jvm.exec ∧ c.code = mbc y ∧ c.maxLocals = mml y ∧ s.vm.findClass (mnm y).cls = some m.cls ∧ (∀ w ∈ lw_g, w.before args s = true) ∧ va_K (gD G) cls_l (tys_l G) s ∧ Xw s ∧ ((mnm y).name = "<init>" → meth.name = "<init>") ∧ gh G ≤ s.heap.size ∧ va_X (gs G) (gL G) (gx G) s s.heap ∧ gs G < gh G
abbrev Ah (G : Gg) : Nat → Prop := fun q => gh G ≤ q
/-- from this place of method y the method goes on to return r, with the memory Mf; t0: how many objects there were at its start -/
def SPW (y : MI) (t0 pc : Nat) (L : List (Option Vv)) (S : List Vv) (M : Mm) (r : Option Vv) (Mf : Mm) : Prop :=
  ∀ (G : Gg) (p : Program) (l : Launch) (e : Env) (s : State) (m : MethodId) (args : Array Value) (below : List Frame) (meth : Method) (c : Code) (H : Heap) (locs : List Loc) (ls : Array Slot) (Z : State → Prop),
    Cx G y p s m args meth c → Rep G M H → LocOK G ls (mml y) L → (∀ v ∈ S, vok v) → va_S (Ah G) s.heap H locs →
    (∀ (H' : Heap) (locs' : List Loc) (ls' : Array Slot) (pc' : Nat), Rep G Mf H' → va_S (Ah G) s.heap H' locs' → (∀ v, r = some v → vok v) → decode (mbc y) pc' = .ok (retI (mrt y), 1) →
      W p l e (mrm y) s m args below meth c H' locs' (Mf.2.1 - t0) (slt Mf.2.1 - slt t0) Z (F0 m pc' ls' (r.toList.map (tv G)))) →
    W p l e (mrm y) s m args below meth c H locs (M.2.1 - t0) (slt M.2.1 - slt t0) Z (F0 m pc ls (S.map (tv G)))
abbrev wsM (y : MI) : List Cond := Cond.code (mnm y) (mbc y) (mml y) (mrt y) :: lw_g
def MetP (G : Gg) (as : List Vv) (M : Mm) (U : State) : Prop := Rep G M U.heap ∧ va_K (gD G) cls_l (tys_l G) U ∧ Xw U ∧ (va_X (gs G) (gL G) (gx G) U U.heap ∧ gs G < gh G) ∧ ∀ v ∈ as, vok v
def MetQ (G : Gg) (r : Option Vv) (Mf : Mm) : Array Value → State → Outcome → State → Prop := fun _ st o t => o = .returned (r.map (tv G)) ∧ Rep G Mf t.heap ∧ (∀ v, r = some v → vok v) ∧ va_F (Ah G) st t
/-- method y's contract: called with these arguments over the memory M it returns r and leaves Mf -/
def MetC (y : MI) (as : List Vv) (M : Mm) (r : Option Vv) (Mf : Mm) : Prop :=
  ∀ (l : Launch) (G : Gg), Met l (mnm y) (wsM y) (mrm y) (va_Pc (as.map (tv G)) (MetP G as M)) (MetQ G r Mf) (Mf.2.1 - M.2.1) (slt Mf.2.1 - slt M.2.1) (Ah G)
/-- what a method may return, by its type -/
def rOK (rt : Option FieldType) (r : Option Vv) : Prop := match rt, r with
  | none, none => True
  | some .int, some (.inl _) => True
  | some .boolean, some (.inl x) => x = 0 ∨ x = 1
  | some .char, some (.inl x) => 0 ≤ x ∧ x < 65536
  | some (.object _), some (.inr _) => True
  | _, _ => False

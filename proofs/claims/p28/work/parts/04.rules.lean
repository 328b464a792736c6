/-! one row an instruction, over SPW: locals, numbers, branches -/
def Dc (y : MI) (pc : Nat) (i : Instr) (n pc' : Nat) : Prop := decode (mbc y) pc = .ok (i, n) ∧ pc + n = pc'
def Db (y : MI) (pc : Nat) (i : Instr) (off : Int) (pc' tgt : Nat) : Prop := decode (mbc y) pc = .ok (i, 3) ∧ pc + 3 = pc' ∧ (pc : Int) + off = (tgt : Int)
theorem vok_c {v : Vv} {S : List Vv} (h : vok v) (hS : ∀ w ∈ S, vok w) : ∀ w ∈ v :: S, vok w := List.forall_mem_cons.mpr ⟨h, hS⟩
theorem vok_h {v : Vv} {S : List Vv} (hS : ∀ w ∈ v :: S, vok w) : vok v := (List.forall_mem_cons.mp hS).1
theorem vok_t {v : Vv} {S : List Vv} (hS : ∀ w ∈ v :: S, vok w) : ∀ w ∈ S, vok w := (List.forall_mem_cons.mp hS).2
def lvL (G : Gg) (L : List (Option Vv)) : List (Nat × Value) := (List.range L.length).filterMap (fun i => (L[i]?.join).map (fun v => (i, tv G v)))
theorem lvL_mem {G : Gg} {L : List (Option Vv)} {i : Nat} {w : Value} (h : (i, w) ∈ lvL G L) : ∃ v, L[i]? = some (some v) ∧ w = tv G v := by
  obtain ⟨j, -, hj⟩ := List.mem_filterMap.mp h
  rw [Option.map_eq_some_iff] at hj
  obtain ⟨v, hv, he⟩ := hj
  cases he
  exact ⟨v, by simpa [Option.join_eq_some_iff] using hv, rfl⟩
theorem lvL_in {G : Gg} {L : List (Option Vv)} {i : Nat} {v : Vv} (h : L[i]? = some (some v)) : (i, tv G v) ∈ lvL G L := by
  refine List.mem_filterMap.mpr ⟨i, List.mem_range.mpr (List.getElem?_eq_some_iff.mp h).1, ?_⟩
  rw [h]
  rfl
theorem LocOK.has {G : Gg} {ls : Array Slot} {n : Nat} {L : List (Option Vv)} (h : LocOK G ls n L) : lv_has ls n (lvL G L) := by
  refine ⟨h.1, h.2.1, fun q hq => ?_⟩
  obtain ⟨i, w⟩ := q
  obtain ⟨v, hv, rfl⟩ := lvL_mem hq
  exact (h.2.2.2 i v hv).1
theorem LocOK.of {G : Gg} {ls ls' : Array Slot} {n i : Nat} {L : List (Option Vv)} {v : Vv} (h : LocOK G ls n L) (hv : vok v) (h' : lv_has ls' n ((i, tv G v) :: (lvL G L).filter (fun q => !(q.1 == i) && !(q.1 + 1 == i && q.2.category == 2)))) : LocOK G ls' n (L.set i (some v)) := by
  refine ⟨h'.1, h'.2.1, by rw [List.length_set]; exact h.2.2.1, fun j w hj => ?_⟩
  rw [List.getElem?_set] at hj
  by_cases e : i = j
  · subst e
    rw [if_pos rfl] at hj
    by_cases hl : i < L.length
    · rw [if_pos hl] at hj
      cases hj
      exact ⟨h'.2.2 (i, tv G v) List.mem_cons_self, hv⟩
    · rw [if_neg hl] at hj
      cases hj
  · rw [if_neg e] at hj
    refine ⟨h'.2.2 (j, tv G w) (List.mem_cons_of_mem _ (List.mem_filter.mpr ⟨lvL_in hj, ?_⟩)), (h.2.2.2 j w hj).2⟩
    have c1 := tv_cat G w
    have e1 : (j == i) = false := by simpa using fun q : j = i => e q.symm
    simp [e1, c1]
section RU
variable {y : MI} {t0 pc pc' tgt : Nat} {L L' : List (Option Vv)} {S : List Vv} {M Mf : Mm} {r : Option Vv}
theorem r_iconst {n : Int} (hd : Dc y pc (.iconst n) 1 pc') (hr : rng n) (kk : SPW y t0 pc' L (vI n :: S) M r Mf) : SPW y t0 pc L S M r Mf := by
  intro G p l e s m args below meth c H locs ls Z C R Lk hS hV hfin
  obtain ⟨hd, rfl⟩ := hd
  exact lv_iconst (v := Int32.ofInt n) C.1 C.2.1 hd rfl (kk G p l e s m args below meth c H locs ls Z C R Lk (vok_c hr hS) hV hfin)
theorem r_bipush {n : Int} (hd : Dc y pc (.bipush n) 2 pc') (hr : rng n) (hn : (Int8.ofInt n).toInt32 = Int32.ofInt n) (kk : SPW y t0 pc' L (vI n :: S) M r Mf) : SPW y t0 pc L S M r Mf := by
  intro G p l e s m args below meth c H locs ls Z C R Lk hS hV hfin
  obtain ⟨hd, rfl⟩ := hd
  exact lv_bipush (v := Int32.ofInt n) C.1 C.2.1 hd hn (kk G p l e s m args below meth c H locs ls Z C R Lk (vok_c hr hS) hV hfin)
theorem r_sipush {n : Int} (hd : Dc y pc (.sipush n) 3 pc') (hr : rng n) (hn : (Int16.ofInt n).toInt32 = Int32.ofInt n) (kk : SPW y t0 pc' L (vI n :: S) M r Mf) : SPW y t0 pc L S M r Mf := by
  intro G p l e s m args below meth c H locs ls Z C R Lk hS hV hfin
  obtain ⟨hd, rfl⟩ := hd
  exact lv_sipush (v := Int32.ofInt n) C.1 C.2.1 hd hn (kk G p l e s m args below meth c H locs ls Z C R Lk (vok_c hr hS) hV hfin)
theorem r_null (hd : Dc y pc .aconst_null 1 pc') (kk : SPW y t0 pc' L (vN :: S) M r Mf) : SPW y t0 pc L S M r Mf := by
  intro G p l e s m args below meth c H locs ls Z C R Lk hS hV hfin
  obtain ⟨hd, rfl⟩ := hd
  exact lv_null C.1 C.2.1 hd (kk G p l e s m args below meth c H locs ls Z C R Lk (vok_c (v := vN) trivial hS) hV hfin)
theorem r_iloadn {k : Fin 4} {x : Int} (hd : Dc y pc (.iload_n k) 1 pc') (hL : L[(k : Nat)]? = some (some (vI x))) (kk : SPW y t0 pc' L (vI x :: S) M r Mf) : SPW y t0 pc L S M r Mf := by
  intro G p l e s m args below meth c H locs ls Z C R Lk hS hV hfin
  obtain ⟨hd, rfl⟩ := hd
  obtain ⟨h1, h2⟩ := Lk.2.2.2 _ _ hL
  exact lv_iload_n C.1 C.2.1 hd rfl h1 (kk G p l e s m args below meth c H locs ls Z C R Lk (vok_c h2 hS) hV hfin)
theorem r_iload {k : Nat} {x : Int} (hd : Dc y pc (.iload k) 2 pc') (hL : L[k]? = some (some (vI x))) (kk : SPW y t0 pc' L (vI x :: S) M r Mf) : SPW y t0 pc L S M r Mf := by
  intro G p l e s m args below meth c H locs ls Z C R Lk hS hV hfin
  obtain ⟨hd, rfl⟩ := hd
  obtain ⟨h1, h2⟩ := Lk.2.2.2 _ _ hL
  exact lv_iload C.1 C.2.1 hd h1 (kk G p l e s m args below meth c H locs ls Z C R Lk (vok_c h2 hS) hV hfin)
theorem r_aloadn {k : Fin 4} {v : Option Int} (hd : Dc y pc (.aload_n k) 1 pc') (hL : L[(k : Nat)]? = some (some (.inr v))) (kk : SPW y t0 pc' L (.inr v :: S) M r Mf) : SPW y t0 pc L S M r Mf := by
  intro G p l e s m args below meth c H locs ls Z C R Lk hS hV hfin
  obtain ⟨hd, rfl⟩ := hd
  obtain ⟨h1, h2⟩ := Lk.2.2.2 _ _ hL
  cases v with
  | none => exact lv_aload_nN C.1 C.2.1 hd rfl h1 (kk G p l e s m args below meth c H locs ls Z C R Lk (vok_c h2 hS) hV hfin)
  | some o => exact lv_aload_n C.1 C.2.1 hd rfl h1 (kk G p l e s m args below meth c H locs ls Z C R Lk (vok_c h2 hS) hV hfin)
theorem r_aload {k : Nat} {v : Option Int} (hd : Dc y pc (.aload k) 2 pc') (hL : L[k]? = some (some (.inr v))) (kk : SPW y t0 pc' L (.inr v :: S) M r Mf) : SPW y t0 pc L S M r Mf := by
  intro G p l e s m args below meth c H locs ls Z C R Lk hS hV hfin
  obtain ⟨hd, rfl⟩ := hd
  obtain ⟨h1, h2⟩ := Lk.2.2.2 _ _ hL
  cases v with
  | none => exact lv_aloadN C.1 C.2.1 hd h1 (kk G p l e s m args below meth c H locs ls Z C R Lk (vok_c h2 hS) hV hfin)
  | some o => exact lv_aload C.1 C.2.1 hd h1 (kk G p l e s m args below meth c H locs ls Z C R Lk (vok_c h2 hS) hV hfin)
theorem blt_l {G : Gg} {ls : Array Slot} {n i : Nat} {L : List (Option Vv)} (h : LocOK G ls n L) (hb : Nat.blt i L.length = true) : i < n := by
  rw [← h.2.2.1]
  exact Nat.le_of_ble_eq_true hb
theorem r_istoren {k : Fin 4} {x : Int} (hd : Dc y pc (.istore_n k) 1 pc') (hb : Nat.blt k L.length = true) (hL : L.set k (some (vI x)) = L') (kk : SPW y t0 pc' L' S M r Mf) : SPW y t0 pc L (vI x :: S) M r Mf := by
  intro G p l e s m args below meth c H locs ls Z C R Lk hS hV hfin
  obtain ⟨hd, rfl⟩ := hd
  subst hL
  exact lv_istore_n C.1 C.2.1 hd rfl Lk.has (blt_l Lk hb) rfl (fun ls' h' => kk G p l e s m args below meth c H locs ls' Z C R (Lk.of (vok_h hS) h') (vok_t hS) hV hfin)
theorem r_istore {k : Nat} {x : Int} (hd : Dc y pc (.istore k) 2 pc') (hb : Nat.blt k L.length = true) (hL : L.set k (some (vI x)) = L') (kk : SPW y t0 pc' L' S M r Mf) : SPW y t0 pc L (vI x :: S) M r Mf := by
  intro G p l e s m args below meth c H locs ls Z C R Lk hS hV hfin
  obtain ⟨hd, rfl⟩ := hd
  subst hL
  exact lv_istore C.1 C.2.1 hd Lk.has (blt_l Lk hb) rfl (fun ls' h' => kk G p l e s m args below meth c H locs ls' Z C R (Lk.of (vok_h hS) h') (vok_t hS) hV hfin)
theorem r_astoren {k : Fin 4} {v : Option Int} (hd : Dc y pc (.astore_n k) 1 pc') (hb : Nat.blt k L.length = true) (hL : L.set k (some (.inr v)) = L') (kk : SPW y t0 pc' L' S M r Mf) : SPW y t0 pc L (.inr v :: S) M r Mf := by
  intro G p l e s m args below meth c H locs ls Z C R Lk hS hV hfin
  obtain ⟨hd, rfl⟩ := hd
  subst hL
  cases v with
  | none => exact lv_astore_nN C.1 C.2.1 hd rfl Lk.has (blt_l Lk hb) rfl (fun ls' h' => kk G p l e s m args below meth c H locs ls' Z C R (Lk.of (vok_h hS) h') (vok_t hS) hV hfin)
  | some o => exact lv_astore_n C.1 C.2.1 hd rfl Lk.has (blt_l Lk hb) rfl (fun ls' h' => kk G p l e s m args below meth c H locs ls' Z C R (Lk.of (vok_h hS) h') (vok_t hS) hV hfin)
theorem r_astore {k : Nat} {v : Option Int} (hd : Dc y pc (.astore k) 2 pc') (hb : Nat.blt k L.length = true) (hL : L.set k (some (.inr v)) = L') (kk : SPW y t0 pc' L' S M r Mf) : SPW y t0 pc L (.inr v :: S) M r Mf := by
  intro G p l e s m args below meth c H locs ls Z C R Lk hS hV hfin
  obtain ⟨hd, rfl⟩ := hd
  subst hL
  cases v with
  | none => exact lv_astoreN C.1 C.2.1 hd Lk.has (blt_l Lk hb) rfl (fun ls' h' => kk G p l e s m args below meth c H locs ls' Z C R (Lk.of (vok_h hS) h') (vok_t hS) hV hfin)
  | some o => exact lv_astore C.1 C.2.1 hd Lk.has (blt_l Lk hb) rfl (fun ls' h' => kk G p l e s m args below meth c H locs ls' Z C R (Lk.of (vok_h hS) h') (vok_t hS) hV hfin)
theorem r_iinc {i : Nat} {n x : Int} (hd : Dc y pc (.iinc i n) 3 pc') (hx : L[i]? = some (some (vI x))) (hr : rng (x + n)) (hL : L.set i (some (vI (x + n))) = L') (kk : SPW y t0 pc' L' S M r Mf) : SPW y t0 pc L S M r Mf := by
  intro G p l e s m args below meth c H locs ls Z C R Lk hS hV hfin
  obtain ⟨hd, rfl⟩ := hd
  subst hL
  obtain ⟨k, hk⟩ := List.getElem?_of_mem (lvL_in (G := G) hx)
  exact lv_iinc (v := Int32.ofInt (x + n)) C.1 C.2.1 hd Lk.has hk (Int32.ofInt_add x n).symm (by rw [← Lk.2.2.1]; exact (List.getElem?_eq_some_iff.mp hx).1) rfl (fun ls' h' => kk G p l e s m args below meth c H locs ls' Z C R (Lk.of (v := vI (x + n)) hr h') hS hV hfin)
theorem r_iadd {x z : Int} (hd : Dc y pc .iadd 1 pc') (hr : rng (x + z)) (kk : SPW y t0 pc' L (vI (x + z) :: S) M r Mf) : SPW y t0 pc L (vI z :: vI x :: S) M r Mf := by
  intro G p l e s m args below meth c H locs ls Z C R Lk hS hV hfin
  obtain ⟨hd, rfl⟩ := hd
  refine lv_iadd C.1 C.2.1 hd ?_
  rw [← Int32.ofInt_add]
  exact kk G p l e s m args below meth c H locs ls Z C R Lk (vok_c hr (vok_t (vok_t hS))) hV hfin
theorem r_isub {x z : Int} (hd : Dc y pc .isub 1 pc') (hr : rng (x - z)) (kk : SPW y t0 pc' L (vI (x - z) :: S) M r Mf) : SPW y t0 pc L (vI z :: vI x :: S) M r Mf := by
  intro G p l e s m args below meth c H locs ls Z C R Lk hS hV hfin
  obtain ⟨hd, rfl⟩ := hd
  refine lv_isub C.1 C.2.1 hd ?_
  rw [← Int32.ofInt_sub]
  exact kk G p l e s m args below meth c H locs ls Z C R Lk (vok_c hr (vok_t (vok_t hS))) hV hfin
theorem r_imul {x z : Int} (hd : Dc y pc .imul 1 pc') (hr : rng (x * z)) (kk : SPW y t0 pc' L (vI (x * z) :: S) M r Mf) : SPW y t0 pc L (vI z :: vI x :: S) M r Mf := by
  intro G p l e s m args below meth c H locs ls Z C R Lk hS hV hfin
  obtain ⟨hd, rfl⟩ := hd
  refine lv_imul C.1 C.2.1 hd ?_
  rw [← Int32.ofInt_mul]
  exact kk G p l e s m args below meth c H locs ls Z C R Lk (vok_c hr (vok_t (vok_t hS))) hV hfin
theorem oi_div {x z : Int} (hx : rng x) (hz : rng z) (h0 : 0 ≤ x) (h1 : 0 < z) : Int32.ofInt x / Int32.ofInt z = Int32.ofInt (x / z) ∧ rng (x / z) := by
  have a1 : 0 ≤ x / z := Int.ediv_nonneg h0 (by omega)
  have a2 : x / z ≤ x := Int.ediv_le_self z h0
  have hq : rng (x / z) := ⟨by omega, by have := hx.2; omega⟩
  refine ⟨?_, hq⟩
  apply Int32.toInt_inj.mp
  rw [oi_t hq, Int32.toInt_div, oi_t hx, oi_t hz, Int.tdiv_eq_ediv_of_nonneg h0]
  have := oi_t hq
  rw [Int32.toInt_ofInt] at this
  exact this
theorem r_idiv {x z : Int} (hd : Dc y pc .idiv 1 pc') (h0 : 0 ≤ x) (h1 : 0 < z) (kk : SPW y t0 pc' L (vI (x / z) :: S) M r Mf) : SPW y t0 pc L (vI z :: vI x :: S) M r Mf := by
  intro G p l e s m args below meth c H locs ls Z C R Lk hS hV hfin
  obtain ⟨hd, rfl⟩ := hd
  have hz : rng z := vok_h hS
  have hx : rng x := vok_h (vok_t hS)
  obtain ⟨e1, e2⟩ := oi_div hx hz h0 h1
  refine lv_idiv C.1 C.2.1 hd (by rw [oi_0, oi_eq hz rng_0]; omega) ?_
  rw [e1]
  exact kk G p l e s m args below meth c H locs ls Z C R Lk (vok_c (v := vI (x / z)) e2 (vok_t (vok_t hS))) hV hfin
theorem r_irem {x z : Int} (hd : Dc y pc .irem 1 pc') (h0 : 0 ≤ x) (h1 : 0 < z) (kk : SPW y t0 pc' L (vI (x % z) :: S) M r Mf) : SPW y t0 pc L (vI z :: vI x :: S) M r Mf := by
  intro G p l e s m args below meth c H locs ls Z C R Lk hS hV hfin
  obtain ⟨hd, rfl⟩ := hd
  have hz : rng z := vok_h hS
  have hx : rng x := vok_h (vok_t hS)
  obtain ⟨e1, e2⟩ := oi_div hx hz h0 h1
  refine lv_irem C.1 C.2.1 hd (by rw [oi_0, oi_eq hz rng_0]; omega) ?_
  have e3 : Int32.ofInt x - Int32.ofInt x / Int32.ofInt z * Int32.ofInt z = Int32.ofInt (x % z) := by
    rw [e1, ← Int32.ofInt_mul, ← Int32.ofInt_sub, Int.emod_def, Int.mul_comm]
  rw [e3]
  have a1 : 0 ≤ x % z := Int.emod_nonneg x (by omega)
  have a2 : x % z < z := Int.emod_lt_of_pos x h1
  exact kk G p l e s m args below meth c H locs ls Z C R Lk (vok_c (v := vI (x % z)) ⟨by omega, by have := hz.2; omega⟩ (vok_t (vok_t hS))) hV hfin
theorem r_dup {v : Vv} (hd : Dc y pc .dup 1 pc') (kk : SPW y t0 pc' L (v :: v :: S) M r Mf) : SPW y t0 pc L (v :: S) M r Mf := by
  intro G p l e s m args below meth c H locs ls Z C R Lk hS hV hfin
  obtain ⟨hd, rfl⟩ := hd
  exact lv_dup C.1 C.2.1 hd (tv_cat G v) (kk G p l e s m args below meth c H locs ls Z C R Lk (vok_c (vok_h hS) hS) hV hfin)
theorem r_dup2 {v w : Vv} (hd : Dc y pc .dup2 1 pc') (kk : SPW y t0 pc' L (v :: w :: v :: w :: S) M r Mf) : SPW y t0 pc L (v :: w :: S) M r Mf := by
  intro G p l e s m args below meth c H locs ls Z C R Lk hS hV hfin
  obtain ⟨hd, rfl⟩ := hd
  exact lv_dup2_11 C.1 C.2.1 hd (tv_cat G v) (tv_cat G w) (kk G p l e s m args below meth c H locs ls Z C R Lk (vok_c (vok_h hS) (vok_c (vok_h (vok_t hS)) hS)) hV hfin)
theorem r_pop {v : Vv} (hd : Dc y pc .pop 1 pc') (kk : SPW y t0 pc' L S M r Mf) : SPW y t0 pc L (v :: S) M r Mf := by
  intro G p l e s m args below meth c H locs ls Z C R Lk hS hV hfin
  obtain ⟨hd, rfl⟩ := hd
  exact lv_pop C.1 C.2.1 hd (tv_cat G v) (kk G p l e s m args below meth c H locs ls Z C R Lk (vok_t hS) hV hfin)
theorem r_goto {off : Int} (hd : Db y pc (.goto off) off pc' tgt) (kk : SPW y t0 tgt L S M r Mf) : SPW y t0 pc L S M r Mf := by
  intro G p l e s m args below meth c H locs ls Z C R Lk hS hV hfin
  exact lv_goto C.1 C.2.1 hd.1 hd.2.2 (kk G p l e s m args below meth c H locs ls Z C R Lk hS hV hfin)
theorem r_icmp_eq {x z : Int} {off : Int} (hd : Db y pc (.if_icmp .eq off) off pc' tgt) (kt : x = z → SPW y t0 tgt L S M r Mf) (kf : ¬ (x = z) → SPW y t0 pc' L S M r Mf) : SPW y t0 pc L (vI z :: vI x :: S) M r Mf := by
  intro G p l e s m args below meth c H locs ls Z C R Lk hS hV hfin
  obtain ⟨hd, rfl, ht⟩ := hd
  have hz : rng z := vok_h hS
  have hx : rng x := vok_h (vok_t hS)
  have hS' := vok_t (vok_t hS)
  exact lv_icmp_eq C.1 C.2.1 hd ht (fun q => kt (by simpa [oi_eq hx hz] using q) G p l e s m args below meth c H locs ls Z C R Lk hS' hV hfin) (fun q => kf (by simpa [oi_eq hx hz] using q) G p l e s m args below meth c H locs ls Z C R Lk hS' hV hfin)
theorem r_if_eq {x : Int} {off : Int} (hd : Db y pc (.ifCond .eq off) off pc' tgt) (kt : x = 0 → SPW y t0 tgt L S M r Mf) (kf : ¬ (x = 0) → SPW y t0 pc' L S M r Mf) : SPW y t0 pc L (vI x :: S) M r Mf := by
  intro G p l e s m args below meth c H locs ls Z C R Lk hS hV hfin
  obtain ⟨hd, rfl, ht⟩ := hd
  have hx : rng x := vok_h hS
  have hS' := vok_t hS
  exact lv_if_eq C.1 C.2.1 hd ht (fun q => kt ((oi_eq hx rng_0).mp q) G p l e s m args below meth c H locs ls Z C R Lk hS' hV hfin) (fun q => kf (fun h => q ((oi_eq hx rng_0).mpr h)) G p l e s m args below meth c H locs ls Z C R Lk hS' hV hfin)
theorem r_icmp_ne {x z : Int} {off : Int} (hd : Db y pc (.if_icmp .ne off) off pc' tgt) (kt : x ≠ z → SPW y t0 tgt L S M r Mf) (kf : ¬ (x ≠ z) → SPW y t0 pc' L S M r Mf) : SPW y t0 pc L (vI z :: vI x :: S) M r Mf := by
  intro G p l e s m args below meth c H locs ls Z C R Lk hS hV hfin
  obtain ⟨hd, rfl, ht⟩ := hd
  have hz : rng z := vok_h hS
  have hx : rng x := vok_h (vok_t hS)
  have hS' := vok_t (vok_t hS)
  exact lv_icmp_ne C.1 C.2.1 hd ht (fun q => kt (by simpa [oi_eq hx hz] using q) G p l e s m args below meth c H locs ls Z C R Lk hS' hV hfin) (fun q => kf (by simpa [oi_eq hx hz] using q) G p l e s m args below meth c H locs ls Z C R Lk hS' hV hfin)
theorem r_if_ne {x : Int} {off : Int} (hd : Db y pc (.ifCond .ne off) off pc' tgt) (kt : x ≠ 0 → SPW y t0 tgt L S M r Mf) (kf : ¬ (x ≠ 0) → SPW y t0 pc' L S M r Mf) : SPW y t0 pc L (vI x :: S) M r Mf := by
  intro G p l e s m args below meth c H locs ls Z C R Lk hS hV hfin
  obtain ⟨hd, rfl, ht⟩ := hd
  have hx : rng x := vok_h hS
  have hS' := vok_t hS
  exact lv_if_ne C.1 C.2.1 hd ht (fun q => kt (fun h => q ((oi_eq hx rng_0).mpr h)) G p l e s m args below meth c H locs ls Z C R Lk hS' hV hfin) (fun q => kf (fun h => h ((oi_eq hx rng_0).mp q)) G p l e s m args below meth c H locs ls Z C R Lk hS' hV hfin)
theorem r_icmp_lt {x z : Int} {off : Int} (hd : Db y pc (.if_icmp .lt off) off pc' tgt) (kt : x < z → SPW y t0 tgt L S M r Mf) (kf : ¬ (x < z) → SPW y t0 pc' L S M r Mf) : SPW y t0 pc L (vI z :: vI x :: S) M r Mf := by
  intro G p l e s m args below meth c H locs ls Z C R Lk hS hV hfin
  obtain ⟨hd, rfl, ht⟩ := hd
  have hz : rng z := vok_h hS
  have hx : rng x := vok_h (vok_t hS)
  have hS' := vok_t (vok_t hS)
  exact lv_icmp_lt C.1 C.2.1 hd ht (fun q => kt (by simpa [oi_lt hx hz] using q) G p l e s m args below meth c H locs ls Z C R Lk hS' hV hfin) (fun q => kf (by simpa [oi_lt hx hz] using q) G p l e s m args below meth c H locs ls Z C R Lk hS' hV hfin)
theorem r_if_lt {x : Int} {off : Int} (hd : Db y pc (.ifCond .lt off) off pc' tgt) (kt : x < 0 → SPW y t0 tgt L S M r Mf) (kf : ¬ (x < 0) → SPW y t0 pc' L S M r Mf) : SPW y t0 pc L (vI x :: S) M r Mf := by
  intro G p l e s m args below meth c H locs ls Z C R Lk hS hV hfin
  obtain ⟨hd, rfl, ht⟩ := hd
  have hx : rng x := vok_h hS
  have hS' := vok_t hS
  exact lv_if_lt C.1 C.2.1 hd ht (fun q => kt ((oi_lt hx rng_0).mp q) G p l e s m args below meth c H locs ls Z C R Lk hS' hV hfin) (fun q => kf (fun h => q ((oi_lt hx rng_0).mpr h)) G p l e s m args below meth c H locs ls Z C R Lk hS' hV hfin)
theorem r_icmp_ge {x z : Int} {off : Int} (hd : Db y pc (.if_icmp .ge off) off pc' tgt) (kt : z ≤ x → SPW y t0 tgt L S M r Mf) (kf : ¬ (z ≤ x) → SPW y t0 pc' L S M r Mf) : SPW y t0 pc L (vI z :: vI x :: S) M r Mf := by
  intro G p l e s m args below meth c H locs ls Z C R Lk hS hV hfin
  obtain ⟨hd, rfl, ht⟩ := hd
  have hz : rng z := vok_h hS
  have hx : rng x := vok_h (vok_t hS)
  have hS' := vok_t (vok_t hS)
  exact lv_icmp_ge C.1 C.2.1 hd ht (fun q => kt (by simpa [oi_le hz hx] using q) G p l e s m args below meth c H locs ls Z C R Lk hS' hV hfin) (fun q => kf (by simpa [oi_le hz hx] using q) G p l e s m args below meth c H locs ls Z C R Lk hS' hV hfin)
theorem r_if_ge {x : Int} {off : Int} (hd : Db y pc (.ifCond .ge off) off pc' tgt) (kt : 0 ≤ x → SPW y t0 tgt L S M r Mf) (kf : ¬ (0 ≤ x) → SPW y t0 pc' L S M r Mf) : SPW y t0 pc L (vI x :: S) M r Mf := by
  intro G p l e s m args below meth c H locs ls Z C R Lk hS hV hfin
  obtain ⟨hd, rfl, ht⟩ := hd
  have hx : rng x := vok_h hS
  have hS' := vok_t hS
  exact lv_if_ge C.1 C.2.1 hd ht (fun q => kt ((oi_le rng_0 hx).mp q) G p l e s m args below meth c H locs ls Z C R Lk hS' hV hfin) (fun q => kf (fun h => q ((oi_le rng_0 hx).mpr h)) G p l e s m args below meth c H locs ls Z C R Lk hS' hV hfin)
theorem r_icmp_gt {x z : Int} {off : Int} (hd : Db y pc (.if_icmp .gt off) off pc' tgt) (kt : z < x → SPW y t0 tgt L S M r Mf) (kf : ¬ (z < x) → SPW y t0 pc' L S M r Mf) : SPW y t0 pc L (vI z :: vI x :: S) M r Mf := by
  intro G p l e s m args below meth c H locs ls Z C R Lk hS hV hfin
  obtain ⟨hd, rfl, ht⟩ := hd
  have hz : rng z := vok_h hS
  have hx : rng x := vok_h (vok_t hS)
  have hS' := vok_t (vok_t hS)
  exact lv_icmp_gt C.1 C.2.1 hd ht (fun q => kt (by simpa [oi_lt hz hx] using q) G p l e s m args below meth c H locs ls Z C R Lk hS' hV hfin) (fun q => kf (by simpa [oi_lt hz hx] using q) G p l e s m args below meth c H locs ls Z C R Lk hS' hV hfin)
theorem r_if_gt {x : Int} {off : Int} (hd : Db y pc (.ifCond .gt off) off pc' tgt) (kt : 0 < x → SPW y t0 tgt L S M r Mf) (kf : ¬ (0 < x) → SPW y t0 pc' L S M r Mf) : SPW y t0 pc L (vI x :: S) M r Mf := by
  intro G p l e s m args below meth c H locs ls Z C R Lk hS hV hfin
  obtain ⟨hd, rfl, ht⟩ := hd
  have hx : rng x := vok_h hS
  have hS' := vok_t hS
  exact lv_if_gt C.1 C.2.1 hd ht (fun q => kt ((oi_lt rng_0 hx).mp q) G p l e s m args below meth c H locs ls Z C R Lk hS' hV hfin) (fun q => kf (fun h => q ((oi_lt rng_0 hx).mpr h)) G p l e s m args below meth c H locs ls Z C R Lk hS' hV hfin)
theorem r_icmp_le {x z : Int} {off : Int} (hd : Db y pc (.if_icmp .le off) off pc' tgt) (kt : x ≤ z → SPW y t0 tgt L S M r Mf) (kf : ¬ (x ≤ z) → SPW y t0 pc' L S M r Mf) : SPW y t0 pc L (vI z :: vI x :: S) M r Mf := by
  intro G p l e s m args below meth c H locs ls Z C R Lk hS hV hfin
  obtain ⟨hd, rfl, ht⟩ := hd
  have hz : rng z := vok_h hS
  have hx : rng x := vok_h (vok_t hS)
  have hS' := vok_t (vok_t hS)
  exact lv_icmp_le C.1 C.2.1 hd ht (fun q => kt (by simpa [oi_le hx hz] using q) G p l e s m args below meth c H locs ls Z C R Lk hS' hV hfin) (fun q => kf (by simpa [oi_le hx hz] using q) G p l e s m args below meth c H locs ls Z C R Lk hS' hV hfin)
theorem r_if_le {x : Int} {off : Int} (hd : Db y pc (.ifCond .le off) off pc' tgt) (kt : x ≤ 0 → SPW y t0 tgt L S M r Mf) (kf : ¬ (x ≤ 0) → SPW y t0 pc' L S M r Mf) : SPW y t0 pc L (vI x :: S) M r Mf := by
  intro G p l e s m args below meth c H locs ls Z C R Lk hS hV hfin
  obtain ⟨hd, rfl, ht⟩ := hd
  have hx : rng x := vok_h hS
  have hS' := vok_t hS
  exact lv_if_le C.1 C.2.1 hd ht (fun q => kt ((oi_le hx rng_0).mp q) G p l e s m args below meth c H locs ls Z C R Lk hS' hV hfin) (fun q => kf (fun h => q ((oi_le hx rng_0).mpr h)) G p l e s m args below meth c H locs ls Z C R Lk hS' hV hfin)
theorem r_ifnonnullR {o off : Int} (hd : Db y pc (.ifnonnull off) off pc' tgt) (kk : SPW y t0 tgt L S M r Mf) : SPW y t0 pc L (vR o :: S) M r Mf := by
  intro G p l e s m args below meth c H locs ls Z C R Lk hS hV hfin
  exact lv_ifnonnull C.1 C.2.1 hd.1 hd.2.2 (kk G p l e s m args below meth c H locs ls Z C R Lk (vok_t hS) hV hfin)
theorem r_ifnonnullN {off : Int} (hd : Db y pc (.ifnonnull off) off pc' tgt) (kk : SPW y t0 pc' L S M r Mf) : SPW y t0 pc L (vN :: S) M r Mf := by
  intro G p l e s m args below meth c H locs ls Z C R Lk hS hV hfin
  obtain ⟨hd, rfl, ht⟩ := hd
  exact lv_ifnonnullN C.1 C.2.1 hd (kk G p l e s m args below meth c H locs ls Z C R Lk (vok_t hS) hV hfin)
theorem r_ifnullR {o off : Int} (hd : Db y pc (.ifnull off) off pc' tgt) (kk : SPW y t0 pc' L S M r Mf) : SPW y t0 pc L (vR o :: S) M r Mf := by
  intro G p l e s m args below meth c H locs ls Z C R Lk hS hV hfin
  obtain ⟨hd, rfl, ht⟩ := hd
  exact lv_ifnull C.1 C.2.1 hd (kk G p l e s m args below meth c H locs ls Z C R Lk (vok_t hS) hV hfin)
theorem r_ifnullN {off : Int} (hd : Db y pc (.ifnull off) off pc' tgt) (kk : SPW y t0 tgt L S M r Mf) : SPW y t0 pc L (vN :: S) M r Mf := by
  intro G p l e s m args below meth c H locs ls Z C R Lk hS hV hfin
  exact lv_ifnullN C.1 C.2.1 hd.1 hd.2.2 (kk G p l e s m args below meth c H locs ls Z C R Lk (vok_t hS) hV hfin)
theorem adr_inj {G : Gg} {a b : Int} (ha : 0 ≤ a) (hb : 0 ≤ b) (h : adr G a = adr G b) : a = b := by
  rw [adr_pos ha, adr_pos hb] at h
  omega
theorem r_acmp_eq {a b off : Int} (hd : Db y pc (.if_acmp .eq off) off pc' tgt) (ha : 0 ≤ a) (hb : 0 ≤ b) (kt : a = b → SPW y t0 tgt L S M r Mf) (kf : ¬ a = b → SPW y t0 pc' L S M r Mf) : SPW y t0 pc L (vR b :: vR a :: S) M r Mf := by
  intro G p l e s m args below meth c H locs ls Z C R Lk hS hV hfin
  obtain ⟨hd, rfl, ht⟩ := hd
  have hS' := vok_t (vok_t hS)
  exact lv_acmp_eq (rx := some (adr G a)) (ry := some (adr G b)) C.1 C.2.1 hd ht (fun q => kt (adr_inj ha hb (Option.some.inj q)) G p l e s m args below meth c H locs ls Z C R Lk hS' hV hfin) (fun q => kf (fun z => q (by rw [z])) G p l e s m args below meth c H locs ls Z C R Lk hS' hV hfin)
theorem r_tabIn {x dflt lo hi off : Int} {offs : Array Int} {len : Nat} (hd : decode (mbc y) pc = .ok (.tableswitch dflt lo hi offs, len)) (h1 : lo ≤ x) (h2 : x ≤ hi) (ho : offs[(x - lo).toNat]? = some off) (ht : (pc : Int) + off = (tgt : Int)) (kk : SPW y t0 tgt L S M r Mf) : SPW y t0 pc L (vI x :: S) M r Mf := by
  intro G p l e s m args below meth c H locs ls Z C R Lk hS hV hfin
  have hx : rng x := vok_h hS
  exact lv_tableIn C.1 C.2.1 hd (by rw [oi_t hx]; omega) (by rw [oi_t hx]; omega) (by rw [oi_t hx]; exact ho) ht (kk G p l e s m args below meth c H locs ls Z C R Lk (vok_t hS) hV hfin)
theorem r_tabOut {x dflt lo hi : Int} {offs : Array Int} {len : Nat} (hd : decode (mbc y) pc = .ok (.tableswitch dflt lo hi offs, len)) (h : x < lo ∨ hi < x) (ht : (pc : Int) + dflt = (tgt : Int)) (kk : SPW y t0 tgt L S M r Mf) : SPW y t0 pc L (vI x :: S) M r Mf := by
  intro G p l e s m args below meth c H locs ls Z C R Lk hS hV hfin
  have hx : rng x := vok_h hS
  exact lv_tableOut C.1 C.2.1 hd (by rw [oi_t hx]; exact h) ht (kk G p l e s m args below meth c H locs ls Z C R Lk (vok_t hS) hV hfin)
theorem r_look {x dflt off : Int} {ps : Array (Int × Int)} {len : Nat} (hd : decode (mbc y) pc = .ok (.lookupswitch dflt ps, len)) (hp : (ps.toList.zip (ps.toList.drop 1)).all (fun (a, next) => a.1 < next.1) = true) (ho : Op.lookupswitch.offset ps.toList dflt x = off) (ht : (pc : Int) + off = (tgt : Int)) (kk : SPW y t0 tgt L S M r Mf) : SPW y t0 pc L (vI x :: S) M r Mf := by
  intro G p l e s m args below meth c H locs ls Z C R Lk hS hV hfin
  have hx : rng x := vok_h hS
  exact lv_lookup C.1 C.2.1 hd hp (by rw [oi_t hx]; exact ho) ht (kk G p l e s m args below meth c H locs ls Z C R Lk (vok_t hS) hV hfin)
theorem r_i2c {x : Int} (hd : Dc y pc .i2c 1 pc') (kk : SPW y t0 pc' L (vI (x % 65536) :: S) M r Mf) : SPW y t0 pc L (vI x :: S) M r Mf := by
  intro G p l e s m args below meth c H locs ls Z C R Lk hS hV hfin
  obtain ⟨hd, rfl⟩ := hd
  have hx : rng x := vok_h hS
  have a1 : 0 ≤ x % 65536 := Int.emod_nonneg x (by omega)
  have a2 : x % 65536 < 65536 := Int.emod_lt_of_pos x (by omega)
  have hq : rng (x % 65536) := ⟨by omega, by omega⟩
  refine lv_i2c (v := Int32.ofInt (x % 65536)) C.1 C.2.1 hd ?_ (kk G p l e s m args below meth c H locs ls Z C R Lk (vok_c (v := vI (x % 65536)) hq (vok_t hS)) hV hfin)
  rw [pk_char]
  have e1 : (Int32.ofInt x).toBitVec.toNat = (x % 4294967296).toNat := by
    show (BitVec.ofInt 32 x).toNat = _
    rw [BitVec.toNat_ofInt]
    rfl
  rw [e1, oi_nI]
  congr 1
  omega
theorem r_and31 {x : Int} (hd : Dc y pc .iand 1 pc') (kk : SPW y t0 pc' L (vI (x % 32) :: S) M r Mf) : SPW y t0 pc L (vI 31 :: vI x :: S) M r Mf := by
  intro G p l e s m args below meth c H locs ls Z C R Lk hS hV hfin
  obtain ⟨hd, rfl⟩ := hd
  have hx : rng x := vok_h (vok_t hS)
  have a1 : 0 ≤ x % 32 := Int.emod_nonneg x (by omega)
  have a2 : x % 32 < 32 := Int.emod_lt_of_pos x (by omega)
  have hq : rng (x % 32) := ⟨by omega, by omega⟩
  refine lv_iand C.1 C.2.1 hd ?_
  have e2 : Int32.ofInt x &&& Int32.ofInt 31 = Int32.ofInt (x % 32) := by
    rw [pk_and (Int32.ofInt x) (m := Int32.ofInt 31) 5 rfl]
    have e1 : (Int32.ofInt x).toBitVec.toNat = (x % 4294967296).toNat := by
      show (BitVec.ofInt 32 x).toNat = _
      rw [BitVec.toNat_ofInt]
      rfl
    rw [e1, oi_nI]
    congr 1
    omega
  rw [e2]
  exact kk G p l e s m args below meth c H locs ls Z C R Lk (vok_c (v := vI (x % 32)) hq (vok_t (vok_t hS))) hV hfin
theorem r_ixor {a b : Nat} (hd : Dc y pc .ixor 1 pc') (ha : a < 2147483648) (hb : b < 2147483648) (kk : SPW y t0 pc' L (vI ((a ^^^ b : Nat) : Int) :: S) M r Mf) : SPW y t0 pc L (vI (b : Int) :: vI (a : Int) :: S) M r Mf := by
  intro G p l e s m args below meth c H locs ls Z C R Lk hS hV hfin
  obtain ⟨hd, rfl⟩ := hd
  refine lv_ixor C.1 C.2.1 hd ?_
  have hlt : a ^^^ b < 2 ^ 31 := Nat.xor_lt_two_pow ha hb
  have e2 : Int32.ofInt (a : Int) ^^^ Int32.ofInt (b : Int) = Int32.ofInt ((a ^^^ b : Nat) : Int) := by
    apply Int32.toBitVec_inj.mp
    apply BitVec.eq_of_toNat_eq
    show (BitVec.ofInt 32 (a : Int) ^^^ BitVec.ofInt 32 (b : Int)).toNat = (BitVec.ofInt 32 ((a ^^^ b : Nat) : Int)).toNat
    rw [BitVec.toNat_xor, BitVec.toNat_ofInt, BitVec.toNat_ofInt, BitVec.toNat_ofInt]
    have k1 : ∀ z : Nat, z < 2147483648 → ((z : Int) % ((2 ^ 32 : Nat) : Int)).toNat = z := fun z hz => by omega
    rw [k1 a ha, k1 b hb, k1 _ hlt]
  rw [e2]
  exact kk G p l e s m args below meth c H locs ls Z C R Lk (vok_c (v := vI ((a ^^^ b : Nat) : Int)) ⟨by omega, by omega⟩ (vok_t (vok_t hS))) hV hfin
theorem r_ishl {a k : Nat} (hd : Dc y pc .ishl 1 pc') (hk : k < 32) (ha : a * 2 ^ k < 2147483648) (kk : SPW y t0 pc' L (vI ((a * 2 ^ k : Nat) : Int) :: S) M r Mf) : SPW y t0 pc L (vI (k : Int) :: vI (a : Int) :: S) M r Mf := by
  intro G p l e s m args below meth c H locs ls Z C R Lk hS hV hfin
  obtain ⟨hd, rfl⟩ := hd
  refine lv_ishl C.1 C.2.1 hd ?_
  have e1 : Int32.ofInt (k : Int) &&& 31 = nI k := by
    rw [show Int32.ofInt (k : Int) = nI k from rfl, pk_andN (by omega) 5 rfl]
    congr 1
    omega
  have e2 : Int32.ofInt (a : Int) <<< (Int32.ofInt (k : Int) &&& 31) = Int32.ofInt ((a * 2 ^ k : Nat) : Int) := by
    rw [e1]
    exact pk_shlN (nI k) k (by
      have h32 : ∀ j, j < 32 → ((nI j).toBitVec.smod 32).toNat = j := by decide
      exact h32 k hk) (by omega)
  rw [e2]
  exact kk G p l e s m args below meth c H locs ls Z C R Lk (vok_c (v := vI ((a * 2 ^ k : Nat) : Int)) ⟨by omega, by omega⟩ (vok_t (vok_t hS))) hV hfin
theorem r_ret (hd : decode (mbc y) pc = .ok (retI (mrt y), 1)) (hS0 : S = r.toList) (hM : M = Mf) : SPW y t0 pc L S M r Mf := by
  intro G p l e s m args below meth c H locs ls Z C R Lk hS hV hfin
  subst hM
  subst hS0
  exact hfin H locs ls pc R hV (fun v h => hS v (by rw [h]; exact List.mem_cons_self)) hd
end RU

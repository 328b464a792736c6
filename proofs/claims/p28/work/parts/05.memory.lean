/-! fields, arrays, new cells -/
section RM
variable {y : MI} {t0 pc pc' tgt : Nat} {L L' : List (Option Vv)} {S : List Vv} {ρ : Int → Int → Option Int} {t : Nat} {μ : Int → Int → Int} {Mf : Mm} {r : Option Vv}
theorem fvl_int {G : Gg} {M : Mm} {ci : Nat} {o : Int} {k : Nat} (h : tyk ci k ≠ 2) : fvl G M ci o k = .int (Int32.ofInt (M.2.2 o k)) := if_neg h
theorem fvl_ref {G : Gg} {M : Mm} {ci : Nat} {o : Int} {k : Nat} (h : tyk ci k = 2) : fvl G M ci o k = tv G (.inr (M.1 o k)) := if_pos h
theorem r_getI {o kI : Int} {ci k idx : Nat} (hd : Dc y pc (.getfield idx) 3 pc') (hl : Cond.fieldLink (mnm y).cls idx (cnm ci) (Tcl ci k).2.1 (Tcl ci k).2.2.1 ∈ lw_g) (hk : ((k : Nat) : Int) = kI) (hc : ci < 7 ∧ k < nfd ci ∧ tyk ci k ≠ 2) (hv : vk t o ci) (kk : SPW y t0 pc' L (vI (μ o kI) :: S) (ρ, t, μ) r Mf) : SPW y t0 pc L (vR o :: S) (ρ, t, μ) r Mf := by
  intro G p l e s m args below meth c H locs ls Z C R Lk hS hV hfin
  obtain ⟨hd, rfl⟩ := hd
  subst hk
  obtain ⟨h0, h1, h2⟩ := hv
  have he := wl_get (G := G) (M := (ρ, t, μ)) h0 h1
  rw [ce_obj h2 hc.1] at he
  refine va_get C.1 C.2.1 C.2.2.2.2.1 (fun w hw => lay_ok ci hc.1 w hw) C.2.2.2.1 C.2.2.2.2.2.1 R.1 o.toNat he (cls_ok ci hc.1) k hc.2.1 (C.2.2.2.2.1 _ hl) (fun _ h => h) (fvl_at hc.2.1) hd ?_
  rw [fvl_int hc.2.2]
  exact kk G p l e s m args below meth c H locs ls Z C R Lk (vok_c (v := vI _) (R.2.2.1 o k) (vok_t hS)) hV hfin
theorem r_getR {o : Int} {kI : Int} {ci k idx : Nat} {v : Option Int} (hd : Dc y pc (.getfield idx) 3 pc') (hl : Cond.fieldLink (mnm y).cls idx (cnm ci) (Tcl ci k).2.1 (Tcl ci k).2.2.1 ∈ lw_g) (hk : ((k : Nat) : Int) = kI) (hc : ci < 7 ∧ k < nfd ci ∧ tyk ci k = 2) (hv : vk t o ci) (hr : ρ o kI = v) (kk : SPW y t0 pc' L (.inr v :: S) (ρ, t, μ) r Mf) : SPW y t0 pc L (vR o :: S) (ρ, t, μ) r Mf := by
  intro G p l e s m args below meth c H locs ls Z C R Lk hS hV hfin
  obtain ⟨hd, rfl⟩ := hd
  subst hk
  subst hr
  obtain ⟨h0, h1, h2⟩ := hv
  have he := wl_get (G := G) (M := (ρ, t, μ)) h0 h1
  rw [ce_obj h2 hc.1] at he
  refine va_get C.1 C.2.1 C.2.2.2.2.1 (fun w hw => lay_ok ci hc.1 w hw) C.2.2.2.1 C.2.2.2.2.2.1 R.1 o.toNat he (cls_ok ci hc.1) k hc.2.1 (C.2.2.2.2.1 _ hl) (fun _ h => h) (fvl_at hc.2.1) hd ?_
  rw [fvl_ref hc.2.2]
  exact kk G p l e s m args below meth c H locs ls Z C R Lk (vok_c (v := .inr (ρ o k)) trivial (vok_t hS)) hV hfin
theorem upM_rng {μ : Int → Int → Int} {o k v : Int} (h : ∀ o k, rng (μ o k)) (hv : rng v) : ∀ o' k', rng (upM μ o k v o' k') := by
  intro o' k'
  unfold upM
  split
  · exact hv
  · exact h o' k'
theorem range_set {α : Type} {n k : Nat} {f g : Nat → α} (h : ∀ j, j ≠ k → g j = f j) (v : α) (hv : g k = v) : ((List.range n).map f).set k v = (List.range n).map g := by
  subst hv
  apply List.ext_getElem?
  intro i
  rw [List.getElem?_set]
  simp only [List.getElem?_map, List.length_map, List.length_range]
  by_cases hi : k = i
  · subst hi
    rw [if_pos rfl]
    by_cases hl : k < n
    · rw [if_pos hl, List.getElem?_range hl]
      rfl
    · rw [if_neg hl, List.getElem?_eq_none (by simp; omega)]
      rfl
  · rw [if_neg hi]
    by_cases hl : i < n
    · rw [List.getElem?_range hl, Option.map_some, Option.map_some, h i (fun q => hi q.symm)]
    · rw [List.getElem?_eq_none (by simp; omega)]
      rfl
theorem upM_ne {μ : Int → Int → Int} {o k v o' k' : Int} (h : o' ≠ o ∨ k' ≠ k) : upM μ o k v o' k' = μ o' k' := by
  unfold upM
  rw [if_neg (by omega)]
theorem upM_eq {μ : Int → Int → Int} {o k v : Int} : upM μ o k v o k = v := by
  unfold upM
  rw [if_pos ⟨rfl, rfl⟩]
theorem upR_ne {ρ : Int → Int → Option Int} {o k : Int} {v : Option Int} {o' k' : Int} (h : o' ≠ o ∨ k' ≠ k) : upR ρ o k v o' k' = ρ o' k' := by
  unfold upR
  rw [if_neg (by omega)]
theorem upR_eq {ρ : Int → Int → Option Int} {o k : Int} {v : Option Int} : upR ρ o k v o k = v := by
  unfold upR
  rw [if_pos ⟨rfl, rfl⟩]
theorem scr_up {G : Gg} {μ : Int → Int → Int} {o k v : Int} (h0 : 0 ≤ o) (h : scr G μ) : scr G (upM μ o k v) := ⟨by rw [upM_ne (Or.inl (by omega))]; exact h.1, fun j hj => by rw [upM_ne (Or.inl (by omega))]; exact h.2 j hj⟩
/-- an int field is written: the world behind it -/
theorem wl_putI {G : Gg} {o x : Int} {ci k : Nat} (hc : ci < 7 ∧ k < nfd ci ∧ tyk ci k ≠ 2) (hv : vk t o ci) : (wl G (ρ, t, μ)).set o.toNat (adr G o, .inr (ci, ((List.range (nfd ci)).map (fvl G (ρ, t, μ) ci o)).set k (.int (Int32.ofInt x)))) = wl G (ρ, t, upM μ o k x) := by
  obtain ⟨h0, h1, h2⟩ := hv
  refine wl_set (M := (ρ, t, μ)) (M' := (ρ, t, upM μ o k x)) h0 rfl (fun i hi => ce_congr (fun _ => rfl) (fun j => upM_ne (Or.inl hi))) ?_
  rw [ce_obj h2 hc.1]
  congr 2
  refine (range_set (g := fvl G (ρ, t, upM μ o k x) ci o) (fun j hj => ?_) _ ?_).symm
  · unfold fvl
    dsimp only
    rw [upM_ne (Or.inr (by omega))]
  · rw [fvl_int hc.2.2]
    dsimp only
    rw [upM_eq]
theorem wl_putR {G : Gg} {o : Int} {v : Option Int} {ci k : Nat} (hc : ci < 7 ∧ k < nfd ci ∧ tyk ci k = 2) (hv : vk t o ci) : (wl G (ρ, t, μ)).set o.toNat (adr G o, .inr (ci, ((List.range (nfd ci)).map (fvl G (ρ, t, μ) ci o)).set k (tv G (.inr v)))) = wl G (upR ρ o k v, t, μ) := by
  obtain ⟨h0, h1, h2⟩ := hv
  refine wl_set (M := (ρ, t, μ)) (M' := (upR ρ o k v, t, μ)) h0 rfl (fun i hi => ce_congr (fun j => upR_ne (Or.inl hi)) (fun _ => rfl)) ?_
  rw [ce_obj h2 hc.1]
  congr 2
  refine (range_set (g := fvl G (upR ρ o k v, t, μ) ci o) (fun j hj => ?_) _ ?_).symm
  · unfold fvl
    dsimp only
    rw [upR_ne (Or.inr (by omega))]
  · rw [fvl_ref hc.2.2]
    dsimp only
    rw [upR_eq]
theorem wl_putA {G : Gg} {o i x : Int} {q : Nat} (hq : ¬ q < 7 ∧ kt q < 2) (hv : vk t o q) (h0 : 0 ≤ i) : (wl G (ρ, t, μ)).set o.toNat (adr G o, .inl (gA G (kt q), kl q, .inl (upd (fun j => Int32.ofInt (μ o j)) i.toNat (Int32.ofInt x)))) = wl G (ρ, t, upM μ o i x) := by
  obtain ⟨h1, h2, h3⟩ := hv
  refine wl_set (M := (ρ, t, μ)) (M' := (ρ, t, upM μ o i x)) h1 rfl (fun z hz => ce_congr (fun _ => rfl) (fun j => upM_ne (Or.inl hz))) ?_
  rw [ce_int h3 hq.1 hq.2]
  congr 4
  funext j
  show Int32.ofInt (upM μ o i x o j) = upd (fun j => Int32.ofInt (μ o j)) i.toNat (Int32.ofInt x) j
  by_cases hj : j = i.toNat
  · subst hj
    rw [show ((i.toNat : Nat) : Int) = i from Int.toNat_of_nonneg h0, upM_eq]
    simp [upd]
  · rw [upM_ne (Or.inr (by omega))]
    simp [upd, hj]
theorem wl_putQ {G : Gg} {o i w : Int} {q : Nat} (hq : ¬ q < 7 ∧ ¬ kt q < 2) (hv : vk t o q) (h0 : 0 ≤ i) : (wl G (ρ, t, μ)).set o.toNat (adr G o, .inl (gA G (kt q), kl q, .inr (.inr (.inr (.inr (va_up (fun j => (ρ o j).map (adr G)) i.toNat (some (adr G w)))))))) = wl G (upR ρ o i (some w), t, μ) := by
  obtain ⟨h1, h2, h3⟩ := hv
  refine wl_set (M := (ρ, t, μ)) (M' := (upR ρ o i (some w), t, μ)) h1 rfl (fun z hz => ce_congr (fun j => upR_ne (Or.inl hz)) (fun _ => rfl)) ?_
  rw [ce_ref h3 hq.1 hq.2]
  congr 7
  funext j
  show (upR ρ o i (some w) o j).map (adr G) = va_up (fun j => (ρ o j).map (adr G)) i.toNat (some (adr G w)) j
  by_cases hj : j = i.toNat
  · subst hj
    rw [show ((i.toNat : Nat) : Int) = i from Int.toNat_of_nonneg h0, upR_eq]
    simp [va_up]
  · rw [upR_ne (Or.inr (by omega))]
    simp [va_up, hj]
/-- an int or boolean field, not final or a constructor's own -/
def putOK (ci k : Nat) (x : Int) : Prop := (tyk ci k = 0 ∧ tyc ci k = .int) ∨ (tyk ci k = 1 ∧ tyc ci k = .boolean ∧ (x = 0 ∨ x = 1))
theorem putOK.fits {ci k : Nat} {x : Int} (h : putOK ci k x) : narrow (tyc ci k) (.int (Int32.ofInt x)) = .int (Int32.ofInt x) ∧ fits (tyc ci k) (.int (Int32.ofInt x)) = true ∧ tyk ci k ≠ 2 := by
  rcases h with ⟨h1, h2⟩ | ⟨h1, h2, rfl | rfl⟩
  · rw [h2]
    exact ⟨rfl, rfl, by omega⟩
  · rw [h2]
    exact ⟨rfl, rfl, by omega⟩
  · rw [h2]
    exact ⟨rfl, rfl, by omega⟩
theorem fs_len {G : Gg} {M : Mm} {ci : Nat} {o : Int} : ((List.range (nfd ci)).map (fvl G M ci o)).length = nfd ci := by rw [List.length_map, List.length_range]
theorem r_putI {o x kI : Int} {ci k idx : Nat} (hd : Dc y pc (.putfield idx) 3 pc') (hl : Cond.fieldLink (mnm y).cls idx (cnm ci) (Tcl ci k).2.1 (Tcl ci k).2.2.1 ∈ lw_g) (hk : ((k : Nat) : Int) = kI) (hc : ci < 7 ∧ k < nfd ci) (hf : (Tcl ci k).2.2.2 = false) (hx : putOK ci k x) (hv : vk t o ci) (kk : SPW y t0 pc' L S (ρ, t, upM μ o kI x) r Mf) : SPW y t0 pc L (vI x :: vR o :: S) (ρ, t, μ) r Mf := by
  intro G p l e s m args below meth c H locs ls Z C R Lk hS hV hfin
  obtain ⟨hd, rfl⟩ := hd
  subst hk
  obtain ⟨p1, p2, p3⟩ := hx.fits
  have hv0 := hv
  obtain ⟨h0, h1, h2⟩ := hv
  have he := wl_get (G := G) (M := (ρ, t, μ)) h0 h1
  rw [ce_obj h2 hc.1] at he
  have hK := C.2.2.2.2.2.1
  have hts := C.2.2.2.2.1
  have hin : ∀ w ∈ u_ws (cnm ci) (Tcl ci) (nfd ci), w ∈ lw_g := lay_ok ci hc.1
  have hap := va_apart (own := (mnm y).cls) hts hin (tyc ci) (tyc_ok ci hc.1) (nm_ok ci hc.1) hK (cls_ok ci hc.1)
  obtain ⟨rr, hr1, cell, q1, q2, q3, q4⟩ := R.1 _ _ he
  have hr : rr = (cnm ci, Tcl ci, nfd ci) := Option.some.inj (hr1.symm.trans (cls_ok ci hc.1))
  subst hr
  obtain ⟨hSl, hfc, kC, hkC, hkind⟩ := hK.1 ci _ (cls_ok ci hc.1)
  obtain ⟨cf, kf, fi, f, hi, hsl⟩ := hSl k hc.2
  have hlay := hts _ (hin _ (u_in_lay hc.2))
  unfold u_lay at hlay
  rw [if_neg (by rw [hf]; decide)] at hlay
  have hst := (u_facts hfc hkC (u_lays hts hin hc.2) hi).1
  have h6 := u_store hfc hkC hkind hlay hi (tyc_ok ci hc.1 k hc.2) p1 p2
  refine W.putK C.1 C.2.1 (f := f) ⟨C.2.2.2.1, hts _ hl, ⟨_, _, _, hi⟩, hst⟩ (by rw [q2]; exact h6) q1 q3 (by rw [hsl]; exact k2_hasslot (q4 k hc.2)) rfl rfl hd fun H' e1 e2 e3 => ?_
  rw [hsl] at e1 ⊢
  have hat : va_at (gD G) cls_l (adr G o, .inr (ci, ((List.range (nfd ci)).map (fvl G (ρ, t, μ) ci o)).set k (.int (Int32.ofInt x)))) H' := ⟨_, cls_ok ci hc.1, t_OB.to (V := updV (vp_V ((List.range (nfd ci)).map (fvl G (ρ, t, μ) ci o))) k (.int (Int32.ofInt x))) ⟨_, e1, q2, q3, t_set q4 hap hc.2 _⟩ (fun j _ => vp_updV_set (by rw [fs_len]; exact hc.2) _ j)⟩
  have hP' := R.1.set wl_D he hat e3
  rw [wl_putI ⟨hc.1, hc.2, p3⟩ hv0] at hP'
  exact kk G p l e s m args below meth c H' _ ls Z C ⟨hP', fun q => e2.trans (R.2.1 q), ⟨upM_rng R.2.2.1 (vok_h (v := vI x) hS), scr_up hv0.1 R.2.2.2⟩⟩ Lk (vok_t (vok_t hS)) (hV.put e2 e3 (wl_D.2 _ _ he)) hfin
theorem r_putIF {o x kI : Int} {ci k idx : Nat} (hd : Dc y pc (.putfield idx) 3 pc') (hl : Cond.fieldLink (mnm y).cls idx (cnm ci) (Tcl ci k).2.1 (Tcl ci k).2.2.1 ∈ lw_g) (hk : ((k : Nat) : Int) = kI) (hc : ci < 7 ∧ k < nfd ci) (hf : (Tcl ci k).2.2.2 = true) (hin0 : (mnm y).name = "<init>") (hown : cnm ci = (mnm y).cls) (hx : putOK ci k x) (hv : vk t o ci) (kk : SPW y t0 pc' L S (ρ, t, upM μ o kI x) r Mf) : SPW y t0 pc L (vI x :: vR o :: S) (ρ, t, μ) r Mf := by
  intro G p l e s m args below meth c H locs ls Z C R Lk hS hV hfin
  obtain ⟨hd, rfl⟩ := hd
  subst hk
  obtain ⟨p1, p2, p3⟩ := hx.fits
  have hv0 := hv
  obtain ⟨h0, h1, h2⟩ := hv
  have he := wl_get (G := G) (M := (ρ, t, μ)) h0 h1
  rw [ce_obj h2 hc.1] at he
  have hK := C.2.2.2.2.2.1
  have hts := C.2.2.2.2.1
  have hin : ∀ w ∈ u_ws (cnm ci) (Tcl ci) (nfd ci), w ∈ lw_g := lay_ok ci hc.1
  have hap := va_apart (own := (mnm y).cls) hts hin (tyc ci) (tyc_ok ci hc.1) (nm_ok ci hc.1) hK (cls_ok ci hc.1)
  obtain ⟨rr, hr1, cell, q1, q2, q3, q4⟩ := R.1 _ _ he
  have hr : rr = (cnm ci, Tcl ci, nfd ci) := Option.some.inj (hr1.symm.trans (cls_ok ci hc.1))
  subst hr
  obtain ⟨hSl, hfc, kC, hkC, hkind⟩ := hK.1 ci _ (cls_ok ci hc.1)
  obtain ⟨cf, kf, fi, f, hi, hsl⟩ := hSl k hc.2
  have hst := (u_facts hfc hkC (u_lays hts hin hc.2) hi).1
  have h6 := u_fits hfc hkC hkind (u_lays hts hin hc.2) hi (tyc_ok ci hc.1 k hc.2) p1 p2
  have hlay := hts _ (hin _ (u_in_lay hc.2))
  unfold u_lay at hlay
  rw [if_pos hf] at hlay
  have hcf : m.cls = cf := by
    obtain ⟨_, _, c', _, _, _, -, -, hf', -, -, -, hown2, -⟩ := Cond.laysFinal_spec hlay
    have e1 : c' = cf := by have := hi.symm.trans hf'; simp at this; exact this.1.symm
    rw [show (Tcl ci k).1 = (mnm y).cls from hown] at hown2
    rw [← e1]; exact Option.some.inj (C.2.2.2.1.symm.trans hown2)
  refine W.putFinK C.1 C.2.1 C.2.2.2.1 (hts _ hl) hi hst hcf (C.2.2.2.2.2.2.2.1 hin0) (by rw [q2]; exact h6) q1 q3 (by rw [hsl]; exact k2_hasslot (q4 k hc.2)) rfl rfl hd fun H' e1 e2 e3 => ?_
  rw [hsl] at e1 ⊢
  have hat : va_at (gD G) cls_l (adr G o, .inr (ci, ((List.range (nfd ci)).map (fvl G (ρ, t, μ) ci o)).set k (.int (Int32.ofInt x)))) H' := ⟨_, cls_ok ci hc.1, t_OB.to (V := updV (vp_V ((List.range (nfd ci)).map (fvl G (ρ, t, μ) ci o))) k (.int (Int32.ofInt x))) ⟨_, e1, q2, q3, t_set q4 hap hc.2 _⟩ (fun j _ => vp_updV_set (by rw [fs_len]; exact hc.2) _ j)⟩
  have hP' := R.1.set wl_D he hat e3
  rw [wl_putI ⟨hc.1, hc.2, p3⟩ hv0] at hP'
  exact kk G p l e s m args below meth c H' _ ls Z C ⟨hP', fun q => e2.trans (R.2.1 q), ⟨upM_rng R.2.2.1 (vok_h (v := vI x) hS), scr_up hv0.1 R.2.2.2⟩⟩ Lk (vok_t (vok_t hS)) (hV.put e2 e3 (wl_D.2 _ _ he)) hfin
/-- a reference field -/
def putRK (ci k : Nat) : Prop := (∃ C, tyc ci k = .object C) ∨ ∃ u, tyc ci k = .array u
theorem putRK.fits {ci k : Nat} {a : Nat} (h : putRK ci k) : narrow (tyc ci k) (.ref a) = .ref a ∧ fits (tyc ci k) (.ref a) = true := by
  rcases h with ⟨C, h⟩ | ⟨u, h⟩ <;> rw [h] <;> exact ⟨rfl, rfl⟩
theorem r_putRF {o w kI : Int} {ci k idx : Nat} (hd : Dc y pc (.putfield idx) 3 pc') (hl : Cond.fieldLink (mnm y).cls idx (cnm ci) (Tcl ci k).2.1 (Tcl ci k).2.2.1 ∈ lw_g) (hk : ((k : Nat) : Int) = kI) (hc : ci < 7 ∧ k < nfd ci ∧ tyk ci k = 2) (hf : (Tcl ci k).2.2.2 = true) (hin0 : (mnm y).name = "<init>") (hown : cnm ci = (mnm y).cls) (hx : putRK ci k) (hv : vk t o ci) (kk : SPW y t0 pc' L S (upR ρ o kI (some w), t, μ) r Mf) : SPW y t0 pc L (vR w :: vR o :: S) (ρ, t, μ) r Mf := by
  intro G p l e s m args below meth c H locs ls Z C R Lk hS hV hfin
  obtain ⟨hd, rfl⟩ := hd
  subst hk
  obtain ⟨p1, p2⟩ := hx.fits (a := adr G w)
  have hv0 := hv
  obtain ⟨h0, h1, h2⟩ := hv
  have he := wl_get (G := G) (M := (ρ, t, μ)) h0 h1
  rw [ce_obj h2 hc.1] at he
  have hK := C.2.2.2.2.2.1
  have hts := C.2.2.2.2.1
  have hin : ∀ w ∈ u_ws (cnm ci) (Tcl ci) (nfd ci), w ∈ lw_g := lay_ok ci hc.1
  have hap := va_apart (own := (mnm y).cls) hts hin (tyc ci) (tyc_ok ci hc.1) (nm_ok ci hc.1) hK (cls_ok ci hc.1)
  obtain ⟨rr, hr1, cell, q1, q2, q3, q4⟩ := R.1 _ _ he
  have hr : rr = (cnm ci, Tcl ci, nfd ci) := Option.some.inj (hr1.symm.trans (cls_ok ci hc.1))
  subst hr
  obtain ⟨hSl, hfc, kC, hkC, hkind⟩ := hK.1 ci _ (cls_ok ci hc.1)
  obtain ⟨cf, kf, fi, f, hi, hsl⟩ := hSl k hc.2.1
  have hst := (u_facts hfc hkC (u_lays hts hin hc.2.1) hi).1
  have h6 := u_fits hfc hkC hkind (u_lays hts hin hc.2.1) hi (tyc_ok ci hc.1 k hc.2.1) p1 p2
  have hlay := hts _ (hin _ (u_in_lay hc.2.1))
  unfold u_lay at hlay
  rw [if_pos hf] at hlay
  have hcf : m.cls = cf := by
    obtain ⟨_, _, c', _, _, _, -, -, hf', -, -, -, hown2, -⟩ := Cond.laysFinal_spec hlay
    have e1 : c' = cf := by have := hi.symm.trans hf'; simp at this; exact this.1.symm
    rw [show (Tcl ci k).1 = (mnm y).cls from hown] at hown2
    rw [← e1]; exact Option.some.inj (C.2.2.2.1.symm.trans hown2)
  refine W.putFinK C.1 C.2.1 C.2.2.2.1 (hts _ hl) hi hst hcf (C.2.2.2.2.2.2.2.1 hin0) (by rw [q2]; exact h6) q1 q3 (by rw [hsl]; exact k2_hasslot (q4 k hc.2.1)) rfl rfl hd fun H' e1 e2 e3 => ?_
  rw [hsl] at e1 ⊢
  have hat : va_at (gD G) cls_l (adr G o, .inr (ci, ((List.range (nfd ci)).map (fvl G (ρ, t, μ) ci o)).set k (.ref (adr G w)))) H' := ⟨_, cls_ok ci hc.1, t_OB.to (V := updV (vp_V ((List.range (nfd ci)).map (fvl G (ρ, t, μ) ci o))) k (.ref (adr G w))) ⟨_, e1, q2, q3, t_set q4 hap hc.2.1 _⟩ (fun j _ => vp_updV_set (by rw [fs_len]; exact hc.2.1) _ j)⟩
  have hP' := R.1.set wl_D he hat e3
  have hP' : va_P (gD G) cls_l ((wl G (ρ, t, μ)).set o.toNat (adr G o, .inr (ci, ((List.range (nfd ci)).map (fvl G (ρ, t, μ) ci o)).set k (tv G (.inr (some w)))))) H' := hP'
  rw [wl_putR hc hv0] at hP'
  exact kk G p l e s m args below meth c H' _ ls Z C ⟨hP', fun q => e2.trans (R.2.1 q), R.2.2⟩ Lk (vok_t (vok_t hS)) (hV.put e2 e3 (wl_D.2 _ _ he)) hfin
theorem ix_ok {i : Int} {n : Nat} (h : rng i) (h0 : 0 ≤ i) (hn : i < n) : vp_in (Int32.ofInt i) n ∧ (Int32.ofInt i).toNatClampNeg = i.toNat := ⟨oi_in h h0 hn, oi_cl h⟩
theorem tys_at {G : Gg} (q : Nat) (h : kt q < 6) : (tys_l G)[kt q]? = some (gA G (kt q), ety (kt q)) := by
  generalize kt q = z at h ⊢
  rcases (show z = 0 ∨ z = 1 ∨ z = 2 ∨ z = 3 ∨ z = 4 ∨ z = 5 by omega) with rfl | rfl | rfl | rfl | rfl | rfl <;> rfl
theorem r_iald {o i : Int} {q : Nat} (hd : Dc y pc .iaload 1 pc') (hq : 8 ≤ q ∧ kt q = 0) (hv : vk t o q) (h0 : 0 ≤ i) (hn : i < (kl q : Nat)) (kk : SPW y t0 pc' L (vI (μ o i) :: S) (ρ, t, μ) r Mf) : SPW y t0 pc L (vI i :: vR o :: S) (ρ, t, μ) r Mf := by
  intro G p l e s m args below meth c H locs ls Z C R Lk hS hV hfin
  obtain ⟨hd, rfl⟩ := hd
  obtain ⟨h1, h2, h3⟩ := hv
  have he := wl_get (G := G) (M := (ρ, t, μ)) h1 h2
  rw [ce_int h3 (by omega) (by omega)] at he
  obtain ⟨e1, e2⟩ := ix_ok (n := kl q) (vok_h hS) h0 hn
  refine va_iald C.1 C.2.1 C.2.2.2.2.2.1 R.1 o.toNat (kt q) he (by rw [tys_at q (by omega), hq.2]; rfl) e1 hd ?_
  rw [e2, Int.toNat_of_nonneg h0]
  exact kk G p l e s m args below meth c H locs ls Z C R Lk (vok_c (v := vI (μ o i)) (R.2.2.1 o i) (vok_t (vok_t hS))) hV hfin
theorem r_cald {o i : Int} {q : Nat} (hd : Dc y pc .caload 1 pc') (hq : 8 ≤ q ∧ kt q = 1) (hv : vk t o q) (h0 : 0 ≤ i) (hn : i < (kl q : Nat)) (kk : SPW y t0 pc' L (vI (μ o i) :: S) (ρ, t, μ) r Mf) : SPW y t0 pc L (vI i :: vR o :: S) (ρ, t, μ) r Mf := by
  intro G p l e s m args below meth c H locs ls Z C R Lk hS hV hfin
  obtain ⟨hd, rfl⟩ := hd
  obtain ⟨h1, h2, h3⟩ := hv
  have he := wl_get (G := G) (M := (ρ, t, μ)) h1 h2
  rw [ce_int h3 (by omega) (by omega)] at he
  obtain ⟨e1, e2⟩ := ix_ok (n := kl q) (vok_h hS) h0 hn
  refine va_cald C.1 C.2.1 C.2.2.2.2.2.1 R.1 o.toNat (kt q) he (by rw [tys_at q (by omega), hq.2]; rfl) e1 hd ?_
  rw [e2, Int.toNat_of_nonneg h0]
  exact kk G p l e s m args below meth c H locs ls Z C R Lk (vok_c (v := vI (μ o i)) (R.2.2.1 o i) (vok_t (vok_t hS))) hV hfin
theorem ety_obj {a : Nat} (h1 : 2 ≤ a) : ∃ C, ety a = .object C := by
  unfold ety
  split <;> first | omega | exact ⟨_, rfl⟩
theorem r_aald {o i : Int} {q : Nat} {v : Option Int} (hd : Dc y pc .aaload 1 pc') (hq : 8 ≤ q ∧ 2 ≤ kt q ∧ kt q < 6) (hv : vk t o q) (h0 : 0 ≤ i) (hn : i < (kl q : Nat)) (hr : ρ o i = v) (kk : SPW y t0 pc' L (.inr v :: S) (ρ, t, μ) r Mf) : SPW y t0 pc L (vI i :: vR o :: S) (ρ, t, μ) r Mf := by
  intro G p l e s m args below meth c H locs ls Z C R Lk hS hV hfin
  obtain ⟨hd, rfl⟩ := hd
  subst hr
  obtain ⟨h1, h2, h3⟩ := hv
  have he := wl_get (G := G) (M := (ρ, t, μ)) h1 h2
  rw [ce_ref h3 (by omega) (by omega)] at he
  obtain ⟨e1, e2⟩ := ix_ok (n := kl q) (vok_h hS) h0 hn
  obtain ⟨cn, hcn⟩ := ety_obj hq.2.1
  refine va_aldq (C := cn) C.1 C.2.1 C.2.2.2.2.2.1 R.1 o.toNat (kt q) he (by rw [tys_at q hq.2.2, hcn]) e1 hd ?_
  rw [e2, Int.toNat_of_nonneg h0]
  exact kk G p l e s m args below meth c H locs ls Z C R Lk (vok_c (v := .inr (ρ o i)) trivial (vok_t (vok_t hS))) hV hfin
theorem r_alen {o : Int} {q : Nat} {n : Int} (hd : Dc y pc .arraylength 1 pc') (hq : 8 ≤ q ∧ kt q < 6) (hv : vk t o q) (hn : ((kl q : Nat) : Int) = n) (hnr : rng n) (kk : SPW y t0 pc' L (vI n :: S) (ρ, t, μ) r Mf) : SPW y t0 pc L (vR o :: S) (ρ, t, μ) r Mf := by
  intro G p l e s m args below meth c H locs ls Z C R Lk hS hV hfin
  obtain ⟨hd, rfl⟩ := hd
  subst hn
  obtain ⟨h1, h2, h3⟩ := hv
  have he := wl_get (G := G) (M := (ρ, t, μ)) h1 h2
  have k := kk G p l e s m args below meth c H locs ls Z C R Lk (vok_c (v := vI _) hnr (vok_t hS)) hV hfin
  by_cases hz : kt q < 2
  · rw [ce_int h3 (by omega) hz] at he
    exact va_alen C.1 C.2.1 C.2.2.2.2.2.1 R.1 o.toNat (kt q) he (tys_at q hq.2) rfl hd k
  · rw [ce_ref h3 (by omega) hz] at he
    exact va_alen C.1 C.2.1 C.2.2.2.2.2.1 R.1 o.toNat (kt q) he (tys_at q hq.2) rfl hd k
theorem r_iast {o i x : Int} {q : Nat} (hd : Dc y pc .iastore 1 pc') (hq : 8 ≤ q ∧ kt q = 0) (hv : vk t o q) (h0 : 0 ≤ i) (hn : i < (kl q : Nat)) (kk : SPW y t0 pc' L S (ρ, t, upM μ o i x) r Mf) : SPW y t0 pc L (vI x :: vI i :: vR o :: S) (ρ, t, μ) r Mf := by
  intro G p l e s m args below meth c H locs ls Z C R Lk hS hV hfin
  obtain ⟨hd, rfl⟩ := hd
  have hv0 := hv
  obtain ⟨h1, h2, h3⟩ := hv
  have he := wl_get (G := G) (M := (ρ, t, μ)) h1 h2
  rw [ce_int h3 (by omega) (by omega)] at he
  obtain ⟨e1, e2⟩ := ix_ok (n := kl q) (vok_h (vok_t hS)) h0 hn
  have ht := (C.2.2.2.2.2.1.2 (kt q) _ (tys_at q (by omega))).1
  rw [hq.2] at ht
  rw [show gA G 0 = gA G (kt q) by rw [hq.2]] at ht
  refine W.iast C.1 C.2.1 (R.1 o.toNat _ he) (ht (kl q) (fun j => .int (Int32.ofInt (μ o j)))) (fun z => by cases z) (by show ¬ (_ < 0 ∨ (arrV _ _ _).slots.size ≤ _); rw [arrV_size]; exact e1) rfl rfl hd fun H1 f1 f2 f3 => ?_
  have hat : va_at (gD G) cls_l (adr G o, .inl (gA G (kt q), kl q, .inl (upd (fun j => Int32.ofInt (μ o j)) i.toNat (Int32.ofInt x)))) H1 := by
    show H1[adr G o]? = some (vp_cell _ _)
    rw [f1]
    rw [vp_cell_i, vp_cell_i, arrV_store]
    congr 2
    funext z
    rw [e2]
    by_cases hz : z = i.toNat
    · subst hz
      simp [updV, upd]
    · simp [updV, upd, hz]
  have hP' := R.1.set wl_D he hat f3
  rw [wl_putA ⟨by omega, by omega⟩ hv0 h0] at hP'
  exact kk G p l e s m args below meth c H1 _ ls Z C ⟨hP', fun z => f2.trans (R.2.1 z), ⟨upM_rng R.2.2.1 (vok_h (v := vI x) hS), scr_up hv0.1 R.2.2.2⟩⟩ Lk (vok_t (vok_t (vok_t hS))) (hV.put f2 f3 (wl_D.2 _ _ he)) hfin
theorem r_cast {o i x : Int} {q : Nat} (hd : Dc y pc .castore 1 pc') (hq : 8 ≤ q ∧ kt q = 1) (hv : vk 219 o q) (h0 : 0 ≤ i) (hn : i < (kl q : Nat)) (hx : 0 ≤ x ∧ x < 65536) (kk : SPW y t0 pc' L S (ρ, 219, upM μ o i x) r Mf) : SPW y t0 pc L (vI x :: vI i :: vR o :: S) (ρ, 219, μ) r Mf := by
  intro G p l e s m args below meth c H locs ls Z C R Lk hS hV hfin
  obtain ⟨hd, rfl⟩ := hd
  have hv0 := hv
  obtain ⟨h1, h2, h3⟩ := hv
  have he := wl_get (G := G) (M := (ρ, 219, μ)) h1 h2
  rw [ce_int h3 (by omega) (by omega)] at he
  obtain ⟨e1, e2⟩ := ix_ok (n := kl q) (vok_h (vok_t hS)) h0 hn
  refine va_cast C.1 C.2.1 C.2.2.2.2.2.1 R.1 wl_D hV o.toNat (kt q) he (by rw [tys_at q (by omega), hq.2]; rfl) e1 hd (fun H1 locs1 hP' hD' hV' => ?_)
  have e3 : vp_nar .char (Int32.ofInt x) = Int32.ofInt x := by
    have := (pk_charN (q := x.toNat) (by omega)).1
    rw [oi_nI, Int.toNat_of_nonneg hx.1] at this
    unfold vp_nar
    rw [this]
  rw [e2, e3, wl_putA ⟨by omega, by omega⟩ hv0 h0] at hP'
  exact kk G p l e s m args below meth c H1 locs1 ls Z C ⟨hP', fun z => absurd z (Nat.lt_irrefl 219), ⟨upM_rng R.2.2.1 (vok_h (v := vI x) hS), scr_up hv0.1 R.2.2.2⟩⟩ Lk (vok_t (vok_t (vok_t hS))) hV' hfin
theorem r_aast {o i w : Int} {q ci : Nat} (hd : Dc y pc .aastore 1 pc') (hq : 8 ≤ q ∧ 2 ≤ kt q ∧ kt q < 6) (hv : vk t o q) (h0 : 0 ≤ i) (hn : i < (kl q : Nat)) (hc : ci < 7) (hw : vk t w ci) (hty : ety (kt q) = .object (cnm ci)) (kk : SPW y t0 pc' L S (upR ρ o i (some w), t, μ) r Mf) : SPW y t0 pc L (vR w :: vI i :: vR o :: S) (ρ, t, μ) r Mf := by
  intro G p l e s m args below meth c H locs ls Z C R Lk hS hV hfin
  obtain ⟨hd, rfl⟩ := hd
  have hv0 := hv
  obtain ⟨h1, h2, h3⟩ := hv
  have he := wl_get (G := G) (M := (ρ, t, μ)) h1 h2
  rw [ce_ref h3 (by omega) (by omega)] at he
  have hew := wl_get (G := G) (M := (ρ, t, μ)) hw.1 hw.2.1
  rw [ce_obj hw.2.2 hc] at hew
  obtain ⟨e1, e2⟩ := ix_ok (n := kl q) (vok_h (vok_t hS)) h0 hn
  have hlt : (Int32.ofInt i).toNatClampNeg < kl q := Nat.not_le.mp fun z => e1 (Or.inr z)
  have hneg : ¬ Int32.ofInt i < 0 := fun z => e1 (Or.inl z)
  have hK := C.2.2.2.2.2.1
  obtain ⟨rr, hr1, cellV, g1, g2, g3, -⟩ := R.1 _ _ hew
  have hcls := (hK.1 ci _ (cls_ok ci hc)).2
  have hra := (hK.2 (kt q) _ (tys_at q hq.2.2)).2
  rw [hty] at hra
  obtain ⟨kA, comp, k1, k2, k3, -⟩ := hra
  have hcomp : comp = (gD G).1 ci := Option.some.inj (k3.symm.trans hcls.1)
  subst hcomp
  obtain ⟨kC, hkC, -⟩ := hcls.2
  refine W.aast C.1 C.2.1 (R.1 _ _ he) (fun q h => by cases h) (fun h => by cases h) k1 k2 rfl hkC ⟨hneg, by show _ < (arrV _ _ _).slots.size; rw [arrV_size]; exact hlt⟩ g1 (fun q h => by rw [g3] at h; cases h) (by rw [g2]; exact hkC) (by rw [g2]; exact va_assign hcls) rfl rfl hd fun H1 f1 f2 f3 => ?_
  have hat : va_at (gD G) cls_l (adr G o, .inl (gA G (kt q), kl q, .inr (.inr (.inr (.inr (va_up (fun j => (ρ o j).map (adr G)) i.toNat (some (adr G w)))))))) H1 := by
    show H1[adr G o]? = some (vp_cell _ _)
    rw [f1]
    rw [vp_cell_q, vp_cell_q, arrV_store]
    congr 2
    funext z
    rw [e2]
    by_cases hz : z = i.toNat
    · subst hz
      simp [updV, va_up, va_rf]
    · simp [updV, va_up, hz]
  have hP' := R.1.set wl_D he hat f3
  rw [wl_putQ ⟨by omega, by omega⟩ hv0 h0] at hP'
  exact kk G p l e s m args below meth c H1 _ ls Z C ⟨hP', fun z => f2.trans (R.2.1 z), R.2.2⟩ Lk (vok_t (vok_t (vok_t hS))) (hV.put f2 f3 (wl_D.2 _ _ he)) hfin
end RM

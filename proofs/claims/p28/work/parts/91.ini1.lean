/-! constructors: rules, the small ones -/
/-- nothing has been written from object t on -/
def FZ (ρ : Int → Int → Option Int) (μ : Int → Int → Int) (t : Int) : Prop := ∀ o k, t ≤ o → μ o k = 0 ∧ ρ o k = none
theorem FZ.mono {ρ : Int → Int → Option Int} {μ : Int → Int → Int} {t t' : Int} (h : FZ ρ μ t) (ht : t ≤ t') : FZ ρ μ t' := fun o k a => h o k (Int.le_trans ht a)
theorem FZ.upM {ρ : Int → Int → Option Int} {μ : Int → Int → Int} {t o k v : Int} (h : FZ ρ μ t) (ho : o < t) : FZ ρ (upM μ o k v) t := fun o' k' a => ⟨by rw [upM_ne (Or.inl (by omega))]; exact (h o' k' a).1, (h o' k' a).2⟩
theorem FZ.upR {ρ : Int → Int → Option Int} {μ : Int → Int → Int} {t o k : Int} {v : Option Int} (h : FZ ρ μ t) (ho : o < t) : FZ (upR ρ o k v) μ t := fun o' k' a => ⟨(h o' k' a).1, by rw [upR_ne (Or.inl (by omega))]; exact (h o' k' a).2⟩
def fIs (u : FieldType) (q : Nat) : Bool := match u with
  | .object _ => q == 2
  | .array _ => q == 2
  | .int => q != 2
  | .boolean => q != 2
  | .char => q != 2
  | _ => false
theorem fIs_d {u : FieldType} {q : Nat} (h : fIs u q = true) : defaultValue u = if q = 2 then .null else .int 0 := by
  cases u <;> simp [fIs] at h <;> first | (subst h; rfl) | (rw [if_neg h]; rfl)
theorem fIs_all : ∀ ci, ci < 7 → ∀ k, k < nfd ci → fIs (tyc ci k) (tyk ci k) = true := by decide +kernel
theorem df_of {ci : Nat} (hc : ci < 7) : ∀ k, k < nfd ci → defaultValue (tyc ci k) = if tyk ci k = 2 then .null else .int 0 := fun k hk => fIs_d (fIs_all ci hc k hk)
theorem rmOK_mono {y : MI} {t0 t t' : Nat} (h : rmOK y t0 t) (ht : t' ≤ t) : rmOK y t0 t' := by
  have := slt_le ht
  have h1 := h.1
  have h2 := h.2
  exact ⟨by omega, by omega⟩
section RI0
variable {y y' : MI} {t0 pc pc' idx ci n q : Nat} {L : List (Option Vv)} {S : List Vv} {ρ : Int → Int → Option Int} {t : Nat} {μ : Int → Int → Int} {Mf : Mm} {r : Option Vv} {o : Int}
theorem r_nwO (hd : Dc y pc (.new idx) 3 pc') (hcl : Cond.classLink (mnm y).cls idx (cnm ci) ∈ lw_g) (his : Cond.instantiable (cnm ci) (nfd ci) ∈ lw_g) (hini : Cond.initialized (cnm ci) ∈ lw_g) (hc : ci < 7) (ho : ((t : Nat) : Int) = o) (hk : kd o = ci) (ht : t < 219 ∧ t0 ≤ t) (hF : FZ ρ μ o) (hroom : rmOK y t0 (t + 1)) (kk : SPW y t0 pc' L (vR o :: S) (ρ, t + 1, μ) r Mf) : SPW y t0 pc L S (ρ, t, μ) r Mf := by
  subst ho
  exact r_new hd hcl his hini ⟨hc, hk, ht⟩ (df_of hc) ⟨fun k => (hF _ k (Int.le_refl _)).1, fun k => (hF _ k (Int.le_refl _)).2⟩ hroom kk
theorem r_nwA {m : Int} {at' : ArrayType} (hd : Dc y pc (.newarray at') 2 pc') (hac : Cond.arrayClass (newarray.typeOf at') ∈ lw_g) (hat : newarray.typeOf at' = ety (kt q) ∧ ((at' = .int ∧ kt q = 0) ∨ (at' = .char ∧ kt q = 1))) (hq : 8 ≤ q) (ho : ((t : Nat) : Int) = o) (hk : kd o = q) (ht : t < 219 ∧ t0 ≤ t) (hn : ((kl q : Nat) : Int) = m) (hb : kl q * 4 ≤ 536870912) (hF : FZ ρ μ o) (hroom : rmOK y t0 (t + 1)) (kk : SPW y t0 pc' L (vR o :: S) (ρ, t + 1, μ) r Mf) : SPW y t0 pc L (vI m :: S) (ρ, t, μ) r Mf := by
  subst ho
  exact r_newarr hd hac hat ⟨hq, hk, ht⟩ hn hb (fun k => (hF _ k (Int.le_refl _)).1) hroom kk
theorem r_nwR {m : Int} (hd : Dc y pc (.anewarray idx) 3 pc') (hcl : Cond.classLink (mnm y).cls idx (cnm ci) ∈ lw_g) (hci : ci = 0 ∨ ci = 4 ∨ ci = 3 ∨ ci = 1) (hat : ety (kt q) = .object (cnm ci) ∧ 2 ≤ kt q ∧ kt q < 6) (hq : 8 ≤ q) (ho : ((t : Nat) : Int) = o) (hk : kd o = q) (ht : t < 219 ∧ t0 ≤ t) (hn : ((kl q : Nat) : Int) = m) (hb : kl q * 4 ≤ 536870912) (hF : FZ ρ μ o) (hroom : rmOK y t0 (t + 1)) (kk : SPW y t0 pc' L (vR o :: S) (ρ, t + 1, μ) r Mf) : SPW y t0 pc L (vI m :: S) (ρ, t, μ) r Mf := by
  subst ho
  exact r_newref hd hcl hci hat ⟨hq, hk, ht⟩ hn hb (fun k => (hF _ k (Int.le_refl _)).2) hroom kk
theorem clN {ρ' : Int → Int → Option Int} {t' : Nat} {μ' : Int → Int → Int} (h : (Nat.ble ((mrm y').frames + 1) (mrm y).frames && Nat.ble (8 + (mml y' + 11) + (mrm y').locals) (mrm y).locals) = true) (hc : (mrm y').cells = t' - t) (hs : (mrm y').slots = slt t' - slt t) (h1 : t0 ≤ t) (h2 : t ≤ t') (h3 : rmOK y t0 t') : clOK y y' t0 (ρ, t, μ) (ρ', t', μ') := by
  simp only [Bool.and_eq_true] at h
  exact ⟨Nat.le_of_ble_eq_true h.1, Nat.le_of_ble_eq_true h.2, hc, hs, h1, h2, h3⟩
/-- the constructor of a command: called over a nest link -/
theorem r_I0NN {M M1 : Mm} (hd : Dc y pc (.invokespecial idx) 3 pc') (hl : Cond.methodLinkNest "GuardedPool$Text" 21 (mnm mi_Cmd_init) "GuardedPool" ∈ lw_tbl) (ok : mOK y' 0) (inst : Cond.instanceMethod (mnm y') ∈ lw_g) (hy : (mnm y').name = "<init>" ∧ mrt y' = none) (hcl : clOK y y' t0 M M1) (hlen : Nat.ble S.length 8 = true) (hM : MetC y' [vR o] M none M1) (kk : SPW y t0 pc' L S M1 r Mf) (hx : mnm y' = mnm mi_Cmd_init := by rfl) (hi : idx = 21 := by rfl) (hw : (mnm y).cls = "GuardedPool$Text" := by rfl) : SPW y t0 pc L (vR o :: S) M r Mf := by
  intro G p l e s m args below meth c H locs ls Z C R Lk hS hV hfin
  obtain ⟨hd, rfl⟩ := hd
  have hts := C.2.2.2.2.1
  have hlen' : S.length ≤ 8 := Nat.le_of_ble_eq_true hlen
  have hS0 : ∀ v ∈ S, vok v := fun v h => hS v (List.mem_cons_of_mem _ h)
  have hAs : ∀ v ∈ [vR o], vok v := fun v h => by
    rcases List.mem_cons.mp h with rfl | h
    · trivial
    · cases h
  obtain ⟨o1, o2, o3, o4, o5, o6⟩ := ok
  have hN : va_Nw (.methodLinkNest (mnm y).cls idx (mnm y') "GuardedPool") s := by
    rw [hx, hi, hw]
    exact C.2.2.2.2.2.2.1.2.2.2.2
  have cw := va_cnB (args := args) (s := s) (R := mrm y) (rm := mrm y') (own := (mnm y).cls) (index := idx) 0 hts (good_M o1) rfl hcl.2.2.1 hcl.2.2.2.1 hN (hts _ o5) ⟨o3, o4, o6⟩ ⟨hcl.1, hcl.2.1⟩
  rw [hy.2] at cw
  have run := va_runIN (b := adr G o) (As := []) (rest := S.map (tv G)) (g := F0 m pc ls ((vR o :: S).map (tv G))) (cells := M.2.1 - t0) (slots := slt M.2.1 - slt t0) (locs := locs) (below := below) (meth := meth) (e := e) ⟨C.1, C.2.1, C.2.2.1, C.2.2.2.1, hts⟩ (hM l G) ⟨cw, hy.1, hts _ inst⟩
    ⟨MetP_blind _ G _ M, fun U hU hW => ⟨rfl, by rw [hU]; exact R, va_K.moved hW.alike C.2.2.2.2.2.1, C.2.2.2.2.2.2.1.warm hW, ⟨by rw [hU]; exact va_X.moved hW.alike (C.2.2.2.2.2.2.2.2.2.1.kept (hV.2.1 _ (Nat.lt_of_lt_of_le C.2.2.2.2.2.2.2.2.2.2 C.2.2.2.2.2.2.2.2.1) (Nat.not_le.mpr C.2.2.2.2.2.2.2.2.2.2))), C.2.2.2.2.2.2.2.2.2.2⟩, hAs⟩⟩ rfl rfl Lk.1 (by simp [tv, va_rf]) (lv_room (by rw [tv_cats]; exact hlen')) hd ⟨by have := hcl.2.2.2.2.2.2.1; have := hcl.2.2.2.2.1; have := hcl.2.2.2.2.2.1; omega, by have := hcl.2.2.2.2.2.2.2; have := slt_le hcl.2.2.2.2.1; have := slt_le hcl.2.2.2.2.2.1; omega⟩
  exact cl_go hcl run C Lk hS0 hV hfin kk
end RI0

theorem c_Blk_init {ρ : Int → Int → Option Int} {t : Nat} {μ : Int → Int → Int} {o : Int} {x s : Int} (hv : vk t o 0) (ht : 0 < t) : MetC mi_Blk_init [vR o, vI x, vI s] (ρ, t, μ) none (ρ, t, upM (upM (upM μ o 0 x) o 1 s) o 2 (-1)) := by
  refine met_of ?_ (Nat.le_of_ble_eq_true rfl) (by decide) trivial (by decide) ht
  show SPW mi_Blk_init t 0 [some (vR o), some (vI x), some (vI s)] [] (ρ, t, μ) none (ρ, t, upM (upM (upM μ o 0 x) o 1 s) o 2 (-1))
  refine r_aloadn dd_Blk_init_0 rfl ?_
  refine r_obj dd_Blk_init_1 ml_Blk_3 ⟨Nat.le_of_ble_eq_true rfl, Nat.le_of_ble_eq_true rfl⟩ ?_
  refine r_aloadn dd_Blk_init_4 rfl ?_
  refine r_iloadn dd_Blk_init_5 rfl ?_
  refine r_putIF dd_Blk_init_6 fl_Blk_9 (kI := 0) rfl fc_Blk_0 ff_Blk_0 rfl rfl (pi_Blk_0 _) hv ?_
  refine r_aloadn dd_Blk_init_9 rfl ?_
  refine r_iloadn dd_Blk_init_10 rfl ?_
  refine r_putI dd_Blk_init_11 fl_Blk_15 (kI := 1) rfl fc_Blk_1 ff_Blk_1 (pi_Blk_1 _) hv ?_
  refine r_aloadn dd_Blk_init_14 rfl ?_
  refine r_iconst dd_Blk_init_15 ⟨by decide, by decide⟩ ?_
  refine r_putI dd_Blk_init_16 fl_Blk_18 (kI := 2) rfl fc_Blk_2 ff_Blk_2 (pi_Blk_2 _) hv ?_
  exact r_retV dd_Blk_init_19 rfl
theorem c_Tsk_init {ρ : Int → Int → Option Int} {t : Nat} {μ : Int → Int → Int} {o : Int} (hv : vk t o 4) (ht : 0 < t) : MetC mi_Tsk_init [vR o] (ρ, t, μ) none (ρ, t, upM (upM μ o 0 1) o 1 32) := by
  refine met_of ?_ (Nat.le_of_ble_eq_true rfl) (by decide) trivial (by decide) ht
  show SPW mi_Tsk_init t 0 [some (vR o)] [] (ρ, t, μ) none (ρ, t, upM (upM μ o 0 1) o 1 32)
  refine r_aloadn dd_Tsk_init_0 rfl ?_
  refine r_obj dd_Tsk_init_1 ml_Tsk_3 ⟨Nat.le_of_ble_eq_true rfl, Nat.le_of_ble_eq_true rfl⟩ ?_
  refine r_aloadn dd_Tsk_init_4 rfl ?_
  refine r_iconst dd_Tsk_init_5 ⟨by decide, by decide⟩ ?_
  refine r_putI dd_Tsk_init_6 fl_Tsk_9 (kI := 0) rfl fc_Tsk_0 ff_Tsk_0 (pb_Tsk_0 (Or.inr rfl)) hv ?_
  refine r_aloadn dd_Tsk_init_9 rfl ?_
  refine r_bip dd_Tsk_init_10 ⟨by decide, by decide⟩ ?_
  refine r_putI dd_Tsk_init_12 fl_Tsk_15 (kI := 1) rfl fc_Tsk_1 ff_Tsk_1 (pi_Tsk_1 _) hv ?_
  exact r_retV dd_Tsk_init_15 rfl
theorem c_Cmd_init {ρ : Int → Int → Option Int} {t : Nat} {μ : Int → Int → Int} {o : Int} (hv : vk t o 1) (ht : 0 < t) : MetC mi_Cmd_init [vR o] (ρ, t, μ) none (ρ, t, μ) := by
  refine met_of ?_ (Nat.le_of_ble_eq_true rfl) (by decide) trivial (by decide) ht
  show SPW mi_Cmd_init t 0 [some (vR o)] [] (ρ, t, μ) none (ρ, t, μ)
  refine r_aloadn dd_Cmd_init_0 rfl ?_
  refine r_obj dd_Cmd_init_1 ml_Cmd_1 ⟨Nat.le_of_ble_eq_true rfl, Nat.le_of_ble_eq_true rfl⟩ ?_
  exact r_retV dd_Cmd_init_4 rfl

/-! perform: both sides, whole -/
theorem rdN_le {c : Int → Int} {T : Int} : ∀ (n : Nat) (x : Int), rdN c T n x ≤ n
  | 0, _ => Nat.le_refl _
  | n + 1, x => by
    show (if cX c T x = T then 1 else rdN c T n (cX c T x + 1) + 1) ≤ n + 1
    have := rdN_le (c := c) (T := T) n (cX c T x + 1)
    split <;> omega
/-- what the reference sees of the text -/
theorem tx_Q {K : Int} {μ G Q : Int → Int → Int} (h : IV K μ) (g1 : ∀ o k, (o < 185 ∨ 218 ≤ o ∨ o = 186) → G o k = μ o k) (hQ : ∀ o k, 185 ≤ o → Q o k = G o k) : TM Q ∧ (∀ k, 0 ≤ k → k < μ 185 1 → Q 225 k = μ 186 k) ∧ Q 219 8 = μ 185 1 ∧ Q 225 = μ 225 ∧ Q 219 8 = μ 219 8 := by
  have ht := h.txt
  have hc := h.chr
  have hM := TM_of h
  clear h
  have e225 : Q 225 = μ 225 := by
    funext k
    rw [hQ 225 k (by decide), g1 225 k (Or.inr (Or.inl (by decide)))]
  have e8 : Q 219 8 = μ 219 8 := by rw [hQ 219 8 (by decide), g1 219 8 (Or.inr (Or.inl (by decide)))]
  refine ⟨?_, fun k k0 k1 => ?_, ?_, e225, e8⟩
  · unfold TM
    rw [e225, e8]
    exact hM
  · rw [e225]
    exact (hc k k0 (by omega)).1.symm
  · rw [e8, ht.1]
theorem hyb (G T' : Int → Int → Int) : ∃ H : Int → Int → Int, (∀ o k, 1 ≤ o → o < 53 → H o k = G o k) ∧ (∀ o k, (o < 1 ∨ 53 ≤ o) → H o k = T' o k) :=
  ⟨fun o k => if 1 ≤ o ∧ o < 53 then G o k else T' o k, fun o k a b => if_pos ⟨a, b⟩, fun o k a => if_neg (by omega)⟩
theorem IV_stop {K K' : Int} {G T' : Int → Int → Int} {a r : Int} (hG : IV K G) (hK : K ≤ K') (hK' : K' ≤ 500000000) (t1 : ∀ o k, 53 ≤ o → (o ≠ 219 ∨ k < 9 ∨ 16 < k) → o ≠ 221 → T' o k = G o k) (t2 : ∀ k, k < 7 → T' 0 k = G 0 k) (t3 : T' 0 7 = 1) (t4 : T' 0 8 = a) (t5 : T' 0 9 = r) (t6 : T' 219 9 = a) (t7 : T' 219 10 = r) (hR : RW K T' 1 (G 220)) (h27 : bgS T' 27) : IV K' T' := by
  obtain ⟨H, h1, h2⟩ := hyb G T'
  have hr := hG.ref
  have ht := hG.txt
  have hc := hG.chr
  have z : ∀ o k, 53 ≤ o → (o ≠ 219 ∨ k < 9 ∨ 16 < k) → o ≠ 221 → H o k = G o k := fun o k a b c => (h2 o k (Or.inr a)).trans (t1 o k a b c)
  have hI : IV K' H := by
    refine IV_lite hG hK hK' (fun o k a b => ?_) (fun k a => (h2 0 k (Or.inl (by decide))).trans (t2 k a)) (fun k a => z 219 k (by decide) (Or.inr (Or.inl (Int.lt_trans a (by decide)))) (by decide)) (fun o k a => ?_) (fun k k0 k1 => ?_) ?_ ?_ (fun k k0 k1 => ?_)
    · by_cases q : o < 53
      · exact h1 o k a q
      · exact z o k (Int.not_lt.mp q) (Or.inl (Int.ne_of_lt (Int.lt_trans b (by decide)))) (Int.ne_of_lt (Int.lt_trans b (by decide)))
    · rcases a with rfl | rfl | rfl
      · exact z _ k (by decide) (Or.inl (by decide)) (by decide)
      · exact z _ k (by decide) (Or.inl (by decide)) (by decide)
      · exact z _ k (by decide) (Or.inl (by decide)) (by decide)
    · rw [z 218 _ (by decide) (Or.inl (by decide)) (by decide), z 224 _ (by decide) (Or.inl (by decide)) (by decide)]
      have r := hr k k0 k1
      exact ⟨r.1, r.2.1, Int.le_trans r.2.2 hK⟩
    · right
      rw [h2 0 7 (Or.inl (by decide)), h2 0 8 (Or.inl (by decide)), h2 0 9 (Or.inl (by decide)), h2 219 9 (Or.inr (by decide)), h2 219 10 (Or.inr (by decide)), t3, t4, t5, t6, t7]
      exact ⟨rfl, rfl, rfl⟩
    · rw [z 185 1 (by decide) (Or.inl (by decide)) (by decide), z 219 8 (by decide) (Or.inr (Or.inl (by decide))) (by decide)]
      exact ht
    · rw [z 186 _ (by decide) (Or.inl (by decide)) (by decide), z 225 _ (by decide) (Or.inl (by decide)) (by decide)]
      exact hc k k0 k1
  have e220 : H 220 = G 220 := by
    funext k
    exact z 220 k (by decide) (Or.inl (by decide)) (by decide)
  exact IV_same hI (fun o k a => (h2 o k a).symm) (by rw [e220]; exact hR.mono hK hK') h27
theorem two_perform_o {K : Int} {μ : Int → Int → Int} (h : IV K μ) (hK : K + 40000 ≤ 500000000) (hr : rdR (μ 225) (μ 219 8) 30 0 = -1) : Two mi_Poo_perform mi_Mod_perform [vR 0] [vR 219] K μ := by
  have ht := h.txt
  obtain ⟨G, cr, g1, g2, g3⟩ := rd_cls h
  obtain ⟨n1, n2⟩ := g3 hr
  rw [hr] at cr
  have hrc : rdR (μ 186) (μ 185 1) 30 0 = -1 := by
    rw [rd_same h]
    exact hr
  have hG : IV K G := IV_keep h (Int.le_refl _) (by omega) (fun o k a b c => g1 o k a) g2
  have c2 := c_Sta_copyFrom (μ := G) stB_27 stB_1 (Or.inr (by decide)) (alS_of hG.now.1 hG.now.2.1)
  have hR := (bf_R hG).ri
  have hN3 : cS G 27 1 185 3 = (rdN (μ 186) (μ 185 1) 30 0 : Int) := by
    rw [cS_o (by decide)]
    exact n1
  have hle := rdN_le (c := μ 186) (T := μ 185 1) 30 0
  have hcok : ∀ j : Nat, j < rdN (μ 186) (μ 185 1) 30 0 → cOK (μ 186) (μ 185 1) (ps (μ 186) (μ 185 1) j 0) (cS G 27 1) (188 + 0 + j) := fun j hj => by
    have := n2 j hj
    rw [show (188 : Int) + 0 + j = 188 + j by omega]
    exact cOK_fr this (fun k => cS_o (by omega))
  have h0T : 0 ≤ μ 185 1 := by omega
  have hW27 := bf_27 hG
  generalize hNN : rdN (μ 186) (μ 185 1) 30 0 = NN at *
  rcases loopP 30 0 0 (NN : Int) K (cS G 27 1) (G 220) hrc (Int.le_refl _) h0T hR hG.now.2.2.2 (by omega) (Int.le_refl _) (by rw [hNN]; omega) (by omega) (by rw [hNN]; exact hcok) with ⟨F', m', p1, p2, p3, p4, p5, p6⟩ | ⟨j, r, F', m', p1, p2, p3, p4, p5, p6⟩
  · have f1 : ∀ o k, (o < 1 ∨ 53 ≤ o) → F' o k = G o k := fun o k a => by
      have a1 : o < 1 ∨ 27 ≤ o := by rcases a with a | a; exact Or.inl a; exact Or.inr (Int.le_trans (by decide) a)
      have a2 : o < 27 ∨ 27 + 26 ≤ o := by rcases a with a | a; exact Or.inl (Int.lt_trans a (by decide)); exact Or.inr a
      rw [p2 o k a1, cS_o a2]
    have f27 : RW K F' 27 (G 220) := hW27.fr (fun o k a b => p2 o k (Or.inr a))
    have n0 := hG.nx
    have l0 := hG.ln
    have l2 := l0.2
    have hn : 0 ≤ F' 79 1 ∧ F' 79 1 < 4 := by
      rw [f1 79 1 (Or.inr (by decide))]
      exact n0
    have hl : 0 ≤ F' 79 2 ∧ F' 79 2 ≤ 4 := by
      rw [f1 79 2 (Or.inr (by decide)), l0.1]
      exact l2
    have crec := c_Poo_recorded_o (μ := F') (r := (NN : Int)) (by omega) hn hl (alS_of f27.1 f27.2.1)
    have ca := c_Poo_perform_o cr c2 hN3 (p1 _ _ (per_e crec))
    have q1 : ∀ o k, (o < 79 ∨ 185 ≤ o) → recM F' o k = F' o k := fun o k a => recM_o hn a
    have qG : ∀ o k, 185 ≤ o → recM F' o k = G o k := fun o k a => (q1 o k (Or.inr a)).trans (f1 o k (Or.inr (Int.le_trans (by decide) a)))
    have e220 : recM F' 220 = G 220 := by
      funext k
      exact qG 220 k (by decide)
    obtain ⟨y1, y2, y3, y4, y5⟩ := tx_Q h g1 qG
    obtain ⟨T', cb, w1, w2, w3, w4⟩ := ref_o y1 y2 y3 (by rw [y4, y5]; exact hr) (by rw [qG 219 3 (by decide)]; exact l2) (by rw [e220]; exact p5) (by rw [e220]; exact p6)
    rw [show (0 : Int) + ((NN : Int) - 0) = NN by omega] at cb
    have e1 : ∀ k, recM F' (-1) k = μ (-1) k := fun k => ((q1 (-1) k (Or.inl (by decide))).trans (f1 (-1) k (Or.inl (by decide)))).trans (g1 (-1) k (Or.inl (by decide)))
    refine ⟨_, _, _, ca, cb, ?_, e1, fun k => (w1 (-1) k (Or.inl (by decide)) (by decide) (by decide) (by decide)).trans (e1 k)⟩
    have hP := IV_push hG f1 f27 ⟨p3.1, p3.2.1, p3.2.2, p4⟩ (by omega) (by omega)
    refine IV_keep hP (by omega) hK (fun o k a b c => ?_) ?_
    · clear hP h hG
      by_cases z0 : o = 220
      · rw [z0, setO_at, w2]
      · rw [setO_ne z0]
        unfold knM
        by_cases z2 : o = 222
        · rw [z2, setO_at, w3, e220]
        · rw [setO_ne z2]
          by_cases z3 : o = 219 ∧ k = 3
          · rw [z3.1, z3.2, upM_eq, w4]
          · have a1 : o ≠ 219 ∨ k ≠ 3 := by omega
            have a2 : o ≠ 219 ∨ (k < 11 ∧ k ≠ 3) ∨ 16 < k := by omega
            rw [upM_ne a1, w1 o k a2 z0 c z2]
    · rw [w1 185 1 (Or.inl (by decide)) (by decide) (by decide) (by decide), setO_ne (by decide)]
      unfold knM
      rw [setO_ne (by decide), upM_ne (Or.inl (by decide))]
  · have f1 : ∀ o k, 53 ≤ o → F' o k = G o k := fun o k a => by rw [p3 o k (Or.inr (Int.le_trans (by decide) a)), cS_o (Or.inr a)]
    have u_o : ∀ o k, (o ≠ 0 ∨ k < 7) → upM (upM (upM F' 0 7 1) 0 8 (0 + j)) 0 9 r o k = F' o k := fun o k a => by
      have a1 : o ≠ 0 ∨ k ≠ 9 := by rcases a with a | a; exact Or.inl a; exact Or.inr (Int.ne_of_lt (Int.lt_trans a (by decide)))
      have a2 : o ≠ 0 ∨ k ≠ 8 := by rcases a with a | a; exact Or.inl a; exact Or.inr (Int.ne_of_lt (Int.lt_trans a (by decide)))
      have a3 : o ≠ 0 ∨ k ≠ 7 := by rcases a with a | a; exact Or.inl a; exact Or.inr (Int.ne_of_lt a)
      rw [upM_ne a1, upM_ne a2, upM_ne a3]
    have u7 : upM (upM (upM F' 0 7 1) 0 8 (0 + j)) 0 9 r 0 7 = 1 := by rw [upM_ne (Or.inr (by decide)), upM_ne (Or.inr (by decide)), upM_eq]
    have u8' : upM (upM (upM F' 0 7 1) 0 8 (0 + j)) 0 9 r 0 8 = 0 + j := by rw [upM_ne (Or.inr (by decide)), upM_eq]
    have u9 : upM (upM (upM F' 0 7 1) 0 8 (0 + j)) 0 9 r 0 9 = r := upM_eq
    have f27 : RW K (upM (upM (upM F' 0 7 1) 0 8 (0 + j)) 0 9 r) 27 (G 220) := hW27.fr (fun o k a b => by
      rw [u_o o k (Or.inl (by omega))]
      exact p3 o k (Or.inr a))
    have cc := c_Sta_copyFrom (μ := upM (upM (upM F' 0 7 1) 0 8 (0 + j)) 0 9 r) stB_1 stB_27 (Or.inl (by decide)) (alS_of f27.1 f27.2.1)
    have ca := c_Poo_perform_o cr c2 hN3 (p1 _ _ (per_x cc))
    have b1 : bgS (upM (upM (upM F' 0 7 1) 0 8 (0 + j)) 0 9 r) 1 := bgS_fr p4 (fun o k a b => u_o o k (Or.inl (by omega)))
    have f0 : ∀ k, k < 7 → upM (upM (upM F' 0 7 1) 0 8 (0 + j)) 0 9 r 0 k = G 0 k := fun k a => by rw [u_o 0 k (Or.inr a), p3 0 k (Or.inl (by decide)), cS_o (Or.inl (by decide))]
    have f53 : ∀ o k, 53 ≤ o → upM (upM (upM F' 0 7 1) 0 8 (0 + j)) 0 9 r o k = G o k := fun o k a => by
      rw [u_o o k (Or.inl (by omega))]
      exact f1 o k a
    have fm : ∀ k, upM (upM (upM F' 0 7 1) 0 8 (0 + j)) 0 9 r (-1) k = μ (-1) k := fun k => by rw [u_o (-1) k (Or.inl (by decide)), p3 (-1) k (Or.inl (by decide)), cS_o (Or.inl (by decide)), g1 (-1) k (Or.inl (by decide))]
    generalize upM (upM (upM F' 0 7 1) 0 8 (0 + j)) 0 9 r = F2 at *
    have q1 : ∀ o k, (o < 1 ∨ 27 ≤ o) → cS F2 1 27 o k = F2 o k := fun o k a => cS_o a
    have qG : ∀ o k, 185 ≤ o → cS F2 1 27 o k = G o k := fun o k a => (q1 o k (Or.inr (Int.le_trans (by decide) a))).trans (f53 o k (Int.le_trans (by decide) a))
    have e220 : cS F2 1 27 220 = G 220 := by
      funext k
      exact qG 220 k (by decide)
    obtain ⟨y1, y2, y3, y4, y5⟩ := tx_Q h g1 qG
    obtain ⟨T', cb, w1, w2, w3⟩ := ref_s y1 y2 y3 (by rw [y4, y5]; exact hr) (by rw [e220]; exact p5) (by rw [e220]; exact p6) p2.1
    have e1 : ∀ k, cS F2 1 27 (-1) k = μ (-1) k := fun k => (q1 (-1) k (Or.inl (by decide))).trans (fm k)
    have c1 : RW K (cS F2 1 27) 1 (G 220) := f27.cp (Or.inl (by decide)) b1
    refine ⟨_, _, _, ca, cb, IV_stop (a := 0 + j) (r := r) hG (by omega) hK (fun o k a b c => ?_) (fun k a => ?_) ?_ ?_ ?_ w2 w3 (c1.fr (fun o k a b => ?_)) (fun i i0 i1 => ?_), e1, fun k => (w1 (-1) k (Or.inl (by decide)) (by decide)).trans (e1 k)⟩
    · rw [w1 o k b c, q1 o k (Or.inr (Int.le_trans (by decide) a))]
      exact f53 o k a
    · rw [w1 0 k (Or.inl (by decide)) (by decide), q1 0 k (Or.inl (by decide))]
      exact f0 k a
    · rw [w1 0 7 (Or.inl (by decide)) (by decide), q1 0 7 (Or.inl (by decide))]
      exact u7
    · rw [w1 0 8 (Or.inl (by decide)) (by decide), q1 0 8 (Or.inl (by decide))]
      exact u8'
    · rw [w1 0 9 (Or.inl (by decide)) (by decide), q1 0 9 (Or.inl (by decide))]
      exact u9
    · exact w1 o k (Or.inl (by omega)) (by omega)
    · rw [w1 (27 + 2 + i) 0 (Or.inl (by omega)) (by omega), q1 (27 + 2 + i) 0 (Or.inr (by omega))]
      exact (f27.1.1 i i0 i1).1
theorem two_perform {K : Int} {μ : Int → Int → Int} (h : IV K μ) (hK : K + 40000 ≤ 500000000) : Two mi_Poo_perform mi_Mod_perform [vR 0] [vR 219] K μ := by
  by_cases hr : rdR (μ 225) (μ 219 8) 30 0 = -1
  · exact two_perform_o h hK hr
  · exact two_perform_f h hK hr


/-! BEGIN -/
theorem mBg_f (S : Ms) (j n0 a : Nat) (k c d : Int) (hn : S.1 23 0 = (n0 : Int)) (hj : S.1 14 0 = (j : Int)) :
    (∀ f x : Nat, x < n0 → 15 ≤ f → f ≤ 20 → (mBg S j k a c d).1 f x = S.1 f x) ∧ (∀ f x : Nat, x ≠ j → 5 ≤ f → f ≤ 13 → (mBg S j k a c d).1 f x = S.1 f x) ∧ (∀ f, f ≠ 14 → f ≠ 5 → f ≠ 6 → f ≠ 7 → f ≠ 8 → f ≠ 10 → f ≠ 13 → f ≠ 12 → f ≠ 23 → f ≠ 15 → f ≠ 16 → f ≠ 17 → f ≠ 18 → f ≠ 19 → f ≠ 20 → (mBg S j k a c d).1 f = S.1 f) ∧
    ((mBg S j k a c d).1 15 n0 = (j : Int) ∧ (mBg S j k a c d).1 16 n0 = 0 ∧ (mBg S j k a c d).1 17 n0 = S.1 3 a ∧ (mBg S j k a c d).1 18 n0 = -1 ∧ (mBg S j k a c d).1 19 n0 = -1 ∧ (mBg S j k a c d).1 20 n0 = 0) ∧
    (mBg S j k a c d).1 23 0 = ((n0 + 1 : Nat) : Int) ∧ (mBg S j k a c d).1 14 0 = ((j + 1 : Nat) : Int) ∧ ((mBg S j k a c d).1 5 j = k ∧ (mBg S j k a c d).1 6 j = (a : Int) ∧ (mBg S j k a c d).1 7 j = c ∧ (mBg S j k a c d).1 8 j = d ∧ (mBg S j k a c d).1 10 j = -1 ∧ (mBg S j k a c d).1 13 j = 1) ∧
    (mBg S j k a c d).2 4 = S.2 4 ∧ (mBg S j k a c d).2 21 = S.2 21 ∧ (∀ x, x < n0 → (mBg S j k a c d).2 22 x = S.2 22 x) ∧ (mBg S j k a c d).2 22 n0 = 0 := by
  have e23 : (mBj S j k a c d).1 23 0 = (n0 : Int) := by rw [mBj_k _ _ _ _ _ _ _ _ (by decide)]; exact hn
  obtain ⟨b1, b2, b3, b4, b5, b6⟩ := mNode_n (mBj S j k a c d) j 0 (S.1 3 a) (-1) e23
  have b23 := mNode_23 (mBj S j k a c d) j 0 (S.1 3 a) (-1)
  have bT : ∀ f x : Nat, x < n0 → f ≠ 23 → (mNode (mBj S j k a c d) j 0 (S.1 3 a) (-1)).1 f x = (mBj S j k a c d).1 f x := fun f x hx hf => mNode_c _ _ _ _ _ _ _ (by omega) hf
  have bJ : ∀ f x : Nat, _ → (mNode (mBj S j k a c d) j 0 (S.1 3 a) (-1)).1 f x = (mBj S j k a c d).1 f x := fun f x h => mNode_o (mBj S j k a c d) j 0 (S.1 3 a) (-1) f x h
  have n2 : (mNode (mBj S j k a c d) j 0 (S.1 3 a) (-1)).2 = (sq S 22 n0 0).2 := by
    show (sq (mBj S j k a c d) 22 ((mBj S j k a c d).1 23 0).toNat 0).2 = _
    rw [e23]; rfl
  have eb : mBg S j k a c d = sp (mNode (mBj S j k a c d) j 0 (S.1 3 a) (-1)) 12 j (S.1 23 0) := by unfold mBg; rw [Int.toNat_natCast]
  rw [eb]
  refine ⟨fun f x hx h1 h2 => ?_, fun f x hx h1 h2 => ?_, fun f h1 h2 h3 h4 h5 h6 h7 h8 h9 h10 h11 h12 h13 h14 h15 => ?_, ?_, ?_, ?_, ?_, ?_, ?_, fun x hx => ?_, ?_⟩
  · rw [sp_k _ _ _ _ (by omega), bT f x hx (by omega), mBj_k _ _ _ _ _ _ _ _ (by omega)]
  · have : (mNode (mBj S j k a c d) j 0 (S.1 3 a) (-1)).1 f x = S.1 f x := by rw [bJ f x (by omega), mBj_o _ _ _ _ _ _ _ _ (by omega) hx]
    by_cases e : f = 12
    · subst e; rw [sp_j _ _ _ hx]; exact this
    · rw [sp_k _ _ _ _ e]; exact this
  · funext x
    rw [sp_k _ _ _ _ h8, bJ f x ⟨h9, h10, h11, h12, h13, h14, h15⟩, mBj_k _ _ _ _ _ _ _ _ ⟨h1, h2, h3, h4, h5, h6, h7⟩]
  · rw [sp_k _ _ _ _ (by decide), sp_k _ _ _ _ (by decide), sp_k _ _ _ _ (by decide), sp_k _ _ _ _ (by decide), sp_k _ _ _ _ (by decide), sp_k _ _ _ _ (by decide)]
    exact ⟨b1, b2, b3, b4, b5, b6⟩
  · rw [sp_k _ _ _ _ (by decide), b23, e23]; omega
  · rw [sp_k _ _ _ _ (by decide), bJ 14 0 (by decide)]
    unfold mBj
    rw [sp_k _ _ _ _ (by decide), sp_k _ _ _ _ (by decide), sp_k _ _ _ _ (by decide), sp_k _ _ _ _ (by decide), sp_k _ _ _ _ (by decide), sp_k _ _ _ _ (by decide), sp_same, hj]; omega
  · rw [sp_k _ _ _ _ (by decide), sp_k _ _ _ _ (by decide), sp_k _ _ _ _ (by decide), sp_k _ _ _ _ (by decide), sp_k _ _ _ _ (by decide), sp_k _ _ _ _ (by decide), bJ 5 j (by decide), bJ 6 j (by decide), bJ 7 j (by decide), bJ 8 j (by decide), bJ 10 j (by decide), bJ 13 j (by decide)]
    unfold mBj
    refine ⟨?_, ?_, ?_, ?_, ?_, ?_⟩
    · rw [sp_k _ _ _ _ (by decide), sp_k _ _ _ _ (by decide), sp_k _ _ _ _ (by decide), sp_k _ _ _ _ (by decide), sp_k _ _ _ _ (by decide), sp_same]
    · rw [sp_k _ _ _ _ (by decide), sp_k _ _ _ _ (by decide), sp_k _ _ _ _ (by decide), sp_k _ _ _ _ (by decide), sp_same]
    · rw [sp_k _ _ _ _ (by decide), sp_k _ _ _ _ (by decide), sp_k _ _ _ _ (by decide), sp_same]
    · rw [sp_k _ _ _ _ (by decide), sp_k _ _ _ _ (by decide), sp_same]
    · rw [sp_k _ _ _ _ (by decide), sp_same]
    · rw [sp_same]
  · show (mNode (mBj S j k a c d) j 0 (S.1 3 a) (-1)).2 4 = _
    rw [n2]; rfl
  · show (mNode (mBj S j k a c d) j 0 (S.1 3 a) (-1)).2 21 = _
    rw [n2]; rfl
  · show (mNode (mBj S j k a c d) j 0 (S.1 3 a) (-1)).2 22 x = _
    rw [n2]; exact sq_j _ _ _ (by omega)
  · show (mNode (mBj S j k a c d) j 0 (S.1 3 a) (-1)).2 22 n0 = _
    rw [n2]; exact sq_same _ _ _ _
/-- the potential at a begin, and what nobody wrote yet -/
theorem begin_ok {S : Ms} (h : Inv3 S) {j n0 a i : Nat} (k c d : Int) (hn : S.1 23 0 = (n0 : Int)) (hj : S.1 14 0 = (j : Int)) (ha : a < 4) (hi : (i : Int) < S.1 1 0) : Ph (mPut (mBg S j k a c d) i n0) ≤ Ph S + 94 ∧ Zb (mPut (mBg S j k a c d) i n0) := by
  obtain ⟨gT, gJ, gK, gN, g23, g14, gj, d4, d21, d22, d22n⟩ := mBg_f S j n0 a k c d hn hj
  have hql := h.1.1.ql i (by have := h.1.1.1.1.2; omega)
  obtain ⟨⟨⟨hB, hE, -⟩, -⟩, hZ⟩ := h
  have hW4 := hB.1.2
  obtain ⟨y1, y2, y3, y4, y5⟩ := hB.2.1 a ha
  have q0 := hB.q0 i (by omega)
  have g25 := gK 25 (by decide) (by decide) (by decide) (by decide) (by decide) (by decide) (by decide) (by decide) (by decide) (by decide) (by decide) (by decide) (by decide) (by decide) (by decide)
  have g24 := gK 24 (by decide) (by decide) (by decide) (by decide) (by decide) (by decide) (by decide) (by decide) (by decide) (by decide) (by decide) (by decide) (by decide) (by decide) (by decide)
  have g9 := gK 9 (by decide) (by decide) (by decide) (by decide) (by decide) (by decide) (by decide) (by decide) (by decide) (by decide) (by decide) (by decide) (by decide) (by decide) (by decide)
  generalize mBg S j k a c d = S' at *
  have hq' : qA S' = qA S := qA_ext (fun i _ => by rw [g25]) (fun k => by rw [g24])
  have hP := qA_put (S := S') (i := i) (q := (S.1 25 i).toNat) (t := (n0 : Int)) (by omega) (by rw [g25]; omega) (by omega) (fun i' hi' => by rw [g25]; exact hB.q6 i' hi')
  rw [hq', Int.toNat_natCast] at hP
  have gk : ∀ f, f ≠ 24 → f ≠ 25 → (mPut S' i n0).1 f = S'.1 f := fun f h1 h2 => by funext x; rw [mPut_c _ _ _ _ h1 h2]
  have gp : (mPut S' i n0).2 = S'.2 := rfl
  generalize mPut S' i n0 = S2 at *
  have lN : lenT S2 n0 = S.1 3 a := by unfold lenT; rw [gk 17 (by decide) (by decide), gk 16 (by decide) (by decide), gN.2.1, gN.2.2.1]; omega
  have lO : ∀ x, x < n0 → lenT S2 x = lenT S x := fun x hx => by unfold lenT; rw [gk 17 (by decide) (by decide), gk 16 (by decide) (by decide), gT 17 x hx (by decide) (by decide), gT 16 x hx (by decide) (by decide)]
  have qn : ∀ x, x ∈ qA S → x < n0 := fun x hx => by have := hB.qm hx; omega
  have r13 : ∀ x, x ≠ j → S2.1 13 x = S.1 13 x := fun x hx => by rw [gk 13 (by decide) (by decide), gJ 13 x hx (by decide) (by decide)]
  have s14 : S2.1 14 0 = ((j + 1 : Nat) : Int) := by rw [gk 14 (by decide) (by decide), g14]
  refine ⟨?_, ?_, ?_⟩
  · unfold Ph
    rw [sumI_perm _ hP, sumI_cons, s14]
    have a1 : w2 S2 n0 ≤ 47 := by unfold w2; rw [lN]; omega
    rw [sumI_congr (g := w2 S) fun x hx => by unfold w2; rw [lO x (qn x hx)]]
    have a2 : sc S2 (((j + 1 : Nat) : Int)).toNat ≤ sc S (S.1 14 0).toNat + 47 := by
      rw [Int.toNat_natCast, hj, Int.toNat_natCast]
      show sc S2 j + scw S2 j ≤ _
      have e1 := sc_congr (S := S) (S' := S2) j fun x hx => by
        unfold scw
        rw [gk 9 (by decide) (by decide), g9, gk 5 (by decide) (by decide), gJ 5 x (by omega) (by decide) (by decide), r13 x (by omega)]
      have e2 : scw S2 j ≤ 47 := by unfold scw; split <;> omega
      omega
    omega
  · intro x hx
    rw [gk 23 (by decide) (by decide), g23] at hx
    rw [gp, d21]
    exact hZ.1 x (by omega)
  · intro x hx hx2
    rw [gk 23 (by decide) (by decide), g23] at hx
    rw [gp]
    by_cases e : x = n0
    · rw [e]; exact d22n
    · rw [d22 x (by omega)]
      refine hZ.2 x (by omega) ?_
      have eo : mOf S2 x = mOf S x := by unfold mOf; rw [gk 15 (by decide) (by decide), gT 15 x (by omega) (by decide) (by decide)]
      have := (hB.job (t := x) (by omega)).1
      rw [eo, r13 _ (by omega)] at hx2
      exact hx2
set_option maxRecDepth 20000 in
theorem m_FP_begin {G : fxG} (d0 : Nat) {A : Ad} {S : Ms} {w : fxW} (h : Rc G A S w) (hI : Inv3 S) (hd1 : 9 ≤ d0) (k a i c d : Int) (hk : zok k) (ha : zok a) (hi : zok i) (hc : zok c) (hd : zok d) (t9 : fxt w + 3 ≤ fxmt G) (t8 : fxu w + 919 ≤ fxmu G) : fxM G d0 y_FP_begin [.ref (A 0 0), zi k, zi a, zi i, zi c, zi d] w (cP G A S w [9, 7, 8] (zi (mBegin S k a i c d).1) (mBegin S k a i c d).2 3 919) := by
  refine fxM.of cc_FP_begin 8 (some .int) [] (by decide +kernel) w_FP_begin (Nat.le_of_ble_eq_true rfl) ?_
  intro x C ht hu
  obtain ⟨⟨hInv, hK, hF⟩, hZ⟩ := id hI
  have hB := hInv.1
  obtain ⟨W1, W2⟩ := hB.1
  obtain ⟨j1, j2⟩ := zok_j hB
  obtain ⟨W, hW⟩ := Int.eq_ofNat_of_zero_le (show 0 ≤ S.1 1 0 by omega)
  have kw := h.kw
  rw [hW, Int.toNat_natCast] at kw
  generalize hM : mBegin S k a i c d = MM
  unfold mBegin at hM
  show fxR G 8 x _ w 0 [(0, .ref (A 0 0)), (1, zi k), (2, zi a), (3, zi i), (4, zi c), (5, zi d)] []
  refine fx_dom (fun hdm => ?_)
  refine r_aload_n C d_FP_begin_0 rfl rfl ?_
  refine r_iload_n C d_FP_begin_1 rfl rfl ?_
  refine c_FP_75 C d_FP_begin_2 h.p0 (m_madeRow 6 h hB hF (by omega) a ha (by omega) (by omega)) (by omega) (Nat.le_of_ble_eq_true rfl) (cOr.k1 fun n1 => ?_) (cOr.k2 fun n1 => ?_)
  · rw [if_neg (fun z => z n1)] at hM
    obtain ⟨⟨n1, n2⟩, n3⟩ := n1
    obtain ⟨ra, hra⟩ := Int.eq_ofNat_of_zero_le n1
    subst hra
    rw [Int.toNat_natCast] at n3 ⊢
    have hr4 : ra < 4 := by omega
    have R := h.rw' hr4
    generalize hQ : cP G A S w [9, 7, 8] (zi MM.1) MM.2 3 919 = QQ
    have bad : ∀ (q : ¬ ((0 ≤ k ∧ k ≤ 5) ∧ (0 ≤ i ∧ i ≤ S.1 1 0 - 1) ∧ (-1000 ≤ c ∧ c ≤ 1000) ∧ (-1000 ≤ d ∧ d ≤ 1000))), QQ (.threw (fxt w)) (fx_ex w 7) := by
      intro q
      rw [if_pos q] at hM
      subst hM
      rw [← hQ]
      exact cP.th ((h.th 0).th 2) hdm 1 7 (by rw [sp_same]; rfl) rfl (by omega) (by omega)
    refine r_astore (ls' := [(6, _), (0, _), (1, _), (2, _), (3, _), (4, _), (5, _)]) C d_FP_begin_5 (by decide) rfl ?_
    refine r_iload_n C d_FP_begin_7 rfl rfl ?_
    refine r_iconst C d_FP_begin_8 rfl ?_
    refine r_iconst C d_FP_begin_9 rfl ?_
    refine c_FP_44 C d_FP_begin_10 (m_isWithin 1 w k 0 5 hk (by unfold zok; omega) (by unfold zok; omega)) (by omega) (Nat.le_of_ble_eq_true rfl) (fxPure.k1 ?_) fxPure.k2
    refine zr_if_eq (tgt := 31) C d_FP_begin_13 (by decide) (zok_b _) (fun c_13 => ?_) (fun c_13 => ?_)
    · refine x_7 C (si := 79) (tx := "kind or worker out of range") (by decide +kernel) d_FP_begin_31 d_FP_begin_34 d_FP_begin_35 d_FP_begin_37 d_FP_begin_40 (by omega) (Nat.le_of_ble_eq_true rfl) (by omega) (by omega) (rt_out C rfl ?_)
      exact bad fun z => by rw [bI_t z.1] at c_13; exact absurd c_13 (by decide)
    · have p1 : 0 ≤ k ∧ k ≤ 5 := Classical.byContradiction fun z => c_13 (bI_f z)
      refine r_iload_n C d_FP_begin_16 rfl rfl ?_
      refine r_iconst C d_FP_begin_17 rfl ?_
      refine r_aload_n C d_FP_begin_18 rfl rfl ?_
      refine g_FP_27 C d_FP_begin_19 h.p0 h.pw ?_
      refine zr_alen C d_FP_begin_22 (by decide) (t := 4) (Or.inl kw) ?_
      refine r_iconst C d_FP_begin_23 rfl ?_
      refine zr_isub C d_FP_begin_24 ?_
      refine c_FP_44 C d_FP_begin_25 (m_isWithin 1 w i 0 ((W : Int) - 1) hi (by unfold zok; omega) (by unfold zok; omega)) (by omega) (Nat.le_of_ble_eq_true rfl) (fxPure.k1 ?_) fxPure.k2
      refine zr_if_ne (tgt := 41) C d_FP_begin_28 (by decide) (zok_b _) (fun c_28 => ?_) (fun c_28 => ?_)
      · have p2 : 0 ≤ i ∧ i ≤ (W : Int) - 1 := Classical.byContradiction fun z => c_28 (bI_f z)
        refine r_iload C d_FP_begin_41 rfl ?_
        refine r_sipush (v := Int32.ofInt (-1000)) C d_FP_begin_43 (by decide) ?_
        refine r_sipush (v := Int32.ofInt 1000) C d_FP_begin_46 (by decide) ?_
        refine c_FP_44 C d_FP_begin_49 (m_isWithin 1 w c (-1000) 1000 hc (by unfold zok; omega) (by unfold zok; omega)) (by omega) (Nat.le_of_ble_eq_true rfl) (fxPure.k1 ?_) fxPure.k2
        refine zr_if_eq (tgt := 69) C d_FP_begin_52 (by decide) (zok_b _) (fun c_52 => ?_) (fun c_52 => ?_)
        · refine x_7 C (si := 81) (tx := "c or d out of range") (by decide +kernel) d_FP_begin_69 d_FP_begin_72 d_FP_begin_73 d_FP_begin_75 d_FP_begin_78 (by omega) (Nat.le_of_ble_eq_true rfl) (by omega) (by omega) (rt_out C rfl ?_)
          exact bad fun z => by rw [bI_t z.2.2.1] at c_52; exact absurd c_52 (by decide)
        · have p3 : -1000 ≤ c ∧ c ≤ 1000 := Classical.byContradiction fun z => c_52 (bI_f z)
          refine r_iload C d_FP_begin_55 rfl ?_
          refine r_sipush (v := Int32.ofInt (-1000)) C d_FP_begin_57 (by decide) ?_
          refine r_sipush (v := Int32.ofInt 1000) C d_FP_begin_60 (by decide) ?_
          refine c_FP_44 C d_FP_begin_63 (m_isWithin 1 w d (-1000) 1000 hd (by unfold zok; omega) (by unfold zok; omega)) (by omega) (Nat.le_of_ble_eq_true rfl) (fxPure.k1 ?_) fxPure.k2
          refine zr_if_ne (tgt := 79) C d_FP_begin_66 (by decide) (zok_b _) (fun c_66 => ?_) (fun c_66 => ?_)
          · have p4 : -1000 ≤ d ∧ d ≤ 1000 := Classical.byContradiction fun z => c_66 (bI_f z)
            rw [if_neg (fun z => z ⟨p1, by rw [hW]; exact p2, p3, p4⟩)] at hM
            refine r_aload_n C d_FP_begin_79 rfl rfl ?_
            refine r_aload C d_FP_begin_80 rfl ?_
            refine c_FP_55 C d_FP_begin_82 h.p0 (m_refuseIfBusy 6 h hB (by omega) ra hr4 (by omega) (by omega)) (by omega) (Nat.le_of_ble_eq_true rfl) (cOr.k1 fun nb => ?_) (cOr.k2 fun nb => ?_)
            · obtain ⟨j0, hj⟩ := Int.eq_ofNat_of_zero_le j1
              obtain ⟨n0, hn⟩ := Int.eq_ofNat_of_zero_le hB.2.2.2.2.1.1
              obtain ⟨i', hi'⟩ := Int.eq_ofNat_of_zero_le p2.1
              subst hi'
              have pn := h.pn
              rw [hj] at pn
              refine r_aload_n C d_FP_begin_85 rfl rfl ?_
              refine g_FP_83 C d_FP_begin_86 h.p0 pn ?_
              refine r_bipush (v := Int32.ofInt 12) C d_FP_begin_89 (by decide) ?_
              refine zr_icmp_lt (tgt := 104) C d_FP_begin_91 (by decide) (by unfold zok; omega) (by unfold zok; omega) (fun c_91 => ?_) (fun c_91 => ?_)
              · rw [if_neg (fun z => z.elim nb (fun z => by omega))] at hM
                have hMe : MM = (S.1 14 0, mPut (mBg (sp S 0 0 0) j0 k ra c d) i' n0) := by
                  rw [← hM, hj, hn, Int.toNat_natCast, Int.toNat_natCast]
                obtain ⟨gT, gJ, gK, gN, g23, g14, gj, d4, d21, d22, d22n⟩ := mBg_f (sp S 0 0 0) j0 n0 ra k c d hn hj
                have bO : (mBg (sp S 0 0 0) j0 k ra c d).1 0 0 = 0 := by rw [gK 0 (by decide) (by decide) (by decide) (by decide) (by decide) (by decide) (by decide) (by decide) (by decide) (by decide) (by decide) (by decide) (by decide) (by decide) (by decide)]; exact sp_same _ _ _ _
                -- the job
                obtain ⟨w1, hw1⟩ : ∃ w1, w1 = fx_new w 2 10 (fun k => defaultValue (tJob k)) := ⟨_, rfl⟩
                have t1 : fxt w1 = fxt w + 1 := by rw [hw1]; rfl
                have u1 : fxu w1 = fxu w + 10 := by rw [hw1]; rfl
                have k1n : fxk w1 (fxt w) = some (2, 0) := by rw [hw1]; exact fxk_new _ _ _ _
                have k1 : ∀ b, b ≠ fxt w → fxk w1 b = fxk w b := fun b hb => by rw [hw1]; exact fxk_newN _ _ _ _ hb
                have v1 : ∀ g b, b ≠ fxt w → fxf w1 g b = fxf w g b := fun g b hb => by rw [hw1]; exact fxf_newN _ _ _ _ hb
                have v1n : ∀ g, 128 ≤ g → fxf w1 g (fxt w) = defaultValue (tJob (g - 128)) := fun g hg => by rw [hw1]; exact fxf_new _ _ _ _ hg
                have e1 : ∀ t b j, fxe w1 t b j = fxe w t b j := fun t b j => by rw [hw1]; rfl
                have p0lt := hdm _ _ _ h.p0
                have p8lt := hdm _ _ _ h.kj
                have rlt := hdm _ _ _ R.1
                refine n_FP_34 C d_FP_begin_104 (by omega) (by omega) ?_
                rw [← hw1]
                refine r_dup C d_FP_begin_107 rfl ?_
                refine r_aload_n C d_FP_begin_108 rfl rfl ?_
                refine g_FP_83 C d_FP_begin_109 ((k1 _ (by omega)).trans h.p0) ((v1 _ _ (by omega)).trans pn) ?_
                refine r_iload_n C d_FP_begin_112 rfl rfl ?_
                refine r_aload C d_FP_begin_113 rfl ?_
                refine r_iload C d_FP_begin_115 rfl ?_
                refine r_iload C d_FP_begin_117 rfl ?_
                refine c_FP_91 C d_FP_begin_119 (m_Job_init 1 (by omega) k1n _ _ _ _) (by omega) (Nat.le_of_ble_eq_true rfl) ?_ (fun a w' z => by cases z.1)
                rintro v' w2 ⟨e9, hw2⟩
                cases e9
                obtain ⟨f1, f2, f3, f4, f5, f6, f7, f8, f9⟩ := jIn_f w1 (fxt w) (A 1 ra) (j0 : Int) k c d
                rw [← hw2] at f1 f2 f3 f4 f5 f6 f7 f8 f9
                have k2 : ∀ b, fxk w2 b = fxk w1 b := fun b => by rw [hw2]; rfl
                have t2 : fxt w2 = fxt w + 1 := by rw [hw2]; exact t1
                have u2 : fxu w2 = fxu w + 10 := by rw [hw2]; exact u1
                have e2 : ∀ t b j, fxe w2 t b j = fxe w t b j := fun t b j => by rw [hw2]; exact e1 t b j
                have k2o : ∀ b, b ≠ fxt w → fxk w2 b = fxk w b := fun b hb => (k2 b).trans (k1 b hb)
                have v2o : ∀ g b, b ≠ fxt w → fxf w2 g b = fxf w g b := fun g b hb => (f9 g b hb).trans (v1 g b hb)
                show fxR G 8 x _ w2 _ _ [.ref (fxt w)]
                refine r_astore (ls' := [(7, _), (6, _), (0, _), (1, _), (2, _), (3, _), (4, _), (5, _)]) C d_FP_begin_122 (by decide) rfl ?_
                refine r_aload_n C d_FP_begin_124 rfl rfl ?_
                refine g_FP_36 C d_FP_begin_125 ((k2o _ (by omega)).trans h.p0) ((v2o _ _ (by omega)).trans h.pj) ?_
                refine r_aload_n C d_FP_begin_128 rfl rfl ?_
                refine g_FP_83 C d_FP_begin_129 ((k2o _ (by omega)).trans h.p0) ((v2o _ _ (by omega)).trans pn) ?_
                refine r_aload C d_FP_begin_132 rfl ?_
                refine zr_aastore (t := 5) (k := j0) (ci := 2) (n := 12) (n' := 0) (r := (RJob, FJob, 10)) (E := "ForkPool$Job") C d_FP_begin_134 (by decide) rfl ((k2o _ (by omega)).trans h.kj) ((k2 _).trans k1n) (by decide) rfl (Or.inl rfl) rfl (by omega) (by decide) ?_
                obtain ⟨w3, hw3⟩ : ∃ w3, w3 = fx_ast w2 5 (A 8 2) j0 (.ref (fxt w)) := ⟨_, rfl⟩
                rw [← hw3]
                have k3 : ∀ b, fxk w3 b = fxk w2 b := fun b => by rw [hw3]; rfl
                have v3 : ∀ g b, fxf w3 g b = fxf w2 g b := fun g b => by rw [hw3]; rfl
                have t3 : fxt w3 = fxt w + 1 := by rw [hw3]; exact t2
                have u3 : fxu w3 = fxu w + 10 := by rw [hw3]; exact u2
                have e3 : ∀ t b j, (t ≠ 5 ∨ b ≠ A 8 2 ∨ j ≠ j0) → fxe w3 t b j = fxe w t b j := fun t b j hh => by
                  rw [hw3]
                  show (if t = 5 then (if b = A 8 2 then (if j = j0 then _ else fxe w2 t b j) else fxe w2 t b j) else fxe w2 t b j) = _
                  rcases hh with q | q | q
                  · rw [if_neg q]; exact e2 t b j
                  · rw [if_neg q]; split <;> exact e2 t b j
                  · rw [if_neg q]; split <;> (try split) <;> exact e2 t b j
                have e3j : fxe w3 5 (A 8 2) j0 = .ref (fxt w) := by
                  rw [hw3]
                  show (if 5 = 5 then (if A 8 2 = A 8 2 then (if j0 = j0 then Value.ref (fxt w) else fxe w2 5 (A 8 2) j0) else fxe w2 5 (A 8 2) j0) else fxe w2 5 (A 8 2) j0) = _
                  rw [if_pos rfl, if_pos rfl, if_pos rfl]
                have kp3 : fxk w3 (A 0 0) = some (0, 0) := (k3 _).trans ((k2o _ (by omega)).trans h.p0)
                refine r_aload_n C d_FP_begin_135 rfl rfl ?_
                refine r_dup C d_FP_begin_136 rfl ?_
                refine g_FP_83 C d_FP_begin_137 kp3 ((v3 _ _).trans ((v2o _ _ (by omega)).trans pn)) ?_
                refine r_iconst C d_FP_begin_140 rfl ?_
                refine zr_iadd C d_FP_begin_141 ?_
                refine p_FP_83 C d_FP_begin_142 rfl rfl kp3 ?_
                obtain ⟨w4, hw4⟩ : ∃ w4, w4 = fx_put w3 3 (A 0 0) (zi ((j0 : Int) + 1)) := ⟨_, rfl⟩
                rw [← hw4]
                have k4 : ∀ b, fxk w4 b = fxk w2 b := fun b => by rw [hw4]; exact k3 b
                have t4 : fxt w4 = fxt w + 1 := by rw [hw4]; exact t3
                have u4 : fxu w4 = fxu w + 10 := by rw [hw4]; exact u3
                have e4 : ∀ t b j, fxe w4 t b j = fxe w3 t b j := fun t b j => by rw [hw4]; rfl
                have v4 : ∀ g b, (g ≠ 3 ∨ b ≠ A 0 0) → fxf w4 g b = fxf w2 g b := fun g b hb => by rw [hw4, fxf_putN _ _ hb]; exact v3 g b
                have v4p : fxf w4 3 (A 0 0) = zi ((j0 : Int) + 1) := by rw [hw4]; exact fxf_put _ _ _ _
                have kp4 : fxk w4 (A 0 0) = some (0, 0) := (k4 _).trans ((k2o _ (by omega)).trans h.p0)
                have wlt := hdm _ _ _ h.kw
                refine r_aload_n C d_FP_begin_145 rfl rfl ?_
                refine g_FP_27 C d_FP_begin_146 kp4 ((v4 _ _ (Or.inl (by decide))).trans ((v2o _ _ (by omega)).trans h.pw)) ?_
                refine r_iload_n C d_FP_begin_149 rfl rfl ?_
                have ew4 : fxe w4 4 (A 8 1) i' = .ref (A 5 i') := (e4 _ _ _).trans ((e3 _ _ _ (Or.inl (by decide))).trans (h.ew (by omega)))
                refine zr_aaload C d_FP_begin_150 (by decide) rfl rfl (t := 4) (k := i') (Or.inl ((k4 _).trans ((k2o _ (by omega)).trans kw))) rfl (by omega) (by omega) ew4 ?_
                -- the task
                obtain ⟨w5, hw5⟩ : ∃ w5, w5 = fx_new w4 3 9 (fun k => defaultValue (tTask k)) := ⟨_, rfl⟩
                have t5 : fxt w5 = fxt w + 2 := by rw [hw5]; show fxt w4 + 1 = _; omega
                have u5 : fxu w5 = fxu w + 19 := by rw [hw5]; show fxu w4 + 9 = _; omega
                have k5n : fxk w5 (fxt w + 1) = some (3, 0) := by rw [hw5, ← t4]; exact fxk_new _ _ _ _
                have k5 : ∀ b, b ≠ fxt w + 1 → fxk w5 b = fxk w4 b := fun b hb => by rw [hw5]; exact fxk_newN _ _ _ _ (by omega)
                have v5 : ∀ g b, b ≠ fxt w + 1 → fxf w5 g b = fxf w4 g b := fun g b hb => by rw [hw5]; exact fxf_newN _ _ _ _ (by omega)
                have v5n : ∀ g, 192 ≤ g → fxf w5 g (fxt w + 1) = defaultValue (tTask (g - 192)) := fun g hg => by rw [hw5, ← t4]; exact fxf_new _ _ _ _ hg
                have e5 : ∀ t b j, fxe w5 t b j = fxe w4 t b j := fun t b j => by rw [hw5]; rfl
                refine n_FP_94 C d_FP_begin_151 (by omega) (by omega) ?_
                rw [← hw5, t4]
                refine r_dup C d_FP_begin_154 rfl ?_
                refine r_aload C d_FP_begin_155 rfl ?_
                refine r_null C d_FP_begin_157 ?_
                refine r_iconst C d_FP_begin_158 rfl ?_
                refine r_aload C d_FP_begin_159 rfl ?_
                refine g_FP_96 C d_FP_begin_161 ((k5 _ (by omega)).trans ((k4 _).trans ((k2o _ (by omega)).trans R.1))) ((v5 _ _ (by omega)).trans ((v4 _ _ (Or.inl (by decide))).trans ((v2o _ _ (by omega)).trans R.2.2.2.1))) ?_
                refine c_FP_99 C d_FP_begin_164 (m_Task_initN 1 (by omega) k5n _ _) (by omega) (Nat.le_of_ble_eq_true rfl) ?_ (fun a w' z => by cases z.1)
                rintro v' w6 ⟨e9, hw6⟩
                cases e9
                obtain ⟨h1, h2, h3, h4, h5, h6⟩ := tIn_f w5 (fxt w + 1) (.ref (fxt w)) .null 0 (S.1 3 ra)
                rw [← hw6] at h1 h2 h3 h4 h5 h6
                have k6 : ∀ b, fxk w6 b = fxk w5 b := fun b => by rw [hw6]; rfl
                have t6 : fxt w6 = fxt w + 2 := by rw [hw6]; exact t5
                have u6 : fxu w6 = fxu w + 19 := by rw [hw6]; exact u5
                have e6 : ∀ t b j, fxe w6 t b j = fxe w3 t b j := fun t b j => by rw [hw6]; exact (e5 t b j).trans (e4 t b j)
                have v6 : ∀ g b, b ≠ fxt w + 1 → fxf w6 g b = fxf w4 g b := fun g b hb => (h6 g b hb).trans (v5 g b hb)
                have v6j : ∀ g, g ≠ 3 → fxf w6 g (fxt w) = fxf w2 g (fxt w) := fun g hg => (v6 g _ (by omega)).trans (v4 g _ (Or.inl hg))
                have v2d : ∀ g, 134 < g → fxf w2 g (fxt w) = defaultValue (tJob (g - 128)) := fun g hg => (f8 g hg).trans (v1n g (by omega))
                have v6n : ∀ g, 195 < g → fxf w6 g (fxt w + 1) = defaultValue (tTask (g - 192)) := fun g hg => (h5 g hg).trans (v5n g (by omega))
                obtain ⟨A', y1, y2, y3, y4, y5⟩ := Rc.beg (S := sp S 0 0 0) (S' := mBg (sp S 0 0 0) j0 k ra c d) (w' := w6) (h.th 0) hB hdm hn hj g23 g14 (fun c h1 h2 x hx => gJ c x (by omega) h1 h2) (fun c hc => gK c (by omega) (by omega) (by omega) (by omega) (by omega) (by omega) (by omega) (by omega) (by omega) (by omega) (by omega) (by omega) (by omega) (by omega) (by omega)) (fun c h1 h2 x hx => gT c x hx h1 h2) gN.1 gN.2.2.2.1 gN.2.2.2.2.1
                  (by rw [gK 9 (by decide) (by decide) (by decide) (by decide) (by decide) (by decide) (by decide) (by decide) (by decide) (by decide) (by decide) (by decide) (by decide) (by decide) (by decide)]; exact (hF.1 j0 (by omega) (by omega)).1) (by rw [gK 11 (by decide) (by decide) (by decide) (by decide) (by decide) (by decide) (by decide) (by decide) (by decide) (by decide) (by decide) (by decide) (by decide) (by decide) (by decide)]; exact (hF.1 j0 (by omega) (by omega)).2) gj.2.2.2.2.2 d21 d22 d22n d4 (hZ.1 n0 (by omega))
                  (fun b hb => (k6 b).trans ((k5 b (by omega)).trans ((k4 b).trans (k2o b (by omega))))) ((k6 _).trans ((k5 _ (by omega)).trans ((k4 _).trans ((k2 _).trans k1n)))) ((k6 _).trans k5n)
                  (fun g b hb hg => (v6 g b (by omega)).trans ((v4 g b hg.symm).trans (v2o g b (by omega)))) (by rw [v6 3 _ (by omega), v4p]; rfl) (fun t b j hh => (e6 t b j).trans (e3 t b j hh)) ((e6 _ _ _).trans e3j)
                  (by
                    rw [v6j 128 (by decide), v6j 129 (by decide), v6j 130 (by decide), v6j 131 (by decide), v6j 132 (by decide), v6j 133 (by decide), v6j 134 (by decide), v6j 135 (by decide), v6j 136 (by decide), v6j 137 (by decide), gj.1, gj.2.1, gj.2.2.1, gj.2.2.2.1, gj.2.2.2.2.1, Int.toNat_natCast, v2d 135 (by decide), v2d 136 (by decide), v2d 137 (by decide)]
                    exact ⟨f1, f2, f3, f4, f5, f6, f7, rfl, rfl, rfl⟩)
                  (by
                    rw [gN.2.1, gN.2.2.1, v6n 196 (by decide), v6n 197 (by decide), v6n 198 (by decide), v6n 199 (by decide), v6n 200 (by decide)]
                    exact ⟨h1, h2, h3, h4, rfl, rfl, rfl, rfl, rfl⟩) t6 u6
                have z9 := y3.2.1
                have z8 := y3.2.2.2.1
                have u50 : A' 5 i' = A 5 i' := y1 5 i' (by decide) (by decide) (fun z => by cases z) (fun z => by cases z)
                have b1 : (mBg (sp S 0 0 0) j0 k ra c d).1 1 = S.1 1 := gK 1 (by decide) (by decide) (by decide) (by decide) (by decide) (by decide) (by decide) (by decide) (by decide) (by decide) (by decide) (by decide) (by decide) (by decide) (by decide)
                have b25 : (mBg (sp S 0 0 0) j0 k ra c d).1 25 = S.1 25 := gK 25 (by decide) (by decide) (by decide) (by decide) (by decide) (by decide) (by decide) (by decide) (by decide) (by decide) (by decide) (by decide) (by decide) (by decide) (by decide)
                have hql := hInv.ql i' (by omega)
                have Wk := (y2.wk (i := i') (by rw [b1]; omega)).1
                show fxR G 8 x _ w6 _ _ [.ref (fxt w + 1), .ref (A 5 i')]
                rw [← y5, ← u50]
                refine c_FP_102 C d_FP_begin_167 Wk (m_putOnTop 7 y2 (by omega) (t := n0) (by rw [b1]; omega) (by rw [b1]; omega) (by rw [g23]; omega) (by rw [b25]; exact hB.q0 i' (by omega)) (by rw [b25]; omega) (fun i'' hi'' => by rw [b25]; exact hB.q6 i'' hi'') (by omega) (by omega)) (by omega) (Nat.le_of_ble_eq_true rfl) (cRt.k1 fun w7 A7 q1 q2 q3 => ?_) cRt.k2
                have J7 := q2.jb (j := j0) (by rw [mPut_c _ _ _ _ (by decide) (by decide), g14]; omega)
                have u73 : A7 3 j0 = fxt w := (q1 3 j0 (by decide) (by decide) (fun z => by cases z) (fun _ => by rw [g14]; omega)).trans y4
                rw [JobAt, u73] at J7
                show fxR G 8 x _ w7 _ _ []
                refine r_aload C d_FP_begin_170 rfl ?_
                refine g_FP_106 C d_FP_begin_172 J7.1 J7.2.1 ?_
                rw [← hQ, hMe, hj]
                refine r_ireturn C d_FP_begin_175 rfl ⟨A7, Ax.tr y1 q1 (by show S.1 23 0 ≤ _; rw [g23]; omega) (by show S.1 14 0 ≤ _; rw [g14]; omega), q2, (y3.tr q3).wk (by omega) (by omega), Or.inl ⟨?_, rfl⟩⟩
                show (mPut (mBg (sp S 0 0 0) j0 k ra c d) i' n0).1 0 0 = 0
                rw [mPut_c _ _ _ _ (by decide) (by decide)]
                exact bO
              · rw [if_pos (Or.inr (by omega))] at hM
                subst hM
                rw [← hQ]
                refine x_8 C (si := 88) (tx := "all jobs were begun") (by decide +kernel) d_FP_begin_94 d_FP_begin_97 d_FP_begin_98 d_FP_begin_100 d_FP_begin_103 (by omega) (Nat.le_of_ble_eq_true rfl) (by omega) (by omega) (rt_out C rfl ?_)
                exact cP.th ((h.th 0).th 3) hdm 2 8 (by rw [sp_same]; rfl) rfl (by omega) (by omega)
            · rw [if_pos (Or.inl (Classical.not_not.mp nb))] at hM
              subst hM
              rw [← hQ]
              exact rt_out C rfl (cP.th ((h.th 0).th 3) hdm 2 8 (by rw [sp_same]; rfl) rfl (by omega) (by omega))
          · refine x_7 C (si := 81) (tx := "c or d out of range") (by decide +kernel) d_FP_begin_69 d_FP_begin_72 d_FP_begin_73 d_FP_begin_75 d_FP_begin_78 (by omega) (Nat.le_of_ble_eq_true rfl) (by omega) (by omega) (rt_out C rfl ?_)
            exact bad fun z => by rw [bI_t z.2.2.2] at c_66; exact absurd c_66 (by decide)
      · refine x_7 C (si := 79) (tx := "kind or worker out of range") (by decide +kernel) d_FP_begin_31 d_FP_begin_34 d_FP_begin_35 d_FP_begin_37 d_FP_begin_40 (by omega) (Nat.le_of_ble_eq_true rfl) (by omega) (by omega) (rt_out C rfl ?_)
        exact bad fun z => by rw [bI_t (by have := z.2.1; omega)] at c_28; exact absurd c_28 (by decide)
  · rw [if_pos n1] at hM
    subst hM
    exact rt_out C rfl (cP.th ((h.th 0).th 1) hdm 0 9 (by rw [sp_same]; rfl) rfl (by omega) (by omega))

/-! THE PUBLIC METHODS OF THE POOL, II: step, join -/
/-- no thrown number, and no task goes away -/
def M0 (S S' : Ms) : Prop := S'.1 0 = S.1 0 ∧ S.1 23 0 ≤ S'.1 23 0
theorem M0.tr {S S' S'' : Ms} (h : M0 S S') (h' : M0 S' S'') : M0 S S'' := ⟨h'.1.trans h.1, by have := h.2; have := h'.2; omega⟩
theorem M0.of {S S' : Ms} (h : S'.1 0 = S.1 0) (h' : S'.1 23 = S.1 23) : M0 S S' := ⟨h, by rw [h']; exact Int.le_refl _⟩
theorem M0.of1 {S S' : Ms} (h : S'.1 = S.1) : M0 S S' := M0.of (by rw [h]) (by rw [h])
theorem fin_0 (i j : Nat) : ∀ (n k : Nat) (S : Ms), M0 S (finF i j n k S) := by
  intro n
  induction n with
  | zero => intro k S; exact M0.of1 rfl
  | succ n ih =>
    intro k S
    rw [finF_succ]
    split
    · unfold finE
      split
      · exact M0.of (spf _ _ _ _ (by decide)) (spf _ _ _ _ (by decide))
      · exact M0.of (funext fun x => mPut_c _ _ _ _ (by decide) (by decide)) (funext fun x => mPut_c _ _ _ _ (by decide) (by decide))
    · split
      · exact M0.of (spf _ _ _ _ (by decide)) (spf _ _ _ _ (by decide))
      · refine M0.tr ?_ (ih _ _)
        exact M0.of (by rw [finJ_1]; exact spf _ _ _ _ (by decide)) (by rw [finJ_1]; exact spf _ _ _ _ (by decide))
theorem end_0 {S : Ms} (hB : Bi S) (hE : QE S) (j : Nat) (v : Int) : M0 S (mEnd S j v) := by
  obtain ⟨-, -, -, -, q4⟩ := mEnd_q hB hE j v
  exact M0.of (funext fun x => by rw [q4 0 x (by decide) (by decide), sp_k _ _ _ _ (by decide), sp_k _ _ _ _ (by decide)]) (funext fun x => by rw [q4 23 x (by decide) (by decide), sp_k _ _ _ _ (by decide), sp_k _ _ _ _ (by decide)])
theorem perform_0 {S : Ms} {t i : Nat} (hB : Bi S) (hE : QE S) (ht : (t : Int) < S.1 23 0) : M0 S (mPerform S t i) := by
  unfold mPerform
  simp only
  generalize hS1 : sp (sp S 11 (mOf S t) (S.1 11 (mOf S t) + 1)) 26 i (S.1 26 i + 1) = S1
  have k1 : ∀ c, c ≠ 11 → c ≠ 26 → S1.1 c = S.1 c := fun c h1 h2 => by rw [← hS1]; funext jj; rw [sp_k _ _ _ _ h2, sp_k _ _ _ _ h1]
  have hB1 : Bi S1 := by rw [← hS1]; exact hB.mono (fun c jj _ _ _ h11 h26 _ _ _ _ => by rw [sp_k _ _ _ _ h26, sp_k _ _ _ _ h11]) hB.2.2.2.2.2.2.1
  have hE1 : QE S1 := by rw [← hS1]; exact hE
  have ht1 : (t : Int) < S1.1 23 0 := by rw [k1 23 (by decide) (by decide)]; exact ht
  have fk : mForks S1 t ↔ mForks S t := by unfold mForks mOf; rw [k1 13 (by decide) (by decide), k1 15 (by decide) (by decide), k1 30 (by decide) (by decide), k1 17 (by decide) (by decide), k1 16 (by decide) (by decide), k1 19 (by decide) (by decide)]
  have m1 : M0 S S1 := M0.of (k1 0 (by decide) (by decide)) (k1 23 (by decide) (by decide))
  by_cases hf : mForks S t
  · rw [if_pos hf, mFork_eq]
    obtain ⟨-, -, f3, f4⟩ := mFk_q hB1 ht1 (fk.mpr hf)
    refine m1.tr (M0.tr (S' := mFk S1 t) ⟨f4 0 (by simp), f3⟩ ?_)
    exact M0.of (funext fun x => by rw [mPut_c _ _ _ _ (by decide) (by decide), mPut_c _ _ _ _ (by decide) (by decide)]) (funext fun x => by rw [mPut_c _ _ _ _ (by decide) (by decide), mPut_c _ _ _ _ (by decide) (by decide)])
  · rw [if_neg hf]
    cases hl : (mLeaf S1 t).1
    · rw [if_neg (by simp)]
      obtain ⟨S2, k', e1, e2, e3⟩ := mLeaf_f hl
      rw [e3]
      exact m1.tr ((M0.of1 e1).tr (end_0 (hB1.of1 e1) (hE1.of1 e1) _ _))
    · rw [if_pos rfl]
      exact m1.tr ((M0.of1 (mLeaf_t hl)).tr (fin_0 _ _ _ _ _))
theorem turns_0 {S : Ms} (h : Inv S) : M0 S (mTurns S).2 := by
  obtain ⟨hB, hE, ⟨L, hT⟩, -⟩ := h
  obtain ⟨i, W, hi, hW, hiW, hc⟩ := mTurns_cases hB hE
  rcases hc with ⟨S2, v, k, hB2, hv4, hk, k2, s2, e⟩ | ⟨S2, k2, s2, e⟩
  · rw [e]
    have hW4 := hB.1.2
    have d25 : S2.1 25 = S.1 25 := k2 25 (by decide) (by decide) (by decide) (by decide)
    have hqk : S2.1 25 v = (((S.1 25 v).toNat : Nat) : Int) := by rw [d25]; omega
    have hB3 := Bi_pull (i := v) (k := k) (q := (S.1 25 v).toNat) hB2 (by omega) hqk (by omega)
    have k3 : ∀ c, c ≠ 24 → c ≠ 25 → c ≠ 27 → c ≠ 29 → c ≠ 31 → c ≠ 32 → (mPull S2 v k).1 c = S.1 c := fun c z1 z2 a1 a2 a3 a4 => by funext x; rw [mPull_k c x z1 z2, k2 c a1 a2 a3 a4]
    have hE3 : QE (mPull S2 v k) := by
      intro i' h1 h2
      rw [k3 1 (by decide) (by decide) (by decide) (by decide) (by decide) (by decide)] at h2
      rw [mPull_25, if_neg (by omega), d25]
      exact hE i' h1 h2
    have hq := (hB.2.2.2.2.2.2.1 v (by omega)).2.2 k hk
    have c23 := k3 23 (by decide) (by decide) (by decide) (by decide) (by decide) (by decide)
    exact (M0.of (k3 0 (by decide) (by decide) (by decide) (by decide) (by decide) (by decide)) c23).tr (perform_0 hB3 hE3 (by rw [c23]; omega))
  · rw [e]
    exact M0.of (k2 0 (by decide) (by decide) (by decide)) (k2 23 (by decide) (by decide) (by decide))
/-- what holds while steps are made: from (A, S, w), having spent k -/
def cLp (G : fxG) (A : Ad) (S : Ms) (w : fxW) (k : Nat) (A1 : Ad) (S1 : Ms) (w1 : fxW) : Prop := Rc G A1 S1 w1 ∧ Inv3 S1 ∧ Ax S A A1 ∧ CF (4 * k) (1818 * k) w w1 ∧ (k : Int) + Ph S1 ≤ Ph S ∧ S1.1 0 0 = 0 ∧ S.1 23 0 ≤ S1.1 23 0 ∧ S1.1 14 0 = S.1 14 0
theorem cLp.th {G : fxG} {A : Ad} {S : Ms} {w : fxW} (h : Rc G A S w) (hI : Inv3 S) : cLp G A S w 0 A (sp S 0 0 0) w := ⟨h.th 0, hI.th 0, Ax.rf, CF.rf, by rw [Ph_th]; omega, sp_same _ _ _ _, Int.le_refl _, rfl⟩
/-- a step of the loops -/
theorem cLp.step {G : fxG} {A : Ad} {S : Ms} {w : fxW} {k : Nat} {A1 : Ad} {S1 : Ms} {w1 : fxW} (h : cLp G A S w k A1 S1 w1) (d : Nat) (hd : 11 ≤ d) (t9 : fxt w + 4 * (Ph S).toNat ≤ fxmt G) (t8 : fxu w + 1818 * (Ph S).toNat ≤ fxmu G) : fxM G d y_FP_makeStep [.ref (A1 0 0)] w1 (fun o w' => o = .returned (some (zi (bz (mTurns S1).1))) ∧ ∃ A', A' 0 0 = A1 0 0 ∧ cLp G A S w (k + (if (mTurns S1).1 then 1 else 0)) A' (mTurns S1).2 w' ∧ ∀ j : Nat, (j : Int) < S.1 14 0 → A' 3 j = A1 3 j) := by
  obtain ⟨h1, hI, hA, hC, hP, h0, h23, h14⟩ := h
  obtain ⟨o1, o2, o3, o4⟩ := turns_ok hI.1.1
  have n1 := o1.nn.2
  have n2 := hI.1.1.nn.2
  have c1 := hC.2.1
  have c2 := hC.2.2.2.1
  obtain ⟨z1, z2⟩ := turns_0 hI.1.1
  have key := m_makeStep d h1 hI hd (fun hb => by have := o3 hb; omega) (fun hb => by have := o3 hb; omega)
  refine key.mono ?_
  rintro o w' ⟨e, A', g1, g2, g3⟩
  refine ⟨e, A', g1 0 0 (by decide) (by decide) (fun z => by cases z) (fun z => by cases z), ⟨g2, turns3 hI, hA.tr g1 h23 (by omega), ?_, ?_, by rw [z1]; exact h0, by omega, by rw [o2 14 (by simp)]; exact h14⟩, fun j hj => g1 3 j (by decide) (by decide) (fun z => by cases z) (fun _ => by omega)⟩
  · refine (hC.tr g3).wk ?_ ?_
    · cases (mTurns S1).1 <;> simp <;> omega
    · cases (mTurns S1).1 <;> simp <;> omega
  · cases hb : (mTurns S1).1
    · have := (o4 hb).2.2
      simp; omega
    · have := o3 hb
      simp; omega
set_option maxRecDepth 20000 in
theorem m_FP_step {G : fxG} (d : Nat) {A : Ad} {S : Ms} {w : fxW} (h : Rc G A S w) (hI : Inv3 S) (hd1 : 12 ≤ d) (n : Int) (hn : zok n) (t9 : fxt w + (4 * (Ph S).toNat + 1) ≤ fxmt G) (t8 : fxu w + (1818 * (Ph S).toNat + 6) ≤ fxmu G) : fxM G d y_FP_step [.ref (A 0 0), zi n] w (cP G A S w [7] (zi (mStep S n).1) (mStep S n).2 (4 * (Ph S - Ph (mStep S n).2).toNat + 1) (1818 * (Ph S - Ph (mStep S n).2).toNat + 6)) := by
  refine fxM.of cc_FP_step 4 (some .int) [] (by decide +kernel) w_FP_step (Nat.le_of_ble_eq_true rfl) ?_
  intro x C ht hu
  have nn := hI.1.1.nn.2
  show fxR G 4 x _ w 0 [(0, .ref (A 0 0)), (1, zi n)] []
  refine fx_dom (fun hdm => ?_)
  generalize hM : mStep S n = MM
  unfold mStep at hM
  refine r_iload_n C d_FP_step_0 rfl rfl ?_
  refine r_iconst C d_FP_step_1 rfl ?_
  refine r_bipush (v := Int32.ofInt 60) C d_FP_step_2 (by decide) ?_
  refine c_FP_44 C d_FP_step_4 (m_isWithin 1 w n 1 60 hn (by unfold zok; omega) (by unfold zok; omega)) (by omega) (Nat.le_of_ble_eq_true rfl) (fxPure.k1 ?_) fxPure.k2
  refine zr_if_ne (tgt := 20) C d_FP_step_7 (by decide) (zok_b _) (fun c_7 => ?_) (fun c_7 => ?_)
  · have q : 1 ≤ n ∧ n ≤ 60 := Classical.byContradiction fun z => c_7 (bI_f z)
    rw [if_neg (fun z => z q)] at hM
    obtain ⟨N, hN⟩ := Int.eq_ofNat_of_zero_le (show 0 ≤ n by omega)
    subst hN
    rw [Int.toNat_natCast] at hM
    generalize hQ : cP G A S w [7] (zi MM.1) MM.2 (4 * (Ph S - Ph MM.2).toNat + 1) (1818 * (Ph S - Ph MM.2).toNat + 6) = QQ
    have loop : ∀ (m i b k : Nat) (A1 : Ad) (S1 : Ms) (w1 : fxW), i + m = N → stF m b S1 = stF N 0 (sp S 0 0 0) → cLp G A S w k A1 S1 w1 → A1 0 0 = A 0 0 → fxR G 4 x (fxQ G x QQ) w1 24 [(3, zi (i : Int)), (2, zi (b : Int)), (0, .ref (A 0 0)), (1, zi (N : Int))] [] := by
      intro m
      induction m with
      | zero =>
        intro i b k A1 S1 w1 hm hE hL hA0
        refine r_iload_n C d_FP_step_24 rfl rfl ?_
        refine r_iload_n C d_FP_step_25 rfl rfl ?_
        refine zr_icmp_ge (tgt := 45) C d_FP_step_26 (by decide) (by unfold zok; omega) (by unfold zok; omega) (fun c_26 => ?_) (fun c_26 => ?_)
        · refine r_iload_n C d_FP_step_45 rfl rfl ?_
          rw [← hQ, ← hM, ← hE]
          obtain ⟨h1, hI1, hA, hC, hP, h0, h23, h14⟩ := hL
          exact r_ireturn C d_FP_step_46 rfl ⟨A1, hA, h1, hC.wk (by show 4 * k ≤ 4 * (Ph S - Ph S1).toNat + 1; omega) (by show 1818 * k ≤ 1818 * (Ph S - Ph S1).toNat + 6; omega), Or.inl ⟨h0, rfl⟩⟩
        · exact absurd c_26 (by omega)
      | succ m ih =>
        intro i b k A1 S1 w1 hm hE hL hA0
        refine r_iload_n C d_FP_step_24 rfl rfl ?_
        refine r_iload_n C d_FP_step_25 rfl rfl ?_
        refine zr_icmp_ge (tgt := 45) C d_FP_step_26 (by decide) (by unfold zok; omega) (by unfold zok; omega) (fun c_26 => ?_) (fun c_26 => ?_)
        · exact absurd c_26 (by omega)
        · have key := hL.step 11 (by omega) (by omega) (by omega)
          rw [hA0] at key
          refine r_aload_n C d_FP_step_29 rfl rfl ?_
          refine c_FP_111 C d_FP_step_30 (show fxk w1 (A 0 0) = some (0, 0) by rw [← hA0]; exact hL.1.p0) key (by omega) (Nat.le_of_ble_eq_true rfl) ?_ ?_
          · rintro v' w2 ⟨e9, A2, a0, hL2, -⟩
            cases e9
            show fxR G 4 x _ w2 33 _ [zi (bz (mTurns S1).1)]
            have hE' : stF m (b + (if (mTurns S1).1 then 1 else 0)) (mTurns S1).2 = stF N 0 (sp S 0 0 0) := hE
            cases hb : (mTurns S1).1
            · rw [hb] at hL2 hE'
              refine zr_if_eq (tgt := 39) C d_FP_step_33 (by decide) ⟨by decide, by decide⟩ (fun c_33 => ?_) (fun c_33 => ?_)
              · refine zr_iinc (ls' := [(3, _), (2, _), (0, _), (1, _)]) C d_FP_step_39 rfl (by decide) rfl ?_
                refine r_goto (tgt := 24) C d_FP_step_42 (by decide) ?_
                exact ih (i + 1) b k A2 _ w2 (by omega) hE' hL2 a0
              · exact absurd rfl c_33
            · rw [hb] at hL2 hE'
              refine zr_if_eq (tgt := 39) C d_FP_step_33 (by decide) ⟨by decide, by decide⟩ (fun c_33 => ?_) (fun c_33 => ?_)
              · exact absurd c_33 (by decide)
              · refine zr_iinc (ls' := [(2, _), (3, _), (0, _), (1, _)]) C d_FP_step_36 rfl (by decide) rfl ?_
                refine zr_iinc (ls' := [(3, _), (2, _), (0, _), (1, _)]) C d_FP_step_39 rfl (by decide) rfl ?_
                refine r_goto (tgt := 24) C d_FP_step_42 (by decide) ?_
                exact fx_sub (ls' := [(3, zi ((i + 1 : Nat) : Int)), (2, zi ((b + 1 : Nat) : Int)), (0, .ref (A 0 0)), (1, zi (N : Int))]) (by simp [fxL]) (ih (i + 1) (b + 1) (k + 1) A2 _ w2 (by omega) hE' hL2 a0)
          · rintro a w' ⟨e9, -⟩
            cases e9
    refine r_iconst C d_FP_step_20 rfl ?_
    refine r_istore_n (ls' := [(2, _), (0, _), (1, _)]) C d_FP_step_21 rfl (by decide) rfl ?_
    refine r_iconst C d_FP_step_22 rfl ?_
    refine r_istore_n (ls' := [(3, _), (2, _), (0, _), (1, _)]) C d_FP_step_23 rfl (by decide) rfl ?_
    exact fx_sub (ls' := [(3, zi ((0 : Nat) : Int)), (2, zi ((0 : Nat) : Int)), (0, .ref (A 0 0)), (1, zi (N : Int))]) (by simp [fxL]) (loop N 0 0 0 A _ w (by omega) rfl (cLp.th h hI) rfl)
  · have q : ¬ (1 ≤ n ∧ n ≤ 60) := fun z => by rw [bI_t z] at c_7; exact absurd c_7 (by decide)
    rw [if_pos q] at hM
    subst hM
    refine x_7 C (si := 109) (tx := "number of steps out of range") (by decide +kernel) d_FP_step_10 d_FP_step_13 d_FP_step_14 d_FP_step_16 d_FP_step_19 (by omega) (Nat.le_of_ble_eq_true rfl) (by omega) (by omega) (rt_out C rfl ?_)
    exact cP.th ((h.th 0).th 1) hdm 0 7 (by rw [sp_same]; rfl) rfl (by omega) (by omega)
set_option maxRecDepth 20000 in
theorem m_FP_join {G : fxG} (d : Nat) {A : Ad} {S : Ms} {w : fxW} (h : Rc G A S w) (hI : Inv3 S) (hd1 : 12 ≤ d) (j : Int) (hj : zok j) (t9 : fxt w + (4 * (Ph S).toNat + 1) ≤ fxmt G) (t8 : fxu w + (1818 * (Ph S).toNat + 6) ≤ fxmu G) : fxM G d y_FP_join [.ref (A 0 0), zi j] w (cP G A S w [9, 10] (zi (mJoin S j).1) (mJoin S j).2 (4 * (Ph S - Ph (mJoin S j).2).toNat + 1) (1818 * (Ph S - Ph (mJoin S j).2).toNat + 6)) := by
  refine fxM.of cc_FP_join 4 (some .int) [] (by decide +kernel) w_FP_join (Nat.le_of_ble_eq_true rfl) ?_
  intro x C ht hu
  have nn := hI.1.1.nn.2
  have ph := hI.1.1.ph
  have hB := hI.1.1.1
  show fxR G 4 x _ w 0 [(0, .ref (A 0 0)), (1, zi j)] []
  refine fx_dom (fun hdm => ?_)
  generalize hM : mJoin S j = MM
  unfold mJoin at hM
  refine r_aload_n C d_FP_join_0 rfl rfl ?_
  refine r_iload_n C d_FP_join_1 rfl rfl ?_
  refine c_FP_115 C d_FP_join_2 h.p0 (m_begunJob 6 h hB (by omega) j hj (by omega) (by omega)) (by omega) (Nat.le_of_ble_eq_true rfl) (cOr.k1 fun n0 => ?_) (cOr.k2 fun n0 => ?_)
  · rw [if_neg (fun z => z n0)] at hM
    obtain ⟨k, hk⟩ := Int.eq_ofNat_of_zero_le n0.1
    subst hk
    rw [Int.toNat_natCast] at hM ⊢
    generalize hQ : cP G A S w [9, 10] (zi MM.1) MM.2 (4 * (Ph S - Ph MM.2).toNat + 1) (1818 * (Ph S - Ph MM.2).toNat + 6) = QQ
    have loop : ∀ (f m q : Nat) (A1 : Ad) (S1 : Ms) (w1 : fxW), m + f = 1200 → jnF k f m S1 = jnF k 1200 0 (sp S 0 0 0) → cLp G A S w q A1 S1 w1 → A1 0 0 = A 0 0 → A1 3 k = A 3 k → Ph S1 < (f : Int) → fxR G 4 x (fxQ G x QQ) w1 8 [(3, zi (m : Int)), (2, .ref (A 3 k)), (0, .ref (A 0 0)), (1, zi (k : Int))] [] := by
      intro f
      induction f with
      | zero =>
        intro m q A1 S1 w1 hm hE hL hA0 hA3 hP
        have := hL.2.1.1.1.nn.2
        omega
      | succ f ih =>
        intro m q A1 S1 w1 hm hE hL hA0 hA3 hP
        obtain ⟨h1, hI1, hA, hC, hPh, h0, h23, h14⟩ := id hL
        have hk1 : (k : Int) < S1.1 14 0 := by omega
        have J := h1.jb hk1
        rw [JobAt, hA3] at J
        obtain ⟨-, -, -, -, -, s1, s2, -⟩ := hI1.1.1.1.2.2.2.1 k hk1
        rw [jnF] at hE
        refine r_aload_n C d_FP_join_8 rfl rfl ?_
        refine g_FP_119 C d_FP_join_9 J.1 J.2.2.2.2.2.2.1 ?_
        refine zr_if_ne (tgt := 32) C d_FP_join_12 (by decide) (by unfold zok; omega) (fun c_12 => ?_) (fun c_12 => ?_)
        · rw [if_neg c_12] at hE
          refine r_aload_n C d_FP_join_32 rfl rfl ?_
          refine g_FP_119 C d_FP_join_33 J.1 J.2.2.2.2.2.2.1 ?_
          refine r_iconst C d_FP_join_36 rfl ?_
          refine zr_icmp_ne (tgt := 50) C d_FP_join_37 (by decide) (by unfold zok; omega) (by unfold zok; omega) (fun c_37 => ?_) (fun c_37 => ?_)
          · refine r_iload_n C d_FP_join_50 rfl rfl ?_
            rw [← hQ, ← hM, ← hE, if_neg c_37]
            exact r_ireturn C d_FP_join_51 rfl ⟨A1, hA, h1, hC.wk (by show 4 * q ≤ 4 * (Ph S - Ph S1).toNat + 1; omega) (by show 1818 * q ≤ 1818 * (Ph S - Ph S1).toNat + 6; omega), Or.inl ⟨h0, rfl⟩⟩
          · refine fx_dom (fun hdm1 => ?_)
            have n1 := hI1.1.1.nn.2
            have c1 := hC.2.1
            have c2 := hC.2.2.2.1
            rw [← hQ, ← hM, ← hE, if_pos c_37]
            refine x_10 C (si := 125) (tx := "the job has failed") (by decide +kernel) d_FP_join_40 d_FP_join_43 d_FP_join_44 d_FP_join_46 d_FP_join_49 (by omega) (Nat.le_of_ble_eq_true rfl) (by omega) (by omega) (rt_out C rfl ?_)
            have eP : Ph (sp S1 0 0 2) = Ph S1 := Ph_th _ _
            exact ⟨A1, hA, (h1.th 2).ex hdm1 10, (hC.tr (CF_ex hdm1 10)).wk (by show 4 * q + 1 ≤ 4 * (Ph S - Ph (sp S1 0 0 2)).toNat + 1; omega) (by show 1818 * q + 6 ≤ 1818 * (Ph S - Ph (sp S1 0 0 2)).toNat + 6; omega), Or.inr ⟨1, 10, _, by rw [sp_same]; rfl, rfl, rfl, fxk_ex _ _⟩⟩
        · rw [if_pos (by omega)] at hE
          obtain ⟨o1, o2, o3, o4⟩ := turns_ok hI1.1.1
          have hb : (mTurns S1).1 = true := by
            cases hb : (mTurns S1).1
            · obtain ⟨y, hy⟩ := hI1.1.1.busy hk1 (by omega)
              rw [(o4 hb).1] at hy; cases hy
            · rfl
          have h3 := o3 hb
          have key := hL.step 11 (by omega) (by omega) (by omega)
          rw [hA0, hb] at key
          refine r_iload_n C d_FP_join_15 rfl rfl ?_
          refine r_ldc (v := 1000000) C d_FP_join_16 (fxTW_in 641 (by decide +kernel) rfl) ?_
          rw [show Value.int 1000000 = zi 1000000 from rfl]
          refine zr_icmp_ge (tgt := 32) C d_FP_join_18 (by decide) (by unfold zok; omega) (by unfold zok; omega) (fun c_18 => ?_) (fun c_18 => ?_)
          · exact absurd c_18 (by omega)
          · refine r_aload_n C d_FP_join_21 rfl rfl ?_
            refine c_FP_111 C d_FP_join_22 (show fxk w1 (A 0 0) = some (0, 0) by rw [← hA0]; exact h1.p0) key (by omega) (Nat.le_of_ble_eq_true rfl) ?_ ?_
            · rintro v' w2 ⟨e9, A2, a0, hL2, a3⟩
              cases e9
              refine r_pop C d_FP_join_25 rfl ?_
              refine zr_iinc (ls' := [(3, _), (2, _), (0, _), (1, _)]) C d_FP_join_26 rfl (by decide) rfl ?_
              refine r_goto (tgt := 8) C d_FP_join_29 (by decide) ?_
              exact ih (m + 1) (q + 1) A2 _ w2 (by omega) hE hL2 (by rw [a0]) (by rw [a3 k n0.2]; exact hA3) (by omega)
            · rintro a w' ⟨e9, -⟩
              cases e9
    refine r_astore_n (ls' := [(2, _), (0, _), (1, _)]) C d_FP_join_5 rfl (by decide) rfl ?_
    refine r_iconst C d_FP_join_6 rfl ?_
    refine r_istore_n (ls' := [(3, _), (2, _), (0, _), (1, _)]) C d_FP_join_7 rfl (by decide) rfl ?_
    exact fx_sub (ls' := [(3, zi ((0 : Nat) : Int)), (2, .ref (A 3 k)), (0, .ref (A 0 0)), (1, zi (k : Int))]) (by simp [fxL]) (loop 1200 0 0 A _ w (by omega) rfl (cLp.th h hI) rfl rfl (by rw [Ph_th]; omega))
  · rw [if_pos n0] at hM
    subst hM
    exact rt_out C rfl (cP.th ((h.th 0).th 1) hdm 0 9 (by rw [sp_same]; rfl) rfl (by omega) (by omega))

/-! THE POOL'S OWN METHODS, I -/
section FPA
variable {G : fxG} {A : Ad} {S : Ms} {w : fxW}
theorem Rc.p0 (h : Rc G A S w) : fxk w (A 0 0) = some (0, 0) := h.1.1
theorem Rc.pw (h : Rc G A S w) : fxf w 1 (A 0 0) = .ref (A 8 1) := h.1.2.2.1
theorem Rc.kw (h : Rc G A S w) : fxk w (A 8 1) = some (104, (S.1 1 0).toNat) := h.1.2.2.2.2.2.2.2.2.2.1
theorem Rc.ew (h : Rc G A S w) {i : Nat} (hi : (i : Int) < S.1 1 0) : fxe w 4 (A 8 1) i = .ref (A 5 i) := h.1.2.2.2.2.2.2.2.2.2.2.2.2.1 i hi
theorem Rc.wk (h : Rc G A S w) {i : Nat} (hi : (i : Int) < S.1 1 0) : WkAt A S i w := h.2.2.2.2.1.1 i hi
end FPA
set_option maxRecDepth 20000 in
theorem m_mustFork {G : fxG} (d : Nat) {A : Ad} {S : Ms} {w : fxW} (h : Rc G A S w) (hB : Bi S) (hd1 : 1 ≤ d) {t : Nat} (ht9 : (t : Int) < S.1 23 0) : fxM G d y_FP_mustFork [.ref (A 0 0), .ref (A 4 t)] w (fxPure (zi (@bI (mForks S t) (Classical.propDecidable _))) w) := by
  refine fxM.of cc_FP_mustFork 2 (some .boolean) [] (by decide +kernel) w_FP_mustFork (Nat.le_of_ble_eq_true rfl) ?_
  intro x C ht hu
  have T := h.tk ht9
  obtain ⟨b1, b2, b3, b4, b5, -⟩ := hB.2.2.2.2.2.1 t ht9
  obtain ⟨g1, g2⟩ := hB.2.2.2.2.2.2.2.2.1
  obtain ⟨hjn, hbj, hjo⟩ := hB.job ht9
  have J := h.jb hjn
  have rd := hB.rd ht9
  show fxR G 2 x _ w 0 [(0, .ref (A 0 0)), (1, .ref (A 4 t))] []
  refine r_aload_n C d_FP_mustFork_0 rfl rfl ?_
  refine g_FP_177 C d_FP_mustFork_1 T.1 T.2.1 ?_
  refine g_FP_261 C d_FP_mustFork_4 J.1 J.2.2.2.2.2.2.2.2.2.1 ?_
  refine zr_if_eq (tgt := 15) C d_FP_mustFork_7 (by decide) (by split <;> exact ⟨by decide, by decide⟩) (fun c_7 => ?_) (fun c_7 => ?_)
  · have r1 : S.1 13 (mOf S t) = 1 := by
      by_cases z : S.1 13 (mOf S t) = 2
      · rw [if_pos z] at c_7; exact absurd c_7 (by decide)
      · omega
    refine r_aload_n C d_FP_mustFork_15 rfl rfl ?_
    refine g_FP_184 C d_FP_mustFork_16 T.1 T.2.2.2.2.1 ?_
    refine r_aload_n C d_FP_mustFork_19 rfl rfl ?_
    refine g_FP_181 C d_FP_mustFork_20 T.1 T.2.2.2.1 ?_
    refine zr_isub C d_FP_mustFork_23 ?_
    refine r_aload_n C d_FP_mustFork_24 rfl rfl ?_
    refine g_FP_40 C d_FP_mustFork_25 h.p0 h.1.2.2.2.2.2.2.2.1 ?_
    refine zr_icmp_le (tgt := 35) C d_FP_mustFork_28 (by decide) (by unfold zok; omega) (by unfold zok; omega) (fun c_28 => ?_) (fun c_28 => ?_)
    · refine r_iconst C d_FP_mustFork_35 rfl ?_
      refine zr_zreturn C (Or.inl rfl) d_FP_mustFork_36 ⟨?_, rfl⟩
      rw [@bI_f _ (Classical.propDecidable _) (by unfold mForks; rw [if_pos r1]; omega)]
    · refine r_iconst C d_FP_mustFork_31 rfl ?_
      refine r_goto (tgt := 36) C d_FP_mustFork_32 (by decide) ?_
      refine zr_zreturn C (Or.inr rfl) d_FP_mustFork_36 ⟨?_, rfl⟩
      rw [@bI_t _ (Classical.propDecidable _) (by unfold mForks; rw [if_pos r1]; omega)]
  · have r2 : ¬ S.1 13 (mOf S t) = 1 := by
      intro z
      rw [if_neg (by omega)] at c_7; exact c_7 rfl
    refine r_aload_n C d_FP_mustFork_10 rfl rfl ?_
    refine c_FP_265 C d_FP_mustFork_11 T.1 (m_hasForked 0 T) (by omega) (Nat.le_of_ble_eq_true rfl) (fxPure.k1 ?_) fxPure.k2
    refine zr_zreturn C (bI_01 _) d_FP_mustFork_14 ⟨?_, rfl⟩
    by_cases z : 0 ≤ S.1 19 t
    · rw [bI_t z, @bI_t _ (Classical.propDecidable _) (by unfold mForks; rw [if_neg r2]; exact z)]
    · rw [bI_f z, @bI_f _ (Classical.propDecidable _) (by unfold mForks; rw [if_neg r2]; exact z)]
set_option maxRecDepth 20000 in
theorem m_fail {G : fxG} (d : Nat) {A : Ad} {S : Ms} {w : fxW} (h : Rc G A S w) (hB : Bi S) (hd1 : 4 ≤ d) {j : Nat} (hj : (j : Int) < S.1 14 0) (v : Int) : fxM G d y_FP_fail [.ref (A 0 0), .ref (A 3 j), zi v] w (cRt G A S w none (mEnd S j v) 0 0) := by
  refine fxM.of cc_FP_fail 4 none [] (by decide +kernel) w_FP_fail (Nat.le_of_ble_eq_true rfl) ?_
  intro x C ht hu
  have J := h.jb hj
  have hW4 := hB.1.2
  generalize hQ : cRt G A S w none (mEnd S j v) 0 0 = QQ
  have loop : ∀ (n i : Nat) (A1 : Ad) (S1 : Ms) (w1 : fxW), ((i + n : Nat) : Int) = S.1 1 0 → Rc G A1 S1 w1 → Bi S1 → S1.1 1 = S.1 1 → S1.1 14 = S.1 14 → (∀ k x, k ≠ 7 → k ≠ 9 → A1 k x = A k x) → CF 0 0 w w1 → endA j n i S1 = mEnd S j v → fxR G 4 x (fxQ G x QQ) w1 12 [(3, zi (i : Int)), (0, .ref (A1 0 0)), (1, .ref (A1 3 j)), (2, zi v)] [] := by
    intro n
    induction n with
    | zero =>
      intro i A1 S1 w1 hn h1 hB1 e1 e14 hA hC hE
      refine r_iload_n C d_FP_fail_12 rfl rfl ?_
      refine r_aload_n C d_FP_fail_13 rfl rfl ?_
      refine g_FP_27 C d_FP_fail_14 h1.p0 h1.pw ?_
      refine zr_alen C d_FP_fail_17 (by decide) (t := 4) (Or.inl h1.kw) ?_
      refine zr_icmp_ge (tgt := 37) C d_FP_fail_18 (by decide) (by unfold zok; omega) (by rw [e1]; unfold zok; omega) (fun c_18 => ?_) (fun c_18 => ?_)
      · rw [← hQ]
        refine r_return C d_FP_fail_37 rfl ⟨rfl, A1, fun k x a b _ _ => hA k x a b, ?_, hC⟩
        rw [← hE]; exact h1
      · rw [e1] at c_18
        exact absurd c_18 (by omega)
    | succ n ih =>
      intro i A1 S1 w1 hn h1 hB1 e1 e14 hA hC hE
      have hi : (i : Int) < S1.1 1 0 := by rw [e1]; omega
      have hj1 : (j : Int) < S1.1 14 0 := by rw [e14]; exact hj
      have q0 := hB1.q0 i (by omega)
      have q6 := hB1.q6 i (by omega)
      refine r_iload_n C d_FP_fail_12 rfl rfl ?_
      refine r_aload_n C d_FP_fail_13 rfl rfl ?_
      refine g_FP_27 C d_FP_fail_14 h1.p0 h1.pw ?_
      refine zr_alen C d_FP_fail_17 (by decide) (t := 4) (Or.inl h1.kw) ?_
      refine zr_icmp_ge (tgt := 37) C d_FP_fail_18 (by decide) (by unfold zok; omega) (by rw [e1]; unfold zok; omega) (fun c_18 => ?_) (fun c_18 => ?_)
      · exact absurd c_18 (by rw [e1]; omega)
      · refine r_aload_n C d_FP_fail_21 rfl rfl ?_
        refine g_FP_27 C d_FP_fail_22 h1.p0 h1.pw ?_
        refine r_iload_n C d_FP_fail_25 rfl rfl ?_
        refine zr_aaload C d_FP_fail_26 (by decide) rfl rfl (t := 4) (k := i) (Or.inl h1.kw) rfl (by omega) (by rw [e1]; omega) (h1.ew hi) ?_
        refine r_aload_n C d_FP_fail_27 rfl rfl ?_
        refine fx_dom (fun hdm => ?_)
        refine c_FP_281 C d_FP_fail_28 (h1.wk hi).1 (m_dropTasks 3 h1 hB1 (by omega) hi hj1) (by omega) (Nat.le_of_ble_eq_true rfl) ?_ ?_
        · rintro v' w2 ⟨e9, a1, a2, a3, a4⟩
          cases e9
          refine zr_iinc (ls' := [(3, _), (0, _), (1, _), (2, _)]) C d_FP_fail_31 rfl (by decide) rfl ?_
          refine r_goto (tgt := 12) C d_FP_fail_34 (by decide) ?_
          obtain ⟨f1, f2, f3, f4, f5⟩ := endW_q (i := i) (j : Int) (by omega) (S1.1 25 i).toNat 0 S1 (by omega) (by omega) (fun i' hi' => hB1.q6 i' hi')
          obtain ⟨f6, f7⟩ := endW_Bi (i := i) (j : Int) (by omega) (S1.1 25 i).toNat 0 S1 hB1 (by omega)
          rw [List.take_zero, List.nil_append, List.drop_zero] at f1
          obtain ⟨A2, g1, g2, g3⟩ := Rc.list h1 hdm (endW i j (S1.1 25 i).toNat 0 S1) i hi (by rw [e1]; exact hW4) a2 (by rw [f1]; exact a1) (Or.inl rfl) (fun c a b => funext fun x => f7 c x a b) f3 (fun i' a b => (f2 i' a (Ne.symm b)).1)
          have := ih (i + 1) A2 _ w2 (by omega) g2 f6 (by rw [← e1]; exact funext fun x => f7 1 x (by decide) (by decide)) (by rw [← e14]; exact funext fun x => f7 14 x (by decide) (by decide)) (fun k x a b => (g1 k x a b).trans (hA k x a b)) (hC.tr0 (g3.eq a3 a4)) (by rw [← hE]; rfl)
          rw [g1 0 0 (by decide) (by decide), g1 3 j (by decide) (by decide)] at this
          exact this
        · rintro a w' ⟨e9, -⟩
          cases e9
  show fxR G 4 x _ w 0 [(0, .ref (A 0 0)), (1, .ref (A 3 j)), (2, zi v)] []
  refine r_aload_n C d_FP_fail_0 rfl rfl ?_
  refine r_iconst C d_FP_fail_1 rfl ?_
  refine p_FP_119 C d_FP_fail_2 rfl rfl J.1 ?_
  have h1 : Rc G A (sp S 9 j 2) (fx_put w 133 (A 3 j) (zi 2)) := h.jobN j 9 2 hj ⟨by decide, by decide⟩ (fun _ z => by omega)
  have J1 := h1.jb (j := j) hj
  refine r_aload_n C d_FP_fail_5 rfl rfl ?_
  refine r_iload_n C d_FP_fail_6 rfl rfl ?_
  refine p_FP_152 C d_FP_fail_7 rfl rfl J1.1 ?_
  have h2 : Rc G A (sp (sp S 9 j 2) 10 j v) (fx_put (fx_put w 133 (A 3 j) (zi 2)) 134 (A 3 j) (zi v)) := h1.jobN j 10 v hj ⟨by decide, by decide⟩ (fun z => by omega)
  have hC : CF 0 0 w (fx_put (fx_put w 133 (A 3 j) (zi 2)) 134 (A 3 j) (zi v)) := (CF_put J.1 (by decide)).tr0 (CF_put J1.1 (by decide))
  refine r_iconst C d_FP_fail_10 rfl ?_
  refine r_istore_n (ls' := [(3, _), (0, _), (1, _), (2, _)]) C d_FP_fail_11 rfl (by decide) rfl ?_
  exact loop (S.1 1 0).toNat 0 A _ _ (by have := hB.1.1; omega) h2 (Bi_st hB j 2 v (by omega)) rfl rfl (fun _ _ _ _ => rfl) hC rfl
set_option maxRecDepth 20000 in
theorem m_endRound {G : fxG} (d : Nat) {A : Ad} {S : Ms} {w : fxW} (h : Rc G A S w) (hB : Bi S) (hd1 : 8 ≤ d) {i j k : Nat} (hk : (k : Int) < S.1 23 0) (hi : (i : Int) < S.1 1 0) (hj : mOf S k = j) (h9 : S.1 9 j = 0) (hr : k = rootT S j) (hz : S.1 13 j = 1 → S.2 22 k = 0) (hq : S.1 25 i < 590) (t9 : fxt w + 1 ≤ fxmt G) (t8 : fxu w + 900 ≤ fxmu G) : fxM G d y_FP_endRound [.ref (A 0 0), .ref (A 4 k), .ref (A 5 i)] w (cRt G A S w none (finE S i j k) 1 900) := by
  refine fxM.of cc_FP_endRound 4 none [] (by decide +kernel) w_FP_endRound (Nat.le_of_ble_eq_true rfl) ?_
  intro x C ht hu
  have hW4 := hB.1.2
  have T := h.tk hk
  obtain ⟨hjn, hbj, hjo⟩ := hB.job hk
  have rd := hB.rd hk
  rw [hj] at hjn hbj rd
  have J := h.jb hjn
  have T2 := T.2.1
  rw [hj] at T2
  obtain ⟨k1, k2, -⟩ := hbj
  have dn : (¬ S.1 5 j = 2 ∨ S.1 13 j = 2) → fxR G 4 x (fxQ G x (cRt G A S w none (finE S i j k) 1 900)) w 31 [(3, .ref (A 3 j)), (0, .ref (A 0 0)), (1, .ref (A 4 k)), (2, .ref (A 5 i))] [] := by
    intro c
    obtain ⟨v, f1, f2⟩ := T.2.2.2.2.2.2.2.2.1
    refine r_aload_n C d_FP_endRound_31 rfl rfl ?_
    refine r_aload_n C d_FP_endRound_32 rfl rfl ?_
    refine g_FP_280 C d_FP_endRound_33 T.1 f1 ?_
    refine p_FP_138 C d_FP_endRound_36 rfl rfl J.1 ?_
    have h1 := h.jobR j v hjn h9
    have J1 := h1.jb hjn
    refine r_aload_n C d_FP_endRound_39 rfl rfl ?_
    refine r_iconst C d_FP_endRound_40 rfl ?_
    refine p_FP_119 C d_FP_endRound_41 rfl rfl J1.1 ?_
    refine r_return C d_FP_endRound_44 rfl ⟨rfl, A, Ax.rf, ?_, ((CF_put J.1 (by decide)).tr0 (CF_put J1.1 (by decide))).wk (by omega) (by omega)⟩
    unfold finE
    rw [if_pos c]
    refine h1.jobN j 9 1 hjn ⟨by decide, by decide⟩ (fun _ _ z => ?_)
    rw [fxf_put, f2 (by rw [hj]; omega), hr]
  show fxR G 4 x _ w 0 [(0, .ref (A 0 0)), (1, .ref (A 4 k)), (2, .ref (A 5 i))] []
  refine r_aload_n C d_FP_endRound_0 rfl rfl ?_
  refine g_FP_177 C d_FP_endRound_1 T.1 T2 ?_
  refine r_astore_n (ls' := [(3, _), (0, _), (1, _), (2, _)]) C d_FP_endRound_4 rfl (by decide) rfl ?_
  refine r_aload_n C d_FP_endRound_5 rfl rfl ?_
  refine g_FP_128 C d_FP_endRound_6 J.1 J.2.2.1 ?_
  refine r_iconst C d_FP_endRound_9 rfl ?_
  refine zr_icmp_ne (tgt := 31) C d_FP_endRound_10 (by decide) (by unfold zok; omega) (by unfold zok; omega) (fun c_10 => ?_) (fun c_10 => ?_)
  · exact dn (Or.inl c_10)
  · refine r_aload_n C d_FP_endRound_13 rfl rfl ?_
    refine g_FP_261 C d_FP_endRound_14 J.1 J.2.2.2.2.2.2.2.2.2.1 ?_
    refine zr_if_ne (tgt := 31) C d_FP_endRound_17 (by decide) (by split <;> exact ⟨by decide, by decide⟩) (fun c_17 => ?_) (fun c_17 => ?_)
    · refine dn (Or.inr ?_)
      by_cases z : S.1 13 j = 2
      · exact z
      · rw [if_neg z] at c_17; exact absurd rfl c_17
    · have r1 : S.1 13 j = 1 := by
        by_cases z : S.1 13 j = 2
        · rw [if_pos z] at c_17; exact absurd c_17 (by decide)
        · omega
      refine r_aload_n C d_FP_endRound_20 rfl rfl ?_
      refine r_iconst C d_FP_endRound_21 rfl ?_
      refine p_FP_261 C d_FP_endRound_22 rfl rfl J.1 ?_
      refine r_aload_n C d_FP_endRound_25 rfl rfl ?_
      refine r_aload_n C d_FP_endRound_26 rfl rfl ?_
      have h1 : Rc G A (sp S 13 j 2) (fx_put w 136 (A 3 j) (zi 1)) := h.job2 j hjn
      have hE : finE S i j k = mPut (sp S 13 j 2) i k := by
        unfold finE
        rw [if_neg (by omega)]
        have : sq (sp S 13 j 2) 22 k 0 = sp S 13 j 2 := by
          refine Prod.ext rfl ?_
          funext c y
          by_cases e : c = 22
          · subst e
            by_cases e2 : y = k
            · rw [e2, sq_same]; exact (hz r1).symm
            · exact sq_j _ _ _ e2
          · exact sq_k _ _ _ _ e
        rw [this]
      refine c_FP_102 C d_FP_endRound_27 (h1.wk (i := i) hi).1 (m_putOnTop 7 (S := sp S 13 j 2) h1 (by omega) hi hW4 hk (hB.q0 i (by omega)) hq (fun i' hi' => hB.q6 i' hi') t9 t8) (by omega) (Nat.le_of_ble_eq_true rfl) (cRt.k1 fun w2 A2 g1 g2 g3 => ?_) cRt.k2
      refine r_return C d_FP_endRound_30 rfl ⟨rfl, A2, g1, ?_, (CF_put J.1 (by decide)).tr0 g3⟩
      rw [hE]; exact g2

/-! THE WORKERS, II: the tasks of a job in a queue -/
theorem Rc.tk {G : fxG} {A : Ad} {S : Ms} {w : fxW} (h : Rc G A S w) {t : Nat} (ht : (t : Int) < S.1 23 0) : TaskAt A S t w := h.2.2.2.1.1 t ht
theorem Rc.jb {G : fxG} {A : Ad} {S : Ms} {w : fxW} (h : Rc G A S w) {j : Nat} (hj : (j : Int) < S.1 14 0) : JobAt A S j w := h.2.2.1.1 j hj
theorem Rc.jeq {G : fxG} {A : Ad} {S : Ms} {w : fxW} (h : Rc G A S w) {i j : Nat} (hi : (i : Int) < S.1 14 0) (hj : (j : Int) < S.1 14 0) : A 3 i = A 3 j ↔ i = j := by
  constructor
  · intro e; exact Classical.byContradiction fun q => h.2.2.1.2 i j hi hj q e
  · intro e; rw [e]
set_option maxRecDepth 20000 in
theorem m_Wk_queuedTasks {G : fxG} (d : Nat) {A : Ad} {S : Ms} {w : fxW} (h : Rc G A S w) (hB : Bi S) (hd1 : 3 ≤ d) {i j : Nat} (hi : (i : Int) < S.1 1 0) (hj : (j : Int) < S.1 14 0) : fxM G d y_Wk_queuedTasks [.ref (A 5 i), .ref (A 3 j)] w (fxPure (zi ((inQ1 S j i : Nat) : Int)) w) := by
  refine fxM.of cc_Wk_queuedTasks 4 (some .int) [] (by decide +kernel) w_Wk_queuedTasks (Nat.le_of_ble_eq_true rfl) ?_
  intro x C ht hu
  obtain ⟨h1, h2, h3⟩ := h.q hi
  have hi4 : i < 4 := by have := hB.1.2; omega
  have hl : ((qL S i).map (A 4)).length = (S.1 25 i).toNat := by rw [List.length_map, qL_len]
  have q6 := hB.q6 i hi4
  have q0 := hB.q0 i hi4
  generalize hQ : fxPure (zi ((inQ1 S j i : Nat) : Int)) w = QQ
  have loop : ∀ (n k a : Nat), k + n = (S.1 25 i).toNat → a = cnt (fun k => S.1 15 (S.1 24 (600 * i + k)).toNat = (j : Int)) k → fxR G 4 x (fxQ G x QQ) w 4 [(3, zi (k : Int)), (2, zi (a : Int)), (0, .ref (A 5 i)), (1, .ref (A 3 j))] [] := by
    intro n
    induction n with
    | zero =>
      intro k a hk ha
      refine r_iload_n C d_Wk_queuedTasks_4 rfl rfl ?_
      refine r_aload_n C d_Wk_queuedTasks_5 rfl rfl ?_
      refine g_Wk_10 C d_Wk_queuedTasks_6 h1 h2 ?_
      refine c_Wk_20 C d_Wk_queuedTasks_9 h3.1 (m_AL_size 0 h3) (by omega) (Nat.le_of_ble_eq_true rfl) (fxPure.k1 ?_) fxPure.k2
      rw [hl]
      refine zr_icmp_ge (tgt := 42) C d_Wk_queuedTasks_12 (by decide) (by unfold zok; omega) (by unfold zok; omega) (fun c_12 => ?_) (fun c_12 => ?_)
      · refine r_iload_n C d_Wk_queuedTasks_42 rfl rfl ?_
        rw [← hQ]
        exact r_ireturn C d_Wk_queuedTasks_43 rfl ⟨by rw [ha, show k = (S.1 25 i).toNat by omega]; rfl, rfl⟩
      · exact absurd c_12 (by omega)
    | succ n ih =>
      intro k a hk ha
      have hlt : k < ((qL S i).map (A 4)).length := by omega
      have eg : ((qL S i).map (A 4)).getD k 0 = A 4 (S.1 24 (600 * i + k)).toNat := by rw [map_getD _ _ _ (by rw [qL_len]; omega), qL_getD (by omega)]
      have hq := (hB.2.2.2.2.2.2.1 i hi4).2.2 k (by omega)
      generalize ht9 : (S.1 24 (600 * i + k)).toNat = t at eg
      have htn : (t : Int) < S.1 23 0 := by omega
      have T := h.tk htn
      obtain ⟨hjb, -, hjo⟩ := hB.job htn
      refine r_iload_n C d_Wk_queuedTasks_4 rfl rfl ?_
      refine r_aload_n C d_Wk_queuedTasks_5 rfl rfl ?_
      refine g_Wk_10 C d_Wk_queuedTasks_6 h1 h2 ?_
      refine c_Wk_20 C d_Wk_queuedTasks_9 h3.1 (m_AL_size 0 h3) (by omega) (Nat.le_of_ble_eq_true rfl) (fxPure.k1 ?_) fxPure.k2
      rw [hl]
      refine zr_icmp_ge (tgt := 42) C d_Wk_queuedTasks_12 (by decide) (by unfold zok; omega) (by unfold zok; omega) (fun c_12 => ?_) (fun c_12 => ?_)
      · exact absurd c_12 (by omega)
      · refine r_aload_n C d_Wk_queuedTasks_15 rfl rfl ?_
        refine g_Wk_10 C d_Wk_queuedTasks_16 h1 h2 ?_
        refine r_iload_n C d_Wk_queuedTasks_19 rfl rfl ?_
        refine c_Wk_34 C d_Wk_queuedTasks_20 h3.1 (m_AL_get 2 h3 (by omega) k hlt) (by omega) (Nat.le_of_ble_eq_true rfl) (fxPure.k1 ?_) fxPure.k2
        rw [eg]
        refine r_castT C d_Wk_queuedTasks_23 (fxTW_in 531 (by decide +kernel) rfl) T.1 ?_
        refine g_Wk_37 C d_Wk_queuedTasks_26 T.1 T.2.1 ?_
        refine r_aload_n C d_Wk_queuedTasks_29 rfl rfl ?_
        refine r_acmp_ne (ra := some (A 3 (mOf S t))) (rb := some (A 3 j)) (tgt := 36) C d_Wk_queuedTasks_30 (by decide) (fun q => ?_) (fun q => ?_)
        · refine zr_iinc (ls' := [(3, _), (2, _), (0, _), (1, _)]) C d_Wk_queuedTasks_36 rfl (by decide) rfl ?_
          refine r_goto (tgt := 4) C d_Wk_queuedTasks_39 (by decide) ?_
          have nf : ¬ S.1 15 (S.1 24 (600 * i + k)).toNat = (j : Int) := fun z => by
            rw [ht9, hjo] at z
            exact q (by rw [show mOf S t = j by omega])
          exact ih (k + 1) a (by omega) (by rw [ha, cnt_f (f := fun k => S.1 15 (S.1 24 (600 * i + k)).toNat = (j : Int)) nf])
        · refine zr_iinc (ls' := [(2, _), (3, _), (0, _), (1, _)]) C d_Wk_queuedTasks_33 rfl (by decide) rfl ?_
          refine zr_iinc (ls' := [(3, _), (2, _), (0, _), (1, _)]) C d_Wk_queuedTasks_36 rfl (by decide) rfl ?_
          refine r_goto (tgt := 4) C d_Wk_queuedTasks_39 (by decide) ?_
          have e : mOf S t = j := (h.jeq hjb hj).mp (Option.some.inj q)
          exact fx_sub (ls' := [(3, zi ((k + 1 : Nat) : Int)), (2, zi ((a + 1 : Nat) : Int)), (0, .ref (A 5 i)), (1, .ref (A 3 j))]) (by simp [fxL]) (ih (k + 1) (a + 1) (by omega) (by rw [ha, cnt_t (f := fun k => S.1 15 (S.1 24 (600 * i + k)).toNat = (j : Int)) (by rw [ht9, hjo, e])]))
  show fxR G 4 x _ w 0 [(0, .ref (A 5 i)), (1, .ref (A 3 j))] []
  refine r_iconst C d_Wk_queuedTasks_0 rfl ?_
  refine r_istore_n (ls' := [(2, _), (0, _), (1, _)]) C d_Wk_queuedTasks_1 rfl (by decide) rfl ?_
  refine r_iconst C d_Wk_queuedTasks_2 rfl ?_
  refine r_istore_n (ls' := [(3, _), (2, _), (0, _), (1, _)]) C d_Wk_queuedTasks_3 rfl (by decide) rfl ?_
  exact loop (S.1 25 i).toNat 0 0 (by omega) rfl
theorem LF.tr {l ar : Nat} {w w' w'' : fxW} (h : LF l ar w w') (h1 : fxt w' = fxt w) (h2 : fxu w' = fxu w) (h' : LF l ar w' w'') : LF l ar w w'' := by
  obtain ⟨a1, a2, a3, a4, a5, a6, a7⟩ := h
  obtain ⟨b1, b2, b3, b4, b5, b6, b7⟩ := h'
  rw [h1] at b1 b2 b5 b7
  rw [h2] at b3 b4
  exact ⟨b1, b2, b3, b4, fun a q => (b5 a q).trans (a5 a q), fun g a q => (b6 g a q).trans (a6 g a q), fun t a j q r => (b7 t a j q r).trans (a7 t a j q r)⟩
set_option maxRecDepth 20000 in
theorem m_dropTasks {G : fxG} (d : Nat) {A : Ad} {S : Ms} {w : fxW} (h : Rc G A S w) (hB : Bi S) (hd1 : 3 ≤ d) {i j : Nat} (hi : (i : Int) < S.1 1 0) (hj : (j : Int) < S.1 14 0) : fxM G d y_Wk_dropTasks [.ref (A 5 i), .ref (A 3 j)] w (fun o w' => o = .returned none ∧ AlAt G (A 6 i) (A 7 i) (A 9 i) (((qL S i).filter (notOf S j)).map (A 4)) w' ∧ LF (A 6 i) (A 7 i) w w' ∧ fxt w' = fxt w ∧ fxu w' = fxu w) := by
  refine fxM.of cc_Wk_dropTasks 3 none [] (by decide +kernel) w_Wk_dropTasks (Nat.le_of_ble_eq_true rfl) ?_
  intro x C ht hu
  obtain ⟨h1, h2, h3⟩ := h.q hi
  have hi4 : i < 4 := by have := hB.1.2; omega
  have hl : (qL S i).length = (S.1 25 i).toNat := qL_len S i
  have q6 := hB.q6 i hi4
  have q0 := hB.q0 i hi4
  have hqm : ∀ t, t ∈ qL S i → (t : Int) < S.1 23 0 := fun t ht => hB.qm (qA_mem.mpr ⟨i, hi4, ht⟩)
  generalize hQ : (fun (o : Outcome) (w' : fxW) => o = .returned none ∧ AlAt G (A 6 i) (A 7 i) (A 9 i) (((qL S i).filter (notOf S j)).map (A 4)) w' ∧ LF (A 6 i) (A 7 i) w w' ∧ fxt w' = fxt w ∧ fxu w' = fxu w) = QQ
  show fxR G 3 x _ w 0 [(0, .ref (A 5 i)), (1, .ref (A 3 j))] []
  refine fx_dom (fun hdm => ?_)
  have loop : ∀ (n : Nat) (w1 : fxW), n ≤ (qL S i).length → AlAt G (A 6 i) (A 7 i) (A 9 i) (((qL S i).take n ++ ((qL S i).drop n).filter (notOf S j)).map (A 4)) w1 → LF (A 6 i) (A 7 i) w w1 → fxt w1 = fxt w → fxu w1 = fxu w → fxR G 3 x (fxQ G x QQ) w1 10 [(2, zi ((n : Int) - 1)), (0, .ref (A 5 i)), (1, .ref (A 3 j))] [] := by
    intro n
    induction n with
    | zero =>
      intro w1 hn hA hF e1 e2
      refine r_iload_n C d_Wk_dropTasks_10 rfl rfl ?_
      refine zr_if_lt (tgt := 47) C d_Wk_dropTasks_11 (by decide) (by unfold zok; omega) (fun c_11 => ?_) (fun c_11 => ?_)
      · rw [← hQ]
        refine r_return C d_Wk_dropTasks_47 rfl ⟨rfl, ?_, hF, e1, e2⟩
        simpa using hA
      · exact absurd c_11 (by omega)
    | succ n ih =>
      intro w1 hn hA hF e1 e2
      have kk : ∀ a q, fxk w a = some q → fxk w1 a = some q := fun a q z => (hF.2.2.2.2.1 a (by have := hdm a q.1 q.2 z; omega)).trans z
      have ff : ∀ g a, g < 320 → fxf w1 g a = fxf w g a := fun g a z => hF.2.2.2.2.2.1 g a (Or.inr (Or.inl z))
      have hlen : n < (((qL S i).take (n + 1) ++ ((qL S i).drop (n + 1)).filter (notOf S j)).map (A 4)).length := by
        rw [List.length_map, List.length_append, List.length_take]; omega
      have hmem : (qL S i)[n] ∈ qL S i := List.getElem_mem _
      have eg : (((qL S i).take (n + 1) ++ ((qL S i).drop (n + 1)).filter (notOf S j)).map (A 4)).getD n 0 = A 4 ((qL S i)[n]) := by
        rw [List.getD_eq_getElem?_getD, List.getElem?_map, List.getElem?_append_left (by rw [List.length_take]; omega), List.getElem?_take_of_lt (by omega), List.getElem?_eq_getElem (by omega)]; rfl
      have edr : (qL S i).drop n = (qL S i)[n] :: (qL S i).drop (n + 1) := List.drop_eq_getElem_cons (by omega)
      have etk : (qL S i).take (n + 1) = (qL S i).take n ++ [(qL S i)[n]] := (List.take_append_getElem (by omega)).symm
      generalize ht9 : (qL S i)[n] = t at eg edr etk hmem
      have htn := hqm t hmem
      have T := h.tk htn
      obtain ⟨hjb, -, hjo⟩ := hB.job htn
      rw [show ((n + 1 : Nat) : Int) - 1 = (n : Int) by omega]
      refine r_iload_n C d_Wk_dropTasks_10 rfl rfl ?_
      refine zr_if_lt (tgt := 47) C d_Wk_dropTasks_11 (by decide) (by unfold zok; omega) (fun c_11 => ?_) (fun c_11 => ?_)
      · exact absurd c_11 (by omega)
      · refine r_aload_n C d_Wk_dropTasks_14 rfl rfl ?_
        refine g_Wk_10 C d_Wk_dropTasks_15 (kk _ _ h1) ((ff 256 _ (by decide)).trans h2) ?_
        refine r_iload_n C d_Wk_dropTasks_18 rfl rfl ?_
        refine c_Wk_34 C d_Wk_dropTasks_19 hA.1 (m_AL_get 2 hA (by omega) n hlen) (by omega) (Nat.le_of_ble_eq_true rfl) (fxPure.k1 ?_) fxPure.k2
        rw [eg]
        refine r_castT C d_Wk_dropTasks_22 (fxTW_in 531 (by decide +kernel) rfl) (kk _ _ T.1) ?_
        refine g_Wk_37 C d_Wk_dropTasks_25 (kk _ _ T.1) ((ff 192 _ (by decide)).trans T.2.1) ?_
        refine r_aload_n C d_Wk_dropTasks_28 rfl rfl ?_
        refine r_acmp_ne (ra := some (A 3 (mOf S t))) (rb := some (A 3 j)) (tgt := 41) C d_Wk_dropTasks_29 (by decide) (fun q => ?_) (fun q => ?_)
        · have pos : notOf S j t = true := by unfold notOf; simp; rw [hjo]; intro z; exact q (by rw [show mOf S t = j by omega])
          refine zr_iinc (ls' := [(2, _), (0, _), (1, _)]) C d_Wk_dropTasks_41 rfl (by decide) rfl ?_
          refine r_goto (tgt := 10) C d_Wk_dropTasks_44 (by decide) ?_
          rw [show (n : Int) + -1 = (n : Int) - 1 by omega]
          refine ih w1 (by omega) ?_ hF e1 e2
          rw [edr, List.filter_cons_of_pos pos]
          rw [etk, List.append_assoc] at hA
          exact hA
        · have e : mOf S t = j := (h.jeq hjb hj).mp (Option.some.inj q)
          have neg : ¬ notOf S j t = true := by unfold notOf; simp; rw [hjo, e]
          refine r_aload_n C d_Wk_dropTasks_32 rfl rfl ?_
          refine g_Wk_10 C d_Wk_dropTasks_33 (kk _ _ h1) ((ff 256 _ (by decide)).trans h2) ?_
          refine r_iload_n C d_Wk_dropTasks_36 rfl rfl ?_
          refine c_Wk_28 C d_Wk_dropTasks_37 hA.1 (m_AL_remove 2 hA (by omega) n hlen) (by omega) (Nat.le_of_ble_eq_true rfl) ?_ ?_
          · rintro v' w' ⟨e9, q1, q2, q3, q4⟩
            cases e9
            refine r_pop C d_Wk_dropTasks_40 rfl ?_
            refine zr_iinc (ls' := [(2, _), (0, _), (1, _)]) C d_Wk_dropTasks_41 rfl (by decide) rfl ?_
            refine r_goto (tgt := 10) C d_Wk_dropTasks_44 (by decide) ?_
            rw [show (n : Int) + -1 = (n : Int) - 1 by omega]
            refine ih w' (by omega) ?_ (hF.tr e1 e2 q2) (by omega) (by omega)
            rw [edr, List.filter_cons_of_neg neg]
            rw [map_erase, etk, List.append_assoc, List.eraseIdx_append_of_length_le (by rw [List.length_take]; omega)] at q1
            rw [show n - ((qL S i).take n).length = 0 by rw [List.length_take]; omega] at q1
            exact q1
          · rintro a w' ⟨e9, -⟩
            cases e9
  refine r_aload_n C d_Wk_dropTasks_0 rfl rfl ?_
  refine g_Wk_10 C d_Wk_dropTasks_1 h1 h2 ?_
  refine c_Wk_20 C d_Wk_dropTasks_4 h3.1 (m_AL_size 0 h3) (by omega) (Nat.le_of_ble_eq_true rfl) (fxPure.k1 ?_) fxPure.k2
  rw [List.length_map]
  refine r_iconst C d_Wk_dropTasks_7 rfl ?_
  refine zr_isub C d_Wk_dropTasks_8 ?_
  refine r_istore_n (ls' := [(2, _), (0, _), (1, _)]) C d_Wk_dropTasks_9 rfl (by decide) rfl ?_
  refine loop (qL S i).length w (Nat.le_refl _) ?_ LF.rf rfl rfl
  rw [List.take_length, List.drop_length]
  simpa using h3

/-! THE PUBLIC METHODS OF THE POOL, III -/
set_option maxRecDepth 20000 in
theorem m_FP_result {G : fxG} (d : Nat) {A : Ad} {S : Ms} {w : fxW} (h : Rc G A S w) (hB : Bi S) (hd1 : 8 ≤ d) (j : Int) (hj : zok j) (t9 : fxt w + 1 ≤ fxmt G) (t8 : fxu w + 6 ≤ fxmu G) : fxM G d y_FP_result [.ref (A 0 0), zi j] w (cP G A S w [9, 11, 8] (.long (mResult S j).1) (mResult S j).2 1 6) := by
  refine fxM.of cc_FP_result 3 (some .long) [] (by decide +kernel) w_FP_result (Nat.le_of_ble_eq_true rfl) ?_
  intro x C ht hu
  generalize hM : mResult S j = MM
  unfold mResult at hM
  show fxR G 3 x _ w 0 [(0, .ref (A 0 0)), (1, zi j)] []
  refine fx_dom (fun hdm => ?_)
  refine r_aload_n C d_FP_result_0 rfl rfl ?_
  refine r_iload_n C d_FP_result_1 rfl rfl ?_
  refine c_FP_115 C d_FP_result_2 h.p0 (m_begunJob 6 h hB (by omega) j hj t9 t8) (by omega) (Nat.le_of_ble_eq_true rfl) (cOr.k1 fun n0 => ?_) (cOr.k2 fun n0 => ?_)
  · rw [if_neg (fun z => z n0)] at hM
    obtain ⟨k, hk⟩ := Int.eq_ofNat_of_zero_le n0.1
    subst hk
    rw [Int.toNat_natCast] at hM ⊢
    have J := h.jb n0.2
    obtain ⟨k1, k2, -, -, -, s1, s2, -⟩ := hB.2.2.2.1 k n0.2
    have go : ¬ 1 < S.1 5 k → fxR G 3 x (fxQ G x (cP G A S w [9, 11, 8] (.long MM.1) MM.2 1 6)) w 31 [(2, .ref (A 3 k)), (0, .ref (A 0 0)), (1, zi (k : Int))] [] := by
      intro q
      rw [if_neg q] at hM
      refine r_aload_n C d_FP_result_31 rfl rfl ?_
      refine g_FP_119 C d_FP_result_32 J.1 J.2.2.2.2.2.2.1 ?_
      refine r_iconst C d_FP_result_35 rfl ?_
      refine zr_icmp_eq (tgt := 49) C d_FP_result_36 (by decide) (by unfold zok; omega) (by unfold zok; omega) (fun c_36 => ?_) (fun c_36 => ?_)
      · rw [if_pos c_36] at hM
        subst hM
        obtain ⟨r, r1, r2⟩ := J.2.2.2.2.2.2.2.2.2.2
        refine r_aload_n C d_FP_result_49 rfl rfl ?_
        refine g_FP_138 C d_FP_result_50 J.1 r1 ?_
        exact r_lreturn C d_FP_result_53 rfl ⟨A, Ax.rf, h.th 0, CF.rf.wk (by omega) (by omega), Or.inl ⟨sp_same _ _ _ _, by rw [r2 c_36 (by omega)]⟩⟩
      · rw [if_neg c_36] at hM
        subst hM
        refine x_8 C (si := 136) (tx := "the job is not done") (by decide +kernel) d_FP_result_39 d_FP_result_42 d_FP_result_43 d_FP_result_45 d_FP_result_48 (by omega) (Nat.le_of_ble_eq_true rfl) (by omega) (by omega) (rt_out C rfl ?_)
        exact cP.th ((h.th 0).th 3) hdm 2 8 (by rw [sp_same]; rfl) rfl (by omega) (by omega)
    refine r_astore_n (ls' := [(2, _), (0, _), (1, _)]) C d_FP_result_5 rfl (by decide) rfl ?_
    refine r_aload_n C d_FP_result_6 rfl rfl ?_
    refine g_FP_128 C d_FP_result_7 J.1 J.2.2.1 ?_
    refine zr_if_eq (tgt := 31) C d_FP_result_10 (by decide) (by unfold zok; omega) (fun c_10 => ?_) (fun c_10 => ?_)
    · exact go (by omega)
    · refine r_aload_n C d_FP_result_13 rfl rfl ?_
      refine g_FP_128 C d_FP_result_14 J.1 J.2.2.1 ?_
      refine r_iconst C d_FP_result_17 rfl ?_
      refine zr_icmp_eq (tgt := 31) C d_FP_result_18 (by decide) (by unfold zok; omega) (by unfold zok; omega) (fun c_18 => ?_) (fun c_18 => ?_)
      · exact go (by omega)
      · rw [if_pos (by omega)] at hM
        subst hM
        refine x_11 C (si := 133) (tx := "a job of this kind has no result") (by decide +kernel) d_FP_result_21 d_FP_result_24 d_FP_result_25 d_FP_result_27 d_FP_result_30 (by omega) (Nat.le_of_ble_eq_true rfl) (by omega) (by omega) (rt_out C rfl ?_)
        exact cP.th ((h.th 0).th 2) hdm 1 11 (by rw [sp_same]; rfl) rfl (by omega) (by omega)
  · rw [if_pos n0] at hM
    subst hM
    exact rt_out C rfl (cP.th ((h.th 0).th 1) hdm 0 9 (by rw [sp_same]; rfl) rfl (by omega) (by omega))
set_option maxRecDepth 20000 in
theorem m_FP_cancel {G : fxG} (d : Nat) {A : Ad} {S : Ms} {w : fxW} (h : Rc G A S w) (hB : Bi S) (hE : QE S) (hd1 : 8 ≤ d) (j : Int) (hj : zok j) (t9 : fxt w + 1 ≤ fxmt G) (t8 : fxu w + 6 ≤ fxmu G) : fxM G d y_FP_cancel [.ref (A 0 0), zi j] w (cP G A S w [9, 8] (zi (mCancel S j).1) (mCancel S j).2 1 6) := by
  refine fxM.of cc_FP_cancel 4 (some .int) [] (by decide +kernel) w_FP_cancel (Nat.le_of_ble_eq_true rfl) ?_
  intro x C ht hu
  generalize hM : mCancel S j = MM
  unfold mCancel at hM
  show fxR G 4 x _ w 0 [(0, .ref (A 0 0)), (1, zi j)] []
  refine fx_dom (fun hdm => ?_)
  refine r_aload_n C d_FP_cancel_0 rfl rfl ?_
  refine r_iload_n C d_FP_cancel_1 rfl rfl ?_
  refine c_FP_115 C d_FP_cancel_2 h.p0 (m_begunJob 6 h hB (by omega) j hj t9 t8) (by omega) (Nat.le_of_ble_eq_true rfl) (cOr.k1 fun n0 => ?_) (cOr.k2 fun n0 => ?_)
  · rw [if_neg (fun z => z n0)] at hM
    obtain ⟨k, hk⟩ := Int.eq_ofNat_of_zero_le n0.1
    subst hk
    rw [Int.toNat_natCast] at hM ⊢
    have J := h.jb n0.2
    obtain ⟨k1, k2, -, -, -, s1, s2, -⟩ := hB.2.2.2.1 k n0.2
    refine r_astore_n (ls' := [(2, _), (0, _), (1, _)]) C d_FP_cancel_5 rfl (by decide) rfl ?_
    refine r_aload_n C d_FP_cancel_6 rfl rfl ?_
    refine g_FP_119 C d_FP_cancel_7 J.1 J.2.2.2.2.2.2.1 ?_
    refine zr_if_eq (tgt := 23) C d_FP_cancel_10 (by decide) (by unfold zok; omega) (fun c_10 => ?_) (fun c_10 => ?_)
    · rw [if_neg (fun z => z c_10)] at hM
      subst hM
      refine r_aload_n C d_FP_cancel_23 rfl rfl ?_
      refine r_aload_n C d_FP_cancel_24 rfl rfl ?_
      refine c_FP_144 C d_FP_cancel_25 h.p0 (m_FP_queuedTasks 4 h hB (by omega) n0.2) (by omega) (Nat.le_of_ble_eq_true rfl) (fxPure.k1 ?_) fxPure.k2
      refine r_istore_n (ls' := [(3, _), (2, _), (0, _), (1, _)]) C d_FP_cancel_28 rfl (by decide) rfl ?_
      refine r_aload_n C d_FP_cancel_29 rfl rfl ?_
      refine r_aload_n C d_FP_cancel_30 rfl rfl ?_
      refine r_iconst C d_FP_cancel_31 rfl ?_
      refine c_FP_148 C d_FP_cancel_32 h.p0 (m_fail 4 (S := sp S 0 0 0) (h.th 0) hB (by omega) n0.2 (-1)) (by omega) (Nat.le_of_ble_eq_true rfl) (cRt.k1 fun w2 A2 g1 g2 g3 => ?_) cRt.k2
      show fxR G 4 x _ w2 35 _ []
      refine r_iload_n C d_FP_cancel_35 rfl rfl ?_
      have e0 := (end_0 (S := sp S 0 0 0) hB hE k (-1)).1
      exact r_ireturn C d_FP_cancel_36 rfl ⟨A2, g1, g2, g3.wk (by omega) (by omega), Or.inl ⟨by show (mEnd (sp S 0 0 0) k (-1)).1 0 0 = 0; rw [e0]; exact sp_same _ _ _ _, rfl⟩⟩
    · rw [if_pos c_10] at hM
      subst hM
      refine x_8 C (si := 142) (tx := "the job has ended") (by decide +kernel) d_FP_cancel_13 d_FP_cancel_16 d_FP_cancel_17 d_FP_cancel_19 d_FP_cancel_22 (by omega) (Nat.le_of_ble_eq_true rfl) (by omega) (by omega) (rt_out C rfl ?_)
      exact cP.th ((h.th 0).th 2) hdm 1 8 (by rw [sp_same]; rfl) rfl (by omega) (by omega)
  · rw [if_pos n0] at hM
    subst hM
    exact rt_out C rfl (cP.th ((h.th 0).th 1) hdm 0 9 (by rw [sp_same]; rfl) rfl (by omega) (by omega))
set_option maxRecDepth 20000 in
theorem m_FP_job {G : fxG} (d : Nat) {A : Ad} {S : Ms} {w : fxW} (h : Rc G A S w) (hB : Bi S) (hd1 : 8 ≤ d) (j q : Int) (hj : zok j) (hq : zok q) (t9 : fxt w + 1 ≤ fxmt G) (t8 : fxu w + 6 ≤ fxmu G) : fxM G d y_FP_job [.ref (A 0 0), zi j, zi q] w (cP G A S w [9, 7] (zi (mJob S j q).1) (mJob S j q).2 1 6) := by
  refine fxM.of cc_FP_job 4 (some .int) [] (by decide +kernel) w_FP_job (Nat.le_of_ble_eq_true rfl) ?_
  intro x C ht hu
  generalize hM : mJob S j q = MM
  unfold mJob at hM
  show fxR G 4 x _ w 0 [(0, .ref (A 0 0)), (1, zi j), (2, zi q)] []
  refine fx_dom (fun hdm => ?_)
  refine r_aload_n C d_FP_job_0 rfl rfl ?_
  refine r_iload_n C d_FP_job_1 rfl rfl ?_
  refine c_FP_115 C d_FP_job_2 h.p0 (m_begunJob 6 h hB (by omega) j hj t9 t8) (by omega) (Nat.le_of_ble_eq_true rfl) (cOr.k1 fun n0 => ?_) (cOr.k2 fun n0 => ?_)
  · rw [if_neg (fun z => z n0)] at hM
    obtain ⟨k, hk⟩ := Int.eq_ofNat_of_zero_le n0.1
    subst hk
    rw [Int.toNat_natCast] at hM ⊢
    have J := h.jb n0.2
    have fin : ∀ v, (MM = (v, sp S 0 0 0)) → cP G A S w [9, 7] (zi MM.1) MM.2 1 6 (.returned (some (zi v))) w := fun v e => by rw [e]; exact ⟨A, Ax.rf, h.th 0, CF.rf.wk (by omega) (by omega), Or.inl ⟨sp_same _ _ _ _, rfl⟩⟩
    refine r_astore_n (ls' := [(3, _), (0, _), (1, _), (2, _)]) C d_FP_job_5 rfl (by decide) rfl ?_
    refine r_iload_n C d_FP_job_6 rfl rfl ?_
    by_cases c : q < 0 ∨ 4 < q
    · rw [if_neg (by omega), if_neg (by omega), if_neg (by omega), if_neg (by omega), if_neg (by omega)] at hM
      subst hM
      refine zr_tableOut (tgt := 66) C d_FP_job_7 hq c (by decide) ?_
      refine x_7 C (si := 158) (tx := "no such fact of a job") (by decide +kernel) d_FP_job_66 d_FP_job_69 d_FP_job_70 d_FP_job_72 d_FP_job_75 (by omega) (Nat.le_of_ble_eq_true rfl) (by omega) (by omega) (rt_out C rfl ?_)
      exact cP.th ((h.th 0).th 2) hdm 1 7 (by rw [sp_same]; rfl) rfl (by omega) (by omega)
    · have hc : q = 0 ∨ q = 1 ∨ q = 2 ∨ q = 3 ∨ q = 4 := by omega
      rcases hc with rfl | rfl | rfl | rfl | rfl
      · refine zr_tableIn (tgt := 40) (off := 33) C d_FP_job_7 hq (by decide) (by decide) rfl (by decide) ?_
        refine r_aload_n C d_FP_job_40 rfl rfl ?_
        refine g_FP_119 C d_FP_job_41 J.1 J.2.2.2.2.2.2.1 ?_
        exact r_ireturn C d_FP_job_44 rfl (fin _ hM.symm)
      · refine zr_tableIn (tgt := 45) (off := 38) C d_FP_job_7 hq (by decide) (by decide) rfl (by decide) ?_
        refine r_aload_n C d_FP_job_45 rfl rfl ?_
        refine g_FP_152 C d_FP_job_46 J.1 J.2.2.2.2.2.2.2.1 ?_
        exact r_ireturn C d_FP_job_49 rfl (fin _ hM.symm)
      · refine zr_tableIn (tgt := 50) (off := 43) C d_FP_job_7 hq (by decide) (by decide) rfl (by decide) ?_
        refine r_aload_n C d_FP_job_50 rfl rfl ?_
        refine g_FP_155 C d_FP_job_51 J.1 J.2.2.2.2.2.2.2.2.1 ?_
        exact r_ireturn C d_FP_job_54 rfl (fin _ hM.symm)
      · refine zr_tableIn (tgt := 55) (off := 48) C d_FP_job_7 hq (by decide) (by decide) rfl (by decide) ?_
        refine r_aload_n C d_FP_job_55 rfl rfl ?_
        refine r_aload_n C d_FP_job_56 rfl rfl ?_
        refine c_FP_144 C d_FP_job_57 h.p0 (m_FP_queuedTasks 4 h hB (by omega) n0.2) (by omega) (Nat.le_of_ble_eq_true rfl) (fxPure.k1 ?_) fxPure.k2
        exact r_ireturn C d_FP_job_60 rfl (fin _ hM.symm)
      · refine zr_tableIn (tgt := 61) (off := 54) C d_FP_job_7 hq (by decide) (by decide) rfl (by decide) ?_
        refine r_aload_n C d_FP_job_61 rfl rfl ?_
        refine g_FP_128 C d_FP_job_62 J.1 J.2.2.1 ?_
        exact r_ireturn C d_FP_job_65 rfl (fin _ hM.symm)
  · rw [if_pos n0] at hM
    subst hM
    exact rt_out C rfl (cP.th ((h.th 0).th 1) hdm 0 9 (by rw [sp_same]; rfl) rfl (by omega) (by omega))
set_option maxRecDepth 20000 in
theorem m_FP_worker {G : fxG} (d : Nat) {A : Ad} {S : Ms} {w : fxW} (h : Rc G A S w) (hB : Bi S) (hd1 : 8 ≤ d) (i q : Int) (hi : zok i) (hq : zok q) (t9 : fxt w + 1 ≤ fxmt G) (t8 : fxu w + 6 ≤ fxmu G) : fxM G d y_FP_worker [.ref (A 0 0), zi i, zi q] w (cP G A S w [9, 7] (zi (mWorker S i q).1) (mWorker S i q).2 1 6) := by
  refine fxM.of cc_FP_worker 4 (some .int) [] (by decide +kernel) w_FP_worker (Nat.le_of_ble_eq_true rfl) ?_
  intro x C ht hu
  generalize hM : mWorker S i q = MM
  unfold mWorker at hM
  have hW4 := hB.1.2
  show fxR G 4 x _ w 0 [(0, .ref (A 0 0)), (1, zi i), (2, zi q)] []
  refine fx_dom (fun hdm => ?_)
  refine r_aload_n C d_FP_worker_0 rfl rfl ?_
  refine r_iload_n C d_FP_worker_1 rfl rfl ?_
  refine c_FP_160 C d_FP_worker_2 h.p0 (m_workerAt 6 h hB (by omega) i hi t9 t8) (by omega) (Nat.le_of_ble_eq_true rfl) (cOr.k1 fun n0 => ?_) (cOr.k2 fun n0 => ?_)
  · rw [if_neg (fun z => z n0)] at hM
    obtain ⟨k, hk⟩ := Int.eq_ofNat_of_zero_le n0.1
    subst hk
    rw [Int.toNat_natCast] at hM ⊢
    have J := h.wk (i := k) (by omega)
    have fin : ∀ v, (MM = (v, sp S 0 0 0)) → cP G A S w [9, 7] (zi MM.1) MM.2 1 6 (.returned (some (zi v))) w := fun v e => by rw [e]; exact ⟨A, Ax.rf, h.th 0, CF.rf.wk (by omega) (by omega), Or.inl ⟨sp_same _ _ _ _, rfl⟩⟩
    refine r_astore_n (ls' := [(3, _), (0, _), (1, _), (2, _)]) C d_FP_worker_5 rfl (by decide) rfl ?_
    refine r_iload_n C d_FP_worker_6 rfl rfl ?_
    by_cases c : q < 0 ∨ 4 < q
    · rw [if_neg (by omega), if_neg (by omega), if_neg (by omega), if_neg (by omega), if_neg (by omega)] at hM
      subst hM
      refine zr_tableOut (tgt := 65) C d_FP_worker_7 hq c (by decide) ?_
      refine x_7 C (si := 199) (tx := "no such fact of a worker") (by decide +kernel) d_FP_worker_65 d_FP_worker_68 d_FP_worker_69 d_FP_worker_71 d_FP_worker_74 (by omega) (Nat.le_of_ble_eq_true rfl) (by omega) (by omega) (rt_out C rfl ?_)
      exact cP.th ((h.th 0).th 2) hdm 1 7 (by rw [sp_same]; rfl) rfl (by omega) (by omega)
    · have hc : q = 0 ∨ q = 1 ∨ q = 2 ∨ q = 3 ∨ q = 4 := by omega
      rcases hc with rfl | rfl | rfl | rfl | rfl
      · refine zr_tableIn (tgt := 40) (off := 33) C d_FP_worker_7 hq (by decide) (by decide) rfl (by decide) ?_
        refine r_aload_n C d_FP_worker_40 rfl rfl ?_
        refine c_FP_164 C d_FP_worker_41 J.1 (m_queueLength 1 h (by omega) (by omega) (hB.q0 k (by omega))) (by omega) (Nat.le_of_ble_eq_true rfl) (fxPure.k1 ?_) fxPure.k2
        exact r_ireturn C d_FP_worker_44 rfl (fin _ hM.symm)
      · refine zr_tableIn (tgt := 45) (off := 38) C d_FP_worker_7 hq (by decide) (by decide) rfl (by decide) ?_
        refine r_aload_n C d_FP_worker_45 rfl rfl ?_
        refine g_FP_189 C d_FP_worker_46 J.1 J.2.2.1 ?_
        exact r_ireturn C d_FP_worker_49 rfl (fin _ hM.symm)
      · refine zr_tableIn (tgt := 50) (off := 43) C d_FP_worker_7 hq (by decide) (by decide) rfl (by decide) ?_
        refine r_aload_n C d_FP_worker_50 rfl rfl ?_
        refine g_FP_190 C d_FP_worker_51 J.1 J.2.2.2.1 ?_
        exact r_ireturn C d_FP_worker_54 rfl (fin _ hM.symm)
      · refine zr_tableIn (tgt := 55) (off := 48) C d_FP_worker_7 hq (by decide) (by decide) rfl (by decide) ?_
        refine r_aload_n C d_FP_worker_55 rfl rfl ?_
        refine g_FP_193 C d_FP_worker_56 J.1 J.2.2.2.2.1 ?_
        exact r_ireturn C d_FP_worker_59 rfl (fin _ hM.symm)
      · refine zr_tableIn (tgt := 60) (off := 53) C d_FP_worker_7 hq (by decide) (by decide) rfl (by decide) ?_
        refine r_aload_n C d_FP_worker_60 rfl rfl ?_
        refine g_FP_196 C d_FP_worker_61 J.1 J.2.2.2.2.2 ?_
        exact r_ireturn C d_FP_worker_64 rfl (fin _ hM.symm)
  · rw [if_pos n0] at hM
    subst hM
    exact rt_out C rfl (cP.th ((h.th 0).th 1) hdm 0 9 (by rw [sp_same]; rfl) rfl (by omega) (by omega))
set_option maxRecDepth 20000 in
theorem m_FP_task {G : fxG} (d : Nat) {A : Ad} {S : Ms} {w : fxW} (h : Rc G A S w) (hB : Bi S) (hd1 : 8 ≤ d) (i k q : Int) (hi : zok i) (hk : zok k) (hq : zok q) (t9 : fxt w + 1 ≤ fxmt G) (t8 : fxu w + 6 ≤ fxmu G) : fxM G d y_FP_task [.ref (A 0 0), zi i, zi k, zi q] w (cP G A S w [9, 7] (zi (mTask S i k q).1) (mTask S i k q).2 1 6) := by
  refine fxM.of cc_FP_task 6 (some .int) [] (by decide +kernel) w_FP_task (Nat.le_of_ble_eq_true rfl) ?_
  intro x C ht hu
  generalize hM : mTask S i k q = MM
  unfold mTask at hM
  have hW4 := hB.1.2
  show fxR G 6 x _ w 0 [(0, .ref (A 0 0)), (1, zi i), (2, zi k), (3, zi q)] []
  refine fx_dom (fun hdm => ?_)
  refine r_aload_n C d_FP_task_0 rfl rfl ?_
  refine r_iload_n C d_FP_task_1 rfl rfl ?_
  refine c_FP_160 C d_FP_task_2 h.p0 (m_workerAt 6 h hB (by omega) i hi t9 t8) (by omega) (Nat.le_of_ble_eq_true rfl) (cOr.k1 fun n0 => ?_) (cOr.k2 fun n0 => ?_)
  · obtain ⟨i', hi'⟩ := Int.eq_ofNat_of_zero_le n0.1
    subst hi'
    rw [Int.toNat_natCast] at hM ⊢
    have hi4 : i' < 4 := by omega
    have J := h.wk (i := i') (by omega)
    have q0 := hB.q0 i' hi4
    have q6 := hB.q6 i' hi4
    have fin : ∀ v, (MM = (v, sp S 0 0 0)) → cP G A S w [9, 7] (zi MM.1) MM.2 1 6 (.returned (some (zi v))) w := fun v e => by rw [e]; exact ⟨A, Ax.rf, h.th 0, CF.rf.wk (by omega) (by omega), Or.inl ⟨sp_same _ _ _ _, rfl⟩⟩
    refine r_astore (ls' := [(4, _), (0, _), (1, _), (2, _), (3, _)]) C d_FP_task_5 (by decide) rfl ?_
    refine r_iload_n C d_FP_task_7 rfl rfl ?_
    refine r_iconst C d_FP_task_8 rfl ?_
    refine r_aload C d_FP_task_9 rfl ?_
    refine c_FP_164 C d_FP_task_11 J.1 (m_queueLength 1 h (by omega) (by omega) q0) (by omega) (Nat.le_of_ble_eq_true rfl) (fxPure.k1 ?_) fxPure.k2
    refine r_iconst C d_FP_task_14 rfl ?_
    refine zr_isub C d_FP_task_15 ?_
    refine c_FP_44 C d_FP_task_16 (m_isWithin 1 w k 0 (S.1 25 i' - 1) hk (by unfold zok; omega) (by unfold zok; omega)) (by omega) (Nat.le_of_ble_eq_true rfl) (fxPure.k1 ?_) fxPure.k2
    refine zr_if_ne (tgt := 32) C d_FP_task_19 (by decide) (zok_b _) (fun c_19 => ?_) (fun c_19 => ?_)
    · have n1 : 0 ≤ k ∧ k ≤ S.1 25 i' - 1 := Classical.byContradiction fun z => c_19 (bI_f z)
      rw [if_neg (fun z => z ⟨n0, by omega⟩)] at hM
      obtain ⟨k', hk'⟩ := Int.eq_ofNat_of_zero_le n1.1
      subst hk'
      rw [Int.toNat_natCast] at hM
      have hkk := (hB.2.2.2.2.2.2.1 i' hi4).2.2 ((S.1 25 i').toNat - 1 - k') (by omega)
      have htn : ((topT S i' k' : Nat) : Int) < S.1 23 0 := by unfold topT; omega
      have T := h.tk htn
      obtain ⟨hjn, -, hjo⟩ := hB.job htn
      have Jb := h.jb hjn
      refine r_aload C d_FP_task_32 rfl ?_
      refine r_iload_n C d_FP_task_34 rfl rfl ?_
      refine c_FP_173 C d_FP_task_35 J.1 (m_fromTop 3 h (by omega) (by omega) (k := k') (by omega) q6) (by omega) (Nat.le_of_ble_eq_true rfl) (fxPure.k1 ?_) fxPure.k2
      refine r_astore (ls' := [(5, _), (4, _), (0, _), (1, _), (2, _), (3, _)]) C d_FP_task_38 (by decide) rfl ?_
      refine r_iload_n C d_FP_task_40 rfl rfl ?_
      by_cases c : q < 0 ∨ 2 < q
      · rw [if_neg (by omega), if_neg (by omega), if_neg (by omega)] at hM
        subst hM
        refine zr_tableOut (tgt := 89) C d_FP_task_41 hq c (by decide) ?_
        refine x_7 C (si := 187) (tx := "no such fact of a task") (by decide +kernel) d_FP_task_89 d_FP_task_92 d_FP_task_93 d_FP_task_95 d_FP_task_98 (by omega) (Nat.le_of_ble_eq_true rfl) (by omega) (by omega) (rt_out C rfl ?_)
        exact cP.th ((h.th 0).th 2) hdm 1 7 (by rw [sp_same]; rfl) rfl (by omega) (by omega)
      · have hc : q = 0 ∨ q = 1 ∨ q = 2 := by omega
        rcases hc with rfl | rfl | rfl
        · refine zr_tableIn (tgt := 68) (off := 27) C d_FP_task_41 hq (by decide) (by decide) rfl (by decide) ?_
          refine r_aload C d_FP_task_68 rfl ?_
          refine g_FP_177 C d_FP_task_70 T.1 T.2.1 ?_
          refine g_FP_106 C d_FP_task_73 Jb.1 Jb.2.1 ?_
          exact r_ireturn C d_FP_task_76 rfl (fin _ (by rw [← hM, if_pos rfl, hjo]))
        · refine zr_tableIn (tgt := 77) (off := 36) C d_FP_task_41 hq (by decide) (by decide) rfl (by decide) ?_
          refine r_aload C d_FP_task_77 rfl ?_
          refine g_FP_181 C d_FP_task_79 T.1 T.2.2.2.1 ?_
          exact r_ireturn C d_FP_task_82 rfl (fin _ hM.symm)
        · refine zr_tableIn (tgt := 83) (off := 42) C d_FP_task_41 hq (by decide) (by decide) rfl (by decide) ?_
          refine r_aload C d_FP_task_83 rfl ?_
          refine g_FP_184 C d_FP_task_85 T.1 T.2.2.2.2.1 ?_
          exact r_ireturn C d_FP_task_88 rfl (fin _ hM.symm)
    · have n1 : ¬ (0 ≤ k ∧ k ≤ S.1 25 i' - 1) := fun z => by rw [bI_t z] at c_19; exact absurd c_19 (by decide)
      rw [if_pos (fun z => n1 (by omega))] at hM
      subst hM
      refine x_9 C (si := 170) (tx := "no such task") (by decide +kernel) d_FP_task_22 d_FP_task_25 d_FP_task_26 d_FP_task_28 d_FP_task_31 (by omega) (Nat.le_of_ble_eq_true rfl) (by omega) (by omega) (rt_out C rfl ?_)
      exact cP.th ((h.th 0).th 1) hdm 0 9 (by rw [sp_same]; rfl) rfl (by omega) (by omega)
  · rw [if_pos (fun z => n0 z.1)] at hM
    subst hM
    exact rt_out C rfl (cP.th ((h.th 0).th 1) hdm 0 9 (by rw [sp_same]; rfl) rfl (by omega) (by omega))
set_option maxRecDepth 20000 in
theorem m_FP_grain {G : fxG} (d : Nat) {A : Ad} {S : Ms} {w : fxW} (h : Rc G A S w) (hd1 : 8 ≤ d) (g : Int) (hg : zok g) (t9 : fxt w + 1 ≤ fxmt G) (t8 : fxu w + 6 ≤ fxmu G) : fxM G d y_FP_grain [.ref (A 0 0), zi g] w (cP G A S w [7] (zi (mGrain S g).1) (mGrain S g).2 1 6) := by
  refine fxM.of cc_FP_grain 3 (some .int) [] (by decide +kernel) w_FP_grain (Nat.le_of_ble_eq_true rfl) ?_
  intro x C ht hu
  generalize hM : mGrain S g = MM
  unfold mGrain at hM
  show fxR G 3 x _ w 0 [(0, .ref (A 0 0)), (1, zi g)] []
  refine fx_dom (fun hdm => ?_)
  refine r_iload_n C d_FP_grain_0 rfl rfl ?_
  refine r_iconst C d_FP_grain_1 rfl ?_
  refine r_bipush (v := Int32.ofInt 24) C d_FP_grain_2 (by decide) ?_
  refine c_FP_44 C d_FP_grain_4 (m_isWithin 1 w g 1 24 hg (by unfold zok; omega) (by unfold zok; omega)) (by omega) (Nat.le_of_ble_eq_true rfl) (fxPure.k1 ?_) fxPure.k2
  refine zr_if_ne (tgt := 20) C d_FP_grain_7 (by decide) (zok_b _) (fun c_7 => ?_) (fun c_7 => ?_)
  · have q : 1 ≤ g ∧ g ≤ 24 := Classical.byContradiction fun z => c_7 (bI_f z)
    rw [if_neg (fun z => z q)] at hM
    subst hM
    refine r_aload_n C d_FP_grain_20 rfl rfl ?_
    refine g_FP_40 C d_FP_grain_21 h.p0 h.1.2.2.2.2.2.2.2.1 ?_
    refine r_istore_n (ls' := [(2, _), (0, _), (1, _)]) C d_FP_grain_24 rfl (by decide) rfl ?_
    refine r_aload_n C d_FP_grain_25 rfl rfl ?_
    refine r_iload_n C d_FP_grain_26 rfl rfl ?_
    refine p_FP_40 C d_FP_grain_27 rfl rfl h.p0 ?_
    refine r_iload_n C d_FP_grain_30 rfl rfl ?_
    exact r_ireturn C d_FP_grain_31 rfl ⟨A, Ax.rf, Rc.pool (S := sp S 0 0 0) (h.th 0) 6 30 g (by omega), (CF_put h.p0 (by decide)).wk (by omega) (by omega), Or.inl ⟨by show (sp (sp S 0 0 0) 30 0 g).1 0 0 = 0; rw [sp_k _ _ _ _ (by decide), sp_same], rfl⟩⟩
  · have q : ¬ (1 ≤ g ∧ g ≤ 24) := fun z => by rw [bI_t z] at c_7; exact absurd c_7 (by decide)
    rw [if_pos q] at hM
    subst hM
    refine x_7 C (si := 201) (tx := "grain out of range") (by decide +kernel) d_FP_grain_10 d_FP_grain_13 d_FP_grain_14 d_FP_grain_16 d_FP_grain_19 (by omega) (Nat.le_of_ble_eq_true rfl) (by omega) (by omega) (rt_out C rfl ?_)
    exact cP.th ((h.th 0).th 1) hdm 0 7 (by rw [sp_same]; rfl) rfl (by omega) (by omega)
set_option maxRecDepth 20000 in
theorem m_FP_count {G : fxG} (d : Nat) {A : Ad} {S : Ms} {w : fxW} (h : Rc G A S w) (hB : Bi S) (hd1 : 8 ≤ d) (q : Int) (hq : zok q) (t9 : fxt w + 1 ≤ fxmt G) (t8 : fxu w + 6 ≤ fxmu G) : fxM G d y_FP_count [.ref (A 0 0), zi q] w (cP G A S w [7] (zi (mCount S q).1) (mCount S q).2 1 6) := by
  refine fxM.of cc_FP_count 2 (some .int) [] (by decide +kernel) w_FP_count (Nat.le_of_ble_eq_true rfl) ?_
  intro x C ht hu
  generalize hM : mCount S q = MM
  unfold mCount at hM
  obtain ⟨W1, W2⟩ := hB.1
  show fxR G 2 x _ w 0 [(0, .ref (A 0 0)), (1, zi q)] []
  refine fx_dom (fun hdm => ?_)
  have fin : ∀ v, (MM = (v, sp S 0 0 0)) → cP G A S w [7] (zi MM.1) MM.2 1 6 (.returned (some (zi v))) w := fun v e => by rw [e]; exact ⟨A, Ax.rf, h.th 0, CF.rf.wk (by omega) (by omega), Or.inl ⟨sp_same _ _ _ _, rfl⟩⟩
  refine r_iload_n C d_FP_count_0 rfl rfl ?_
  by_cases c : q < 0 ∨ 3 < q
  · rw [if_neg (by omega), if_neg (by omega), if_neg (by omega), if_neg (by omega)] at hM
    subst hM
    refine zr_tableOut (tgt := 53) C d_FP_count_1 hq c (by decide) ?_
    refine x_7 C (si := 209) (tx := "no such count") (by decide +kernel) d_FP_count_53 d_FP_count_56 d_FP_count_57 d_FP_count_59 d_FP_count_62 (by omega) (Nat.le_of_ble_eq_true rfl) (by omega) (by omega) (rt_out C rfl ?_)
    exact cP.th ((h.th 0).th 1) hdm 0 7 (by rw [sp_same]; rfl) rfl (by omega) (by omega)
  · have hc : q = 0 ∨ q = 1 ∨ q = 2 ∨ q = 3 := by omega
    rcases hc with rfl | rfl | rfl | rfl
    · refine zr_tableIn (tgt := 32) (off := 31) C d_FP_count_1 hq (by decide) (by decide) rfl (by decide) ?_
      refine r_aload_n C d_FP_count_32 rfl rfl ?_
      refine g_FP_83 C d_FP_count_33 h.p0 h.pn ?_
      exact r_ireturn C d_FP_count_36 rfl (fin _ hM.symm)
    · refine zr_tableIn (tgt := 37) (off := 36) C d_FP_count_1 hq (by decide) (by decide) rfl (by decide) ?_
      refine r_aload_n C d_FP_count_37 rfl rfl ?_
      refine g_FP_203 C d_FP_count_38 h.p0 h.1.2.2.2.2.2.1 ?_
      exact r_ireturn C d_FP_count_41 rfl (fin _ hM.symm)
    · refine zr_tableIn (tgt := 42) (off := 41) C d_FP_count_1 hq (by decide) (by decide) rfl (by decide) ?_
      refine r_aload_n C d_FP_count_42 rfl rfl ?_
      refine g_FP_206 C d_FP_count_43 h.p0 h.1.2.2.2.2.2.2.1 ?_
      exact r_ireturn C d_FP_count_46 rfl (fin _ hM.symm)
    · refine zr_tableIn (tgt := 47) (off := 46) C d_FP_count_1 hq (by decide) (by decide) rfl (by decide) ?_
      refine r_aload_n C d_FP_count_47 rfl rfl ?_
      refine g_FP_27 C d_FP_count_48 h.p0 h.pw ?_
      refine zr_alen C d_FP_count_51 (by decide) (t := 4) (Or.inl h.kw) ?_
      exact r_ireturn C d_FP_count_52 rfl (fin _ (by rw [← hM, if_neg (by decide), if_neg (by decide), if_neg (by decide), if_pos rfl, Int.toNat_of_nonneg (by omega)]))

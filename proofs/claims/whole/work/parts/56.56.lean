/-! THE REFERENCE'S PUBLIC METHODS, III: job, task, worker, grain, count, begin -/
noncomputable def mJob (S : Ms) (j q : Int) : Int × Ms :=
  if ¬ (0 ≤ j ∧ j < S.1 14 0) then (0, sp (sp S 0 0 0) 0 0 1)
  else if q = 0 then (S.1 9 j.toNat, sp S 0 0 0) else if q = 1 then (S.1 10 j.toNat, sp S 0 0 0) else if q = 2 then (S.1 11 j.toNat, sp S 0 0 0)
  else if q = 3 then ((inQ S j (S.1 1 0).toNat : Int), sp S 0 0 0) else if q = 4 then (S.1 5 j.toNat, sp S 0 0 0) else (0, sp (sp S 0 0 0) 0 0 2)
set_option maxRecDepth 20000 in
theorem m_job {G : fxG} (d : Nat) {S : Ms} {m : Nat} {w : fxW} (hR : MoR S m w) (hd1 : 1 ≤ d) (hB : Bi S) (j q : Int) (hj : zok j) (hq : zok q) : fxM G d y_Mo_job [.ref m, zi j, zi q] w (moRet m w (zi (mJob S j q).1) (mJob S j q).2) := by
  refine fxM.of cc_Mo_job 3 (some .int) [] (by decide +kernel) w_Mo_job (Nat.le_of_ble_eq_true rfl) ?_
  intro x C ht hu
  generalize hM : mJob S j q = MM
  unfold mJob at hM
  generalize hQ : moRet m w (zi MM.1) MM.2 = QQ
  have hF : MoF m w w := MoF.rf
  show fxR G 3 x _ w 0 [(0, .ref m), (1, zi j), (2, zi q)] []
  refine r_aload_n C d_Mo_job_0 rfl rfl ?_
  refine r_iconst C d_Mo_job_1 rfl ?_
  refine p_Mo_96 C d_Mo_job_2 rfl rfl hR.1 ?_
  refine mo_abS 0 hR rfl (fun w hR hF9 => ?_)
  have hF := hF.tr hF9
  refine r_aload_n C d_Mo_job_5 rfl rfl ?_
  refine r_iload_n C d_Mo_job_6 rfl rfl ?_
  refine c_Mo_196 C d_Mo_job_7 hR.1 (m_noJob 0 hR j hj hB) (by omega) (Nat.le_of_ble_eq_true rfl) (fxPure.k1 ?_) fxPure.k2
  refine zr_if_eq (tgt := 19) C d_Mo_job_10 (by decide) (zok_b _) (fun c_10 => ?_) (fun c_10 => ?_)
  · have q1 : 0 ≤ j ∧ j < S.1 14 0 := Classical.byContradiction fun q => absurd (bI_t (p := ¬ (0 ≤ j ∧ j < S.1 14 0)) q) (by intro z; have c' : bI (¬ (0 ≤ j ∧ j < S.1 14 0)) = 0 := c_10; omega)
    rw [if_neg (fun q => q q1)] at hM
    obtain ⟨j, rfl⟩ := Int.eq_ofNat_of_zero_le q1.1
    rw [Int.toNat_natCast] at hM
    have hJ := hB.2.2.1.2
    refine r_iload_n C d_Mo_job_19 rfl rfl ?_
    by_cases c0 : q = 0
    · subst c0
      refine zr_tableIn (tgt := 56) (off := 36) C d_Mo_job_20 hq (by decide) (by decide) rfl (by decide) ?_
      rw [if_pos rfl] at hM
      refine r_aload_n C d_Mo_job_56 rfl rfl ?_
      refine g_Mo_32 C d_Mo_job_57 hR.1 (hR.ar 9 rfl) ?_
      refine r_iload_n C d_Mo_job_60 rfl rfl ?_
      refine zr_iaload (t := 1) (k := j) C d_Mo_job_61 (by decide) rfl (Or.inl (hR.kd 9 rfl)) (by omega) (by show j < 12; omega) (by decide) (hR.el 9 rfl (by show j < 12; omega)) ?_
      rw [← hQ, ← hM]
      exact r_ireturn C d_Mo_job_62 rfl ⟨rfl, hR, hF⟩
    by_cases c1 : q = 1
    · subst c1
      refine zr_tableIn (tgt := 63) (off := 43) C d_Mo_job_20 hq (by decide) (by decide) rfl (by decide) ?_
      rw [if_neg (by decide), if_pos rfl] at hM
      refine r_aload_n C d_Mo_job_63 rfl rfl ?_
      refine g_Mo_35 C d_Mo_job_64 hR.1 (hR.ar 10 rfl) ?_
      refine r_iload_n C d_Mo_job_67 rfl rfl ?_
      refine zr_iaload (t := 1) (k := j) C d_Mo_job_68 (by decide) rfl (Or.inl (hR.kd 10 rfl)) (by omega) (by show j < 12; omega) (by decide) (hR.el 10 rfl (by show j < 12; omega)) ?_
      rw [← hQ, ← hM]
      exact r_ireturn C d_Mo_job_69 rfl ⟨rfl, hR, hF⟩
    by_cases c2 : q = 2
    · subst c2
      refine zr_tableIn (tgt := 70) (off := 50) C d_Mo_job_20 hq (by decide) (by decide) rfl (by decide) ?_
      rw [if_neg (by decide), if_neg (by decide), if_pos rfl] at hM
      refine r_aload_n C d_Mo_job_70 rfl rfl ?_
      refine g_Mo_38 C d_Mo_job_71 hR.1 (hR.ar 11 rfl) ?_
      refine r_iload_n C d_Mo_job_74 rfl rfl ?_
      refine zr_iaload (t := 1) (k := j) C d_Mo_job_75 (by decide) rfl (Or.inl (hR.kd 11 rfl)) (by omega) (by show j < 12; omega) (by decide) (hR.el 11 rfl (by show j < 12; omega)) ?_
      rw [← hQ, ← hM]
      exact r_ireturn C d_Mo_job_76 rfl ⟨rfl, hR, hF⟩
    by_cases c3 : q = 3
    · subst c3
      refine zr_tableIn (tgt := 77) (off := 57) C d_Mo_job_20 hq (by decide) (by decide) rfl (by decide) ?_
      rw [if_neg (by decide), if_neg (by decide), if_neg (by decide), if_pos rfl] at hM
      refine r_aload_n C d_Mo_job_77 rfl rfl ?_
      refine r_iload_n C d_Mo_job_78 rfl rfl ?_
      refine c_Mo_199 C d_Mo_job_79 hR.1 (m_inQueues 0 hR j (by omega) hB) (by omega) (Nat.le_of_ble_eq_true rfl) (fxPure.k1 ?_) fxPure.k2
      rw [inQ_th, ← hQ, ← hM]
      exact r_ireturn C d_Mo_job_82 rfl ⟨rfl, hR, hF⟩
    by_cases c4 : q = 4
    · subst c4
      refine zr_tableIn (tgt := 83) (off := 63) C d_Mo_job_20 hq (by decide) (by decide) rfl (by decide) ?_
      rw [if_neg (by decide), if_neg (by decide), if_neg (by decide), if_neg (by decide), if_pos rfl] at hM
      refine r_aload_n C d_Mo_job_83 rfl rfl ?_
      refine g_Mo_20 C d_Mo_job_84 hR.1 (hR.ar 5 rfl) ?_
      refine r_iload_n C d_Mo_job_87 rfl rfl ?_
      refine zr_iaload (t := 1) (k := j) C d_Mo_job_88 (by decide) rfl (Or.inl (hR.kd 5 rfl)) (by omega) (by show j < 12; omega) (by decide) (hR.el 5 rfl (by show j < 12; omega)) ?_
      rw [← hQ, ← hM]
      exact r_ireturn C d_Mo_job_89 rfl ⟨rfl, hR, hF⟩
    · refine zr_tableOut (tgt := 90) C d_Mo_job_20 hq (by omega) (by decide) ?_
      rw [if_neg c0, if_neg c1, if_neg c2, if_neg c3, if_neg c4] at hM
      refine r_aload_n C d_Mo_job_90 rfl rfl ?_
      refine r_iconst C d_Mo_job_91 rfl ?_
      refine c_Mo_110 C d_Mo_job_92 hR.1 (m_raise 0 hR 2) (by omega) (Nat.le_of_ble_eq_true rfl) (moRet.k1 (fun w hR hF9 => ?_)) moRet.k2
      have hF := hF.tr hF9
      rw [← hQ, ← hM]
      exact r_ireturn C d_Mo_job_95 rfl ⟨rfl, hR, hF⟩
  · rw [if_pos (fun q => c_10 (bI_f (p := ¬ (0 ≤ j ∧ j < S.1 14 0)) (fun z => z q)))] at hM
    refine r_aload_n C d_Mo_job_13 rfl rfl ?_
    refine r_iconst C d_Mo_job_14 rfl ?_
    refine c_Mo_110 C d_Mo_job_15 hR.1 (m_raise 0 hR 1) (by omega) (Nat.le_of_ble_eq_true rfl) (moRet.k1 (fun w hR hF9 => ?_)) moRet.k2
    have hF := hF.tr hF9
    rw [← hQ, ← hM]
    exact r_ireturn C d_Mo_job_18 rfl ⟨rfl, hR, hF⟩
/-- the task at the place k from the top of the queue i -/
def topT (S : Ms) (i k : Nat) : Nat := (S.1 24 (600 * i + ((S.1 25 i).toNat - 1 - k))).toNat
def mTask (S : Ms) (i k q : Int) : Int × Ms :=
  if ¬ ((0 ≤ i ∧ i ≤ S.1 1 0 - 1) ∧ 0 ≤ k ∧ k < S.1 25 i.toNat) then (0, sp (sp S 0 0 0) 0 0 1)
  else if q = 0 then (S.1 15 (topT S i.toNat k.toNat), sp S 0 0 0) else if q = 1 then (S.1 16 (topT S i.toNat k.toNat), sp S 0 0 0) else if q = 2 then (S.1 17 (topT S i.toNat k.toNat), sp S 0 0 0) else (0, sp (sp S 0 0 0) 0 0 2)
set_option maxRecDepth 20000 in
theorem m_task {G : fxG} (d : Nat) {S : Ms} {m : Nat} {w : fxW} (hR : MoR S m w) (hd1 : 1 ≤ d) (hB : Bi S) (i k q : Int) (hi : zok i) (hk : zok k) (hq : zok q) : fxM G d y_Mo_task [.ref m, zi i, zi k, zi q] w (moRet m w (zi (mTask S i k q).1) (mTask S i k q).2) := by
  refine fxM.of cc_Mo_task 5 (some .int) [] (by decide +kernel) w_Mo_task (Nat.le_of_ble_eq_true rfl) ?_
  intro x C ht hu
  generalize hM : mTask S i k q = MM
  unfold mTask at hM
  generalize hQ : moRet m w (zi MM.1) MM.2 = QQ
  have hF : MoF m w w := MoF.rf
  have hW := hB.1
  show fxR G 5 x _ w 0 [(0, .ref m), (1, zi i), (2, zi k), (3, zi q)] []
  refine r_aload_n C d_Mo_task_0 rfl rfl ?_
  refine r_iconst C d_Mo_task_1 rfl ?_
  refine p_Mo_96 C d_Mo_task_2 rfl rfl hR.1 ?_
  refine mo_abS 0 hR rfl (fun w hR hF9 => ?_)
  have hF := hF.tr hF9
  have bad : ¬ ((0 ≤ i ∧ i ≤ S.1 1 0 - 1) ∧ 0 ≤ k ∧ k < S.1 25 i.toNat) → fxR G 5 x (fxQ G x QQ) w 33 [(0, .ref m), (1, zi i), (2, zi k), (3, zi q)] [] := by
    intro hb
    rw [if_pos hb] at hM
    refine r_aload_n C d_Mo_task_33 rfl rfl ?_
    refine r_iconst C d_Mo_task_34 rfl ?_
    refine c_Mo_110 C d_Mo_task_35 hR.1 (m_raise 0 hR 1) (by omega) (Nat.le_of_ble_eq_true rfl) (moRet.k1 (fun w hR hF9 => ?_)) moRet.k2
    have hF := hF.tr hF9
    rw [← hQ, ← hM]
    exact r_ireturn C d_Mo_task_38 rfl ⟨rfl, hR, hF⟩
  refine r_iload_n C d_Mo_task_5 rfl rfl ?_
  refine r_iconst C d_Mo_task_6 rfl ?_
  refine r_aload_n C d_Mo_task_7 rfl rfl ?_
  refine g_Mo_93 C d_Mo_task_8 hR.1 (hR.sc 1 rfl) ?_
  refine r_iconst C d_Mo_task_11 rfl ?_
  refine zr_isub C d_Mo_task_12 ?_
  refine c_Mo_106 C d_Mo_task_13 (m_in 0 w _ _ _ hi (by unfold zok; omega) (show zok (S.1 1 0 - 1) by unfold zok; omega)) (by omega) (Nat.le_of_ble_eq_true rfl) (fxPure.k1 ?_) fxPure.k2
  refine zr_if_eq (tgt := 33) C d_Mo_task_16 (by decide) (zok_b _) (fun c_16 => ?_) (fun c_16 => ?_)
  · exact bad (fun q => by rw [bI_t (show 0 ≤ i ∧ i ≤ (sp S 0 0 0).1 1 0 - 1 from q.1)] at c_16; exact absurd c_16 (by decide))
  · have q1 : 0 ≤ i ∧ i ≤ S.1 1 0 - 1 := Classical.byContradiction fun q => c_16 (bI_f q)
    obtain ⟨i, rfl⟩ := Int.eq_ofNat_of_zero_le q1.1
    rw [Int.toNat_natCast] at hM bad
    obtain ⟨a1, a2, a3⟩ := hB.2.2.2.2.2.2.1 i (by omega)
    refine r_iload_n C d_Mo_task_19 rfl rfl ?_
    refine zr_if_lt (tgt := 33) C d_Mo_task_20 (by decide) hk (fun c_20 => ?_) (fun c_20 => ?_)
    · exact bad (by omega)
    · refine r_iload_n C d_Mo_task_23 rfl rfl ?_
      refine r_aload_n C d_Mo_task_24 rfl rfl ?_
      refine g_Mo_74 C d_Mo_task_25 hR.1 (hR.ar 25 rfl) ?_
      refine r_iload_n C d_Mo_task_28 rfl rfl ?_
      refine zr_iaload (t := 1) (k := i) C d_Mo_task_29 (by decide) rfl (Or.inl (hR.kd 25 rfl)) (by omega) (by show i < 4; omega) (by decide) (hR.el 25 rfl (by show i < 4; omega)) ?_
      refine zr_icmp_lt (tgt := 39) C d_Mo_task_30 (by decide) hk (show zok (S.1 25 i) by unfold zok; omega) (fun c_30 => ?_) (fun c_30 => ?_)
      · have c' : k < S.1 25 i := c_30
        rw [if_neg (fun q => q ⟨q1, by omega, c'⟩)] at hM
        obtain ⟨k, rfl⟩ := Int.eq_ofNat_of_zero_le (show 0 ≤ k by omega)
        rw [Int.toNat_natCast] at hM
        have a4 := a3 ((S.1 25 i).toNat - 1 - k) (by omega)
        have e : S.1 24 (600 * i + ((S.1 25 i).toNat - 1 - k)) = ((topT S i k : Nat) : Int) := by unfold topT; omega
        have hT := hB.2.2.2.2.1.2
        refine r_aload_n C d_Mo_task_39 rfl rfl ?_
        refine g_Mo_71 C d_Mo_task_40 hR.1 (hR.ar 24 rfl) ?_
        refine r_sipush (v := Int32.ofInt 600) C d_Mo_task_43 (by decide) ?_
        refine r_iload_n C d_Mo_task_46 rfl rfl ?_
        refine zr_imul C d_Mo_task_47 ?_
        refine r_aload_n C d_Mo_task_48 rfl rfl ?_
        refine g_Mo_74 C d_Mo_task_49 hR.1 (hR.ar 25 rfl) ?_
        refine r_iload_n C d_Mo_task_52 rfl rfl ?_
        refine zr_iaload (t := 1) (k := i) C d_Mo_task_53 (by decide) rfl (Or.inl (hR.kd 25 rfl)) (by omega) (by show i < 4; omega) (by decide) (hR.el 25 rfl (by show i < 4; omega)) ?_
        rw [show (sp S 0 0 0).1 25 i = (((S.1 25 i).toNat : Nat) : Int) by show S.1 25 i = _; omega]
        refine zr_iadd C d_Mo_task_54 ?_
        refine r_iconst C d_Mo_task_55 rfl ?_
        refine zr_isub C d_Mo_task_56 ?_
        refine r_iload_n C d_Mo_task_57 rfl rfl ?_
        refine zr_isub C d_Mo_task_58 ?_
        refine zr_iaload (t := 1) (k := 600 * i + ((S.1 25 i).toNat - 1 - k)) C d_Mo_task_59 (by decide) rfl (Or.inl (hR.kd 24 rfl)) (by omega) (by show 600 * i + ((S.1 25 i).toNat - 1 - k) < 2400; omega) (by decide) (hR.el 24 rfl (by show 600 * i + ((S.1 25 i).toNat - 1 - k) < 2400; omega)) ?_
        rw [show (sp S 0 0 0).1 24 (600 * i + ((S.1 25 i).toNat - 1 - k)) = ((topT S i k : Nat) : Int) from e]
        refine r_istore (ls' := [(4, _), (0, _), (1, _), (2, _), (3, _)]) C d_Mo_task_60 (by decide) rfl ?_
        refine r_iload_n C d_Mo_task_62 rfl rfl ?_
        by_cases c0 : q = 0
        · subst c0
          refine zr_tableIn (tgt := 88) (off := 25) C d_Mo_task_63 hq (by decide) (by decide) rfl (by decide) ?_
          rw [if_pos rfl] at hM
          refine r_aload_n C d_Mo_task_88 rfl rfl ?_
          refine g_Mo_47 C d_Mo_task_89 hR.1 (hR.ar 15 rfl) ?_
          refine r_iload C d_Mo_task_92 rfl ?_
          refine zr_iaload (t := 1) (k := topT S i k) C d_Mo_task_94 (by decide) rfl (Or.inl (hR.kd 15 rfl)) (by omega) (by show topT S i k < 600; omega) (by decide) (hR.el 15 rfl (by show topT S i k < 600; omega)) ?_
          rw [← hQ, ← hM]
          exact r_ireturn C d_Mo_task_95 rfl ⟨rfl, hR, hF⟩
        by_cases c1 : q = 1
        · subst c1
          refine zr_tableIn (tgt := 96) (off := 33) C d_Mo_task_63 hq (by decide) (by decide) rfl (by decide) ?_
          rw [if_neg (by decide), if_pos rfl] at hM
          refine r_aload_n C d_Mo_task_96 rfl rfl ?_
          refine g_Mo_50 C d_Mo_task_97 hR.1 (hR.ar 16 rfl) ?_
          refine r_iload C d_Mo_task_100 rfl ?_
          refine zr_iaload (t := 1) (k := topT S i k) C d_Mo_task_102 (by decide) rfl (Or.inl (hR.kd 16 rfl)) (by omega) (by show topT S i k < 600; omega) (by decide) (hR.el 16 rfl (by show topT S i k < 600; omega)) ?_
          rw [← hQ, ← hM]
          exact r_ireturn C d_Mo_task_103 rfl ⟨rfl, hR, hF⟩
        by_cases c2 : q = 2
        · subst c2
          refine zr_tableIn (tgt := 104) (off := 41) C d_Mo_task_63 hq (by decide) (by decide) rfl (by decide) ?_
          rw [if_neg (by decide), if_neg (by decide), if_pos rfl] at hM
          refine r_aload_n C d_Mo_task_104 rfl rfl ?_
          refine g_Mo_53 C d_Mo_task_105 hR.1 (hR.ar 17 rfl) ?_
          refine r_iload C d_Mo_task_108 rfl ?_
          refine zr_iaload (t := 1) (k := topT S i k) C d_Mo_task_110 (by decide) rfl (Or.inl (hR.kd 17 rfl)) (by omega) (by show topT S i k < 600; omega) (by decide) (hR.el 17 rfl (by show topT S i k < 600; omega)) ?_
          rw [← hQ, ← hM]
          exact r_ireturn C d_Mo_task_111 rfl ⟨rfl, hR, hF⟩
        · refine zr_tableOut (tgt := 112) C d_Mo_task_63 hq (by omega) (by decide) ?_
          rw [if_neg c0, if_neg c1, if_neg c2] at hM
          refine r_aload_n C d_Mo_task_112 rfl rfl ?_
          refine r_iconst C d_Mo_task_113 rfl ?_
          refine c_Mo_110 C d_Mo_task_114 hR.1 (m_raise 0 hR 2) (by omega) (Nat.le_of_ble_eq_true rfl) (moRet.k1 (fun w hR hF9 => ?_)) moRet.k2
          have hF := hF.tr hF9
          rw [← hQ, ← hM]
          exact r_ireturn C d_Mo_task_117 rfl ⟨rfl, hR, hF⟩
      · have c' : ¬ k < S.1 25 i := c_30
        exact bad (by omega)
def mWorker (S : Ms) (i q : Int) : Int × Ms :=
  if ¬ (0 ≤ i ∧ i ≤ S.1 1 0 - 1) then (0, sp (sp S 0 0 0) 0 0 1)
  else if q = 0 then (S.1 25 i.toNat, sp S 0 0 0) else if q = 1 then (S.1 26 i.toNat, sp S 0 0 0) else if q = 2 then (S.1 27 i.toNat, sp S 0 0 0)
  else if q = 3 then (S.1 28 i.toNat, sp S 0 0 0) else if q = 4 then (S.1 29 i.toNat, sp S 0 0 0) else (0, sp (sp S 0 0 0) 0 0 2)
set_option maxRecDepth 20000 in
theorem m_worker {G : fxG} (d : Nat) {S : Ms} {m : Nat} {w : fxW} (hR : MoR S m w) (hd1 : 1 ≤ d) (hB : Bi S) (i q : Int) (hi : zok i) (hq : zok q) : fxM G d y_Mo_worker [.ref m, zi i, zi q] w (moRet m w (zi (mWorker S i q).1) (mWorker S i q).2) := by
  refine fxM.of cc_Mo_worker 3 (some .int) [] (by decide +kernel) w_Mo_worker (Nat.le_of_ble_eq_true rfl) ?_
  intro x C ht hu
  generalize hM : mWorker S i q = MM
  unfold mWorker at hM
  generalize hQ : moRet m w (zi MM.1) MM.2 = QQ
  have hF : MoF m w w := MoF.rf
  have hW := hB.1
  show fxR G 3 x _ w 0 [(0, .ref m), (1, zi i), (2, zi q)] []
  refine r_aload_n C d_Mo_worker_0 rfl rfl ?_
  refine r_iconst C d_Mo_worker_1 rfl ?_
  refine p_Mo_96 C d_Mo_worker_2 rfl rfl hR.1 ?_
  refine mo_abS 0 hR rfl (fun w hR hF9 => ?_)
  have hF := hF.tr hF9
  refine r_iload_n C d_Mo_worker_5 rfl rfl ?_
  refine r_iconst C d_Mo_worker_6 rfl ?_
  refine r_aload_n C d_Mo_worker_7 rfl rfl ?_
  refine g_Mo_93 C d_Mo_worker_8 hR.1 (hR.sc 1 rfl) ?_
  refine r_iconst C d_Mo_worker_11 rfl ?_
  refine zr_isub C d_Mo_worker_12 ?_
  refine c_Mo_106 C d_Mo_worker_13 (m_in 0 w _ _ _ hi (by unfold zok; omega) (show zok (S.1 1 0 - 1) by unfold zok; omega)) (by omega) (Nat.le_of_ble_eq_true rfl) (fxPure.k1 ?_) fxPure.k2
  refine zr_if_ne (tgt := 25) C d_Mo_worker_16 (by decide) (zok_b _) (fun c_16 => ?_) (fun c_16 => ?_)
  · have q1 : 0 ≤ i ∧ i ≤ S.1 1 0 - 1 := Classical.byContradiction fun q => c_16 (bI_f q)
    rw [if_neg (fun q => q q1)] at hM
    obtain ⟨i, rfl⟩ := Int.eq_ofNat_of_zero_le q1.1
    rw [Int.toNat_natCast] at hM
    refine r_iload_n C d_Mo_worker_25 rfl rfl ?_
    by_cases c0 : q = 0
    · subst c0
      refine zr_tableIn (tgt := 60) (off := 34) C d_Mo_worker_26 hq (by decide) (by decide) rfl (by decide) ?_
      rw [if_pos rfl] at hM
      refine r_aload_n C d_Mo_worker_60 rfl rfl ?_
      refine g_Mo_74 C d_Mo_worker_61 hR.1 (hR.ar 25 rfl) ?_
      refine r_iload_n C d_Mo_worker_64 rfl rfl ?_
      refine zr_iaload (t := 1) (k := i) C d_Mo_worker_65 (by decide) rfl (Or.inl (hR.kd 25 rfl)) (by omega) (by show i < 4; omega) (by decide) (hR.el 25 rfl (by show i < 4; omega)) ?_
      rw [← hQ, ← hM]
      exact r_ireturn C d_Mo_worker_66 rfl ⟨rfl, hR, hF⟩
    by_cases c1 : q = 1
    · subst c1
      refine zr_tableIn (tgt := 67) (off := 41) C d_Mo_worker_26 hq (by decide) (by decide) rfl (by decide) ?_
      rw [if_neg (by decide), if_pos rfl] at hM
      refine r_aload_n C d_Mo_worker_67 rfl rfl ?_
      refine g_Mo_77 C d_Mo_worker_68 hR.1 (hR.ar 26 rfl) ?_
      refine r_iload_n C d_Mo_worker_71 rfl rfl ?_
      refine zr_iaload (t := 1) (k := i) C d_Mo_worker_72 (by decide) rfl (Or.inl (hR.kd 26 rfl)) (by omega) (by show i < 4; omega) (by decide) (hR.el 26 rfl (by show i < 4; omega)) ?_
      rw [← hQ, ← hM]
      exact r_ireturn C d_Mo_worker_73 rfl ⟨rfl, hR, hF⟩
    by_cases c2 : q = 2
    · subst c2
      refine zr_tableIn (tgt := 74) (off := 48) C d_Mo_worker_26 hq (by decide) (by decide) rfl (by decide) ?_
      rw [if_neg (by decide), if_neg (by decide), if_pos rfl] at hM
      refine r_aload_n C d_Mo_worker_74 rfl rfl ?_
      refine g_Mo_80 C d_Mo_worker_75 hR.1 (hR.ar 27 rfl) ?_
      refine r_iload_n C d_Mo_worker_78 rfl rfl ?_
      refine zr_iaload (t := 1) (k := i) C d_Mo_worker_79 (by decide) rfl (Or.inl (hR.kd 27 rfl)) (by omega) (by show i < 4; omega) (by decide) (hR.el 27 rfl (by show i < 4; omega)) ?_
      rw [← hQ, ← hM]
      exact r_ireturn C d_Mo_worker_80 rfl ⟨rfl, hR, hF⟩
    by_cases c3 : q = 3
    · subst c3
      refine zr_tableIn (tgt := 81) (off := 55) C d_Mo_worker_26 hq (by decide) (by decide) rfl (by decide) ?_
      rw [if_neg (by decide), if_neg (by decide), if_neg (by decide), if_pos rfl] at hM
      refine r_aload_n C d_Mo_worker_81 rfl rfl ?_
      refine g_Mo_83 C d_Mo_worker_82 hR.1 (hR.ar 28 rfl) ?_
      refine r_iload_n C d_Mo_worker_85 rfl rfl ?_
      refine zr_iaload (t := 1) (k := i) C d_Mo_worker_86 (by decide) rfl (Or.inl (hR.kd 28 rfl)) (by omega) (by show i < 4; omega) (by decide) (hR.el 28 rfl (by show i < 4; omega)) ?_
      rw [← hQ, ← hM]
      exact r_ireturn C d_Mo_worker_87 rfl ⟨rfl, hR, hF⟩
    by_cases c4 : q = 4
    · subst c4
      refine zr_tableIn (tgt := 88) (off := 62) C d_Mo_worker_26 hq (by decide) (by decide) rfl (by decide) ?_
      rw [if_neg (by decide), if_neg (by decide), if_neg (by decide), if_neg (by decide), if_pos rfl] at hM
      refine r_aload_n C d_Mo_worker_88 rfl rfl ?_
      refine g_Mo_86 C d_Mo_worker_89 hR.1 (hR.ar 29 rfl) ?_
      refine r_iload_n C d_Mo_worker_92 rfl rfl ?_
      refine zr_iaload (t := 1) (k := i) C d_Mo_worker_93 (by decide) rfl (Or.inl (hR.kd 29 rfl)) (by omega) (by show i < 4; omega) (by decide) (hR.el 29 rfl (by show i < 4; omega)) ?_
      rw [← hQ, ← hM]
      exact r_ireturn C d_Mo_worker_94 rfl ⟨rfl, hR, hF⟩
    · refine zr_tableOut (tgt := 95) C d_Mo_worker_26 hq (by omega) (by decide) ?_
      rw [if_neg c0, if_neg c1, if_neg c2, if_neg c3, if_neg c4] at hM
      refine r_aload_n C d_Mo_worker_95 rfl rfl ?_
      refine r_iconst C d_Mo_worker_96 rfl ?_
      refine c_Mo_110 C d_Mo_worker_97 hR.1 (m_raise 0 hR 2) (by omega) (Nat.le_of_ble_eq_true rfl) (moRet.k1 (fun w hR hF9 => ?_)) moRet.k2
      have hF := hF.tr hF9
      rw [← hQ, ← hM]
      exact r_ireturn C d_Mo_worker_100 rfl ⟨rfl, hR, hF⟩
  · rw [if_pos (fun q => by rw [bI_t (show 0 ≤ i ∧ i ≤ (sp S 0 0 0).1 1 0 - 1 from q)] at c_16; exact absurd c_16 (by decide))] at hM
    refine r_aload_n C d_Mo_worker_19 rfl rfl ?_
    refine r_iconst C d_Mo_worker_20 rfl ?_
    refine c_Mo_110 C d_Mo_worker_21 hR.1 (m_raise 0 hR 1) (by omega) (Nat.le_of_ble_eq_true rfl) (moRet.k1 (fun w hR hF9 => ?_)) moRet.k2
    have hF := hF.tr hF9
    rw [← hQ, ← hM]
    exact r_ireturn C d_Mo_worker_24 rfl ⟨rfl, hR, hF⟩
def mGrain (S : Ms) (g : Int) : Int × Ms := if ¬ (1 ≤ g ∧ g ≤ 24) then (0, sp (sp S 0 0 0) 0 0 1) else (S.1 30 0, sp (sp S 0 0 0) 30 0 g)
set_option maxRecDepth 20000 in
theorem m_grain {G : fxG} (d : Nat) {S : Ms} {m : Nat} {w : fxW} (hR : MoR S m w) (hd1 : 1 ≤ d) (g : Int) (hg : zok g) : fxM G d y_Mo_grain [.ref m, zi g] w (moRet m w (zi (mGrain S g).1) (mGrain S g).2) := by
  refine fxM.of cc_Mo_grain 3 (some .int) [] (by decide +kernel) w_Mo_grain (Nat.le_of_ble_eq_true rfl) ?_
  intro x C ht hu
  generalize hM : mGrain S g = MM
  unfold mGrain at hM
  generalize hQ : moRet m w (zi MM.1) MM.2 = QQ
  have hF : MoF m w w := MoF.rf
  show fxR G 3 x _ w 0 [(0, .ref m), (1, zi g)] []
  refine r_aload_n C d_Mo_grain_0 rfl rfl ?_
  refine r_iconst C d_Mo_grain_1 rfl ?_
  refine p_Mo_96 C d_Mo_grain_2 rfl rfl hR.1 ?_
  refine mo_abS 0 hR rfl (fun w hR hF9 => ?_)
  have hF := hF.tr hF9
  refine r_iload_n C d_Mo_grain_5 rfl rfl ?_
  refine r_iconst C d_Mo_grain_6 rfl ?_
  refine r_bipush (v := Int32.ofInt 24) C d_Mo_grain_7 (by decide) ?_
  refine c_Mo_106 C d_Mo_grain_9 (m_in 0 w _ _ _ hg (by unfold zok; omega) (by unfold zok; omega)) (by omega) (Nat.le_of_ble_eq_true rfl) (fxPure.k1 ?_) fxPure.k2
  refine zr_if_ne (tgt := 21) C d_Mo_grain_12 (by decide) (zok_b _) (fun c_12 => ?_) (fun c_12 => ?_)
  · have q1 : 1 ≤ g ∧ g ≤ 24 := Classical.byContradiction fun q => c_12 (bI_f q)
    rw [if_neg (fun q => q q1)] at hM
    refine r_aload_n C d_Mo_grain_21 rfl rfl ?_
    refine g_Mo_89 C d_Mo_grain_22 hR.1 (hR.sc 30 rfl) ?_
    refine r_istore_n (ls' := [(2, _), (0, _), (1, _)]) C d_Mo_grain_25 rfl (by decide) rfl ?_
    refine r_aload_n C d_Mo_grain_26 rfl rfl ?_
    refine r_iload_n C d_Mo_grain_27 rfl rfl ?_
    refine p_Mo_89 C d_Mo_grain_28 rfl rfl hR.1 ?_
    refine mo_abS 30 hR rfl (fun w hR hF9 => ?_)
    have hF := hF.tr hF9
    refine r_iload_n C d_Mo_grain_31 rfl rfl ?_
    rw [← hQ, ← hM]
    exact r_ireturn C d_Mo_grain_32 rfl ⟨rfl, hR, hF⟩
  · rw [if_pos (fun q => by rw [bI_t q] at c_12; exact absurd c_12 (by decide))] at hM
    refine r_aload_n C d_Mo_grain_15 rfl rfl ?_
    refine r_iconst C d_Mo_grain_16 rfl ?_
    refine c_Mo_110 C d_Mo_grain_17 hR.1 (m_raise 0 hR 1) (by omega) (Nat.le_of_ble_eq_true rfl) (moRet.k1 (fun w hR hF9 => ?_)) moRet.k2
    have hF := hF.tr hF9
    rw [← hQ, ← hM]
    exact r_ireturn C d_Mo_grain_20 rfl ⟨rfl, hR, hF⟩
def mCount (S : Ms) (q : Int) : Int × Ms :=
  if q = 0 then (S.1 14 0, sp S 0 0 0) else if q = 1 then (S.1 31 0, sp S 0 0 0) else if q = 2 then (S.1 32 0, sp S 0 0 0) else if q = 3 then (S.1 1 0, sp S 0 0 0) else (0, sp (sp S 0 0 0) 0 0 1)
set_option maxRecDepth 20000 in
theorem m_count {G : fxG} (d : Nat) {S : Ms} {m : Nat} {w : fxW} (hR : MoR S m w) (hd1 : 1 ≤ d) (q : Int) (hq : zok q) : fxM G d y_Mo_count [.ref m, zi q] w (moRet m w (zi (mCount S q).1) (mCount S q).2) := by
  refine fxM.of cc_Mo_count 2 (some .int) [] (by decide +kernel) w_Mo_count (Nat.le_of_ble_eq_true rfl) ?_
  intro x C ht hu
  generalize hM : mCount S q = MM
  unfold mCount at hM
  generalize hQ : moRet m w (zi MM.1) MM.2 = QQ
  have hF : MoF m w w := MoF.rf
  show fxR G 2 x _ w 0 [(0, .ref m), (1, zi q)] []
  refine r_aload_n C d_Mo_count_0 rfl rfl ?_
  refine r_iconst C d_Mo_count_1 rfl ?_
  refine p_Mo_96 C d_Mo_count_2 rfl rfl hR.1 ?_
  refine mo_abS 0 hR rfl (fun w hR hF9 => ?_)
  have hF := hF.tr hF9
  refine r_iload_n C d_Mo_count_5 rfl rfl ?_
  by_cases c0 : q = 0
  · subst c0
    refine zr_tableIn (tgt := 36) (off := 30) C d_Mo_count_6 hq (by decide) (by decide) rfl (by decide) ?_
    rw [if_pos rfl] at hM
    refine r_aload_n C d_Mo_count_36 rfl rfl ?_
    refine g_Mo_103 C d_Mo_count_37 hR.1 (hR.sc 14 rfl) ?_
    rw [← hQ, ← hM]
    exact r_ireturn C d_Mo_count_40 rfl ⟨rfl, hR, hF⟩
  by_cases c1 : q = 1
  · subst c1
    refine zr_tableIn (tgt := 41) (off := 35) C d_Mo_count_6 hq (by decide) (by decide) rfl (by decide) ?_
    rw [if_neg (by decide), if_pos rfl] at hM
    refine r_aload_n C d_Mo_count_41 rfl rfl ?_
    refine g_Mo_186 C d_Mo_count_42 hR.1 (hR.sc 31 rfl) ?_
    rw [← hQ, ← hM]
    exact r_ireturn C d_Mo_count_45 rfl ⟨rfl, hR, hF⟩
  by_cases c2 : q = 2
  · subst c2
    refine zr_tableIn (tgt := 46) (off := 40) C d_Mo_count_6 hq (by decide) (by decide) rfl (by decide) ?_
    rw [if_neg (by decide), if_neg (by decide), if_pos rfl] at hM
    refine r_aload_n C d_Mo_count_46 rfl rfl ?_
    refine g_Mo_183 C d_Mo_count_47 hR.1 (hR.sc 32 rfl) ?_
    rw [← hQ, ← hM]
    exact r_ireturn C d_Mo_count_50 rfl ⟨rfl, hR, hF⟩
  by_cases c3 : q = 3
  · subst c3
    refine zr_tableIn (tgt := 51) (off := 45) C d_Mo_count_6 hq (by decide) (by decide) rfl (by decide) ?_
    rw [if_neg (by decide), if_neg (by decide), if_neg (by decide), if_pos rfl] at hM
    refine r_aload_n C d_Mo_count_51 rfl rfl ?_
    refine g_Mo_93 C d_Mo_count_52 hR.1 (hR.sc 1 rfl) ?_
    rw [← hQ, ← hM]
    exact r_ireturn C d_Mo_count_55 rfl ⟨rfl, hR, hF⟩
  · refine zr_tableOut (tgt := 56) C d_Mo_count_6 hq (by omega) (by decide) ?_
    rw [if_neg c0, if_neg c1, if_neg c2, if_neg c3] at hM
    refine r_aload_n C d_Mo_count_56 rfl rfl ?_
    refine r_iconst C d_Mo_count_57 rfl ?_
    refine c_Mo_110 C d_Mo_count_58 hR.1 (m_raise 0 hR 1) (by omega) (Nat.le_of_ble_eq_true rfl) (moRet.k1 (fun w hR hF9 => ?_)) moRet.k2
    have hF := hF.tr hF9
    rw [← hQ, ← hM]
    exact r_ireturn C d_Mo_count_61 rfl ⟨rfl, hR, hF⟩

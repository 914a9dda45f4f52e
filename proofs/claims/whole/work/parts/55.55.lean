/-! THE REFERENCE'S PUBLIC METHODS, II: noJob, step, join, result, cancel -/
set_option maxRecDepth 20000 in
theorem m_noJob {G : fxG} (d : Nat) {S : Ms} {m : Nat} {w : fxW} (hR : MoR S m w) (j : Int) (hj : zok j) (hB : Bi S) : fxM G d y_Mo_noJob [.ref m, zi j] w (fxPure (zi (bI (¬ (0 ≤ j ∧ j < S.1 14 0)))) w) := by
  refine fxM.of cc_Mo_noJob 2 (some .boolean) [] (by decide +kernel) w_Mo_noJob (Nat.le_of_ble_eq_true rfl) ?_
  intro x C ht hu
  have hJ := hB.2.2.1
  show fxR G 2 x _ w 0 [(0, .ref m), (1, zi j)] []
  refine r_iload_n C d_Mo_noJob_0 rfl rfl ?_
  refine zr_if_lt (tgt := 12) C d_Mo_noJob_1 (by decide) hj (fun c_1 => ?_) (fun c_1 => ?_)
  · refine r_iconst C d_Mo_noJob_12 rfl ?_
    refine r_goto (tgt := 17) C d_Mo_noJob_13 (by decide) ?_
    exact zr_zreturn C (Or.inr rfl) d_Mo_noJob_17 ⟨by rw [bI_t (by omega)], rfl⟩
  · refine r_iload_n C d_Mo_noJob_4 rfl rfl ?_
    refine r_aload_n C d_Mo_noJob_5 rfl rfl ?_
    refine g_Mo_103 C d_Mo_noJob_6 hR.1 (hR.sc 14 rfl) ?_
    refine zr_icmp_lt (tgt := 16) C d_Mo_noJob_9 (by decide) hj (by unfold zok; omega) (fun c_9 => ?_) (fun c_9 => ?_)
    · refine r_iconst C d_Mo_noJob_16 rfl ?_
      exact zr_zreturn C (Or.inl rfl) d_Mo_noJob_17 ⟨by rw [bI_f (by omega)], rfl⟩
    · refine r_iconst C d_Mo_noJob_12 rfl ?_
      refine r_goto (tgt := 17) C d_Mo_noJob_13 (by decide) ?_
      exact zr_zreturn C (Or.inr rfl) d_Mo_noJob_17 ⟨by rw [bI_t (by omega)], rfl⟩
noncomputable def stF : Nat → Nat → Ms → Nat × Ms
  | 0, b, S => (b, S)
  | n + 1, b, S => stF n (b + (if (mTurns S).1 then 1 else 0)) (mTurns S).2
noncomputable def mStep (S : Ms) (n : Int) : Int × Ms := if ¬ (1 ≤ n ∧ n ≤ 60) then (0, sp (sp S 0 0 0) 0 0 1) else (((stF n.toNat 0 (sp S 0 0 0)).1 : Int), (stF n.toNat 0 (sp S 0 0 0)).2)
theorem stF_inv : ∀ (n b : Nat) (S : Ms), Inv2 S → Inv2 (stF n b S).2 := by
  intro n
  induction n with
  | zero => intro b S h; exact h
  | succ n ih => intro b S h; exact ih _ _ (turns2 h)
set_option maxRecDepth 20000 in
theorem m_step {G : fxG} (d : Nat) {S : Ms} {m : Nat} {w : fxW} (hR : MoR S m w) (hd1 : 6 ≤ d) (hI : Inv2 S) (n : Int) (hn : zok n) : fxM G d y_Mo_step [.ref m, zi n] w (moRet m w (zi (mStep S n).1) (mStep S n).2) := by
  refine fxM.of cc_Mo_step 4 (some .int) [] (by decide +kernel) w_Mo_step (Nat.le_of_ble_eq_true rfl) ?_
  intro x C ht hu
  generalize hM : mStep S n = MM
  unfold mStep at hM
  generalize hQ : moRet m w (zi MM.1) MM.2 = QQ
  have hF : MoF m w w := MoF.rf
  show fxR G 4 x _ w 0 [(0, .ref m), (1, zi n)] []
  refine r_aload_n C d_Mo_step_0 rfl rfl ?_
  refine r_iconst C d_Mo_step_1 rfl ?_
  refine p_Mo_96 C d_Mo_step_2 rfl rfl hR.1 ?_
  refine mo_abS 0 hR rfl (fun w hR hF9 => ?_)
  have hF := hF.tr hF9
  refine r_iload_n C d_Mo_step_5 rfl rfl ?_
  refine r_iconst C d_Mo_step_6 rfl ?_
  refine r_bipush (v := Int32.ofInt 60) C d_Mo_step_7 (by decide) ?_
  refine c_Mo_106 C d_Mo_step_9 (m_in 0 w _ _ _ hn (by unfold zok; omega) (by unfold zok; omega)) (by omega) (Nat.le_of_ble_eq_true rfl) (fxPure.k1 ?_) fxPure.k2
  refine zr_if_ne (tgt := 21) C d_Mo_step_12 (by decide) (zok_b _) (fun c_12 => ?_) (fun c_12 => ?_)
  · have q1 : 1 ≤ n ∧ n ≤ 60 := Classical.byContradiction fun q => c_12 (bI_f q)
    rw [if_neg (fun q => q q1)] at hM
    obtain ⟨N, rfl⟩ := Int.eq_ofNat_of_zero_le (show 0 ≤ n by omega)
    rw [Int.toNat_natCast] at hM
    refine r_iconst C d_Mo_step_21 rfl ?_
    refine r_istore_n (ls' := [(2, _), (0, _), (1, _)]) C d_Mo_step_22 rfl (by decide) rfl ?_
    refine r_iconst C d_Mo_step_23 rfl ?_
    refine r_istore_n (ls' := [(3, _), (2, _), (0, _), (1, _)]) C d_Mo_step_24 rfl (by decide) rfl ?_
    have loop : ∀ (n k b : Nat) (S1 : Ms) (w1 : fxW), k + n = N → Inv2 S1 → stF n b S1 = stF N 0 (sp S 0 0 0) → MoR S1 m w1 → MoF m w w1 → fxR G 4 x (fxQ G x QQ) w1 25 [(3, zi (k : Int)), (2, zi (b : Int)), (0, .ref m), (1, zi (N : Int))] [] := by
      intro n
      induction n with
      | zero =>
        intro k b S1 w1 h1 hI1 h2 hR1 hF1
        have hR := hR1
        have hF := hF.tr hF1
        refine r_iload_n C d_Mo_step_25 rfl rfl ?_
        refine r_iload_n C d_Mo_step_26 rfl rfl ?_
        refine zr_icmp_ge (tgt := 46) C d_Mo_step_27 (by decide) (by unfold zok; omega) (by unfold zok; omega) (fun c_27 => ?_) (fun c_27 => ?_)
        · refine r_iload_n C d_Mo_step_46 rfl rfl ?_
          rw [← hQ, ← hM, ← h2]
          exact r_ireturn C d_Mo_step_47 rfl ⟨rfl, hR, hF⟩
        · exact absurd c_27 (by omega)
      | succ n ih =>
        intro k b S1 w1 h1 hI1 h2 hR1 hF1
        have hR := hR1
        have hF := hF.tr hF1
        refine r_iload_n C d_Mo_step_25 rfl rfl ?_
        refine r_iload_n C d_Mo_step_26 rfl rfl ?_
        refine zr_icmp_ge (tgt := 46) C d_Mo_step_27 (by decide) (by unfold zok; omega) (by unfold zok; omega) (fun c_27 => ?_) (fun c_27 => ?_)
        · exact absurd c_27 (by omega)
        · refine r_aload_n C d_Mo_step_30 rfl rfl ?_
          refine c_Mo_192 C d_Mo_step_31 hR.1 (m_turns 5 hR (by omega) hI1.1.1 hI1.1.room) (by omega) (Nat.le_of_ble_eq_true rfl) (moRet.k1 (fun w hR hF9 => ?_)) moRet.k2
          have hF := hF.tr hF9
          refine zr_if_eq (tgt := 40) C d_Mo_step_34 (by decide) (by unfold bz; split <;> exact ⟨by decide, by decide⟩) (fun c_34 => ?_) (fun c_34 => ?_)
          · have e : (mTurns S1).1 = false := by
              cases hb : (mTurns S1).1
              · rfl
              · rw [hb] at c_34; exact absurd c_34 (by decide)
            refine zr_iinc (ls' := [(3, _), (2, _), (0, _), (1, _)]) C d_Mo_step_40 rfl (by decide) rfl ?_
            refine r_goto (tgt := 25) C d_Mo_step_43 (by decide) ?_
            exact ih (k + 1) b _ w (by omega) (turns2 hI1) (by rw [← h2, stF, e]; rfl) hR (hF1.tr hF9)
          · have e : (mTurns S1).1 = true := by
              cases hb : (mTurns S1).1
              · rw [hb] at c_34; exact absurd rfl c_34
              · rfl
            refine zr_iinc (ls' := [(2, _), (3, _), (0, _), (1, _)]) C d_Mo_step_37 rfl (by decide) rfl ?_
            refine zr_iinc (ls' := [(3, _), (2, _), (0, _), (1, _)]) C d_Mo_step_40 rfl (by decide) rfl ?_
            refine r_goto (tgt := 25) C d_Mo_step_43 (by decide) ?_
            exact fx_sub (ls' := [(3, zi ((k + 1 : Nat) : Int)), (2, zi ((b + 1 : Nat) : Int)), (0, .ref m), (1, zi (N : Int))]) (by simp [fxL]) (ih (k + 1) (b + 1) _ w (by omega) (turns2 hI1) (by rw [← h2, stF, e]; rfl) hR (hF1.tr hF9))
    exact fx_sub (ls' := [(3, zi ((0 : Nat) : Int)), (2, zi ((0 : Nat) : Int)), (0, .ref m), (1, zi (N : Int))]) (by simp [fxL]) (loop N 0 0 _ w (by omega) (hI.th 0) rfl hR MoF.rf)
  · rw [if_pos (fun q => by rw [bI_t q] at c_12; exact absurd c_12 (by decide))] at hM
    refine r_aload_n C d_Mo_step_15 rfl rfl ?_
    refine r_iconst C d_Mo_step_16 rfl ?_
    refine c_Mo_110 C d_Mo_step_17 hR.1 (m_raise 0 hR 1) (by omega) (Nat.le_of_ble_eq_true rfl) (moRet.k1 (fun w hR hF9 => ?_)) moRet.k2
    have hF := hF.tr hF9
    rw [← hQ, ← hM]
    exact r_ireturn C d_Mo_step_20 rfl ⟨rfl, hR, hF⟩
/-- the steps of a join, at most f of them -/
noncomputable def jnF (j : Nat) : Nat → Nat → Ms → Nat × Ms
  | 0, n, S => (n, S)
  | f + 1, n, S => if S.1 9 j = 0 then jnF j f (n + 1) (mTurns S).2 else (n, S)
theorem jnF_ok {j : Nat} : ∀ (f n : Nat) (S : Ms), Inv2 S → (j : Int) < S.1 14 0 → Ph S < (f : Int) → Inv2 (jnF j f n S).2 ∧ ¬ (jnF j f n S).2.1 9 j = 0 ∧ Kp S (jnF j f n S).2 ∧ ((jnF j f n S).1 : Int) + Ph (jnF j f n S).2 ≤ (n : Int) + Ph S := by
  intro f
  induction f with
  | zero => intro n S h _ hf; have := h.1.nn.2; omega
  | succ f ih =>
    intro n S h hj hf
    rw [jnF]
    split
    · rename_i c
      obtain ⟨x, hx⟩ := h.1.busy hj c
      obtain ⟨o1, o2, o3, o4⟩ := turns_ok h.1
      have hb : (mTurns S).1 = true := by
        cases hb : (mTurns S).1
        · rw [(o4 hb).1] at hx; cases hx
        · rfl
      have h3 := o3 hb
      obtain ⟨a1, a2, a3, a4⟩ := ih (n + 1) (mTurns S).2 (turns2 h) (by rw [o2 14 (by simp)]; exact hj) (by omega)
      exact ⟨a1, a2, o2.tr a3, by omega⟩
    · rename_i c
      exact ⟨h, c, Kp.rf, Int.le_refl _⟩
noncomputable def mJoin (S : Ms) (j : Int) : Int × Ms :=
  if ¬ (0 ≤ j ∧ j < S.1 14 0) then (0, sp (sp S 0 0 0) 0 0 1)
  else if (jnF j.toNat 1200 0 (sp S 0 0 0)).2.1 9 j.toNat = 2 then (0, sp (jnF j.toNat 1200 0 (sp S 0 0 0)).2 0 0 2) else (((jnF j.toNat 1200 0 (sp S 0 0 0)).1 : Int), (jnF j.toNat 1200 0 (sp S 0 0 0)).2)
theorem Inv.ph {S : Ms} (h : Inv S) : Ph S ≤ 1128 := by have := h.2.2.2.2; have := h.1.2.2.1.2; omega
theorem Ph_th (S : Ms) (x : Int) : Ph (sp S 0 0 x) = Ph S := Ph_eq rfl fun c hc => by funext j; exact sp_k _ _ _ _ (by omega)
set_option maxRecDepth 20000 in
theorem m_join {G : fxG} (d : Nat) {S : Ms} {m : Nat} {w : fxW} (hR : MoR S m w) (hd1 : 6 ≤ d) (hI : Inv2 S) (j : Int) (hj : zok j) : fxM G d y_Mo_join [.ref m, zi j] w (moRet m w (zi (mJoin S j).1) (mJoin S j).2) := by
  refine fxM.of cc_Mo_join 3 (some .int) [] (by decide +kernel) w_Mo_join (Nat.le_of_ble_eq_true rfl) ?_
  intro x C ht hu
  generalize hM : mJoin S j = MM
  unfold mJoin at hM
  generalize hQ : moRet m w (zi MM.1) MM.2 = QQ
  have hF : MoF m w w := MoF.rf
  show fxR G 3 x _ w 0 [(0, .ref m), (1, zi j)] []
  refine r_aload_n C d_Mo_join_0 rfl rfl ?_
  refine r_iconst C d_Mo_join_1 rfl ?_
  refine p_Mo_96 C d_Mo_join_2 rfl rfl hR.1 ?_
  refine mo_abS 0 hR rfl (fun w hR hF9 => ?_)
  have hF := hF.tr hF9
  refine r_aload_n C d_Mo_join_5 rfl rfl ?_
  refine r_iload_n C d_Mo_join_6 rfl rfl ?_
  refine c_Mo_196 C d_Mo_join_7 hR.1 (m_noJob 0 hR j hj (hI.th 0).1.1) (by omega) (Nat.le_of_ble_eq_true rfl) (fxPure.k1 ?_) fxPure.k2
  refine zr_if_eq (tgt := 19) C d_Mo_join_10 (by decide) (zok_b _) (fun c_10 => ?_) (fun c_10 => ?_)
  · have q1 : 0 ≤ j ∧ j < S.1 14 0 := Classical.byContradiction fun q => absurd (bI_t (p := ¬ (0 ≤ j ∧ j < S.1 14 0)) q) (by intro z; have c' : bI (¬ (0 ≤ j ∧ j < S.1 14 0)) = 0 := c_10; omega)
    rw [if_neg (fun q => q q1)] at hM
    obtain ⟨j, rfl⟩ := Int.eq_ofNat_of_zero_le q1.1
    rw [Int.toNat_natCast] at hM
    have hJ := hI.1.1.2.2.1.2
    obtain ⟨f1, f2, f3, -⟩ := jnF_ok (j := j) 1200 0 (sp S 0 0 0) (hI.th 0) q1.2 (by rw [Ph_th]; have := hI.1.ph; omega)
    refine r_iconst C d_Mo_join_19 rfl ?_
    refine r_istore_n (ls' := [(2, _), (0, _), (1, _)]) C d_Mo_join_20 rfl (by decide) rfl ?_
    have loop : ∀ (f n : Nat) (S1 : Ms) (w1 : fxW), Inv2 S1 → (j : Int) < S1.1 14 0 → Ph S1 < (f : Int) → jnF j f n S1 = jnF j 1200 0 (sp S 0 0 0) → MoR S1 m w1 → MoF m w w1 → fxR G 3 x (fxQ G x QQ) w1 21 [(2, zi (n : Int)), (0, .ref m), (1, zi (j : Int))] [] := by
      intro f
      induction f with
      | zero => intro n S1 w1 h _ hf; have := h.1.nn.2; omega
      | succ f ih =>
        intro n S1 w1 hI1 hj1 hf h2 hR1 hF1
        have hR := hR1
        have hF := hF.tr hF1
        rw [jnF] at h2
        refine r_aload_n C d_Mo_join_21 rfl rfl ?_
        refine g_Mo_32 C d_Mo_join_22 hR.1 (hR.ar 9 rfl) ?_
        refine r_iload_n C d_Mo_join_25 rfl rfl ?_
        refine zr_iaload (t := 1) (k := j) C d_Mo_join_26 (by decide) rfl (Or.inl (hR.kd 9 rfl)) (by omega) (by show j < 12; omega) (by decide) (hR.el 9 rfl (by show j < 12; omega)) ?_
        refine zr_if_ne (tgt := 41) C d_Mo_join_27 (by decide) ((hI1.1.1.jz hj1).2) (fun c_27 => ?_) (fun c_27 => ?_)
        · rw [if_neg c_27] at h2
          rw [← h2] at hM f2
          refine r_aload_n C d_Mo_join_41 rfl rfl ?_
          refine g_Mo_32 C d_Mo_join_42 hR.1 (hR.ar 9 rfl) ?_
          refine r_iload_n C d_Mo_join_45 rfl rfl ?_
          refine zr_iaload (t := 1) (k := j) C d_Mo_join_46 (by decide) rfl (Or.inl (hR.kd 9 rfl)) (by omega) (by show j < 12; omega) (by decide) (hR.el 9 rfl (by show j < 12; omega)) ?_
          refine r_iconst C d_Mo_join_47 rfl ?_
          refine zr_icmp_ne (tgt := 59) C d_Mo_join_48 (by decide) ((hI1.1.1.jz hj1).2) (by unfold zok; omega) (fun c_48 => ?_) (fun c_48 => ?_)
          · rw [if_neg c_48] at hM
            refine r_iload_n C d_Mo_join_59 rfl rfl ?_
            rw [← hQ, ← hM]
            exact r_ireturn C d_Mo_join_60 rfl ⟨rfl, hR, hF⟩
          · rw [if_pos c_48] at hM
            refine r_aload_n C d_Mo_join_51 rfl rfl ?_
            refine r_iconst C d_Mo_join_52 rfl ?_
            refine c_Mo_110 C d_Mo_join_53 hR.1 (m_raise 0 hR 2) (by omega) (Nat.le_of_ble_eq_true rfl) (moRet.k1 (fun w hR hF9 => ?_)) moRet.k2
            have hF := hF.tr hF9
            refine r_goto (tgt := 60) C d_Mo_join_56 (by decide) ?_
            rw [← hQ, ← hM]
            exact r_ireturn C d_Mo_join_60 rfl ⟨rfl, hR, hF⟩
        · rw [if_pos c_27] at h2
          obtain ⟨y, hy⟩ := hI1.1.busy hj1 c_27
          obtain ⟨o1, o2, o3, o4⟩ := turns_ok hI1.1
          have hb : (mTurns S1).1 = true := by
            cases hb : (mTurns S1).1
            · rw [(o4 hb).1] at hy; cases hy
            · rfl
          have h3 := o3 hb
          refine r_aload_n C d_Mo_join_30 rfl rfl ?_
          refine c_Mo_192 C d_Mo_join_31 hR.1 (m_turns 5 hR (by omega) hI1.1.1 hI1.1.room) (by omega) (Nat.le_of_ble_eq_true rfl) (moRet.k1 (fun w hR hF9 => ?_)) moRet.k2
          have hF := hF.tr hF9
          refine r_pop C d_Mo_join_34 rfl ?_
          refine zr_iinc (ls' := [(2, _), (0, _), (1, _)]) C d_Mo_join_35 rfl (by decide) rfl ?_
          refine r_goto (tgt := 21) C d_Mo_join_38 (by decide) ?_
          exact ih (n + 1) _ w (turns2 hI1) (by rw [o2 14 (by simp)]; exact hj1) (by omega) h2 hR (hF1.tr hF9)
    exact loop 1200 0 (sp S 0 0 0) w (hI.th 0) q1.2 (by rw [Ph_th]; have := hI.1.ph; omega) rfl hR MoF.rf
  · rw [if_pos (fun q => c_10 (bI_f (p := ¬ (0 ≤ j ∧ j < S.1 14 0)) (fun z => z q)))] at hM
    refine r_aload_n C d_Mo_join_13 rfl rfl ?_
    refine r_iconst C d_Mo_join_14 rfl ?_
    refine c_Mo_110 C d_Mo_join_15 hR.1 (m_raise 0 hR 1) (by omega) (Nat.le_of_ble_eq_true rfl) (moRet.k1 (fun w hR hF9 => ?_)) moRet.k2
    have hF := hF.tr hF9
    rw [← hQ, ← hM]
    exact r_ireturn C d_Mo_join_18 rfl ⟨rfl, hR, hF⟩
def mResult (S : Ms) (j : Int) : Int64 × Ms :=
  if ¬ (0 ≤ j ∧ j < S.1 14 0) then (0, sp (sp S 0 0 0) 0 0 1)
  else if 1 < S.1 5 j.toNat then (0, sp (sp S 0 0 0) 0 0 2)
  else if S.1 9 j.toNat = 1 then (S.2 21 (rootT S j.toNat), sp S 0 0 0) else (0, sp (sp S 0 0 0) 0 0 3)
set_option maxRecDepth 20000 in
theorem m_result {G : fxG} (d : Nat) {S : Ms} {m : Nat} {w : fxW} (hR : MoR S m w) (hd1 : 1 ≤ d) (hB : Bi S) (j : Int) (hj : zok j) : fxM G d y_Mo_result [.ref m, zi j] w (moRet m w (.long (mResult S j).1) (mResult S j).2) := by
  refine fxM.of cc_Mo_result 2 (some .long) [] (by decide +kernel) w_Mo_result (Nat.le_of_ble_eq_true rfl) ?_
  intro x C ht hu
  generalize hM : mResult S j = MM
  unfold mResult at hM
  generalize hQ : moRet m w (.long MM.1) MM.2 = QQ
  have hF : MoF m w w := MoF.rf
  show fxR G 2 x _ w 0 [(0, .ref m), (1, zi j)] []
  refine r_aload_n C d_Mo_result_0 rfl rfl ?_
  refine r_iconst C d_Mo_result_1 rfl ?_
  refine p_Mo_96 C d_Mo_result_2 rfl rfl hR.1 ?_
  refine mo_abS 0 hR rfl (fun w hR hF9 => ?_)
  have hF := hF.tr hF9
  refine r_aload_n C d_Mo_result_5 rfl rfl ?_
  refine r_iload_n C d_Mo_result_6 rfl rfl ?_
  refine c_Mo_196 C d_Mo_result_7 hR.1 (m_noJob 0 hR j hj hB) (by omega) (Nat.le_of_ble_eq_true rfl) (fxPure.k1 ?_) fxPure.k2
  refine zr_if_eq (tgt := 20) C d_Mo_result_10 (by decide) (zok_b _) (fun c_10 => ?_) (fun c_10 => ?_)
  · have q1 : 0 ≤ j ∧ j < S.1 14 0 := Classical.byContradiction fun q => absurd (bI_t (p := ¬ (0 ≤ j ∧ j < S.1 14 0)) q) (by intro z; have c' : bI (¬ (0 ≤ j ∧ j < S.1 14 0)) = 0 := c_10; omega)
    rw [if_neg (fun q => q q1)] at hM
    obtain ⟨j, rfl⟩ := Int.eq_ofNat_of_zero_le q1.1
    rw [Int.toNat_natCast] at hM
    have hJ := hB.2.2.1.2
    obtain ⟨j1, j2, j3, j4, j5, j6, j7, j8, j9, j10, j11, -⟩ := hB.2.2.2.1 j q1.2
    have hT6 := hB.2.2.2.2.1.2
    refine r_aload_n C d_Mo_result_20 rfl rfl ?_
    refine g_Mo_20 C d_Mo_result_21 hR.1 (hR.ar 5 rfl) ?_
    refine r_iload_n C d_Mo_result_24 rfl rfl ?_
    refine zr_iaload (t := 1) (k := j) C d_Mo_result_25 (by decide) rfl (Or.inl (hR.kd 5 rfl)) (by omega) (by show j < 12; omega) (by decide) (hR.el 5 rfl (by show j < 12; omega)) ?_
    refine r_iconst C d_Mo_result_26 rfl ?_
    refine zr_icmp_le (tgt := 37) C d_Mo_result_27 (by decide) (show zok (S.1 5 j) by unfold zok; omega) (by unfold zok; omega) (fun c_27 => ?_) (fun c_27 => ?_)
    · rw [if_neg (show ¬ 1 < S.1 5 j by have c' : S.1 5 j ≤ 1 := c_27; omega)] at hM
      refine r_aload_n C d_Mo_result_37 rfl rfl ?_
      refine g_Mo_32 C d_Mo_result_38 hR.1 (hR.ar 9 rfl) ?_
      refine r_iload_n C d_Mo_result_41 rfl rfl ?_
      refine zr_iaload (t := 1) (k := j) C d_Mo_result_42 (by decide) rfl (Or.inl (hR.kd 9 rfl)) (by omega) (by show j < 12; omega) (by decide) (hR.el 9 rfl (by show j < 12; omega)) ?_
      refine r_iconst C d_Mo_result_43 rfl ?_
      refine zr_icmp_ne (tgt := 61) C d_Mo_result_44 (by decide) (show zok (S.1 9 j) by unfold zok; omega) (by unfold zok; omega) (fun c_44 => ?_) (fun c_44 => ?_)
      · rw [if_neg (show ¬ S.1 9 j = 1 from c_44)] at hM
        refine r_aload_n C d_Mo_result_61 rfl rfl ?_
        refine r_iconst C d_Mo_result_62 rfl ?_
        refine c_Mo_110 C d_Mo_result_63 hR.1 (m_raise 0 hR 3) (by omega) (Nat.le_of_ble_eq_true rfl) (moRet.k1 (fun w hR hF9 => ?_)) moRet.k2
        have hF := hF.tr hF9
        refine r_i2l C d_Mo_result_66 rfl ?_
        rw [← hQ, ← hM]
        exact r_lreturn C d_Mo_result_67 rfl ⟨rfl, hR, hF⟩
      · rw [if_pos (show S.1 9 j = 1 from c_44)] at hM
        have er : S.1 12 j = ((rootT S j : Nat) : Int) := by unfold rootT; omega
        refine r_aload_n C d_Mo_result_47 rfl rfl ?_
        refine g_Mo_65 C d_Mo_result_48 hR.1 (hR.arL 21 rfl) ?_
        refine r_aload_n C d_Mo_result_51 rfl rfl ?_
        refine g_Mo_41 C d_Mo_result_52 hR.1 (hR.ar 12 rfl) ?_
        refine r_iload_n C d_Mo_result_55 rfl rfl ?_
        refine zr_iaload (t := 1) (k := j) C d_Mo_result_56 (by decide) rfl (Or.inl (hR.kd 12 rfl)) (by omega) (by show j < 12; omega) (by decide) (hR.el 12 rfl (by show j < 12; omega)) ?_
        rw [show (sp S 0 0 0).1 12 j = ((rootT S j : Nat) : Int) from er]
        refine zr_laload (t := 0) (k := rootT S j) C d_Mo_result_57 (by decide) rfl (Or.inl (hR.kdL 21 rfl)) (by omega) (by show rootT S j < 600; omega) (by decide) (hR.elL 21 rfl (by show rootT S j < 600; omega)) ?_
        refine r_goto (tgt := 67) C d_Mo_result_58 (by decide) ?_
        rw [← hQ, ← hM]
        exact r_lreturn C d_Mo_result_67 rfl ⟨rfl, hR, hF⟩
    · rw [if_pos (show 1 < S.1 5 j by have c' : ¬ S.1 5 j ≤ 1 := c_27; omega)] at hM
      refine r_aload_n C d_Mo_result_30 rfl rfl ?_
      refine r_iconst C d_Mo_result_31 rfl ?_
      refine c_Mo_110 C d_Mo_result_32 hR.1 (m_raise 0 hR 2) (by omega) (Nat.le_of_ble_eq_true rfl) (moRet.k1 (fun w hR hF9 => ?_)) moRet.k2
      have hF := hF.tr hF9
      refine r_i2l C d_Mo_result_35 rfl ?_
      rw [← hQ, ← hM]
      exact r_lreturn C d_Mo_result_36 rfl ⟨rfl, hR, hF⟩
  · rw [if_pos (fun q => c_10 (bI_f (p := ¬ (0 ≤ j ∧ j < S.1 14 0)) (fun z => z q)))] at hM
    refine r_aload_n C d_Mo_result_13 rfl rfl ?_
    refine r_iconst C d_Mo_result_14 rfl ?_
    refine c_Mo_110 C d_Mo_result_15 hR.1 (m_raise 0 hR 1) (by omega) (Nat.le_of_ble_eq_true rfl) (moRet.k1 (fun w hR hF9 => ?_)) moRet.k2
    have hF := hF.tr hF9
    refine r_i2l C d_Mo_result_18 rfl ?_
    rw [← hQ, ← hM]
    exact r_lreturn C d_Mo_result_19 rfl ⟨rfl, hR, hF⟩
noncomputable def mCancel (S : Ms) (j : Int) : Int × Ms :=
  if ¬ (0 ≤ j ∧ j < S.1 14 0) then (0, sp (sp S 0 0 0) 0 0 1)
  else if ¬ S.1 9 j.toNat = 0 then (0, sp (sp S 0 0 0) 0 0 2)
  else ((inQ S j (S.1 1 0).toNat : Int), mEnd (sp S 0 0 0) j.toNat (-1))
theorem inQ_th (S : Ms) (x j : Int) : ∀ n, inQ (sp S 0 0 x) j n = inQ S j n := by
  intro n
  induction n with
  | zero => rfl
  | succ n ih => show inQ (sp S 0 0 x) j n + inQ1 (sp S 0 0 x) j n = inQ S j n + inQ1 S j n; rw [ih]; rfl
set_option maxRecDepth 20000 in
theorem m_cancel {G : fxG} (d : Nat) {S : Ms} {m : Nat} {w : fxW} (hR : MoR S m w) (hd1 : 2 ≤ d) (hB : Bi S) (j : Int) (hj : zok j) : fxM G d y_Mo_cancel [.ref m, zi j] w (moRet m w (zi (mCancel S j).1) (mCancel S j).2) := by
  refine fxM.of cc_Mo_cancel 3 (some .int) [] (by decide +kernel) w_Mo_cancel (Nat.le_of_ble_eq_true rfl) ?_
  intro x C ht hu
  generalize hM : mCancel S j = MM
  unfold mCancel at hM
  generalize hQ : moRet m w (zi MM.1) MM.2 = QQ
  have hF : MoF m w w := MoF.rf
  show fxR G 3 x _ w 0 [(0, .ref m), (1, zi j)] []
  refine r_aload_n C d_Mo_cancel_0 rfl rfl ?_
  refine r_iconst C d_Mo_cancel_1 rfl ?_
  refine p_Mo_96 C d_Mo_cancel_2 rfl rfl hR.1 ?_
  refine mo_abS 0 hR rfl (fun w hR hF9 => ?_)
  have hF := hF.tr hF9
  refine r_aload_n C d_Mo_cancel_5 rfl rfl ?_
  refine r_iload_n C d_Mo_cancel_6 rfl rfl ?_
  refine c_Mo_196 C d_Mo_cancel_7 hR.1 (m_noJob 0 hR j hj hB) (by omega) (Nat.le_of_ble_eq_true rfl) (fxPure.k1 ?_) fxPure.k2
  refine zr_if_eq (tgt := 19) C d_Mo_cancel_10 (by decide) (zok_b _) (fun c_10 => ?_) (fun c_10 => ?_)
  · have q1 : 0 ≤ j ∧ j < S.1 14 0 := Classical.byContradiction fun q => absurd (bI_t (p := ¬ (0 ≤ j ∧ j < S.1 14 0)) q) (by intro z; have c' : bI (¬ (0 ≤ j ∧ j < S.1 14 0)) = 0 := c_10; omega)
    rw [if_neg (fun q => q q1)] at hM
    obtain ⟨j, rfl⟩ := Int.eq_ofNat_of_zero_le q1.1
    rw [Int.toNat_natCast] at hM
    have hJ := hB.2.2.1.2
    refine r_aload_n C d_Mo_cancel_19 rfl rfl ?_
    refine g_Mo_32 C d_Mo_cancel_20 hR.1 (hR.ar 9 rfl) ?_
    refine r_iload_n C d_Mo_cancel_23 rfl rfl ?_
    refine zr_iaload (t := 1) (k := j) C d_Mo_cancel_24 (by decide) rfl (Or.inl (hR.kd 9 rfl)) (by omega) (by show j < 12; omega) (by decide) (hR.el 9 rfl (by show j < 12; omega)) ?_
    refine zr_if_eq (tgt := 34) C d_Mo_cancel_25 (by decide) (show zok (S.1 9 j) from (hB.jz q1.2).2) (fun c_25 => ?_) (fun c_25 => ?_)
    · rw [if_neg (show ¬ ¬ S.1 9 j = 0 from fun q => q c_25)] at hM
      refine r_aload_n C d_Mo_cancel_34 rfl rfl ?_
      refine r_iload_n C d_Mo_cancel_35 rfl rfl ?_
      refine c_Mo_199 C d_Mo_cancel_36 hR.1 (m_inQueues 0 hR j (by omega) hB) (by omega) (Nat.le_of_ble_eq_true rfl) (fxPure.k1 ?_) fxPure.k2
      rw [inQ_th]
      refine r_istore_n (ls' := [(2, _), (0, _), (1, _)]) C d_Mo_cancel_39 rfl (by decide) rfl ?_
      refine r_aload_n C d_Mo_cancel_40 rfl rfl ?_
      refine r_iload_n C d_Mo_cancel_41 rfl rfl ?_
      refine r_iconst C d_Mo_cancel_42 rfl ?_
      refine c_Mo_165 C d_Mo_cancel_43 hR.1 (m_end 1 hR (by omega) j (-1) (by omega) hB) (by omega) (Nat.le_of_ble_eq_true rfl) (moVoid.k1 (fun w hR hF9 => ?_)) moVoid.k2
      have hF := hF.tr hF9
      refine r_iload_n C d_Mo_cancel_46 rfl rfl ?_
      rw [← hQ, ← hM]
      exact r_ireturn C d_Mo_cancel_47 rfl ⟨rfl, hR, hF⟩
    · rw [if_pos (show ¬ S.1 9 j = 0 from c_25)] at hM
      refine r_aload_n C d_Mo_cancel_28 rfl rfl ?_
      refine r_iconst C d_Mo_cancel_29 rfl ?_
      refine c_Mo_110 C d_Mo_cancel_30 hR.1 (m_raise 0 hR 2) (by omega) (Nat.le_of_ble_eq_true rfl) (moRet.k1 (fun w hR hF9 => ?_)) moRet.k2
      have hF := hF.tr hF9
      rw [← hQ, ← hM]
      exact r_ireturn C d_Mo_cancel_33 rfl ⟨rfl, hR, hF⟩
  · rw [if_pos (fun q => c_10 (bI_f (p := ¬ (0 ≤ j ∧ j < S.1 14 0)) (fun z => z q)))] at hM
    refine r_aload_n C d_Mo_cancel_13 rfl rfl ?_
    refine r_iconst C d_Mo_cancel_14 rfl ?_
    refine c_Mo_110 C d_Mo_cancel_15 hR.1 (m_raise 0 hR 1) (by omega) (Nat.le_of_ble_eq_true rfl) (moRet.k1 (fun w hR hF9 => ?_)) moRet.k2
    have hF := hF.tr hF9
    rw [← hQ, ← hM]
    exact r_ireturn C d_Mo_cancel_18 rfl ⟨rfl, hR, hF⟩

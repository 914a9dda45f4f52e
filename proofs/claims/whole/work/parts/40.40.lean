/-! THE REFERENCE'S METHODS, VII: perform, turns -/
theorem lfF_t (j a : Nat) : ∀ (n k : Nat) (S : Ms), (lfF j a k n S).1 = true → (lfF j a k n S).2.1 = S.1 := by
  intro n
  induction n with
  | zero => intro k S _; rfl
  | succ n ih =>
    intro k S h
    rw [lfF_succ] at h ⊢
    split at h
    · cases h
    · rename_i q
      rw [if_neg q, ih _ _ h]; rfl
theorem mLeaf_t {S : Ms} {t : Nat} (h : (mLeaf S t).1 = true) : (mLeaf S t).2.1 = S.1 := by
  unfold mLeaf at h ⊢
  simp only at h ⊢
  split
  · rfl
  · split
    · exact mSpread_1 _ _
    · split
      · exact mOrder_1 _ _ _ _
      · rename_i q1 q2 q3
        rw [if_neg q1, if_neg q2, if_neg q3] at h
        exact lfF_t _ _ _ _ _ h
theorem Bi.of1 {S S' : Ms} (h : Bi S) (e : S'.1 = S.1) : Bi S' := by
  have : S' = (S.1, S'.2) := Prod.ext e rfl
  rw [this]; exact h
set_option maxRecDepth 20000 in
theorem m_perform {G : fxG} (d : Nat) {S : Ms} {m : Nat} {w : fxW} (hR : MoR S m w) (t i : Nat) (hd1 : 4 ≤ d) (hB : Bi S) (ht9 : (t : Int) < S.1 23 0) (hi4 : i < 4) (hq : S.1 25 i + 2 ≤ 600) (hr1 : S.1 13 (mOf S t) = 1 → S.1 30 0 < S.1 17 t - S.1 16 t → S.1 23 0 + 2 ≤ 600) : fxM G d y_Mo_perform [.ref m, zi (t : Int), zi (i : Int)] w (moVoid m w (mPerform S t i)) := by
  refine fxM.of cc_Mo_perform 5 none [] (by decide +kernel) w_Mo_perform (Nat.le_of_ble_eq_true rfl) ?_
  intro x C ht hu
  have hT6 := hB.2.2.2.2.1.2
  have hJ := hB.2.2.1.2
  obtain ⟨b1, b2, b3, b4, b5, b6, b7, b8, b9, b10, b11⟩ := hB.2.2.2.2.2.1 t ht9
  obtain ⟨j, hj⟩ := Int.eq_ofNat_of_zero_le b1
  have hjn : (j : Int) < S.1 14 0 := by omega
  obtain ⟨j1, j2, j3, j4, j5, j6, j7, j8, j9, j10, j11, j12⟩ := hB.2.2.2.1 j hjn
  obtain ⟨o, ho⟩ := Int.eq_ofNat_of_zero_le j3
  have ho5 := (hB.2.1 o (by omega)).2.1
  have ho6 : 0 ≤ S.1 2 o := by rw [ho] at j5; exact j5
  have g1 := hB.2.2.2.2.2.2.2.2.1.1
  have g2 := hB.2.2.2.2.2.2.2.2.1.2
  have eO : mOf S t = j := by unfold mOf; rw [hj]; rfl
  have eF : mForks S t ↔ (if S.1 13 j = 1 then S.1 30 0 < S.1 17 t - S.1 16 t else 0 ≤ S.1 19 t) := by unfold mForks; rw [eO]
  have eP : mPerform S t i = @ite _ (mForks S t) (Classical.propDecidable _) (mFork (sp (sp S 11 j (S.1 11 j + 1)) 26 i (S.1 26 i + 1)) t i) (if (mLeaf (sp (sp S 11 j (S.1 11 j + 1)) 26 i (S.1 26 i + 1)) t).1 then mFinished (mLeaf (sp (sp S 11 j (S.1 11 j + 1)) 26 i (S.1 26 i + 1)) t).2 t i else (mLeaf (sp (sp S 11 j (S.1 11 j + 1)) 26 i (S.1 26 i + 1)) t).2) := by unfold mPerform; rw [eO]
  rw [eO] at hr1
  generalize hQ : moVoid m w (mPerform S t i) = QQ
  generalize hS1 : sp (sp S 11 j (S.1 11 j + 1)) 26 i (S.1 26 i + 1) = S1 at eP
  have k1 : ∀ c jj, c ≠ 11 → c ≠ 26 → S1.1 c jj = S.1 c jj := fun c jj h1 h2 => by rw [← hS1, sp_k _ _ _ _ h2, sp_k _ _ _ _ h1]
  have hB1 : Bi S1 := hB.mono (fun c jj _ _ _ h11 h26 _ _ _ _ => k1 c jj h11 h26) (by rw [← hS1]; exact hB.2.2.2.2.2.2.1)
  have eO1 : mOf S1 t = j := by unfold mOf; rw [k1 15 t (by decide) (by decide), hj]; rfl
  have c13 := k1 13 j (by decide) (by decide)
  have c23 := k1 23 0 (by decide) (by decide)
  have c25 := k1 25 i (by decide) (by decide)
  have c19 := k1 19 t (by decide) (by decide)
  have c16 := k1 16 t (by decide) (by decide)
  have c17 := k1 17 t (by decide) (by decide)
  have c30 := k1 30 0 (by decide) (by decide)
  have yes : ∀ (w1 : fxW), mForks S t → MoR S1 m w1 → MoF m w w1 → fxR G 5 x (fxQ G x QQ) w1 79 [(3, zi (j : Int)), (0, .ref m), (1, zi (t : Int)), (2, zi (i : Int))] [zi 1] := by
    intro w hf hR hF
    have hf2 := eF.mp hf
    refine r_istore (ls' := [(4, _), (3, _), (0, _), (1, _), (2, _)]) C d_Mo_perform_79 (by decide) rfl ?_
    refine r_iload C d_Mo_perform_81 rfl ?_
    refine zr_if_eq (tgt := 95) C d_Mo_perform_83 (by decide) (by unfold zok; omega) (fun c_83 => ?_) (fun c_83 => ?_)
    · exact absurd c_83 (by decide)
    · refine r_aload_n C d_Mo_perform_86 rfl rfl ?_
      refine r_iload_n C d_Mo_perform_87 rfl rfl ?_
      refine r_iload_n C d_Mo_perform_88 rfl rfl ?_
      refine c_Mo_174 C d_Mo_perform_89 hR.1 (m_fork 2 hR t i (by omega) hB1 (by omega) hi4 (by omega) (fun q => by rw [eO1, c13] at q; rw [if_pos q] at hf2; have := hr1 q hf2; omega) (fun q => by rw [eO1, c13] at q; rw [if_neg q] at hf2; omega)) (by omega) (Nat.le_of_ble_eq_true rfl) (moVoid.k1 (fun w hR hF9 => ?_)) moVoid.k2
      have hF := hF.tr hF9
      refine r_goto (tgt := 109) C d_Mo_perform_92 (by decide) ?_
      rw [← hQ]
      exact r_return C d_Mo_perform_109 rfl ⟨rfl, by rw [eP, if_pos hf]; exact hR, hF⟩
  have no : ∀ (w1 : fxW), ¬ mForks S t → MoR S1 m w1 → MoF m w w1 → fxR G 5 x (fxQ G x QQ) w1 79 [(3, zi (j : Int)), (0, .ref m), (1, zi (t : Int)), (2, zi (i : Int))] [zi 0] := by
    intro w hf hR hF
    rw [if_neg hf] at eP
    obtain ⟨lo, hlo⟩ := Int.eq_ofNat_of_zero_le b3
    obtain ⟨hi, hhi⟩ := Int.eq_ofNat_of_zero_le (show 0 ≤ S.1 17 t by omega)
    have T : mTok S1 t j o lo hi := ⟨by omega, by rw [k1 15 t (by decide) (by decide)]; exact hj, by omega, by rw [k1 6 j (by decide) (by decide)]; exact ho, by omega, by omega, by omega, by omega, by omega, by rw [k1 5 j (by decide) (by decide)]; exact j1, by rw [k1 5 j (by decide) (by decide)]; exact j2, by rw [k1 2 o (by decide) (by decide)]; exact ho6, by rw [k1 2 o (by decide) (by decide)]; exact ho5⟩
    refine r_istore (ls' := [(4, _), (3, _), (0, _), (1, _), (2, _)]) C d_Mo_perform_79 (by decide) rfl ?_
    refine r_iload C d_Mo_perform_81 rfl ?_
    refine zr_if_eq (tgt := 95) C d_Mo_perform_83 (by decide) (by unfold zok; omega) (fun c_83 => ?_) (fun c_83 => ?_)
    · refine r_aload_n C d_Mo_perform_95 rfl rfl ?_
      refine r_iload_n C d_Mo_perform_96 rfl rfl ?_
      refine c_Mo_177 C d_Mo_perform_97 hR.1 (m_leaf 3 hR (by omega) hB1 T (by omega)) (by omega) (Nat.le_of_ble_eq_true rfl) (moRet.k1 (fun w hR hF9 => ?_)) moRet.k2
      have hF := hF.tr hF9
      refine zr_if_eq (tgt := 109) C d_Mo_perform_100 (by decide) (by unfold bz; split <;> exact ⟨by decide, by decide⟩) (fun c_100 => ?_) (fun c_100 => ?_)
      · have e2 : (mLeaf S1 t).1 = false := by
          cases hb : (mLeaf S1 t).1
          · rfl
          · rw [hb] at c_100; exact absurd c_100 (by decide)
        rw [e2] at eP
        rw [← hQ]
        exact r_return C d_Mo_perform_109 rfl ⟨rfl, by rw [eP]; exact hR, hF⟩
      · have e2 : (mLeaf S1 t).1 = true := by
          cases hb : (mLeaf S1 t).1
          · rw [hb] at c_100; exact absurd rfl c_100
          · rfl
        rw [if_pos e2] at eP
        have e3 := mLeaf_t e2
        refine r_aload_n C d_Mo_perform_103 rfl rfl ?_
        refine r_iload_n C d_Mo_perform_104 rfl rfl ?_
        refine r_iload_n C d_Mo_perform_105 rfl rfl ?_
        refine c_Mo_180 C d_Mo_perform_106 hR.1 (m_finished 2 hR t i (by omega) (hB1.of1 e3) (by rw [e3]; omega) hi4 (by rw [e3]; omega)) (by omega) (Nat.le_of_ble_eq_true rfl) (moVoid.k1 (fun w hR hF9 => ?_)) moVoid.k2
        have hF := hF.tr hF9
        rw [← hQ]
        exact r_return C d_Mo_perform_109 rfl ⟨rfl, by rw [eP]; exact hR, hF⟩
    · exact absurd rfl c_83
  have hF : MoF m w w := MoF.rf
  show fxR G 5 x _ w 0 [(0, .ref m), (1, zi (t : Int)), (2, zi (i : Int))] []
  refine r_aload_n C d_Mo_perform_0 rfl rfl ?_
  refine g_Mo_47 C d_Mo_perform_1 hR.1 (hR.ar 15 rfl) ?_
  refine r_iload_n C d_Mo_perform_4 rfl rfl ?_
  refine zr_iaload (t := 1) (k := t) C d_Mo_perform_5 (by decide) rfl (Or.inl (hR.kd 15 rfl)) (by omega) (by show t < 600; omega) (by decide) (hR.el 15 rfl (by show t < 600; omega)) ?_
  rw [hj]
  refine r_istore_n (ls' := [(3, _), (0, _), (1, _), (2, _)]) C d_Mo_perform_6 rfl (by decide) rfl ?_
  refine r_aload_n C d_Mo_perform_7 rfl rfl ?_
  refine g_Mo_38 C d_Mo_perform_8 hR.1 (hR.ar 11 rfl) ?_
  refine r_iload_n C d_Mo_perform_11 rfl rfl ?_
  refine r_dup2 C d_Mo_perform_12 rfl rfl ?_
  refine zr_iaload (t := 1) (k := j) C d_Mo_perform_13 (by decide) rfl (Or.inl (hR.kd 11 rfl)) (by omega) (by show j < 12; omega) (by decide) (hR.el 11 rfl (by show j < 12; omega)) ?_
  refine r_iconst C d_Mo_perform_14 rfl ?_
  refine zr_iadd C d_Mo_perform_15 ?_
  refine zr_iastore (t := 1) (k := j) C d_Mo_perform_16 (by decide) rfl (hR.kd 11 rfl) (by omega) (by show j < 12; omega) (by decide) ?_
  refine mo_abI 11 hR rfl (fun w hR hF9 => ?_)
  have hF := hF.tr hF9
  refine r_aload_n C d_Mo_perform_17 rfl rfl ?_
  refine g_Mo_77 C d_Mo_perform_18 hR.1 (hR.ar 26 rfl) ?_
  refine r_iload_n C d_Mo_perform_21 rfl rfl ?_
  refine r_dup2 C d_Mo_perform_22 rfl rfl ?_
  refine zr_iaload (t := 1) (k := i) C d_Mo_perform_23 (by decide) rfl (Or.inl (hR.kd 26 rfl)) (by omega) (by show i < 4; omega) (by decide) (hR.el 26 rfl (by show i < 4; omega)) ?_
  refine r_iconst C d_Mo_perform_24 rfl ?_
  refine zr_iadd C d_Mo_perform_25 ?_
  refine zr_iastore (t := 1) (k := i) C d_Mo_perform_26 (by decide) rfl (hR.kd 26 rfl) (by omega) (by show i < 4; omega) (by decide) ?_
  refine mo_abI 26 hR rfl (fun w hR hF9 => ?_)
  have hF := hF.tr hF9
  rw [show (sp S 11 j (S.1 11 j + 1)).1 26 i = S.1 26 i from sp_k _ _ _ _ (by decide), hS1] at hR
  refine r_aload_n C d_Mo_perform_27 rfl rfl ?_
  refine g_Mo_44 C d_Mo_perform_28 hR.1 (hR.ar 13 rfl) ?_
  refine r_iload_n C d_Mo_perform_31 rfl rfl ?_
  refine zr_iaload (t := 1) (k := j) C d_Mo_perform_32 (by decide) rfl (Or.inl (hR.kd 13 rfl)) (by omega) (by show j < 12; omega) (by decide) (hR.el 13 rfl (by show j < 12; omega)) ?_
  refine r_iconst C d_Mo_perform_33 rfl ?_
  refine zr_icmp_ne (tgt := 65) C d_Mo_perform_34 (by decide) (by rw [c13]; unfold zok; omega) (by unfold zok; omega) (fun c_34 => ?_) (fun c_34 => ?_)
  · rw [c13] at c_34
    refine r_aload_n C d_Mo_perform_65 rfl rfl ?_
    refine g_Mo_59 C d_Mo_perform_66 hR.1 (hR.ar 19 rfl) ?_
    refine r_iload_n C d_Mo_perform_69 rfl rfl ?_
    refine zr_iaload (t := 1) (k := t) C d_Mo_perform_70 (by decide) rfl (Or.inl (hR.kd 19 rfl)) (by omega) (by show t < 600; omega) (by decide) (hR.el 19 rfl (by show t < 600; omega)) ?_
    refine zr_if_lt (tgt := 78) C d_Mo_perform_71 (by decide) (by rw [c19]; unfold zok; omega) (fun c_71 => ?_) (fun c_71 => ?_)
    · refine r_iconst C d_Mo_perform_78 rfl ?_
      exact no w (by rw [eF, if_neg c_34]; omega) hR hF
    · refine r_iconst C d_Mo_perform_74 rfl ?_
      refine r_goto (tgt := 79) C d_Mo_perform_75 (by decide) ?_
      exact yes w (by rw [eF, if_neg c_34]; omega) hR hF
  · rw [c13] at c_34
    refine r_aload_n C d_Mo_perform_37 rfl rfl ?_
    refine g_Mo_53 C d_Mo_perform_38 hR.1 (hR.ar 17 rfl) ?_
    refine r_iload_n C d_Mo_perform_41 rfl rfl ?_
    refine zr_iaload (t := 1) (k := t) C d_Mo_perform_42 (by decide) rfl (Or.inl (hR.kd 17 rfl)) (by omega) (by show t < 600; omega) (by decide) (hR.el 17 rfl (by show t < 600; omega)) ?_
    refine r_aload_n C d_Mo_perform_43 rfl rfl ?_
    refine g_Mo_50 C d_Mo_perform_44 hR.1 (hR.ar 16 rfl) ?_
    refine r_iload_n C d_Mo_perform_47 rfl rfl ?_
    refine zr_iaload (t := 1) (k := t) C d_Mo_perform_48 (by decide) rfl (Or.inl (hR.kd 16 rfl)) (by omega) (by show t < 600; omega) (by decide) (hR.el 16 rfl (by show t < 600; omega)) ?_
    refine zr_isub C d_Mo_perform_49 ?_
    refine r_aload_n C d_Mo_perform_50 rfl rfl ?_
    refine g_Mo_89 C d_Mo_perform_51 hR.1 (hR.sc 30 rfl) ?_
    refine zr_icmp_le (tgt := 61) C d_Mo_perform_54 (by decide) (by rw [c16, c17]; unfold zok; omega) (by rw [c30]; unfold zok; omega) (fun c_54 => ?_) (fun c_54 => ?_)
    · refine r_iconst C d_Mo_perform_61 rfl ?_
      refine r_goto (tgt := 79) C d_Mo_perform_62 (by decide) ?_
      exact no w (by rw [eF, if_pos c_34]; omega) hR hF
    · refine r_iconst C d_Mo_perform_57 rfl ?_
      refine r_goto (tgt := 79) C d_Mo_perform_58 (by decide) ?_
      exact yes w (by rw [eF, if_pos c_34]; omega) hR hF

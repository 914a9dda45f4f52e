/-! THE REFERENCE'S PUBLIC METHODS, I -/
theorem Inv.th {S : Ms} (h : Inv S) (x : Int) : Inv (sp S 0 0 x) := by
  obtain ⟨hB, hE, ⟨L, hT⟩, h4, h5⟩ := h
  have k : ∀ c, c ≠ 0 → (sp S 0 0 x).1 c = S.1 c := fun c hc => by funext j; exact sp_k _ _ _ _ hc
  refine ⟨hB, hE, ⟨L, hT⟩, ?_, ?_⟩
  · rw [P1_eq (S := S) (S' := sp S 0 0 x) rfl fun c hc => k c (by omega)]; exact h4
  · rw [Ph_eq (S := S) (S' := sp S 0 0 x) rfl fun c hc => k c (by omega)]; exact h5
theorem Bi.jz {S : Ms} (hB : Bi S) {j : Nat} (hj : (j : Int) < S.1 14 0) : zok (S.1 6 j) ∧ zok (S.1 9 j) := by
  obtain ⟨b1, b2, b3, b4, b5, b6, b7, b8⟩ := hB.2.2.2.1 j hj
  unfold zok; omega
theorem Bi.az {S : Ms} (hB : Bi S) {a : Nat} (ha : a < 4) : zok (S.1 2 a) ∧ zok (S.1 3 a) := by
  obtain ⟨b1, b2, b3, b4, b5⟩ := hB.2.1 a ha
  unfold zok; omega
def zerF (a : Nat) : Nat → Nat → Ms → Ms
  | _, 0, S => S
  | k, n + 1, S => zerF a (k + 1) n (sq S 4 (24 * a + k) 0)
noncomputable def mArray (S : Ms) (a ty len : Int) : Int × Ms :=
  if ¬ ((0 ≤ a ∧ a ≤ 3) ∧ (0 ≤ ty ∧ ty ≤ 5) ∧ (1 ≤ len ∧ len ≤ 24)) then (0, sp (sp S 0 0 0) 0 0 1)
  else @ite _ (mBusy S a) (Classical.propDecidable _) (0, sp (sp S 0 0 0) 0 0 2) (len, zerF a.toNat 0 24 (sp (sp (sp S 0 0 0) 2 a.toNat ty) 3 a.toNat len))
set_option maxRecDepth 20000 in
theorem m_array {G : fxG} (d : Nat) {S : Ms} {m : Nat} {w : fxW} (hR : MoR S m w) (hd1 : 1 ≤ d) (hB : Bi S) (a ty len : Int) (ha : zok a) (hty : zok ty) (hln : zok len) : fxM G d y_Mo_array [.ref m, zi a, zi ty, zi len] w (moRet m w (zi (mArray S a ty len).1) (mArray S a ty len).2) := by
  refine fxM.of cc_Mo_array 5 (some .int) [] (by decide +kernel) w_Mo_array (Nat.le_of_ble_eq_true rfl) ?_
  intro x C ht hu
  generalize hM : mArray S a ty len = MM
  unfold mArray at hM
  generalize hQ : moRet m w (zi MM.1) MM.2 = QQ
  have hF : MoF m w w := MoF.rf
  show fxR G 5 x _ w 0 [(0, .ref m), (1, zi a), (2, zi ty), (3, zi len)] []
  refine r_aload_n C d_Mo_array_0 rfl rfl ?_
  refine r_iconst C d_Mo_array_1 rfl ?_
  refine p_Mo_96 C d_Mo_array_2 rfl rfl hR.1 ?_
  refine mo_abS 0 hR rfl (fun w hR hF9 => ?_)
  have hF := hF.tr hF9
  have bad : ¬ ((0 ≤ a ∧ a ≤ 3) ∧ (0 ≤ ty ∧ ty ≤ 5) ∧ (1 ≤ len ∧ len ≤ 24)) → fxR G 5 x (fxQ G x QQ) w 33 [(0, .ref m), (1, zi a), (2, zi ty), (3, zi len)] [] := by
    intro hb
    rw [if_pos hb] at hM
    refine r_aload_n C d_Mo_array_33 rfl rfl ?_
    refine r_iconst C d_Mo_array_34 rfl ?_
    refine c_Mo_110 C d_Mo_array_35 hR.1 (m_raise 0 hR 1) (by omega) (Nat.le_of_ble_eq_true rfl) (moRet.k1 (fun w hR hF9 => ?_)) moRet.k2
    have hF := hF.tr hF9
    rw [← hQ, ← hM]
    exact r_ireturn C d_Mo_array_38 rfl ⟨rfl, hR, hF⟩
  refine r_iload_n C d_Mo_array_5 rfl rfl ?_
  refine r_iconst C d_Mo_array_6 rfl ?_
  refine r_iconst C d_Mo_array_7 rfl ?_
  refine c_Mo_106 C d_Mo_array_8 (m_in 0 w _ _ _ ha (by unfold zok; omega) (by unfold zok; omega)) (by omega) (Nat.le_of_ble_eq_true rfl) (fxPure.k1 ?_) fxPure.k2
  refine zr_if_eq (tgt := 33) C d_Mo_array_11 (by decide) (zok_b _) (fun c_11 => ?_) (fun c_11 => ?_)
  · exact bad (fun q => by rw [bI_t q.1] at c_11; cases c_11)
  · have q1 : 0 ≤ a ∧ a ≤ 3 := Classical.byContradiction fun q => c_11 (bI_f q)
    refine r_iload_n C d_Mo_array_14 rfl rfl ?_
    refine r_iconst C d_Mo_array_15 rfl ?_
    refine r_iconst C d_Mo_array_16 rfl ?_
    refine c_Mo_106 C d_Mo_array_17 (m_in 0 w _ _ _ hty (by unfold zok; omega) (by unfold zok; omega)) (by omega) (Nat.le_of_ble_eq_true rfl) (fxPure.k1 ?_) fxPure.k2
    refine zr_if_eq (tgt := 33) C d_Mo_array_20 (by decide) (zok_b _) (fun c_20 => ?_) (fun c_20 => ?_)
    · exact bad (fun q => by rw [bI_t q.2.1] at c_20; cases c_20)
    · have q2 : 0 ≤ ty ∧ ty ≤ 5 := Classical.byContradiction fun q => c_20 (bI_f q)
      refine r_iload_n C d_Mo_array_23 rfl rfl ?_
      refine r_iconst C d_Mo_array_24 rfl ?_
      refine r_bipush (v := Int32.ofInt 24) C d_Mo_array_25 (by decide) ?_
      refine c_Mo_106 C d_Mo_array_27 (m_in 0 w _ _ _ hln (by unfold zok; omega) (by unfold zok; omega)) (by omega) (Nat.le_of_ble_eq_true rfl) (fxPure.k1 ?_) fxPure.k2
      refine zr_if_ne (tgt := 39) C d_Mo_array_30 (by decide) (zok_b _) (fun c_30 => ?_) (fun c_30 => ?_)
      · have q3 : 1 ≤ len ∧ len ≤ 24 := Classical.byContradiction fun q => c_30 (bI_f q)
        rw [if_neg (fun q => q ⟨q1, q2, q3⟩)] at hM
        obtain ⟨a, rfl⟩ := Int.eq_ofNat_of_zero_le q1.1
        rw [Int.toNat_natCast] at hM
        have hJ := hB.2.2.1
        refine r_aload_n C d_Mo_array_39 rfl rfl ?_
        refine r_iload_n C d_Mo_array_40 rfl rfl ?_
        refine c_Mo_114 C d_Mo_array_41 hR.1 (m_busy 0 hR (a : Int) ha hJ (fun j hj => (hB.jz hj).1) (fun j hj => (hB.jz hj).2)) (by omega) (Nat.le_of_ble_eq_true rfl) (fxPure.k1 ?_) fxPure.k2
        refine zr_if_eq (tgt := 53) C d_Mo_array_44 (by decide) (zok_c _) (fun c_44 => ?_) (fun c_44 => ?_)
        · have nb : ¬ mBusy S (a : Int) := cI_0.mp c_44
          rw [if_neg nb] at hM
          refine r_aload_n C d_Mo_array_53 rfl rfl ?_
          refine g_Mo_7 C d_Mo_array_54 hR.1 (hR.ar 2 rfl) ?_
          refine r_iload_n C d_Mo_array_57 rfl rfl ?_
          refine r_iload_n C d_Mo_array_58 rfl rfl ?_
          refine zr_iastore (t := 1) (k := a) C d_Mo_array_59 (by decide) rfl (hR.kd 2 rfl) (by omega) (by show a < 4; omega) (by decide) ?_
          refine mo_abI 2 hR rfl (fun w hR hF9 => ?_)
          have hF := hF.tr hF9
          refine r_aload_n C d_Mo_array_60 rfl rfl ?_
          refine g_Mo_13 C d_Mo_array_61 hR.1 (hR.ar 3 rfl) ?_
          refine r_iload_n C d_Mo_array_64 rfl rfl ?_
          refine r_iload_n C d_Mo_array_65 rfl rfl ?_
          refine zr_iastore (t := 1) (k := a) C d_Mo_array_66 (by decide) rfl (hR.kd 3 rfl) (by omega) (by show a < 4; omega) (by decide) ?_
          refine mo_abI 3 hR rfl (fun w hR hF9 => ?_)
          have hF := hF.tr hF9
          refine r_iconst C d_Mo_array_67 rfl ?_
          refine r_istore (ls' := [(4, _), (0, _), (1, _), (2, _), (3, _)]) C d_Mo_array_68 (by decide) rfl ?_
          have loop : ∀ (n k : Nat) (S1 : Ms) (w1 : fxW), k + n = 24 → zerF a k n S1 = zerF a 0 24 (sp (sp (sp S 0 0 0) 2 a ty) 3 a len) → MoR S1 m w1 → MoF m w w1 → fxR G 5 x (fxQ G x QQ) w1 70 [(4, zi (k : Int)), (0, .ref m), (1, zi (a : Int)), (2, zi ty), (3, zi len)] [] := by
            intro n
            induction n with
            | zero =>
              intro k S1 w1 h1 h2 hR1 hF1
              have hR := hR1
              have hF := hF.tr hF1
              refine r_iload C d_Mo_array_70 rfl ?_
              refine r_bipush (v := Int32.ofInt 24) C d_Mo_array_72 (by decide) ?_
              refine zr_icmp_ge (tgt := 96) C d_Mo_array_74 (by decide) (by unfold zok; omega) (by unfold zok; omega) (fun c_74 => ?_) (fun c_74 => ?_)
              · refine r_iload_n C d_Mo_array_96 rfl rfl ?_
                rw [← hQ, ← hM]
                exact r_ireturn C d_Mo_array_97 rfl ⟨rfl, by rw [← h2]; exact hR, hF⟩
              · exact absurd c_74 (by omega)
            | succ n ih =>
              intro k S1 w1 h1 h2 hR1 hF1
              have hR := hR1
              have hF := hF.tr hF1
              refine r_iload C d_Mo_array_70 rfl ?_
              refine r_bipush (v := Int32.ofInt 24) C d_Mo_array_72 (by decide) ?_
              refine zr_icmp_ge (tgt := 96) C d_Mo_array_74 (by decide) (by unfold zok; omega) (by unfold zok; omega) (fun c_74 => ?_) (fun c_74 => ?_)
              · exact absurd c_74 (by omega)
              · refine r_aload_n C d_Mo_array_77 rfl rfl ?_
                refine g_Mo_16 C d_Mo_array_78 hR.1 (hR.arL 4 rfl) ?_
                refine r_bipush (v := Int32.ofInt 24) C d_Mo_array_81 (by decide) ?_
                refine r_iload_n C d_Mo_array_83 rfl rfl ?_
                refine zr_imul C d_Mo_array_84 ?_
                refine r_iload C d_Mo_array_85 rfl ?_
                refine zr_iadd C d_Mo_array_87 ?_
                refine r_lconst (v := 0) C d_Mo_array_88 (by decide) ?_
                refine zr_lastore (t := 0) (k := 24 * a + k) C d_Mo_array_89 (by decide) rfl (hR.kdL 4 rfl) (by omega) (by show 24 * a + k < 96; omega) (by decide) ?_
                refine mo_abL 4 hR rfl (fun w hR hF9 => ?_)
                have hF := hF.tr hF9
                refine zr_iinc (ls' := [(4, _), (0, _), (1, _), (2, _), (3, _)]) C d_Mo_array_90 rfl (by decide) rfl ?_
                refine r_goto (tgt := 70) C d_Mo_array_93 (by decide) ?_
                exact ih (k + 1) _ w (by omega) (by rw [← h2]; rfl) hR (hF1.tr hF9)
          exact loop 24 0 _ w (by omega) rfl hR MoF.rf
        · have nb : mBusy S (a : Int) := cI_1.mp ((cI_01 _).resolve_left c_44)
          rw [if_pos nb] at hM
          refine r_aload_n C d_Mo_array_47 rfl rfl ?_
          refine r_iconst C d_Mo_array_48 rfl ?_
          refine c_Mo_110 C d_Mo_array_49 hR.1 (m_raise 0 hR 2) (by omega) (Nat.le_of_ble_eq_true rfl) (moRet.k1 (fun w hR hF9 => ?_)) moRet.k2
          have hF := hF.tr hF9
          rw [← hQ, ← hM]
          exact r_ireturn C d_Mo_array_52 rfl ⟨rfl, hR, hF⟩
      · exact bad (fun q => by rw [bI_t q.2.2] at c_30; cases c_30)
noncomputable def mNoEl (S : Ms) (a i : Int) : Prop := ¬ (0 ≤ a ∧ a ≤ 3 ∧ 0 ≤ S.1 2 a.toNat ∧ 0 ≤ i ∧ i < S.1 3 a.toNat)
noncomputable def mSet (S : Ms) (a i : Int) (v : Int64) : Int64 × Ms :=
  @ite _ (mNoEl S a i) (Classical.propDecidable _) (0, sp (sp S 0 0 0) 0 0 1) (@ite _ (mBusy S a) (Classical.propDecidable _) (0, sp (sp S 0 0 0) 0 0 2) (keptF (S.1 2 a.toNat) v, sq (sp S 0 0 0) 4 (24 * a.toNat + i.toNat) (keptF (S.1 2 a.toNat) v)))
set_option maxRecDepth 20000 in
theorem m_set {G : fxG} (d : Nat) {S : Ms} {m : Nat} {w : fxW} (hR : MoR S m w) (hd1 : 2 ≤ d) (hB : Bi S) (a i : Int) (v : Int64) (ha : zok a) (hi : zok i) : fxM G d y_Mo_set [.ref m, zi a, zi i, .long v] w (moRet m w (.long (mSet S a i v).1) (mSet S a i v).2) := by
  refine fxM.of cc_Mo_set 5 (some .long) [] (by decide +kernel) w_Mo_set (Nat.le_of_ble_eq_true rfl) ?_
  intro x C ht hu
  generalize hM : mSet S a i v = MM
  unfold mSet at hM
  generalize hQ : moRet m w (.long MM.1) MM.2 = QQ
  have hF : MoF m w w := MoF.rf
  show fxR G 5 x _ w 0 [(0, .ref m), (1, zi a), (2, zi i), (3, .long v)] []
  refine r_aload_n C d_Mo_set_0 rfl rfl ?_
  refine r_iconst C d_Mo_set_1 rfl ?_
  refine p_Mo_96 C d_Mo_set_2 rfl rfl hR.1 ?_
  refine mo_abS 0 hR rfl (fun w hR hF9 => ?_)
  have hF := hF.tr hF9
  refine r_aload_n C d_Mo_set_5 rfl rfl ?_
  refine r_iload_n C d_Mo_set_6 rfl rfl ?_
  refine r_iload_n C d_Mo_set_7 rfl rfl ?_
  refine c_Mo_118 C d_Mo_set_8 hR.1 (m_noElement 1 hR a i ha hi (by omega) (fun j hj => (hB.az hj).1) (fun j hj => (hB.az hj).2)) (by omega) (Nat.le_of_ble_eq_true rfl) (fxPure.k1 ?_) fxPure.k2
  refine zr_if_eq (tgt := 21) C d_Mo_set_11 (by decide) (zok_c _) (fun c_11 => ?_) (fun c_11 => ?_)
  · have e : (0 ≤ a ∧ a ≤ 3 ∧ 0 ≤ S.1 2 a.toNat ∧ 0 ≤ i ∧ i < S.1 3 a.toNat) := Classical.byContradiction fun q => cI_0.mp c_11 q
    rw [if_neg (show ¬ mNoEl S a i from fun q => q e)] at hM
    obtain ⟨a, rfl⟩ := Int.eq_ofNat_of_zero_le e.1
    obtain ⟨i, rfl⟩ := Int.eq_ofNat_of_zero_le e.2.2.2.1
    simp only [Int.toNat_natCast] at hM e
    have b := hB.2.1 a (by omega)
    have b2 := b.2.1
    have b4 := b.2.2.2.1
    refine r_aload_n C d_Mo_set_21 rfl rfl ?_
    refine r_iload_n C d_Mo_set_22 rfl rfl ?_
    refine c_Mo_114 C d_Mo_set_23 hR.1 (m_busy 0 hR (a : Int) ha hB.2.2.1 (fun j hj => (hB.jz hj).1) (fun j hj => (hB.jz hj).2)) (by omega) (Nat.le_of_ble_eq_true rfl) (fxPure.k1 ?_) fxPure.k2
    refine zr_if_eq (tgt := 36) C d_Mo_set_26 (by decide) (zok_c _) (fun c_26 => ?_) (fun c_26 => ?_)
    · have nb : ¬ mBusy S (a : Int) := cI_0.mp c_26
      rw [if_neg nb] at hM
      have hz : zok ((sp S 0 0 0).1 2 a) := (hB.az (by omega)).1
      refine r_aload_n C d_Mo_set_36 rfl rfl ?_
      refine g_Mo_16 C d_Mo_set_37 hR.1 (hR.arL 4 rfl) ?_
      refine r_bipush (v := Int32.ofInt 24) C d_Mo_set_40 (by decide) ?_
      refine r_iload_n C d_Mo_set_42 rfl rfl ?_
      refine zr_imul C d_Mo_set_43 ?_
      refine r_iload_n C d_Mo_set_44 rfl rfl ?_
      refine zr_iadd C d_Mo_set_45 ?_
      refine r_aload_n C d_Mo_set_46 rfl rfl ?_
      refine g_Mo_7 C d_Mo_set_47 hR.1 (hR.ar 2 rfl) ?_
      refine r_iload_n C d_Mo_set_50 rfl rfl ?_
      refine zr_iaload (t := 1) (k := a) C d_Mo_set_51 (by decide) rfl (Or.inl (hR.kd 2 rfl)) (by omega) (by show a < 4; omega) (by decide) (hR.el 2 rfl (by show a < 4; omega)) ?_
      refine r_lload_n C d_Mo_set_52 rfl rfl ?_
      refine c_Mo_122 C d_Mo_set_53 (m_Mo_kept 0 w _ _ hz (by show 0 ≤ S.1 2 a; omega)) (by omega) (Nat.le_of_ble_eq_true rfl) (fxPure.k1 ?_) fxPure.k2
      refine zr_lastore (t := 0) (k := 24 * a + i) C d_Mo_set_56 (by decide) rfl (hR.kdL 4 rfl) (by omega) (by show 24 * a + i < 96; omega) (by decide) ?_
      refine mo_abL 4 hR rfl (fun w hR hF9 => ?_)
      have hF := hF.tr hF9
      refine r_aload_n C d_Mo_set_57 rfl rfl ?_
      refine g_Mo_16 C d_Mo_set_58 hR.1 (hR.arL 4 rfl) ?_
      refine r_bipush (v := Int32.ofInt 24) C d_Mo_set_61 (by decide) ?_
      refine r_iload_n C d_Mo_set_63 rfl rfl ?_
      refine zr_imul C d_Mo_set_64 ?_
      refine r_iload_n C d_Mo_set_65 rfl rfl ?_
      refine zr_iadd C d_Mo_set_66 ?_
      refine zr_laload (t := 0) (k := 24 * a + i) C d_Mo_set_67 (by decide) rfl (Or.inl (hR.kdL 4 rfl)) (by omega) (by show 24 * a + i < 96; omega) (by decide) (hR.elL 4 rfl (by show 24 * a + i < 96; omega)) ?_
      rw [sq_same, ← hQ, ← hM]
      exact r_lreturn C d_Mo_set_68 rfl ⟨rfl, hR, hF⟩
    · have nb : mBusy S (a : Int) := cI_1.mp ((cI_01 _).resolve_left c_26)
      rw [if_pos nb] at hM
      refine r_aload_n C d_Mo_set_29 rfl rfl ?_
      refine r_iconst C d_Mo_set_30 rfl ?_
      refine c_Mo_110 C d_Mo_set_31 hR.1 (m_raise 0 hR 2) (by omega) (Nat.le_of_ble_eq_true rfl) (moRet.k1 (fun w hR hF9 => ?_)) moRet.k2
      have hF := hF.tr hF9
      refine r_i2l C d_Mo_set_34 rfl ?_
      rw [← hQ, ← hM]
      exact r_lreturn C d_Mo_set_35 rfl ⟨rfl, hR, hF⟩
  · have e : mNoEl S a i := cI_1.mp ((cI_01 _).resolve_left c_11)
    rw [if_pos e] at hM
    refine r_aload_n C d_Mo_set_14 rfl rfl ?_
    refine r_iconst C d_Mo_set_15 rfl ?_
    refine c_Mo_110 C d_Mo_set_16 hR.1 (m_raise 0 hR 1) (by omega) (Nat.le_of_ble_eq_true rfl) (moRet.k1 (fun w hR hF9 => ?_)) moRet.k2
    have hF := hF.tr hF9
    refine r_i2l C d_Mo_set_19 rfl ?_
    rw [← hQ, ← hM]
    exact r_lreturn C d_Mo_set_20 rfl ⟨rfl, hR, hF⟩
noncomputable def mGet (S : Ms) (a i : Int) : Int64 × Ms :=
  @ite _ (mNoEl S a i) (Classical.propDecidable _) (0, sp (sp S 0 0 0) 0 0 1) (S.2 4 (24 * a.toNat + i.toNat), sp S 0 0 0)
set_option maxRecDepth 20000 in
theorem m_get {G : fxG} (d : Nat) {S : Ms} {m : Nat} {w : fxW} (hR : MoR S m w) (hd1 : 2 ≤ d) (hB : Bi S) (a i : Int) (ha : zok a) (hi : zok i) : fxM G d y_Mo_get [.ref m, zi a, zi i] w (moRet m w (.long (mGet S a i).1) (mGet S a i).2) := by
  refine fxM.of cc_Mo_get 3 (some .long) [] (by decide +kernel) w_Mo_get (Nat.le_of_ble_eq_true rfl) ?_
  intro x C ht hu
  generalize hM : mGet S a i = MM
  unfold mGet at hM
  generalize hQ : moRet m w (.long MM.1) MM.2 = QQ
  have hF : MoF m w w := MoF.rf
  show fxR G 3 x _ w 0 [(0, .ref m), (1, zi a), (2, zi i)] []
  refine r_aload_n C d_Mo_get_0 rfl rfl ?_
  refine r_iconst C d_Mo_get_1 rfl ?_
  refine p_Mo_96 C d_Mo_get_2 rfl rfl hR.1 ?_
  refine mo_abS 0 hR rfl (fun w hR hF9 => ?_)
  have hF := hF.tr hF9
  refine r_aload_n C d_Mo_get_5 rfl rfl ?_
  refine r_iload_n C d_Mo_get_6 rfl rfl ?_
  refine r_iload_n C d_Mo_get_7 rfl rfl ?_
  refine c_Mo_118 C d_Mo_get_8 hR.1 (m_noElement 1 hR a i ha hi (by omega) (fun j hj => (hB.az hj).1) (fun j hj => (hB.az hj).2)) (by omega) (Nat.le_of_ble_eq_true rfl) (fxPure.k1 ?_) fxPure.k2
  refine zr_if_eq (tgt := 23) C d_Mo_get_11 (by decide) (zok_c _) (fun c_11 => ?_) (fun c_11 => ?_)
  · have e : (0 ≤ a ∧ a ≤ 3 ∧ 0 ≤ S.1 2 a.toNat ∧ 0 ≤ i ∧ i < S.1 3 a.toNat) := Classical.byContradiction fun q => cI_0.mp c_11 q
    rw [if_neg (show ¬ mNoEl S a i from fun q => q e)] at hM
    obtain ⟨a, rfl⟩ := Int.eq_ofNat_of_zero_le e.1
    obtain ⟨i, rfl⟩ := Int.eq_ofNat_of_zero_le e.2.2.2.1
    simp only [Int.toNat_natCast] at hM e
    have b := hB.2.1 a (by omega)
    have b4 := b.2.2.2.1
    refine r_aload_n C d_Mo_get_23 rfl rfl ?_
    refine g_Mo_16 C d_Mo_get_24 hR.1 (hR.arL 4 rfl) ?_
    refine r_bipush (v := Int32.ofInt 24) C d_Mo_get_27 (by decide) ?_
    refine r_iload_n C d_Mo_get_29 rfl rfl ?_
    refine zr_imul C d_Mo_get_30 ?_
    refine r_iload_n C d_Mo_get_31 rfl rfl ?_
    refine zr_iadd C d_Mo_get_32 ?_
    refine zr_laload (t := 0) (k := 24 * a + i) C d_Mo_get_33 (by decide) rfl (Or.inl (hR.kdL 4 rfl)) (by omega) (by show 24 * a + i < 96; omega) (by decide) (hR.elL 4 rfl (by show 24 * a + i < 96; omega)) ?_
    rw [← hQ, ← hM]
    exact r_lreturn C d_Mo_get_34 rfl ⟨rfl, hR, hF⟩
  · have e : mNoEl S a i := cI_1.mp ((cI_01 _).resolve_left c_11)
    rw [if_pos e] at hM
    refine r_aload_n C d_Mo_get_14 rfl rfl ?_
    refine r_iconst C d_Mo_get_15 rfl ?_
    refine c_Mo_110 C d_Mo_get_16 hR.1 (m_raise 0 hR 1) (by omega) (Nat.le_of_ble_eq_true rfl) (moRet.k1 (fun w hR hF9 => ?_)) moRet.k2
    have hF := hF.tr hF9
    refine r_i2l C d_Mo_get_19 rfl ?_
    refine r_goto (tgt := 34) C d_Mo_get_20 (by decide) ?_
    rw [← hQ, ← hM]
    exact r_lreturn C d_Mo_get_34 rfl ⟨rfl, hR, hF⟩

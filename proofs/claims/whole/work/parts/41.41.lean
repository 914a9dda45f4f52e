/-! THE REFERENCE'S METHODS, VIII: turns -/
/-- there is room for what a step may put -/
def mRoom (S : Ms) : Prop := (∀ i, i < 4 → S.1 25 i + 2 ≤ 600) ∧ ∀ i, i < 4 → ∀ k : Nat, (k : Int) < S.1 25 i → S.1 13 (mOf S (S.1 24 (600 * i + k)).toNat) = 1 → 1 < S.1 17 (S.1 24 (600 * i + k)).toNat - S.1 16 (S.1 24 (600 * i + k)).toNat → S.1 23 0 + 2 ≤ 600
theorem vicF_succ (S : Ms) (v W n k : Nat) : vicF S v W (n + 1) k = if S.1 25 ((v + k) % W) = 0 then vicF S v W n (k + 1) else some ((v + k) % W) := rfl
theorem Bi_turn {S : Ms} (h : Bi S) (s : Int) : Bi (sp (sp S 32 0 ((S.1 32 0 + 1) % S.1 1 0)) 31 0 s) := by
  obtain ⟨h1, h2, h3, h4, h5, h6, h7, h8, h9, h10⟩ := h
  refine ⟨h1, h2, h3, h4, h5, h6, h7, h8, h9, ?_⟩
  show 0 ≤ (sp (sp S 32 0 ((S.1 32 0 + 1) % S.1 1 0)) 31 0 s).1 32 0 ∧ (sp (sp S 32 0 ((S.1 32 0 + 1) % S.1 1 0)) 31 0 s).1 32 0 < S.1 1 0
  rw [sp_k _ _ _ _ (by decide), sp_same]
  exact ⟨Int.emod_nonneg _ (by omega), Int.emod_lt_of_pos _ (by omega)⟩
theorem Bi_vic {S : Ms} (h : Bi S) (i v : Nat) (x : Int) (hv : (v : Int) < S.1 1 0) : Bi (sp (sp S 29 i v) 27 i x) := by
  obtain ⟨h1, h2, h3, h4, h5, h6, h7, h8, h9, h10⟩ := h
  refine ⟨h1, h2, h3, h4, h5, h6, h7, fun i' hi' => ?_, h9, h10⟩
  show 0 ≤ (sp (sp S 29 i v) 27 i x).1 29 i' ∧ (sp (sp S 29 i v) 27 i x).1 29 i' < S.1 1 0
  rw [sp_k _ _ _ _ (by decide)]
  by_cases e : i' = i
  · subst e; rw [sp_same]; omega
  · rw [sp_j _ _ _ e]; exact h8 i' hi'
set_option maxRecDepth 20000 in
theorem m_turns {G : fxG} (d : Nat) {S : Ms} {m : Nat} {w : fxW} (hR : MoR S m w) (hd1 : 5 ≤ d) (hB : Bi S) (hM : mRoom S) : fxM G d y_Mo_turns [.ref m] w (moRet m w (zi (bz (mTurns S).1)) (mTurns S).2) := by
  refine fxM.of cc_Mo_turns 4 (some .boolean) [] (by decide +kernel) w_Mo_turns (Nat.le_of_ble_eq_true rfl) ?_
  intro x C ht hu
  obtain ⟨⟨W1, W2⟩, -, -, -, -, -, hq, hv, ⟨g1, g2⟩, ⟨u1, u2⟩⟩ := id hB
  obtain ⟨W, hW⟩ := Int.eq_ofNat_of_zero_le (show 0 ≤ S.1 1 0 by omega)
  obtain ⟨i, hi⟩ := Int.eq_ofNat_of_zero_le u1
  obtain ⟨v1, v2⟩ := hv i (by omega)
  obtain ⟨v, hvi⟩ := Int.eq_ofNat_of_zero_le v1
  generalize hS1 : sp (sp S 32 0 ((S.1 32 0 + 1) % S.1 1 0)) 31 0 (S.1 31 0 + 1) = S1
  have k1 : ∀ c jj, c ≠ 31 → c ≠ 32 → S1.1 c jj = S.1 c jj := fun c jj h1 h2 => by rw [← hS1, sp_k _ _ _ _ h1, sp_k _ _ _ _ h2]
  have hB1 : Bi S1 := by rw [← hS1]; exact Bi_turn hB _
  have eT : mTurns S = if 0 < S.1 25 i then (true, mPerform (mPull S1 i ((S.1 25 i).toNat - 1)) (S.1 24 (600 * i + ((S.1 25 i).toNat - 1))).toNat i) else match vicF S1 v W W 1 with
      | some v => (true, mPerform (mPull (sp (sp S1 29 i v) 27 i (S.1 27 i + 1)) v 0) (S.1 24 (600 * v)).toNat i)
      | none => (false, sp S1 28 i (S.1 28 i + 1)) := by
    unfold mTurns; simp only; rw [hS1, hi, hW, Int.toNat_natCast, hvi]; rfl
  rw [eT]
  generalize hT : (if 0 < S.1 25 i then (true, mPerform (mPull S1 i ((S.1 25 i).toNat - 1)) (S.1 24 (600 * i + ((S.1 25 i).toNat - 1))).toNat i) else match vicF S1 v W W 1 with
      | some v => (true, mPerform (mPull (sp (sp S1 29 i v) 27 i (S.1 27 i + 1)) v 0) (S.1 24 (600 * v)).toNat i)
      | none => (false, sp S1 28 i (S.1 28 i + 1))) = TT
  generalize hQ : moRet m w (zi (bz TT.1)) TT.2 = QQ
  have c1 := k1 1 0 (by decide) (by decide)
  have c25 : ∀ i, S1.1 25 i = S.1 25 i := fun i => k1 25 i (by decide) (by decide)
  have loop : ∀ (n k : Nat) (w1 : fxW), k + n = W + 1 → ¬ 0 < S.1 25 i → vicF S1 v W n k = vicF S1 v W W 1 → MoR S1 m w1 → MoF m w w1 → fxR G 4 x (fxQ G x QQ) w1 61 [(2, zi (k : Int)), (1, zi (i : Int)), (0, .ref m)] [] := by
    intro n
    induction n with
    | zero =>
      intro k w h1 h0 h2 hR hF
      rw [if_neg h0, ← h2] at hT
      have e28 := k1 28 i (by decide) (by decide)
      refine r_iload_n C d_Mo_turns_61 rfl rfl ?_
      refine r_aload_n C d_Mo_turns_62 rfl rfl ?_
      refine g_Mo_93 C d_Mo_turns_63 hR.1 (hR.sc 1 rfl) ?_
      refine zr_icmp_gt (tgt := 131) C d_Mo_turns_66 (by decide) (by unfold zok; omega) (by unfold zok; omega) (fun c_66 => ?_) (fun c_66 => ?_)
      · refine r_aload_n C d_Mo_turns_131 rfl rfl ?_
        refine g_Mo_83 C d_Mo_turns_132 hR.1 (hR.ar 28 rfl) ?_
        refine r_iload_n C d_Mo_turns_135 rfl rfl ?_
        refine r_dup2 C d_Mo_turns_136 rfl rfl ?_
        refine zr_iaload (t := 1) (k := i) C d_Mo_turns_137 (by decide) rfl (Or.inl (hR.kd 28 rfl)) (by omega) (by show i < 4; omega) (by decide) (hR.el 28 rfl (by show i < 4; omega)) ?_
        refine r_iconst C d_Mo_turns_138 rfl ?_
        refine zr_iadd C d_Mo_turns_139 ?_
        refine zr_iastore (t := 1) (k := i) C d_Mo_turns_140 (by decide) rfl (hR.kd 28 rfl) (by omega) (by show i < 4; omega) (by decide) ?_
        refine mo_abI 28 hR rfl (fun w hR hF9 => ?_)
        have hF := hF.tr hF9
        refine r_iconst C d_Mo_turns_141 rfl ?_
        rw [← hQ]
        refine zr_zreturn C (Or.inl rfl) d_Mo_turns_142 ⟨by rw [← hT]; rfl, ?_, hF⟩
        rw [← hT]
        show MoR (sp S1 28 i (S.1 28 i + 1)) m w
        rw [← e28]; exact hR
      · exact absurd c_66 (by omega)
    | succ n ih =>
      intro k w h1 h0 h2 hR hF
      have e29 : S1.1 29 i = (v : Int) := by rw [k1 29 i (by decide) (by decide), hvi]
      have eW : S1.1 1 0 = (W : Int) := by rw [c1, hW]
      obtain ⟨v', hv'⟩ : ∃ v' : Nat, v' = (v + k) % W := ⟨_, rfl⟩
      have hv4 : v' < W := by rw [hv']; exact Nat.mod_lt _ (by omega)
      have ev : ((v : Int) + (k : Int)) % (W : Int) = (v' : Int) := by rw [hv']; norm_cast
      rw [vicF_succ, ← hv'] at h2
      refine r_iload_n C d_Mo_turns_61 rfl rfl ?_
      refine r_aload_n C d_Mo_turns_62 rfl rfl ?_
      refine g_Mo_93 C d_Mo_turns_63 hR.1 (hR.sc 1 rfl) ?_
      refine zr_icmp_gt (tgt := 131) C d_Mo_turns_66 (by decide) (by unfold zok; omega) (by unfold zok; omega) (fun c_66 => ?_) (fun c_66 => ?_)
      · exact absurd c_66 (by omega)
      · refine r_aload_n C d_Mo_turns_69 rfl rfl ?_
        refine g_Mo_86 C d_Mo_turns_70 hR.1 (hR.ar 29 rfl) ?_
        refine r_iload_n C d_Mo_turns_73 rfl rfl ?_
        refine zr_iaload (t := 1) (k := i) C d_Mo_turns_74 (by decide) rfl (Or.inl (hR.kd 29 rfl)) (by omega) (by show i < 4; omega) (by decide) (hR.el 29 rfl (by show i < 4; omega)) ?_
        rw [e29]
        refine r_iload_n C d_Mo_turns_75 rfl rfl ?_
        refine zr_iadd C d_Mo_turns_76 ?_
        refine r_aload_n C d_Mo_turns_77 rfl rfl ?_
        refine g_Mo_93 C d_Mo_turns_78 hR.1 (hR.sc 1 rfl) ?_
        rw [eW]
        refine zr_irem C d_Mo_turns_81 (by omega) (by unfold zok; omega) (by omega) (by unfold zok; omega) ?_
        rw [ev]
        have b := (hq v' (by omega)).1
        have b6 := (hq v' (by omega)).2.1
        refine r_istore_n (ls' := [(3, _), (2, _), (1, _), (0, _)]) C d_Mo_turns_82 rfl (by decide) rfl ?_
        refine r_aload_n C d_Mo_turns_83 rfl rfl ?_
        refine g_Mo_74 C d_Mo_turns_84 hR.1 (hR.ar 25 rfl) ?_
        refine r_iload_n C d_Mo_turns_87 rfl rfl ?_
        refine zr_iaload (t := 1) (k := v') C d_Mo_turns_88 (by decide) rfl (Or.inl (hR.kd 25 rfl)) (by omega) (by show v' < 4; omega) (by decide) (hR.el 25 rfl (by show v' < 4; omega)) ?_
        refine zr_if_ne (tgt := 95) C d_Mo_turns_89 (by decide) (by rw [c25]; unfold zok; omega) (fun c_89 => ?_) (fun c_89 => ?_)
        · rw [if_neg c_89] at h2
          rw [if_neg h0, ← h2] at hT
          rw [c25] at c_89
          have hc := (hq v' (by omega)).2.2 0 (by omega)
          obtain ⟨t, ht1⟩ := Int.eq_ofNat_of_zero_le hc.1
          have e24 : S1.1 24 (600 * v' + 0) = (t : Int) := by rw [k1 24 _ (by decide) (by decide)]; exact ht1
          have e27 := k1 27 i (by decide) (by decide)
          refine r_aload_n C d_Mo_turns_95 rfl rfl ?_
          refine g_Mo_86 C d_Mo_turns_96 hR.1 (hR.ar 29 rfl) ?_
          refine r_iload_n C d_Mo_turns_99 rfl rfl ?_
          refine r_iload_n C d_Mo_turns_100 rfl rfl ?_
          refine zr_iastore (t := 1) (k := i) C d_Mo_turns_101 (by decide) rfl (hR.kd 29 rfl) (by omega) (by show i < 4; omega) (by decide) ?_
          refine mo_abI 29 hR rfl (fun w hR hF9 => ?_)
          have hF := hF.tr hF9
          refine r_aload_n C d_Mo_turns_102 rfl rfl ?_
          refine g_Mo_80 C d_Mo_turns_103 hR.1 (hR.ar 27 rfl) ?_
          refine r_iload_n C d_Mo_turns_106 rfl rfl ?_
          refine r_dup2 C d_Mo_turns_107 rfl rfl ?_
          refine zr_iaload (t := 1) (k := i) C d_Mo_turns_108 (by decide) rfl (Or.inl (hR.kd 27 rfl)) (by omega) (by show i < 4; omega) (by decide) (hR.el 27 rfl (by show i < 4; omega)) ?_
          refine r_iconst C d_Mo_turns_109 rfl ?_
          refine zr_iadd C d_Mo_turns_110 ?_
          refine zr_iastore (t := 1) (k := i) C d_Mo_turns_111 (by decide) rfl (hR.kd 27 rfl) (by omega) (by show i < 4; omega) (by decide) ?_
          refine mo_abI 27 hR rfl (fun w hR hF9 => ?_)
          have hF := hF.tr hF9
          rw [show (sp S1 29 i v').1 27 i = S.1 27 i by rw [sp_k _ _ _ _ (by decide)]; exact e27] at hR
          have hB2 : Bi (sp (sp S1 29 i v') 27 i (S.1 27 i + 1)) := Bi_vic hB1 i v' _ (by rw [c1]; omega)
          have k2 : ∀ c jj, c ≠ 29 → c ≠ 27 → c ≠ 31 → c ≠ 32 → (sp (sp S1 29 i v') 27 i (S.1 27 i + 1)).1 c jj = S.1 c jj := fun c jj a1 a2 a3 a4 => by rw [sp_k _ _ _ _ a2, sp_k _ _ _ _ a1, k1 c jj a3 a4]
          have q25 := k2 25 v' (by decide) (by decide) (by decide) (by decide)
          refine r_aload_n C d_Mo_turns_112 rfl rfl ?_
          refine r_aload_n C d_Mo_turns_113 rfl rfl ?_
          refine r_iload_n C d_Mo_turns_114 rfl rfl ?_
          refine r_iconst C d_Mo_turns_115 rfl ?_
          refine c_Mo_126 C d_Mo_turns_116 hR.1 (m_pull 0 hR v' 0 (S.1 25 v').toNat (by omega) (by omega) (by omega) (by omega)) (by omega) (Nat.le_of_ble_eq_true rfl) (moRet.k1 (fun w hR hF9 => ?_)) moRet.k2
          have hF := hF.tr hF9
          have hB3 := Bi_pull (i := v') (k := 0) (q := (S.1 25 v').toNat) hB2 (by omega) (by omega) (by omega)
          have k3 : ∀ c jj, c ≠ 24 → c ≠ 25 → c ≠ 29 → c ≠ 27 → c ≠ 31 → c ≠ 32 → (mPull (sp (sp S1 29 i v') 27 i (S.1 27 i + 1)) v' 0).1 c jj = S.1 c jj := fun c jj z1 z2 a1 a2 a3 a4 => by rw [mPull_k c jj z1 z2, k2 c jj a1 a2 a3 a4]
          have hqi := hM.1 i (by omega)
          have hqi' : (mPull (sp (sp S1 29 i v') 27 i (S.1 27 i + 1)) v' 0).1 25 i ≤ S.1 25 i := by
            rw [mPull_25]; split
            · rename_i z; subst z; omega
            · rw [k2 25 i (by decide) (by decide) (by decide) (by decide)]; exact Int.le_refl _
          rw [show (sp (sp S1 29 i v') 27 i (S.1 27 i + 1)).1 24 (600 * v' + 0) = (t : Int) by rw [k2 24 _ (by decide) (by decide) (by decide) (by decide)]; exact ht1]
          refine r_iload_n C d_Mo_turns_119 rfl rfl ?_
          refine c_Mo_189 C d_Mo_turns_120 hR.1 (m_perform 4 hR t i (by omega) hB3 (by rw [k3 23 0 (by decide) (by decide) (by decide) (by decide) (by decide) (by decide)]; omega) (by omega) (by omega) (fun a1 a2 => by rw [k3 23 0 (by decide) (by decide) (by decide) (by decide) (by decide) (by decide)]; refine hM.2 v' (by omega) 0 (by omega) ?_ ?_ <;> (try unfold mOf at a1 ⊢) <;> rw [ht1, Int.toNat_natCast] <;> simp only [k3 13 _ (by decide) (by decide) (by decide) (by decide) (by decide) (by decide), k3 15 _ (by decide) (by decide) (by decide) (by decide) (by decide) (by decide), k3 30 _ (by decide) (by decide) (by decide) (by decide) (by decide) (by decide), k3 16 _ (by decide) (by decide) (by decide) (by decide) (by decide) (by decide), k3 17 _ (by decide) (by decide) (by decide) (by decide) (by decide) (by decide)] at a1 a2 ⊢ <;> first | exact a1 | omega)) (by omega) (Nat.le_of_ble_eq_true rfl) (moVoid.k1 (fun w hR hF9 => ?_)) moVoid.k2
          have hF := hF.tr hF9
          refine r_iconst C d_Mo_turns_123 rfl ?_
          rw [← hQ]
          refine zr_zreturn C (Or.inr rfl) d_Mo_turns_124 ⟨by rw [← hT]; rfl, ?_, hF⟩
          rw [← hT]
          show MoR (mPerform _ (S.1 24 (600 * v')).toNat i) m w
          rw [show S.1 24 (600 * v') = (t : Int) from ht1]
          exact hR
        · rw [if_pos c_89] at h2
          refine r_goto (tgt := 125) C d_Mo_turns_92 (by decide) ?_
          refine zr_iinc (ls' := [(2, _), (3, _), (1, _), (0, _)]) C d_Mo_turns_125 rfl (by decide) rfl ?_
          refine r_goto (tgt := 61) C d_Mo_turns_128 (by decide) ?_
          refine fx_sub (ls' := [(2, zi ((k + 1 : Nat) : Int)), (1, zi (i : Int)), (0, .ref m)]) (by simp [fxL]) ?_
          exact ih (k + 1) w (by omega) h0 h2 hR hF
  have hF : MoF m w w := MoF.rf
  show fxR G 4 x _ w 0 [(0, .ref m)] []
  refine r_aload_n C d_Mo_turns_0 rfl rfl ?_
  refine g_Mo_183 C d_Mo_turns_1 hR.1 (hR.sc 32 rfl) ?_
  rw [hi]
  refine r_istore_n (ls' := [(1, _), (0, _)]) C d_Mo_turns_4 rfl (by decide) rfl ?_
  refine r_aload_n C d_Mo_turns_5 rfl rfl ?_
  refine r_aload_n C d_Mo_turns_6 rfl rfl ?_
  refine g_Mo_183 C d_Mo_turns_7 hR.1 (hR.sc 32 rfl) ?_
  refine r_iconst C d_Mo_turns_10 rfl ?_
  refine zr_iadd C d_Mo_turns_11 ?_
  refine r_aload_n C d_Mo_turns_12 rfl rfl ?_
  refine g_Mo_93 C d_Mo_turns_13 hR.1 (hR.sc 1 rfl) ?_
  refine zr_irem C d_Mo_turns_16 (by omega) (by unfold zok; omega) (by omega) (by unfold zok; omega) ?_
  refine p_Mo_183 C d_Mo_turns_17 rfl rfl hR.1 ?_
  refine mo_abS 32 hR rfl (fun w hR hF9 => ?_)
  have hF := hF.tr hF9
  refine r_aload_n C d_Mo_turns_20 rfl rfl ?_
  refine r_dup C d_Mo_turns_21 rfl ?_
  refine g_Mo_186 C d_Mo_turns_22 hR.1 (hR.sc 31 rfl) ?_
  refine r_iconst C d_Mo_turns_25 rfl ?_
  refine zr_iadd C d_Mo_turns_26 ?_
  refine p_Mo_186 C d_Mo_turns_27 rfl rfl hR.1 ?_
  refine mo_abS 31 hR rfl (fun w hR hF9 => ?_)
  have hF := hF.tr hF9
  rw [show (sp S 32 0 ((S.1 32 0 + 1) % S.1 1 0)).1 31 0 = S.1 31 0 from sp_k _ _ _ _ (by decide), hS1] at hR
  have b := (hq i (by omega)).1
  have b6 := (hq i (by omega)).2.1
  refine r_aload_n C d_Mo_turns_30 rfl rfl ?_
  refine g_Mo_74 C d_Mo_turns_31 hR.1 (hR.ar 25 rfl) ?_
  refine r_iload_n C d_Mo_turns_34 rfl rfl ?_
  refine zr_iaload (t := 1) (k := i) C d_Mo_turns_35 (by decide) rfl (Or.inl (hR.kd 25 rfl)) (by omega) (by show i < 4; omega) (by decide) (hR.el 25 rfl (by show i < 4; omega)) ?_
  refine zr_if_le (tgt := 59) C d_Mo_turns_36 (by decide) (by rw [c25]; unfold zok; omega) (fun c_36 => ?_) (fun c_36 => ?_)
  · refine r_iconst C d_Mo_turns_59 rfl ?_
    refine r_istore_n (ls' := [(2, _), (1, _), (0, _)]) C d_Mo_turns_60 rfl (by decide) rfl ?_
    exact loop W 1 w (by omega) (by rw [c25] at c_36; omega) rfl hR hF
  · rw [c25] at c_36
    rw [if_pos (by omega)] at hT
    obtain ⟨k, hk⟩ : ∃ k : Nat, S.1 25 i = ((k + 1 : Nat) : Int) := ⟨(S.1 25 i).toNat - 1, by omega⟩
    have ek : (S.1 25 i).toNat - 1 = k := by omega
    have hc := (hq i (by omega)).2.2 k (by omega)
    obtain ⟨t, ht1⟩ := Int.eq_ofNat_of_zero_le hc.1
    refine r_aload_n C d_Mo_turns_39 rfl rfl ?_
    refine r_aload_n C d_Mo_turns_40 rfl rfl ?_
    refine r_iload_n C d_Mo_turns_41 rfl rfl ?_
    refine r_aload_n C d_Mo_turns_42 rfl rfl ?_
    refine g_Mo_74 C d_Mo_turns_43 hR.1 (hR.ar 25 rfl) ?_
    refine r_iload_n C d_Mo_turns_46 rfl rfl ?_
    refine zr_iaload (t := 1) (k := i) C d_Mo_turns_47 (by decide) rfl (Or.inl (hR.kd 25 rfl)) (by omega) (by show i < 4; omega) (by decide) (hR.el 25 rfl (by show i < 4; omega)) ?_
    refine r_iconst C d_Mo_turns_48 rfl ?_
    refine zr_isub C d_Mo_turns_49 ?_
    rw [c25, hk, show ((k + 1 : Nat) : Int) - 1 = (k : Int) by omega]
    refine c_Mo_126 C d_Mo_turns_50 hR.1 (m_pull 0 hR i k (k + 1) (by omega) (by rw [c25]; exact hk) (by omega) (by omega)) (by omega) (Nat.le_of_ble_eq_true rfl) (moRet.k1 (fun w hR hF9 => ?_)) moRet.k2
    have hF := hF.tr hF9
    have hB3 := Bi_pull (i := i) (k := k) (q := k + 1) hB1 (by omega) (by rw [c25]; exact hk) (by omega)
    have k3 : ∀ c jj, c ≠ 24 → c ≠ 25 → c ≠ 31 → c ≠ 32 → (mPull S1 i k).1 c jj = S.1 c jj := fun c jj z1 z2 a3 a4 => by rw [mPull_k c jj z1 z2, k1 c jj a3 a4]
    have hqi := hM.1 i (by omega)
    have hqi' : (mPull S1 i k).1 25 i ≤ S.1 25 i := by rw [mPull_25, if_pos rfl, c25]; omega
    rw [show S1.1 24 (600 * i + k) = (t : Int) by rw [k1 24 _ (by decide) (by decide)]; exact ht1]
    refine r_iload_n C d_Mo_turns_53 rfl rfl ?_
    refine c_Mo_189 C d_Mo_turns_54 hR.1 (m_perform 4 hR t i (by omega) hB3 (by rw [k3 23 0 (by decide) (by decide) (by decide) (by decide)]; omega) (by omega) (by omega) (fun a1 a2 => by rw [k3 23 0 (by decide) (by decide) (by decide) (by decide)]; refine hM.2 i (by omega) k (by omega) ?_ ?_ <;> (try unfold mOf at a1 ⊢) <;> rw [ht1, Int.toNat_natCast] <;> simp only [k3 13 _ (by decide) (by decide) (by decide) (by decide), k3 15 _ (by decide) (by decide) (by decide) (by decide), k3 30 _ (by decide) (by decide) (by decide) (by decide), k3 16 _ (by decide) (by decide) (by decide) (by decide), k3 17 _ (by decide) (by decide) (by decide) (by decide)] at a1 a2 ⊢ <;> first | exact a1 | omega)) (by omega) (Nat.le_of_ble_eq_true rfl) (moVoid.k1 (fun w hR hF9 => ?_)) moVoid.k2
    have hF := hF.tr hF9
    refine r_iconst C d_Mo_turns_57 rfl ?_
    rw [← hQ]
    refine zr_zreturn C (Or.inr rfl) d_Mo_turns_58 ⟨by rw [← hT]; rfl, ?_, hF⟩
    rw [← hT]
    show MoR (mPerform _ (S.1 24 (600 * i + ((S.1 25 i).toNat - 1))).toNat i) m w
    rw [ek, ht1]
    exact hR

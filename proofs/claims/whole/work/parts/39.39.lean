/-! THE REFERENCE'S METHODS, VI: fork -/
theorem mNode_c (S : Ms) (j lo hi ab : Int) (c t : Nat) (h : (t : Int) < S.1 23 0) (hc : c ≠ 23) : (mNode S j lo hi ab).1 c t = S.1 c t := by
  unfold mNode
  show (sp (sp (sp (sp (sp (sp (sp S 23 0 _) 15 _ j) 16 _ lo) 17 _ hi) 18 _ ab) 19 _ (-1)) 20 _ 0).1 c t = S.1 c t
  have q : ∀ (S' : Ms) (k : Nat) (v : Int), (sp S' k (S.1 23 0).toNat v).1 c t = S'.1 c t := fun S' k v => by
    by_cases e : c = k
    · subst e; exact sp_j _ _ _ (by omega)
    · exact sp_k _ _ _ _ e
  rw [q, q, q, q, q, q, sp_k _ _ _ _ hc]
theorem mNode_o (S : Ms) (j lo hi ab : Int) (c t : Nat) (h : c ≠ 23 ∧ c ≠ 15 ∧ c ≠ 16 ∧ c ≠ 17 ∧ c ≠ 18 ∧ c ≠ 19 ∧ c ≠ 20) : (mNode S j lo hi ab).1 c t = S.1 c t := by
  unfold mNode
  show (sp (sp (sp (sp (sp (sp (sp S 23 0 _) 15 _ j) 16 _ lo) 17 _ hi) 18 _ ab) 19 _ (-1)) 20 _ 0).1 c t = S.1 c t
  rw [sp_k _ _ _ _ (by omega), sp_k _ _ _ _ (by omega), sp_k _ _ _ _ (by omega), sp_k _ _ _ _ (by omega), sp_k _ _ _ _ (by omega), sp_k _ _ _ _ (by omega), sp_k _ _ _ _ (by omega)]
theorem mNode_23 (S : Ms) (j lo hi ab : Int) : (mNode S j lo hi ab).1 23 0 = S.1 23 0 + 1 := by
  unfold mNode
  show (sp (sp (sp (sp (sp (sp (sp S 23 0 (S.1 23 0 + 1)) 15 (S.1 23 0).toNat j) 16 (S.1 23 0).toNat lo) 17 (S.1 23 0).toNat hi) 18 (S.1 23 0).toNat ab) 19 (S.1 23 0).toNat (-1)) 20 (S.1 23 0).toNat 0).1 23 0 = _
  rw [sp_k _ _ _ _ (by omega), sp_k _ _ _ _ (by omega), sp_k _ _ _ _ (by omega), sp_k _ _ _ _ (by omega), sp_k _ _ _ _ (by omega), sp_k _ _ _ _ (by omega), sp_same]
set_option maxRecDepth 20000 in
theorem m_fork {G : fxG} (d : Nat) {S : Ms} {m : Nat} {w : fxW} (hR : MoR S m w) (t i : Nat) (hd1 : 2 ≤ d) (hB : Bi S) (ht9 : (t : Int) < S.1 23 0) (hi4 : i < 4) (hq : S.1 25 i + 2 ≤ 600) (hr1 : S.1 13 (mOf S t) = 1 → S.1 23 0 + 2 ≤ 600) (hr2 : ¬ S.1 13 (mOf S t) = 1 → 0 ≤ S.1 19 t) : fxM G d y_Mo_fork [.ref m, zi (t : Int), zi (i : Int)] w (moVoid m w (mFork S t i)) := by
  refine fxM.of cc_Mo_fork 5 none [] (by decide +kernel) w_Mo_fork (Nat.le_of_ble_eq_true rfl) ?_
  intro x C ht hu
  have hT6 := hB.2.2.2.2.1.2
  have hJ := hB.2.2.1.2
  obtain ⟨b1, b2, b3, b4, b5, b6, b7, b8, b9, b10, b11⟩ := hB.2.2.2.2.2.1 t ht9
  obtain ⟨j, hj⟩ := Int.eq_ofNat_of_zero_le b1
  have hjn : (j : Int) < S.1 14 0 := by omega
  obtain ⟨j1, j2, j3, j4, j5, j6, j7, j8, j9, j10, j11, j12⟩ := hB.2.2.2.1 j hjn
  obtain ⟨o, ho⟩ := Int.eq_ofNat_of_zero_le j3
  have ho5 := (hB.2.1 o (by omega)).2.1
  have ho6 : 0 ≤ S.1 2 o := by rw [ho] at j5; exact j5
  have hq0 := (hB.2.2.2.2.2.2.1 i hi4).1
  have eO : mOf S t = j := by unfold mOf; rw [hj]; rfl
  rw [eO] at hr1 hr2
  obtain ⟨n0, hn0⟩ := Int.eq_ofNat_of_zero_le (show 0 ≤ S.1 23 0 by omega)
  obtain ⟨q, hq1⟩ := Int.eq_ofNat_of_zero_le hq0
  generalize hQ : moVoid m w (mFork S t i) = QQ
  have tail : ∀ (w1 : fxW) (ch : Nat), (mFork1 S t).1 19 t = (ch : Int) → (mFork1 S t).1 25 i = (q : Int) → MoR (mFork1 S t) m w1 → MoF m w w1 → fxR G 5 x (fxQ G x QQ) w1 124 [(4, zi (mMid S t)), (3, zi (j : Int)), (0, .ref m), (1, zi (t : Int)), (2, zi (i : Int))] [] := by
    intro w ch hch h25 hR hF
    have e19 : (sp (mFork1 S t) 20 t 0).1 19 t = (ch : Int) := by rw [sp_k _ _ _ _ (by decide)]; exact hch
    have e25 : (sp (mFork1 S t) 20 t 0).1 25 i = (q : Int) := by rw [sp_k _ _ _ _ (by decide)]; exact h25
    have eP : ∀ v, mPut (sp (mFork1 S t) 20 t 0) i v = sp (sp (sp (mFork1 S t) 20 t 0) 24 (600 * i + q) v) 25 i ((q : Int) + 1) := fun v => by unfold mPut; rw [e25]; rfl
    refine r_aload_n C d_Mo_fork_124 rfl rfl ?_
    refine g_Mo_62 C d_Mo_fork_125 hR.1 (hR.ar 20 rfl) ?_
    refine r_iload_n C d_Mo_fork_128 rfl rfl ?_
    refine r_iconst C d_Mo_fork_129 rfl ?_
    refine zr_iastore (t := 1) (k := t) C d_Mo_fork_130 (by decide) rfl (hR.kd 20 rfl) (by omega) (by show t < 600; omega) (by decide) ?_
    refine mo_abI 20 hR rfl (fun w hR hF9 => ?_)
    have hF := hF.tr hF9
    refine r_aload_n C d_Mo_fork_131 rfl rfl ?_
    refine r_iload_n C d_Mo_fork_132 rfl rfl ?_
    refine r_aload_n C d_Mo_fork_133 rfl rfl ?_
    refine g_Mo_59 C d_Mo_fork_134 hR.1 (hR.ar 19 rfl) ?_
    refine r_iload_n C d_Mo_fork_137 rfl rfl ?_
    refine zr_iaload (t := 1) (k := t) C d_Mo_fork_138 (by decide) rfl (Or.inl (hR.kd 19 rfl)) (by omega) (by show t < 600; omega) (by decide) (hR.el 19 rfl (by show t < 600; omega)) ?_
    rw [e19]
    refine r_iconst C d_Mo_fork_139 rfl ?_
    refine zr_iadd C d_Mo_fork_140 ?_
    refine c_Mo_137 C d_Mo_fork_141 hR.1 (m_put 0 hR i q _ hi4 e25 (by omega)) (by omega) (Nat.le_of_ble_eq_true rfl) (moVoid.k1 (fun w hR hF9 => ?_)) moVoid.k2
    have hF := hF.tr hF9
    refine r_aload_n C d_Mo_fork_144 rfl rfl ?_
    refine r_iload_n C d_Mo_fork_145 rfl rfl ?_
    refine r_aload_n C d_Mo_fork_146 rfl rfl ?_
    refine g_Mo_59 C d_Mo_fork_147 hR.1 (hR.ar 19 rfl) ?_
    refine r_iload_n C d_Mo_fork_150 rfl rfl ?_
    refine zr_iaload (t := 1) (k := t) C d_Mo_fork_151 (by decide) rfl (Or.inl (hR.kd 19 rfl)) (by omega) (by show t < 600; omega) (by decide) (hR.el 19 rfl (by show t < 600; omega)) ?_
    rw [show (mPut (sp (mFork1 S t) 20 t 0) i ((ch : Int) + 1)).1 19 t = (ch : Int) by rw [eP, sp_k _ _ _ _ (by decide), sp_k _ _ _ _ (by decide)]; exact e19]
    refine c_Mo_137 C d_Mo_fork_152 hR.1 (m_put 0 hR i (q + 1) _ hi4 (by rw [eP, sp_same]; omega) (by omega)) (by omega) (Nat.le_of_ble_eq_true rfl) (moVoid.k1 (fun w hR hF9 => ?_)) moVoid.k2
    have hF := hF.tr hF9
    rw [← hQ]
    exact r_return C d_Mo_fork_155 rfl ⟨rfl, by unfold mFork; simp only; rw [e19]; exact hR, hF⟩
  have hF : MoF m w w := MoF.rf
  show fxR G 5 x _ w 0 [(0, .ref m), (1, zi (t : Int)), (2, zi (i : Int))] []
  refine r_aload_n C d_Mo_fork_0 rfl rfl ?_
  refine g_Mo_47 C d_Mo_fork_1 hR.1 (hR.ar 15 rfl) ?_
  refine r_iload_n C d_Mo_fork_4 rfl rfl ?_
  refine zr_iaload (t := 1) (k := t) C d_Mo_fork_5 (by decide) rfl (Or.inl (hR.kd 15 rfl)) (by omega) (by show t < 600; omega) (by decide) (hR.el 15 rfl (by show t < 600; omega)) ?_
  rw [hj]
  refine r_istore_n (ls' := [(3, _), (0, _), (1, _), (2, _)]) C d_Mo_fork_6 rfl (by decide) rfl ?_
  refine r_aload_n C d_Mo_fork_7 rfl rfl ?_
  refine g_Mo_50 C d_Mo_fork_8 hR.1 (hR.ar 16 rfl) ?_
  refine r_iload_n C d_Mo_fork_11 rfl rfl ?_
  refine zr_iaload (t := 1) (k := t) C d_Mo_fork_12 (by decide) rfl (Or.inl (hR.kd 16 rfl)) (by omega) (by show t < 600; omega) (by decide) (hR.el 16 rfl (by show t < 600; omega)) ?_
  refine r_aload_n C d_Mo_fork_13 rfl rfl ?_
  refine g_Mo_53 C d_Mo_fork_14 hR.1 (hR.ar 17 rfl) ?_
  refine r_iload_n C d_Mo_fork_17 rfl rfl ?_
  refine zr_iaload (t := 1) (k := t) C d_Mo_fork_18 (by decide) rfl (Or.inl (hR.kd 17 rfl)) (by omega) (by show t < 600; omega) (by decide) (hR.el 17 rfl (by show t < 600; omega)) ?_
  refine zr_iadd C d_Mo_fork_19 ?_
  refine r_iconst C d_Mo_fork_20 rfl ?_
  refine zr_idiv C d_Mo_fork_21 (by omega) (by unfold zok; omega) (by omega) (by unfold zok; omega) ?_
  refine r_istore (ls' := [(4, _), (3, _), (0, _), (1, _), (2, _)]) C d_Mo_fork_22 (by decide) rfl ?_
  rw [show (S.1 16 t + S.1 17 t) / 2 = mMid S t from rfl]
  refine r_aload_n C d_Mo_fork_24 rfl rfl ?_
  refine g_Mo_44 C d_Mo_fork_25 hR.1 (hR.ar 13 rfl) ?_
  refine r_iload_n C d_Mo_fork_28 rfl rfl ?_
  refine zr_iaload (t := 1) (k := j) C d_Mo_fork_29 (by decide) rfl (Or.inl (hR.kd 13 rfl)) (by omega) (by show j < 12; omega) (by decide) (hR.el 13 rfl (by show j < 12; omega)) ?_
  refine r_iconst C d_Mo_fork_30 rfl ?_
  refine zr_icmp_ne (tgt := 72) C d_Mo_fork_31 (by decide) (by unfold zok; omega) (by unfold zok; omega) (fun c_31 => ?_) (fun c_31 => ?_)
  · have e1 : mFork1 S t = sq (sq S 22 (S.1 19 t).toNat (S.2 22 t)) 22 ((S.1 19 t).toNat + 1) (joinF S j (S.2 22 t) (S.2 21 (S.1 19 t).toNat)) := by unfold mFork1; rw [eO, if_neg c_31]
    have c0 := hr2 c_31
    obtain ⟨ch, hch⟩ := Int.eq_ofNat_of_zero_le c0
    rw [hch, Int.toNat_natCast] at e1
    refine r_aload_n C d_Mo_fork_72 rfl rfl ?_
    refine g_Mo_68 C d_Mo_fork_73 hR.1 (hR.arL 22 rfl) ?_
    refine r_aload_n C d_Mo_fork_76 rfl rfl ?_
    refine g_Mo_59 C d_Mo_fork_77 hR.1 (hR.ar 19 rfl) ?_
    refine r_iload_n C d_Mo_fork_80 rfl rfl ?_
    refine zr_iaload (t := 1) (k := t) C d_Mo_fork_81 (by decide) rfl (Or.inl (hR.kd 19 rfl)) (by omega) (by show t < 600; omega) (by decide) (hR.el 19 rfl (by show t < 600; omega)) ?_
    rw [hch]
    refine r_aload_n C d_Mo_fork_82 rfl rfl ?_
    refine g_Mo_68 C d_Mo_fork_83 hR.1 (hR.arL 22 rfl) ?_
    refine r_iload_n C d_Mo_fork_86 rfl rfl ?_
    refine zr_laload (t := 0) (k := t) C d_Mo_fork_87 (by decide) rfl (Or.inl (hR.kdL 22 rfl)) (by omega) (by show t < 600; omega) (by decide) (hR.elL 22 rfl (by show t < 600; omega)) ?_
    refine zr_lastore (t := 0) (k := ch) C d_Mo_fork_88 (by decide) rfl (hR.kdL 22 rfl) (by omega) (by show ch < 600; omega) (by decide) ?_
    refine mo_abL 22 hR rfl (fun w hR hF9 => ?_)
    have hF := hF.tr hF9
    have hne : ch ≠ t := by omega
    refine r_aload_n C d_Mo_fork_89 rfl rfl ?_
    refine g_Mo_68 C d_Mo_fork_90 hR.1 (hR.arL 22 rfl) ?_
    refine r_aload_n C d_Mo_fork_93 rfl rfl ?_
    refine g_Mo_59 C d_Mo_fork_94 hR.1 (hR.ar 19 rfl) ?_
    refine r_iload_n C d_Mo_fork_97 rfl rfl ?_
    refine zr_iaload (t := 1) (k := t) C d_Mo_fork_98 (by decide) rfl (Or.inl (hR.kd 19 rfl)) (by omega) (by show t < 600; omega) (by decide) (hR.el 19 rfl (by show t < 600; omega)) ?_
    rw [show (sq S 22 ch (S.2 22 t)).1 19 t = (ch : Int) from hch]
    refine r_iconst C d_Mo_fork_99 rfl ?_
    refine zr_iadd C d_Mo_fork_100 ?_
    refine r_aload_n C d_Mo_fork_101 rfl rfl ?_
    refine r_iload_n C d_Mo_fork_102 rfl rfl ?_
    refine r_aload_n C d_Mo_fork_103 rfl rfl ?_
    refine g_Mo_68 C d_Mo_fork_104 hR.1 (hR.arL 22 rfl) ?_
    refine r_iload_n C d_Mo_fork_107 rfl rfl ?_
    refine zr_laload (t := 0) (k := t) C d_Mo_fork_108 (by decide) rfl (Or.inl (hR.kdL 22 rfl)) (by omega) (by show t < 600; omega) (by decide) (hR.elL 22 rfl (by show t < 600; omega)) ?_
    refine r_aload_n C d_Mo_fork_109 rfl rfl ?_
    refine g_Mo_65 C d_Mo_fork_110 hR.1 (hR.arL 21 rfl) ?_
    refine r_aload_n C d_Mo_fork_113 rfl rfl ?_
    refine g_Mo_59 C d_Mo_fork_114 hR.1 (hR.ar 19 rfl) ?_
    refine r_iload_n C d_Mo_fork_117 rfl rfl ?_
    refine zr_iaload (t := 1) (k := t) C d_Mo_fork_118 (by decide) rfl (Or.inl (hR.kd 19 rfl)) (by omega) (by show t < 600; omega) (by decide) (hR.el 19 rfl (by show t < 600; omega)) ?_
    rw [show (sq S 22 ch (S.2 22 t)).1 19 t = (ch : Int) from hch, sq_j _ _ _ (by omega)]
    refine zr_laload (t := 0) (k := ch) C d_Mo_fork_119 (by decide) rfl (Or.inl (hR.kdL 21 rfl)) (by omega) (by show ch < 600; omega) (by decide) (hR.elL 21 rfl (by show ch < 600; omega)) ?_
    refine c_Mo_149 C d_Mo_fork_120 hR.1 (m_joined 1 hR j o _ _ (by omega) (by omega) (by show zok (S.1 5 j); unfold zok; omega) ho (by omega) (by show zok (S.1 2 o); unfold zok; omega) ho6) (by omega) (Nat.le_of_ble_eq_true rfl) (fxPure.k1 ?_) fxPure.k2
    refine zr_lastore (t := 0) (k := ch + 1) C d_Mo_fork_123 (by decide) rfl (hR.kdL 22 rfl) (by omega) (by show ch + 1 < 600; omega) (by decide) ?_
    refine mo_abL 22 hR rfl (fun w hR hF9 => ?_)
    have hF := hF.tr hF9
    refine tail w ch (by rw [e1]; exact hch) (by rw [e1]; exact hq1) ?_ hF
    rw [e1]
    exact hR
  · have e1 : mFork1 S t = mNode (sp (mNode S (S.1 15 t) (S.1 16 t) (mMid S t) t) 19 t (S.1 23 0)) (S.1 15 t) (mMid S t) (S.1 17 t) t := by unfold mFork1; rw [eO, if_pos c_31]
    have r1 := hr1 c_31
    rw [hj] at e1
    refine r_aload_n C d_Mo_fork_34 rfl rfl ?_
    refine g_Mo_59 C d_Mo_fork_35 hR.1 (hR.ar 19 rfl) ?_
    refine r_iload_n C d_Mo_fork_38 rfl rfl ?_
    refine r_aload_n C d_Mo_fork_39 rfl rfl ?_
    refine r_iload_n C d_Mo_fork_40 rfl rfl ?_
    refine r_aload_n C d_Mo_fork_41 rfl rfl ?_
    refine g_Mo_50 C d_Mo_fork_42 hR.1 (hR.ar 16 rfl) ?_
    refine r_iload_n C d_Mo_fork_45 rfl rfl ?_
    refine zr_iaload (t := 1) (k := t) C d_Mo_fork_46 (by decide) rfl (Or.inl (hR.kd 16 rfl)) (by omega) (by show t < 600; omega) (by decide) (hR.el 16 rfl (by show t < 600; omega)) ?_
    refine r_iload C d_Mo_fork_47 rfl ?_
    refine r_iload_n C d_Mo_fork_49 rfl rfl ?_
    refine c_Mo_133 C d_Mo_fork_50 hR.1 (m_node 0 hR _ _ _ _ n0 hn0 (by omega)) (by omega) (Nat.le_of_ble_eq_true rfl) (moRet.k1 (fun w hR hF9 => ?_)) moRet.k2
    have hF := hF.tr hF9
    refine zr_iastore (t := 1) (k := t) C d_Mo_fork_53 (by decide) rfl (hR.kd 19 rfl) (by omega) (by show t < 600; omega) (by decide) ?_
    refine mo_abI 19 hR rfl (fun w hR hF9 => ?_)
    have hF := hF.tr hF9
    refine r_aload_n C d_Mo_fork_54 rfl rfl ?_
    refine r_iload_n C d_Mo_fork_55 rfl rfl ?_
    refine r_iload C d_Mo_fork_56 rfl ?_
    refine r_aload_n C d_Mo_fork_58 rfl rfl ?_
    refine g_Mo_53 C d_Mo_fork_59 hR.1 (hR.ar 17 rfl) ?_
    refine r_iload_n C d_Mo_fork_62 rfl rfl ?_
    refine zr_iaload (t := 1) (k := t) C d_Mo_fork_63 (by decide) rfl (Or.inl (hR.kd 17 rfl)) (by omega) (by show t < 600; omega) (by decide) (hR.el 17 rfl (by show t < 600; omega)) ?_
    rw [show (sp (mNode S (j : Int) (S.1 16 t) (mMid S t) t) 19 t (S.1 23 0)).1 17 t = S.1 17 t by rw [sp_k _ _ _ _ (by decide), mNode_c _ _ _ _ _ _ _ ht9 (by decide)]]
    have h23 : (sp (mNode S (j : Int) (S.1 16 t) (mMid S t) t) 19 t (S.1 23 0)).1 23 0 = ((n0 + 1 : Nat) : Int) := by rw [sp_k _ _ _ _ (by decide), mNode_23]; omega
    refine r_iload_n C d_Mo_fork_64 rfl rfl ?_
    refine c_Mo_133 C d_Mo_fork_65 hR.1 (m_node 0 hR _ _ _ _ (n0 + 1) h23 (by omega)) (by omega) (Nat.le_of_ble_eq_true rfl) (moRet.k1 (fun w hR hF9 => ?_)) moRet.k2
    have hF := hF.tr hF9
    refine r_pop C d_Mo_fork_68 rfl ?_
    refine r_goto (tgt := 124) C d_Mo_fork_69 (by decide) ?_
    refine tail w n0 ?_ ?_ (by rw [e1]; exact hR) hF
    · rw [e1, mNode_c _ _ _ _ _ _ _ (by rw [h23]; omega) (by decide), sp_same]; exact hn0
    · rw [e1, mNode_o _ _ _ _ _ _ _ (by decide), sp_k _ _ _ _ (by decide), mNode_o _ _ _ _ _ _ _ (by decide)]; exact hq1

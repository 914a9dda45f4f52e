/-! THE REFERENCE'S begin -/
/-- the job j is written down: kind, array, c, d -/
def mBj (S : Ms) (j : Nat) (k a c d : Int) : Ms := sp (sp (sp (sp (sp (sp (sp S 14 0 (S.1 14 0 + 1)) 5 j k) 6 j a) 7 j c) 8 j d) 10 j (-1)) 13 j 1
def mBg (S : Ms) (j : Nat) (k a c d : Int) : Ms := sp (mNode (mBj S j k a c d) j 0 (S.1 3 a.toNat) (-1)) 12 j (S.1 23 0)
noncomputable def mBegin (S : Ms) (k a i c d : Int) : Int × Ms :=
  if ¬ ((0 ≤ a ∧ a ≤ 3) ∧ 0 ≤ S.1 2 a.toNat) then (0, sp (sp S 0 0 0) 0 0 1)
  else if ¬ ((0 ≤ k ∧ k ≤ 5) ∧ (0 ≤ i ∧ i ≤ S.1 1 0 - 1) ∧ (-1000 ≤ c ∧ c ≤ 1000) ∧ (-1000 ≤ d ∧ d ≤ 1000)) then (0, sp (sp S 0 0 0) 0 0 2)
  else @ite _ (mBusy S a ∨ S.1 14 0 = 12) (Classical.propDecidable _) (0, sp (sp S 0 0 0) 0 0 3) (S.1 14 0, mPut (mBg (sp S 0 0 0) (S.1 14 0).toNat k a c d) i.toNat (S.1 23 0))
theorem mBj_k (S : Ms) (j : Nat) (k a c d : Int) (f x : Nat) (h : f ≠ 14 ∧ f ≠ 5 ∧ f ≠ 6 ∧ f ≠ 7 ∧ f ≠ 8 ∧ f ≠ 10 ∧ f ≠ 13) : (mBj S j k a c d).1 f x = S.1 f x := by
  unfold mBj
  rw [sp_k _ _ _ _ (by omega), sp_k _ _ _ _ (by omega), sp_k _ _ _ _ (by omega), sp_k _ _ _ _ (by omega), sp_k _ _ _ _ (by omega), sp_k _ _ _ _ (by omega), sp_k _ _ _ _ (by omega)]
theorem mBj_o (S : Ms) (j : Nat) (k a c d : Int) (f x : Nat) (h : f ≠ 14) (hx : x ≠ j) : (mBj S j k a c d).1 f x = S.1 f x := by
  have q : ∀ (S' : Ms) (g : Nat) (v : Int), (sp S' g j v).1 f x = S'.1 f x := fun S' g v => by
    by_cases e : f = g
    · subst e; exact sp_j _ _ _ hx
    · exact sp_k _ _ _ _ e
  unfold mBj
  rw [q, q, q, q, q, q, sp_k _ _ _ _ h]
set_option maxRecDepth 20000 in
theorem m_begin {G : fxG} (d0 : Nat) {S : Ms} {m : Nat} {w : fxW} (hR : MoR S m w) (hd1 : 1 ≤ d0) (hI : Inv S) (k a i c d : Int) (hk : zok k) (ha : zok a) (hi : zok i) (hc : zok c) (hd : zok d) : fxM G d0 y_Mo_begin [.ref m, zi k, zi a, zi i, zi c, zi d] w (moRet m w (zi (mBegin S k a i c d).1) (mBegin S k a i c d).2) := by
  refine fxM.of cc_Mo_begin 7 (some .int) [] (by decide +kernel) w_Mo_begin (Nat.le_of_ble_eq_true rfl) ?_
  intro x C ht hu
  have hB := hI.1
  generalize hM : mBegin S k a i c d = MM
  unfold mBegin at hM
  generalize hQ : moRet m w (zi MM.1) MM.2 = QQ
  have hF : MoF m w w := MoF.rf
  have hW := hB.1
  show fxR G 7 x _ w 0 [(0, .ref m), (1, zi k), (2, zi a), (3, zi i), (4, zi c), (5, zi d)] []
  refine r_aload_n C d_Mo_begin_0 rfl rfl ?_
  refine r_iconst C d_Mo_begin_1 rfl ?_
  refine p_Mo_96 C d_Mo_begin_2 rfl rfl hR.1 ?_
  refine mo_abS 0 hR rfl (fun w hR hF9 => ?_)
  have hF := hF.tr hF9
  have bad1 : ¬ ((0 ≤ a ∧ a ≤ 3) ∧ 0 ≤ S.1 2 a.toNat) → fxR G 7 x (fxQ G x QQ) w 23 [(0, .ref m), (1, zi k), (2, zi a), (3, zi i), (4, zi c), (5, zi d)] [] := by
    intro hb
    rw [if_pos hb] at hM
    refine r_aload_n C d_Mo_begin_23 rfl rfl ?_
    refine r_iconst C d_Mo_begin_24 rfl ?_
    refine c_Mo_110 C d_Mo_begin_25 hR.1 (m_raise 0 hR 1) (by omega) (Nat.le_of_ble_eq_true rfl) (moRet.k1 (fun w hR hF9 => ?_)) moRet.k2
    have hF := hF.tr hF9
    rw [← hQ, ← hM]
    exact r_ireturn C d_Mo_begin_28 rfl ⟨rfl, hR, hF⟩
  refine r_iload_n C d_Mo_begin_5 rfl rfl ?_
  refine r_iconst C d_Mo_begin_6 rfl ?_
  refine r_iconst C d_Mo_begin_7 rfl ?_
  refine c_Mo_106 C d_Mo_begin_8 (m_in 0 w _ _ _ ha (by unfold zok; omega) (by unfold zok; omega)) (by omega) (Nat.le_of_ble_eq_true rfl) (fxPure.k1 ?_) fxPure.k2
  refine zr_if_eq (tgt := 23) C d_Mo_begin_11 (by decide) (zok_b _) (fun c_11 => ?_) (fun c_11 => ?_)
  · exact bad1 (fun q => by rw [bI_t q.1] at c_11; exact absurd c_11 (by decide))
  · have qa : 0 ≤ a ∧ a ≤ 3 := Classical.byContradiction fun q => c_11 (bI_f q)
    obtain ⟨a, rfl⟩ := Int.eq_ofNat_of_zero_le qa.1
    rw [Int.toNat_natCast] at hM bad1
    obtain ⟨y1, y2, y3, y4, y5⟩ := hB.2.1 a (by omega)
    refine r_aload_n C d_Mo_begin_14 rfl rfl ?_
    refine g_Mo_7 C d_Mo_begin_15 hR.1 (hR.ar 2 rfl) ?_
    refine r_iload_n C d_Mo_begin_18 rfl rfl ?_
    refine zr_iaload (t := 1) (k := a) C d_Mo_begin_19 (by decide) rfl (Or.inl (hR.kd 2 rfl)) (by omega) (by show a < 4; omega) (by decide) (hR.el 2 rfl (by show a < 4; omega)) ?_
    refine zr_if_ge (tgt := 29) C d_Mo_begin_20 (by decide) (show zok (S.1 2 a) from (hB.az (by omega)).1) (fun c_20 => ?_) (fun c_20 => ?_)
    · have q2 : 0 ≤ S.1 2 a := c_20
      rw [if_neg (fun q => q ⟨qa, q2⟩)] at hM
      have bad2 : ¬ ((0 ≤ k ∧ k ≤ 5) ∧ (0 ≤ i ∧ i ≤ S.1 1 0 - 1) ∧ (-1000 ≤ c ∧ c ≤ 1000) ∧ (-1000 ≤ d ∧ d ≤ 1000)) → fxR G 7 x (fxQ G x QQ) w 80 [(0, .ref m), (1, zi k), (2, zi (a : Int)), (3, zi i), (4, zi c), (5, zi d)] [] := by
        intro hb
        rw [if_pos hb] at hM
        refine r_aload_n C d_Mo_begin_80 rfl rfl ?_
        refine r_iconst C d_Mo_begin_81 rfl ?_
        refine c_Mo_110 C d_Mo_begin_82 hR.1 (m_raise 0 hR 2) (by omega) (Nat.le_of_ble_eq_true rfl) (moRet.k1 (fun w hR hF9 => ?_)) moRet.k2
        have hF := hF.tr hF9
        rw [← hQ, ← hM]
        exact r_ireturn C d_Mo_begin_85 rfl ⟨rfl, hR, hF⟩
      refine r_iload_n C d_Mo_begin_29 rfl rfl ?_
      refine r_iconst C d_Mo_begin_30 rfl ?_
      refine r_iconst C d_Mo_begin_31 rfl ?_
      refine c_Mo_106 C d_Mo_begin_32 (m_in 0 w _ _ _ hk (by unfold zok; omega) (by unfold zok; omega)) (by omega) (Nat.le_of_ble_eq_true rfl) (fxPure.k1 ?_) fxPure.k2
      refine zr_if_eq (tgt := 80) C d_Mo_begin_35 (by decide) (zok_b _) (fun c_35 => ?_) (fun c_35 => ?_)
      · exact bad2 (fun q => by rw [bI_t q.1] at c_35; exact absurd c_35 (by decide))
      · have qk : 0 ≤ k ∧ k ≤ 5 := Classical.byContradiction fun q => c_35 (bI_f q)
        refine r_iload_n C d_Mo_begin_38 rfl rfl ?_
        refine r_iconst C d_Mo_begin_39 rfl ?_
        refine r_aload_n C d_Mo_begin_40 rfl rfl ?_
        refine g_Mo_93 C d_Mo_begin_41 hR.1 (hR.sc 1 rfl) ?_
        refine r_iconst C d_Mo_begin_44 rfl ?_
        refine zr_isub C d_Mo_begin_45 ?_
        refine c_Mo_106 C d_Mo_begin_46 (m_in 0 w _ _ _ hi (by unfold zok; omega) (show zok (S.1 1 0 - 1) by unfold zok; omega)) (by omega) (Nat.le_of_ble_eq_true rfl) (fxPure.k1 ?_) fxPure.k2
        refine zr_if_eq (tgt := 80) C d_Mo_begin_49 (by decide) (zok_b _) (fun c_49 => ?_) (fun c_49 => ?_)
        · exact bad2 (fun q => by rw [bI_t (show 0 ≤ i ∧ i ≤ (sp S 0 0 0).1 1 0 - 1 from q.2.1)] at c_49; exact absurd c_49 (by decide))
        · have qi : 0 ≤ i ∧ i ≤ S.1 1 0 - 1 := Classical.byContradiction fun q => c_49 (bI_f q)
          refine r_iload C d_Mo_begin_52 rfl ?_
          refine r_sipush (v := Int32.ofInt (-1000)) C d_Mo_begin_54 (by decide) ?_
          refine r_sipush (v := Int32.ofInt 1000) C d_Mo_begin_57 (by decide) ?_
          refine c_Mo_106 C d_Mo_begin_60 (m_in 0 w _ _ _ hc (by unfold zok; omega) (by unfold zok; omega)) (by omega) (Nat.le_of_ble_eq_true rfl) (fxPure.k1 ?_) fxPure.k2
          refine zr_if_eq (tgt := 80) C d_Mo_begin_63 (by decide) (zok_b _) (fun c_63 => ?_) (fun c_63 => ?_)
          · exact bad2 (fun q => by rw [bI_t q.2.2.1] at c_63; exact absurd c_63 (by decide))
          · have qc : -1000 ≤ c ∧ c ≤ 1000 := Classical.byContradiction fun q => c_63 (bI_f q)
            refine r_iload C d_Mo_begin_66 rfl ?_
            refine r_sipush (v := Int32.ofInt (-1000)) C d_Mo_begin_68 (by decide) ?_
            refine r_sipush (v := Int32.ofInt 1000) C d_Mo_begin_71 (by decide) ?_
            refine c_Mo_106 C d_Mo_begin_74 (m_in 0 w _ _ _ hd (by unfold zok; omega) (by unfold zok; omega)) (by omega) (Nat.le_of_ble_eq_true rfl) (fxPure.k1 ?_) fxPure.k2
            refine zr_if_ne (tgt := 86) C d_Mo_begin_77 (by decide) (zok_b _) (fun c_77 => ?_) (fun c_77 => ?_)
            · have qd : -1000 ≤ d ∧ d ≤ 1000 := Classical.byContradiction fun q => c_77 (bI_f q)
              rw [if_neg (fun q => q ⟨qk, qi, qc, qd⟩)] at hM
              have bad3 : (mBusy S a ∨ S.1 14 0 = 12) → fxR G 7 x (fxQ G x QQ) w 103 [(0, .ref m), (1, zi k), (2, zi (a : Int)), (3, zi i), (4, zi c), (5, zi d)] [] := by
                intro hb
                rw [if_pos hb] at hM
                refine r_aload_n C d_Mo_begin_103 rfl rfl ?_
                refine r_iconst C d_Mo_begin_104 rfl ?_
                refine c_Mo_110 C d_Mo_begin_105 hR.1 (m_raise 0 hR 3) (by omega) (Nat.le_of_ble_eq_true rfl) (moRet.k1 (fun w hR hF9 => ?_)) moRet.k2
                have hF := hF.tr hF9
                rw [← hQ, ← hM]
                exact r_ireturn C d_Mo_begin_108 rfl ⟨rfl, hR, hF⟩
              refine r_aload_n C d_Mo_begin_86 rfl rfl ?_
              refine r_iload_n C d_Mo_begin_87 rfl rfl ?_
              refine c_Mo_114 C d_Mo_begin_88 hR.1 (m_busy 0 hR (a : Int) ha hB.2.2.1 (fun j hj => (hB.jz hj).1) (fun j hj => (hB.jz hj).2)) (by omega) (Nat.le_of_ble_eq_true rfl) (fxPure.k1 ?_) fxPure.k2
              refine zr_if_ne (tgt := 103) C d_Mo_begin_91 (by decide) (zok_c _) (fun c_91 => ?_) (fun c_91 => ?_)
              · have nb : mBusy S (a : Int) := cI_1.mp ((cI_01 _).resolve_left c_91)
                exact bad3 (Or.inl nb)
              · have nb : ¬ mBusy S (a : Int) := fun q => by rw [cI_t (show mBusy (sp S 0 0 0) (a : Int) from q)] at c_91; exact absurd c_91 (by decide)
                have hJ := hB.2.2.1
                refine r_aload_n C d_Mo_begin_94 rfl rfl ?_
                refine g_Mo_103 C d_Mo_begin_95 hR.1 (hR.sc 14 rfl) ?_
                refine r_bipush (v := Int32.ofInt 12) C d_Mo_begin_98 (by decide) ?_
                refine zr_icmp_ne (tgt := 109) C d_Mo_begin_100 (by decide) (show zok (S.1 14 0) by unfold zok; omega) (by unfold zok; omega) (fun c_100 => ?_) (fun c_100 => ?_)
                · have nj : ¬ S.1 14 0 = 12 := c_100
                  rw [if_neg (fun q => q.elim nb nj)] at hM
                  obtain ⟨j, hj⟩ := Int.eq_ofNat_of_zero_le hJ.1
                  obtain ⟨i, rfl⟩ := Int.eq_ofNat_of_zero_le qi.1
                  rw [Int.toNat_natCast, hj, Int.toNat_natCast] at hM
                  have hq5 := hI.ql i (by omega)
                  have hq0 := hB.q0 i (by omega)
                  have hn := hI.nn.1
                  have hp := hI.2.2.2.1
                  have hT := hB.2.2.2.2.1
                  refine r_aload_n C d_Mo_begin_109 rfl rfl ?_
                  refine g_Mo_103 C d_Mo_begin_110 hR.1 (hR.sc 14 rfl) ?_
                  rw [show (sp S 0 0 0).1 14 0 = (j : Int) from hj]
                  refine r_istore (ls' := [(6, _), (0, _), (1, _), (2, _), (3, _), (4, _), (5, _)]) C d_Mo_begin_113 (by decide) rfl ?_
                  refine r_aload_n C d_Mo_begin_115 rfl rfl ?_
                  refine r_dup C d_Mo_begin_116 rfl ?_
                  refine g_Mo_103 C d_Mo_begin_117 hR.1 (hR.sc 14 rfl) ?_
                  refine r_iconst C d_Mo_begin_120 rfl ?_
                  refine zr_iadd C d_Mo_begin_121 ?_
                  refine p_Mo_103 C d_Mo_begin_122 rfl rfl hR.1 ?_
                  refine mo_abS 14 hR rfl (fun w hR hF9 => ?_)
                  have hF := hF.tr hF9
                  refine r_aload_n C d_Mo_begin_125 rfl rfl ?_
                  refine g_Mo_20 C d_Mo_begin_126 hR.1 (hR.ar 5 rfl) ?_
                  refine r_iload C d_Mo_begin_129 rfl ?_
                  refine r_iload_n C d_Mo_begin_131 rfl rfl ?_
                  refine zr_iastore (t := 1) (k := j) C d_Mo_begin_132 (by decide) rfl (hR.kd 5 rfl) (by omega) (by show j < 12; omega) (by decide) ?_
                  refine mo_abI 5 hR rfl (fun w hR hF9 => ?_)
                  have hF := hF.tr hF9
                  refine r_aload_n C d_Mo_begin_133 rfl rfl ?_
                  refine g_Mo_23 C d_Mo_begin_134 hR.1 (hR.ar 6 rfl) ?_
                  refine r_iload C d_Mo_begin_137 rfl ?_
                  refine r_iload_n C d_Mo_begin_139 rfl rfl ?_
                  refine zr_iastore (t := 1) (k := j) C d_Mo_begin_140 (by decide) rfl (hR.kd 6 rfl) (by omega) (by show j < 12; omega) (by decide) ?_
                  refine mo_abI 6 hR rfl (fun w hR hF9 => ?_)
                  have hF := hF.tr hF9
                  refine r_aload_n C d_Mo_begin_141 rfl rfl ?_
                  refine g_Mo_26 C d_Mo_begin_142 hR.1 (hR.ar 7 rfl) ?_
                  refine r_iload C d_Mo_begin_145 rfl ?_
                  refine r_iload C d_Mo_begin_147 rfl ?_
                  refine zr_iastore (t := 1) (k := j) C d_Mo_begin_149 (by decide) rfl (hR.kd 7 rfl) (by omega) (by show j < 12; omega) (by decide) ?_
                  refine mo_abI 7 hR rfl (fun w hR hF9 => ?_)
                  have hF := hF.tr hF9
                  refine r_aload_n C d_Mo_begin_150 rfl rfl ?_
                  refine g_Mo_29 C d_Mo_begin_151 hR.1 (hR.ar 8 rfl) ?_
                  refine r_iload C d_Mo_begin_154 rfl ?_
                  refine r_iload C d_Mo_begin_156 rfl ?_
                  refine zr_iastore (t := 1) (k := j) C d_Mo_begin_158 (by decide) rfl (hR.kd 8 rfl) (by omega) (by show j < 12; omega) (by decide) ?_
                  refine mo_abI 8 hR rfl (fun w hR hF9 => ?_)
                  have hF := hF.tr hF9
                  refine r_aload_n C d_Mo_begin_159 rfl rfl ?_
                  refine g_Mo_35 C d_Mo_begin_160 hR.1 (hR.ar 10 rfl) ?_
                  refine r_iload C d_Mo_begin_163 rfl ?_
                  refine r_iconst C d_Mo_begin_165 rfl ?_
                  refine zr_iastore (t := 1) (k := j) C d_Mo_begin_166 (by decide) rfl (hR.kd 10 rfl) (by omega) (by show j < 12; omega) (by decide) ?_
                  refine mo_abI 10 hR rfl (fun w hR hF9 => ?_)
                  have hF := hF.tr hF9
                  refine r_aload_n C d_Mo_begin_167 rfl rfl ?_
                  refine g_Mo_44 C d_Mo_begin_168 hR.1 (hR.ar 13 rfl) ?_
                  refine r_iload C d_Mo_begin_171 rfl ?_
                  refine r_iconst C d_Mo_begin_173 rfl ?_
                  refine zr_iastore (t := 1) (k := j) C d_Mo_begin_174 (by decide) rfl (hR.kd 13 rfl) (by omega) (by show j < 12; omega) (by decide) ?_
                  refine mo_abI 13 hR rfl (fun w hR hF9 => ?_)
                  have hF := hF.tr hF9
                  rw [show sp (sp (sp (sp (sp (sp (sp (sp S 0 0 0) 14 0 ((sp S 0 0 0).1 14 0 + 1)) 5 j k) 6 j (a : Int)) 7 j c) 8 j d) 10 j (-1)) 13 j 1 = mBj (sp S 0 0 0) j k a c d from rfl] at hR
                  have e23 : (mBj (sp S 0 0 0) j k a c d).1 23 0 = (((S.1 23 0).toNat : Nat) : Int) := by rw [mBj_k _ _ _ _ _ _ _ _ (by decide)]; show S.1 23 0 = _; omega
                  refine r_aload_n C d_Mo_begin_175 rfl rfl ?_
                  refine g_Mo_41 C d_Mo_begin_176 hR.1 (hR.ar 12 rfl) ?_
                  refine r_iload C d_Mo_begin_179 rfl ?_
                  refine r_aload_n C d_Mo_begin_181 rfl rfl ?_
                  refine r_iload C d_Mo_begin_182 rfl ?_
                  refine r_iconst C d_Mo_begin_184 rfl ?_
                  refine r_aload_n C d_Mo_begin_185 rfl rfl ?_
                  refine g_Mo_13 C d_Mo_begin_186 hR.1 (hR.ar 3 rfl) ?_
                  refine r_iload_n C d_Mo_begin_189 rfl rfl ?_
                  refine zr_iaload (t := 1) (k := a) C d_Mo_begin_190 (by decide) rfl (Or.inl (hR.kd 3 rfl)) (by omega) (by show a < 4; omega) (by decide) (hR.el 3 rfl (by show a < 4; omega)) ?_
                  rw [show (mBj (sp S 0 0 0) j k a c d).1 3 a = S.1 3 a by rw [mBj_k _ _ _ _ _ _ _ _ (by decide)]; rfl]
                  refine r_iconst C d_Mo_begin_191 rfl ?_
                  refine c_Mo_133 C d_Mo_begin_192 hR.1 (m_node 0 hR _ _ _ _ _ e23 (by omega)) (by omega) (Nat.le_of_ble_eq_true rfl) (moRet.k1 (fun w hR hF9 => ?_)) moRet.k2
                  have hF := hF.tr hF9
                  refine zr_iastore (t := 1) (k := j) C d_Mo_begin_195 (by decide) rfl (hR.kd 12 rfl) (by omega) (by show j < 12; omega) (by decide) ?_
                  refine mo_abI 12 hR rfl (fun w hR hF9 => ?_)
                  have hF := hF.tr hF9
                  rw [show (mBj (sp S 0 0 0) j k a c d).1 23 0 = S.1 23 0 by rw [mBj_k _ _ _ _ _ _ _ _ (by decide)]; rfl] at hR
                  refine r_aload_n C d_Mo_begin_196 rfl rfl ?_
                  refine r_iload_n C d_Mo_begin_197 rfl rfl ?_
                  refine r_aload_n C d_Mo_begin_198 rfl rfl ?_
                  refine g_Mo_41 C d_Mo_begin_199 hR.1 (hR.ar 12 rfl) ?_
                  refine r_iload C d_Mo_begin_202 rfl ?_
                  refine zr_iaload (t := 1) (k := j) C d_Mo_begin_204 (by decide) rfl (Or.inl (hR.kd 12 rfl)) (by omega) (by show j < 12; omega) (by decide) (hR.el 12 rfl (by show j < 12; omega)) ?_
                  rw [sp_same]
                  have e25 : (sp (mNode (mBj (sp S 0 0 0) j k a c d) j 0 (S.1 3 a) (-1)) 12 j (S.1 23 0)).1 25 i = (((S.1 25 i).toNat : Nat) : Int) := by
                    rw [sp_k _ _ _ _ (by decide), mNode_o _ _ _ _ _ _ _ (by decide), mBj_k _ _ _ _ _ _ _ _ (by decide)]
                    show S.1 25 i = _; omega
                  refine c_Mo_137 C d_Mo_begin_205 hR.1 (m_put 0 hR i _ _ (by omega) e25 (by omega)) (by omega) (Nat.le_of_ble_eq_true rfl) (moVoid.k1 (fun w hR hF9 => ?_)) moVoid.k2
                  have hF := hF.tr hF9
                  refine r_iload C d_Mo_begin_208 rfl ?_
                  rw [← hQ, ← hM]
                  exact r_ireturn C d_Mo_begin_210 rfl ⟨rfl, hR, hF⟩
                · exact bad3 (Or.inr (Classical.byContradiction fun q => q (by have c' : ¬ ¬ S.1 14 0 = 12 := fun z => z (by first | exact c_100 | omega); omega)))
            · exact bad2 (fun q => by rw [bI_t q.2.2.2] at c_77; exact absurd c_77 (by decide))
    · exact bad1 (fun q => by have c' : ¬ 0 ≤ S.1 2 a := c_20; omega)

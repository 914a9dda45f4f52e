/-! THE REFERENCE'S METHODS, V: finished, fork -/
theorem finF_succ (i j n k : Nat) (S : Ms) : finF i j (n + 1) k S = if S.1 18 k < 0 then finE S i j k else if S.1 20 (S.1 18 k).toNat + 1 < 2 then sp S 20 (S.1 18 k).toNat (S.1 20 (S.1 18 k).toNat + 1) else finF i j n (S.1 18 k).toNat (finJ (sp S 20 (S.1 18 k).toNat (S.1 20 (S.1 18 k).toNat + 1)) j (S.1 18 k).toNat) := rfl
theorem finJ_1 (S : Ms) (j p : Nat) : (finJ S j p).1 = S.1 := by
  unfold finJ
  simp only
  split
  · rw [mOrder_1]; split <;> rfl
  · split <;> rfl
set_option maxRecDepth 20000 in
theorem m_finished {G : fxG} (d : Nat) {S : Ms} {m : Nat} {w : fxW} (hR : MoR S m w) (t i : Nat) (hd1 : 2 ≤ d) (hB : Bi S) (ht9 : (t : Int) < S.1 23 0) (hi4 : i < 4) (hq : S.1 25 i < 600) : fxM G d y_Mo_finished [.ref m, zi (t : Int), zi (i : Int)] w (moVoid m w (mFinished S t i)) := by
  refine fxM.of cc_Mo_finished 5 none [] (by decide +kernel) w_Mo_finished (Nat.le_of_ble_eq_true rfl) ?_
  intro x C ht hu
  have hT6 := hB.2.2.2.2.1.2
  have hJ := hB.2.2.1.2
  obtain ⟨j, hj⟩ := Int.eq_ofNat_of_zero_le (hB.2.2.2.2.2.1 t ht9).1
  have hjn : (j : Int) < S.1 14 0 := by have := (hB.2.2.2.2.2.1 t ht9).2.1; omega
  obtain ⟨j1, j2, j3, j4, j5, j6, j7, j8, j9, j10, j11, j12⟩ := hB.2.2.2.1 j hjn
  obtain ⟨o, ho⟩ := Int.eq_ofNat_of_zero_le j3
  have ho5 := (hB.2.1 o (by omega)).2.1
  have ho6 : 0 ≤ S.1 2 o := by rw [ho] at j5; exact j5
  have e : mFinished S t i = finF i j (t + 1) t S := by unfold mFinished mOf; rw [hj]; rfl
  rw [e]
  generalize hQ : moVoid m w (finF i j (t + 1) t S) = QQ
  have loop : ∀ (n k : Nat) (S1 : Ms) (w1 : fxW), k < n → (k : Int) < S.1 23 0 → S.1 15 k = (j : Int) → (∀ c jj, (c ≠ 20 ∨ jj < k) → S1.1 c jj = S.1 c jj) → finF i j n k S1 = finF i j (t + 1) t S → MoR S1 m w1 → MoF m w w1 → fxR G 5 x (fxQ G x QQ) w1 10 [(4, zi (j : Int)), (3, zi (k : Int)), (0, .ref m), (1, zi (t : Int)), (2, zi (i : Int))] [] := by
    intro n
    induction n with
    | zero => intro k S1 w h; exact absurd h (by omega)
    | succ n ih =>
      intro k S1 w h1 h2 h3 h4 h5 hR hF
      obtain ⟨b1, b2, b3, b4, b5, b6, b7, b8, b9, b10, b11⟩ := hB.2.2.2.2.2.1 k h2
      have q18 : S1.1 18 k = S.1 18 k := h4 18 k (by omega)
      have q5 : S1.1 5 j = S.1 5 j := h4 5 j (by omega)
      have q13 : S1.1 13 j = S.1 13 j := h4 13 j (by omega)
      have q25 : S1.1 25 i = S.1 25 i := h4 25 i (by omega)
      have q6 : S1.1 6 j = S.1 6 j := h4 6 j (by omega)
      have q2 : S1.1 2 o = S.1 2 o := h4 2 o (by omega)
      rw [finF_succ] at h5
      refine r_aload_n C d_Mo_finished_10 rfl rfl ?_
      refine g_Mo_56 C d_Mo_finished_11 hR.1 (hR.ar 18 rfl) ?_
      refine r_iload_n C d_Mo_finished_14 rfl rfl ?_
      refine zr_iaload (t := 1) (k := k) C d_Mo_finished_15 (by decide) rfl (Or.inl (hR.kd 18 rfl)) (by omega) (by show k < 600; omega) (by decide) (hR.el 18 rfl (by show k < 600; omega)) ?_
      refine zr_if_lt (tgt := 145) C d_Mo_finished_16 (by decide) (by rw [q18]; unfold zok; omega) (fun c_16 => ?_) (fun c_16 => ?_)
      · rw [if_pos c_16] at h5
        have done : (¬ S1.1 5 j = 2 ∨ S1.1 13 j = 2) → fxR G 5 x (fxQ G x QQ) w 167 [(4, zi (j : Int)), (3, zi (k : Int)), (0, .ref m), (1, zi (t : Int)), (2, zi (i : Int))] [] := by
          intro hc
          refine r_aload_n C d_Mo_finished_167 rfl rfl ?_
          refine g_Mo_32 C d_Mo_finished_168 hR.1 (hR.ar 9 rfl) ?_
          refine r_iload C d_Mo_finished_171 rfl ?_
          refine r_iconst C d_Mo_finished_173 rfl ?_
          refine zr_iastore (t := 1) (k := j) C d_Mo_finished_174 (by decide) rfl (hR.kd 9 rfl) (by omega) (by show j < 12; omega) (by decide) ?_
          refine mo_abI 9 hR rfl (fun w hR hF9 => ?_)
          have hF := hF.tr hF9
          rw [← hQ]
          refine r_return C d_Mo_finished_175 rfl ⟨rfl, ?_, hF⟩
          rw [← h5]; unfold finE; rw [if_pos hc]; exact hR
        refine r_aload_n C d_Mo_finished_145 rfl rfl ?_
        refine g_Mo_20 C d_Mo_finished_146 hR.1 (hR.ar 5 rfl) ?_
        refine r_iload C d_Mo_finished_149 rfl ?_
        refine zr_iaload (t := 1) (k := j) C d_Mo_finished_151 (by decide) rfl (Or.inl (hR.kd 5 rfl)) (by omega) (by show j < 12; omega) (by decide) (hR.el 5 rfl (by show j < 12; omega)) ?_
        refine r_iconst C d_Mo_finished_152 rfl ?_
        refine zr_icmp_ne (tgt := 167) C d_Mo_finished_153 (by decide) (by rw [q5]; unfold zok; omega) (by unfold zok; omega) (fun c_153 => ?_) (fun c_153 => ?_)
        · exact done (Or.inl c_153)
        · refine r_aload_n C d_Mo_finished_156 rfl rfl ?_
          refine g_Mo_44 C d_Mo_finished_157 hR.1 (hR.ar 13 rfl) ?_
          refine r_iload C d_Mo_finished_160 rfl ?_
          refine zr_iaload (t := 1) (k := j) C d_Mo_finished_162 (by decide) rfl (Or.inl (hR.kd 13 rfl)) (by omega) (by show j < 12; omega) (by decide) (hR.el 13 rfl (by show j < 12; omega)) ?_
          refine r_iconst C d_Mo_finished_163 rfl ?_
          refine zr_icmp_ne (tgt := 176) C d_Mo_finished_164 (by decide) (by rw [q13]; unfold zok; omega) (by unfold zok; omega) (fun c_164 => ?_) (fun c_164 => ?_)
          · refine r_aload_n C d_Mo_finished_176 rfl rfl ?_
            refine g_Mo_44 C d_Mo_finished_177 hR.1 (hR.ar 13 rfl) ?_
            refine r_iload C d_Mo_finished_180 rfl ?_
            refine r_iconst C d_Mo_finished_182 rfl ?_
            refine zr_iastore (t := 1) (k := j) C d_Mo_finished_183 (by decide) rfl (hR.kd 13 rfl) (by omega) (by show j < 12; omega) (by decide) ?_
            refine mo_abI 13 hR rfl (fun w hR hF9 => ?_)
            have hF := hF.tr hF9
            refine r_aload_n C d_Mo_finished_184 rfl rfl ?_
            refine g_Mo_68 C d_Mo_finished_185 hR.1 (hR.arL 22 rfl) ?_
            refine r_iload_n C d_Mo_finished_188 rfl rfl ?_
            refine r_lconst (v := 0) C d_Mo_finished_189 (by decide) ?_
            refine zr_lastore (t := 0) (k := k) C d_Mo_finished_190 (by decide) rfl (hR.kdL 22 rfl) (by omega) (by show k < 600; omega) (by decide) ?_
            refine mo_abL 22 hR rfl (fun w hR hF9 => ?_)
            have hF := hF.tr hF9
            have hq9 := (hB.2.2.2.2.2.2.1 i hi4).1
            refine r_aload_n C d_Mo_finished_191 rfl rfl ?_
            refine r_iload_n C d_Mo_finished_192 rfl rfl ?_
            refine r_iload_n C d_Mo_finished_193 rfl rfl ?_
            refine c_Mo_137 C d_Mo_finished_194 hR.1 (m_put 0 hR i (S.1 25 i).toNat (k : Int) hi4 (show S1.1 25 i = _ by omega) (by omega)) (by omega) (Nat.le_of_ble_eq_true rfl) (moVoid.k1 (fun w hR hF9 => ?_)) moVoid.k2
            have hF := hF.tr hF9
            rw [← hQ]
            refine r_return C d_Mo_finished_197 rfl ⟨rfl, ?_, hF⟩
            rw [← h5]; unfold finE; rw [if_neg (fun q => q.elim (fun z => z c_153) c_164)]; exact hR
          · exact done (Or.inr c_164)
      · rw [if_neg (by omega)] at h5
        obtain ⟨p, hp⟩ := Int.eq_ofNat_of_zero_le (show 0 ≤ S1.1 18 k by omega)
        rw [hp, Int.toNat_natCast] at h5
        have hpS : S.1 18 k = (p : Int) := by omega
        obtain ⟨l1, l2⟩ := b11 (by omega)
        rw [hpS, Int.toNat_natCast] at l1 l2
        obtain ⟨a1, a2, a3, a4, a5, a6, a7, a8, a9, a10, a11⟩ := hB.2.2.2.2.2.1 p (by omega)
        have q20 : S1.1 20 p = S.1 20 p := h4 20 p (by omega)
        have q19 : S1.1 19 p = S.1 19 p := h4 19 p (by omega)
        have q16 : S1.1 16 p = S.1 16 p := h4 16 p (by omega)
        have q17 : S1.1 17 p = S.1 17 p := h4 17 p (by omega)
        refine r_aload_n C d_Mo_finished_19 rfl rfl ?_
        refine g_Mo_56 C d_Mo_finished_20 hR.1 (hR.ar 18 rfl) ?_
        refine r_iload_n C d_Mo_finished_23 rfl rfl ?_
        refine zr_iaload (t := 1) (k := k) C d_Mo_finished_24 (by decide) rfl (Or.inl (hR.kd 18 rfl)) (by omega) (by show k < 600; omega) (by decide) (hR.el 18 rfl (by show k < 600; omega)) ?_
        rw [hp]
        refine r_istore_n (ls' := [(3, _), (4, _), (0, _), (1, _), (2, _)]) C d_Mo_finished_25 rfl (by decide) rfl ?_
        refine r_aload_n C d_Mo_finished_26 rfl rfl ?_
        refine g_Mo_62 C d_Mo_finished_27 hR.1 (hR.ar 20 rfl) ?_
        refine r_iload_n C d_Mo_finished_30 rfl rfl ?_
        refine r_dup2 C d_Mo_finished_31 rfl rfl ?_
        refine zr_iaload (t := 1) (k := p) C d_Mo_finished_32 (by decide) rfl (Or.inl (hR.kd 20 rfl)) (by omega) (by show p < 600; omega) (by decide) (hR.el 20 rfl (by show p < 600; omega)) ?_
        refine r_iconst C d_Mo_finished_33 rfl ?_
        refine zr_iadd C d_Mo_finished_34 ?_
        refine zr_iastore (t := 1) (k := p) C d_Mo_finished_35 (by decide) rfl (hR.kd 20 rfl) (by omega) (by show p < 600; omega) (by decide) ?_
        refine mo_abI 20 hR rfl (fun w hR hF9 => ?_)
        have hF := hF.tr hF9
        have o20 : (sp S1 20 p (S1.1 20 p + 1)).1 20 p = S1.1 20 p + 1 := sp_same _ _ _ _
        have oE : ∀ c jj, c ≠ 20 → (sp S1 20 p (S1.1 20 p + 1)).1 c jj = S1.1 c jj := fun c jj h => sp_k _ _ _ _ h
        refine r_aload_n C d_Mo_finished_36 rfl rfl ?_
        refine g_Mo_62 C d_Mo_finished_37 hR.1 (hR.ar 20 rfl) ?_
        refine r_iload_n C d_Mo_finished_40 rfl rfl ?_
        refine zr_iaload (t := 1) (k := p) C d_Mo_finished_41 (by decide) rfl (Or.inl (hR.kd 20 rfl)) (by omega) (by show p < 600; omega) (by decide) (hR.el 20 rfl (by show p < 600; omega)) ?_
        refine r_iconst C d_Mo_finished_42 rfl ?_
        refine zr_icmp_ge (tgt := 47) C d_Mo_finished_43 (by decide) (by rw [o20]; unfold zok; omega) (by unfold zok; omega) (fun c_43 => ?_) (fun c_43 => ?_)
        · rw [o20] at c_43
          rw [if_neg (by omega)] at h5
          have h4' : ∀ c jj, (c ≠ 20 ∨ jj < p) → (finJ (sp S1 20 p (S1.1 20 p + 1)) j p).1 c jj = S.1 c jj := by
            intro c jj h
            rw [finJ_1]
            by_cases hc : c = 20
            · subst hc; rw [sp_j _ _ _ (by omega)]; exact h4 20 jj (by omega)
            · rw [oE c jj hc]; exact h4 c jj (Or.inl hc)
          obtain ⟨lo, hlo⟩ := Int.eq_ofNat_of_zero_le (show 0 ≤ S1.1 16 p by omega)
          obtain ⟨hi, hhi⟩ := Int.eq_ofNat_of_zero_le (show 0 ≤ S1.1 17 p by omega)
          -- behind the join: the sort
          have sortE : ∀ (S2 : Ms) (w2 : fxW), S2.1 = (sp S1 20 p (S1.1 20 p + 1)).1 → finJ (sp S1 20 p (S1.1 20 p + 1)) j p = (if S2.1 5 j = 3 then mOrder S2 (24 * o) lo hi else S2) → MoR S2 m w2 → MoF m w w2 → fxR G 5 x (fxQ G x QQ) w2 105 [(3, zi (p : Int)), (4, zi (j : Int)), (0, .ref m), (1, zi (t : Int)), (2, zi (i : Int))] [] := by
            intro S2 w2 f1 f2 hR2 hF2
            have g5 : S2.1 5 j = S.1 5 j := by rw [f1, oE 5 j (by decide), q5]
            have g6 : S2.1 6 j = (o : Int) := by rw [f1, oE 6 j (by decide), q6, ho]
            have g16 : S2.1 16 p = (lo : Int) := by rw [f1, oE 16 p (by decide), hlo]
            have g17 : S2.1 17 p = (hi : Int) := by rw [f1, oE 17 p (by decide), hhi]
            have hF := hF.tr hF2
            have hR := hR2
            refine r_aload_n C d_Mo_finished_105 rfl rfl ?_
            refine g_Mo_20 C d_Mo_finished_106 hR.1 (hR.ar 5 rfl) ?_
            refine r_iload C d_Mo_finished_109 rfl ?_
            refine zr_iaload (t := 1) (k := j) C d_Mo_finished_111 (by decide) rfl (Or.inl (hR.kd 5 rfl)) (by omega) (by show j < 12; omega) (by decide) (hR.el 5 rfl (by show j < 12; omega)) ?_
            refine r_iconst C d_Mo_finished_112 rfl ?_
            refine zr_icmp_ne (tgt := 10) C d_Mo_finished_113 (by decide) (by rw [g5]; unfold zok; omega) (by unfold zok; omega) (fun c_113 => ?_) (fun c_113 => ?_)
            · refine fx_sub (ls' := [(4, zi (j : Int)), (3, zi (p : Int)), (0, .ref m), (1, zi (t : Int)), (2, zi (i : Int))]) (by simp [fxL]) ?_
              rw [if_neg c_113] at f2
              exact ih p S2 w2 (by omega) (by omega) (by rw [l2]; exact h3) (by rw [← f2]; exact h4') (by rw [← f2]; exact h5) hR hF
            · rw [if_pos c_113] at f2
              refine r_aload_n C d_Mo_finished_116 rfl rfl ?_
              refine r_bipush (v := Int32.ofInt 24) C d_Mo_finished_117 (by decide) ?_
              refine r_aload_n C d_Mo_finished_119 rfl rfl ?_
              refine g_Mo_23 C d_Mo_finished_120 hR.1 (hR.ar 6 rfl) ?_
              refine r_iload C d_Mo_finished_123 rfl ?_
              refine zr_iaload (t := 1) (k := j) C d_Mo_finished_125 (by decide) rfl (Or.inl (hR.kd 6 rfl)) (by omega) (by show j < 12; omega) (by decide) (hR.el 6 rfl (by show j < 12; omega)) ?_
              rw [g6]
              refine zr_imul C d_Mo_finished_126 ?_
              refine r_aload_n C d_Mo_finished_127 rfl rfl ?_
              refine g_Mo_50 C d_Mo_finished_128 hR.1 (hR.ar 16 rfl) ?_
              refine r_iload_n C d_Mo_finished_131 rfl rfl ?_
              refine zr_iaload (t := 1) (k := p) C d_Mo_finished_132 (by decide) rfl (Or.inl (hR.kd 16 rfl)) (by omega) (by show p < 600; omega) (by decide) (hR.el 16 rfl (by show p < 600; omega)) ?_
              rw [g16]
              refine r_aload_n C d_Mo_finished_133 rfl rfl ?_
              refine g_Mo_53 C d_Mo_finished_134 hR.1 (hR.ar 17 rfl) ?_
              refine r_iload_n C d_Mo_finished_137 rfl rfl ?_
              refine zr_iaload (t := 1) (k := p) C d_Mo_finished_138 (by decide) rfl (Or.inl (hR.kd 17 rfl)) (by omega) (by show p < 600; omega) (by decide) (hR.el 17 rfl (by show p < 600; omega)) ?_
              rw [g17]
              refine c_Mo_161 C d_Mo_finished_139 hR.1 (m_order 1 hR (a := 24 * o) (by omega) (by omega) (by omega)) (by omega) (Nat.le_of_ble_eq_true rfl) (moVoid.k1 (fun w hR hF9 => ?_)) moVoid.k2
              have hF := hF.tr hF9
              refine r_goto (tgt := 10) C d_Mo_finished_142 (by decide) ?_
              refine fx_sub (ls' := [(4, zi (j : Int)), (3, zi (p : Int)), (0, .ref m), (1, zi (t : Int)), (2, zi (i : Int))]) (by simp [fxL]) ?_
              exact ih p _ w (by omega) (by omega) (by rw [l2]; exact h3) (by rw [← f2]; exact h4') (by rw [← f2]; exact h5) hR hF
          have fJ : ∀ S2 : Ms, S2 = (if S1.1 13 j = 1 ∧ S1.1 5 j < 3 then sq (sp S1 20 p (S1.1 20 p + 1)) 21 p (joinF (sp S1 20 p (S1.1 20 p + 1)) j (S1.2 21 (S1.1 19 p).toNat) (S1.2 21 ((S1.1 19 p).toNat + 1))) else (sp S1 20 p (S1.1 20 p + 1))) → finJ (sp S1 20 p (S1.1 20 p + 1)) j p = (if S2.1 5 j = 3 then mOrder S2 (24 * o) lo hi else S2) := by
            intro S2 hS2
            unfold finJ mAt mLo mHi
            rw [oE 13 j (by decide), oE 5 j (by decide), oE 6 j (by decide), oE 16 p (by decide), oE 17 p (by decide), oE 19 p (by decide), hlo, hhi, q6, ho]
            simp only [Int.toNat_natCast]
            have : S2.1 5 j = S1.1 5 j := by rw [hS2]; split <;> exact oE 5 j (by decide)
            rw [this, hS2]
            rfl
          refine r_aload_n C d_Mo_finished_47 rfl rfl ?_
          refine g_Mo_44 C d_Mo_finished_48 hR.1 (hR.ar 13 rfl) ?_
          refine r_iload C d_Mo_finished_51 rfl ?_
          refine zr_iaload (t := 1) (k := j) C d_Mo_finished_53 (by decide) rfl (Or.inl (hR.kd 13 rfl)) (by omega) (by show j < 12; omega) (by decide) (hR.el 13 rfl (by show j < 12; omega)) ?_
          refine r_iconst C d_Mo_finished_54 rfl ?_
          refine zr_icmp_ne (tgt := 105) C d_Mo_finished_55 (by decide) (by rw [oE 13 j (by decide), q13]; unfold zok; omega) (by unfold zok; omega) (fun c_55 => ?_) (fun c_55 => ?_)
          · rw [oE 13 j (by decide)] at c_55
            exact sortE _ w rfl (fJ _ (by rw [if_neg (fun q => c_55 q.1)])) hR MoF.rf
          · rw [oE 13 j (by decide)] at c_55
            refine r_aload_n C d_Mo_finished_58 rfl rfl ?_
            refine g_Mo_20 C d_Mo_finished_59 hR.1 (hR.ar 5 rfl) ?_
            refine r_iload C d_Mo_finished_62 rfl ?_
            refine zr_iaload (t := 1) (k := j) C d_Mo_finished_64 (by decide) rfl (Or.inl (hR.kd 5 rfl)) (by omega) (by show j < 12; omega) (by decide) (hR.el 5 rfl (by show j < 12; omega)) ?_
            refine r_iconst C d_Mo_finished_65 rfl ?_
            refine zr_icmp_ge (tgt := 105) C d_Mo_finished_66 (by decide) (by rw [oE 5 j (by decide), q5]; unfold zok; omega) (by unfold zok; omega) (fun c_66 => ?_) (fun c_66 => ?_)
            · rw [oE 5 j (by decide)] at c_66
              exact sortE _ w rfl (fJ _ (by rw [if_neg (by omega)])) hR MoF.rf
            · rw [oE 5 j (by decide)] at c_66
              obtain ⟨ch, hch⟩ := Int.eq_ofNat_of_zero_le (show 0 ≤ S1.1 19 p by omega)
              refine r_aload_n C d_Mo_finished_69 rfl rfl ?_
              refine g_Mo_65 C d_Mo_finished_70 hR.1 (hR.arL 21 rfl) ?_
              refine r_iload_n C d_Mo_finished_73 rfl rfl ?_
              refine r_aload_n C d_Mo_finished_74 rfl rfl ?_
              refine r_iload C d_Mo_finished_75 rfl ?_
              refine r_aload_n C d_Mo_finished_77 rfl rfl ?_
              refine g_Mo_65 C d_Mo_finished_78 hR.1 (hR.arL 21 rfl) ?_
              refine r_aload_n C d_Mo_finished_81 rfl rfl ?_
              refine g_Mo_59 C d_Mo_finished_82 hR.1 (hR.ar 19 rfl) ?_
              refine r_iload_n C d_Mo_finished_85 rfl rfl ?_
              refine zr_iaload (t := 1) (k := p) C d_Mo_finished_86 (by decide) rfl (Or.inl (hR.kd 19 rfl)) (by omega) (by show p < 600; omega) (by decide) (hR.el 19 rfl (by show p < 600; omega)) ?_
              rw [oE 19 p (by decide), hch]
              refine zr_laload (t := 0) (k := ch) C d_Mo_finished_87 (by decide) rfl (Or.inl (hR.kdL 21 rfl)) (by omega) (by show ch < 600; omega) (by decide) (hR.elL 21 rfl (by show ch < 600; omega)) ?_
              refine r_aload_n C d_Mo_finished_88 rfl rfl ?_
              refine g_Mo_65 C d_Mo_finished_89 hR.1 (hR.arL 21 rfl) ?_
              refine r_aload_n C d_Mo_finished_92 rfl rfl ?_
              refine g_Mo_59 C d_Mo_finished_93 hR.1 (hR.ar 19 rfl) ?_
              refine r_iload_n C d_Mo_finished_96 rfl rfl ?_
              refine zr_iaload (t := 1) (k := p) C d_Mo_finished_97 (by decide) rfl (Or.inl (hR.kd 19 rfl)) (by omega) (by show p < 600; omega) (by decide) (hR.el 19 rfl (by show p < 600; omega)) ?_
              rw [oE 19 p (by decide), hch]
              refine r_iconst C d_Mo_finished_98 rfl ?_
              refine zr_iadd C d_Mo_finished_99 ?_
              refine zr_laload (t := 0) (k := ch + 1) C d_Mo_finished_100 (by decide) rfl (Or.inl (hR.kdL 21 rfl)) (by omega) (by show ch + 1 < 600; omega) (by decide) (hR.elL 21 rfl (by show ch + 1 < 600; omega)) ?_
              refine c_Mo_149 C d_Mo_finished_101 hR.1 (m_joined 1 hR j o _ _ (by omega) (by omega) (by rw [oE 5 j (by decide), q5]; unfold zok; omega) (by rw [oE 6 j (by decide), q6, ho]) (by omega) (by rw [oE 2 o (by decide), q2]; unfold zok; omega) (by rw [oE 2 o (by decide), q2]; exact ho6)) (by omega) (Nat.le_of_ble_eq_true rfl) (fxPure.k1 ?_) fxPure.k2
              refine zr_lastore (t := 0) (k := p) C d_Mo_finished_104 (by decide) rfl (hR.kdL 21 rfl) (by omega) (by show p < 600; omega) (by decide) ?_
              refine mo_abL 21 hR rfl (fun w hR hF9 => ?_)
              have hF := hF.tr hF9
              have z9 := sortE (sq (sp S1 20 p (S1.1 20 p + 1)) 21 p (joinF (sp S1 20 p (S1.1 20 p + 1)) j (S1.2 21 ch) (S1.2 21 (ch + 1)))) w rfl (fJ _ (by rw [if_pos ⟨c_55, by omega⟩, hch]; rfl)) hR hF9
              exact z9
        · rw [o20] at c_43
          rw [if_pos (by omega)] at h5
          rw [← hQ]
          exact r_return C d_Mo_finished_46 rfl ⟨rfl, by rw [← h5]; exact hR, hF⟩
  have hF : MoF m w w := MoF.rf
  show fxR G 5 x _ w 0 [(0, .ref m), (1, zi (t : Int)), (2, zi (i : Int))] []
  refine r_iload_n C d_Mo_finished_0 rfl rfl ?_
  refine r_istore_n (ls' := [(3, _), (0, _), (1, _), (2, _)]) C d_Mo_finished_1 rfl (by decide) rfl ?_
  refine r_aload_n C d_Mo_finished_2 rfl rfl ?_
  refine g_Mo_47 C d_Mo_finished_3 hR.1 (hR.ar 15 rfl) ?_
  refine r_iload_n C d_Mo_finished_6 rfl rfl ?_
  refine zr_iaload (t := 1) (k := t) C d_Mo_finished_7 (by decide) rfl (Or.inl (hR.kd 15 rfl)) (by omega) (by show t < 600; omega) (by decide) (hR.el 15 rfl (by show t < 600; omega)) ?_
  rw [hj]
  refine r_istore (ls' := [(4, _), (3, _), (0, _), (1, _), (2, _)]) C d_Mo_finished_8 (by decide) rfl ?_
  exact loop (t + 1) t S w (by omega) ht9 hj (fun _ _ _ => rfl) rfl hR hF

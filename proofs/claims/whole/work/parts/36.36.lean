/-! THE REFERENCE'S METHODS, IV: leaf -/
theorem lfF_succ (j a k n : Nat) (S : Ms) : lfF j a k (n + 1) S = if S.1 5 j = 5 ∧ S.2 4 (a + k) = 0 then (false, mEnd S j k) else lfF j a (k + 1) n (sq S 4 (a + k) (if S.1 5 j = 4 then mapF S j (S.2 4 (a + k)) else shaF S j (S.2 4 (a + k)))) := rfl
theorem Bi.sq {S : Ms} (h : Bi S) (k j : Nat) (v : Int64) : Bi (sq S k j v) := h
theorem sprF_1 (j a : Nat) : ∀ (n k : Nat) (v : Int64) (S : Ms), (sprF j a k n v S).1 = S.1 := by
  intro n
  induction n with
  | zero => intro k v S; rfl
  | succ n ih => intro k v S; show (sprF j a (k + 1) n _ _).1 = S.1; rw [ih]; rfl
theorem insF_1 (lo : Nat) : ∀ (k : Nat) (S : Ms), (insF lo k S).1 = S.1 := by
  intro k
  induction k with
  | zero => intro S; rfl
  | succ k ih =>
    intro S; rw [insF]
    split
    · rw [ih]; rfl
    · rfl
theorem ordF_1 (lo : Nat) : ∀ (n i : Nat) (S : Ms), (ordF lo i n S).1 = S.1 := by
  intro n
  induction n with
  | zero => intro i S; rfl
  | succ n ih => intro i S; show (ordF lo (i + 1) n (insF lo i S)).1 = S.1; rw [ih, insF_1]
theorem mSpread_1 (S : Ms) (t : Nat) : (mSpread S t).1 = S.1 := sprF_1 _ _ _ _ _ _
theorem mOrder_1 (S : Ms) (a lo hi : Nat) : (mOrder S a lo hi).1 = S.1 := ordF_1 _ _ _ _
def bz (b : Bool) : Int := if b then 1 else 0
set_option maxRecDepth 20000 in
theorem m_leaf {G : fxG} (d : Nat) {S : Ms} {m : Nat} {w : fxW} (hR : MoR S m w) {t j o lo hi : Nat} (hd1 : 3 ≤ d) (hB : Bi S) (T : mTok S t j o lo hi) (hr : 1 ≤ S.1 13 j ∧ S.1 13 j ≤ 2) : fxM G d y_Mo_leaf [.ref m, zi (t : Int)] w (moRet m w (zi (bz (mLeaf S t).1)) (mLeaf S t).2) := by
  have TT := T
  obtain ⟨h6, e15, h12, e6, h4, e16, e17, hlh, h24, hk0, hk5, ht0, ht5⟩ := T
  refine fxM.of cc_Mo_leaf 5 (some .boolean) [] (by decide +kernel) w_Mo_leaf (Nat.le_of_ble_eq_true rfl) ?_
  intro x C ht hu
  have e : mLeaf S t = if S.1 5 j < 2 ∨ (S.1 5 j = 2 ∧ S.1 13 j = 1) then (true, sq S 21 t (mReduced S t)) else if S.1 5 j = 2 then (true, mSpread S t) else if S.1 5 j = 3 then (true, mOrder S (24 * o) lo hi) else lfF j (24 * o) lo (hi - lo) S := by
    unfold mLeaf mAt mLo mHi mOf; rw [e15, e16, e17]; simp only [Int.toNat_natCast]; rw [e6]; simp only [Int.toNat_natCast]
  rw [e]
  generalize hL : (if S.1 5 j < 2 ∨ (S.1 5 j = 2 ∧ S.1 13 j = 1) then (true, sq S 21 t (mReduced S t)) else if S.1 5 j = 2 then (true, mSpread S t) else if S.1 5 j = 3 then (true, mOrder S (24 * o) lo hi) else lfF j (24 * o) lo (hi - lo) S) = LL
  generalize hQ : moRet m w (zi (bz LL.1)) LL.2 = QQ
  have fin : ∀ (S1 : Ms) (w1 : fxW), S1.1 = S.1 → S.1 5 j ≤ 3 → LL = (true, S1) → MoR S1 m w1 → MoF m w w1 → fxR G 5 x (fxQ G x QQ) w1 103 [(3, zi (24 * (o : Int))), (2, zi (j : Int)), (0, .ref m), (1, zi (t : Int))] [] := by
    intro S1 w h3 hk h2 hR hF
    refine r_aload_n C d_Mo_leaf_103 rfl rfl ?_
    refine g_Mo_50 C d_Mo_leaf_104 hR.1 (hR.ar 16 rfl) ?_
    refine r_iload_n C d_Mo_leaf_107 rfl rfl ?_
    refine zr_iaload (t := 1) (k := t) C d_Mo_leaf_108 (by decide) rfl (Or.inl (hR.kd 16 rfl)) (by omega) (by show t < 600; omega) (by decide) (hR.el 16 rfl (by show t < 600; omega)) ?_
    rw [h3, e16]
    refine r_istore (ls' := [(4, _), (3, _), (2, _), (0, _), (1, _)]) C d_Mo_leaf_109 (by decide) rfl ?_
    refine r_iload C d_Mo_leaf_111 rfl ?_
    refine r_aload_n C d_Mo_leaf_113 rfl rfl ?_
    refine g_Mo_53 C d_Mo_leaf_114 hR.1 (hR.ar 17 rfl) ?_
    refine r_iload_n C d_Mo_leaf_117 rfl rfl ?_
    refine zr_iaload (t := 1) (k := t) C d_Mo_leaf_118 (by decide) rfl (Or.inl (hR.kd 17 rfl)) (by omega) (by show t < 600; omega) (by decide) (hR.el 17 rfl (by show t < 600; omega)) ?_
    refine zr_icmp_ge (tgt := 221) C d_Mo_leaf_119 (by decide) (by unfold zok; omega) (by rw [h3, e17]; unfold zok; omega) (fun c_119 => ?_) (fun c_119 => ?_)
    · exact absurd c_119 (by rw [h3, e17]; omega)
    · refine r_aload_n C d_Mo_leaf_122 rfl rfl ?_
      refine g_Mo_20 C d_Mo_leaf_123 hR.1 (hR.ar 5 rfl) ?_
      refine r_iload_n C d_Mo_leaf_126 rfl rfl ?_
      refine zr_iaload (t := 1) (k := j) C d_Mo_leaf_127 (by decide) rfl (Or.inl (hR.kd 5 rfl)) (by omega) (by show j < 12; omega) (by decide) (hR.el 5 rfl (by show j < 12; omega)) ?_
      refine r_iconst C d_Mo_leaf_128 rfl ?_
      refine zr_icmp_le (tgt := 221) C d_Mo_leaf_129 (by decide) (by rw [h3]; unfold zok; omega) (by unfold zok; omega) (fun c_129 => ?_) (fun c_129 => ?_)
      · refine r_iconst C d_Mo_leaf_221 rfl ?_
        rw [← hQ]
        refine zr_zreturn C (Or.inr rfl) d_Mo_leaf_222 ⟨by rw [h2]; rfl, by rw [h2]; exact hR, hF⟩
      · exact absurd c_129 (by rw [h3]; omega)
  have loop : 4 ≤ S.1 5 j → ∀ (n k : Nat) (S1 : Ms) (w1 : fxW), k + n = hi → S1.1 = S.1 → LL = lfF j (24 * o) k n S1 → MoR S1 m w1 → MoF m w w1 → fxR G 5 x (fxQ G x QQ) w1 111 [(4, zi (k : Int)), (3, zi (24 * (o : Int))), (2, zi (j : Int)), (0, .ref m), (1, zi (t : Int))] [] := by
    intro hk n
    induction n with
    | zero =>
      intro k S1 w h1 h3 h2 hR hF
      refine r_iload C d_Mo_leaf_111 rfl ?_
      refine r_aload_n C d_Mo_leaf_113 rfl rfl ?_
      refine g_Mo_53 C d_Mo_leaf_114 hR.1 (hR.ar 17 rfl) ?_
      refine r_iload_n C d_Mo_leaf_117 rfl rfl ?_
      refine zr_iaload (t := 1) (k := t) C d_Mo_leaf_118 (by decide) rfl (Or.inl (hR.kd 17 rfl)) (by omega) (by show t < 600; omega) (by decide) (hR.el 17 rfl (by show t < 600; omega)) ?_
      refine zr_icmp_ge (tgt := 221) C d_Mo_leaf_119 (by decide) (by unfold zok; omega) (by rw [h3, e17]; unfold zok; omega) (fun c_119 => ?_) (fun c_119 => ?_)
      · refine r_iconst C d_Mo_leaf_221 rfl ?_
        rw [← hQ]
        exact zr_zreturn C (Or.inr rfl) d_Mo_leaf_222 ⟨by rw [h2]; rfl, by rw [h2]; exact hR, hF⟩
      · exact absurd c_119 (by rw [h3, e17]; omega)
    | succ n ih =>
      intro k S1 w h1 h3 h2 hR hF
      have hB1 : Bi S1 := by
        have : S1 = (S.1, S1.2) := Prod.ext h3 rfl
        rw [this]; exact hB
      refine r_iload C d_Mo_leaf_111 rfl ?_
      refine r_aload_n C d_Mo_leaf_113 rfl rfl ?_
      refine g_Mo_53 C d_Mo_leaf_114 hR.1 (hR.ar 17 rfl) ?_
      refine r_iload_n C d_Mo_leaf_117 rfl rfl ?_
      refine zr_iaload (t := 1) (k := t) C d_Mo_leaf_118 (by decide) rfl (Or.inl (hR.kd 17 rfl)) (by omega) (by show t < 600; omega) (by decide) (hR.el 17 rfl (by show t < 600; omega)) ?_
      refine zr_icmp_ge (tgt := 221) C d_Mo_leaf_119 (by decide) (by unfold zok; omega) (by rw [h3, e17]; unfold zok; omega) (fun c_119 => ?_) (fun c_119 => ?_)
      · exact absurd c_119 (by rw [h3, e17]; omega)
      · refine r_aload_n C d_Mo_leaf_122 rfl rfl ?_
        refine g_Mo_20 C d_Mo_leaf_123 hR.1 (hR.ar 5 rfl) ?_
        refine r_iload_n C d_Mo_leaf_126 rfl rfl ?_
        refine zr_iaload (t := 1) (k := j) C d_Mo_leaf_127 (by decide) rfl (Or.inl (hR.kd 5 rfl)) (by omega) (by show j < 12; omega) (by decide) (hR.el 5 rfl (by show j < 12; omega)) ?_
        refine r_iconst C d_Mo_leaf_128 rfl ?_
        refine zr_icmp_le (tgt := 221) C d_Mo_leaf_129 (by decide) (by rw [h3]; unfold zok; omega) (by unfold zok; omega) (fun c_129 => ?_) (fun c_129 => ?_)
        · exact absurd c_129 (by rw [h3]; omega)
        · have last : (S1.1 5 j = 5 → ¬ S1.2 4 (24 * o + k) = 0) → fxR G 5 x (fxQ G x QQ) w 165 [(4, zi (k : Int)), (3, zi (24 * (o : Int))), (2, zi (j : Int)), (0, .ref m), (1, zi (t : Int))] [] := by
            intro hz
            have ez : LL = lfF j (24 * o) (k + 1) n (sq S1 4 (24 * o + k) (if S1.1 5 j = 4 then mapF S1 j (S1.2 4 (24 * o + k)) else shaF S1 j (S1.2 4 (24 * o + k)))) := by
              rw [h2, lfF_succ, if_neg (fun q => hz q.1 q.2)]
            refine r_aload_n C d_Mo_leaf_165 rfl rfl ?_
            refine g_Mo_16 C d_Mo_leaf_166 hR.1 (hR.arL 4 rfl) ?_
            refine r_iload_n C d_Mo_leaf_169 rfl rfl ?_
            refine r_iload C d_Mo_leaf_170 rfl ?_
            refine zr_iadd C d_Mo_leaf_172 ?_
            refine r_aload_n C d_Mo_leaf_173 rfl rfl ?_
            refine g_Mo_20 C d_Mo_leaf_174 hR.1 (hR.ar 5 rfl) ?_
            refine r_iload_n C d_Mo_leaf_177 rfl rfl ?_
            refine zr_iaload (t := 1) (k := j) C d_Mo_leaf_178 (by decide) rfl (Or.inl (hR.kd 5 rfl)) (by omega) (by show j < 12; omega) (by decide) (hR.el 5 rfl (by show j < 12; omega)) ?_
            refine r_iconst C d_Mo_leaf_179 rfl ?_
            refine zr_icmp_ne (tgt := 200) C d_Mo_leaf_180 (by decide) (by rw [h3]; unfold zok; omega) (by unfold zok; omega) (fun c_180 => ?_) (fun c_180 => ?_)
            · refine r_aload_n C d_Mo_leaf_200 rfl rfl ?_
              refine r_iload_n C d_Mo_leaf_201 rfl rfl ?_
              refine r_aload_n C d_Mo_leaf_202 rfl rfl ?_
              refine g_Mo_16 C d_Mo_leaf_203 hR.1 (hR.arL 4 rfl) ?_
              refine r_iload_n C d_Mo_leaf_206 rfl rfl ?_
              refine r_iload C d_Mo_leaf_207 rfl ?_
              refine zr_iadd C d_Mo_leaf_209 ?_
              refine zr_laload (t := 0) (k := 24 * o + k) C d_Mo_leaf_210 (by decide) rfl (Or.inl (hR.kdL 4 rfl)) (by omega) (by show 24 * o + k < 96; omega) (by decide) (hR.elL 4 rfl (by show 24 * o + k < 96; omega)) ?_
              refine c_Mo_171 C d_Mo_leaf_211 hR.1 (m_shared 1 hR j o _ (hz (by rw [h3] at c_180 ⊢; omega)) (by omega) h12 (by rw [h3]; exact e6) h4 (by rw [h3]; unfold zok; omega) (by rw [h3]; exact ht0)) (by omega) (Nat.le_of_ble_eq_true rfl) (fxPure.k1 ?_) fxPure.k2
              refine zr_lastore (t := 0) (k := 24 * o + k) C d_Mo_leaf_214 (by decide) rfl (hR.kdL 4 rfl) (by omega) (by show 24 * o + k < 96; omega) (by decide) ?_
              refine mo_abL 4 hR rfl (fun w hR hF9 => ?_)
              have hF := hF.tr hF9
              refine zr_iinc (ls' := [(4, _), (3, _), (2, _), (0, _), (1, _)]) C d_Mo_leaf_215 rfl (by decide) rfl ?_
              refine r_goto (tgt := 111) C d_Mo_leaf_218 (by decide) ?_
              refine ih (k + 1) _ w (by omega) ?_ (by rw [ez, if_neg c_180]) hR hF
              exact h3
            · refine r_aload_n C d_Mo_leaf_183 rfl rfl ?_
              refine r_iload_n C d_Mo_leaf_184 rfl rfl ?_
              refine r_aload_n C d_Mo_leaf_185 rfl rfl ?_
              refine g_Mo_16 C d_Mo_leaf_186 hR.1 (hR.arL 4 rfl) ?_
              refine r_iload_n C d_Mo_leaf_189 rfl rfl ?_
              refine r_iload C d_Mo_leaf_190 rfl ?_
              refine zr_iadd C d_Mo_leaf_192 ?_
              refine zr_laload (t := 0) (k := 24 * o + k) C d_Mo_leaf_193 (by decide) rfl (Or.inl (hR.kdL 4 rfl)) (by omega) (by show 24 * o + k < 96; omega) (by decide) (hR.elL 4 rfl (by show 24 * o + k < 96; omega)) ?_
              refine c_Mo_168 C d_Mo_leaf_194 hR.1 (m_mapped 1 hR j o _ (by omega) h12 (by rw [h3]; exact e6) h4 (by rw [h3]; unfold zok; omega) (by rw [h3]; exact ht0)) (by omega) (Nat.le_of_ble_eq_true rfl) (fxPure.k1 ?_) fxPure.k2
              refine r_goto (tgt := 214) C d_Mo_leaf_197 (by decide) ?_
              refine zr_lastore (t := 0) (k := 24 * o + k) C d_Mo_leaf_214 (by decide) rfl (hR.kdL 4 rfl) (by omega) (by show 24 * o + k < 96; omega) (by decide) ?_
              refine mo_abL 4 hR rfl (fun w hR hF9 => ?_)
              have hF := hF.tr hF9
              refine zr_iinc (ls' := [(4, _), (3, _), (2, _), (0, _), (1, _)]) C d_Mo_leaf_215 rfl (by decide) rfl ?_
              refine r_goto (tgt := 111) C d_Mo_leaf_218 (by decide) ?_
              refine ih (k + 1) _ w (by omega) ?_ (by rw [ez, if_pos c_180]) hR hF
              exact h3
          refine r_aload_n C d_Mo_leaf_132 rfl rfl ?_
          refine g_Mo_20 C d_Mo_leaf_133 hR.1 (hR.ar 5 rfl) ?_
          refine r_iload_n C d_Mo_leaf_136 rfl rfl ?_
          refine zr_iaload (t := 1) (k := j) C d_Mo_leaf_137 (by decide) rfl (Or.inl (hR.kd 5 rfl)) (by omega) (by show j < 12; omega) (by decide) (hR.el 5 rfl (by show j < 12; omega)) ?_
          refine r_iconst C d_Mo_leaf_138 rfl ?_
          refine zr_icmp_ne (tgt := 165) C d_Mo_leaf_139 (by decide) (by rw [h3]; unfold zok; omega) (by unfold zok; omega) (fun c_139 => ?_) (fun c_139 => ?_)
          · exact last (fun q => absurd q c_139)
          · refine r_aload_n C d_Mo_leaf_142 rfl rfl ?_
            refine g_Mo_16 C d_Mo_leaf_143 hR.1 (hR.arL 4 rfl) ?_
            refine r_iload_n C d_Mo_leaf_146 rfl rfl ?_
            refine r_iload C d_Mo_leaf_147 rfl ?_
            refine zr_iadd C d_Mo_leaf_149 ?_
            refine zr_laload (t := 0) (k := 24 * o + k) C d_Mo_leaf_150 (by decide) rfl (Or.inl (hR.kdL 4 rfl)) (by omega) (by show 24 * o + k < 96; omega) (by decide) (hR.elL 4 rfl (by show 24 * o + k < 96; omega)) ?_
            refine r_lconst (v := 0) C d_Mo_leaf_151 (by decide) ?_
            refine zr_lif_ne (tgt := 165) C d_Mo_leaf_152 d_Mo_leaf_153 (by decide) (fun c_152 => ?_) (fun c_152 => ?_)
            · exact last (fun q => c_152)
            · refine r_aload_n C d_Mo_leaf_156 rfl rfl ?_
              refine r_iload_n C d_Mo_leaf_157 rfl rfl ?_
              refine r_iload C d_Mo_leaf_158 rfl ?_
              refine c_Mo_165 C d_Mo_leaf_160 hR.1 (m_end 1 hR (by omega) j k h12 hB1) (by omega) (Nat.le_of_ble_eq_true rfl) (moVoid.k1 (fun w hR hF9 => ?_)) moVoid.k2
              have hF := hF.tr hF9
              refine r_iconst C d_Mo_leaf_163 rfl ?_
              have e2 : LL = (false, mEnd S1 j k) := by rw [h2, lfF_succ, if_pos ⟨c_139, c_152⟩]
              rw [← hQ]
              exact zr_zreturn C (Or.inl rfl) d_Mo_leaf_164 ⟨by rw [e2]; rfl, by rw [e2]; exact hR, hF⟩
  have hF : MoF m w w := MoF.rf
  have red : (S.1 5 j < 2 ∨ (S.1 5 j = 2 ∧ S.1 13 j = 1)) → fxR G 5 x (fxQ G x QQ) w 47 [(3, zi (24 * (o : Int))), (2, zi (j : Int)), (0, .ref m), (1, zi (t : Int))] [] := by
    intro hc
    refine r_aload_n C d_Mo_leaf_47 rfl rfl ?_
    refine g_Mo_65 C d_Mo_leaf_48 hR.1 (hR.arL 21 rfl) ?_
    refine r_iload_n C d_Mo_leaf_51 rfl rfl ?_
    refine r_aload_n C d_Mo_leaf_52 rfl rfl ?_
    refine r_iload_n C d_Mo_leaf_53 rfl rfl ?_
    refine c_Mo_153 C d_Mo_leaf_54 hR.1 (m_reduced 2 hR (by omega) TT) (by omega) (Nat.le_of_ble_eq_true rfl) (fxPure.k1 ?_) fxPure.k2
    refine zr_lastore (t := 0) (k := t) C d_Mo_leaf_57 (by decide) rfl (hR.kdL 21 rfl) (by omega) (by show t < 600; omega) (by decide) ?_
    refine mo_abL 21 hR rfl (fun w hR hF9 => ?_)
    have hF := hF.tr hF9
    refine r_goto (tgt := 76) C d_Mo_leaf_58 (by decide) ?_
    refine r_aload_n C d_Mo_leaf_76 rfl rfl ?_
    refine g_Mo_20 C d_Mo_leaf_77 hR.1 (hR.ar 5 rfl) ?_
    refine r_iload_n C d_Mo_leaf_80 rfl rfl ?_
    refine zr_iaload (t := 1) (k := j) C d_Mo_leaf_81 (by decide) rfl (Or.inl (hR.kd 5 rfl)) (by omega) (by show j < 12; omega) (by decide) (hR.el 5 rfl (by show j < 12; omega)) ?_
    refine r_iconst C d_Mo_leaf_82 rfl ?_
    refine zr_icmp_ne (tgt := 103) C d_Mo_leaf_83 (by decide) (show zok (S.1 5 j) by unfold zok; omega) (by unfold zok; omega) (fun c_83 => ?_) (fun c_83 => ?_)
    · exact fin (sq S 21 t (mReduced S t)) w rfl (by omega) (by rw [← hL, if_pos hc]) hR hF
    · exact absurd c_83 (by show ¬ S.1 5 j = 3; omega)
  have rest : ¬ (S.1 5 j < 2 ∨ (S.1 5 j = 2 ∧ S.1 13 j = 1)) → fxR G 5 x (fxQ G x QQ) w 61 [(3, zi (24 * (o : Int))), (2, zi (j : Int)), (0, .ref m), (1, zi (t : Int))] [] := by
    intro hc
    rw [if_neg hc] at hL
    refine r_aload_n C d_Mo_leaf_61 rfl rfl ?_
    refine g_Mo_20 C d_Mo_leaf_62 hR.1 (hR.ar 5 rfl) ?_
    refine r_iload_n C d_Mo_leaf_65 rfl rfl ?_
    refine zr_iaload (t := 1) (k := j) C d_Mo_leaf_66 (by decide) rfl (Or.inl (hR.kd 5 rfl)) (by omega) (by show j < 12; omega) (by decide) (hR.el 5 rfl (by show j < 12; omega)) ?_
    refine r_iconst C d_Mo_leaf_67 rfl ?_
    refine zr_icmp_ne (tgt := 76) C d_Mo_leaf_68 (by decide) (by unfold zok; omega) (by unfold zok; omega) (fun c_68 => ?_) (fun c_68 => ?_)
    · rw [if_neg c_68] at hL
      refine r_aload_n C d_Mo_leaf_76 rfl rfl ?_
      refine g_Mo_20 C d_Mo_leaf_77 hR.1 (hR.ar 5 rfl) ?_
      refine r_iload_n C d_Mo_leaf_80 rfl rfl ?_
      refine zr_iaload (t := 1) (k := j) C d_Mo_leaf_81 (by decide) rfl (Or.inl (hR.kd 5 rfl)) (by omega) (by show j < 12; omega) (by decide) (hR.el 5 rfl (by show j < 12; omega)) ?_
      refine r_iconst C d_Mo_leaf_82 rfl ?_
      refine zr_icmp_ne (tgt := 103) C d_Mo_leaf_83 (by decide) (by unfold zok; omega) (by unfold zok; omega) (fun c_83 => ?_) (fun c_83 => ?_)
      · rw [if_neg c_83] at hL
        refine r_aload_n C d_Mo_leaf_103 rfl rfl ?_
        refine g_Mo_50 C d_Mo_leaf_104 hR.1 (hR.ar 16 rfl) ?_
        refine r_iload_n C d_Mo_leaf_107 rfl rfl ?_
        refine zr_iaload (t := 1) (k := t) C d_Mo_leaf_108 (by decide) rfl (Or.inl (hR.kd 16 rfl)) (by omega) (by show t < 600; omega) (by decide) (hR.el 16 rfl (by show t < 600; omega)) ?_
        rw [e16]
        refine r_istore (ls' := [(4, _), (3, _), (2, _), (0, _), (1, _)]) C d_Mo_leaf_109 (by decide) rfl ?_
        exact loop (by omega) (hi - lo) lo S w (by omega) rfl hL.symm hR hF
      · rw [if_pos c_83] at hL
        refine r_aload_n C d_Mo_leaf_86 rfl rfl ?_
        refine r_iload_n C d_Mo_leaf_87 rfl rfl ?_
        refine r_aload_n C d_Mo_leaf_88 rfl rfl ?_
        refine g_Mo_50 C d_Mo_leaf_89 hR.1 (hR.ar 16 rfl) ?_
        refine r_iload_n C d_Mo_leaf_92 rfl rfl ?_
        refine zr_iaload (t := 1) (k := t) C d_Mo_leaf_93 (by decide) rfl (Or.inl (hR.kd 16 rfl)) (by omega) (by show t < 600; omega) (by decide) (hR.el 16 rfl (by show t < 600; omega)) ?_
        rw [e16]
        refine r_aload_n C d_Mo_leaf_94 rfl rfl ?_
        refine g_Mo_53 C d_Mo_leaf_95 hR.1 (hR.ar 17 rfl) ?_
        refine r_iload_n C d_Mo_leaf_98 rfl rfl ?_
        refine zr_iaload (t := 1) (k := t) C d_Mo_leaf_99 (by decide) rfl (Or.inl (hR.kd 17 rfl)) (by omega) (by show t < 600; omega) (by decide) (hR.el 17 rfl (by show t < 600; omega)) ?_
        rw [e17]
        refine c_Mo_161 C d_Mo_leaf_100 hR.1 (m_order 2 hR (a := 24 * o) (by omega) hlh h24) (by omega) (Nat.le_of_ble_eq_true rfl) (moVoid.k1 (fun w hR hF9 => ?_)) moVoid.k2
        have hF := hF.tr hF9
        refine fin _ w (mOrder_1 _ _ _ _) (by omega) hL.symm hR hF
    · rw [if_pos c_68] at hL
      refine r_aload_n C d_Mo_leaf_71 rfl rfl ?_
      refine r_iload_n C d_Mo_leaf_72 rfl rfl ?_
      refine c_Mo_157 C d_Mo_leaf_73 hR.1 (m_spread 2 hR (by omega) TT) (by omega) (Nat.le_of_ble_eq_true rfl) (moVoid.k1 (fun w hR hF9 => ?_)) moVoid.k2
      have hF := hF.tr hF9
      refine r_aload_n C d_Mo_leaf_76 rfl rfl ?_
      refine g_Mo_20 C d_Mo_leaf_77 hR.1 (hR.ar 5 rfl) ?_
      refine r_iload_n C d_Mo_leaf_80 rfl rfl ?_
      refine zr_iaload (t := 1) (k := j) C d_Mo_leaf_81 (by decide) rfl (Or.inl (hR.kd 5 rfl)) (by omega) (by show j < 12; omega) (by decide) (hR.el 5 rfl (by show j < 12; omega)) ?_
      refine r_iconst C d_Mo_leaf_82 rfl ?_
      refine zr_icmp_ne (tgt := 103) C d_Mo_leaf_83 (by decide) (by rw [mSpread_1]; unfold zok; omega) (by unfold zok; omega) (fun c_83 => ?_) (fun c_83 => ?_)
      · exact fin _ w (mSpread_1 _ _) (by omega) hL.symm hR hF
      · exact absurd c_83 (by rw [mSpread_1]; omega)
  show fxR G 5 x _ w 0 [(0, .ref m), (1, zi (t : Int))] []
  refine r_aload_n C d_Mo_leaf_0 rfl rfl ?_
  refine g_Mo_47 C d_Mo_leaf_1 hR.1 (hR.ar 15 rfl) ?_
  refine r_iload_n C d_Mo_leaf_4 rfl rfl ?_
  refine zr_iaload (t := 1) (k := t) C d_Mo_leaf_5 (by decide) rfl (Or.inl (hR.kd 15 rfl)) (by omega) (by show t < 600; omega) (by decide) (hR.el 15 rfl (by show t < 600; omega)) ?_
  rw [e15]
  refine r_istore_n (ls' := [(2, _), (0, _), (1, _)]) C d_Mo_leaf_6 rfl (by decide) rfl ?_
  refine r_bipush (v := Int32.ofInt 24) C d_Mo_leaf_7 (by decide) ?_
  refine r_aload_n C d_Mo_leaf_9 rfl rfl ?_
  refine g_Mo_23 C d_Mo_leaf_10 hR.1 (hR.ar 6 rfl) ?_
  refine r_iload_n C d_Mo_leaf_13 rfl rfl ?_
  refine zr_iaload (t := 1) (k := j) C d_Mo_leaf_14 (by decide) rfl (Or.inl (hR.kd 6 rfl)) (by omega) (by show j < 12; omega) (by decide) (hR.el 6 rfl (by show j < 12; omega)) ?_
  rw [e6]
  refine zr_imul C d_Mo_leaf_15 ?_
  refine r_istore_n (ls' := [(3, _), (2, _), (0, _), (1, _)]) C d_Mo_leaf_16 rfl (by decide) rfl ?_
  refine r_aload_n C d_Mo_leaf_17 rfl rfl ?_
  refine g_Mo_20 C d_Mo_leaf_18 hR.1 (hR.ar 5 rfl) ?_
  refine r_iload_n C d_Mo_leaf_21 rfl rfl ?_
  refine zr_iaload (t := 1) (k := j) C d_Mo_leaf_22 (by decide) rfl (Or.inl (hR.kd 5 rfl)) (by omega) (by show j < 12; omega) (by decide) (hR.el 5 rfl (by show j < 12; omega)) ?_
  refine r_iconst C d_Mo_leaf_23 rfl ?_
  refine zr_icmp_lt (tgt := 47) C d_Mo_leaf_24 (by decide) (by unfold zok; omega) (by unfold zok; omega) (fun c_24 => ?_) (fun c_24 => ?_)
  · exact red (Or.inl c_24)
  · refine r_aload_n C d_Mo_leaf_27 rfl rfl ?_
    refine g_Mo_20 C d_Mo_leaf_28 hR.1 (hR.ar 5 rfl) ?_
    refine r_iload_n C d_Mo_leaf_31 rfl rfl ?_
    refine zr_iaload (t := 1) (k := j) C d_Mo_leaf_32 (by decide) rfl (Or.inl (hR.kd 5 rfl)) (by omega) (by show j < 12; omega) (by decide) (hR.el 5 rfl (by show j < 12; omega)) ?_
    refine r_iconst C d_Mo_leaf_33 rfl ?_
    refine zr_icmp_ne (tgt := 61) C d_Mo_leaf_34 (by decide) (by unfold zok; omega) (by unfold zok; omega) (fun c_34 => ?_) (fun c_34 => ?_)
    · exact rest (by omega)
    · refine r_aload_n C d_Mo_leaf_37 rfl rfl ?_
      refine g_Mo_44 C d_Mo_leaf_38 hR.1 (hR.ar 13 rfl) ?_
      refine r_iload_n C d_Mo_leaf_41 rfl rfl ?_
      refine zr_iaload (t := 1) (k := j) C d_Mo_leaf_42 (by decide) rfl (Or.inl (hR.kd 13 rfl)) (by omega) (by show j < 12; omega) (by decide) (hR.el 13 rfl (by show j < 12; omega)) ?_
      refine r_iconst C d_Mo_leaf_43 rfl ?_
      refine zr_icmp_ne (tgt := 61) C d_Mo_leaf_44 (by decide) (by unfold zok; omega) (by unfold zok; omega) (fun c_44 => ?_) (fun c_44 => ?_)
      · exact rest (by omega)
      · exact red (by omega)

/-! THE LAW'S CASES, by gen_law.py -/
section FXS
variable {G : fxG} {d nL : Nat} {cc : ByteArray} {own nm : String} {ret : Option FieldType} {hh : List (Nat × Nat × Nat × Nat)} {x : fxX} {Q : State → Prop} {w : fxW} {pc : Nat} {ls : List (Nat × Value)} {st : List Value}
theorem r_lshl (C : fxC G d cc nL own nm ret hh x) {a : Int64} {b : Int32} (hd : decode cc pc = .ok (.lshl, 1)) (k : fxR G nL x Q w (pc + 1) ls (.long (a <<< (b.toInt64 &&& 63)) :: st)) : fxR G nL x Q w pc ls (.int b :: .long a :: st) := by
  obtain ⟨p, e, R, s, m, args, below, meth, c, t0, u0⟩ := x
  obtain ⟨hx, hb', C2⟩ := C
  exact fx_lift (fun H locs sl cells slots h3 kk => lv_lshl hx hb' hd rfl kk) k
end FXS
/-- what holds at the head of the law's loop: the pool and the reference hold one state -/
def LI (G : fxG) (b L o m : Nat) (ys : Nat → Int) (A : Ad) (S : Ms) (w : fxW) : Prop := Rc G A S w ∧ Inv3 S ∧ MoR S m w ∧ fxk w b = some (201, L) ∧ (∀ j, j < L → fxe w 1 b j = zi (ys j)) ∧ fxk w o = some (100, 1)
theorem LI.o1 {G : fxG} {b L o m c u : Nat} {ys : Nat → Int} {A : Ad} {S : Ms} {w w1 : fxW} (h : LI G b L o m ys A S w) (g3 : CFo o c u w w1) : MoR S m w1 ∧ fxk w1 b = some (201, L) ∧ (∀ j, j < L → fxe w1 1 b j = zi (ys j)) ∧ fxk w1 o = some (100, 1) := by
  obtain ⟨h1, h2, h3, h4, h5, h6⟩ := h
  have hbo : b ≠ o := fun z => by subst z; cases h4.symm.trans h6
  exact ⟨h3.cfo g3 h6, g3.2.2.2.2.1 _ _ h4, fun j hj => ((g3.2.2.2.2.2 b _ h4 (Or.inr (Or.inr (Or.inl rfl))) hbo).2 1 j).trans (h5 j hj), g3.2.2.2.2.1 _ _ h6⟩
theorem LI.go {G : fxG} {b L o m c u : Nat} {ys : Nat → Int} {A A1 : Ad} {S S' : Ms} {w w1 w2 : fxW} (h : LI G b L o m ys A S w) (gd : Inv3 S') (g2 : Rc G A1 S' w1) (g3 : CFo o c u w w1) (r : MoR S' m w2) (f : MoF m w1 w2) : LI G b L o m ys A1 S' w2 ∧ fxt w2 ≤ fxt w + c ∧ fxu w2 ≤ fxu w + u ∧ fxe w2 0 o 0 = fxe w1 0 o 0 := by
  obtain ⟨r1, k1, e1, o1⟩ := h.o1 g3
  have nb : ¬ (m ≤ b ∧ b < m + 27) := fun z => by
    obtain ⟨q, q1, -, -, q2⟩ := r1.fg z.1 z.2
    cases q1.symm.trans k1
    exact q2 rfl
  have no : ¬ (m ≤ o ∧ o < m + 27) := fun z => by
    obtain ⟨q, q1, -, q2, -⟩ := r1.fg z.1 z.2
    exact q2 (Option.some.inj (q1.symm.trans o1))
  refine ⟨⟨g2.mof r1 f, gd, r, (f.2.2.1 b).trans k1, fun j hj => (f.2.2.2.2 1 b j nb).trans (e1 j hj), (f.2.2.1 o).trans o1⟩, ?_, ?_, f.2.2.2.2 0 o 0 no⟩
  · rw [f.1]; exact g3.2.1
  · rw [f.2.1]; exact g3.2.2.2.1

set_option maxRecDepth 20000 in
theorem law_array {G : fxG} {nm : String} {rt : Option FieldType} {hh : List (Nat × Nat × Nat × Nat)} {x : fxX} {Q : State → Prop} (C : fxC G 16 cc_Lw_law 8 "ForkPoolLaw" nm rt hh x) {b L o m i : Nat} {ys : Nat → Int} {A : Ad} {S : Ms} {w : fxW} (hL : L ≤ 3073) (zy : ∀ j, zok (ys j)) (h : LI G b L o m ys A S w) (hi : i + 6 ≤ L) (t9 : fxt w + (4 * (Lam S).toNat + 3) ≤ fxmt G) (t8 : fxu w + (1818 * (Lam S).toNat + 919) ≤ fxmu G)
    (k : ∀ A' S' w', LI G b L o m ys A' S' w' → A' 0 0 = A 0 0 → Lam S' ≤ Lam S → fxt w' ≤ fxt w + (4 * (Lam S - Lam S').toNat + 3) → fxu w' ≤ fxu w + (1818 * (Lam S - Lam S').toNat + 919) → fxR G 8 x Q w' 1029 [(4, zi (i : Int)), (0, .ref b), (1, .ref (A 0 0)), (2, .ref m), (3, .ref o)] []) : fxR G 8 x Q w 116 [(4, zi (i : Int)), (0, .ref b), (1, .ref (A 0 0)), (2, .ref m), (3, .ref o)] [] := by
  obtain ⟨hRc, hI, hMo, kb, he, ho⟩ := id h
  have gd := gd_array hI (ys (i + 1)) (ys (i + 2)) (ys (i + 3))
  have hM := m_Lw_array (G := G) 13 hRc hI (by omega) ho (ys (i + 1)) (ys (i + 2)) (ys (i + 3)) (zy _) (zy _) (zy _) t9 t8
  generalize hMM : mArray S (ys (i + 1)) (ys (i + 2)) (ys (i + 3)) = MM at hM gd
  refine r_aload_n C d_Lw_law_116 rfl rfl ?_
  refine r_aload_n C d_Lw_law_117 rfl rfl ?_
  refine r_iload C d_Lw_law_118 rfl ?_
  refine r_iconst C d_Lw_law_120 rfl ?_
  refine zr_iadd C d_Lw_law_121 ?_
  refine zr_iaload C d_Lw_law_122 (by decide) rfl (t := 1) (k := i + 1) (Or.inr kb) (by omega) (by omega) (by omega) (he _ (by omega)) ?_
  refine r_aload_n C d_Lw_law_123 rfl rfl ?_
  refine r_iload C d_Lw_law_124 rfl ?_
  refine r_iconst C d_Lw_law_126 rfl ?_
  refine zr_iadd C d_Lw_law_127 ?_
  refine zr_iaload C d_Lw_law_128 (by decide) rfl (t := 1) (k := i + 2) (Or.inr kb) (by omega) (by omega) (by omega) (he _ (by omega)) ?_
  refine r_aload_n C d_Lw_law_129 rfl rfl ?_
  refine r_iload C d_Lw_law_130 rfl ?_
  refine r_iconst C d_Lw_law_132 rfl ?_
  refine zr_iadd C d_Lw_law_133 ?_
  refine zr_iaload C d_Lw_law_134 (by decide) rfl (t := 1) (k := i + 3) (Or.inr kb) (by omega) (by omega) (by omega) (he _ (by omega)) ?_
  refine r_aload_n C d_Lw_law_135 rfl rfl ?_
  refine c_Lw_77 C d_Lw_law_136 hM (by omega) (Nat.le_of_ble_eq_true rfl) ?_ (fun a w' z => by cases z.1)
  rintro v' w1 ⟨e9, hb9, A1, g1, g2, g3, g4⟩
  cases e9
  obtain ⟨r1, kb1, he1, ho1⟩ := h.o1 g3
  have hN := m_array (G := G) 12 r1 (by omega) hI.1.1.1 (ys (i + 1)) (ys (i + 2)) (ys (i + 3)) (zy _) (zy _) (zy _)
  rw [hMM] at hN
  show fxR G 8 x _ w1 139 [(4, zi (i : Int)), (0, .ref b), (1, .ref (A 0 0)), (2, .ref m), (3, .ref o)] [zi (MM.2.1 0 0)]
  refine r_istore (ls' := [(5, _), (4, _), (0, _), (1, _), (2, _), (3, _)]) C d_Lw_law_139 (by decide) rfl ?_
  refine r_aload_n C d_Lw_law_141 rfl rfl ?_
  refine r_aload_n C d_Lw_law_142 rfl rfl ?_
  refine r_iload C d_Lw_law_143 rfl ?_
  refine r_iconst C d_Lw_law_145 rfl ?_
  refine zr_iadd C d_Lw_law_146 ?_
  refine zr_iaload C d_Lw_law_147 (by decide) rfl (t := 1) (k := i + 1) (Or.inr kb1) (by omega) (by omega) (by omega) (he1 _ (by omega)) ?_
  refine r_aload_n C d_Lw_law_148 rfl rfl ?_
  refine r_iload C d_Lw_law_149 rfl ?_
  refine r_iconst C d_Lw_law_151 rfl ?_
  refine zr_iadd C d_Lw_law_152 ?_
  refine zr_iaload C d_Lw_law_153 (by decide) rfl (t := 1) (k := i + 2) (Or.inr kb1) (by omega) (by omega) (by omega) (he1 _ (by omega)) ?_
  refine r_aload_n C d_Lw_law_154 rfl rfl ?_
  refine r_iload C d_Lw_law_155 rfl ?_
  refine r_iconst C d_Lw_law_157 rfl ?_
  refine zr_iadd C d_Lw_law_158 ?_
  refine zr_iaload C d_Lw_law_159 (by decide) rfl (t := 1) (k := i + 3) (Or.inr kb1) (by omega) (by omega) (by omega) (he1 _ (by omega)) ?_
  refine c_Lw_80 C d_Lw_law_160 r1.1 hN (by omega) (Nat.le_of_ble_eq_true rfl) (moRet.k1 fun w2 r2 f2 => ?_) moRet.k2
  obtain ⟨hL2, t2, u2, e2⟩ := h.go gd.1 g2 g3 r2 f2
  have ho2 := hL2.2.2.2.2.2
  have eA : A1 0 0 = A 0 0 := g1 0 0 (by decide) (by decide) (fun z => by cases z) (fun z => by cases z)
  have fin := k A1 MM.2 w2 hL2 eA gd.2.1 t2 u2
  refine r_istore (ls' := [(6, _), (5, _), (4, _), (0, _), (1, _), (2, _), (3, _)]) C d_Lw_law_163 (by decide) rfl ?_
  refine r_aload_n C d_Lw_law_165 rfl rfl ?_
  refine c_Lw_81 C d_Lw_law_166 r2.1 (m_thrown 0 r2) (by omega) (Nat.le_of_ble_eq_true rfl) (fxPure.k1 ?_) fxPure.k2
  refine r_iload C d_Lw_law_169 rfl ?_
  refine zr_icmp_eq (tgt := 176) C d_Lw_law_171 (by decide) (by unfold zok; omega) (by unfold zok; omega) (fun c_171 => ?_) (fun c_171 => ?_)
  · refine r_iload C d_Lw_law_176 rfl ?_
    refine zr_if_ne (tgt := 193) C d_Lw_law_178 (by decide) (by unfold zok; omega) (fun c_178 => ?_) (fun c_178 => ?_)
    · refine r_goto (tgt := 1029) C d_Lw_law_193 (by decide) ?_
      exact fx_sub (ls' := [(4, zi (i : Int)), (0, .ref b), (1, .ref (A 0 0)), (2, .ref m), (3, .ref o)]) (by simp [fxL]) fin
    · have ev := g4 c_178
      rw [← e2] at ev
      refine r_aload_n C d_Lw_law_181 rfl rfl ?_
      refine r_iconst C d_Lw_law_182 rfl ?_
      refine zr_laload C d_Lw_law_183 (by decide) rfl (t := 0) (k := 0) (Or.inl ho2) rfl (by decide) (by decide) ev ?_
      refine r_iload C d_Lw_law_184 rfl ?_
      refine r_i2l C d_Lw_law_186 rfl ?_
      refine zr_lif_eq (tgt := 193) C d_Lw_law_187 d_Lw_law_188 (by decide) (fun c_187 => ?_) (fun c_187 => ?_)
      · refine r_goto (tgt := 1029) C d_Lw_law_193 (by decide) ?_
        exact fx_sub (ls' := [(4, zi (i : Int)), (0, .ref b), (1, .ref (A 0 0)), (2, .ref m), (3, .ref o)]) (by simp [fxL]) fin
      · exact absurd rfl c_187
  · exact absurd rfl c_171
set_option maxRecDepth 20000 in
theorem law_set {G : fxG} {nm : String} {rt : Option FieldType} {hh : List (Nat × Nat × Nat × Nat)} {x : fxX} {Q : State → Prop} (C : fxC G 16 cc_Lw_law 8 "ForkPoolLaw" nm rt hh x) {b L o m i : Nat} {ys : Nat → Int} {A : Ad} {S : Ms} {w : fxW} (hL : L ≤ 3073) (zy : ∀ j, zok (ys j)) (h : LI G b L o m ys A S w) (hi : i + 6 ≤ L) (t9 : fxt w + (4 * (Lam S).toNat + 3) ≤ fxmt G) (t8 : fxu w + (1818 * (Lam S).toNat + 919) ≤ fxmu G)
    (k : ∀ A' S' w', LI G b L o m ys A' S' w' → A' 0 0 = A 0 0 → Lam S' ≤ Lam S → fxt w' ≤ fxt w + (4 * (Lam S - Lam S').toNat + 3) → fxu w' ≤ fxu w + (1818 * (Lam S - Lam S').toNat + 919) → fxR G 8 x Q w' 1029 [(4, zi (i : Int)), (0, .ref b), (1, .ref (A 0 0)), (2, .ref m), (3, .ref o)] []) : fxR G 8 x Q w 196 [(4, zi (i : Int)), (0, .ref b), (1, .ref (A 0 0)), (2, .ref m), (3, .ref o)] [] := by
  obtain ⟨hRc, hI, hMo, kb, he, ho⟩ := id h
  obtain ⟨V, hV⟩ : ∃ V : Int64, V = ((Int32.ofInt (ys (i + 3))).toInt64 <<< ((Int32.ofInt 32).toInt64 &&& 63)) ||| ((Int32.ofInt (ys (i + 4))).toInt64 &&& 4294967295) := ⟨_, rfl⟩
  have gd := gd_set hI (ys (i + 1)) (ys (i + 2)) V
  have hM := m_Lw_set (G := G) 13 hRc hI (by omega) ho (ys (i + 1)) (ys (i + 2)) V (zy _) (zy _) t9 t8
  generalize hMM : mSet S (ys (i + 1)) (ys (i + 2)) V = MM at hM gd
  refine r_aload_n C d_Lw_law_196 rfl rfl ?_
  refine r_aload_n C d_Lw_law_197 rfl rfl ?_
  refine r_iload C d_Lw_law_198 rfl ?_
  refine r_iconst C d_Lw_law_200 rfl ?_
  refine zr_iadd C d_Lw_law_201 ?_
  refine zr_iaload C d_Lw_law_202 (by decide) rfl (t := 1) (k := i + 1) (Or.inr kb) (by omega) (by omega) (by omega) (he _ (by omega)) ?_
  refine r_aload_n C d_Lw_law_203 rfl rfl ?_
  refine r_iload C d_Lw_law_204 rfl ?_
  refine r_iconst C d_Lw_law_206 rfl ?_
  refine zr_iadd C d_Lw_law_207 ?_
  refine zr_iaload C d_Lw_law_208 (by decide) rfl (t := 1) (k := i + 2) (Or.inr kb) (by omega) (by omega) (by omega) (he _ (by omega)) ?_
  refine r_aload_n C d_Lw_law_209 rfl rfl ?_
  refine r_iload C d_Lw_law_210 rfl ?_
  refine r_iconst C d_Lw_law_212 rfl ?_
  refine zr_iadd C d_Lw_law_213 ?_
  refine zr_iaload C d_Lw_law_214 (by decide) rfl (t := 1) (k := i + 3) (Or.inr kb) (by omega) (by omega) (by omega) (he _ (by omega)) ?_
  refine r_i2l C d_Lw_law_215 rfl ?_
  refine r_bipush (v := Int32.ofInt 32) C d_Lw_law_216 (by decide) ?_
  refine r_lshl C d_Lw_law_218 ?_
  refine r_aload_n C d_Lw_law_219 rfl rfl ?_
  refine r_iload C d_Lw_law_220 rfl ?_
  refine r_iconst C d_Lw_law_222 rfl ?_
  refine zr_iadd C d_Lw_law_223 ?_
  refine zr_iaload C d_Lw_law_224 (by decide) rfl (t := 1) (k := i + 4) (Or.inr kb) (by omega) (by omega) (by omega) (he _ (by omega)) ?_
  refine r_i2l C d_Lw_law_225 rfl ?_
  refine r_ldc2 (v := 4294967295) C d_Lw_law_226 (fxTW_in 1005 (by decide +kernel) rfl) ?_
  refine r_land C d_Lw_law_229 ?_
  refine r_lor C d_Lw_law_230 ?_
  rw [← hV]
  refine r_aload_n C d_Lw_law_231 rfl rfl ?_
  refine c_Lw_87 C d_Lw_law_232 hM (by omega) (Nat.le_of_ble_eq_true rfl) ?_ (fun a w' z => by cases z.1)
  rintro v' w1 ⟨e9, hb9, A1, g1, g2, g3, g4⟩
  cases e9
  obtain ⟨r1, kb1, he1, ho1⟩ := h.o1 g3
  have hN := m_set (G := G) 12 r1 (by omega) hI.1.1.1 (ys (i + 1)) (ys (i + 2)) V (zy _) (zy _)
  rw [hMM] at hN
  show fxR G 8 x _ w1 235 [(4, zi (i : Int)), (0, .ref b), (1, .ref (A 0 0)), (2, .ref m), (3, .ref o)] [zi (MM.2.1 0 0)]
  refine r_istore (ls' := [(5, _), (4, _), (0, _), (1, _), (2, _), (3, _)]) C d_Lw_law_235 (by decide) rfl ?_
  refine r_aload_n C d_Lw_law_237 rfl rfl ?_
  refine r_aload_n C d_Lw_law_238 rfl rfl ?_
  refine r_iload C d_Lw_law_239 rfl ?_
  refine r_iconst C d_Lw_law_241 rfl ?_
  refine zr_iadd C d_Lw_law_242 ?_
  refine zr_iaload C d_Lw_law_243 (by decide) rfl (t := 1) (k := i + 1) (Or.inr kb1) (by omega) (by omega) (by omega) (he1 _ (by omega)) ?_
  refine r_aload_n C d_Lw_law_244 rfl rfl ?_
  refine r_iload C d_Lw_law_245 rfl ?_
  refine r_iconst C d_Lw_law_247 rfl ?_
  refine zr_iadd C d_Lw_law_248 ?_
  refine zr_iaload C d_Lw_law_249 (by decide) rfl (t := 1) (k := i + 2) (Or.inr kb1) (by omega) (by omega) (by omega) (he1 _ (by omega)) ?_
  refine r_aload_n C d_Lw_law_250 rfl rfl ?_
  refine r_iload C d_Lw_law_251 rfl ?_
  refine r_iconst C d_Lw_law_253 rfl ?_
  refine zr_iadd C d_Lw_law_254 ?_
  refine zr_iaload C d_Lw_law_255 (by decide) rfl (t := 1) (k := i + 3) (Or.inr kb1) (by omega) (by omega) (by omega) (he1 _ (by omega)) ?_
  refine r_i2l C d_Lw_law_256 rfl ?_
  refine r_bipush (v := Int32.ofInt 32) C d_Lw_law_257 (by decide) ?_
  refine r_lshl C d_Lw_law_259 ?_
  refine r_aload_n C d_Lw_law_260 rfl rfl ?_
  refine r_iload C d_Lw_law_261 rfl ?_
  refine r_iconst C d_Lw_law_263 rfl ?_
  refine zr_iadd C d_Lw_law_264 ?_
  refine zr_iaload C d_Lw_law_265 (by decide) rfl (t := 1) (k := i + 4) (Or.inr kb1) (by omega) (by omega) (by omega) (he1 _ (by omega)) ?_
  refine r_i2l C d_Lw_law_266 rfl ?_
  refine r_ldc2 (v := 4294967295) C d_Lw_law_267 (fxTW_in 1005 (by decide +kernel) rfl) ?_
  refine r_land C d_Lw_law_270 ?_
  refine r_lor C d_Lw_law_271 ?_
  rw [← hV]
  refine c_Lw_90 C d_Lw_law_272 r1.1 hN (by omega) (Nat.le_of_ble_eq_true rfl) (moRet.k1 fun w2 r2 f2 => ?_) moRet.k2
  obtain ⟨hL2, t2, u2, e2⟩ := h.go gd.1 g2 g3 r2 f2
  have ho2 := hL2.2.2.2.2.2
  have eA : A1 0 0 = A 0 0 := g1 0 0 (by decide) (by decide) (fun z => by cases z) (fun z => by cases z)
  have fin := k A1 MM.2 w2 hL2 eA gd.2.1 t2 u2
  refine r_lstore (ls' := [(6, _), (5, _), (4, _), (0, _), (1, _), (2, _), (3, _)]) C d_Lw_law_275 (by decide) rfl ?_
  refine r_aload_n C d_Lw_law_277 rfl rfl ?_
  refine c_Lw_81 C d_Lw_law_278 r2.1 (m_thrown 0 r2) (by omega) (Nat.le_of_ble_eq_true rfl) (fxPure.k1 ?_) fxPure.k2
  refine r_iload C d_Lw_law_281 rfl ?_
  refine zr_icmp_eq (tgt := 288) C d_Lw_law_283 (by decide) (by unfold zok; omega) (by unfold zok; omega) (fun c_283 => ?_) (fun c_283 => ?_)
  · refine r_iload C d_Lw_law_288 rfl ?_
    refine zr_if_ne (tgt := 304) C d_Lw_law_290 (by decide) (by unfold zok; omega) (fun c_290 => ?_) (fun c_290 => ?_)
    · refine r_goto (tgt := 1029) C d_Lw_law_304 (by decide) ?_
      exact fx_sub (ls' := [(4, zi (i : Int)), (0, .ref b), (1, .ref (A 0 0)), (2, .ref m), (3, .ref o)]) (by simp [fxL]) fin
    · have ev := g4 c_290
      rw [← e2] at ev
      refine r_aload_n C d_Lw_law_293 rfl rfl ?_
      refine r_iconst C d_Lw_law_294 rfl ?_
      refine zr_laload C d_Lw_law_295 (by decide) rfl (t := 0) (k := 0) (Or.inl ho2) rfl (by decide) (by decide) ev ?_
      refine r_lload C d_Lw_law_296 rfl ?_
      refine zr_lif_eq (tgt := 304) C d_Lw_law_298 d_Lw_law_299 (by decide) (fun c_298 => ?_) (fun c_298 => ?_)
      · refine r_goto (tgt := 1029) C d_Lw_law_304 (by decide) ?_
        exact fx_sub (ls' := [(4, zi (i : Int)), (0, .ref b), (1, .ref (A 0 0)), (2, .ref m), (3, .ref o)]) (by simp [fxL]) fin
      · exact absurd rfl c_298
  · exact absurd rfl c_283
set_option maxRecDepth 20000 in
theorem law_get {G : fxG} {nm : String} {rt : Option FieldType} {hh : List (Nat × Nat × Nat × Nat)} {x : fxX} {Q : State → Prop} (C : fxC G 16 cc_Lw_law 8 "ForkPoolLaw" nm rt hh x) {b L o m i : Nat} {ys : Nat → Int} {A : Ad} {S : Ms} {w : fxW} (hL : L ≤ 3073) (zy : ∀ j, zok (ys j)) (h : LI G b L o m ys A S w) (hi : i + 6 ≤ L) (t9 : fxt w + (4 * (Lam S).toNat + 3) ≤ fxmt G) (t8 : fxu w + (1818 * (Lam S).toNat + 919) ≤ fxmu G)
    (k : ∀ A' S' w', LI G b L o m ys A' S' w' → A' 0 0 = A 0 0 → Lam S' ≤ Lam S → fxt w' ≤ fxt w + (4 * (Lam S - Lam S').toNat + 3) → fxu w' ≤ fxu w + (1818 * (Lam S - Lam S').toNat + 919) → fxR G 8 x Q w' 1029 [(4, zi (i : Int)), (0, .ref b), (1, .ref (A 0 0)), (2, .ref m), (3, .ref o)] []) : fxR G 8 x Q w 307 [(4, zi (i : Int)), (0, .ref b), (1, .ref (A 0 0)), (2, .ref m), (3, .ref o)] [] := by
  obtain ⟨hRc, hI, hMo, kb, he, ho⟩ := id h
  have gd := gd_get hI (ys (i + 1)) (ys (i + 2))
  have hM := m_Lw_get (G := G) 13 hRc hI (by omega) ho (ys (i + 1)) (ys (i + 2)) (zy _) (zy _) t9 t8
  generalize hMM : mGet S (ys (i + 1)) (ys (i + 2)) = MM at hM gd
  refine r_aload_n C d_Lw_law_307 rfl rfl ?_
  refine r_aload_n C d_Lw_law_308 rfl rfl ?_
  refine r_iload C d_Lw_law_309 rfl ?_
  refine r_iconst C d_Lw_law_311 rfl ?_
  refine zr_iadd C d_Lw_law_312 ?_
  refine zr_iaload C d_Lw_law_313 (by decide) rfl (t := 1) (k := i + 1) (Or.inr kb) (by omega) (by omega) (by omega) (he _ (by omega)) ?_
  refine r_aload_n C d_Lw_law_314 rfl rfl ?_
  refine r_iload C d_Lw_law_315 rfl ?_
  refine r_iconst C d_Lw_law_317 rfl ?_
  refine zr_iadd C d_Lw_law_318 ?_
  refine zr_iaload C d_Lw_law_319 (by decide) rfl (t := 1) (k := i + 2) (Or.inr kb) (by omega) (by omega) (by omega) (he _ (by omega)) ?_
  refine r_aload_n C d_Lw_law_320 rfl rfl ?_
  refine c_Lw_91 C d_Lw_law_321 hM (by omega) (Nat.le_of_ble_eq_true rfl) ?_ (fun a w' z => by cases z.1)
  rintro v' w1 ⟨e9, hb9, A1, g1, g2, g3, g4⟩
  cases e9
  obtain ⟨r1, kb1, he1, ho1⟩ := h.o1 g3
  have hN := m_get (G := G) 12 r1 (by omega) hI.1.1.1 (ys (i + 1)) (ys (i + 2)) (zy _) (zy _)
  rw [hMM] at hN
  show fxR G 8 x _ w1 324 [(4, zi (i : Int)), (0, .ref b), (1, .ref (A 0 0)), (2, .ref m), (3, .ref o)] [zi (MM.2.1 0 0)]
  refine r_istore (ls' := [(5, _), (4, _), (0, _), (1, _), (2, _), (3, _)]) C d_Lw_law_324 (by decide) rfl ?_
  refine r_aload_n C d_Lw_law_326 rfl rfl ?_
  refine r_aload_n C d_Lw_law_327 rfl rfl ?_
  refine r_iload C d_Lw_law_328 rfl ?_
  refine r_iconst C d_Lw_law_330 rfl ?_
  refine zr_iadd C d_Lw_law_331 ?_
  refine zr_iaload C d_Lw_law_332 (by decide) rfl (t := 1) (k := i + 1) (Or.inr kb1) (by omega) (by omega) (by omega) (he1 _ (by omega)) ?_
  refine r_aload_n C d_Lw_law_333 rfl rfl ?_
  refine r_iload C d_Lw_law_334 rfl ?_
  refine r_iconst C d_Lw_law_336 rfl ?_
  refine zr_iadd C d_Lw_law_337 ?_
  refine zr_iaload C d_Lw_law_338 (by decide) rfl (t := 1) (k := i + 2) (Or.inr kb1) (by omega) (by omega) (by omega) (he1 _ (by omega)) ?_
  refine c_Lw_94 C d_Lw_law_339 r1.1 hN (by omega) (Nat.le_of_ble_eq_true rfl) (moRet.k1 fun w2 r2 f2 => ?_) moRet.k2
  obtain ⟨hL2, t2, u2, e2⟩ := h.go gd.1 g2 g3 r2 f2
  have ho2 := hL2.2.2.2.2.2
  have eA : A1 0 0 = A 0 0 := g1 0 0 (by decide) (by decide) (fun z => by cases z) (fun z => by cases z)
  have fin := k A1 MM.2 w2 hL2 eA gd.2.1 t2 u2
  refine r_lstore (ls' := [(6, _), (5, _), (4, _), (0, _), (1, _), (2, _), (3, _)]) C d_Lw_law_342 (by decide) rfl ?_
  refine r_aload_n C d_Lw_law_344 rfl rfl ?_
  refine c_Lw_81 C d_Lw_law_345 r2.1 (m_thrown 0 r2) (by omega) (Nat.le_of_ble_eq_true rfl) (fxPure.k1 ?_) fxPure.k2
  refine r_iload C d_Lw_law_348 rfl ?_
  refine zr_icmp_eq (tgt := 355) C d_Lw_law_350 (by decide) (by unfold zok; omega) (by unfold zok; omega) (fun c_350 => ?_) (fun c_350 => ?_)
  · refine r_iload C d_Lw_law_355 rfl ?_
    refine zr_if_ne (tgt := 371) C d_Lw_law_357 (by decide) (by unfold zok; omega) (fun c_357 => ?_) (fun c_357 => ?_)
    · refine r_goto (tgt := 1029) C d_Lw_law_371 (by decide) ?_
      exact fx_sub (ls' := [(4, zi (i : Int)), (0, .ref b), (1, .ref (A 0 0)), (2, .ref m), (3, .ref o)]) (by simp [fxL]) fin
    · have ev := g4 c_357
      rw [← e2] at ev
      refine r_aload_n C d_Lw_law_360 rfl rfl ?_
      refine r_iconst C d_Lw_law_361 rfl ?_
      refine zr_laload C d_Lw_law_362 (by decide) rfl (t := 0) (k := 0) (Or.inl ho2) rfl (by decide) (by decide) ev ?_
      refine r_lload C d_Lw_law_363 rfl ?_
      refine zr_lif_eq (tgt := 371) C d_Lw_law_365 d_Lw_law_366 (by decide) (fun c_365 => ?_) (fun c_365 => ?_)
      · refine r_goto (tgt := 1029) C d_Lw_law_371 (by decide) ?_
        exact fx_sub (ls' := [(4, zi (i : Int)), (0, .ref b), (1, .ref (A 0 0)), (2, .ref m), (3, .ref o)]) (by simp [fxL]) fin
      · exact absurd rfl c_365
  · exact absurd rfl c_350
set_option maxRecDepth 20000 in
theorem law_begin {G : fxG} {nm : String} {rt : Option FieldType} {hh : List (Nat × Nat × Nat × Nat)} {x : fxX} {Q : State → Prop} (C : fxC G 16 cc_Lw_law 8 "ForkPoolLaw" nm rt hh x) {b L o m i : Nat} {ys : Nat → Int} {A : Ad} {S : Ms} {w : fxW} (hL : L ≤ 3073) (zy : ∀ j, zok (ys j)) (h : LI G b L o m ys A S w) (hi : i + 6 ≤ L) (t9 : fxt w + (4 * (Lam S).toNat + 3) ≤ fxmt G) (t8 : fxu w + (1818 * (Lam S).toNat + 919) ≤ fxmu G)
    (k : ∀ A' S' w', LI G b L o m ys A' S' w' → A' 0 0 = A 0 0 → Lam S' ≤ Lam S → fxt w' ≤ fxt w + (4 * (Lam S - Lam S').toNat + 3) → fxu w' ≤ fxu w + (1818 * (Lam S - Lam S').toNat + 919) → fxR G 8 x Q w' 1029 [(4, zi (i : Int)), (0, .ref b), (1, .ref (A 0 0)), (2, .ref m), (3, .ref o)] []) : fxR G 8 x Q w 374 [(4, zi (i : Int)), (0, .ref b), (1, .ref (A 0 0)), (2, .ref m), (3, .ref o)] [] := by
  obtain ⟨hRc, hI, hMo, kb, he, ho⟩ := id h
  have gd := gd_begin hI (ys (i + 1)) (ys (i + 2)) (ys (i + 3)) (ys (i + 4)) (ys (i + 5))
  have hM := m_Lw_begin (G := G) 13 hRc hI (by omega) ho (ys (i + 1)) (ys (i + 2)) (ys (i + 3)) (ys (i + 4)) (ys (i + 5)) (zy _) (zy _) (zy _) (zy _) (zy _) t9 t8
  generalize hMM : mBegin S (ys (i + 1)) (ys (i + 2)) (ys (i + 3)) (ys (i + 4)) (ys (i + 5)) = MM at hM gd
  refine r_aload_n C d_Lw_law_374 rfl rfl ?_
  refine r_aload_n C d_Lw_law_375 rfl rfl ?_
  refine r_iload C d_Lw_law_376 rfl ?_
  refine r_iconst C d_Lw_law_378 rfl ?_
  refine zr_iadd C d_Lw_law_379 ?_
  refine zr_iaload C d_Lw_law_380 (by decide) rfl (t := 1) (k := i + 1) (Or.inr kb) (by omega) (by omega) (by omega) (he _ (by omega)) ?_
  refine r_aload_n C d_Lw_law_381 rfl rfl ?_
  refine r_iload C d_Lw_law_382 rfl ?_
  refine r_iconst C d_Lw_law_384 rfl ?_
  refine zr_iadd C d_Lw_law_385 ?_
  refine zr_iaload C d_Lw_law_386 (by decide) rfl (t := 1) (k := i + 2) (Or.inr kb) (by omega) (by omega) (by omega) (he _ (by omega)) ?_
  refine r_aload_n C d_Lw_law_387 rfl rfl ?_
  refine r_iload C d_Lw_law_388 rfl ?_
  refine r_iconst C d_Lw_law_390 rfl ?_
  refine zr_iadd C d_Lw_law_391 ?_
  refine zr_iaload C d_Lw_law_392 (by decide) rfl (t := 1) (k := i + 3) (Or.inr kb) (by omega) (by omega) (by omega) (he _ (by omega)) ?_
  refine r_aload_n C d_Lw_law_393 rfl rfl ?_
  refine r_iload C d_Lw_law_394 rfl ?_
  refine r_iconst C d_Lw_law_396 rfl ?_
  refine zr_iadd C d_Lw_law_397 ?_
  refine zr_iaload C d_Lw_law_398 (by decide) rfl (t := 1) (k := i + 4) (Or.inr kb) (by omega) (by omega) (by omega) (he _ (by omega)) ?_
  refine r_aload_n C d_Lw_law_399 rfl rfl ?_
  refine r_iload C d_Lw_law_400 rfl ?_
  refine r_iconst C d_Lw_law_402 rfl ?_
  refine zr_iadd C d_Lw_law_403 ?_
  refine zr_iaload C d_Lw_law_404 (by decide) rfl (t := 1) (k := i + 5) (Or.inr kb) (by omega) (by omega) (by omega) (he _ (by omega)) ?_
  refine r_aload_n C d_Lw_law_405 rfl rfl ?_
  refine c_Lw_95 C d_Lw_law_406 hM (by omega) (Nat.le_of_ble_eq_true rfl) ?_ (fun a w' z => by cases z.1)
  rintro v' w1 ⟨e9, hb9, A1, g1, g2, g3, g4⟩
  cases e9
  obtain ⟨r1, kb1, he1, ho1⟩ := h.o1 g3
  have hN := m_begin (G := G) 12 r1 (by omega) hI.1.1 (ys (i + 1)) (ys (i + 2)) (ys (i + 3)) (ys (i + 4)) (ys (i + 5)) (zy _) (zy _) (zy _) (zy _) (zy _)
  rw [hMM] at hN
  show fxR G 8 x _ w1 409 [(4, zi (i : Int)), (0, .ref b), (1, .ref (A 0 0)), (2, .ref m), (3, .ref o)] [zi (MM.2.1 0 0)]
  refine r_istore (ls' := [(5, _), (4, _), (0, _), (1, _), (2, _), (3, _)]) C d_Lw_law_409 (by decide) rfl ?_
  refine r_aload_n C d_Lw_law_411 rfl rfl ?_
  refine r_aload_n C d_Lw_law_412 rfl rfl ?_
  refine r_iload C d_Lw_law_413 rfl ?_
  refine r_iconst C d_Lw_law_415 rfl ?_
  refine zr_iadd C d_Lw_law_416 ?_
  refine zr_iaload C d_Lw_law_417 (by decide) rfl (t := 1) (k := i + 1) (Or.inr kb1) (by omega) (by omega) (by omega) (he1 _ (by omega)) ?_
  refine r_aload_n C d_Lw_law_418 rfl rfl ?_
  refine r_iload C d_Lw_law_419 rfl ?_
  refine r_iconst C d_Lw_law_421 rfl ?_
  refine zr_iadd C d_Lw_law_422 ?_
  refine zr_iaload C d_Lw_law_423 (by decide) rfl (t := 1) (k := i + 2) (Or.inr kb1) (by omega) (by omega) (by omega) (he1 _ (by omega)) ?_
  refine r_aload_n C d_Lw_law_424 rfl rfl ?_
  refine r_iload C d_Lw_law_425 rfl ?_
  refine r_iconst C d_Lw_law_427 rfl ?_
  refine zr_iadd C d_Lw_law_428 ?_
  refine zr_iaload C d_Lw_law_429 (by decide) rfl (t := 1) (k := i + 3) (Or.inr kb1) (by omega) (by omega) (by omega) (he1 _ (by omega)) ?_
  refine r_aload_n C d_Lw_law_430 rfl rfl ?_
  refine r_iload C d_Lw_law_431 rfl ?_
  refine r_iconst C d_Lw_law_433 rfl ?_
  refine zr_iadd C d_Lw_law_434 ?_
  refine zr_iaload C d_Lw_law_435 (by decide) rfl (t := 1) (k := i + 4) (Or.inr kb1) (by omega) (by omega) (by omega) (he1 _ (by omega)) ?_
  refine r_aload_n C d_Lw_law_436 rfl rfl ?_
  refine r_iload C d_Lw_law_437 rfl ?_
  refine r_iconst C d_Lw_law_439 rfl ?_
  refine zr_iadd C d_Lw_law_440 ?_
  refine zr_iaload C d_Lw_law_441 (by decide) rfl (t := 1) (k := i + 5) (Or.inr kb1) (by omega) (by omega) (by omega) (he1 _ (by omega)) ?_
  refine c_Lw_98 C d_Lw_law_442 r1.1 hN (by omega) (Nat.le_of_ble_eq_true rfl) (moRet.k1 fun w2 r2 f2 => ?_) moRet.k2
  obtain ⟨hL2, t2, u2, e2⟩ := h.go gd.1 g2 g3 r2 f2
  have ho2 := hL2.2.2.2.2.2
  have eA : A1 0 0 = A 0 0 := g1 0 0 (by decide) (by decide) (fun z => by cases z) (fun z => by cases z)
  have fin := k A1 MM.2 w2 hL2 eA gd.2.1 t2 u2
  refine r_istore (ls' := [(6, _), (5, _), (4, _), (0, _), (1, _), (2, _), (3, _)]) C d_Lw_law_445 (by decide) rfl ?_
  refine r_aload_n C d_Lw_law_447 rfl rfl ?_
  refine c_Lw_81 C d_Lw_law_448 r2.1 (m_thrown 0 r2) (by omega) (Nat.le_of_ble_eq_true rfl) (fxPure.k1 ?_) fxPure.k2
  refine r_iload C d_Lw_law_451 rfl ?_
  refine zr_icmp_eq (tgt := 458) C d_Lw_law_453 (by decide) (by unfold zok; omega) (by unfold zok; omega) (fun c_453 => ?_) (fun c_453 => ?_)
  · refine r_iload C d_Lw_law_458 rfl ?_
    refine zr_if_ne (tgt := 475) C d_Lw_law_460 (by decide) (by unfold zok; omega) (fun c_460 => ?_) (fun c_460 => ?_)
    · refine r_goto (tgt := 1029) C d_Lw_law_475 (by decide) ?_
      exact fx_sub (ls' := [(4, zi (i : Int)), (0, .ref b), (1, .ref (A 0 0)), (2, .ref m), (3, .ref o)]) (by simp [fxL]) fin
    · have ev := g4 c_460
      rw [← e2] at ev
      refine r_aload_n C d_Lw_law_463 rfl rfl ?_
      refine r_iconst C d_Lw_law_464 rfl ?_
      refine zr_laload C d_Lw_law_465 (by decide) rfl (t := 0) (k := 0) (Or.inl ho2) rfl (by decide) (by decide) ev ?_
      refine r_iload C d_Lw_law_466 rfl ?_
      refine r_i2l C d_Lw_law_468 rfl ?_
      refine zr_lif_eq (tgt := 475) C d_Lw_law_469 d_Lw_law_470 (by decide) (fun c_469 => ?_) (fun c_469 => ?_)
      · refine r_goto (tgt := 1029) C d_Lw_law_475 (by decide) ?_
        exact fx_sub (ls' := [(4, zi (i : Int)), (0, .ref b), (1, .ref (A 0 0)), (2, .ref m), (3, .ref o)]) (by simp [fxL]) fin
      · exact absurd rfl c_469
  · exact absurd rfl c_453
set_option maxRecDepth 20000 in
theorem law_step {G : fxG} {nm : String} {rt : Option FieldType} {hh : List (Nat × Nat × Nat × Nat)} {x : fxX} {Q : State → Prop} (C : fxC G 16 cc_Lw_law 8 "ForkPoolLaw" nm rt hh x) {b L o m i : Nat} {ys : Nat → Int} {A : Ad} {S : Ms} {w : fxW} (hL : L ≤ 3073) (zy : ∀ j, zok (ys j)) (h : LI G b L o m ys A S w) (hi : i + 6 ≤ L) (t9 : fxt w + (4 * (Lam S).toNat + 3) ≤ fxmt G) (t8 : fxu w + (1818 * (Lam S).toNat + 919) ≤ fxmu G)
    (k : ∀ A' S' w', LI G b L o m ys A' S' w' → A' 0 0 = A 0 0 → Lam S' ≤ Lam S → fxt w' ≤ fxt w + (4 * (Lam S - Lam S').toNat + 3) → fxu w' ≤ fxu w + (1818 * (Lam S - Lam S').toNat + 919) → fxR G 8 x Q w' 1029 [(4, zi (i : Int)), (0, .ref b), (1, .ref (A 0 0)), (2, .ref m), (3, .ref o)] []) : fxR G 8 x Q w 478 [(4, zi (i : Int)), (0, .ref b), (1, .ref (A 0 0)), (2, .ref m), (3, .ref o)] [] := by
  obtain ⟨hRc, hI, hMo, kb, he, ho⟩ := id h
  have gd := gd_step hI (ys (i + 1))
  have hM := m_Lw_step (G := G) 13 hRc hI (by omega) ho (ys (i + 1)) (zy _) t9 t8
  generalize hMM : mStep S (ys (i + 1)) = MM at hM gd
  refine r_aload_n C d_Lw_law_478 rfl rfl ?_
  refine r_aload_n C d_Lw_law_479 rfl rfl ?_
  refine r_iload C d_Lw_law_480 rfl ?_
  refine r_iconst C d_Lw_law_482 rfl ?_
  refine zr_iadd C d_Lw_law_483 ?_
  refine zr_iaload C d_Lw_law_484 (by decide) rfl (t := 1) (k := i + 1) (Or.inr kb) (by omega) (by omega) (by omega) (he _ (by omega)) ?_
  refine r_aload_n C d_Lw_law_485 rfl rfl ?_
  refine c_Lw_99 C d_Lw_law_486 hM (by omega) (Nat.le_of_ble_eq_true rfl) ?_ (fun a w' z => by cases z.1)
  rintro v' w1 ⟨e9, hb9, A1, g1, g2, g3, g4⟩
  cases e9
  obtain ⟨r1, kb1, he1, ho1⟩ := h.o1 g3
  have hN := m_step (G := G) 12 r1 (by omega) hI.1 (ys (i + 1)) (zy _)
  rw [hMM] at hN
  show fxR G 8 x _ w1 489 [(4, zi (i : Int)), (0, .ref b), (1, .ref (A 0 0)), (2, .ref m), (3, .ref o)] [zi (MM.2.1 0 0)]
  refine r_istore (ls' := [(5, _), (4, _), (0, _), (1, _), (2, _), (3, _)]) C d_Lw_law_489 (by decide) rfl ?_
  refine r_aload_n C d_Lw_law_491 rfl rfl ?_
  refine r_aload_n C d_Lw_law_492 rfl rfl ?_
  refine r_iload C d_Lw_law_493 rfl ?_
  refine r_iconst C d_Lw_law_495 rfl ?_
  refine zr_iadd C d_Lw_law_496 ?_
  refine zr_iaload C d_Lw_law_497 (by decide) rfl (t := 1) (k := i + 1) (Or.inr kb1) (by omega) (by omega) (by omega) (he1 _ (by omega)) ?_
  refine c_Lw_102 C d_Lw_law_498 r1.1 hN (by omega) (Nat.le_of_ble_eq_true rfl) (moRet.k1 fun w2 r2 f2 => ?_) moRet.k2
  obtain ⟨hL2, t2, u2, e2⟩ := h.go gd.1 g2 g3 r2 f2
  have ho2 := hL2.2.2.2.2.2
  have eA : A1 0 0 = A 0 0 := g1 0 0 (by decide) (by decide) (fun z => by cases z) (fun z => by cases z)
  have fin := k A1 MM.2 w2 hL2 eA gd.2.1 t2 u2
  refine r_istore (ls' := [(6, _), (5, _), (4, _), (0, _), (1, _), (2, _), (3, _)]) C d_Lw_law_501 (by decide) rfl ?_
  refine r_aload_n C d_Lw_law_503 rfl rfl ?_
  refine c_Lw_81 C d_Lw_law_504 r2.1 (m_thrown 0 r2) (by omega) (Nat.le_of_ble_eq_true rfl) (fxPure.k1 ?_) fxPure.k2
  refine r_iload C d_Lw_law_507 rfl ?_
  refine zr_icmp_eq (tgt := 514) C d_Lw_law_509 (by decide) (by unfold zok; omega) (by unfold zok; omega) (fun c_509 => ?_) (fun c_509 => ?_)
  · refine r_iload C d_Lw_law_514 rfl ?_
    refine zr_if_ne (tgt := 531) C d_Lw_law_516 (by decide) (by unfold zok; omega) (fun c_516 => ?_) (fun c_516 => ?_)
    · refine r_goto (tgt := 1029) C d_Lw_law_531 (by decide) ?_
      exact fx_sub (ls' := [(4, zi (i : Int)), (0, .ref b), (1, .ref (A 0 0)), (2, .ref m), (3, .ref o)]) (by simp [fxL]) fin
    · have ev := g4 c_516
      rw [← e2] at ev
      refine r_aload_n C d_Lw_law_519 rfl rfl ?_
      refine r_iconst C d_Lw_law_520 rfl ?_
      refine zr_laload C d_Lw_law_521 (by decide) rfl (t := 0) (k := 0) (Or.inl ho2) rfl (by decide) (by decide) ev ?_
      refine r_iload C d_Lw_law_522 rfl ?_
      refine r_i2l C d_Lw_law_524 rfl ?_
      refine zr_lif_eq (tgt := 531) C d_Lw_law_525 d_Lw_law_526 (by decide) (fun c_525 => ?_) (fun c_525 => ?_)
      · refine r_goto (tgt := 1029) C d_Lw_law_531 (by decide) ?_
        exact fx_sub (ls' := [(4, zi (i : Int)), (0, .ref b), (1, .ref (A 0 0)), (2, .ref m), (3, .ref o)]) (by simp [fxL]) fin
      · exact absurd rfl c_525
  · exact absurd rfl c_509
set_option maxRecDepth 20000 in
theorem law_join {G : fxG} {nm : String} {rt : Option FieldType} {hh : List (Nat × Nat × Nat × Nat)} {x : fxX} {Q : State → Prop} (C : fxC G 16 cc_Lw_law 8 "ForkPoolLaw" nm rt hh x) {b L o m i : Nat} {ys : Nat → Int} {A : Ad} {S : Ms} {w : fxW} (hL : L ≤ 3073) (zy : ∀ j, zok (ys j)) (h : LI G b L o m ys A S w) (hi : i + 6 ≤ L) (t9 : fxt w + (4 * (Lam S).toNat + 3) ≤ fxmt G) (t8 : fxu w + (1818 * (Lam S).toNat + 919) ≤ fxmu G)
    (k : ∀ A' S' w', LI G b L o m ys A' S' w' → A' 0 0 = A 0 0 → Lam S' ≤ Lam S → fxt w' ≤ fxt w + (4 * (Lam S - Lam S').toNat + 3) → fxu w' ≤ fxu w + (1818 * (Lam S - Lam S').toNat + 919) → fxR G 8 x Q w' 1029 [(4, zi (i : Int)), (0, .ref b), (1, .ref (A 0 0)), (2, .ref m), (3, .ref o)] []) : fxR G 8 x Q w 534 [(4, zi (i : Int)), (0, .ref b), (1, .ref (A 0 0)), (2, .ref m), (3, .ref o)] [] := by
  obtain ⟨hRc, hI, hMo, kb, he, ho⟩ := id h
  have gd := gd_join hI (ys (i + 1))
  have hM := m_Lw_join (G := G) 13 hRc hI (by omega) ho (ys (i + 1)) (zy _) t9 t8
  generalize hMM : mJoin S (ys (i + 1)) = MM at hM gd
  refine r_aload_n C d_Lw_law_534 rfl rfl ?_
  refine r_aload_n C d_Lw_law_535 rfl rfl ?_
  refine r_iload C d_Lw_law_536 rfl ?_
  refine r_iconst C d_Lw_law_538 rfl ?_
  refine zr_iadd C d_Lw_law_539 ?_
  refine zr_iaload C d_Lw_law_540 (by decide) rfl (t := 1) (k := i + 1) (Or.inr kb) (by omega) (by omega) (by omega) (he _ (by omega)) ?_
  refine r_aload_n C d_Lw_law_541 rfl rfl ?_
  refine c_Lw_103 C d_Lw_law_542 hM (by omega) (Nat.le_of_ble_eq_true rfl) ?_ (fun a w' z => by cases z.1)
  rintro v' w1 ⟨e9, hb9, A1, g1, g2, g3, g4⟩
  cases e9
  obtain ⟨r1, kb1, he1, ho1⟩ := h.o1 g3
  have hN := m_join (G := G) 12 r1 (by omega) hI.1 (ys (i + 1)) (zy _)
  rw [hMM] at hN
  show fxR G 8 x _ w1 545 [(4, zi (i : Int)), (0, .ref b), (1, .ref (A 0 0)), (2, .ref m), (3, .ref o)] [zi (MM.2.1 0 0)]
  refine r_istore (ls' := [(5, _), (4, _), (0, _), (1, _), (2, _), (3, _)]) C d_Lw_law_545 (by decide) rfl ?_
  refine r_aload_n C d_Lw_law_547 rfl rfl ?_
  refine r_aload_n C d_Lw_law_548 rfl rfl ?_
  refine r_iload C d_Lw_law_549 rfl ?_
  refine r_iconst C d_Lw_law_551 rfl ?_
  refine zr_iadd C d_Lw_law_552 ?_
  refine zr_iaload C d_Lw_law_553 (by decide) rfl (t := 1) (k := i + 1) (Or.inr kb1) (by omega) (by omega) (by omega) (he1 _ (by omega)) ?_
  refine c_Lw_105 C d_Lw_law_554 r1.1 hN (by omega) (Nat.le_of_ble_eq_true rfl) (moRet.k1 fun w2 r2 f2 => ?_) moRet.k2
  obtain ⟨hL2, t2, u2, e2⟩ := h.go gd.1 g2 g3 r2 f2
  have ho2 := hL2.2.2.2.2.2
  have eA : A1 0 0 = A 0 0 := g1 0 0 (by decide) (by decide) (fun z => by cases z) (fun z => by cases z)
  have fin := k A1 MM.2 w2 hL2 eA gd.2.1 t2 u2
  refine r_istore (ls' := [(6, _), (5, _), (4, _), (0, _), (1, _), (2, _), (3, _)]) C d_Lw_law_557 (by decide) rfl ?_
  refine r_aload_n C d_Lw_law_559 rfl rfl ?_
  refine c_Lw_81 C d_Lw_law_560 r2.1 (m_thrown 0 r2) (by omega) (Nat.le_of_ble_eq_true rfl) (fxPure.k1 ?_) fxPure.k2
  refine r_iload C d_Lw_law_563 rfl ?_
  refine zr_icmp_eq (tgt := 570) C d_Lw_law_565 (by decide) (by unfold zok; omega) (by unfold zok; omega) (fun c_565 => ?_) (fun c_565 => ?_)
  · refine r_iload C d_Lw_law_570 rfl ?_
    refine zr_if_ne (tgt := 587) C d_Lw_law_572 (by decide) (by unfold zok; omega) (fun c_572 => ?_) (fun c_572 => ?_)
    · refine r_goto (tgt := 1029) C d_Lw_law_587 (by decide) ?_
      exact fx_sub (ls' := [(4, zi (i : Int)), (0, .ref b), (1, .ref (A 0 0)), (2, .ref m), (3, .ref o)]) (by simp [fxL]) fin
    · have ev := g4 c_572
      rw [← e2] at ev
      refine r_aload_n C d_Lw_law_575 rfl rfl ?_
      refine r_iconst C d_Lw_law_576 rfl ?_
      refine zr_laload C d_Lw_law_577 (by decide) rfl (t := 0) (k := 0) (Or.inl ho2) rfl (by decide) (by decide) ev ?_
      refine r_iload C d_Lw_law_578 rfl ?_
      refine r_i2l C d_Lw_law_580 rfl ?_
      refine zr_lif_eq (tgt := 587) C d_Lw_law_581 d_Lw_law_582 (by decide) (fun c_581 => ?_) (fun c_581 => ?_)
      · refine r_goto (tgt := 1029) C d_Lw_law_587 (by decide) ?_
        exact fx_sub (ls' := [(4, zi (i : Int)), (0, .ref b), (1, .ref (A 0 0)), (2, .ref m), (3, .ref o)]) (by simp [fxL]) fin
      · exact absurd rfl c_581
  · exact absurd rfl c_565
set_option maxRecDepth 20000 in
theorem law_result {G : fxG} {nm : String} {rt : Option FieldType} {hh : List (Nat × Nat × Nat × Nat)} {x : fxX} {Q : State → Prop} (C : fxC G 16 cc_Lw_law 8 "ForkPoolLaw" nm rt hh x) {b L o m i : Nat} {ys : Nat → Int} {A : Ad} {S : Ms} {w : fxW} (hL : L ≤ 3073) (zy : ∀ j, zok (ys j)) (h : LI G b L o m ys A S w) (hi : i + 6 ≤ L) (t9 : fxt w + (4 * (Lam S).toNat + 3) ≤ fxmt G) (t8 : fxu w + (1818 * (Lam S).toNat + 919) ≤ fxmu G)
    (k : ∀ A' S' w', LI G b L o m ys A' S' w' → A' 0 0 = A 0 0 → Lam S' ≤ Lam S → fxt w' ≤ fxt w + (4 * (Lam S - Lam S').toNat + 3) → fxu w' ≤ fxu w + (1818 * (Lam S - Lam S').toNat + 919) → fxR G 8 x Q w' 1029 [(4, zi (i : Int)), (0, .ref b), (1, .ref (A 0 0)), (2, .ref m), (3, .ref o)] []) : fxR G 8 x Q w 590 [(4, zi (i : Int)), (0, .ref b), (1, .ref (A 0 0)), (2, .ref m), (3, .ref o)] [] := by
  obtain ⟨hRc, hI, hMo, kb, he, ho⟩ := id h
  have gd := gd_result hI (ys (i + 1))
  have hM := m_Lw_result (G := G) 13 hRc hI (by omega) ho (ys (i + 1)) (zy _) t9 t8
  generalize hMM : mResult S (ys (i + 1)) = MM at hM gd
  refine r_aload_n C d_Lw_law_590 rfl rfl ?_
  refine r_aload_n C d_Lw_law_591 rfl rfl ?_
  refine r_iload C d_Lw_law_592 rfl ?_
  refine r_iconst C d_Lw_law_594 rfl ?_
  refine zr_iadd C d_Lw_law_595 ?_
  refine zr_iaload C d_Lw_law_596 (by decide) rfl (t := 1) (k := i + 1) (Or.inr kb) (by omega) (by omega) (by omega) (he _ (by omega)) ?_
  refine r_aload_n C d_Lw_law_597 rfl rfl ?_
  refine c_Lw_106 C d_Lw_law_598 hM (by omega) (Nat.le_of_ble_eq_true rfl) ?_ (fun a w' z => by cases z.1)
  rintro v' w1 ⟨e9, hb9, A1, g1, g2, g3, g4⟩
  cases e9
  obtain ⟨r1, kb1, he1, ho1⟩ := h.o1 g3
  have hN := m_result (G := G) 12 r1 (by omega) hI.1.1.1 (ys (i + 1)) (zy _)
  rw [hMM] at hN
  show fxR G 8 x _ w1 601 [(4, zi (i : Int)), (0, .ref b), (1, .ref (A 0 0)), (2, .ref m), (3, .ref o)] [zi (MM.2.1 0 0)]
  refine r_istore (ls' := [(5, _), (4, _), (0, _), (1, _), (2, _), (3, _)]) C d_Lw_law_601 (by decide) rfl ?_
  refine r_aload_n C d_Lw_law_603 rfl rfl ?_
  refine r_aload_n C d_Lw_law_604 rfl rfl ?_
  refine r_iload C d_Lw_law_605 rfl ?_
  refine r_iconst C d_Lw_law_607 rfl ?_
  refine zr_iadd C d_Lw_law_608 ?_
  refine zr_iaload C d_Lw_law_609 (by decide) rfl (t := 1) (k := i + 1) (Or.inr kb1) (by omega) (by omega) (by omega) (he1 _ (by omega)) ?_
  refine c_Lw_108 C d_Lw_law_610 r1.1 hN (by omega) (Nat.le_of_ble_eq_true rfl) (moRet.k1 fun w2 r2 f2 => ?_) moRet.k2
  obtain ⟨hL2, t2, u2, e2⟩ := h.go gd.1 g2 g3 r2 f2
  have ho2 := hL2.2.2.2.2.2
  have eA : A1 0 0 = A 0 0 := g1 0 0 (by decide) (by decide) (fun z => by cases z) (fun z => by cases z)
  have fin := k A1 MM.2 w2 hL2 eA gd.2.1 t2 u2
  refine r_lstore (ls' := [(6, _), (5, _), (4, _), (0, _), (1, _), (2, _), (3, _)]) C d_Lw_law_613 (by decide) rfl ?_
  refine r_aload_n C d_Lw_law_615 rfl rfl ?_
  refine c_Lw_81 C d_Lw_law_616 r2.1 (m_thrown 0 r2) (by omega) (Nat.le_of_ble_eq_true rfl) (fxPure.k1 ?_) fxPure.k2
  refine r_iload C d_Lw_law_619 rfl ?_
  refine zr_icmp_eq (tgt := 626) C d_Lw_law_621 (by decide) (by unfold zok; omega) (by unfold zok; omega) (fun c_621 => ?_) (fun c_621 => ?_)
  · refine r_iload C d_Lw_law_626 rfl ?_
    refine zr_if_ne (tgt := 642) C d_Lw_law_628 (by decide) (by unfold zok; omega) (fun c_628 => ?_) (fun c_628 => ?_)
    · refine r_goto (tgt := 1029) C d_Lw_law_642 (by decide) ?_
      exact fx_sub (ls' := [(4, zi (i : Int)), (0, .ref b), (1, .ref (A 0 0)), (2, .ref m), (3, .ref o)]) (by simp [fxL]) fin
    · have ev := g4 c_628
      rw [← e2] at ev
      refine r_aload_n C d_Lw_law_631 rfl rfl ?_
      refine r_iconst C d_Lw_law_632 rfl ?_
      refine zr_laload C d_Lw_law_633 (by decide) rfl (t := 0) (k := 0) (Or.inl ho2) rfl (by decide) (by decide) ev ?_
      refine r_lload C d_Lw_law_634 rfl ?_
      refine zr_lif_eq (tgt := 642) C d_Lw_law_636 d_Lw_law_637 (by decide) (fun c_636 => ?_) (fun c_636 => ?_)
      · refine r_goto (tgt := 1029) C d_Lw_law_642 (by decide) ?_
        exact fx_sub (ls' := [(4, zi (i : Int)), (0, .ref b), (1, .ref (A 0 0)), (2, .ref m), (3, .ref o)]) (by simp [fxL]) fin
      · exact absurd rfl c_636
  · exact absurd rfl c_621
set_option maxRecDepth 20000 in
theorem law_cancel {G : fxG} {nm : String} {rt : Option FieldType} {hh : List (Nat × Nat × Nat × Nat)} {x : fxX} {Q : State → Prop} (C : fxC G 16 cc_Lw_law 8 "ForkPoolLaw" nm rt hh x) {b L o m i : Nat} {ys : Nat → Int} {A : Ad} {S : Ms} {w : fxW} (hL : L ≤ 3073) (zy : ∀ j, zok (ys j)) (h : LI G b L o m ys A S w) (hi : i + 6 ≤ L) (t9 : fxt w + (4 * (Lam S).toNat + 3) ≤ fxmt G) (t8 : fxu w + (1818 * (Lam S).toNat + 919) ≤ fxmu G)
    (k : ∀ A' S' w', LI G b L o m ys A' S' w' → A' 0 0 = A 0 0 → Lam S' ≤ Lam S → fxt w' ≤ fxt w + (4 * (Lam S - Lam S').toNat + 3) → fxu w' ≤ fxu w + (1818 * (Lam S - Lam S').toNat + 919) → fxR G 8 x Q w' 1029 [(4, zi (i : Int)), (0, .ref b), (1, .ref (A 0 0)), (2, .ref m), (3, .ref o)] []) : fxR G 8 x Q w 645 [(4, zi (i : Int)), (0, .ref b), (1, .ref (A 0 0)), (2, .ref m), (3, .ref o)] [] := by
  obtain ⟨hRc, hI, hMo, kb, he, ho⟩ := id h
  have gd := gd_cancel hI (ys (i + 1))
  have hM := m_Lw_cancel (G := G) 13 hRc hI (by omega) ho (ys (i + 1)) (zy _) t9 t8
  generalize hMM : mCancel S (ys (i + 1)) = MM at hM gd
  refine r_aload_n C d_Lw_law_645 rfl rfl ?_
  refine r_aload_n C d_Lw_law_646 rfl rfl ?_
  refine r_iload C d_Lw_law_647 rfl ?_
  refine r_iconst C d_Lw_law_649 rfl ?_
  refine zr_iadd C d_Lw_law_650 ?_
  refine zr_iaload C d_Lw_law_651 (by decide) rfl (t := 1) (k := i + 1) (Or.inr kb) (by omega) (by omega) (by omega) (he _ (by omega)) ?_
  refine r_aload_n C d_Lw_law_652 rfl rfl ?_
  refine c_Lw_109 C d_Lw_law_653 hM (by omega) (Nat.le_of_ble_eq_true rfl) ?_ (fun a w' z => by cases z.1)
  rintro v' w1 ⟨e9, hb9, A1, g1, g2, g3, g4⟩
  cases e9
  obtain ⟨r1, kb1, he1, ho1⟩ := h.o1 g3
  have hN := m_cancel (G := G) 12 r1 (by omega) hI.1.1.1 (ys (i + 1)) (zy _)
  rw [hMM] at hN
  show fxR G 8 x _ w1 656 [(4, zi (i : Int)), (0, .ref b), (1, .ref (A 0 0)), (2, .ref m), (3, .ref o)] [zi (MM.2.1 0 0)]
  refine r_istore (ls' := [(5, _), (4, _), (0, _), (1, _), (2, _), (3, _)]) C d_Lw_law_656 (by decide) rfl ?_
  refine r_aload_n C d_Lw_law_658 rfl rfl ?_
  refine r_aload_n C d_Lw_law_659 rfl rfl ?_
  refine r_iload C d_Lw_law_660 rfl ?_
  refine r_iconst C d_Lw_law_662 rfl ?_
  refine zr_iadd C d_Lw_law_663 ?_
  refine zr_iaload C d_Lw_law_664 (by decide) rfl (t := 1) (k := i + 1) (Or.inr kb1) (by omega) (by omega) (by omega) (he1 _ (by omega)) ?_
  refine c_Lw_111 C d_Lw_law_665 r1.1 hN (by omega) (Nat.le_of_ble_eq_true rfl) (moRet.k1 fun w2 r2 f2 => ?_) moRet.k2
  obtain ⟨hL2, t2, u2, e2⟩ := h.go gd.1 g2 g3 r2 f2
  have ho2 := hL2.2.2.2.2.2
  have eA : A1 0 0 = A 0 0 := g1 0 0 (by decide) (by decide) (fun z => by cases z) (fun z => by cases z)
  have fin := k A1 MM.2 w2 hL2 eA gd.2.1 t2 u2
  refine r_istore (ls' := [(6, _), (5, _), (4, _), (0, _), (1, _), (2, _), (3, _)]) C d_Lw_law_668 (by decide) rfl ?_
  refine r_aload_n C d_Lw_law_670 rfl rfl ?_
  refine c_Lw_81 C d_Lw_law_671 r2.1 (m_thrown 0 r2) (by omega) (Nat.le_of_ble_eq_true rfl) (fxPure.k1 ?_) fxPure.k2
  refine r_iload C d_Lw_law_674 rfl ?_
  refine zr_icmp_eq (tgt := 681) C d_Lw_law_676 (by decide) (by unfold zok; omega) (by unfold zok; omega) (fun c_676 => ?_) (fun c_676 => ?_)
  · refine r_iload C d_Lw_law_681 rfl ?_
    refine zr_if_ne (tgt := 698) C d_Lw_law_683 (by decide) (by unfold zok; omega) (fun c_683 => ?_) (fun c_683 => ?_)
    · refine r_goto (tgt := 1029) C d_Lw_law_698 (by decide) ?_
      exact fx_sub (ls' := [(4, zi (i : Int)), (0, .ref b), (1, .ref (A 0 0)), (2, .ref m), (3, .ref o)]) (by simp [fxL]) fin
    · have ev := g4 c_683
      rw [← e2] at ev
      refine r_aload_n C d_Lw_law_686 rfl rfl ?_
      refine r_iconst C d_Lw_law_687 rfl ?_
      refine zr_laload C d_Lw_law_688 (by decide) rfl (t := 0) (k := 0) (Or.inl ho2) rfl (by decide) (by decide) ev ?_
      refine r_iload C d_Lw_law_689 rfl ?_
      refine r_i2l C d_Lw_law_691 rfl ?_
      refine zr_lif_eq (tgt := 698) C d_Lw_law_692 d_Lw_law_693 (by decide) (fun c_692 => ?_) (fun c_692 => ?_)
      · refine r_goto (tgt := 1029) C d_Lw_law_698 (by decide) ?_
        exact fx_sub (ls' := [(4, zi (i : Int)), (0, .ref b), (1, .ref (A 0 0)), (2, .ref m), (3, .ref o)]) (by simp [fxL]) fin
      · exact absurd rfl c_692
  · exact absurd rfl c_676
set_option maxRecDepth 20000 in
theorem law_job {G : fxG} {nm : String} {rt : Option FieldType} {hh : List (Nat × Nat × Nat × Nat)} {x : fxX} {Q : State → Prop} (C : fxC G 16 cc_Lw_law 8 "ForkPoolLaw" nm rt hh x) {b L o m i : Nat} {ys : Nat → Int} {A : Ad} {S : Ms} {w : fxW} (hL : L ≤ 3073) (zy : ∀ j, zok (ys j)) (h : LI G b L o m ys A S w) (hi : i + 6 ≤ L) (t9 : fxt w + (4 * (Lam S).toNat + 3) ≤ fxmt G) (t8 : fxu w + (1818 * (Lam S).toNat + 919) ≤ fxmu G)
    (k : ∀ A' S' w', LI G b L o m ys A' S' w' → A' 0 0 = A 0 0 → Lam S' ≤ Lam S → fxt w' ≤ fxt w + (4 * (Lam S - Lam S').toNat + 3) → fxu w' ≤ fxu w + (1818 * (Lam S - Lam S').toNat + 919) → fxR G 8 x Q w' 1029 [(4, zi (i : Int)), (0, .ref b), (1, .ref (A 0 0)), (2, .ref m), (3, .ref o)] []) : fxR G 8 x Q w 701 [(4, zi (i : Int)), (0, .ref b), (1, .ref (A 0 0)), (2, .ref m), (3, .ref o)] [] := by
  obtain ⟨hRc, hI, hMo, kb, he, ho⟩ := id h
  have gd := gd_job hI (ys (i + 1)) (ys (i + 2))
  have hM := m_Lw_job (G := G) 13 hRc hI (by omega) ho (ys (i + 1)) (ys (i + 2)) (zy _) (zy _) t9 t8
  generalize hMM : mJob S (ys (i + 1)) (ys (i + 2)) = MM at hM gd
  refine r_aload_n C d_Lw_law_701 rfl rfl ?_
  refine r_aload_n C d_Lw_law_702 rfl rfl ?_
  refine r_iload C d_Lw_law_703 rfl ?_
  refine r_iconst C d_Lw_law_705 rfl ?_
  refine zr_iadd C d_Lw_law_706 ?_
  refine zr_iaload C d_Lw_law_707 (by decide) rfl (t := 1) (k := i + 1) (Or.inr kb) (by omega) (by omega) (by omega) (he _ (by omega)) ?_
  refine r_aload_n C d_Lw_law_708 rfl rfl ?_
  refine r_iload C d_Lw_law_709 rfl ?_
  refine r_iconst C d_Lw_law_711 rfl ?_
  refine zr_iadd C d_Lw_law_712 ?_
  refine zr_iaload C d_Lw_law_713 (by decide) rfl (t := 1) (k := i + 2) (Or.inr kb) (by omega) (by omega) (by omega) (he _ (by omega)) ?_
  refine r_aload_n C d_Lw_law_714 rfl rfl ?_
  refine c_Lw_112 C d_Lw_law_715 hM (by omega) (Nat.le_of_ble_eq_true rfl) ?_ (fun a w' z => by cases z.1)
  rintro v' w1 ⟨e9, hb9, A1, g1, g2, g3, g4⟩
  cases e9
  obtain ⟨r1, kb1, he1, ho1⟩ := h.o1 g3
  have hN := m_job (G := G) 12 r1 (by omega) hI.1.1.1 (ys (i + 1)) (ys (i + 2)) (zy _) (zy _)
  rw [hMM] at hN
  show fxR G 8 x _ w1 718 [(4, zi (i : Int)), (0, .ref b), (1, .ref (A 0 0)), (2, .ref m), (3, .ref o)] [zi (MM.2.1 0 0)]
  refine r_istore (ls' := [(5, _), (4, _), (0, _), (1, _), (2, _), (3, _)]) C d_Lw_law_718 (by decide) rfl ?_
  refine r_aload_n C d_Lw_law_720 rfl rfl ?_
  refine r_aload_n C d_Lw_law_721 rfl rfl ?_
  refine r_iload C d_Lw_law_722 rfl ?_
  refine r_iconst C d_Lw_law_724 rfl ?_
  refine zr_iadd C d_Lw_law_725 ?_
  refine zr_iaload C d_Lw_law_726 (by decide) rfl (t := 1) (k := i + 1) (Or.inr kb1) (by omega) (by omega) (by omega) (he1 _ (by omega)) ?_
  refine r_aload_n C d_Lw_law_727 rfl rfl ?_
  refine r_iload C d_Lw_law_728 rfl ?_
  refine r_iconst C d_Lw_law_730 rfl ?_
  refine zr_iadd C d_Lw_law_731 ?_
  refine zr_iaload C d_Lw_law_732 (by decide) rfl (t := 1) (k := i + 2) (Or.inr kb1) (by omega) (by omega) (by omega) (he1 _ (by omega)) ?_
  refine c_Lw_114 C d_Lw_law_733 r1.1 hN (by omega) (Nat.le_of_ble_eq_true rfl) (moRet.k1 fun w2 r2 f2 => ?_) moRet.k2
  obtain ⟨hL2, t2, u2, e2⟩ := h.go gd.1 g2 g3 r2 f2
  have ho2 := hL2.2.2.2.2.2
  have eA : A1 0 0 = A 0 0 := g1 0 0 (by decide) (by decide) (fun z => by cases z) (fun z => by cases z)
  have fin := k A1 MM.2 w2 hL2 eA gd.2.1 t2 u2
  refine r_istore (ls' := [(6, _), (5, _), (4, _), (0, _), (1, _), (2, _), (3, _)]) C d_Lw_law_736 (by decide) rfl ?_
  refine r_aload_n C d_Lw_law_738 rfl rfl ?_
  refine c_Lw_81 C d_Lw_law_739 r2.1 (m_thrown 0 r2) (by omega) (Nat.le_of_ble_eq_true rfl) (fxPure.k1 ?_) fxPure.k2
  refine r_iload C d_Lw_law_742 rfl ?_
  refine zr_icmp_eq (tgt := 749) C d_Lw_law_744 (by decide) (by unfold zok; omega) (by unfold zok; omega) (fun c_744 => ?_) (fun c_744 => ?_)
  · refine r_iload C d_Lw_law_749 rfl ?_
    refine zr_if_ne (tgt := 766) C d_Lw_law_751 (by decide) (by unfold zok; omega) (fun c_751 => ?_) (fun c_751 => ?_)
    · refine r_goto (tgt := 1029) C d_Lw_law_766 (by decide) ?_
      exact fx_sub (ls' := [(4, zi (i : Int)), (0, .ref b), (1, .ref (A 0 0)), (2, .ref m), (3, .ref o)]) (by simp [fxL]) fin
    · have ev := g4 c_751
      rw [← e2] at ev
      refine r_aload_n C d_Lw_law_754 rfl rfl ?_
      refine r_iconst C d_Lw_law_755 rfl ?_
      refine zr_laload C d_Lw_law_756 (by decide) rfl (t := 0) (k := 0) (Or.inl ho2) rfl (by decide) (by decide) ev ?_
      refine r_iload C d_Lw_law_757 rfl ?_
      refine r_i2l C d_Lw_law_759 rfl ?_
      refine zr_lif_eq (tgt := 766) C d_Lw_law_760 d_Lw_law_761 (by decide) (fun c_760 => ?_) (fun c_760 => ?_)
      · refine r_goto (tgt := 1029) C d_Lw_law_766 (by decide) ?_
        exact fx_sub (ls' := [(4, zi (i : Int)), (0, .ref b), (1, .ref (A 0 0)), (2, .ref m), (3, .ref o)]) (by simp [fxL]) fin
      · exact absurd rfl c_760
  · exact absurd rfl c_744
set_option maxRecDepth 20000 in
theorem law_task {G : fxG} {nm : String} {rt : Option FieldType} {hh : List (Nat × Nat × Nat × Nat)} {x : fxX} {Q : State → Prop} (C : fxC G 16 cc_Lw_law 8 "ForkPoolLaw" nm rt hh x) {b L o m i : Nat} {ys : Nat → Int} {A : Ad} {S : Ms} {w : fxW} (hL : L ≤ 3073) (zy : ∀ j, zok (ys j)) (h : LI G b L o m ys A S w) (hi : i + 6 ≤ L) (t9 : fxt w + (4 * (Lam S).toNat + 3) ≤ fxmt G) (t8 : fxu w + (1818 * (Lam S).toNat + 919) ≤ fxmu G)
    (k : ∀ A' S' w', LI G b L o m ys A' S' w' → A' 0 0 = A 0 0 → Lam S' ≤ Lam S → fxt w' ≤ fxt w + (4 * (Lam S - Lam S').toNat + 3) → fxu w' ≤ fxu w + (1818 * (Lam S - Lam S').toNat + 919) → fxR G 8 x Q w' 1029 [(4, zi (i : Int)), (0, .ref b), (1, .ref (A 0 0)), (2, .ref m), (3, .ref o)] []) : fxR G 8 x Q w 769 [(4, zi (i : Int)), (0, .ref b), (1, .ref (A 0 0)), (2, .ref m), (3, .ref o)] [] := by
  obtain ⟨hRc, hI, hMo, kb, he, ho⟩ := id h
  have gd := gd_task hI (ys (i + 1)) (ys (i + 2)) (ys (i + 3))
  have hM := m_Lw_task (G := G) 13 hRc hI (by omega) ho (ys (i + 1)) (ys (i + 2)) (ys (i + 3)) (zy _) (zy _) (zy _) t9 t8
  generalize hMM : mTask S (ys (i + 1)) (ys (i + 2)) (ys (i + 3)) = MM at hM gd
  refine r_aload_n C d_Lw_law_769 rfl rfl ?_
  refine r_aload_n C d_Lw_law_770 rfl rfl ?_
  refine r_iload C d_Lw_law_771 rfl ?_
  refine r_iconst C d_Lw_law_773 rfl ?_
  refine zr_iadd C d_Lw_law_774 ?_
  refine zr_iaload C d_Lw_law_775 (by decide) rfl (t := 1) (k := i + 1) (Or.inr kb) (by omega) (by omega) (by omega) (he _ (by omega)) ?_
  refine r_aload_n C d_Lw_law_776 rfl rfl ?_
  refine r_iload C d_Lw_law_777 rfl ?_
  refine r_iconst C d_Lw_law_779 rfl ?_
  refine zr_iadd C d_Lw_law_780 ?_
  refine zr_iaload C d_Lw_law_781 (by decide) rfl (t := 1) (k := i + 2) (Or.inr kb) (by omega) (by omega) (by omega) (he _ (by omega)) ?_
  refine r_aload_n C d_Lw_law_782 rfl rfl ?_
  refine r_iload C d_Lw_law_783 rfl ?_
  refine r_iconst C d_Lw_law_785 rfl ?_
  refine zr_iadd C d_Lw_law_786 ?_
  refine zr_iaload C d_Lw_law_787 (by decide) rfl (t := 1) (k := i + 3) (Or.inr kb) (by omega) (by omega) (by omega) (he _ (by omega)) ?_
  refine r_aload_n C d_Lw_law_788 rfl rfl ?_
  refine c_Lw_115 C d_Lw_law_789 hM (by omega) (Nat.le_of_ble_eq_true rfl) ?_ (fun a w' z => by cases z.1)
  rintro v' w1 ⟨e9, hb9, A1, g1, g2, g3, g4⟩
  cases e9
  obtain ⟨r1, kb1, he1, ho1⟩ := h.o1 g3
  have hN := m_task (G := G) 12 r1 (by omega) hI.1.1.1 (ys (i + 1)) (ys (i + 2)) (ys (i + 3)) (zy _) (zy _) (zy _)
  rw [hMM] at hN
  show fxR G 8 x _ w1 792 [(4, zi (i : Int)), (0, .ref b), (1, .ref (A 0 0)), (2, .ref m), (3, .ref o)] [zi (MM.2.1 0 0)]
  refine r_istore (ls' := [(5, _), (4, _), (0, _), (1, _), (2, _), (3, _)]) C d_Lw_law_792 (by decide) rfl ?_
  refine r_aload_n C d_Lw_law_794 rfl rfl ?_
  refine r_aload_n C d_Lw_law_795 rfl rfl ?_
  refine r_iload C d_Lw_law_796 rfl ?_
  refine r_iconst C d_Lw_law_798 rfl ?_
  refine zr_iadd C d_Lw_law_799 ?_
  refine zr_iaload C d_Lw_law_800 (by decide) rfl (t := 1) (k := i + 1) (Or.inr kb1) (by omega) (by omega) (by omega) (he1 _ (by omega)) ?_
  refine r_aload_n C d_Lw_law_801 rfl rfl ?_
  refine r_iload C d_Lw_law_802 rfl ?_
  refine r_iconst C d_Lw_law_804 rfl ?_
  refine zr_iadd C d_Lw_law_805 ?_
  refine zr_iaload C d_Lw_law_806 (by decide) rfl (t := 1) (k := i + 2) (Or.inr kb1) (by omega) (by omega) (by omega) (he1 _ (by omega)) ?_
  refine r_aload_n C d_Lw_law_807 rfl rfl ?_
  refine r_iload C d_Lw_law_808 rfl ?_
  refine r_iconst C d_Lw_law_810 rfl ?_
  refine zr_iadd C d_Lw_law_811 ?_
  refine zr_iaload C d_Lw_law_812 (by decide) rfl (t := 1) (k := i + 3) (Or.inr kb1) (by omega) (by omega) (by omega) (he1 _ (by omega)) ?_
  refine c_Lw_117 C d_Lw_law_813 r1.1 hN (by omega) (Nat.le_of_ble_eq_true rfl) (moRet.k1 fun w2 r2 f2 => ?_) moRet.k2
  obtain ⟨hL2, t2, u2, e2⟩ := h.go gd.1 g2 g3 r2 f2
  have ho2 := hL2.2.2.2.2.2
  have eA : A1 0 0 = A 0 0 := g1 0 0 (by decide) (by decide) (fun z => by cases z) (fun z => by cases z)
  have fin := k A1 MM.2 w2 hL2 eA gd.2.1 t2 u2
  refine r_istore (ls' := [(6, _), (5, _), (4, _), (0, _), (1, _), (2, _), (3, _)]) C d_Lw_law_816 (by decide) rfl ?_
  refine r_aload_n C d_Lw_law_818 rfl rfl ?_
  refine c_Lw_81 C d_Lw_law_819 r2.1 (m_thrown 0 r2) (by omega) (Nat.le_of_ble_eq_true rfl) (fxPure.k1 ?_) fxPure.k2
  refine r_iload C d_Lw_law_822 rfl ?_
  refine zr_icmp_eq (tgt := 829) C d_Lw_law_824 (by decide) (by unfold zok; omega) (by unfold zok; omega) (fun c_824 => ?_) (fun c_824 => ?_)
  · refine r_iload C d_Lw_law_829 rfl ?_
    refine zr_if_ne (tgt := 846) C d_Lw_law_831 (by decide) (by unfold zok; omega) (fun c_831 => ?_) (fun c_831 => ?_)
    · refine r_goto (tgt := 1029) C d_Lw_law_846 (by decide) ?_
      exact fx_sub (ls' := [(4, zi (i : Int)), (0, .ref b), (1, .ref (A 0 0)), (2, .ref m), (3, .ref o)]) (by simp [fxL]) fin
    · have ev := g4 c_831
      rw [← e2] at ev
      refine r_aload_n C d_Lw_law_834 rfl rfl ?_
      refine r_iconst C d_Lw_law_835 rfl ?_
      refine zr_laload C d_Lw_law_836 (by decide) rfl (t := 0) (k := 0) (Or.inl ho2) rfl (by decide) (by decide) ev ?_
      refine r_iload C d_Lw_law_837 rfl ?_
      refine r_i2l C d_Lw_law_839 rfl ?_
      refine zr_lif_eq (tgt := 846) C d_Lw_law_840 d_Lw_law_841 (by decide) (fun c_840 => ?_) (fun c_840 => ?_)
      · refine r_goto (tgt := 1029) C d_Lw_law_846 (by decide) ?_
        exact fx_sub (ls' := [(4, zi (i : Int)), (0, .ref b), (1, .ref (A 0 0)), (2, .ref m), (3, .ref o)]) (by simp [fxL]) fin
      · exact absurd rfl c_840
  · exact absurd rfl c_824
set_option maxRecDepth 20000 in
theorem law_worker {G : fxG} {nm : String} {rt : Option FieldType} {hh : List (Nat × Nat × Nat × Nat)} {x : fxX} {Q : State → Prop} (C : fxC G 16 cc_Lw_law 8 "ForkPoolLaw" nm rt hh x) {b L o m i : Nat} {ys : Nat → Int} {A : Ad} {S : Ms} {w : fxW} (hL : L ≤ 3073) (zy : ∀ j, zok (ys j)) (h : LI G b L o m ys A S w) (hi : i + 6 ≤ L) (t9 : fxt w + (4 * (Lam S).toNat + 3) ≤ fxmt G) (t8 : fxu w + (1818 * (Lam S).toNat + 919) ≤ fxmu G)
    (k : ∀ A' S' w', LI G b L o m ys A' S' w' → A' 0 0 = A 0 0 → Lam S' ≤ Lam S → fxt w' ≤ fxt w + (4 * (Lam S - Lam S').toNat + 3) → fxu w' ≤ fxu w + (1818 * (Lam S - Lam S').toNat + 919) → fxR G 8 x Q w' 1029 [(4, zi (i : Int)), (0, .ref b), (1, .ref (A 0 0)), (2, .ref m), (3, .ref o)] []) : fxR G 8 x Q w 849 [(4, zi (i : Int)), (0, .ref b), (1, .ref (A 0 0)), (2, .ref m), (3, .ref o)] [] := by
  obtain ⟨hRc, hI, hMo, kb, he, ho⟩ := id h
  have gd := gd_worker hI (ys (i + 1)) (ys (i + 2))
  have hM := m_Lw_worker (G := G) 13 hRc hI (by omega) ho (ys (i + 1)) (ys (i + 2)) (zy _) (zy _) t9 t8
  generalize hMM : mWorker S (ys (i + 1)) (ys (i + 2)) = MM at hM gd
  refine r_aload_n C d_Lw_law_849 rfl rfl ?_
  refine r_aload_n C d_Lw_law_850 rfl rfl ?_
  refine r_iload C d_Lw_law_851 rfl ?_
  refine r_iconst C d_Lw_law_853 rfl ?_
  refine zr_iadd C d_Lw_law_854 ?_
  refine zr_iaload C d_Lw_law_855 (by decide) rfl (t := 1) (k := i + 1) (Or.inr kb) (by omega) (by omega) (by omega) (he _ (by omega)) ?_
  refine r_aload_n C d_Lw_law_856 rfl rfl ?_
  refine r_iload C d_Lw_law_857 rfl ?_
  refine r_iconst C d_Lw_law_859 rfl ?_
  refine zr_iadd C d_Lw_law_860 ?_
  refine zr_iaload C d_Lw_law_861 (by decide) rfl (t := 1) (k := i + 2) (Or.inr kb) (by omega) (by omega) (by omega) (he _ (by omega)) ?_
  refine r_aload_n C d_Lw_law_862 rfl rfl ?_
  refine c_Lw_118 C d_Lw_law_863 hM (by omega) (Nat.le_of_ble_eq_true rfl) ?_ (fun a w' z => by cases z.1)
  rintro v' w1 ⟨e9, hb9, A1, g1, g2, g3, g4⟩
  cases e9
  obtain ⟨r1, kb1, he1, ho1⟩ := h.o1 g3
  have hN := m_worker (G := G) 12 r1 (by omega) hI.1.1.1 (ys (i + 1)) (ys (i + 2)) (zy _) (zy _)
  rw [hMM] at hN
  show fxR G 8 x _ w1 866 [(4, zi (i : Int)), (0, .ref b), (1, .ref (A 0 0)), (2, .ref m), (3, .ref o)] [zi (MM.2.1 0 0)]
  refine r_istore (ls' := [(5, _), (4, _), (0, _), (1, _), (2, _), (3, _)]) C d_Lw_law_866 (by decide) rfl ?_
  refine r_aload_n C d_Lw_law_868 rfl rfl ?_
  refine r_aload_n C d_Lw_law_869 rfl rfl ?_
  refine r_iload C d_Lw_law_870 rfl ?_
  refine r_iconst C d_Lw_law_872 rfl ?_
  refine zr_iadd C d_Lw_law_873 ?_
  refine zr_iaload C d_Lw_law_874 (by decide) rfl (t := 1) (k := i + 1) (Or.inr kb1) (by omega) (by omega) (by omega) (he1 _ (by omega)) ?_
  refine r_aload_n C d_Lw_law_875 rfl rfl ?_
  refine r_iload C d_Lw_law_876 rfl ?_
  refine r_iconst C d_Lw_law_878 rfl ?_
  refine zr_iadd C d_Lw_law_879 ?_
  refine zr_iaload C d_Lw_law_880 (by decide) rfl (t := 1) (k := i + 2) (Or.inr kb1) (by omega) (by omega) (by omega) (he1 _ (by omega)) ?_
  refine c_Lw_120 C d_Lw_law_881 r1.1 hN (by omega) (Nat.le_of_ble_eq_true rfl) (moRet.k1 fun w2 r2 f2 => ?_) moRet.k2
  obtain ⟨hL2, t2, u2, e2⟩ := h.go gd.1 g2 g3 r2 f2
  have ho2 := hL2.2.2.2.2.2
  have eA : A1 0 0 = A 0 0 := g1 0 0 (by decide) (by decide) (fun z => by cases z) (fun z => by cases z)
  have fin := k A1 MM.2 w2 hL2 eA gd.2.1 t2 u2
  refine r_istore (ls' := [(6, _), (5, _), (4, _), (0, _), (1, _), (2, _), (3, _)]) C d_Lw_law_884 (by decide) rfl ?_
  refine r_aload_n C d_Lw_law_886 rfl rfl ?_
  refine c_Lw_81 C d_Lw_law_887 r2.1 (m_thrown 0 r2) (by omega) (Nat.le_of_ble_eq_true rfl) (fxPure.k1 ?_) fxPure.k2
  refine r_iload C d_Lw_law_890 rfl ?_
  refine zr_icmp_eq (tgt := 897) C d_Lw_law_892 (by decide) (by unfold zok; omega) (by unfold zok; omega) (fun c_892 => ?_) (fun c_892 => ?_)
  · refine r_iload C d_Lw_law_897 rfl ?_
    refine zr_if_ne (tgt := 914) C d_Lw_law_899 (by decide) (by unfold zok; omega) (fun c_899 => ?_) (fun c_899 => ?_)
    · refine r_goto (tgt := 1029) C d_Lw_law_914 (by decide) ?_
      exact fx_sub (ls' := [(4, zi (i : Int)), (0, .ref b), (1, .ref (A 0 0)), (2, .ref m), (3, .ref o)]) (by simp [fxL]) fin
    · have ev := g4 c_899
      rw [← e2] at ev
      refine r_aload_n C d_Lw_law_902 rfl rfl ?_
      refine r_iconst C d_Lw_law_903 rfl ?_
      refine zr_laload C d_Lw_law_904 (by decide) rfl (t := 0) (k := 0) (Or.inl ho2) rfl (by decide) (by decide) ev ?_
      refine r_iload C d_Lw_law_905 rfl ?_
      refine r_i2l C d_Lw_law_907 rfl ?_
      refine zr_lif_eq (tgt := 914) C d_Lw_law_908 d_Lw_law_909 (by decide) (fun c_908 => ?_) (fun c_908 => ?_)
      · refine r_goto (tgt := 1029) C d_Lw_law_914 (by decide) ?_
        exact fx_sub (ls' := [(4, zi (i : Int)), (0, .ref b), (1, .ref (A 0 0)), (2, .ref m), (3, .ref o)]) (by simp [fxL]) fin
      · exact absurd rfl c_908
  · exact absurd rfl c_892
set_option maxRecDepth 20000 in
theorem law_grain {G : fxG} {nm : String} {rt : Option FieldType} {hh : List (Nat × Nat × Nat × Nat)} {x : fxX} {Q : State → Prop} (C : fxC G 16 cc_Lw_law 8 "ForkPoolLaw" nm rt hh x) {b L o m i : Nat} {ys : Nat → Int} {A : Ad} {S : Ms} {w : fxW} (hL : L ≤ 3073) (zy : ∀ j, zok (ys j)) (h : LI G b L o m ys A S w) (hi : i + 6 ≤ L) (t9 : fxt w + (4 * (Lam S).toNat + 3) ≤ fxmt G) (t8 : fxu w + (1818 * (Lam S).toNat + 919) ≤ fxmu G)
    (k : ∀ A' S' w', LI G b L o m ys A' S' w' → A' 0 0 = A 0 0 → Lam S' ≤ Lam S → fxt w' ≤ fxt w + (4 * (Lam S - Lam S').toNat + 3) → fxu w' ≤ fxu w + (1818 * (Lam S - Lam S').toNat + 919) → fxR G 8 x Q w' 1029 [(4, zi (i : Int)), (0, .ref b), (1, .ref (A 0 0)), (2, .ref m), (3, .ref o)] []) : fxR G 8 x Q w 917 [(4, zi (i : Int)), (0, .ref b), (1, .ref (A 0 0)), (2, .ref m), (3, .ref o)] [] := by
  obtain ⟨hRc, hI, hMo, kb, he, ho⟩ := id h
  have gd := gd_grain hI (ys (i + 1))
  have hM := m_Lw_grain (G := G) 13 hRc hI (by omega) ho (ys (i + 1)) (zy _) t9 t8
  generalize hMM : mGrain S (ys (i + 1)) = MM at hM gd
  refine r_aload_n C d_Lw_law_917 rfl rfl ?_
  refine r_aload_n C d_Lw_law_918 rfl rfl ?_
  refine r_iload C d_Lw_law_919 rfl ?_
  refine r_iconst C d_Lw_law_921 rfl ?_
  refine zr_iadd C d_Lw_law_922 ?_
  refine zr_iaload C d_Lw_law_923 (by decide) rfl (t := 1) (k := i + 1) (Or.inr kb) (by omega) (by omega) (by omega) (he _ (by omega)) ?_
  refine r_aload_n C d_Lw_law_924 rfl rfl ?_
  refine c_Lw_121 C d_Lw_law_925 hM (by omega) (Nat.le_of_ble_eq_true rfl) ?_ (fun a w' z => by cases z.1)
  rintro v' w1 ⟨e9, hb9, A1, g1, g2, g3, g4⟩
  cases e9
  obtain ⟨r1, kb1, he1, ho1⟩ := h.o1 g3
  have hN := m_grain (G := G) 12 r1 (by omega) (ys (i + 1)) (zy _)
  rw [hMM] at hN
  show fxR G 8 x _ w1 928 [(4, zi (i : Int)), (0, .ref b), (1, .ref (A 0 0)), (2, .ref m), (3, .ref o)] [zi (MM.2.1 0 0)]
  refine r_istore (ls' := [(5, _), (4, _), (0, _), (1, _), (2, _), (3, _)]) C d_Lw_law_928 (by decide) rfl ?_
  refine r_aload_n C d_Lw_law_930 rfl rfl ?_
  refine r_aload_n C d_Lw_law_931 rfl rfl ?_
  refine r_iload C d_Lw_law_932 rfl ?_
  refine r_iconst C d_Lw_law_934 rfl ?_
  refine zr_iadd C d_Lw_law_935 ?_
  refine zr_iaload C d_Lw_law_936 (by decide) rfl (t := 1) (k := i + 1) (Or.inr kb1) (by omega) (by omega) (by omega) (he1 _ (by omega)) ?_
  refine c_Lw_123 C d_Lw_law_937 r1.1 hN (by omega) (Nat.le_of_ble_eq_true rfl) (moRet.k1 fun w2 r2 f2 => ?_) moRet.k2
  obtain ⟨hL2, t2, u2, e2⟩ := h.go gd.1 g2 g3 r2 f2
  have ho2 := hL2.2.2.2.2.2
  have eA : A1 0 0 = A 0 0 := g1 0 0 (by decide) (by decide) (fun z => by cases z) (fun z => by cases z)
  have fin := k A1 MM.2 w2 hL2 eA gd.2.1 t2 u2
  refine r_istore (ls' := [(6, _), (5, _), (4, _), (0, _), (1, _), (2, _), (3, _)]) C d_Lw_law_940 (by decide) rfl ?_
  refine r_aload_n C d_Lw_law_942 rfl rfl ?_
  refine c_Lw_81 C d_Lw_law_943 r2.1 (m_thrown 0 r2) (by omega) (Nat.le_of_ble_eq_true rfl) (fxPure.k1 ?_) fxPure.k2
  refine r_iload C d_Lw_law_946 rfl ?_
  refine zr_icmp_eq (tgt := 953) C d_Lw_law_948 (by decide) (by unfold zok; omega) (by unfold zok; omega) (fun c_948 => ?_) (fun c_948 => ?_)
  · refine r_iload C d_Lw_law_953 rfl ?_
    refine zr_if_ne (tgt := 970) C d_Lw_law_955 (by decide) (by unfold zok; omega) (fun c_955 => ?_) (fun c_955 => ?_)
    · refine r_goto (tgt := 1029) C d_Lw_law_970 (by decide) ?_
      exact fx_sub (ls' := [(4, zi (i : Int)), (0, .ref b), (1, .ref (A 0 0)), (2, .ref m), (3, .ref o)]) (by simp [fxL]) fin
    · have ev := g4 c_955
      rw [← e2] at ev
      refine r_aload_n C d_Lw_law_958 rfl rfl ?_
      refine r_iconst C d_Lw_law_959 rfl ?_
      refine zr_laload C d_Lw_law_960 (by decide) rfl (t := 0) (k := 0) (Or.inl ho2) rfl (by decide) (by decide) ev ?_
      refine r_iload C d_Lw_law_961 rfl ?_
      refine r_i2l C d_Lw_law_963 rfl ?_
      refine zr_lif_eq (tgt := 970) C d_Lw_law_964 d_Lw_law_965 (by decide) (fun c_964 => ?_) (fun c_964 => ?_)
      · refine r_goto (tgt := 1029) C d_Lw_law_970 (by decide) ?_
        exact fx_sub (ls' := [(4, zi (i : Int)), (0, .ref b), (1, .ref (A 0 0)), (2, .ref m), (3, .ref o)]) (by simp [fxL]) fin
      · exact absurd rfl c_964
  · exact absurd rfl c_948
set_option maxRecDepth 20000 in
theorem law_count {G : fxG} {nm : String} {rt : Option FieldType} {hh : List (Nat × Nat × Nat × Nat)} {x : fxX} {Q : State → Prop} (C : fxC G 16 cc_Lw_law 8 "ForkPoolLaw" nm rt hh x) {b L o m i : Nat} {ys : Nat → Int} {A : Ad} {S : Ms} {w : fxW} (hL : L ≤ 3073) (zy : ∀ j, zok (ys j)) (h : LI G b L o m ys A S w) (hi : i + 6 ≤ L) (t9 : fxt w + (4 * (Lam S).toNat + 3) ≤ fxmt G) (t8 : fxu w + (1818 * (Lam S).toNat + 919) ≤ fxmu G)
    (k : ∀ A' S' w', LI G b L o m ys A' S' w' → A' 0 0 = A 0 0 → Lam S' ≤ Lam S → fxt w' ≤ fxt w + (4 * (Lam S - Lam S').toNat + 3) → fxu w' ≤ fxu w + (1818 * (Lam S - Lam S').toNat + 919) → fxR G 8 x Q w' 1029 [(4, zi (i : Int)), (0, .ref b), (1, .ref (A 0 0)), (2, .ref m), (3, .ref o)] []) : fxR G 8 x Q w 973 [(4, zi (i : Int)), (0, .ref b), (1, .ref (A 0 0)), (2, .ref m), (3, .ref o)] [] := by
  obtain ⟨hRc, hI, hMo, kb, he, ho⟩ := id h
  have gd := gd_count hI (ys (i + 1))
  have hM := m_Lw_count (G := G) 13 hRc hI (by omega) ho (ys (i + 1)) (zy _) t9 t8
  generalize hMM : mCount S (ys (i + 1)) = MM at hM gd
  refine r_aload_n C d_Lw_law_973 rfl rfl ?_
  refine r_aload_n C d_Lw_law_974 rfl rfl ?_
  refine r_iload C d_Lw_law_975 rfl ?_
  refine r_iconst C d_Lw_law_977 rfl ?_
  refine zr_iadd C d_Lw_law_978 ?_
  refine zr_iaload C d_Lw_law_979 (by decide) rfl (t := 1) (k := i + 1) (Or.inr kb) (by omega) (by omega) (by omega) (he _ (by omega)) ?_
  refine r_aload_n C d_Lw_law_980 rfl rfl ?_
  refine c_Lw_124 C d_Lw_law_981 hM (by omega) (Nat.le_of_ble_eq_true rfl) ?_ (fun a w' z => by cases z.1)
  rintro v' w1 ⟨e9, hb9, A1, g1, g2, g3, g4⟩
  cases e9
  obtain ⟨r1, kb1, he1, ho1⟩ := h.o1 g3
  have hN := m_count (G := G) 12 r1 (by omega) (ys (i + 1)) (zy _)
  rw [hMM] at hN
  show fxR G 8 x _ w1 984 [(4, zi (i : Int)), (0, .ref b), (1, .ref (A 0 0)), (2, .ref m), (3, .ref o)] [zi (MM.2.1 0 0)]
  refine r_istore (ls' := [(5, _), (4, _), (0, _), (1, _), (2, _), (3, _)]) C d_Lw_law_984 (by decide) rfl ?_
  refine r_aload_n C d_Lw_law_986 rfl rfl ?_
  refine r_aload_n C d_Lw_law_987 rfl rfl ?_
  refine r_iload C d_Lw_law_988 rfl ?_
  refine r_iconst C d_Lw_law_990 rfl ?_
  refine zr_iadd C d_Lw_law_991 ?_
  refine zr_iaload C d_Lw_law_992 (by decide) rfl (t := 1) (k := i + 1) (Or.inr kb1) (by omega) (by omega) (by omega) (he1 _ (by omega)) ?_
  refine c_Lw_126 C d_Lw_law_993 r1.1 hN (by omega) (Nat.le_of_ble_eq_true rfl) (moRet.k1 fun w2 r2 f2 => ?_) moRet.k2
  obtain ⟨hL2, t2, u2, e2⟩ := h.go gd.1 g2 g3 r2 f2
  have ho2 := hL2.2.2.2.2.2
  have eA : A1 0 0 = A 0 0 := g1 0 0 (by decide) (by decide) (fun z => by cases z) (fun z => by cases z)
  have fin := k A1 MM.2 w2 hL2 eA gd.2.1 t2 u2
  refine r_istore (ls' := [(6, _), (5, _), (4, _), (0, _), (1, _), (2, _), (3, _)]) C d_Lw_law_996 (by decide) rfl ?_
  refine r_aload_n C d_Lw_law_998 rfl rfl ?_
  refine c_Lw_81 C d_Lw_law_999 r2.1 (m_thrown 0 r2) (by omega) (Nat.le_of_ble_eq_true rfl) (fxPure.k1 ?_) fxPure.k2
  refine r_iload C d_Lw_law_1002 rfl ?_
  refine zr_icmp_eq (tgt := 1009) C d_Lw_law_1004 (by decide) (by unfold zok; omega) (by unfold zok; omega) (fun c_1004 => ?_) (fun c_1004 => ?_)
  · refine r_iload C d_Lw_law_1009 rfl ?_
    refine zr_if_ne (tgt := 1026) C d_Lw_law_1011 (by decide) (by unfold zok; omega) (fun c_1011 => ?_) (fun c_1011 => ?_)
    · refine r_goto (tgt := 1029) C d_Lw_law_1026 (by decide) ?_
      exact fx_sub (ls' := [(4, zi (i : Int)), (0, .ref b), (1, .ref (A 0 0)), (2, .ref m), (3, .ref o)]) (by simp [fxL]) fin
    · have ev := g4 c_1011
      rw [← e2] at ev
      refine r_aload_n C d_Lw_law_1014 rfl rfl ?_
      refine r_iconst C d_Lw_law_1015 rfl ?_
      refine zr_laload C d_Lw_law_1016 (by decide) rfl (t := 0) (k := 0) (Or.inl ho2) rfl (by decide) (by decide) ev ?_
      refine r_iload C d_Lw_law_1017 rfl ?_
      refine r_i2l C d_Lw_law_1019 rfl ?_
      refine zr_lif_eq (tgt := 1026) C d_Lw_law_1020 d_Lw_law_1021 (by decide) (fun c_1020 => ?_) (fun c_1020 => ?_)
      · refine r_goto (tgt := 1029) C d_Lw_law_1026 (by decide) ?_
        exact fx_sub (ls' := [(4, zi (i : Int)), (0, .ref b), (1, .ref (A 0 0)), (2, .ref m), (3, .ref o)]) (by simp [fxL]) fin
      · exact absurd rfl c_1020
  · exact absurd rfl c_1004

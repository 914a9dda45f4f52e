/-! THE POOL IS MADE, II -/
def Ai (G : fxG) (p t0 W : Nat) : Ad := fun k x => if k = 0 then p else if k = 1 then t0 + 1 + 2 * x else if k = 2 then t0 + 2 + 2 * x else if k = 5 then t0 + 10 + 2 * x else if k = 6 then t0 + 11 + 2 * x else if k = 7 then fxad G 0 else if k = 8 then (if x = 0 then t0 else if x = 1 then t0 + 9 else t0 + 10 + 2 * W) else 0
theorem mIni_n (n : Int) (W : Nat) (hW : (W : Int) = if n < 1 then 1 else if 4 < n then 4 else n) : (mIni n).1 1 0 = (W : Int) ∧ (mIni n).1 14 0 = 0 ∧ (mIni n).1 23 0 = 0 ∧ (mIni n).1 30 0 = 4 ∧ (mIni n).1 31 0 = 0 ∧ (mIni n).1 32 0 = 0 ∧ (∀ a, a < 4 → (mIni n).1 2 a = -1 ∧ (mIni n).1 3 a = 0) ∧ (∀ i, i < 4 → (mIni n).1 25 i = 0 ∧ (mIni n).1 26 i = 0 ∧ (mIni n).1 27 i = 0 ∧ (mIni n).1 28 i = 0 ∧ (mIni n).1 29 i = (i : Int)) ∧ (mIni n).2 = fun _ _ => 0 := by
  have e : ∀ k j, k ≠ 1 → (mIni n).1 k j = (sp mVict 30 0 4).1 k j := fun k j h => sp_k _ _ _ _ h
  refine ⟨?_, by rw [e _ _ (by decide)]; rfl, by rw [e _ _ (by decide)]; rfl, by rw [e _ _ (by decide)]; rfl, by rw [e _ _ (by decide)]; rfl, by rw [e _ _ (by decide)]; rfl, fun a ha => ?_, fun i hi => ?_, rfl⟩
  · unfold mIni; rw [sp_same]; exact hW.symm
  · rw [e _ _ (by decide), e _ _ (by decide)]
    match a, ha with
    | 0, _ => exact ⟨rfl, rfl⟩
    | 1, _ => exact ⟨rfl, rfl⟩
    | 2, _ => exact ⟨rfl, rfl⟩
    | 3, _ => exact ⟨rfl, rfl⟩
  · rw [e _ _ (by decide), e _ _ (by decide), e _ _ (by decide), e _ _ (by decide), e _ _ (by decide)]
    match i, hi with
    | 0, _ => exact ⟨rfl, rfl, rfl, rfl, rfl⟩
    | 1, _ => exact ⟨rfl, rfl, rfl, rfl, rfl⟩
    | 2, _ => exact ⟨rfl, rfl, rfl, rfl, rfl⟩
    | 3, _ => exact ⟨rfl, rfl, rfl, rfl, rfl⟩
theorem Zb.ini (n : Int) : Zb (mIni n) := by
  refine ⟨fun x _ => rfl, fun t _ _ => rfl⟩
set_option maxRecDepth 20000 in
theorem m_FP_init {G : fxG} (d : Nat) {w : fxW} {p : Nat} (hd1 : 6 ≤ d) (hp : fxk w p = some (0, 0)) (h3 : fxf w 3 p = zi 0) (h4 : fxf w 4 p = zi 0) (h5 : fxf w 5 p = zi 0) (had : fxk w (fxad G 0) = some (202, 0)) (n : Int) (hn : zok n) (t9 : fxt w + 19 ≤ fxmt G) (t8 : fxu w + 160 ≤ fxmu G) : fxM G d y_FP_init [.ref p, zi n] w (fun o w' => o = .returned none ∧ ∃ A, A 0 0 = p ∧ Rc G A (mIni n) w' ∧ CF 19 160 w w') := by
  refine fxM.of cc_FP_init 3 none [] (by decide +kernel) w_FP_init (Nat.le_of_ble_eq_true rfl) ?_
  intro x C ht hu
  show fxR G 3 x _ w 0 [(0, .ref p), (1, zi n)] []
  refine fx_dom (fun hdm => ?_)
  have plt := hdm _ _ _ hp
  have alt := hdm _ _ _ had
  obtain ⟨t0, et0⟩ : ∃ t0, t0 = fxt w := ⟨_, rfl⟩
  obtain ⟨W, hW, hW1, hW4⟩ : ∃ W : Nat, ((W : Int) = if n < 1 then 1 else if 4 < n then 4 else n) ∧ 1 ≤ W ∧ W ≤ 4 := by
    by_cases c1 : n < 1
    · exact ⟨1, by rw [if_pos c1]; rfl, by omega, by omega⟩
    · by_cases c2 : 4 < n
      · exact ⟨4, by rw [if_neg c1, if_pos c2]; rfl, by omega, by omega⟩
      · exact ⟨n.toNat, by rw [if_neg c1, if_neg c2]; omega, by omega, by omega⟩
  generalize hQ : (fun (o : Outcome) (w' : fxW) => o = .returned none ∧ ∃ A, A 0 0 = p ∧ Rc G A (mIni n) w' ∧ CF 19 160 w w') = QQ
  -- behind the workers
  have last : ∀ w1, I2 G w p t0 W W w1 → fxR G 3 x (fxQ G x QQ) w1 85 [(2, zi (W : Int)), (0, .ref p), (1, zi n)] [] := by
    intro w1 h
    obtain ⟨a1, a2, a3, a4, a5, ⟨a6, a7, a8⟩, a9, a10, a11⟩ := h
    have kp : fxk w1 p = some (0, 0) := (a6 p (by omega)).trans hp
    refine r_aload_n C d_FP_init_85 rfl rfl ?_
    refine r_bipush (v := Int32.ofInt 12) C d_FP_init_86 (by decide) ?_
    refine an_FP_34 (N := 12) C d_FP_init_88 rfl (by decide) (by omega) (by omega) ?_
    rw [a1]
    have kp1 : fxk (fx_newa w1 5 12 .null) p = some (0, 0) := (fxk_newaN _ _ _ _ (by omega)).trans kp
    refine p_FP_36F (nm := "") C d_FP_init_91 rfl rfl kp1 ?_
    refine r_aload_n C d_FP_init_94 rfl rfl ?_
    refine r_iconst C d_FP_init_95 rfl ?_
    refine p_FP_40 C d_FP_init_96 rfl rfl kp1 ?_
    rw [← hQ]
    refine r_return C d_FP_init_99 rfl ⟨rfl, Ai G p t0 W, rfl, ?_, ?_⟩
    · generalize hw2 : fx_put (fx_put (fx_newa w1 5 12 .null) 2 p (.ref (t0 + 10 + 2 * W))) 6 p (zi 4) = w2
      have k2 : ∀ b, b < fxt w1 → fxk w2 b = fxk w1 b := fun b hb => by rw [← hw2]; show fxk (fx_newa w1 5 12 .null) b = _; exact fxk_newaN _ _ _ _ (by omega)
      have k2n : fxk w2 (t0 + 10 + 2 * W) = some (105, 12) := by rw [← hw2, ← a1]; exact fxk_newa w1 5 12 .null
      have f2 : ∀ g b, (b ≠ p ∨ (g ≠ 2 ∧ g ≠ 6)) → fxf w2 g b = fxf w1 g b := fun g b hb => by
        rw [← hw2, fxf_putN _ _ (by omega), fxf_putN _ _ (by omega)]; rfl
      have f22 : fxf w2 2 p = .ref (t0 + 10 + 2 * W) := by rw [← hw2, fxf_putN _ _ (Or.inl (by decide)), fxf_put]
      have f26 : fxf w2 6 p = zi 4 := by rw [← hw2, fxf_put]
      have e2 : ∀ t b j, b < fxt w1 → fxe w2 t b j = fxe w1 t b j := fun t b j hb => by rw [← hw2]; show fxe (fx_newa w1 5 12 .null) t b j = _; exact fxe_newaN _ _ _ _ (by omega)
      obtain ⟨m1, m14, m23, m30, m31, m32, mA, mW, m2⟩ := mIni_n n W hW
      have fp : ∀ g, g = 3 ∨ g = 4 ∨ g = 5 → fxf w2 g p = fxf w g p := fun g hg => (f2 g p (Or.inr (by omega))).trans (a7 g p (by omega) (Or.inr (by omega)))
      refine ⟨?_, ⟨fun a ha => ?_, fun a b ha hb hab => ?_⟩, ⟨fun j hj => ?_, fun i j hi => ?_⟩, ⟨fun t ht => ?_, fun s t hs => ?_⟩, ⟨fun i hi => ?_, fun i j _ _ hij => ?_⟩, ⟨fun i hi => ?_, fun i j hi hj hij => ⟨?_, fun n' hn' => ?_⟩⟩⟩
      · unfold RcP
        rw [m1, m14, m30, m31, m32, Int.toNat_natCast]
        refine ⟨(k2 p (by omega)).trans kp, (f2 0 p (Or.inr (by decide))).trans a5, (f2 1 p (Or.inr (by decide))).trans a10, f22, (fp 3 (by simp)).trans h3, (fp 4 (by simp)).trans h4, (fp 5 (by simp)).trans h5, f26, (k2 t0 (by omega)).trans a3, (k2 (t0 + 9) (by omega)).trans a9, k2n, fun a ha => ?_, fun i hi => ?_, fun j hj => by omega⟩
        · exact (e2 _ _ _ (by show t0 < _; omega)).trans (a4 a ha).2
        · exact (e2 _ _ _ (by show t0 + 9 < _; omega)).trans (a11 i (by omega)).2.2.2.2.2.2.2.2.2.2
      · obtain ⟨q1, q2⟩ := mA a ha
        have ec : cty (mIni n) a = 0 := by unfold cty; rw [q1]; rfl
        have eg : rowG (mIni n) a = fun _ => 0 := rfl
        rw [ec, eg, q2]
        exact (a4 a ha).1.pz (k2 _ (by omega)) (k2 _ (by omega)) (fun g => f2 g _ (Or.inl (by show t0 + 1 + 2 * a ≠ p; omega))) (fun j => e2 _ _ _ (by show t0 + 2 + 2 * a < _; omega))
      · exact ⟨by show t0 + 1 + 2 * a ≠ t0 + 1 + 2 * b; omega, by show t0 + 2 + 2 * a ≠ t0 + 2 + 2 * b; omega⟩
      · rw [m14] at hj; omega
      · rw [m14] at hi; omega
      · rw [m23] at ht; omega
      · rw [m23] at hs; omega
      · rw [m1] at hi
        obtain ⟨q0, q1, q2, q3, q4⟩ := mW i (by omega)
        obtain ⟨r1, r2, r3, r4, r5, r6, -⟩ := a11 i (by omega)
        unfold WkAt
        rw [q1, q2, q3, q4]
        have g0 : ∀ g, fxf w2 g (t0 + 10 + 2 * i) = fxf w1 g (t0 + 10 + 2 * i) := fun g => f2 g _ (Or.inl (by omega))
        exact ⟨(k2 (t0 + 10 + 2 * i) (by omega)).trans r1, (g0 _).trans r2, (g0 _).trans r3, (g0 _).trans r4, (g0 _).trans r5, (g0 _).trans r6⟩
      · show t0 + 10 + 2 * i ≠ t0 + 10 + 2 * j; omega
      · rw [m1] at hi
        obtain ⟨q0, -⟩ := mW i (by omega)
        obtain ⟨r1, r2, r3, r4, r5, r6, r7, r8, r9, r10, -⟩ := a11 i (by omega)
        have g0 : ∀ g, fxf w2 g (t0 + 11 + 2 * i) = fxf w1 g (t0 + 11 + 2 * i) := fun g => f2 g _ (Or.inl (by omega))
        rw [qL_nil q0]
        exact ⟨(k2 (t0 + 11 + 2 * i) (by omega)).trans r7, (g0 _).trans r8, (g0 _).trans r9, ⟨0, (g0 _).trans r10⟩, Or.inl ⟨rfl, rfl, (k2 (fxad G 0) (by omega)).trans ((a6 (fxad G 0) (by omega)).trans had), rfl⟩, fun y hy => by cases hy⟩
      · show t0 + 11 + 2 * i ≠ t0 + 11 + 2 * j; omega
      · have hn2 : fxk w2 (fxad G 0) = some (102, n') := hn'
        rw [k2 _ (by omega), a6 _ (by omega), had] at hn2
        cases hn2
    · refine ⟨?_, ?_, ?_, ?_, fun b q hb => ?_, fun b q hb hq => ⟨fun g => ?_, fun t j => ?_⟩⟩
      · show fxt w ≤ fxt w1 + 1; omega
      · show fxt w1 + 1 ≤ _; omega
      · show fxu w ≤ fxu w1 + 12; omega
      · show fxu w1 + 12 ≤ _; omega
      · have := hdm b q.1 q.2 hb
        exact (fxk_newaN w1 5 12 .null (by omega)).trans ((a6 b (by omega)).trans hb)
      · have := hdm b q.1 q.2 hb
        have hbp : b ≠ p := fun z => by
          subst z
          cases hp.symm.trans hb
          rcases hq with z | z | z | z
          · cases z
          · cases z
          · cases z
          · cases z.1
        rw [fxf_putN _ _ (Or.inr hbp), fxf_putN _ _ (Or.inr hbp)]
        exact a7 g b (by omega) (Or.inl hbp)
      · have := hdm b q.1 q.2 hb
        exact (fxe_newaN w1 5 12 .null (by omega)).trans (a8 t b j (by omega))
  -- the workers
  have loop2 : ∀ (m i : Nat) (w1 : fxW), i + m = W → I2 G w p t0 W i w1 → fxR G 3 x (fxQ G x QQ) w1 56 [(2, zi (i : Int)), (0, .ref p), (1, zi n)] [] := by
    intro m
    induction m with
    | zero =>
      intro i w1 hm h
      have hiW : i = W := by omega
      subst hiW
      obtain ⟨a1, a2, a3, a4, a5, ⟨a6, a7, a8⟩, a9, a10, a11⟩ := id h
      have kp : fxk w1 p = some (0, 0) := (a6 p (by omega)).trans hp
      refine r_iload_n C d_FP_init_56 rfl rfl ?_
      refine r_aload_n C d_FP_init_57 rfl rfl ?_
      refine g_FP_27 C d_FP_init_58 kp a10 ?_
      refine zr_alen C d_FP_init_61 (by decide) (t := 4) (Or.inl a9) ?_
      refine zr_icmp_ge (tgt := 85) C d_FP_init_62 (by decide) (by unfold zok; omega) (by unfold zok; omega) (fun c_62 => ?_) (fun c_62 => ?_)
      · exact last w1 h
      · exact absurd c_62 (by omega)
    | succ m ih =>
      intro i w1 hm h
      obtain ⟨a1, a2, a3, a4, a5, ⟨a6, a7, a8⟩, a9, a10, a11⟩ := id h
      have kp : fxk w1 p = some (0, 0) := (a6 p (by omega)).trans hp
      refine r_iload_n C d_FP_init_56 rfl rfl ?_
      refine r_aload_n C d_FP_init_57 rfl rfl ?_
      refine g_FP_27 C d_FP_init_58 kp a10 ?_
      refine zr_alen C d_FP_init_61 (by decide) (t := 4) (Or.inl a9) ?_
      refine zr_icmp_ge (tgt := 85) C d_FP_init_62 (by decide) (by unfold zok; omega) (by unfold zok; omega) (fun c_62 => ?_) (fun c_62 => ?_)
      · exact absurd c_62 (by omega)
      · refine r_aload_n C d_FP_init_65 rfl rfl ?_
        refine g_FP_27 C d_FP_init_66 kp a10 ?_
        refine r_iload_n C d_FP_init_69 rfl rfl ?_
        refine n_FP_25 C d_FP_init_70 (by omega) (by omega) ?_
        refine r_dup C d_FP_init_73 rfl ?_
        refine r_iload_n C d_FP_init_74 rfl rfl ?_
        refine c_FP_31 C d_FP_init_75 (m_Wk_init 4 (by omega) (fxk_new _ _ _ _) (i : Int) (by show fxt w1 + 1 + 1 ≤ _; omega) (by show fxu w1 + 5 + 3 ≤ _; omega)) (by omega) (Nat.le_of_ble_eq_true rfl) ?_ (fun a w' z => by cases z.1)
        rintro v' w2 ⟨e9, hw2⟩
        cases e9
        show fxR G 3 x _ w2 78 _ [.ref (fxt w1), zi (i : Int), .ref (t0 + 9)]
        have hk1 : fxk w2 (fxt w1) = some (4, 0) := by
          rw [hw2]
          show fxk (fx_new (fx_new w1 4 5 (fun k => defaultValue (tWk k))) 5 3 (fun k => defaultValue (tAL k))) (fxt w1) = _
          rw [fxk_newN _ _ _ _ (by show fxt w1 ≠ fxt w1 + 1; omega)]
          exact fxk_new _ _ _ _
        have hk2 : fxk w2 (t0 + 9) = some (104, W) := by
          rw [hw2]
          show fxk (fx_new (fx_new w1 4 5 (fun k => defaultValue (tWk k))) 5 3 (fun k => defaultValue (tAL k))) (t0 + 9) = _
          rw [fxk_newN _ _ _ _ (by show t0 + 9 ≠ fxt w1 + 1; omega), fxk_newN _ _ _ _ (by omega)]
          exact a9
        refine zr_aastore (t := 4) (k := i) (ci := 4) (n := W) (n' := 0) (r := (RWk, FWk, 5)) (E := "ForkPool$Worker") C d_FP_init_78 (by decide) rfl hk2 hk1 (by decide) rfl (Or.inl rfl) rfl (by omega) (by omega) ?_
        refine zr_iinc (ls' := [(2, _), (0, _), (1, _)]) C d_FP_init_79 rfl (by decide) rfl ?_
        refine r_goto (tgt := 56) C d_FP_init_82 (by decide) ?_
        rw [hw2]
        exact ih (i + 1) _ (by omega) (h.step (by omega))
  -- behind the rows
  have mid : ∀ w1, I1 w p t0 4 w1 → fxR G 3 x (fxQ G x QQ) w1 38 [(2, zi 4), (0, .ref p), (1, zi n)] [] := by
    intro w1 h
    obtain ⟨a1, a2, a3, a4, a5, a6, a7, a8⟩ := h
    have kp : fxk w1 p = some (0, 0) := (a6 p (by omega)).trans hp
    refine r_aload_n C d_FP_init_38 rfl rfl ?_
    refine r_iconst C d_FP_init_39 rfl ?_
    refine r_iconst C d_FP_init_40 rfl ?_
    refine r_iload_n C d_FP_init_41 rfl rfl ?_
    refine c_FP_16 C d_FP_init_42 (m_minI 0 w1 4 n (by unfold zok; omega) hn) (by omega) (Nat.le_of_ble_eq_true rfl) (fxPure.k1 ?_) fxPure.k2
    refine c_FP_22 C d_FP_init_45 (m_maxI 0 w1 1 _ (by unfold zok; omega) (by unfold zok at *; split <;> omega)) (by omega) (Nat.le_of_ble_eq_true rfl) (fxPure.k1 ?_) fxPure.k2
    have eW : (if (1 : Int) < (if n < 4 then n else 4) then (if n < 4 then n else 4) else 1) = (W : Int) := by rw [hW]; split <;> split <;> (try split) <;> (try split) <;> omega
    rw [eW]
    refine an_FP_25 (N := W) C d_FP_init_48 rfl (by omega) (by omega) (by omega) ?_
    have kp1 : fxk (fx_newa w1 4 W .null) p = some (0, 0) := (fxk_newaN _ _ _ _ (by omega)).trans kp
    refine p_FP_27F (nm := "") C d_FP_init_51 rfl rfl kp1 ?_
    refine r_iconst C d_FP_init_54 rfl ?_
    refine r_istore_n (ls' := [(2, _), (0, _), (1, _)]) C d_FP_init_55 rfl (by decide) rfl ?_
    refine loop2 W 0 _ (by omega) ?_
    have et : fxt w1 = t0 + 9 := a1
    have kk : ∀ b, b < fxt w1 → fxk (fx_put (fx_newa w1 4 W .null) 1 p (.ref (fxt w1))) b = fxk w1 b := fun b hb => fxk_newaN w1 4 W .null (by omega)
    have ff : ∀ g b, (g ≠ 1 ∨ b ≠ p) → fxf (fx_put (fx_newa w1 4 W .null) 1 p (.ref (fxt w1))) g b = fxf w1 g b := fun g b hb => fxf_putN _ _ hb
    have ee : ∀ t b j, b < fxt w1 → fxe (fx_put (fx_newa w1 4 W .null) 1 p (.ref (fxt w1))) t b j = fxe w1 t b j := fun t b j hb => fxe_newaN w1 4 W .null (by omega)
    refine ⟨by show fxt w1 + 1 = _; omega, by show fxu w1 + W = _; omega, (kk _ (by omega)).trans a3, fun a ha => ?_, (ff _ _ (Or.inl (by decide))).trans a5, ⟨fun b hb => (kk b (by omega)).trans (a6 b hb), fun g b hb hg => (ff g b (by omega)).trans (a7 g b hb hg), fun t b j hb => (ee t b j (by omega)).trans (a8 t b j hb)⟩, by rw [← et]; exact fxk_newa w1 4 W .null, by rw [← et]; exact fxf_put _ _ _ _, fun k hk => by omega⟩
    obtain ⟨q1, q2⟩ := a4 a ha
    exact ⟨q1.pz (kk _ (by omega)) (kk _ (by omega)) (fun g => ff g _ (Or.inr (by omega))) (fun j => ee _ _ _ (by omega)), (ee _ _ _ (by omega)).trans q2⟩
  -- the rows
  have loop1 : ∀ (m i : Nat) (w1 : fxW), i + m = 4 → I1 w p t0 i w1 → fxR G 3 x (fxQ G x QQ) w1 14 [(2, zi (i : Int)), (0, .ref p), (1, zi n)] [] := by
    intro m
    induction m with
    | zero =>
      intro i w1 hm h
      have hi4 : i = 4 := by omega
      subst hi4
      refine r_iload_n C d_FP_init_14 rfl rfl ?_
      refine r_iconst C d_FP_init_15 rfl ?_
      refine zr_icmp_ge (tgt := 38) C d_FP_init_16 (by decide) (by unfold zok; omega) (by unfold zok; omega) (fun c_16 => ?_) (fun c_16 => ?_)
      · exact mid w1 h
      · exact absurd c_16 (by omega)
    | succ m ih =>
      intro i w1 hm h
      obtain ⟨a1, a2, a3, a4, a5, a6, a7, a8⟩ := id h
      have kp : fxk w1 p = some (0, 0) := (a6 p (by omega)).trans hp
      refine r_iload_n C d_FP_init_14 rfl rfl ?_
      refine r_iconst C d_FP_init_15 rfl ?_
      refine zr_icmp_ge (tgt := 38) C d_FP_init_16 (by decide) (by unfold zok; omega) (by unfold zok; omega) (fun c_16 => ?_) (fun c_16 => ?_)
      · exact absurd c_16 (by omega)
      · refine r_aload_n C d_FP_init_19 rfl rfl ?_
        refine g_FP_11 C d_FP_init_20 kp a5 ?_
        refine r_iload_n C d_FP_init_23 rfl rfl ?_
        refine n_FP_9 C d_FP_init_24 (by omega) (by omega) ?_
        refine r_dup C d_FP_init_27 rfl ?_
        refine c_FP_15 C d_FP_init_28 (m_Row_init 1 (by omega) (fxk_new _ _ _ _) (by show fxt w1 + 1 + 1 ≤ _; omega) (by show fxu w1 + 3 + 24 ≤ _; omega)) (by omega) (Nat.le_of_ble_eq_true rfl) ?_ (fun a w' z => by cases z.1)
        rintro v' w2 ⟨e9, hw2⟩
        cases e9
        show fxR G 3 x _ w2 31 _ [.ref (fxt w1), zi (i : Int), .ref t0]
        have hk1 : fxk w2 (fxt w1) = some (1, 0) := by
          rw [hw2]
          show fxk (fx_newa (fx_new w1 1 3 (fun k => defaultValue (tRow k))) 0 24 (.long 0)) (fxt w1) = _
          rw [fxk_newaN _ _ _ _ (by show fxt w1 ≠ fxt w1 + 1; omega)]
          exact fxk_new _ _ _ _
        have hk2 : fxk w2 t0 = some (103, 4) := by
          rw [hw2]
          show fxk (fx_newa (fx_new w1 1 3 (fun k => defaultValue (tRow k))) 0 24 (.long 0)) t0 = _
          rw [fxk_newaN _ _ _ _ (by show t0 ≠ fxt w1 + 1; omega), fxk_newN _ _ _ _ (by omega)]
          exact a3
        refine zr_aastore (t := 3) (k := i) (ci := 1) (n := 4) (n' := 0) (r := (RRow, FRow, 3)) (E := "ForkPool$Row") C d_FP_init_31 (by decide) rfl hk2 hk1 (by decide) rfl (Or.inl rfl) rfl (by omega) (by decide) ?_
        refine zr_iinc (ls' := [(2, _), (0, _), (1, _)]) C d_FP_init_32 rfl (by decide) rfl ?_
        refine r_goto (tgt := 14) C d_FP_init_35 (by decide) ?_
        rw [hw2]
        exact ih (i + 1) _ (by omega) (h.step (by omega))
  refine r_aload_n C d_FP_init_0 rfl rfl ?_
  refine o_FP_3 C d_FP_init_1 (by omega) (by decide) ?_
  refine r_aload_n C d_FP_init_4 rfl rfl ?_
  refine r_iconst C d_FP_init_5 rfl ?_
  refine an_FP_9 (N := 4) C d_FP_init_6 rfl (by decide) (by omega) (by omega) ?_
  have kp1 : fxk (fx_newa w 3 4 .null) p = some (0, 0) := (fxk_newaN _ _ _ _ (by omega)).trans hp
  refine p_FP_11F (nm := "") C d_FP_init_9 rfl rfl kp1 ?_
  refine r_iconst C d_FP_init_12 rfl ?_
  refine r_istore_n (ls' := [(2, _), (0, _), (1, _)]) C d_FP_init_13 rfl (by decide) rfl ?_
  refine loop1 4 0 _ (by omega) ?_
  have kk : ∀ b, b ≠ fxt w → fxk (fx_put (fx_newa w 3 4 .null) 0 p (.ref (fxt w))) b = fxk w b := fun b hb => by
    show fxk (fx_newa w 3 4 .null) b = _
    exact fxk_newaN _ _ _ _ hb
  have ee : ∀ t b j, b ≠ fxt w → fxe (fx_put (fx_newa w 3 4 .null) 0 p (.ref (fxt w))) t b j = fxe w t b j := fun t b j hb => by
    show fxe (fx_newa w 3 4 .null) t b j = _
    exact fxe_newaN _ _ _ _ hb
  exact ⟨by show fxt w + 1 = _; omega, rfl, by rw [et0]; exact fxk_newa w 3 4 .null, fun a ha => by omega, by rw [et0]; exact fxf_put _ _ _ _, fun b hb => kk b (by omega), fun g b hb hg => fxf_putN _ _ (by omega), fun t b j hb => ee t b j (by omega)⟩

/-! A TASK OF THE POOL FORKS -/
set_option maxRecDepth 20000 in
theorem m_Task_fork {G : fxG} (d : Nat) {A : Ad} {S : Ms} {w : fxW} (h : Rc G A S w) (hB : Bi S) (hZ : Zb S) (hd1 : 2 ≤ d) {t : Nat} (ht9 : (t : Int) < S.1 23 0) (hf : mForks S t) (hc1 : S.1 13 (mOf S t) = 1 → S.1 19 t = -1) (hk2 : S.1 13 (mOf S t) = 2 → S.1 5 (mOf S t) = 2) (hjr : ∀ j : Nat, (j : Int) < S.1 14 0 → mOf S (rootT S j) = j) (hch : 0 ≤ S.1 19 t → S.1 15 (chT S t) = S.1 15 t ∧ S.1 15 (chT S t + 1) = S.1 15 t) (h9 : fxt w + 2 ≤ fxmt G) (h8 : fxu w + 18 ≤ fxmu G) : fxM G d y_Task_fork [.ref (A 4 t)] w (fun o w' => o = .returned none ∧ ∃ A', Ax S A A' ∧ Rc G A' (mFk S t) w' ∧ CF 2 18 w w') := by
  refine fxM.of cc_Task_fork 2 none [] (by decide +kernel) w_Task_fork (Nat.le_of_ble_eq_true rfl) ?_
  intro x C ht hu
  show fxR G 2 x _ w 0 [(0, .ref (A 4 t))] []
  refine fx_dom (fun hdm => ?_)
  have T := h.tk ht9
  have hat := hdm _ _ _ T.1
  obtain ⟨b1, b2, b3, b4, b5, b6, b7, b8, b9, b10, -⟩ := hB.2.2.2.2.2.1 t ht9
  obtain ⟨hjn, hbj, hjo⟩ := hB.job ht9
  have J := h.jb hjn
  generalize hQ : (fun (o : Outcome) (w' : fxW) => o = .returned none ∧ ∃ A', Ax S A A' ∧ Rc G A' (mFk S t) w' ∧ CF 2 18 w w') = QQ
  refine r_aload_n C d_Task_fork_0 rfl rfl ?_
  refine c_Task_30 C d_Task_fork_1 T.1 (m_hasForked 0 T) (by omega) (Nat.le_of_ble_eq_true rfl) (fxPure.k1 ?_) fxPure.k2
  refine zr_if_eq (tgt := 50) C d_Task_fork_4 (by decide) (zok_b _) (fun c_4 => ?_) (fun c_4 => ?_)
  · have hc : S.1 19 t < 0 := by
      by_cases q : 0 ≤ S.1 19 t
      · rw [bI_t q] at c_4; exact absurd c_4 (by decide)
      · omega
    have rd : S.1 13 (mOf S t) = 1 := by
      unfold mForks at hf
      by_cases q : S.1 13 (mOf S t) = 1
      · exact q
      · rw [if_neg q] at hf; omega
    obtain ⟨n0, hn⟩ := Int.eq_ofNat_of_zero_le (show 0 ≤ S.1 23 0 by omega)
    obtain ⟨f1, f2, f3, f4, f5, f6, f7, f8, f9, f10, f11, f12, f13⟩ := mFk_1 (t := t) rd hn (by omega)
    obtain ⟨g1, g2, g3, g4⟩ := mFk_22 (t := t) rd hn
    refine r_aload_n C d_Task_fork_50 rfl rfl ?_
    refine g_Task_17 C d_Task_fork_51 T.1 T.2.2.2.1 ?_
    refine r_aload_n C d_Task_fork_54 rfl rfl ?_
    refine g_Task_21 C d_Task_fork_55 T.1 T.2.2.2.2.1 ?_
    refine zr_iadd C d_Task_fork_58 ?_
    refine r_iconst C d_Task_fork_59 rfl ?_
    refine zr_idiv C d_Task_fork_60 (by omega) (by unfold zok; omega) (by omega) (by unfold zok; omega) ?_
    refine r_istore_n (ls' := [(1, _), (0, _)]) C d_Task_fork_61 rfl (by decide) rfl ?_
    rw [show (S.1 16 t + S.1 17 t) / 2 = mMid S t from rfl]
    -- the first child
    obtain ⟨w1, hw1⟩ : ∃ w1, w1 = fx_new w 3 9 (fun k => defaultValue (tTask k)) := ⟨_, rfl⟩
    have t1 : fxt w1 = fxt w + 1 := by rw [hw1]; rfl
    have u1 : fxu w1 = fxu w + 9 := by rw [hw1]; rfl
    have k1n : fxk w1 (fxt w) = some (3, 0) := by rw [hw1]; exact fxk_new _ _ _ _
    have k1 : ∀ b, b ≠ fxt w → fxk w1 b = fxk w b := fun b hb => by rw [hw1]; exact fxk_newN _ _ _ _ hb
    have v1 : ∀ g b, b ≠ fxt w → fxf w1 g b = fxf w g b := fun g b hb => by rw [hw1]; exact fxf_newN _ _ _ _ hb
    have v1n : ∀ g, 192 ≤ g → fxf w1 g (fxt w) = defaultValue (tTask (g - 192)) := fun g hg => by rw [hw1]; exact fxf_new _ _ _ _ hg
    have e1 : ∀ t b j, fxe w1 t b j = fxe w t b j := fun t b j => by rw [hw1]; rfl
    refine r_aload_n C d_Task_fork_62 rfl rfl ?_
    refine n_Task_8 C d_Task_fork_63 (by omega) (by omega) ?_
    rw [← hw1]
    refine r_dup C d_Task_fork_66 rfl ?_
    refine r_aload_n C d_Task_fork_67 rfl rfl ?_
    refine g_Task_7 C d_Task_fork_68 ((k1 _ (by omega)).trans T.1) ((v1 _ _ (by omega)).trans T.2.1) ?_
    refine r_aload_n C d_Task_fork_71 rfl rfl ?_
    refine r_aload_n C d_Task_fork_72 rfl rfl ?_
    refine g_Task_17 C d_Task_fork_73 ((k1 _ (by omega)).trans T.1) ((v1 _ _ (by omega)).trans T.2.2.2.1) ?_
    refine r_iload_n C d_Task_fork_76 rfl rfl ?_
    refine c_Task_53 C d_Task_fork_77 (m_Task_init 1 (by omega) k1n _ _) (by omega) (Nat.le_of_ble_eq_true rfl) ?_ (fun a w' z => by cases z.1)
    rintro v' w2 ⟨e9, hw2⟩
    cases e9
    obtain ⟨i1, i2, i3, i4, i5, i6⟩ := tIn_f w1 (fxt w) (.ref (A 3 (mOf S t))) (.ref (A 4 t)) (S.1 16 t) (mMid S t)
    rw [← hw2] at i1 i2 i3 i4 i5 i6
    have k2 : ∀ b, fxk w2 b = fxk w1 b := fun b => by rw [hw2]; rfl
    have t2 : fxt w2 = fxt w + 1 := by rw [hw2]; exact t1
    have u2 : fxu w2 = fxu w + 9 := by rw [hw2]; exact u1
    have e2 : ∀ t b j, fxe w2 t b j = fxe w t b j := fun t b j => by rw [hw2]; exact e1 t b j
    show fxR G 2 x _ w2 _ _ [.ref (fxt w), .ref (A 4 t)]
    refine p_Task_24 C d_Task_fork_80 rfl rfl (((k2 _).trans (k1 _ (by omega))).trans T.1) ?_
    obtain ⟨w3, hw3⟩ : ∃ w3, w3 = fx_put w2 196 (A 4 t) (.ref (fxt w)) := ⟨_, rfl⟩
    rw [← hw3]
    have k3 : ∀ b, fxk w3 b = fxk w1 b := fun b => by rw [hw3]; exact k2 b
    have t3 : fxt w3 = fxt w + 1 := by rw [hw3]; exact t2
    have u3 : fxu w3 = fxu w + 9 := by rw [hw3]; exact u2
    have e3 : ∀ t b j, fxe w3 t b j = fxe w t b j := fun t b j => by rw [hw3]; exact e2 t b j
    have v3 : ∀ g b, (g ≠ 196 ∨ b ≠ A 4 t) → fxf w3 g b = fxf w2 g b := fun g b hb => by rw [hw3]; exact fxf_putN _ _ hb
    have v3t : fxf w3 196 (A 4 t) = .ref (fxt w) := by rw [hw3]; exact fxf_put _ _ _ _
    -- the second child
    obtain ⟨w4, hw4⟩ : ∃ w4, w4 = fx_new w3 3 9 (fun k => defaultValue (tTask k)) := ⟨_, rfl⟩
    have t4 : fxt w4 = fxt w + 2 := by rw [hw4]; show fxt w3 + 1 = _; omega
    have u4 : fxu w4 = fxu w + 18 := by rw [hw4]; show fxu w3 + 9 = _; omega
    have k4n : fxk w4 (fxt w + 1) = some (3, 0) := by rw [hw4, ← t3]; exact fxk_new _ _ _ _
    have k4 : ∀ b, b ≠ fxt w + 1 → fxk w4 b = fxk w3 b := fun b hb => by rw [hw4]; exact fxk_newN _ _ _ _ (by omega)
    have v4 : ∀ g b, b ≠ fxt w + 1 → fxf w4 g b = fxf w3 g b := fun g b hb => by rw [hw4]; exact fxf_newN _ _ _ _ (by omega)
    have v4n : ∀ g, 192 ≤ g → fxf w4 g (fxt w + 1) = defaultValue (tTask (g - 192)) := fun g hg => by rw [hw4, ← t3]; exact fxf_new _ _ _ _ hg
    have e4 : ∀ t b j, fxe w4 t b j = fxe w t b j := fun t b j => by rw [hw4]; exact e3 t b j
    have kt4 : fxk w4 (A 4 t) = some (3, 0) := by rw [k4 _ (by omega), k3, k1 _ (by omega)]; exact T.1
    have ft4 : ∀ g, g ≠ 196 → fxf w4 g (A 4 t) = fxf w g (A 4 t) := fun g hg => by rw [v4 _ _ (by omega), v3 _ _ (Or.inl hg), i6 _ _ (by omega), v1 _ _ (by omega)]
    refine r_aload_n C d_Task_fork_83 rfl rfl ?_
    refine n_Task_8 C d_Task_fork_84 (by omega) (by omega) ?_
    rw [← hw4, t3]
    refine r_dup C d_Task_fork_87 rfl ?_
    refine r_aload_n C d_Task_fork_88 rfl rfl ?_
    refine g_Task_7 C d_Task_fork_89 kt4 ((ft4 192 (by decide)).trans T.2.1) ?_
    refine r_aload_n C d_Task_fork_92 rfl rfl ?_
    refine r_iload_n C d_Task_fork_93 rfl rfl ?_
    refine r_aload_n C d_Task_fork_94 rfl rfl ?_
    refine g_Task_21 C d_Task_fork_95 kt4 ((ft4 195 (by decide)).trans T.2.2.2.2.1) ?_
    refine c_Task_53 C d_Task_fork_98 (m_Task_init 1 (by omega) k4n _ _) (by omega) (Nat.le_of_ble_eq_true rfl) ?_ (fun a w' z => by cases z.1)
    rintro v' w5 ⟨e9, hw5⟩
    cases e9
    obtain ⟨j1, j2, j3, j4, j5, j6⟩ := tIn_f w4 (fxt w + 1) (.ref (A 3 (mOf S t))) (.ref (A 4 t)) (mMid S t) (S.1 17 t)
    rw [← hw5] at j1 j2 j3 j4 j5 j6
    have k5 : ∀ b, fxk w5 b = fxk w4 b := fun b => by rw [hw5]; rfl
    show fxR G 2 x _ w5 _ _ [.ref (fxt w + 1), .ref (A 4 t)]
    refine p_Task_27 C d_Task_fork_101 rfl rfl ((k5 _).trans kt4) ?_
    refine r_aload_n C d_Task_fork_104 rfl rfl ?_
    refine r_iconst C d_Task_fork_105 rfl ?_
    refine p_Task_56 C d_Task_fork_106 rfl rfl ((k5 _).trans kt4) ?_
    rw [← hQ]
    refine r_return C d_Task_fork_109 rfl ⟨rfl, ?_⟩
    have vz : ∀ g b, b ≠ A 4 t → fxf (fx_put (fx_put w5 197 (A 4 t) (.ref (fxt w + 1))) 198 (A 4 t) (zi 2)) g b = fxf w5 g b := fun g b hb => by rw [fxf_putN _ _ (Or.inr hb), fxf_putN _ _ (Or.inr hb)]
    have hF : ∀ g b, b < fxt w → (b ≠ A 4 t ∨ g < 196 ∨ 198 < g) → fxf (fx_put (fx_put w5 197 (A 4 t) (.ref (fxt w + 1))) 198 (A 4 t) (zi 2)) g b = fxf w g b := by
      intro g b hb hg
      by_cases c : b = A 4 t
      · subst c
        have hg' : g < 196 ∨ 198 < g := by
          rcases hg with z | z
          · exact absurd rfl z
          · exact z
        rw [fxf_putN _ _ (Or.inl (by omega)), fxf_putN _ _ (Or.inl (by omega)), j6 _ _ (by omega), ft4 g (by omega)]
      · rw [vz g b c, j6 _ _ (by omega), v4 _ _ (by omega), v3 _ _ (Or.inr c), i6 _ _ (by omega), v1 _ _ (by omega)]
    have hF1 : fxf (fx_put (fx_put w5 197 (A 4 t) (.ref (fxt w + 1))) 198 (A 4 t) (zi 2)) 196 (A 4 t) = .ref (fxt w) := by
      rw [fxf_putN _ _ (Or.inl (by decide)), fxf_putN _ _ (Or.inl (by decide)), j6 _ _ (by omega), v4 _ _ (by omega)]; exact v3t
    have hF2 : fxf (fx_put (fx_put w5 197 (A 4 t) (.ref (fxt w + 1))) 198 (A 4 t) (zi 2)) 197 (A 4 t) = .ref (fxt w + 1) := by
      rw [fxf_putN _ _ (Or.inl (by decide)), fxf_put]
    have hNf : ∀ x a, (x = n0 ∧ a = fxt w) ∨ (x = n0 + 1 ∧ a = fxt w + 1) → fxf (fx_put (fx_put w5 197 (A 4 t) (.ref (fxt w + 1))) 198 (A 4 t) (zi 2)) 192 a = .ref (A 3 (mOf S t)) ∧ fxf (fx_put (fx_put w5 197 (A 4 t) (.ref (fxt w + 1))) 198 (A 4 t) (zi 2)) 193 a = .ref (A 4 t) ∧ fxf (fx_put (fx_put w5 197 (A 4 t) (.ref (fxt w + 1))) 198 (A 4 t) (zi 2)) 194 a = zi ((mFk S t).1 16 x) ∧ fxf (fx_put (fx_put w5 197 (A 4 t) (.ref (fxt w + 1))) 198 (A 4 t) (zi 2)) 195 a = zi ((mFk S t).1 17 x) ∧ fxf (fx_put (fx_put w5 197 (A 4 t) (.ref (fxt w + 1))) 198 (A 4 t) (zi 2)) 196 a = .null ∧ fxf (fx_put (fx_put w5 197 (A 4 t) (.ref (fxt w + 1))) 198 (A 4 t) (zi 2)) 197 a = .null ∧ fxf (fx_put (fx_put w5 197 (A 4 t) (.ref (fxt w + 1))) 198 (A 4 t) (zi 2)) 198 a = zi 0 ∧ fxf (fx_put (fx_put w5 197 (A 4 t) (.ref (fxt w + 1))) 198 (A 4 t) (zi 2)) 199 a = .long 0 ∧ fxf (fx_put (fx_put w5 197 (A 4 t) (.ref (fxt w + 1))) 198 (A 4 t) (zi 2)) 200 a = .long 0 := by
      intro x a hx
      rcases hx with ⟨q1, q2⟩ | ⟨q1, q2⟩
      · subst q1; subst q2
        have hh : ∀ g, fxf (fx_put (fx_put w5 197 (A 4 t) (.ref (fxt w + 1))) 198 (A 4 t) (zi 2)) g (fxt w) = fxf w2 g (fxt w) := fun g => by rw [vz g _ (by omega), j6 _ _ (by omega), v4 _ _ (by omega), v3 _ _ (Or.inr (by omega))]
        rw [hh, hh, hh, hh, hh, hh, hh, hh, hh, f9, f10]
        refine ⟨i1, i2, i3, i4, ?_, ?_, ?_, ?_, ?_⟩
        · rw [i5 196 (by decide), v1n 196 (by decide)]; rfl
        · rw [i5 197 (by decide), v1n 197 (by decide)]; rfl
        · rw [i5 198 (by decide), v1n 198 (by decide)]; rfl
        · rw [i5 199 (by decide), v1n 199 (by decide)]; rfl
        · rw [i5 200 (by decide), v1n 200 (by decide)]; rfl
      · subst q1; subst q2
        have hh : ∀ g, fxf (fx_put (fx_put w5 197 (A 4 t) (.ref (fxt w + 1))) 198 (A 4 t) (zi 2)) g (fxt w + 1) = fxf w5 g (fxt w + 1) := fun g => vz g _ (by omega)
        rw [hh, hh, hh, hh, hh, hh, hh, hh, hh, f11, f12]
        refine ⟨j1, j2, j3, j4, ?_, ?_, ?_, ?_, ?_⟩
        · rw [j5 196 (by decide), v4n 196 (by decide)]; rfl
        · rw [j5 197 (by decide), v4n 197 (by decide)]; rfl
        · rw [j5 198 (by decide), v4n 198 (by decide)]; rfl
        · rw [j5 199 (by decide), v4n 199 (by decide)]; rfl
        · rw [j5 200 (by decide), v4n 200 (by decide)]; rfl
    have hE5 : ∀ t' b j', fxe (fx_put (fx_put w5 197 (A 4 t) (.ref (fxt w + 1))) 198 (A 4 t) (zi 2)) t' b j' = fxe w t' b j' := fun t' b j' => by show fxe w5 t' b j' = _; rw [hw5]; exact e4 t' b j'
    obtain ⟨A', y1, y2, y3, -, -⟩ := h.fork1 (S' := mFk S t) (w' := fx_put (fx_put w5 197 (A 4 t) (.ref (fxt w + 1))) 198 (A 4 t) (zi 2)) hB hdm hn (by omega) f1 f2 f3 f4 f5 f6 f7 (fun x hx => ⟨(f8 x hx).1, (f8 x hx).2.1, (f8 x hx).2.2.1⟩) f13 g1 ⟨g2, g3⟩ g4 ⟨hZ.1 n0 (by omega), hZ.1 (n0 + 1) (by omega)⟩
      (fun b hb => ((k5 b).trans (k4 b (by omega))).trans ((k3 b).trans (k1 b (by omega)))) ((k5 _).trans ((k4 _ (by omega)).trans ((k3 _).trans k1n))) ((k5 _).trans k4n) hE5
      hF ⟨hF1, hF2, fxf_put _ _ _ _⟩ hNf (by show fxt w5 = _; rw [hw5]; exact t4) (by show fxu w5 = _; rw [hw5]; exact u4)
    exact ⟨A', y1, y2, y3⟩
  · have hc : 0 ≤ S.1 19 t := Classical.byContradiction fun q => c_4 (bI_f q)
    have rd : ¬ S.1 13 (mOf S t) = 1 := fun q => by have := hc1 q; omega
    have rd2 : S.1 13 (mOf S t) = 2 := (hB.rd ht9).resolve_left rd
    have k2 := hk2 rd2
    obtain ⟨o, ho4, ho, ht0, ht5, ec, eT, hz, hw, hrw⟩ := h.jrow hB hjn
    obtain ⟨q15, q15'⟩ := hch hc
    have cc0 : (chT S t : Int) + 1 < S.1 23 0 := by unfold chT; omega
    have hne : chT S t ≠ t ∧ chT S t + 1 ≠ t := by unfold chT; omega
    have T1 := h.tk (t := chT S t) (by omega)
    have T2 := h.tk (t := chT S t + 1) (by omega)
    have f6 := T.2.2.2.2.2.1
    have f7 := T.2.2.2.2.2.2.1
    rw [ch_neg hc] at f6 f7
    have o1 : mOf S (chT S t) = mOf S t := by unfold mOf; rw [q15]
    obtain ⟨v1, g1, g1'⟩ := T1.2.2.2.2.2.2.2.2.1
    have g1'' := g1' (by rw [o1]; omega)
    subst g1''
    have eF : mFk S t = sp (sq (sq S 22 (chT S t) (S.2 22 t)) 22 (chT S t + 1) (joinF S (mOf S t) (S.2 22 t) (S.2 21 (chT S t)))) 20 t 0 := by unfold mFk mFork1; rw [if_neg rd]; rfl
    -- one base
    have base : ∀ (S1 : Ms) (w1 : fxW) (c : Nat) (v : Int64), Rc G A S1 w1 → S1.1 = S.1 → S1.2 21 = S.2 21 → (c : Int) < S.1 23 0 → Rc G A (sq S1 22 c v) (fx_put w1 200 (A 4 c) (.long v)) := by
      intro S1 w1 c v h1 e1 e2 hc9
      have hB1 : Bi S1 := hB.of1 e1
      have f : ∀ g, g ≠ 200 → fxf (fx_put w1 200 (A 4 c) (.long v)) g (A 4 c) = fxf w1 g (A 4 c) := fun g hg => fxf_putN _ _ (Or.inl hg)
      obtain ⟨p1, p2, p3, p4, p5, p6, p7, p8, p9, p10⟩ := h1.tk (t := c) (by rw [e1]; exact hc9)
      refine h1.task _ c 200 _ (by rw [e1]; exact hc9) (by omega) (fun c _ => rfl) (fun _ _ => rfl) (fun k x hx => ?_) (Or.inl (sq_k _ _ _ _ (by decide))) hB1 (by rw [e1]; intro j hj; have := hjr j hj; unfold mOf rootT at this ⊢; rw [e1]; exact this) ?_
      · rcases hx with z | z
        · exact sq_k _ _ _ _ z.2
        · by_cases z2 : k = 22
          · subst z2; exact sq_j _ _ _ z
          · exact sq_k _ _ _ _ z2
      · unfold TaskAt
        rw [f 192 (by decide), f 193 (by decide), f 194 (by decide), f 195 (by decide), f 196 (by decide), f 197 (by decide), f 198 (by decide), f 199 (by decide)]
        exact ⟨p1, p2, p3, p4, p5, p6, p7, p8, p9, by rw [sq_same]; exact fxf_put _ _ _ _⟩
    refine r_aload_n C d_Task_fork_7 rfl rfl ?_
    refine g_Task_24 C d_Task_fork_8 T.1 f6 ?_
    refine r_aload_n C d_Task_fork_11 rfl rfl ?_
    refine g_Task_34 C d_Task_fork_12 T.1 T.2.2.2.2.2.2.2.2.2 ?_
    refine p_Task_34 C d_Task_fork_15 rfl rfl T1.1 ?_
    have h1 := base S w (chT S t) (S.2 22 t) h rfl rfl (by omega)
    have cf1 : CF 0 0 w (fx_put w 200 (A 4 (chT S t)) (.long (S.2 22 t))) := CF_put T1.1 (by decide)
    generalize fx_put w 200 (A 4 (chT S t)) (.long (S.2 22 t)) = w1 at h1 cf1 ⊢
    have T' := h1.tk (t := t) ht9
    have T1' := h1.tk (t := chT S t) (show (chT S t : Int) < S.1 23 0 by omega)
    have T2' := h1.tk (t := chT S t + 1) (show ((chT S t + 1 : Nat) : Int) < S.1 23 0 by omega)
    have J' := h1.jb (j := mOf S t) hjn
    obtain ⟨-, -, -, -, -, -, -, hz', hw', hrw'⟩ := h1.jrow (j := mOf S t) (hB.of1 rfl) hjn
    have f6' := T'.2.2.2.2.2.1
    have f7' := T'.2.2.2.2.2.2.1
    rw [ch_neg (S := sq S 22 (chT S t) (S.2 22 t)) (t := t) hc, show chT (sq S 22 (chT S t) (S.2 22 t)) t = chT S t from rfl] at f6' f7'
    have f10' : fxf w1 200 (A 4 t) = .long (S.2 22 t) := by
      have := T'.2.2.2.2.2.2.2.2.2
      rw [sq_j _ _ _ (Ne.symm hne.1)] at this; exact this
    obtain ⟨v1, y1, y1'⟩ := T1'.2.2.2.2.2.2.2.2.1
    have y1'' : v1 = S.2 21 (chT S t) := y1' (show S.1 5 (mOf S (chT S t)) < 3 by rw [o1]; omega)
    subst y1''
    have hrow : ∃ o2, fxf w1 130 (A 3 (mOf S t)) = .ref (A 1 o2) ∧ fxk w1 (A 1 o2) = some (1, 0) ∧ fxf w1 65 (A 1 o2) = zi (S.1 2 o) := by
      obtain ⟨o2, x1, x2, x3, x4, x5, x6, x7, x8, x9⟩ := h1.jrow (j := mOf S t) (hB.of1 rfl) hjn
      have eo : o2 = o := by have : S.1 6 (mOf S t) = (o2 : Int) := x2; omega
      subst eo
      exact ⟨o2, x9, x8.1, x8.2.2.1⟩
    obtain ⟨o2, r1, r2, r3⟩ := hrow
    refine r_aload_n C d_Task_fork_18 rfl rfl ?_
    refine g_Task_27 C d_Task_fork_19 T'.1 f7' ?_
    refine r_aload_n C d_Task_fork_22 rfl rfl ?_
    refine g_Task_7 C d_Task_fork_23 T'.1 T'.2.1 ?_
    refine g_Task_38 C d_Task_fork_26 J'.1 r1 ?_
    refine r_aload_n C d_Task_fork_29 rfl rfl ?_
    refine g_Task_34 C d_Task_fork_30 T'.1 f10' ?_
    refine r_aload_n C d_Task_fork_33 rfl rfl ?_
    refine g_Task_24 C d_Task_fork_34 T'.1 f6' ?_
    refine g_Task_44 C d_Task_fork_37 T1'.1 y1 ?_
    refine r_ladd C d_Task_fork_40 ?_
    refine c_Task_47 C d_Task_fork_41 r2 (m_Row_kept 1 w1 (A 1 o2) 0 (S.1 2 o) _ (by omega) r2 r3 hz ht0) (by omega) (Nat.le_of_ble_eq_true rfl) (fxPure.k1 ?_) fxPure.k2
    rw [show keptF (S.1 2 o) (S.2 22 t + S.2 21 (chT S t)) = joinF S (mOf S t) (S.2 22 t) (S.2 21 (chT S t)) by unfold joinF; rw [if_neg (by omega), eT]]
    refine p_Task_34 C d_Task_fork_44 rfl rfl T2'.1 ?_
    have h2 := base _ w1 (chT S t + 1) (joinF S (mOf S t) (S.2 22 t) (S.2 21 (chT S t))) h1 rfl rfl (show ((chT S t + 1 : Nat) : Int) < S.1 23 0 by omega)
    have cf2 : CF 0 0 w1 (fx_put w1 200 (A 4 (chT S t + 1)) (.long (joinF S (mOf S t) (S.2 22 t) (S.2 21 (chT S t))))) := CF_put T2'.1 (by decide)
    generalize fx_put w1 200 (A 4 (chT S t + 1)) (.long (joinF S (mOf S t) (S.2 22 t) (S.2 21 (chT S t)))) = w2 at h2 cf2 ⊢
    have T3 := h2.tk (t := t) ht9
    refine r_goto (tgt := 104) C d_Task_fork_47 (by decide) ?_
    refine r_aload_n C d_Task_fork_104 rfl rfl ?_
    refine r_iconst C d_Task_fork_105 rfl ?_
    refine p_Task_56 C d_Task_fork_106 rfl rfl T3.1 ?_
    rw [← hQ]
    refine r_return C d_Task_fork_109 rfl ⟨rfl, A, Ax.rf, ?_, ((cf1.tr0 cf2).tr0 (CF_put T3.1 (by decide))).wk (by omega) (by omega)⟩
    rw [eF]
    have f : ∀ g, g ≠ 198 → fxf (fx_put w2 198 (A 4 t) (zi 2)) g (A 4 t) = fxf w2 g (A 4 t) := fun g hg => fxf_putN _ _ (Or.inl hg)
    obtain ⟨p1, p2, p3, p4, p5, p6, p7, p8, p9, p10⟩ := T3
    refine h2.task _ t 198 _ ht9 (by omega) (fun c hc => spf _ _ _ _ hc) (fun x hx => sp_j _ _ _ hx) (fun k x hx => rfl) (Or.inl rfl) (hB.of1 rfl) hjr ?_
    unfold TaskAt
    rw [f 192 (by decide), f 193 (by decide), f 194 (by decide), f 195 (by decide), f 196 (by decide), f 197 (by decide), f 199 (by decide), f 200 (by decide)]
    exact ⟨p1, p2, p3, p4, p5, p6, p7, ⟨2, fxf_put _ _ _ _, fun _ => by rw [sp_same]; rfl⟩, p9, p10⟩

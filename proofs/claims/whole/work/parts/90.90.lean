/-! THE LAW'S LOOP -/
set_option maxRecDepth 20000 in
theorem m_Lw_cell {G : fxG} (d : Nat) {w : fxW} {b L : Nat} {ys : Nat → Int} (hL : L ≤ 3073) (kb : fxk w b = some (201, L)) (he : ∀ j, j < L → fxe w 1 b j = zi (ys j)) : fxM G d y_Lw_cell [.ref b, zi 0] w (fxPure (zi (if 0 < L then ys 0 else 0)) w) := by
  refine fxM.of cc_Lw_cell 2 (some .int) [] (by decide +kernel) w_Lw_cell (Nat.le_of_ble_eq_true rfl) ?_
  intro x C ht hu
  show fxR G 2 x _ w 0 [(0, .ref b), (1, zi 0)] []
  refine r_iload_n C d_Lw_cell_0 rfl rfl ?_
  refine r_aload_n C d_Lw_cell_1 rfl rfl ?_
  refine zr_alen C d_Lw_cell_2 (by decide) (t := 1) (Or.inr kb) ?_
  refine zr_icmp_ge (tgt := 12) C d_Lw_cell_3 (by decide) (by unfold zok; omega) (by unfold zok; omega) (fun c_3 => ?_) (fun c_3 => ?_)
  · refine r_iconst C d_Lw_cell_12 rfl ?_
    exact r_ireturn C d_Lw_cell_13 rfl ⟨by rw [if_neg (by omega)], rfl⟩
  · refine r_aload_n C d_Lw_cell_6 rfl rfl ?_
    refine r_iload_n C d_Lw_cell_7 rfl rfl ?_
    refine zr_iaload C d_Lw_cell_8 (by decide) rfl (t := 1) (k := 0) (Or.inr kb) rfl (by omega) (by omega) (he 0 (by omega)) ?_
    refine r_goto (tgt := 13) C d_Lw_cell_9 (by decide) ?_
    exact r_ireturn C d_Lw_cell_13 rfl ⟨by rw [if_pos (by omega)], rfl⟩
set_option maxRecDepth 20000 in
theorem law_loop {G : fxG} {nm : String} {rt : Option FieldType} {hh : List (Nat × Nat × Nat × Nat)} {x : fxX} {Q : State → Prop} (C : fxC G 16 cc_Lw_law 8 "ForkPoolLaw" nm rt hh x) {b L o m : Nat} {ys : Nat → Int} (hL : L ≤ 3073) (zy : ∀ j, zok (ys j)) (kend : ∀ (w : fxW) (ls : List (Nat × Value)), fxR G 8 x Q w 1036 ls [zi 1]) :
    ∀ (n i : Nat) (A : Ad) (S : Ms) (w : fxW), LI G b L o m ys A S w → i ≤ 10000 → L < i + 6 * n + 6 → fxt w + (4 * (Lam S).toNat + 3 * n) ≤ fxmt G → fxu w + (1818 * (Lam S).toNat + 919 * n) ≤ fxmu G → fxR G 8 x Q w 33 [(4, zi (i : Int)), (0, .ref b), (1, .ref (A 0 0)), (2, .ref m), (3, .ref o)] [] := by
  intro n
  induction n with
  | zero =>
    intro i A S w h hi hn t9 t8
    obtain ⟨hRc, hI, hMo, kb, he, ho⟩ := id h
    refine r_iload C d_Lw_law_33 rfl ?_
    refine r_aload_n C d_Lw_law_35 rfl rfl ?_
    refine zr_alen C d_Lw_law_36 (by decide) (t := 1) (Or.inr kb) ?_
    refine r_bipush (v := Int32.ofInt 6) C d_Lw_law_37 (by decide) ?_
    refine zr_isub C d_Lw_law_39 ?_
    refine zr_icmp_gt (tgt := 1035) C d_Lw_law_40 (by decide) (by unfold zok; omega) (by unfold zok; omega) (fun c_40 => ?_) (fun c_40 => ?_)
    · refine r_iconst C d_Lw_law_1035 rfl ?_
      exact kend w _
    · exact absurd c_40 (by omega)
  | succ n ih =>
    intro i A S w h hi hn t9 t8
    obtain ⟨hRc, hI, hMo, kb, he, ho⟩ := id h
    have nn := (Lam.nn hI).1
    have next : ∀ A' S' w', LI G b L o m ys A' S' w' → A' 0 0 = A 0 0 → Lam S' ≤ Lam S → fxt w' ≤ fxt w + (4 * (Lam S - Lam S').toNat + 3) → fxu w' ≤ fxu w + (1818 * (Lam S - Lam S').toNat + 919) → i + 6 ≤ L → fxR G 8 x Q w' 1029 [(4, zi (i : Int)), (0, .ref b), (1, .ref (A 0 0)), (2, .ref m), (3, .ref o)] [] := by
      intro A' S' w' h' eA hl ht' hu' hi6
      have nn' := (Lam.nn h'.2.1).1
      refine zr_iinc (ls' := [(4, _), (0, _), (1, _), (2, _), (3, _)]) C d_Lw_law_1029 rfl (by decide) rfl ?_
      refine r_goto (tgt := 33) C d_Lw_law_1032 (by decide) ?_
      have := ih (i + 6) A' S' w' h' (by omega) (by omega) (by omega) (by omega)
      rw [eA] at this
      exact this
    refine r_iload C d_Lw_law_33 rfl ?_
    refine r_aload_n C d_Lw_law_35 rfl rfl ?_
    refine zr_alen C d_Lw_law_36 (by decide) (t := 1) (Or.inr kb) ?_
    refine r_bipush (v := Int32.ofInt 6) C d_Lw_law_37 (by decide) ?_
    refine zr_isub C d_Lw_law_39 ?_
    refine zr_icmp_gt (tgt := 1035) C d_Lw_law_40 (by decide) (by unfold zok; omega) (by unfold zok; omega) (fun c_40 => ?_) (fun c_40 => ?_)
    · refine r_iconst C d_Lw_law_1035 rfl ?_
      exact kend w _
    · have hi6 : i + 6 ≤ L := by omega
      have nx : ∀ A' S' w', LI G b L o m ys A' S' w' → A' 0 0 = A 0 0 → Lam S' ≤ Lam S → fxt w' ≤ fxt w + (4 * (Lam S - Lam S').toNat + 3) → fxu w' ≤ fxu w + (1818 * (Lam S - Lam S').toNat + 919) → fxR G 8 x Q w' 1029 [(4, zi (i : Int)), (0, .ref b), (1, .ref (A 0 0)), (2, .ref m), (3, .ref o)] [] := fun A' S' w' a1 a2 a3 a4 a5 => next A' S' w' a1 a2 a3 a4 a5 hi6
      refine r_aload_n C d_Lw_law_43 rfl rfl ?_
      refine r_iload C d_Lw_law_44 rfl ?_
      refine zr_iaload C d_Lw_law_46 (by decide) rfl (t := 1) (k := i) (Or.inr kb) rfl (by omega) (by omega) (he _ (by omega)) ?_
      refine r_bipush (v := Int32.ofInt 15) C d_Lw_law_47 (by decide) ?_
      refine r_iand C d_Lw_law_49 ?_
      obtain ⟨v, hv, hz⟩ : ∃ v : Int, Int32.ofInt (ys i) &&& Int32.ofInt 15 = Int32.ofInt v ∧ zok v := ⟨(Int32.ofInt (ys i) &&& Int32.ofInt 15).toInt, zi_all _, zok_all _⟩
      rw [hv]
      have t9' : fxt w + (4 * (Lam S).toNat + 3) ≤ fxmt G := by omega
      have t8' : fxu w + (1818 * (Lam S).toNat + 919) ≤ fxmu G := by omega
      by_cases c : v < 0 ∨ 12 < v
      · refine zr_tableOut (tgt := 1029) C d_Lw_law_50 hz c (by decide) ?_
        exact nx A S w h rfl (Int.le_refl _) (by omega) (by omega)
      · have hc : v = 0 ∨ v = 1 ∨ v = 2 ∨ v = 3 ∨ v = 4 ∨ v = 5 ∨ v = 6 ∨ v = 7 ∨ v = 8 ∨ v = 9 ∨ v = 10 ∨ v = 11 ∨ v = 12 := by omega
        rcases hc with rfl | rfl | rfl | rfl | rfl | rfl | rfl | rfl | rfl | rfl | rfl | rfl | rfl
        · refine zr_tableIn (tgt := 116) (off := 66) C d_Lw_law_50 hz (by decide) (by decide) rfl (by decide) ?_
          exact law_array C hL zy h hi6 t9' t8' nx
        · refine zr_tableIn (tgt := 196) (off := 146) C d_Lw_law_50 hz (by decide) (by decide) rfl (by decide) ?_
          exact law_set C hL zy h hi6 t9' t8' nx
        · refine zr_tableIn (tgt := 307) (off := 257) C d_Lw_law_50 hz (by decide) (by decide) rfl (by decide) ?_
          exact law_get C hL zy h hi6 t9' t8' nx
        · refine zr_tableIn (tgt := 374) (off := 324) C d_Lw_law_50 hz (by decide) (by decide) rfl (by decide) ?_
          exact law_begin C hL zy h hi6 t9' t8' nx
        · refine zr_tableIn (tgt := 478) (off := 428) C d_Lw_law_50 hz (by decide) (by decide) rfl (by decide) ?_
          exact law_step C hL zy h hi6 t9' t8' nx
        · refine zr_tableIn (tgt := 534) (off := 484) C d_Lw_law_50 hz (by decide) (by decide) rfl (by decide) ?_
          exact law_join C hL zy h hi6 t9' t8' nx
        · refine zr_tableIn (tgt := 590) (off := 540) C d_Lw_law_50 hz (by decide) (by decide) rfl (by decide) ?_
          exact law_result C hL zy h hi6 t9' t8' nx
        · refine zr_tableIn (tgt := 645) (off := 595) C d_Lw_law_50 hz (by decide) (by decide) rfl (by decide) ?_
          exact law_cancel C hL zy h hi6 t9' t8' nx
        · refine zr_tableIn (tgt := 701) (off := 651) C d_Lw_law_50 hz (by decide) (by decide) rfl (by decide) ?_
          exact law_job C hL zy h hi6 t9' t8' nx
        · refine zr_tableIn (tgt := 769) (off := 719) C d_Lw_law_50 hz (by decide) (by decide) rfl (by decide) ?_
          exact law_task C hL zy h hi6 t9' t8' nx
        · refine zr_tableIn (tgt := 849) (off := 799) C d_Lw_law_50 hz (by decide) (by decide) rfl (by decide) ?_
          exact law_worker C hL zy h hi6 t9' t8' nx
        · refine zr_tableIn (tgt := 917) (off := 867) C d_Lw_law_50 hz (by decide) (by decide) rfl (by decide) ?_
          exact law_grain C hL zy h hi6 t9' t8' nx
        · refine zr_tableIn (tgt := 973) (off := 923) C d_Lw_law_50 hz (by decide) (by decide) rfl (by decide) ?_
          exact law_count C hL zy h hi6 t9' t8' nx
/-- new cells above: the pool and the reference stay -/
theorem Rc.up {G : fxG} {A : Ad} {S : Ms} {w w' : fxW} (h : Rc G A S w) (hdm : ∀ a c n, fxk w a = some (c, n) → a < fxt w) (hs : ∀ a, a < fxt w → fxk w' a = fxk w a ∧ (∀ g, fxf w' g a = fxf w g a) ∧ ∀ t j, fxe w' t a j = fxe w t a j) : Rc G A S w' := by
  obtain ⟨hP, hR, hJ, hT, hW, hL⟩ := h
  have k0 : KM w w' := fun a q hq => (hs a (hdm a q.1 q.2 hq)).1.trans hq
  have f0 : ∀ c, FS c w w' := fun c g a _ _ h => (hs a (hdm a _ _ h)).2.1 g
  have e0 : ∀ t, ES t w w' := fun t a n j h => (hs a (hdm a _ _ h)).2.2 t j
  exact ⟨hP.ext k0 (f0 0) (fun t _ => e0 t) (fun c hc => rfl), hR.ext k0 (f0 1) (e0 0) rfl rfl (fun _ _ _ _ => rfl), hJ.ext k0 (f0 2) rfl (fun c hc => rfl) (fun _ _ _ => rfl), hT.ext k0 (f0 3) rfl (fun c hc => rfl) rfl rfl, hW.ext k0 (f0 4) rfl (fun c hc => rfl), hL.ext k0 (f0 5) (e0 2) rfl (fun i _ => rfl)⟩
theorem MoR.up {S : Ms} {m : Nat} {w w' : fxW} (h : MoR S m w) (key : ∀ a, m ≤ a → a < m + 27 → fxk w' a = fxk w a ∧ (∀ g, fxf w' g a = fxf w g a) ∧ ∀ t j, fxe w' t a j = fxe w t a j) : MoR S m w' := by
  have hp : ∀ k, moK k < 9 → moK k ≠ 0 → 1 ≤ moO k ∧ moO k ≤ 26 := fun k h1 h2 => by have := moO_pos h1 h2; omega
  refine ⟨(key m (by omega) (by omega)).1.trans h.1, fun k hk => ((key m (by omega) (by omega)).2.1 _).trans (h.2.1 k hk), fun k hk => ?_, fun k hk => ?_⟩
  · have := hp k (by omega) (by omega)
    obtain ⟨a1, a2, a3⟩ := h.2.2.1 k hk
    obtain ⟨b1, b2, b3⟩ := key (m + moO k) (by omega) (by omega)
    exact ⟨((key m (by omega) (by omega)).2.1 _).trans a1, b1.trans a2, fun j hj => (b3 _ _).trans (a3 j hj)⟩
  · have := hp k (by omega) (by omega)
    obtain ⟨a1, a2, a3⟩ := h.2.2.2 k hk
    obtain ⟨b1, b2, b3⟩ := key (m + moO k) (by omega) (by omega)
    exact ⟨((key m (by omega) (by omega)).2.1 _).trans a1, b1.trans a2, fun j hj => (b3 _ _).trans (a3 j hj)⟩
theorem moK0 : ∀ k, k < 33 → moK k = 0 → k = 0 ∨ k = 1 ∨ k = 14 ∨ k = 23 ∨ k = 30 ∨ k = 31 ∨ k = 32 := by decide +kernel
theorem mo_dflt (k : Nat) (hk : moK k = 0) : defaultValue (tMo k) = zi (mZero.1 k 0) := by
  rcases moK0 k (moK_lt (by omega)) hk with rfl | rfl | rfl | rfl | rfl | rfl | rfl <;> rfl
theorem Inv3.ini (n : Int) : Inv3 (mIni n) := ⟨Inv2.ini n, Zb.ini n⟩
set_option maxRecDepth 20000 in
/-- THE LAW: from its first instruction -/
theorem law_all {G : fxG} {nm : String} {rt : Option FieldType} {hh : List (Nat × Nat × Nat × Nat)} {x : fxX} {Q : State → Prop} (C : fxC G 16 cc_Lw_law 8 "ForkPoolLaw" nm rt hh x) {b L : Nat} {ys : Nat → Int} {w : fxW} (hL : L ≤ 3073) (zy : ∀ j, zok (ys j)) (kb : fxk w b = some (201, L)) (he : ∀ j, j < L → fxe w 1 b j = zi (ys j)) (had : fxk w (fxad G 0) = some (202, 0)) (t9 : fxt w + 20000 ≤ fxmt G) (t8 : fxu w + 4700000 ≤ fxmu G)
    (kend : ∀ (w : fxW) (ls : List (Nat × Value)), fxR G 8 x Q w 1036 ls [zi 1]) : fxR G 8 x Q w 0 [(0, .ref b)] [] := by
  refine fx_dom (fun hdm => ?_)
  have blt := hdm _ _ _ kb
  have alt := hdm _ _ _ had
  obtain ⟨v0, hv0, hz0⟩ : ∃ v0 : Int, v0 = (if 0 < L then ys 0 else 0) ∧ zok v0 := ⟨_, rfl, by split; exact zy 0; exact ⟨by decide, by decide⟩⟩
  -- the pool
  obtain ⟨w1, hw1⟩ : ∃ w1, w1 = fx_new w 0 7 (fun k => defaultValue (tFP k)) := ⟨_, rfl⟩
  have t1 : fxt w1 = fxt w + 1 := by rw [hw1]; rfl
  have u1 : fxu w1 = fxu w + 7 := by rw [hw1]; rfl
  have k1n : fxk w1 (fxt w) = some (0, 0) := by rw [hw1]; exact fxk_new _ _ _ _
  have k1 : ∀ a, a ≠ fxt w → fxk w1 a = fxk w a := fun a ha => by rw [hw1]; exact fxk_newN _ _ _ _ ha
  have f1n : ∀ g, fxf w1 g (fxt w) = defaultValue (tFP g) := fun g => by rw [hw1]; have := fxf_new w 0 7 (fun k => defaultValue (tFP k)) (g := g) (by omega); rw [this]; rfl
  have e1 : ∀ t a j, fxe w1 t a j = fxe w t a j := fun t a j => by rw [hw1]; rfl
  have kb1 : fxk w1 b = some (201, L) := (k1 b (by omega)).trans kb
  have he1 : ∀ j, j < L → fxe w1 1 b j = zi (ys j) := fun j hj => (e1 1 b j).trans (he j hj)
  refine n_Lw_8 C d_Lw_law_0 (by omega) (by omega) ?_
  rw [← hw1]
  refine r_dup C d_Lw_law_3 rfl ?_
  refine r_aload_n C d_Lw_law_4 rfl rfl ?_
  refine r_iconst C d_Lw_law_5 rfl ?_
  refine c_Lw_65 C d_Lw_law_6 (m_Lw_cell 0 hL kb1 he1) (by omega) (Nat.le_of_ble_eq_true rfl) (fxPure.k1 ?_) fxPure.k2
  rw [← hv0]
  refine c_Lw_71 C d_Lw_law_9 (m_FP_init 15 (by omega) k1n (f1n 3) (f1n 4) (f1n 5) ((k1 _ (by omega)).trans had) v0 hz0 (by omega) (by omega)) (by omega) (Nat.le_of_ble_eq_true rfl) ?_ (fun a w' z => by cases z.1)
  rintro v' w2 ⟨e9, A, hA, hRc, hCF⟩
  cases e9
  have c9 := hCF.2.1
  have c8 := hCF.2.2.2.1
  have kb2 : fxk w2 b = some (201, L) := hCF.km _ _ kb1
  have he2 : ∀ j, j < L → fxe w2 1 b j = zi (ys j) := fun j hj => ((hCF.2.2.2.2.2 b _ kb1 (Or.inr (Or.inr (Or.inl rfl)))).2 1 j).trans (he1 j hj)
  show fxR G 8 x _ w2 12 [(0, .ref b)] [.ref (fxt w)]
  rw [← hA]
  refine fx_dom (fun hdm2 => ?_)
  have blt2 := hdm2 _ _ _ kb2
  -- the reference
  obtain ⟨w3, hw3⟩ : ∃ w3, w3 = fx_new w2 6 33 (fun k => defaultValue (tMo k)) := ⟨_, rfl⟩
  have t3 : fxt w3 = fxt w2 + 1 := by rw [hw3]; rfl
  have u3 : fxu w3 = fxu w2 + 33 := by rw [hw3]; rfl
  have k3 : ∀ a, a ≠ fxt w2 → fxk w3 a = fxk w2 a := fun a ha => by rw [hw3]; exact fxk_newN _ _ _ _ ha
  have k3n : fxk w3 (fxt w2) = some (6, 0) := by rw [hw3]; exact fxk_new _ _ _ _
  have f3 : ∀ g a, a ≠ fxt w2 → fxf w3 g a = fxf w2 g a := fun g a ha => by rw [hw3]; exact fxf_newN _ _ _ _ ha
  have f3n : ∀ k, fxf w3 (384 + k) (fxt w2) = defaultValue (tMo k) := fun k => by rw [hw3]; have := fxf_new w2 6 33 (fun k => defaultValue (tMo k)) (g := 384 + k) (by omega); rw [this]; congr 2; omega
  have e3 : ∀ t a j, fxe w3 t a j = fxe w2 t a j := fun t a j => by rw [hw3]; rfl
  have kb3 : fxk w3 b = some (201, L) := (k3 b (by omega)).trans kb2
  have he3 : ∀ j, j < L → fxe w3 1 b j = zi (ys j) := fun j hj => (e3 1 b j).trans (he2 j hj)
  refine r_astore_n (ls' := [(1, _), (0, _)]) C d_Lw_law_12 rfl (by decide) rfl ?_
  refine n_Lw_74 C d_Lw_law_13 (by omega) (by omega) ?_
  rw [← hw3]
  refine r_dup C d_Lw_law_16 rfl ?_
  refine r_aload_n C d_Lw_law_17 rfl rfl ?_
  refine r_iconst C d_Lw_law_18 rfl ?_
  refine c_Lw_65 C d_Lw_law_19 (m_Lw_cell 0 hL kb3 he3) (by omega) (Nat.le_of_ble_eq_true rfl) (fxPure.k1 ?_) fxPure.k2
  rw [← hv0]
  have hP : MoP w3 0 0 mZero (fxt w2) w3 := by
    refine ⟨k3n, by rw [t3], rfl, fun k hk => ?_, fun k hk hz => ?_, fun k hk hz => ?_, fun k h1 h2 h3 => ?_, ?_⟩
    · rw [f3n k]
      exact mo_dflt k hk
    · have := moO_pos (k := k) (by omega) (by omega); omega
    · have := moO_pos (k := k) (by omega) (by omega); omega
    · have := moO_pos (k := k) h2 h1; omega
    · exact fun a _ => ⟨rfl, fun _ => rfl, fun _ _ => rfl⟩
  refine c_Lw_76 C d_Lw_law_22 (m_Mo_init 15 (by omega) v0 hz0 hP (by omega) (by omega)) (by omega) (Nat.le_of_ble_eq_true rfl) ?_ (fun a w' z => by cases z.1)
  rintro v' w4 ⟨e9, hP4⟩
  cases e9
  have r4 := hP4.done
  obtain ⟨-, p2, p3, -, -, -, -, p8⟩ := hP4
  have p3' : fxu w4 = fxu w3 + 7432 := p3
  have hRc4 : Rc G A (mIni v0) w4 := hRc.up hdm2 (fun a ha => by
    obtain ⟨q1, q2, q3⟩ := p8 a ha
    exact ⟨q1.trans (k3 a (by omega)), fun g => (q2 g).trans (f3 g a (by omega)), fun t j => (q3 t j).trans (e3 t a j)⟩)
  have kb4 : fxk w4 b = some (201, L) := (p8 b blt2).1.trans kb3
  have he4 : ∀ j, j < L → fxe w4 1 b j = zi (ys j) := fun j hj => ((p8 b blt2).2.2 1 j).trans (he3 j hj)
  show fxR G 8 x _ w4 25 [(1, .ref (A 0 0)), (0, .ref b)] [.ref (fxt w2)]
  refine fx_dom (fun hdm4 => ?_)
  have blt4 := hdm4 _ _ _ kb4
  obtain ⟨w5, hw5⟩ : ∃ w5, w5 = fx_newa w4 0 1 (.long 0) := ⟨_, rfl⟩
  have t5 : fxt w5 = fxt w4 + 1 := by rw [hw5]; rfl
  have u5 : fxu w5 = fxu w4 + 1 := by rw [hw5]; rfl
  have s5 : ∀ a, a < fxt w4 → fxk w5 a = fxk w4 a ∧ (∀ g, fxf w5 g a = fxf w4 g a) ∧ ∀ t j, fxe w5 t a j = fxe w4 t a j := fun a ha => by
    rw [hw5]
    exact ⟨fxk_newaN _ _ _ _ (by omega), fun g => rfl, fun t j => fxe_newaN _ _ _ _ (by omega)⟩
  have o5 : fxk w5 (fxt w4) = some (100, 1) := by rw [hw5]; exact fxk_newa w4 0 1 (.long 0)
  refine r_astore_n (ls' := [(2, _), (1, _), (0, _)]) C d_Lw_law_25 rfl (by decide) rfl ?_
  refine r_iconst C d_Lw_law_26 rfl ?_
  refine zn_long (N := 1) C d_Lw_law_27 rfl (by decide) (by omega) (by omega) ?_
  rw [← hw5]
  refine r_astore_n (ls' := [(3, _), (2, _), (1, _), (0, _)]) C d_Lw_law_29 rfl (by decide) rfl ?_
  refine r_iconst C d_Lw_law_30 rfl ?_
  refine r_istore (ls' := [(4, _), (3, _), (2, _), (1, _), (0, _)]) C d_Lw_law_31 (by decide) rfl ?_
  have hI : Inv3 (mIni v0) := Inv3.ini v0
  obtain ⟨n1, n2⟩ := Lam.nn hI
  have hLI : LI G b L (fxt w4) (fxt w2) ys A (mIni v0) w5 := ⟨hRc4.up hdm4 s5, hI, r4.up (fun a h1 h2 => s5 a (by omega)), (s5 b blt4).1.trans kb4, fun j hj => ((s5 b blt4).2.2 1 j).trans (he4 j hj), o5⟩
  obtain ⟨N, hNN⟩ : ∃ N : Nat, N = 512 := ⟨_, rfl⟩
  have fin := law_loop C hL zy kend N 1 A (mIni v0) w5 hLI (by omega) (by omega) (by omega) (by omega)
  exact fx_sub (ls' := [(4, zi ((1 : Nat) : Int)), (0, .ref b), (1, .ref (A 0 0)), (2, .ref (fxt w2)), (3, .ref (fxt w4))]) (by simp [fxL]) fin

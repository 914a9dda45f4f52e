/-! THE PUBLIC METHODS OF THE POOL, I: array, set, get -/
def zerG : Nat → Nat → (Nat → Int64) → Nat → Int64
  | _, 0, g => g
  | k, n + 1, g => zerG (k + 1) n (gU g k 0)
set_option maxRecDepth 20000 in
theorem m_Row_make {G : fxG} (d : Nat) {w : fxW} {r e : Nat} {ty0 ln0 : Int} {g : Nat → Int64} (hw : RowAt r e ty0 ln0 g w) (ty ln : Int) : fxM G d y_Row_make [.ref r, zi ty, zi ln] w (fun o w' => o = .returned none ∧ RowAt r e ty ln (zerG 0 24 g) w' ∧ EF e (fx_put (fx_put w 65 r (zi ty)) 66 r (zi ln)) w') := by
  refine fxM.of cc_Row_make 4 none [] (by decide +kernel) w_Row_make (Nat.le_of_ble_eq_true rfl) ?_
  intro x C ht hu
  generalize hQ : (fun (o : Outcome) (w' : fxW) => o = .returned none ∧ RowAt r e ty ln (zerG 0 24 g) w' ∧ EF e (fx_put (fx_put w 65 r (zi ty)) 66 r (zi ln)) w') = QQ
  have loop : ∀ (n k : Nat) (g1 : Nat → Int64) (w1 : fxW), k + n = 24 → zerG k n g1 = zerG 0 24 g → RowAt r e ty ln g1 w1 → EF e (fx_put (fx_put w 65 r (zi ty)) 66 r (zi ln)) w1 → fxR G 4 x (fxQ G x QQ) w1 12 [(3, zi (k : Int)), (0, .ref r), (1, zi ty), (2, zi ln)] [] := by
    intro n
    induction n with
    | zero =>
      intro k g1 w1 h1 h2 hw hF
      refine r_iload_n C d_Row_make_12 rfl rfl ?_
      refine r_bipush (v := Int32.ofInt 24) C d_Row_make_13 (by decide) ?_
      refine zr_icmp_ge (tgt := 31) C d_Row_make_15 (by decide) (by unfold zok; omega) (by unfold zok; omega) (fun c_15 => ?_) (fun c_15 => ?_)
      · rw [← hQ]
        exact r_return C d_Row_make_31 rfl ⟨rfl, by rw [← h2]; exact hw, hF⟩
      · exact absurd c_15 (by omega)
    | succ n ih =>
      intro k g1 w1 h1 h2 hw hF
      refine r_iload_n C d_Row_make_12 rfl rfl ?_
      refine r_bipush (v := Int32.ofInt 24) C d_Row_make_13 (by decide) ?_
      refine zr_icmp_ge (tgt := 31) C d_Row_make_15 (by decide) (by unfold zok; omega) (by unfold zok; omega) (fun c_15 => ?_) (fun c_15 => ?_)
      · exact absurd c_15 (by omega)
      · refine r_aload_n C d_Row_make_18 rfl rfl ?_
        refine g_Row_9 C d_Row_make_19 hw.1 hw.2.1 ?_
        refine r_iload_n C d_Row_make_22 rfl rfl ?_
        refine r_lconst (v := 0) C d_Row_make_23 (by decide) ?_
        refine zr_lastore C d_Row_make_24 (by decide) rfl (t := 0) (k := k) hw.2.2.2.2.1 (by omega) (by omega) (by decide) ?_
        refine row_ab hw (fun w2 hw hF9 => ?_)
        refine zr_iinc (ls' := [(3, _), (0, _), (1, _), (2, _)]) C d_Row_make_25 rfl (by decide) rfl ?_
        refine r_goto (tgt := 12) C d_Row_make_28 (by decide) ?_
        exact ih (k + 1) _ w2 (by omega) (by rw [← h2]; rfl) hw (hF.tr hF9)
  show fxR G 4 x _ w 0 [(0, .ref r), (1, zi ty), (2, zi ln)] []
  refine r_aload_n C d_Row_make_0 rfl rfl ?_
  refine r_iload_n C d_Row_make_1 rfl rfl ?_
  refine p_Row_15 C d_Row_make_2 rfl rfl hw.1 ?_
  refine r_aload_n C d_Row_make_5 rfl rfl ?_
  refine r_iload_n C d_Row_make_6 rfl rfl ?_
  refine p_Row_19 C d_Row_make_7 rfl rfl hw.1 ?_
  refine r_iconst C d_Row_make_10 rfl ?_
  refine r_istore_n (ls' := [(3, _), (0, _), (1, _), (2, _)]) C d_Row_make_11 rfl (by decide) rfl ?_
  refine loop 24 0 g _ (by omega) rfl ?_ EF.rf
  obtain ⟨h1, h2, h3, h4, h5, h6⟩ := hw
  refine ⟨h1, ?_, ?_, fxf_put _ _ _ _, h5, h6⟩
  · rw [fxf_putN _ _ (Or.inl (by decide)), fxf_putN _ _ (Or.inl (by decide))]; exact h2
  · rw [fxf_putN _ _ (Or.inl (by decide)), fxf_put]
theorem zer_eq {a : Nat} : ∀ (n k : Nat) (S : Ms), k + n ≤ 24 → rowG (zerF a k n S) a = zerG k n (rowG S a) ∧ Oth a S (zerF a k n S) := by
  intro n
  induction n with
  | zero => intro k S _; exact ⟨rfl, Oth.rf⟩
  | succ n ih =>
    intro k S hk
    obtain ⟨h1, h2⟩ := ih (k + 1) (sq S 4 (24 * a + k) 0) (by omega)
    refine ⟨?_, (Oth.sq (by omega) 0).tr h2⟩
    show rowG (zerF a (k + 1) n (sq S 4 (24 * a + k) 0)) a = _
    rw [h1, rowG_sq]; rfl
theorem Rc.mk {G : fxG} {A : Ad} {S : Ms} {w : fxW} (h : Rc G A S w) {a : Nat} (ha : a < 4) (ty ln : Int) (hty : 0 ≤ ty) : Rc G A (sp (sp S 2 a ty) 3 a ln) (fx_put (fx_put w 65 (A 1 a) (zi ty)) 66 (A 1 a) (zi ln)) := by
  obtain ⟨hP, hR, hJ, hT, hW, hL⟩ := h
  have k0 : KM w (fx_put (fx_put w 65 (A 1 a) (zi ty)) 66 (A 1 a) (zi ln)) := fun _ _ h => h
  have f0 : ∀ c, c ≠ 1 → FS c w (fx_put (fx_put w 65 (A 1 a) (zi ty)) 66 (A 1 a) (zi ln)) := fun c hc g b h1 h2 _ => by rw [fxf_putN _ _ (Or.inl (by omega)), fxf_putN _ _ (Or.inl (by omega))]
  have e0 : ∀ t, ES t w (fx_put (fx_put w 65 (A 1 a) (zi ty)) 66 (A 1 a) (zi ln)) := fun _ _ _ _ _ => rfl
  have e : ∀ c, c ≠ 2 → c ≠ 3 → (sp (sp S 2 a ty) 3 a ln).1 c = S.1 c := fun c h1 h2 => by rw [spf _ _ _ _ h2, spf _ _ _ _ h1]
  refine ⟨hP.ext k0 (f0 0 (by decide)) (fun t _ => e0 t) (fun c hc => e c (by omega) (by omega)), ⟨fun b hb => ?_, hR.2⟩, hJ.ext k0 (f0 2 (by decide)) rfl (fun c hc => e c (by omega) (by omega)) (fun _ _ _ => rfl), hT.ext k0 (f0 3 (by decide)) rfl (fun c hc => e c (by omega) (by omega)) rfl rfl, hW.ext k0 (f0 4 (by decide)) rfl (fun c hc => e c (by omega) (by omega)), hL.ext k0 (f0 5 (by decide)) (e0 2) rfl (fun i _ => rfl)⟩
  obtain ⟨r1, r2, r3, r4, r5, r6⟩ := hR.1 b hb
  by_cases q : b = a
  · subst q
    have ec : cty (sp (sp S 2 b ty) 3 b ln) b = ty := by
      unfold cty
      rw [sp_k _ _ _ _ (by decide), sp_same, if_neg (by omega)]
    rw [ec, sp_same]
    refine ⟨r1, ?_, ?_, fxf_put _ _ _ _, r5, r6⟩
    · rw [fxf_putN _ _ (Or.inl (by decide)), fxf_putN _ _ (Or.inl (by decide))]; exact r2
    · rw [fxf_putN _ _ (Or.inl (by decide)), fxf_put]
  · have hne := (hR.2 b a hb ha q).1
    have f : ∀ g, fxf (fx_put (fx_put w 65 (A 1 a) (zi ty)) 66 (A 1 a) (zi ln)) g (A 1 b) = fxf w g (A 1 b) := fun g => by rw [fxf_putN _ _ (Or.inr hne), fxf_putN _ _ (Or.inr hne)]
    have ec : cty (sp (sp S 2 a ty) 3 a ln) b = cty S b := by
      unfold cty
      rw [sp_k _ _ _ _ (by decide), sp_j _ _ _ q]
    rw [ec, sp_j _ _ _ q, sp_k _ _ _ _ (by decide)]
    exact ⟨r1, (f 64).trans r2, (f 65).trans r3, (f 66).trans r4, r5, r6⟩
set_option maxRecDepth 20000 in
theorem m_FP_array {G : fxG} (d : Nat) {A : Ad} {S : Ms} {w : fxW} (h : Rc G A S w) (hB : Bi S) (hd1 : 8 ≤ d) (a ty len : Int) (ha : zok a) (hty : zok ty) (hlen : zok len) (t9 : fxt w + 1 ≤ fxmt G) (t8 : fxu w + 6 ≤ fxmu G) : fxM G d y_FP_array [.ref (A 0 0), zi a, zi ty, zi len] w (cP G A S w [7, 8] (zi (mArray S a ty len).1) (mArray S a ty len).2 1 6) := by
  refine fxM.of cc_FP_array 4 (some .int) [] (by decide +kernel) w_FP_array (Nat.le_of_ble_eq_true rfl) ?_
  intro x C ht hu
  generalize hM : mArray S a ty len = MM
  unfold mArray at hM
  show fxR G 4 x _ w 0 [(0, .ref (A 0 0)), (1, zi a), (2, zi ty), (3, zi len)] []
  refine fx_dom (fun hdm => ?_)
  have bad : ¬ ((0 ≤ a ∧ a ≤ 3) ∧ (0 ≤ ty ∧ ty ≤ 5) ∧ (1 ≤ len ∧ len ≤ 24)) → fxR G 4 x (fxQ G x (cP G A S w [7, 8] (zi MM.1) MM.2 1 6)) w 28 [(0, .ref (A 0 0)), (1, zi a), (2, zi ty), (3, zi len)] [] := by
    intro q
    rw [if_pos q] at hM
    subst hM
    refine x_7 C (si := 50) (tx := "array, type or length out of range") (by decide +kernel) d_FP_array_28 d_FP_array_31 d_FP_array_32 d_FP_array_34 d_FP_array_37 (by omega) (Nat.le_of_ble_eq_true rfl) (by omega) (by omega) (rt_out C rfl ?_)
    exact cP.th ((h.th 0).th 1) hdm 0 7 (by rw [sp_same]; rfl) rfl (by omega) (by omega)
  refine r_iload_n C d_FP_array_0 rfl rfl ?_
  refine r_iconst C d_FP_array_1 rfl ?_
  refine r_iconst C d_FP_array_2 rfl ?_
  refine c_FP_44 C d_FP_array_3 (m_isWithin 1 w a 0 3 ha (by unfold zok; omega) (by unfold zok; omega)) (by omega) (Nat.le_of_ble_eq_true rfl) (fxPure.k1 ?_) fxPure.k2
  refine zr_if_eq (tgt := 28) C d_FP_array_6 (by decide) (zok_b _) (fun c_6 => ?_) (fun c_6 => ?_)
  · exact bad fun z => by rw [bI_t z.1] at c_6; exact absurd c_6 (by decide)
  · have n1 : 0 ≤ a ∧ a ≤ 3 := Classical.byContradiction fun z => c_6 (bI_f z)
    refine r_iload_n C d_FP_array_9 rfl rfl ?_
    refine r_iconst C d_FP_array_10 rfl ?_
    refine r_iconst C d_FP_array_11 rfl ?_
    refine c_FP_44 C d_FP_array_12 (m_isWithin 1 w ty 0 5 hty (by unfold zok; omega) (by unfold zok; omega)) (by omega) (Nat.le_of_ble_eq_true rfl) (fxPure.k1 ?_) fxPure.k2
    refine zr_if_eq (tgt := 28) C d_FP_array_15 (by decide) (zok_b _) (fun c_15 => ?_) (fun c_15 => ?_)
    · exact bad fun z => by rw [bI_t z.2.1] at c_15; exact absurd c_15 (by decide)
    · have n2 : 0 ≤ ty ∧ ty ≤ 5 := Classical.byContradiction fun z => c_15 (bI_f z)
      refine r_iload_n C d_FP_array_18 rfl rfl ?_
      refine r_iconst C d_FP_array_19 rfl ?_
      refine r_bipush (v := Int32.ofInt 24) C d_FP_array_20 (by decide) ?_
      refine c_FP_44 C d_FP_array_22 (m_isWithin 1 w len 1 24 hlen (by unfold zok; omega) (by unfold zok; omega)) (by omega) (Nat.le_of_ble_eq_true rfl) (fxPure.k1 ?_) fxPure.k2
      refine zr_if_ne (tgt := 38) C d_FP_array_25 (by decide) (zok_b _) (fun c_25 => ?_) (fun c_25 => ?_)
      · have n3 : 1 ≤ len ∧ len ≤ 24 := Classical.byContradiction fun z => c_25 (bI_f z)
        rw [if_neg (fun z => z ⟨n1, n2, n3⟩)] at hM
        obtain ⟨k, hk⟩ := Int.eq_ofNat_of_zero_le n1.1
        subst hk
        have hk4 : k < 4 := by omega
        have R := h.rw' hk4
        rw [Int.toNat_natCast] at hM
        refine r_aload_n C d_FP_array_38 rfl rfl ?_
        refine r_aload_n C d_FP_array_39 rfl rfl ?_
        refine g_FP_11 C d_FP_array_40 h.p0 h.pr ?_
        refine r_iload_n C d_FP_array_43 rfl rfl ?_
        refine zr_aaload C d_FP_array_44 (by decide) rfl rfl (t := 3) (k := k) (Or.inl h.kr) rfl hk4 (by decide) (h.er hk4) ?_
        refine c_FP_55 C d_FP_array_45 h.p0 (m_refuseIfBusy 6 h hB (by omega) k hk4 t9 t8) (by omega) (Nat.le_of_ble_eq_true rfl) (cOr.k1 fun nb => ?_) (cOr.k2 fun nb => ?_)
        · rw [if_neg nb] at hM
          subst hM
          refine r_aload_n C d_FP_array_48 rfl rfl ?_
          refine g_FP_11 C d_FP_array_49 h.p0 h.pr ?_
          refine r_iload_n C d_FP_array_52 rfl rfl ?_
          refine zr_aaload C d_FP_array_53 (by decide) rfl rfl (t := 3) (k := k) (Or.inl h.kr) rfl hk4 (by decide) (h.er hk4) ?_
          refine r_iload_n C d_FP_array_54 rfl rfl ?_
          refine r_iload_n C d_FP_array_55 rfl rfl ?_
          refine c_FP_59 C d_FP_array_56 R.1 (m_Row_make 1 R ty len) (by omega) (Nat.le_of_ble_eq_true rfl) ?_ ?_
          · rintro v' w' ⟨e9, q1, q2⟩
            cases e9
            refine r_iload_n C d_FP_array_59 rfl rfl ?_
            have h1 : Rc G A (sp (sp (sp S 0 0 0) 2 k ty) 3 k len) (fx_put (fx_put w 65 (A 1 k) (zi ty)) 66 (A 1 k) (zi len)) := Rc.mk (S := sp S 0 0 0) (h.th 0) hk4 ty len n2.1
            obtain ⟨z1, z2⟩ := zer_eq (a := k) 24 0 (sp (sp (sp S 0 0 0) 2 k ty) 3 k len) (by omega)
            have ec : cty (sp (sp (sp S 0 0 0) 2 k ty) 3 k len) k = ty := by
              unfold cty
              rw [sp_k _ _ _ _ (by decide), sp_same, if_neg (by omega)]
            have eg : rowG (sp (sp (sp S 0 0 0) 2 k ty) 3 k len) k = rowG S k := rfl
            obtain ⟨y1, y2⟩ := h1.oth k hk4 z2 q2 (by rw [z1, ec, eg, sp_same]; exact q1)
            have cf1 : CF 0 0 w (fx_put w 65 (A 1 k) (zi ty)) := CF_put R.1 (by decide)
            have cf2 : CF 0 0 (fx_put w 65 (A 1 k) (zi ty)) (fx_put (fx_put w 65 (A 1 k) (zi ty)) 66 (A 1 k) (zi len)) := CF_put (ci := 1) R.1 (by decide)
            refine r_ireturn C d_FP_array_60 rfl ⟨A, Ax.rf, y1, (cf1.tr0 (cf2.tr0 y2)).wk (by omega) (by omega), Or.inl ⟨?_, rfl⟩⟩
            show (zerF k 0 24 (sp (sp (sp S 0 0 0) 2 k ty) 3 k len)).1 0 0 = 0
            rw [z2.1]
            rw [sp_k _ _ _ _ (by decide), sp_k _ _ _ _ (by decide), sp_same]
          · rintro a w' ⟨e9, -⟩
            cases e9
        · rw [if_pos (Classical.not_not.mp nb)] at hM
          subst hM
          exact rt_out C rfl (cP.th ((h.th 0).th 2) hdm 1 8 (by rw [sp_same]; rfl) rfl (by omega) (by omega))
      · exact bad fun z => by rw [bI_t z.2.2] at c_25; exact absurd c_25 (by decide)
set_option maxRecDepth 20000 in
theorem m_FP_set {G : fxG} (d : Nat) {A : Ad} {S : Ms} {w : fxW} (h : Rc G A S w) (hB : Bi S) (hF : Fr S) (hd1 : 9 ≤ d) (a i : Int) (v : Int64) (ha : zok a) (hi : zok i) (t9 : fxt w + 1 ≤ fxmt G) (t8 : fxu w + 6 ≤ fxmu G) : fxM G d y_FP_set [.ref (A 0 0), zi a, zi i, .long v] w (cP G A S w [9, 8] (.long (mSet S a i v).1) (mSet S a i v).2 1 6) := by
  refine fxM.of cc_FP_set 6 (some .long) [] (by decide +kernel) w_FP_set (Nat.le_of_ble_eq_true rfl) ?_
  intro x C ht hu
  generalize hM : mSet S a i v = MM
  unfold mSet at hM
  show fxR G 6 x _ w 0 [(0, .ref (A 0 0)), (1, zi a), (2, zi i), (3, .long v)] []
  refine fx_dom (fun hdm => ?_)
  refine r_aload_n C d_FP_set_0 rfl rfl ?_
  refine r_iload_n C d_FP_set_1 rfl rfl ?_
  refine r_iload_n C d_FP_set_2 rfl rfl ?_
  refine c_FP_63 C d_FP_set_3 h.p0 (m_rowWith 8 h hB hF (by omega) a i ha hi t9 t8) (by omega) (Nat.le_of_ble_eq_true rfl) (cOr.k1 fun n0 => ?_) (cOr.k2 fun n0 => ?_)
  · rw [if_neg n0] at hM
    obtain ⟨n1, n2, n3, n4, n5⟩ := Classical.not_not.mp n0
    obtain ⟨k, hk⟩ := Int.eq_ofNat_of_zero_le n1
    subst hk
    obtain ⟨j, hj⟩ := Int.eq_ofNat_of_zero_le n4
    subst hj
    rw [Int.toNat_natCast] at hM n3 n5 ⊢
    rw [Int.toNat_natCast] at hM
    have hk4 : k < 4 := by omega
    obtain ⟨b1, b2, b3, b4, b5⟩ := hB.2.1 k hk4
    have hj24 : j < 24 := by omega
    have ec : cty S k = S.1 2 k := by unfold cty; rw [if_neg (by omega)]
    have hw := h.rw' hk4
    rw [ec] at hw
    refine r_astore (ls' := [(5, _), (0, _), (1, _), (2, _), (3, _)]) C d_FP_set_6 (by decide) rfl ?_
    refine r_aload_n C d_FP_set_8 rfl rfl ?_
    refine r_aload C d_FP_set_9 rfl ?_
    refine c_FP_55 C d_FP_set_11 h.p0 (m_refuseIfBusy 6 h hB (by omega) k hk4 t9 t8) (by omega) (Nat.le_of_ble_eq_true rfl) (cOr.k1 fun nb => ?_) (cOr.k2 fun nb => ?_)
    · rw [if_neg nb] at hM
      subst hM
      refine r_aload C d_FP_set_14 rfl ?_
      refine g_FP_67 C d_FP_set_16 hw.1 hw.2.1 ?_
      refine r_iload_n C d_FP_set_19 rfl rfl ?_
      refine r_aload C d_FP_set_20 rfl ?_
      refine r_lload_n C d_FP_set_22 rfl rfl ?_
      refine c_FP_71 C d_FP_set_23 hw.1 (m_Row_kept 1 w (A 1 k) 0 (S.1 2 k) v (by omega) hw.1 hw.2.2.1 (by unfold zok; omega) n3) (by omega) (Nat.le_of_ble_eq_true rfl) (fxPure.k1 ?_) fxPure.k2
      refine zr_lastore C d_FP_set_26 (by decide) rfl (t := 0) (k := j) hw.2.2.2.2.1 (by omega) (by omega) (by decide) ?_
      refine row_ab hw (fun w2 hw2 hF9 => ?_)
      have el : fxe w2 0 (A 2 k) j = .long (keptF (S.1 2 k) v) := by
        rw [hw2.2.2.2.2.2 j hj24]
        show Value.long (if j = j then _ else _) = _
        rw [if_pos rfl]
      refine r_aload C d_FP_set_27 rfl ?_
      refine g_FP_67 C d_FP_set_29 hw2.1 hw2.2.1 ?_
      refine r_iload_n C d_FP_set_32 rfl rfl ?_
      refine zr_laload C d_FP_set_33 (by decide) rfl (t := 0) (k := j) (Or.inl hw2.2.2.2.2.1) rfl hj24 (by decide) el ?_
      obtain ⟨y1, y2⟩ := Rc.oth (S := sp S 0 0 0) (S' := sq (sp S 0 0 0) 4 (24 * k + j) (keptF (S.1 2 k) v)) (h.th 0) k hk4 (Oth.sq hj24 _) hF9 (by rw [rowG_sq]; show RowAt (A 1 k) (A 2 k) (cty S k) (S.1 3 k) (gU (rowG S k) j (keptF (S.1 2 k) v)) w2; rw [ec]; exact hw2)
      exact r_lreturn C d_FP_set_34 rfl ⟨A, Ax.rf, y1, y2.wk (by omega) (by omega), Or.inl ⟨sp_same S 0 0 0, rfl⟩⟩
    · rw [if_pos (Classical.not_not.mp nb)] at hM
      subst hM
      exact rt_out C rfl (cP.th ((h.th 0).th 2) hdm 1 8 (by rw [sp_same]; rfl) rfl (by omega) (by omega))
  · rw [if_pos (Classical.not_not.mp n0)] at hM
    subst hM
    exact rt_out C rfl (cP.th ((h.th 0).th 1) hdm 0 9 (by rw [sp_same]; rfl) rfl (by omega) (by omega))
set_option maxRecDepth 20000 in
theorem m_FP_get {G : fxG} (d : Nat) {A : Ad} {S : Ms} {w : fxW} (h : Rc G A S w) (hB : Bi S) (hF : Fr S) (hd1 : 9 ≤ d) (a i : Int) (ha : zok a) (hi : zok i) (t9 : fxt w + 1 ≤ fxmt G) (t8 : fxu w + 6 ≤ fxmu G) : fxM G d y_FP_get [.ref (A 0 0), zi a, zi i] w (cP G A S w [9] (.long (mGet S a i).1) (mGet S a i).2 1 6) := by
  refine fxM.of cc_FP_get 3 (some .long) [] (by decide +kernel) w_FP_get (Nat.le_of_ble_eq_true rfl) ?_
  intro x C ht hu
  generalize hM : mGet S a i = MM
  unfold mGet at hM
  show fxR G 3 x _ w 0 [(0, .ref (A 0 0)), (1, zi a), (2, zi i)] []
  refine fx_dom (fun hdm => ?_)
  refine r_aload_n C d_FP_get_0 rfl rfl ?_
  refine r_iload_n C d_FP_get_1 rfl rfl ?_
  refine r_iload_n C d_FP_get_2 rfl rfl ?_
  refine c_FP_63 C d_FP_get_3 h.p0 (m_rowWith 8 h hB hF (by omega) a i ha hi t9 t8) (by omega) (Nat.le_of_ble_eq_true rfl) (cOr.k1 fun n0 => ?_) (cOr.k2 fun n0 => ?_)
  · rw [if_neg n0] at hM
    obtain ⟨n1, n2, n3, n4, n5⟩ := Classical.not_not.mp n0
    obtain ⟨k, hk⟩ := Int.eq_ofNat_of_zero_le n1
    subst hk
    obtain ⟨j, hj⟩ := Int.eq_ofNat_of_zero_le n4
    subst hj
    rw [Int.toNat_natCast] at hM n3 n5 ⊢
    rw [Int.toNat_natCast] at hM
    subst hM
    have hk4 : k < 4 := by omega
    obtain ⟨b1, b2, b3, b4, b5⟩ := hB.2.1 k hk4
    have hj24 : j < 24 := by omega
    have hw := h.rw' hk4
    refine g_FP_67 C d_FP_get_6 hw.1 hw.2.1 ?_
    refine r_iload_n C d_FP_get_9 rfl rfl ?_
    refine zr_laload C d_FP_get_10 (by decide) rfl (t := 0) (k := j) (Or.inl hw.2.2.2.2.1) rfl hj24 (by decide) (hw.2.2.2.2.2 j hj24) ?_
    exact r_lreturn C d_FP_get_11 rfl ⟨A, Ax.rf, h.th 0, CF.rf.wk (by omega) (by omega), Or.inl ⟨sp_same _ _ _ _, rfl⟩⟩
  · rw [if_pos (Classical.not_not.mp n0)] at hM
    subst hM
    exact rt_out C rfl (cP.th ((h.th 0).th 1) hdm 0 9 (by rw [sp_same]; rfl) rfl (by omega) (by omega))

/-! THE LAW'S HELPERS, by gen_lw.py -/
theorem hl_7 : Cond.classLink "ForkPoolLaw" 13 "java/lang/IllegalArgumentException" ∈ fxTW := fxTW_in 176 (by decide +kernel) rfl
theorem hl_8 : Cond.classLink "ForkPoolLaw" 15 "java/lang/IllegalStateException" ∈ fxTW := fxTW_in 177 (by decide +kernel) rfl
theorem hl_9 : Cond.classLink "ForkPoolLaw" 21 "java/util/NoSuchElementException" ∈ fxTW := fxTW_in 282 (by decide +kernel) rfl
theorem hl_10 : Cond.classLink "ForkPoolLaw" 38 "java/lang/ArithmeticException" ∈ fxTW := fxTW_in 631 (by decide +kernel) rfl
theorem hl_11 : Cond.classLink "ForkPoolLaw" 44 "java/lang/UnsupportedOperationException" ∈ fxTW := fxTW_in 661 (by decide +kernel) rfl
theorem hs_7 : Cond.castable "java/lang/IllegalArgumentException" "java/lang/IllegalArgumentException" ∈ fxTW := fxTW_in 187 (by decide +kernel) rfl
theorem hs_8 : Cond.castable "java/lang/IllegalStateException" "java/lang/IllegalStateException" ∈ fxTW := fxTW_in 261 (by decide +kernel) rfl
theorem hs_9 : Cond.castable "java/util/NoSuchElementException" "java/util/NoSuchElementException" ∈ fxTW := fxTW_in 297 (by decide +kernel) rfl
theorem hs_10 : Cond.castable "java/lang/ArithmeticException" "java/lang/ArithmeticException" ∈ fxTW := fxTW_in 644 (by decide +kernel) rfl
theorem hs_11 : Cond.castable "java/lang/UnsupportedOperationException" "java/lang/UnsupportedOperationException" ∈ fxTW := fxTW_in 668 (by decide +kernel) rfl
set_option maxRecDepth 20000 in
theorem m_Lw_array {G : fxG} (d : Nat) {A : Ad} {S : Ms} {w : fxW} (h : Rc G A S w) (hI : Inv3 S) (hd1 : 13 ≤ d) {o : Nat} (ho : fxk w o = some (100, 1)) (a0 : Int) (a1 : Int) (a2 : Int) (z0 : zok a0) (z1 : zok a1) (z2 : zok a2) (t9 : fxt w + (4 * (Lam S).toNat + 3) ≤ fxmt G) (t8 : fxu w + (1818 * (Lam S).toNat + 919) ≤ fxmu G) : fxM G d y_Lw_array [.ref (A 0 0), zi a0, zi a1, zi a2, .ref o] w (cH G A S w o (Int32.ofInt (mArray S a0 a1 a2).1).toInt64 (mArray S a0 a1 a2).2) := by
  refine fxM.of cc_Lw_array 6 (some .int) [(0, 12, 15, 13), (0, 12, 19, 15)] (by decide +kernel) w_Lw_array (Nat.le_of_ble_eq_true rfl) ?_
  intro x C ht hu
  have gd := gd_array hI a0 a1 a2
  have nn := (Lam.nn hI).1
  have nn2 := (Lam.nn gd.1).1
  have np := hI.1.1.nn.2
  have lp : Ph S ≤ Lam S := by have := hI.1.1.1.2.2.1.2; unfold Lam; omega
  have gd2 := gd.2.2
  have hM := m_FP_array 12 h hI.1.1.1 (by omega) a0 a1 a2 z0 z1 z2 (by omega) (by omega)
  generalize hMM : mArray S a0 a1 a2 = MM at hM gd gd2 nn2 ⊢
  show fxR G 6 x _ w 0 [(0, .ref (A 0 0)), (1, zi a0), (2, zi a1), (3, zi a2), (4, .ref o)] []
  refine r_aload C d_Lw_array_0 rfl ?_
  refine r_iconst C d_Lw_array_2 rfl ?_
  refine r_aload_n C d_Lw_array_3 rfl rfl ?_
  refine r_iload_n C d_Lw_array_4 rfl rfl ?_
  refine r_iload_n C d_Lw_array_5 rfl rfl ?_
  refine r_iload_n C d_Lw_array_6 rfl rfl ?_
  refine c_Lw_7 C d_Lw_array_7 h.p0 hM (by omega) (Nat.le_of_ble_eq_true rfl) ?_ ?_
  · rintro v' w1 ⟨A1, g1, g2, g3, ⟨g4, g5⟩ | ⟨q, ci, a, g4, g5, g6, g7⟩⟩
    · cases g5
      have ho1 : fxk w1 o = some (100, 1) := g3.km _ _ ho
      show fxR G 6 x _ w1 10 [(0, .ref (A 0 0)), (1, zi a0), (2, zi a1), (3, zi a2), (4, .ref o)] [zi MM.1, zi 0, .ref o]
      refine r_i2l C d_Lw_array_10 rfl ?_
      refine zr_lastore (t := 0) (k := 0) C d_Lw_array_11 (by decide) rfl ho1 rfl (by decide) (by decide) ?_
      refine r_goto (tgt := 23) C d_Lw_array_12 (by decide) ?_
      refine r_iconst C d_Lw_array_23 rfl ?_
      exact r_ireturn C d_Lw_array_24 rfl (cH.ok g1 g2 g3 (by omega) (by omega) g4 ho1)
    · cases g6
  · rintro a w1 ⟨A1, g1, g2, g3, ⟨g4, g5⟩ | ⟨q, ci, a', g4, g5, g6, g7⟩⟩
    · cases g5
    · cases g6
      match q, g4, g5 with
      | 0, g4, g5 =>
        cases g5
        refine rt_catch (ci := 7) (cX := REIA) (F := FEIA) (N := 0) C [] (0, 12, 15, 13) [(0, 12, 19, 15)] rfl g7 (by decide) rfl ⟨by decide, by decide⟩ (by decide) hl_7 hs_7 (fun q hq => by cases hq) ?_
        refine r_astore (ls' := [(5, _), (0, _), (1, _), (2, _), (3, _), (4, _)]) C d_Lw_array_15 (by decide) rfl ?_
        refine r_iconst C d_Lw_array_17 rfl ?_
        exact r_ireturn C d_Lw_array_18 rfl (cH.er (q := 1) g1 g2 g3 (by omega) (by omega) (by rw [g4]; rfl) (by decide))
      | 1, g4, g5 =>
        cases g5
        refine rt_catch (ci := 8) (cX := REIS) (F := FEIS) (N := 0) C [(0, 12, 15, 13)] (0, 12, 19, 15) [] rfl g7 (by decide) rfl ⟨by decide, by decide⟩ (by decide) hl_8 hs_8 (by
          intro q hq
          simp only [List.mem_cons, List.not_mem_nil, or_false] at hq
          subst hq
          exact ⟨⟨by decide, by decide⟩, by decide, _, hl_7, by decide +kernel⟩) ?_
        refine r_astore (ls' := [(5, _), (0, _), (1, _), (2, _), (3, _), (4, _)]) C d_Lw_array_19 (by decide) rfl ?_
        refine r_iconst C d_Lw_array_21 rfl ?_
        exact r_ireturn C d_Lw_array_22 rfl (cH.er (q := 2) g1 g2 g3 (by omega) (by omega) (by rw [g4]; rfl) (by decide))
      | n + 2, g4, g5 => cases g5
set_option maxRecDepth 20000 in
theorem m_Lw_set {G : fxG} (d : Nat) {A : Ad} {S : Ms} {w : fxW} (h : Rc G A S w) (hI : Inv3 S) (hd1 : 13 ≤ d) {o : Nat} (ho : fxk w o = some (100, 1)) (a0 : Int) (a1 : Int) (a2 : Int64) (z0 : zok a0) (z1 : zok a1) (t9 : fxt w + (4 * (Lam S).toNat + 3) ≤ fxmt G) (t8 : fxu w + (1818 * (Lam S).toNat + 919) ≤ fxmu G) : fxM G d y_Lw_set [.ref (A 0 0), zi a0, zi a1, .long a2, .ref o] w (cH G A S w o (mSet S a0 a1 a2).1 (mSet S a0 a1 a2).2) := by
  refine fxM.of cc_Lw_set 7 (some .int) [(0, 11, 14, 21), (0, 11, 18, 15)] (by decide +kernel) w_Lw_set (Nat.le_of_ble_eq_true rfl) ?_
  intro x C ht hu
  have gd := gd_set hI a0 a1 a2
  have nn := (Lam.nn hI).1
  have nn2 := (Lam.nn gd.1).1
  have np := hI.1.1.nn.2
  have lp : Ph S ≤ Lam S := by have := hI.1.1.1.2.2.1.2; unfold Lam; omega
  have gd2 := gd.2.2
  have hM := m_FP_set 12 h hI.1.1.1 hI.1.2.2 (by omega) a0 a1 a2 z0 z1 (by omega) (by omega)
  generalize hMM : mSet S a0 a1 a2 = MM at hM gd gd2 nn2 ⊢
  show fxR G 7 x _ w 0 [(0, .ref (A 0 0)), (1, zi a0), (2, zi a1), (3, .long a2), (5, .ref o)] []
  refine r_aload C d_Lw_set_0 rfl ?_
  refine r_iconst C d_Lw_set_2 rfl ?_
  refine r_aload_n C d_Lw_set_3 rfl rfl ?_
  refine r_iload_n C d_Lw_set_4 rfl rfl ?_
  refine r_iload_n C d_Lw_set_5 rfl rfl ?_
  refine r_lload_n C d_Lw_set_6 rfl rfl ?_
  refine c_Lw_17 C d_Lw_set_7 h.p0 hM (by omega) (Nat.le_of_ble_eq_true rfl) ?_ ?_
  · rintro v' w1 ⟨A1, g1, g2, g3, ⟨g4, g5⟩ | ⟨q, ci, a, g4, g5, g6, g7⟩⟩
    · cases g5
      have ho1 : fxk w1 o = some (100, 1) := g3.km _ _ ho
      show fxR G 7 x _ w1 10 [(0, .ref (A 0 0)), (1, zi a0), (2, zi a1), (3, .long a2), (5, .ref o)] [.long MM.1, zi 0, .ref o]
      refine zr_lastore (t := 0) (k := 0) C d_Lw_set_10 (by decide) rfl ho1 rfl (by decide) (by decide) ?_
      refine r_goto (tgt := 22) C d_Lw_set_11 (by decide) ?_
      refine r_iconst C d_Lw_set_22 rfl ?_
      exact r_ireturn C d_Lw_set_23 rfl (cH.ok g1 g2 g3 (by omega) (by omega) g4 ho1)
    · cases g6
  · rintro a w1 ⟨A1, g1, g2, g3, ⟨g4, g5⟩ | ⟨q, ci, a', g4, g5, g6, g7⟩⟩
    · cases g5
    · cases g6
      match q, g4, g5 with
      | 0, g4, g5 =>
        cases g5
        refine rt_catch (ci := 9) (cX := RENS) (F := FENS) (N := 0) C [] (0, 11, 14, 21) [(0, 11, 18, 15)] rfl g7 (by decide) rfl ⟨by decide, by decide⟩ (by decide) hl_9 hs_9 (fun q hq => by cases hq) ?_
        refine r_astore (ls' := [(6, _), (0, _), (1, _), (2, _), (3, _), (5, _)]) C d_Lw_set_14 (by decide) rfl ?_
        refine r_iconst C d_Lw_set_16 rfl ?_
        exact r_ireturn C d_Lw_set_17 rfl (cH.er (q := 1) g1 g2 g3 (by omega) (by omega) (by rw [g4]; rfl) (by decide))
      | 1, g4, g5 =>
        cases g5
        refine rt_catch (ci := 8) (cX := REIS) (F := FEIS) (N := 0) C [(0, 11, 14, 21)] (0, 11, 18, 15) [] rfl g7 (by decide) rfl ⟨by decide, by decide⟩ (by decide) hl_8 hs_8 (by
          intro q hq
          simp only [List.mem_cons, List.not_mem_nil, or_false] at hq
          subst hq
          exact ⟨⟨by decide, by decide⟩, by decide, _, hl_9, by decide +kernel⟩) ?_
        refine r_astore (ls' := [(6, _), (0, _), (1, _), (2, _), (3, _), (5, _)]) C d_Lw_set_18 (by decide) rfl ?_
        refine r_iconst C d_Lw_set_20 rfl ?_
        exact r_ireturn C d_Lw_set_21 rfl (cH.er (q := 2) g1 g2 g3 (by omega) (by omega) (by rw [g4]; rfl) (by decide))
      | n + 2, g4, g5 => cases g5
set_option maxRecDepth 20000 in
theorem m_Lw_get {G : fxG} (d : Nat) {A : Ad} {S : Ms} {w : fxW} (h : Rc G A S w) (hI : Inv3 S) (hd1 : 13 ≤ d) {o : Nat} (ho : fxk w o = some (100, 1)) (a0 : Int) (a1 : Int) (z0 : zok a0) (z1 : zok a1) (t9 : fxt w + (4 * (Lam S).toNat + 3) ≤ fxmt G) (t8 : fxu w + (1818 * (Lam S).toNat + 919) ≤ fxmu G) : fxM G d y_Lw_get [.ref (A 0 0), zi a0, zi a1, .ref o] w (cH G A S w o (mGet S a0 a1).1 (mGet S a0 a1).2) := by
  refine fxM.of cc_Lw_get 5 (some .int) [(0, 9, 12, 21)] (by decide +kernel) w_Lw_get (Nat.le_of_ble_eq_true rfl) ?_
  intro x C ht hu
  have gd := gd_get hI a0 a1
  have nn := (Lam.nn hI).1
  have nn2 := (Lam.nn gd.1).1
  have np := hI.1.1.nn.2
  have lp : Ph S ≤ Lam S := by have := hI.1.1.1.2.2.1.2; unfold Lam; omega
  have gd2 := gd.2.2
  have hM := m_FP_get 12 h hI.1.1.1 hI.1.2.2 (by omega) a0 a1 z0 z1 (by omega) (by omega)
  generalize hMM : mGet S a0 a1 = MM at hM gd gd2 nn2 ⊢
  show fxR G 5 x _ w 0 [(0, .ref (A 0 0)), (1, zi a0), (2, zi a1), (3, .ref o)] []
  refine r_aload_n C d_Lw_get_0 rfl rfl ?_
  refine r_iconst C d_Lw_get_1 rfl ?_
  refine r_aload_n C d_Lw_get_2 rfl rfl ?_
  refine r_iload_n C d_Lw_get_3 rfl rfl ?_
  refine r_iload_n C d_Lw_get_4 rfl rfl ?_
  refine c_Lw_23 C d_Lw_get_5 h.p0 hM (by omega) (Nat.le_of_ble_eq_true rfl) ?_ ?_
  · rintro v' w1 ⟨A1, g1, g2, g3, ⟨g4, g5⟩ | ⟨q, ci, a, g4, g5, g6, g7⟩⟩
    · cases g5
      have ho1 : fxk w1 o = some (100, 1) := g3.km _ _ ho
      show fxR G 5 x _ w1 8 [(0, .ref (A 0 0)), (1, zi a0), (2, zi a1), (3, .ref o)] [.long MM.1, zi 0, .ref o]
      refine zr_lastore (t := 0) (k := 0) C d_Lw_get_8 (by decide) rfl ho1 rfl (by decide) (by decide) ?_
      refine r_goto (tgt := 16) C d_Lw_get_9 (by decide) ?_
      refine r_iconst C d_Lw_get_16 rfl ?_
      exact r_ireturn C d_Lw_get_17 rfl (cH.ok g1 g2 g3 (by omega) (by omega) g4 ho1)
    · cases g6
  · rintro a w1 ⟨A1, g1, g2, g3, ⟨g4, g5⟩ | ⟨q, ci, a', g4, g5, g6, g7⟩⟩
    · cases g5
    · cases g6
      match q, g4, g5 with
      | 0, g4, g5 =>
        cases g5
        refine rt_catch (ci := 9) (cX := RENS) (F := FENS) (N := 0) C [] (0, 9, 12, 21) [] rfl g7 (by decide) rfl ⟨by decide, by decide⟩ (by decide) hl_9 hs_9 (fun q hq => by cases hq) ?_
        refine r_astore (ls' := [(4, _), (0, _), (1, _), (2, _), (3, _)]) C d_Lw_get_12 (by decide) rfl ?_
        refine r_iconst C d_Lw_get_14 rfl ?_
        exact r_ireturn C d_Lw_get_15 rfl (cH.er (q := 1) g1 g2 g3 (by omega) (by omega) (by rw [g4]; rfl) (by decide))
      | n + 1, g4, g5 => cases g5
set_option maxRecDepth 20000 in
theorem m_Lw_begin {G : fxG} (d : Nat) {A : Ad} {S : Ms} {w : fxW} (h : Rc G A S w) (hI : Inv3 S) (hd1 : 13 ≤ d) {o : Nat} (ho : fxk w o = some (100, 1)) (a0 : Int) (a1 : Int) (a2 : Int) (a3 : Int) (a4 : Int) (z0 : zok a0) (z1 : zok a1) (z2 : zok a2) (z3 : zok a3) (z4 : zok a4) (t9 : fxt w + (4 * (Lam S).toNat + 3) ≤ fxmt G) (t8 : fxu w + (1818 * (Lam S).toNat + 919) ≤ fxmu G) : fxM G d y_Lw_begin [.ref (A 0 0), zi a0, zi a1, zi a2, zi a3, zi a4, .ref o] w (cH G A S w o (Int32.ofInt (mBegin S a0 a1 a2 a3 a4).1).toInt64 (mBegin S a0 a1 a2 a3 a4).2) := by
  refine fxM.of cc_Lw_begin 8 (some .int) [(0, 16, 19, 21), (0, 16, 23, 13), (0, 16, 27, 15)] (by decide +kernel) w_Lw_begin (Nat.le_of_ble_eq_true rfl) ?_
  intro x C ht hu
  have gd := gd_begin hI a0 a1 a2 a3 a4
  have nn := (Lam.nn hI).1
  have nn2 := (Lam.nn gd.1).1
  have np := hI.1.1.nn.2
  have lp : Ph S ≤ Lam S := by have := hI.1.1.1.2.2.1.2; unfold Lam; omega
  have gd2 := gd.2.2
  have hM := m_FP_begin 12 h hI (by omega) a0 a1 a2 a3 a4 z0 z1 z2 z3 z4 (by omega) (by omega)
  generalize hMM : mBegin S a0 a1 a2 a3 a4 = MM at hM gd gd2 nn2 ⊢
  show fxR G 8 x _ w 0 [(0, .ref (A 0 0)), (1, zi a0), (2, zi a1), (3, zi a2), (4, zi a3), (5, zi a4), (6, .ref o)] []
  refine r_aload C d_Lw_begin_0 rfl ?_
  refine r_iconst C d_Lw_begin_2 rfl ?_
  refine r_aload_n C d_Lw_begin_3 rfl rfl ?_
  refine r_iload_n C d_Lw_begin_4 rfl rfl ?_
  refine r_iload_n C d_Lw_begin_5 rfl rfl ?_
  refine r_iload_n C d_Lw_begin_6 rfl rfl ?_
  refine r_iload C d_Lw_begin_7 rfl ?_
  refine r_iload C d_Lw_begin_9 rfl ?_
  refine c_Lw_27 C d_Lw_begin_11 h.p0 hM (by omega) (Nat.le_of_ble_eq_true rfl) ?_ ?_
  · rintro v' w1 ⟨A1, g1, g2, g3, ⟨g4, g5⟩ | ⟨q, ci, a, g4, g5, g6, g7⟩⟩
    · cases g5
      have ho1 : fxk w1 o = some (100, 1) := g3.km _ _ ho
      show fxR G 8 x _ w1 14 [(0, .ref (A 0 0)), (1, zi a0), (2, zi a1), (3, zi a2), (4, zi a3), (5, zi a4), (6, .ref o)] [zi MM.1, zi 0, .ref o]
      refine r_i2l C d_Lw_begin_14 rfl ?_
      refine zr_lastore (t := 0) (k := 0) C d_Lw_begin_15 (by decide) rfl ho1 rfl (by decide) (by decide) ?_
      refine r_goto (tgt := 31) C d_Lw_begin_16 (by decide) ?_
      refine r_iconst C d_Lw_begin_31 rfl ?_
      exact r_ireturn C d_Lw_begin_32 rfl (cH.ok g1 g2 g3 (by omega) (by omega) g4 ho1)
    · cases g6
  · rintro a w1 ⟨A1, g1, g2, g3, ⟨g4, g5⟩ | ⟨q, ci, a', g4, g5, g6, g7⟩⟩
    · cases g5
    · cases g6
      match q, g4, g5 with
      | 0, g4, g5 =>
        cases g5
        refine rt_catch (ci := 9) (cX := RENS) (F := FENS) (N := 0) C [] (0, 16, 19, 21) [(0, 16, 23, 13), (0, 16, 27, 15)] rfl g7 (by decide) rfl ⟨by decide, by decide⟩ (by decide) hl_9 hs_9 (fun q hq => by cases hq) ?_
        refine r_astore (ls' := [(7, _), (0, _), (1, _), (2, _), (3, _), (4, _), (5, _), (6, _)]) C d_Lw_begin_19 (by decide) rfl ?_
        refine r_iconst C d_Lw_begin_21 rfl ?_
        exact r_ireturn C d_Lw_begin_22 rfl (cH.er (q := 1) g1 g2 g3 (by omega) (by omega) (by rw [g4]; rfl) (by decide))
      | 1, g4, g5 =>
        cases g5
        refine rt_catch (ci := 7) (cX := REIA) (F := FEIA) (N := 0) C [(0, 16, 19, 21)] (0, 16, 23, 13) [(0, 16, 27, 15)] rfl g7 (by decide) rfl ⟨by decide, by decide⟩ (by decide) hl_7 hs_7 (by
          intro q hq
          simp only [List.mem_cons, List.not_mem_nil, or_false] at hq
          subst hq
          exact ⟨⟨by decide, by decide⟩, by decide, _, hl_9, by decide +kernel⟩) ?_
        refine r_astore (ls' := [(7, _), (0, _), (1, _), (2, _), (3, _), (4, _), (5, _), (6, _)]) C d_Lw_begin_23 (by decide) rfl ?_
        refine r_iconst C d_Lw_begin_25 rfl ?_
        exact r_ireturn C d_Lw_begin_26 rfl (cH.er (q := 2) g1 g2 g3 (by omega) (by omega) (by rw [g4]; rfl) (by decide))
      | 2, g4, g5 =>
        cases g5
        refine rt_catch (ci := 8) (cX := REIS) (F := FEIS) (N := 0) C [(0, 16, 19, 21), (0, 16, 23, 13)] (0, 16, 27, 15) [] rfl g7 (by decide) rfl ⟨by decide, by decide⟩ (by decide) hl_8 hs_8 (by
          intro q hq
          simp only [List.mem_cons, List.not_mem_nil, or_false] at hq
          rcases hq with rfl | rfl
          · exact ⟨⟨by decide, by decide⟩, by decide, _, hl_9, by decide +kernel⟩
          · exact ⟨⟨by decide, by decide⟩, by decide, _, hl_7, by decide +kernel⟩) ?_
        refine r_astore (ls' := [(7, _), (0, _), (1, _), (2, _), (3, _), (4, _), (5, _), (6, _)]) C d_Lw_begin_27 (by decide) rfl ?_
        refine r_iconst C d_Lw_begin_29 rfl ?_
        exact r_ireturn C d_Lw_begin_30 rfl (cH.er (q := 3) g1 g2 g3 (by omega) (by omega) (by rw [g4]; rfl) (by decide))
      | n + 3, g4, g5 => cases g5
set_option maxRecDepth 20000 in
theorem m_Lw_step {G : fxG} (d : Nat) {A : Ad} {S : Ms} {w : fxW} (h : Rc G A S w) (hI : Inv3 S) (hd1 : 13 ≤ d) {o : Nat} (ho : fxk w o = some (100, 1)) (a0 : Int) (z0 : zok a0) (t9 : fxt w + (4 * (Lam S).toNat + 3) ≤ fxmt G) (t8 : fxu w + (1818 * (Lam S).toNat + 919) ≤ fxmu G) : fxM G d y_Lw_step [.ref (A 0 0), zi a0, .ref o] w (cH G A S w o (Int32.ofInt (mStep S a0).1).toInt64 (mStep S a0).2) := by
  refine fxM.of cc_Lw_step 4 (some .int) [(0, 9, 12, 13)] (by decide +kernel) w_Lw_step (Nat.le_of_ble_eq_true rfl) ?_
  intro x C ht hu
  have gd := gd_step hI a0
  have nn := (Lam.nn hI).1
  have nn2 := (Lam.nn gd.1).1
  have np := hI.1.1.nn.2
  have lp : Ph S ≤ Lam S := by have := hI.1.1.1.2.2.1.2; unfold Lam; omega
  have gd2 := gd.2.2
  have hM := m_FP_step 12 h hI (by omega) a0 z0 (by omega) (by omega)
  generalize hMM : mStep S a0 = MM at hM gd gd2 nn2 ⊢
  show fxR G 4 x _ w 0 [(0, .ref (A 0 0)), (1, zi a0), (2, .ref o)] []
  refine r_aload_n C d_Lw_step_0 rfl rfl ?_
  refine r_iconst C d_Lw_step_1 rfl ?_
  refine r_aload_n C d_Lw_step_2 rfl rfl ?_
  refine r_iload_n C d_Lw_step_3 rfl rfl ?_
  refine c_Lw_31 C d_Lw_step_4 h.p0 hM (by omega) (Nat.le_of_ble_eq_true rfl) ?_ ?_
  · rintro v' w1 ⟨A1, g1, g2, g3, ⟨g4, g5⟩ | ⟨q, ci, a, g4, g5, g6, g7⟩⟩
    · cases g5
      have ho1 : fxk w1 o = some (100, 1) := g3.km _ _ ho
      show fxR G 4 x _ w1 7 [(0, .ref (A 0 0)), (1, zi a0), (2, .ref o)] [zi MM.1, zi 0, .ref o]
      refine r_i2l C d_Lw_step_7 rfl ?_
      refine zr_lastore (t := 0) (k := 0) C d_Lw_step_8 (by decide) rfl ho1 rfl (by decide) (by decide) ?_
      refine r_goto (tgt := 15) C d_Lw_step_9 (by decide) ?_
      refine r_iconst C d_Lw_step_15 rfl ?_
      exact r_ireturn C d_Lw_step_16 rfl (cH.ok g1 g2 g3 (by omega) (by omega) g4 ho1)
    · cases g6
  · rintro a w1 ⟨A1, g1, g2, g3, ⟨g4, g5⟩ | ⟨q, ci, a', g4, g5, g6, g7⟩⟩
    · cases g5
    · cases g6
      match q, g4, g5 with
      | 0, g4, g5 =>
        cases g5
        refine rt_catch (ci := 7) (cX := REIA) (F := FEIA) (N := 0) C [] (0, 9, 12, 13) [] rfl g7 (by decide) rfl ⟨by decide, by decide⟩ (by decide) hl_7 hs_7 (fun q hq => by cases hq) ?_
        refine r_astore_n (ls' := [(3, _), (0, _), (1, _), (2, _)]) C d_Lw_step_12 rfl (by decide) rfl ?_
        refine r_iconst C d_Lw_step_13 rfl ?_
        exact r_ireturn C d_Lw_step_14 rfl (cH.er (q := 1) g1 g2 g3 (by omega) (by omega) (by rw [g4]; rfl) (by decide))
      | n + 1, g4, g5 => cases g5
set_option maxRecDepth 20000 in
theorem m_Lw_join {G : fxG} (d : Nat) {A : Ad} {S : Ms} {w : fxW} (h : Rc G A S w) (hI : Inv3 S) (hd1 : 13 ≤ d) {o : Nat} (ho : fxk w o = some (100, 1)) (a0 : Int) (z0 : zok a0) (t9 : fxt w + (4 * (Lam S).toNat + 3) ≤ fxmt G) (t8 : fxu w + (1818 * (Lam S).toNat + 919) ≤ fxmu G) : fxM G d y_Lw_join [.ref (A 0 0), zi a0, .ref o] w (cH G A S w o (Int32.ofInt (mJoin S a0).1).toInt64 (mJoin S a0).2) := by
  refine fxM.of cc_Lw_join 4 (some .int) [(0, 9, 12, 21), (0, 9, 15, 38)] (by decide +kernel) w_Lw_join (Nat.le_of_ble_eq_true rfl) ?_
  intro x C ht hu
  have gd := gd_join hI a0
  have nn := (Lam.nn hI).1
  have nn2 := (Lam.nn gd.1).1
  have np := hI.1.1.nn.2
  have lp : Ph S ≤ Lam S := by have := hI.1.1.1.2.2.1.2; unfold Lam; omega
  have gd2 := gd.2.2
  have hM := m_FP_join 12 h hI (by omega) a0 z0 (by omega) (by omega)
  generalize hMM : mJoin S a0 = MM at hM gd gd2 nn2 ⊢
  show fxR G 4 x _ w 0 [(0, .ref (A 0 0)), (1, zi a0), (2, .ref o)] []
  refine r_aload_n C d_Lw_join_0 rfl rfl ?_
  refine r_iconst C d_Lw_join_1 rfl ?_
  refine r_aload_n C d_Lw_join_2 rfl rfl ?_
  refine r_iload_n C d_Lw_join_3 rfl rfl ?_
  refine c_Lw_35 C d_Lw_join_4 h.p0 hM (by omega) (Nat.le_of_ble_eq_true rfl) ?_ ?_
  · rintro v' w1 ⟨A1, g1, g2, g3, ⟨g4, g5⟩ | ⟨q, ci, a, g4, g5, g6, g7⟩⟩
    · cases g5
      have ho1 : fxk w1 o = some (100, 1) := g3.km _ _ ho
      show fxR G 4 x _ w1 7 [(0, .ref (A 0 0)), (1, zi a0), (2, .ref o)] [zi MM.1, zi 0, .ref o]
      refine r_i2l C d_Lw_join_7 rfl ?_
      refine zr_lastore (t := 0) (k := 0) C d_Lw_join_8 (by decide) rfl ho1 rfl (by decide) (by decide) ?_
      refine r_goto (tgt := 18) C d_Lw_join_9 (by decide) ?_
      refine r_iconst C d_Lw_join_18 rfl ?_
      exact r_ireturn C d_Lw_join_19 rfl (cH.ok g1 g2 g3 (by omega) (by omega) g4 ho1)
    · cases g6
  · rintro a w1 ⟨A1, g1, g2, g3, ⟨g4, g5⟩ | ⟨q, ci, a', g4, g5, g6, g7⟩⟩
    · cases g5
    · cases g6
      match q, g4, g5 with
      | 0, g4, g5 =>
        cases g5
        refine rt_catch (ci := 9) (cX := RENS) (F := FENS) (N := 0) C [] (0, 9, 12, 21) [(0, 9, 15, 38)] rfl g7 (by decide) rfl ⟨by decide, by decide⟩ (by decide) hl_9 hs_9 (fun q hq => by cases hq) ?_
        refine r_astore_n (ls' := [(3, _), (0, _), (1, _), (2, _)]) C d_Lw_join_12 rfl (by decide) rfl ?_
        refine r_iconst C d_Lw_join_13 rfl ?_
        exact r_ireturn C d_Lw_join_14 rfl (cH.er (q := 1) g1 g2 g3 (by omega) (by omega) (by rw [g4]; rfl) (by decide))
      | 1, g4, g5 =>
        cases g5
        refine rt_catch (ci := 10) (cX := REAr) (F := FEAr) (N := 0) C [(0, 9, 12, 21)] (0, 9, 15, 38) [] rfl g7 (by decide) rfl ⟨by decide, by decide⟩ (by decide) hl_10 hs_10 (by
          intro q hq
          simp only [List.mem_cons, List.not_mem_nil, or_false] at hq
          subst hq
          exact ⟨⟨by decide, by decide⟩, by decide, _, hl_9, by decide +kernel⟩) ?_
        refine r_astore_n (ls' := [(3, _), (0, _), (1, _), (2, _)]) C d_Lw_join_15 rfl (by decide) rfl ?_
        refine r_iconst C d_Lw_join_16 rfl ?_
        exact r_ireturn C d_Lw_join_17 rfl (cH.er (q := 2) g1 g2 g3 (by omega) (by omega) (by rw [g4]; rfl) (by decide))
      | n + 2, g4, g5 => cases g5
set_option maxRecDepth 20000 in
theorem m_Lw_result {G : fxG} (d : Nat) {A : Ad} {S : Ms} {w : fxW} (h : Rc G A S w) (hI : Inv3 S) (hd1 : 13 ≤ d) {o : Nat} (ho : fxk w o = some (100, 1)) (a0 : Int) (z0 : zok a0) (t9 : fxt w + (4 * (Lam S).toNat + 3) ≤ fxmt G) (t8 : fxu w + (1818 * (Lam S).toNat + 919) ≤ fxmu G) : fxM G d y_Lw_result [.ref (A 0 0), zi a0, .ref o] w (cH G A S w o (mResult S a0).1 (mResult S a0).2) := by
  refine fxM.of cc_Lw_result 4 (some .int) [(0, 8, 11, 21), (0, 8, 14, 44), (0, 8, 17, 15)] (by decide +kernel) w_Lw_result (Nat.le_of_ble_eq_true rfl) ?_
  intro x C ht hu
  have gd := gd_result hI a0
  have nn := (Lam.nn hI).1
  have nn2 := (Lam.nn gd.1).1
  have np := hI.1.1.nn.2
  have lp : Ph S ≤ Lam S := by have := hI.1.1.1.2.2.1.2; unfold Lam; omega
  have gd2 := gd.2.2
  have hM := m_FP_result 12 h hI.1.1.1 (by omega) a0 z0 (by omega) (by omega)
  generalize hMM : mResult S a0 = MM at hM gd gd2 nn2 ⊢
  show fxR G 4 x _ w 0 [(0, .ref (A 0 0)), (1, zi a0), (2, .ref o)] []
  refine r_aload_n C d_Lw_result_0 rfl rfl ?_
  refine r_iconst C d_Lw_result_1 rfl ?_
  refine r_aload_n C d_Lw_result_2 rfl rfl ?_
  refine r_iload_n C d_Lw_result_3 rfl rfl ?_
  refine c_Lw_40 C d_Lw_result_4 h.p0 hM (by omega) (Nat.le_of_ble_eq_true rfl) ?_ ?_
  · rintro v' w1 ⟨A1, g1, g2, g3, ⟨g4, g5⟩ | ⟨q, ci, a, g4, g5, g6, g7⟩⟩
    · cases g5
      have ho1 : fxk w1 o = some (100, 1) := g3.km _ _ ho
      show fxR G 4 x _ w1 7 [(0, .ref (A 0 0)), (1, zi a0), (2, .ref o)] [.long MM.1, zi 0, .ref o]
      refine zr_lastore (t := 0) (k := 0) C d_Lw_result_7 (by decide) rfl ho1 rfl (by decide) (by decide) ?_
      refine r_goto (tgt := 20) C d_Lw_result_8 (by decide) ?_
      refine r_iconst C d_Lw_result_20 rfl ?_
      exact r_ireturn C d_Lw_result_21 rfl (cH.ok g1 g2 g3 (by omega) (by omega) g4 ho1)
    · cases g6
  · rintro a w1 ⟨A1, g1, g2, g3, ⟨g4, g5⟩ | ⟨q, ci, a', g4, g5, g6, g7⟩⟩
    · cases g5
    · cases g6
      match q, g4, g5 with
      | 0, g4, g5 =>
        cases g5
        refine rt_catch (ci := 9) (cX := RENS) (F := FENS) (N := 0) C [] (0, 8, 11, 21) [(0, 8, 14, 44), (0, 8, 17, 15)] rfl g7 (by decide) rfl ⟨by decide, by decide⟩ (by decide) hl_9 hs_9 (fun q hq => by cases hq) ?_
        refine r_astore_n (ls' := [(3, _), (0, _), (1, _), (2, _)]) C d_Lw_result_11 rfl (by decide) rfl ?_
        refine r_iconst C d_Lw_result_12 rfl ?_
        exact r_ireturn C d_Lw_result_13 rfl (cH.er (q := 1) g1 g2 g3 (by omega) (by omega) (by rw [g4]; rfl) (by decide))
      | 1, g4, g5 =>
        cases g5
        refine rt_catch (ci := 11) (cX := REUn) (F := FEUn) (N := 0) C [(0, 8, 11, 21)] (0, 8, 14, 44) [(0, 8, 17, 15)] rfl g7 (by decide) rfl ⟨by decide, by decide⟩ (by decide) hl_11 hs_11 (by
          intro q hq
          simp only [List.mem_cons, List.not_mem_nil, or_false] at hq
          subst hq
          exact ⟨⟨by decide, by decide⟩, by decide, _, hl_9, by decide +kernel⟩) ?_
        refine r_astore_n (ls' := [(3, _), (0, _), (1, _), (2, _)]) C d_Lw_result_14 rfl (by decide) rfl ?_
        refine r_iconst C d_Lw_result_15 rfl ?_
        exact r_ireturn C d_Lw_result_16 rfl (cH.er (q := 2) g1 g2 g3 (by omega) (by omega) (by rw [g4]; rfl) (by decide))
      | 2, g4, g5 =>
        cases g5
        refine rt_catch (ci := 8) (cX := REIS) (F := FEIS) (N := 0) C [(0, 8, 11, 21), (0, 8, 14, 44)] (0, 8, 17, 15) [] rfl g7 (by decide) rfl ⟨by decide, by decide⟩ (by decide) hl_8 hs_8 (by
          intro q hq
          simp only [List.mem_cons, List.not_mem_nil, or_false] at hq
          rcases hq with rfl | rfl
          · exact ⟨⟨by decide, by decide⟩, by decide, _, hl_9, by decide +kernel⟩
          · exact ⟨⟨by decide, by decide⟩, by decide, _, hl_11, by decide +kernel⟩) ?_
        refine r_astore_n (ls' := [(3, _), (0, _), (1, _), (2, _)]) C d_Lw_result_17 rfl (by decide) rfl ?_
        refine r_iconst C d_Lw_result_18 rfl ?_
        exact r_ireturn C d_Lw_result_19 rfl (cH.er (q := 3) g1 g2 g3 (by omega) (by omega) (by rw [g4]; rfl) (by decide))
      | n + 3, g4, g5 => cases g5
set_option maxRecDepth 20000 in
theorem m_Lw_cancel {G : fxG} (d : Nat) {A : Ad} {S : Ms} {w : fxW} (h : Rc G A S w) (hI : Inv3 S) (hd1 : 13 ≤ d) {o : Nat} (ho : fxk w o = some (100, 1)) (a0 : Int) (z0 : zok a0) (t9 : fxt w + (4 * (Lam S).toNat + 3) ≤ fxmt G) (t8 : fxu w + (1818 * (Lam S).toNat + 919) ≤ fxmu G) : fxM G d y_Lw_cancel [.ref (A 0 0), zi a0, .ref o] w (cH G A S w o (Int32.ofInt (mCancel S a0).1).toInt64 (mCancel S a0).2) := by
  refine fxM.of cc_Lw_cancel 4 (some .int) [(0, 9, 12, 21), (0, 9, 15, 15)] (by decide +kernel) w_Lw_cancel (Nat.le_of_ble_eq_true rfl) ?_
  intro x C ht hu
  have gd := gd_cancel hI a0
  have nn := (Lam.nn hI).1
  have nn2 := (Lam.nn gd.1).1
  have np := hI.1.1.nn.2
  have lp : Ph S ≤ Lam S := by have := hI.1.1.1.2.2.1.2; unfold Lam; omega
  have gd2 := gd.2.2
  have hM := m_FP_cancel 12 h hI.1.1.1 hI.1.1.2.1 (by omega) a0 z0 (by omega) (by omega)
  generalize hMM : mCancel S a0 = MM at hM gd gd2 nn2 ⊢
  show fxR G 4 x _ w 0 [(0, .ref (A 0 0)), (1, zi a0), (2, .ref o)] []
  refine r_aload_n C d_Lw_cancel_0 rfl rfl ?_
  refine r_iconst C d_Lw_cancel_1 rfl ?_
  refine r_aload_n C d_Lw_cancel_2 rfl rfl ?_
  refine r_iload_n C d_Lw_cancel_3 rfl rfl ?_
  refine c_Lw_46 C d_Lw_cancel_4 h.p0 hM (by omega) (Nat.le_of_ble_eq_true rfl) ?_ ?_
  · rintro v' w1 ⟨A1, g1, g2, g3, ⟨g4, g5⟩ | ⟨q, ci, a, g4, g5, g6, g7⟩⟩
    · cases g5
      have ho1 : fxk w1 o = some (100, 1) := g3.km _ _ ho
      show fxR G 4 x _ w1 7 [(0, .ref (A 0 0)), (1, zi a0), (2, .ref o)] [zi MM.1, zi 0, .ref o]
      refine r_i2l C d_Lw_cancel_7 rfl ?_
      refine zr_lastore (t := 0) (k := 0) C d_Lw_cancel_8 (by decide) rfl ho1 rfl (by decide) (by decide) ?_
      refine r_goto (tgt := 18) C d_Lw_cancel_9 (by decide) ?_
      refine r_iconst C d_Lw_cancel_18 rfl ?_
      exact r_ireturn C d_Lw_cancel_19 rfl (cH.ok g1 g2 g3 (by omega) (by omega) g4 ho1)
    · cases g6
  · rintro a w1 ⟨A1, g1, g2, g3, ⟨g4, g5⟩ | ⟨q, ci, a', g4, g5, g6, g7⟩⟩
    · cases g5
    · cases g6
      match q, g4, g5 with
      | 0, g4, g5 =>
        cases g5
        refine rt_catch (ci := 9) (cX := RENS) (F := FENS) (N := 0) C [] (0, 9, 12, 21) [(0, 9, 15, 15)] rfl g7 (by decide) rfl ⟨by decide, by decide⟩ (by decide) hl_9 hs_9 (fun q hq => by cases hq) ?_
        refine r_astore_n (ls' := [(3, _), (0, _), (1, _), (2, _)]) C d_Lw_cancel_12 rfl (by decide) rfl ?_
        refine r_iconst C d_Lw_cancel_13 rfl ?_
        exact r_ireturn C d_Lw_cancel_14 rfl (cH.er (q := 1) g1 g2 g3 (by omega) (by omega) (by rw [g4]; rfl) (by decide))
      | 1, g4, g5 =>
        cases g5
        refine rt_catch (ci := 8) (cX := REIS) (F := FEIS) (N := 0) C [(0, 9, 12, 21)] (0, 9, 15, 15) [] rfl g7 (by decide) rfl ⟨by decide, by decide⟩ (by decide) hl_8 hs_8 (by
          intro q hq
          simp only [List.mem_cons, List.not_mem_nil, or_false] at hq
          subst hq
          exact ⟨⟨by decide, by decide⟩, by decide, _, hl_9, by decide +kernel⟩) ?_
        refine r_astore_n (ls' := [(3, _), (0, _), (1, _), (2, _)]) C d_Lw_cancel_15 rfl (by decide) rfl ?_
        refine r_iconst C d_Lw_cancel_16 rfl ?_
        exact r_ireturn C d_Lw_cancel_17 rfl (cH.er (q := 2) g1 g2 g3 (by omega) (by omega) (by rw [g4]; rfl) (by decide))
      | n + 2, g4, g5 => cases g5
set_option maxRecDepth 20000 in
theorem m_Lw_job {G : fxG} (d : Nat) {A : Ad} {S : Ms} {w : fxW} (h : Rc G A S w) (hI : Inv3 S) (hd1 : 13 ≤ d) {o : Nat} (ho : fxk w o = some (100, 1)) (a0 : Int) (a1 : Int) (z0 : zok a0) (z1 : zok a1) (t9 : fxt w + (4 * (Lam S).toNat + 3) ≤ fxmt G) (t8 : fxu w + (1818 * (Lam S).toNat + 919) ≤ fxmu G) : fxM G d y_Lw_job [.ref (A 0 0), zi a0, zi a1, .ref o] w (cH G A S w o (Int32.ofInt (mJob S a0 a1).1).toInt64 (mJob S a0 a1).2) := by
  refine fxM.of cc_Lw_job 5 (some .int) [(0, 10, 13, 21), (0, 10, 17, 13)] (by decide +kernel) w_Lw_job (Nat.le_of_ble_eq_true rfl) ?_
  intro x C ht hu
  have gd := gd_job hI a0 a1
  have nn := (Lam.nn hI).1
  have nn2 := (Lam.nn gd.1).1
  have np := hI.1.1.nn.2
  have lp : Ph S ≤ Lam S := by have := hI.1.1.1.2.2.1.2; unfold Lam; omega
  have gd2 := gd.2.2
  have hM := m_FP_job 12 h hI.1.1.1 (by omega) a0 a1 z0 z1 (by omega) (by omega)
  generalize hMM : mJob S a0 a1 = MM at hM gd gd2 nn2 ⊢
  show fxR G 5 x _ w 0 [(0, .ref (A 0 0)), (1, zi a0), (2, zi a1), (3, .ref o)] []
  refine r_aload_n C d_Lw_job_0 rfl rfl ?_
  refine r_iconst C d_Lw_job_1 rfl ?_
  refine r_aload_n C d_Lw_job_2 rfl rfl ?_
  refine r_iload_n C d_Lw_job_3 rfl rfl ?_
  refine r_iload_n C d_Lw_job_4 rfl rfl ?_
  refine c_Lw_49 C d_Lw_job_5 h.p0 hM (by omega) (Nat.le_of_ble_eq_true rfl) ?_ ?_
  · rintro v' w1 ⟨A1, g1, g2, g3, ⟨g4, g5⟩ | ⟨q, ci, a, g4, g5, g6, g7⟩⟩
    · cases g5
      have ho1 : fxk w1 o = some (100, 1) := g3.km _ _ ho
      show fxR G 5 x _ w1 8 [(0, .ref (A 0 0)), (1, zi a0), (2, zi a1), (3, .ref o)] [zi MM.1, zi 0, .ref o]
      refine r_i2l C d_Lw_job_8 rfl ?_
      refine zr_lastore (t := 0) (k := 0) C d_Lw_job_9 (by decide) rfl ho1 rfl (by decide) (by decide) ?_
      refine r_goto (tgt := 21) C d_Lw_job_10 (by decide) ?_
      refine r_iconst C d_Lw_job_21 rfl ?_
      exact r_ireturn C d_Lw_job_22 rfl (cH.ok g1 g2 g3 (by omega) (by omega) g4 ho1)
    · cases g6
  · rintro a w1 ⟨A1, g1, g2, g3, ⟨g4, g5⟩ | ⟨q, ci, a', g4, g5, g6, g7⟩⟩
    · cases g5
    · cases g6
      match q, g4, g5 with
      | 0, g4, g5 =>
        cases g5
        refine rt_catch (ci := 9) (cX := RENS) (F := FENS) (N := 0) C [] (0, 10, 13, 21) [(0, 10, 17, 13)] rfl g7 (by decide) rfl ⟨by decide, by decide⟩ (by decide) hl_9 hs_9 (fun q hq => by cases hq) ?_
        refine r_astore (ls' := [(4, _), (0, _), (1, _), (2, _), (3, _)]) C d_Lw_job_13 (by decide) rfl ?_
        refine r_iconst C d_Lw_job_15 rfl ?_
        exact r_ireturn C d_Lw_job_16 rfl (cH.er (q := 1) g1 g2 g3 (by omega) (by omega) (by rw [g4]; rfl) (by decide))
      | 1, g4, g5 =>
        cases g5
        refine rt_catch (ci := 7) (cX := REIA) (F := FEIA) (N := 0) C [(0, 10, 13, 21)] (0, 10, 17, 13) [] rfl g7 (by decide) rfl ⟨by decide, by decide⟩ (by decide) hl_7 hs_7 (by
          intro q hq
          simp only [List.mem_cons, List.not_mem_nil, or_false] at hq
          subst hq
          exact ⟨⟨by decide, by decide⟩, by decide, _, hl_9, by decide +kernel⟩) ?_
        refine r_astore (ls' := [(4, _), (0, _), (1, _), (2, _), (3, _)]) C d_Lw_job_17 (by decide) rfl ?_
        refine r_iconst C d_Lw_job_19 rfl ?_
        exact r_ireturn C d_Lw_job_20 rfl (cH.er (q := 2) g1 g2 g3 (by omega) (by omega) (by rw [g4]; rfl) (by decide))
      | n + 2, g4, g5 => cases g5
set_option maxRecDepth 20000 in
theorem m_Lw_task {G : fxG} (d : Nat) {A : Ad} {S : Ms} {w : fxW} (h : Rc G A S w) (hI : Inv3 S) (hd1 : 13 ≤ d) {o : Nat} (ho : fxk w o = some (100, 1)) (a0 : Int) (a1 : Int) (a2 : Int) (z0 : zok a0) (z1 : zok a1) (z2 : zok a2) (t9 : fxt w + (4 * (Lam S).toNat + 3) ≤ fxmt G) (t8 : fxu w + (1818 * (Lam S).toNat + 919) ≤ fxmu G) : fxM G d y_Lw_task [.ref (A 0 0), zi a0, zi a1, zi a2, .ref o] w (cH G A S w o (Int32.ofInt (mTask S a0 a1 a2).1).toInt64 (mTask S a0 a1 a2).2) := by
  refine fxM.of cc_Lw_task 6 (some .int) [(0, 12, 15, 21), (0, 12, 19, 13)] (by decide +kernel) w_Lw_task (Nat.le_of_ble_eq_true rfl) ?_
  intro x C ht hu
  have gd := gd_task hI a0 a1 a2
  have nn := (Lam.nn hI).1
  have nn2 := (Lam.nn gd.1).1
  have np := hI.1.1.nn.2
  have lp : Ph S ≤ Lam S := by have := hI.1.1.1.2.2.1.2; unfold Lam; omega
  have gd2 := gd.2.2
  have hM := m_FP_task 12 h hI.1.1.1 (by omega) a0 a1 a2 z0 z1 z2 (by omega) (by omega)
  generalize hMM : mTask S a0 a1 a2 = MM at hM gd gd2 nn2 ⊢
  show fxR G 6 x _ w 0 [(0, .ref (A 0 0)), (1, zi a0), (2, zi a1), (3, zi a2), (4, .ref o)] []
  refine r_aload C d_Lw_task_0 rfl ?_
  refine r_iconst C d_Lw_task_2 rfl ?_
  refine r_aload_n C d_Lw_task_3 rfl rfl ?_
  refine r_iload_n C d_Lw_task_4 rfl rfl ?_
  refine r_iload_n C d_Lw_task_5 rfl rfl ?_
  refine r_iload_n C d_Lw_task_6 rfl rfl ?_
  refine c_Lw_53 C d_Lw_task_7 h.p0 hM (by omega) (Nat.le_of_ble_eq_true rfl) ?_ ?_
  · rintro v' w1 ⟨A1, g1, g2, g3, ⟨g4, g5⟩ | ⟨q, ci, a, g4, g5, g6, g7⟩⟩
    · cases g5
      have ho1 : fxk w1 o = some (100, 1) := g3.km _ _ ho
      show fxR G 6 x _ w1 10 [(0, .ref (A 0 0)), (1, zi a0), (2, zi a1), (3, zi a2), (4, .ref o)] [zi MM.1, zi 0, .ref o]
      refine r_i2l C d_Lw_task_10 rfl ?_
      refine zr_lastore (t := 0) (k := 0) C d_Lw_task_11 (by decide) rfl ho1 rfl (by decide) (by decide) ?_
      refine r_goto (tgt := 23) C d_Lw_task_12 (by decide) ?_
      refine r_iconst C d_Lw_task_23 rfl ?_
      exact r_ireturn C d_Lw_task_24 rfl (cH.ok g1 g2 g3 (by omega) (by omega) g4 ho1)
    · cases g6
  · rintro a w1 ⟨A1, g1, g2, g3, ⟨g4, g5⟩ | ⟨q, ci, a', g4, g5, g6, g7⟩⟩
    · cases g5
    · cases g6
      match q, g4, g5 with
      | 0, g4, g5 =>
        cases g5
        refine rt_catch (ci := 9) (cX := RENS) (F := FENS) (N := 0) C [] (0, 12, 15, 21) [(0, 12, 19, 13)] rfl g7 (by decide) rfl ⟨by decide, by decide⟩ (by decide) hl_9 hs_9 (fun q hq => by cases hq) ?_
        refine r_astore (ls' := [(5, _), (0, _), (1, _), (2, _), (3, _), (4, _)]) C d_Lw_task_15 (by decide) rfl ?_
        refine r_iconst C d_Lw_task_17 rfl ?_
        exact r_ireturn C d_Lw_task_18 rfl (cH.er (q := 1) g1 g2 g3 (by omega) (by omega) (by rw [g4]; rfl) (by decide))
      | 1, g4, g5 =>
        cases g5
        refine rt_catch (ci := 7) (cX := REIA) (F := FEIA) (N := 0) C [(0, 12, 15, 21)] (0, 12, 19, 13) [] rfl g7 (by decide) rfl ⟨by decide, by decide⟩ (by decide) hl_7 hs_7 (by
          intro q hq
          simp only [List.mem_cons, List.not_mem_nil, or_false] at hq
          subst hq
          exact ⟨⟨by decide, by decide⟩, by decide, _, hl_9, by decide +kernel⟩) ?_
        refine r_astore (ls' := [(5, _), (0, _), (1, _), (2, _), (3, _), (4, _)]) C d_Lw_task_19 (by decide) rfl ?_
        refine r_iconst C d_Lw_task_21 rfl ?_
        exact r_ireturn C d_Lw_task_22 rfl (cH.er (q := 2) g1 g2 g3 (by omega) (by omega) (by rw [g4]; rfl) (by decide))
      | n + 2, g4, g5 => cases g5
set_option maxRecDepth 20000 in
theorem m_Lw_worker {G : fxG} (d : Nat) {A : Ad} {S : Ms} {w : fxW} (h : Rc G A S w) (hI : Inv3 S) (hd1 : 13 ≤ d) {o : Nat} (ho : fxk w o = some (100, 1)) (a0 : Int) (a1 : Int) (z0 : zok a0) (z1 : zok a1) (t9 : fxt w + (4 * (Lam S).toNat + 3) ≤ fxmt G) (t8 : fxu w + (1818 * (Lam S).toNat + 919) ≤ fxmu G) : fxM G d y_Lw_worker [.ref (A 0 0), zi a0, zi a1, .ref o] w (cH G A S w o (Int32.ofInt (mWorker S a0 a1).1).toInt64 (mWorker S a0 a1).2) := by
  refine fxM.of cc_Lw_worker 5 (some .int) [(0, 10, 13, 21), (0, 10, 17, 13)] (by decide +kernel) w_Lw_worker (Nat.le_of_ble_eq_true rfl) ?_
  intro x C ht hu
  have gd := gd_worker hI a0 a1
  have nn := (Lam.nn hI).1
  have nn2 := (Lam.nn gd.1).1
  have np := hI.1.1.nn.2
  have lp : Ph S ≤ Lam S := by have := hI.1.1.1.2.2.1.2; unfold Lam; omega
  have gd2 := gd.2.2
  have hM := m_FP_worker 12 h hI.1.1.1 (by omega) a0 a1 z0 z1 (by omega) (by omega)
  generalize hMM : mWorker S a0 a1 = MM at hM gd gd2 nn2 ⊢
  show fxR G 5 x _ w 0 [(0, .ref (A 0 0)), (1, zi a0), (2, zi a1), (3, .ref o)] []
  refine r_aload_n C d_Lw_worker_0 rfl rfl ?_
  refine r_iconst C d_Lw_worker_1 rfl ?_
  refine r_aload_n C d_Lw_worker_2 rfl rfl ?_
  refine r_iload_n C d_Lw_worker_3 rfl rfl ?_
  refine r_iload_n C d_Lw_worker_4 rfl rfl ?_
  refine c_Lw_56 C d_Lw_worker_5 h.p0 hM (by omega) (Nat.le_of_ble_eq_true rfl) ?_ ?_
  · rintro v' w1 ⟨A1, g1, g2, g3, ⟨g4, g5⟩ | ⟨q, ci, a, g4, g5, g6, g7⟩⟩
    · cases g5
      have ho1 : fxk w1 o = some (100, 1) := g3.km _ _ ho
      show fxR G 5 x _ w1 8 [(0, .ref (A 0 0)), (1, zi a0), (2, zi a1), (3, .ref o)] [zi MM.1, zi 0, .ref o]
      refine r_i2l C d_Lw_worker_8 rfl ?_
      refine zr_lastore (t := 0) (k := 0) C d_Lw_worker_9 (by decide) rfl ho1 rfl (by decide) (by decide) ?_
      refine r_goto (tgt := 21) C d_Lw_worker_10 (by decide) ?_
      refine r_iconst C d_Lw_worker_21 rfl ?_
      exact r_ireturn C d_Lw_worker_22 rfl (cH.ok g1 g2 g3 (by omega) (by omega) g4 ho1)
    · cases g6
  · rintro a w1 ⟨A1, g1, g2, g3, ⟨g4, g5⟩ | ⟨q, ci, a', g4, g5, g6, g7⟩⟩
    · cases g5
    · cases g6
      match q, g4, g5 with
      | 0, g4, g5 =>
        cases g5
        refine rt_catch (ci := 9) (cX := RENS) (F := FENS) (N := 0) C [] (0, 10, 13, 21) [(0, 10, 17, 13)] rfl g7 (by decide) rfl ⟨by decide, by decide⟩ (by decide) hl_9 hs_9 (fun q hq => by cases hq) ?_
        refine r_astore (ls' := [(4, _), (0, _), (1, _), (2, _), (3, _)]) C d_Lw_worker_13 (by decide) rfl ?_
        refine r_iconst C d_Lw_worker_15 rfl ?_
        exact r_ireturn C d_Lw_worker_16 rfl (cH.er (q := 1) g1 g2 g3 (by omega) (by omega) (by rw [g4]; rfl) (by decide))
      | 1, g4, g5 =>
        cases g5
        refine rt_catch (ci := 7) (cX := REIA) (F := FEIA) (N := 0) C [(0, 10, 13, 21)] (0, 10, 17, 13) [] rfl g7 (by decide) rfl ⟨by decide, by decide⟩ (by decide) hl_7 hs_7 (by
          intro q hq
          simp only [List.mem_cons, List.not_mem_nil, or_false] at hq
          subst hq
          exact ⟨⟨by decide, by decide⟩, by decide, _, hl_9, by decide +kernel⟩) ?_
        refine r_astore (ls' := [(4, _), (0, _), (1, _), (2, _), (3, _)]) C d_Lw_worker_17 (by decide) rfl ?_
        refine r_iconst C d_Lw_worker_19 rfl ?_
        exact r_ireturn C d_Lw_worker_20 rfl (cH.er (q := 2) g1 g2 g3 (by omega) (by omega) (by rw [g4]; rfl) (by decide))
      | n + 2, g4, g5 => cases g5
set_option maxRecDepth 20000 in
theorem m_Lw_grain {G : fxG} (d : Nat) {A : Ad} {S : Ms} {w : fxW} (h : Rc G A S w) (hI : Inv3 S) (hd1 : 13 ≤ d) {o : Nat} (ho : fxk w o = some (100, 1)) (a0 : Int) (z0 : zok a0) (t9 : fxt w + (4 * (Lam S).toNat + 3) ≤ fxmt G) (t8 : fxu w + (1818 * (Lam S).toNat + 919) ≤ fxmu G) : fxM G d y_Lw_grain [.ref (A 0 0), zi a0, .ref o] w (cH G A S w o (Int32.ofInt (mGrain S a0).1).toInt64 (mGrain S a0).2) := by
  refine fxM.of cc_Lw_grain 4 (some .int) [(0, 9, 12, 13)] (by decide +kernel) w_Lw_grain (Nat.le_of_ble_eq_true rfl) ?_
  intro x C ht hu
  have gd := gd_grain hI a0
  have nn := (Lam.nn hI).1
  have nn2 := (Lam.nn gd.1).1
  have np := hI.1.1.nn.2
  have lp : Ph S ≤ Lam S := by have := hI.1.1.1.2.2.1.2; unfold Lam; omega
  have gd2 := gd.2.2
  have hM := m_FP_grain 12 h (by omega) a0 z0 (by omega) (by omega)
  generalize hMM : mGrain S a0 = MM at hM gd gd2 nn2 ⊢
  show fxR G 4 x _ w 0 [(0, .ref (A 0 0)), (1, zi a0), (2, .ref o)] []
  refine r_aload_n C d_Lw_grain_0 rfl rfl ?_
  refine r_iconst C d_Lw_grain_1 rfl ?_
  refine r_aload_n C d_Lw_grain_2 rfl rfl ?_
  refine r_iload_n C d_Lw_grain_3 rfl rfl ?_
  refine c_Lw_59 C d_Lw_grain_4 h.p0 hM (by omega) (Nat.le_of_ble_eq_true rfl) ?_ ?_
  · rintro v' w1 ⟨A1, g1, g2, g3, ⟨g4, g5⟩ | ⟨q, ci, a, g4, g5, g6, g7⟩⟩
    · cases g5
      have ho1 : fxk w1 o = some (100, 1) := g3.km _ _ ho
      show fxR G 4 x _ w1 7 [(0, .ref (A 0 0)), (1, zi a0), (2, .ref o)] [zi MM.1, zi 0, .ref o]
      refine r_i2l C d_Lw_grain_7 rfl ?_
      refine zr_lastore (t := 0) (k := 0) C d_Lw_grain_8 (by decide) rfl ho1 rfl (by decide) (by decide) ?_
      refine r_goto (tgt := 15) C d_Lw_grain_9 (by decide) ?_
      refine r_iconst C d_Lw_grain_15 rfl ?_
      exact r_ireturn C d_Lw_grain_16 rfl (cH.ok g1 g2 g3 (by omega) (by omega) g4 ho1)
    · cases g6
  · rintro a w1 ⟨A1, g1, g2, g3, ⟨g4, g5⟩ | ⟨q, ci, a', g4, g5, g6, g7⟩⟩
    · cases g5
    · cases g6
      match q, g4, g5 with
      | 0, g4, g5 =>
        cases g5
        refine rt_catch (ci := 7) (cX := REIA) (F := FEIA) (N := 0) C [] (0, 9, 12, 13) [] rfl g7 (by decide) rfl ⟨by decide, by decide⟩ (by decide) hl_7 hs_7 (fun q hq => by cases hq) ?_
        refine r_astore_n (ls' := [(3, _), (0, _), (1, _), (2, _)]) C d_Lw_grain_12 rfl (by decide) rfl ?_
        refine r_iconst C d_Lw_grain_13 rfl ?_
        exact r_ireturn C d_Lw_grain_14 rfl (cH.er (q := 1) g1 g2 g3 (by omega) (by omega) (by rw [g4]; rfl) (by decide))
      | n + 1, g4, g5 => cases g5
set_option maxRecDepth 20000 in
theorem m_Lw_count {G : fxG} (d : Nat) {A : Ad} {S : Ms} {w : fxW} (h : Rc G A S w) (hI : Inv3 S) (hd1 : 13 ≤ d) {o : Nat} (ho : fxk w o = some (100, 1)) (a0 : Int) (z0 : zok a0) (t9 : fxt w + (4 * (Lam S).toNat + 3) ≤ fxmt G) (t8 : fxu w + (1818 * (Lam S).toNat + 919) ≤ fxmu G) : fxM G d y_Lw_count [.ref (A 0 0), zi a0, .ref o] w (cH G A S w o (Int32.ofInt (mCount S a0).1).toInt64 (mCount S a0).2) := by
  refine fxM.of cc_Lw_count 4 (some .int) [(0, 9, 12, 13)] (by decide +kernel) w_Lw_count (Nat.le_of_ble_eq_true rfl) ?_
  intro x C ht hu
  have gd := gd_count hI a0
  have nn := (Lam.nn hI).1
  have nn2 := (Lam.nn gd.1).1
  have np := hI.1.1.nn.2
  have lp : Ph S ≤ Lam S := by have := hI.1.1.1.2.2.1.2; unfold Lam; omega
  have gd2 := gd.2.2
  have hM := m_FP_count 12 h hI.1.1.1 (by omega) a0 z0 (by omega) (by omega)
  generalize hMM : mCount S a0 = MM at hM gd gd2 nn2 ⊢
  show fxR G 4 x _ w 0 [(0, .ref (A 0 0)), (1, zi a0), (2, .ref o)] []
  refine r_aload_n C d_Lw_count_0 rfl rfl ?_
  refine r_iconst C d_Lw_count_1 rfl ?_
  refine r_aload_n C d_Lw_count_2 rfl rfl ?_
  refine r_iload_n C d_Lw_count_3 rfl rfl ?_
  refine c_Lw_62 C d_Lw_count_4 h.p0 hM (by omega) (Nat.le_of_ble_eq_true rfl) ?_ ?_
  · rintro v' w1 ⟨A1, g1, g2, g3, ⟨g4, g5⟩ | ⟨q, ci, a, g4, g5, g6, g7⟩⟩
    · cases g5
      have ho1 : fxk w1 o = some (100, 1) := g3.km _ _ ho
      show fxR G 4 x _ w1 7 [(0, .ref (A 0 0)), (1, zi a0), (2, .ref o)] [zi MM.1, zi 0, .ref o]
      refine r_i2l C d_Lw_count_7 rfl ?_
      refine zr_lastore (t := 0) (k := 0) C d_Lw_count_8 (by decide) rfl ho1 rfl (by decide) (by decide) ?_
      refine r_goto (tgt := 15) C d_Lw_count_9 (by decide) ?_
      refine r_iconst C d_Lw_count_15 rfl ?_
      exact r_ireturn C d_Lw_count_16 rfl (cH.ok g1 g2 g3 (by omega) (by omega) g4 ho1)
    · cases g6
  · rintro a w1 ⟨A1, g1, g2, g3, ⟨g4, g5⟩ | ⟨q, ci, a', g4, g5, g6, g7⟩⟩
    · cases g5
    · cases g6
      match q, g4, g5 with
      | 0, g4, g5 =>
        cases g5
        refine rt_catch (ci := 7) (cX := REIA) (F := FEIA) (N := 0) C [] (0, 9, 12, 13) [] rfl g7 (by decide) rfl ⟨by decide, by decide⟩ (by decide) hl_7 hs_7 (fun q hq => by cases hq) ?_
        refine r_astore_n (ls' := [(3, _), (0, _), (1, _), (2, _)]) C d_Lw_count_12 rfl (by decide) rfl ?_
        refine r_iconst C d_Lw_count_13 rfl ?_
        exact r_ireturn C d_Lw_count_14 rfl (cH.er (q := 1) g1 g2 g3 (by omega) (by omega) (by rw [g4]; rfl) (by decide))
      | n + 1, g4, g5 => cases g5

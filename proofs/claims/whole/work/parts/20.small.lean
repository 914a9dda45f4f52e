/-! SMALL METHODS: Math, isWithin, in, kept -/
set_option maxRecDepth 20000 in
theorem m_minL {G : fxG} (d : Nat) (w : fxW) (a b : Int64) : fxM G d y_Ma_minL [.long a, .long b] w (fxPure (.long (if b < a then b else a)) w) := by
  refine fxM.of cc_Ma_minL 4 (some .long) [] (by decide +kernel) w_Ma_minL (Nat.le_of_ble_eq_true rfl) ?_
  intro x C ht hu
  show fxR G 4 x _ w 0 [(0, .long a), (2, .long b)] []
  refine r_lload_n C d_Ma_minL_0 rfl rfl ?_
  refine r_lload_n C d_Ma_minL_1 rfl rfl ?_
  refine zr_lif_gt (tgt := 10) C d_Ma_minL_2 d_Ma_minL_3 (by decide) (fun c_2 => ?_) (fun c_2 => ?_)
  · refine r_lload_n C d_Ma_minL_10 rfl rfl ?_
    exact r_lreturn C d_Ma_minL_11 rfl ⟨by rw [if_pos c_2], rfl⟩
  · refine r_lload_n C d_Ma_minL_6 rfl rfl ?_
    refine r_goto (tgt := 11) C d_Ma_minL_7 (by decide) ?_
    exact r_lreturn C d_Ma_minL_11 rfl ⟨by rw [if_neg c_2], rfl⟩
set_option maxRecDepth 20000 in
theorem m_maxL {G : fxG} (d : Nat) (w : fxW) (a b : Int64) : fxM G d y_Ma_maxL [.long a, .long b] w (fxPure (.long (if a < b then b else a)) w) := by
  refine fxM.of cc_Ma_maxL 4 (some .long) [] (by decide +kernel) w_Ma_maxL (Nat.le_of_ble_eq_true rfl) ?_
  intro x C ht hu
  show fxR G 4 x _ w 0 [(0, .long a), (2, .long b)] []
  refine r_lload_n C d_Ma_maxL_0 rfl rfl ?_
  refine r_lload_n C d_Ma_maxL_1 rfl rfl ?_
  refine zr_lif_lt (tgt := 10) C d_Ma_maxL_2 d_Ma_maxL_3 (by decide) (fun c_2 => ?_) (fun c_2 => ?_)
  · refine r_lload_n C d_Ma_maxL_10 rfl rfl ?_
    exact r_lreturn C d_Ma_maxL_11 rfl ⟨by rw [if_pos c_2], rfl⟩
  · refine r_lload_n C d_Ma_maxL_6 rfl rfl ?_
    refine r_goto (tgt := 11) C d_Ma_maxL_7 (by decide) ?_
    exact r_lreturn C d_Ma_maxL_11 rfl ⟨by rw [if_neg c_2], rfl⟩
set_option maxRecDepth 20000 in
theorem m_minI {G : fxG} (d : Nat) (w : fxW) (a b : Int) (ha : zok a) (hb : zok b) : fxM G d y_Ma_minI [zi a, zi b] w (fxPure (zi (if b < a then b else a)) w) := by
  refine fxM.of cc_Ma_minI 2 (some .int) [] (by decide +kernel) w_Ma_minI (Nat.le_of_ble_eq_true rfl) ?_
  intro x C ht hu
  show fxR G 2 x _ w 0 [(0, zi a), (1, zi b)] []
  refine r_iload_n C d_Ma_minI_0 rfl rfl ?_
  refine r_iload_n C d_Ma_minI_1 rfl rfl ?_
  refine zr_icmp_gt (tgt := 9) C d_Ma_minI_2 (by decide) ha hb (fun c_2 => ?_) (fun c_2 => ?_)
  · refine r_iload_n C d_Ma_minI_9 rfl rfl ?_
    exact r_ireturn C d_Ma_minI_10 rfl ⟨by rw [if_pos c_2], rfl⟩
  · refine r_iload_n C d_Ma_minI_5 rfl rfl ?_
    refine r_goto (tgt := 10) C d_Ma_minI_6 (by decide) ?_
    exact r_ireturn C d_Ma_minI_10 rfl ⟨by rw [if_neg c_2], rfl⟩
set_option maxRecDepth 20000 in
theorem m_maxI {G : fxG} (d : Nat) (w : fxW) (a b : Int) (ha : zok a) (hb : zok b) : fxM G d y_Ma_maxI [zi a, zi b] w (fxPure (zi (if a < b then b else a)) w) := by
  refine fxM.of cc_Ma_maxI 2 (some .int) [] (by decide +kernel) w_Ma_maxI (Nat.le_of_ble_eq_true rfl) ?_
  intro x C ht hu
  show fxR G 2 x _ w 0 [(0, zi a), (1, zi b)] []
  refine r_iload_n C d_Ma_maxI_0 rfl rfl ?_
  refine r_iload_n C d_Ma_maxI_1 rfl rfl ?_
  refine zr_icmp_lt (tgt := 9) C d_Ma_maxI_2 (by decide) ha hb (fun c_2 => ?_) (fun c_2 => ?_)
  · refine r_iload_n C d_Ma_maxI_9 rfl rfl ?_
    exact r_ireturn C d_Ma_maxI_10 rfl ⟨by rw [if_pos c_2], rfl⟩
  · refine r_iload_n C d_Ma_maxI_5 rfl rfl ?_
    refine r_goto (tgt := 10) C d_Ma_maxI_6 (by decide) ?_
    exact r_ireturn C d_Ma_maxI_10 rfl ⟨by rw [if_neg c_2], rfl⟩
/-- floorDiv as the machine does it -/
def fdivF (a b : Int64) : Int64 := if 0 ≤ a ^^^ b then a / b else if a / b * b = a then a / b else a / b - 1
set_option maxRecDepth 20000 in
theorem m_floorDiv {G : fxG} (d : Nat) (w : fxW) (a b : Int64) (hb : ¬ b = 0) : fxM G d y_Ma_floorDiv [.long a, .long b] w (fxPure (.long (fdivF a b)) w) := by
  refine fxM.of cc_Ma_floorDiv 6 (some .long) [] (by decide +kernel) w_Ma_floorDiv (Nat.le_of_ble_eq_true rfl) ?_
  intro x C ht hu
  show fxR G 6 x _ w 0 [(0, .long a), (2, .long b)] []
  refine r_lload_n C d_Ma_floorDiv_0 rfl rfl ?_
  refine r_lload_n C d_Ma_floorDiv_1 rfl rfl ?_
  refine r_ldiv C d_Ma_floorDiv_2 hb ?_
  refine r_lstore (ls' := [(4, _), (0, _), (2, _)]) C d_Ma_floorDiv_3 (by decide) rfl ?_
  refine r_lload_n C d_Ma_floorDiv_5 rfl rfl ?_
  refine r_lload_n C d_Ma_floorDiv_6 rfl rfl ?_
  refine r_lxor C d_Ma_floorDiv_7 ?_
  refine r_lconst (v := 0) C d_Ma_floorDiv_8 (by decide) ?_
  refine zr_lif_ge (tgt := 27) C d_Ma_floorDiv_9 d_Ma_floorDiv_10 (by decide) (fun c_9 => ?_) (fun c_9 => ?_)
  · refine r_lload C d_Ma_floorDiv_27 rfl ?_
    exact r_lreturn C d_Ma_floorDiv_29 rfl ⟨by rw [fdivF, if_pos c_9], rfl⟩
  · refine r_lload C d_Ma_floorDiv_13 rfl ?_
    refine r_lload_n C d_Ma_floorDiv_15 rfl rfl ?_
    refine r_lmul C d_Ma_floorDiv_16 ?_
    refine r_lload_n C d_Ma_floorDiv_17 rfl rfl ?_
    refine zr_lif_eq (tgt := 27) C d_Ma_floorDiv_18 d_Ma_floorDiv_19 (by decide) (fun c_18 => ?_) (fun c_18 => ?_)
    · refine r_lload C d_Ma_floorDiv_27 rfl ?_
      exact r_lreturn C d_Ma_floorDiv_29 rfl ⟨by rw [fdivF, if_neg c_9, if_pos c_18], rfl⟩
    · refine r_lload C d_Ma_floorDiv_22 rfl ?_
      refine r_lconst (v := 1) C d_Ma_floorDiv_24 (by decide) ?_
      refine r_lsub C d_Ma_floorDiv_25 ?_
      exact r_lreturn C d_Ma_floorDiv_26 rfl ⟨by rw [fdivF, if_neg c_9, if_neg c_18], rfl⟩
set_option maxRecDepth 20000 in
theorem m_isWithin {G : fxG} (d : Nat) (w : fxW) (v a b : Int) (hv : zok v) (ha : zok a) (hb : zok b) : fxM G d y_FP_isWithin [zi v, zi a, zi b] w (fxPure (zi (bI (a ≤ v ∧ v ≤ b))) w) := by
  refine fxM.of cc_FP_isWithin 3 (some .boolean) [] (by decide +kernel) w_FP_isWithin (Nat.le_of_ble_eq_true rfl) ?_
  intro x C ht hu
  show fxR G 3 x _ w 0 [(0, zi v), (1, zi a), (2, zi b)] []
  refine r_iload_n C d_FP_isWithin_0 rfl rfl ?_
  refine r_iload_n C d_FP_isWithin_1 rfl rfl ?_
  refine zr_icmp_lt (tgt := 14) C d_FP_isWithin_2 (by decide) hv ha (fun c_2 => ?_) (fun c_2 => ?_)
  · refine r_iconst C d_FP_isWithin_14 rfl ?_
    exact zr_zreturn C (Or.inl rfl) d_FP_isWithin_15 ⟨by rw [bI_f (by omega)], rfl⟩
  · refine r_iload_n C d_FP_isWithin_5 rfl rfl ?_
    refine r_iload_n C d_FP_isWithin_6 rfl rfl ?_
    refine zr_icmp_gt (tgt := 14) C d_FP_isWithin_7 (by decide) hv hb (fun c_7 => ?_) (fun c_7 => ?_)
    · refine r_iconst C d_FP_isWithin_14 rfl ?_
      exact zr_zreturn C (Or.inl rfl) d_FP_isWithin_15 ⟨by rw [bI_f (by omega)], rfl⟩
    · refine r_iconst C d_FP_isWithin_10 rfl ?_
      refine r_goto (tgt := 15) C d_FP_isWithin_11 (by decide) ?_
      exact zr_zreturn C (Or.inr rfl) d_FP_isWithin_15 ⟨by rw [bI_t (by omega)], rfl⟩
set_option maxRecDepth 20000 in
theorem m_in {G : fxG} (d : Nat) (w : fxW) (v a b : Int) (hv : zok v) (ha : zok a) (hb : zok b) : fxM G d y_Mo_in [zi v, zi a, zi b] w (fxPure (zi (bI (a ≤ v ∧ v ≤ b))) w) := by
  refine fxM.of cc_Mo_in 3 (some .boolean) [] (by decide +kernel) w_Mo_in (Nat.le_of_ble_eq_true rfl) ?_
  intro x C ht hu
  show fxR G 3 x _ w 0 [(0, zi v), (1, zi a), (2, zi b)] []
  refine r_iload_n C d_Mo_in_0 rfl rfl ?_
  refine r_iload_n C d_Mo_in_1 rfl rfl ?_
  refine zr_icmp_lt (tgt := 14) C d_Mo_in_2 (by decide) hv ha (fun c_2 => ?_) (fun c_2 => ?_)
  · refine r_iconst C d_Mo_in_14 rfl ?_
    exact zr_zreturn C (Or.inl rfl) d_Mo_in_15 ⟨by rw [bI_f (by omega)], rfl⟩
  · refine r_iload_n C d_Mo_in_5 rfl rfl ?_
    refine r_iload_n C d_Mo_in_6 rfl rfl ?_
    refine zr_icmp_gt (tgt := 14) C d_Mo_in_7 (by decide) hv hb (fun c_7 => ?_) (fun c_7 => ?_)
    · refine r_iconst C d_Mo_in_14 rfl ?_
      exact zr_zreturn C (Or.inl rfl) d_Mo_in_15 ⟨by rw [bI_f (by omega)], rfl⟩
    · refine r_iconst C d_Mo_in_10 rfl ?_
      refine r_goto (tgt := 15) C d_Mo_in_11 (by decide) ?_
      exact zr_zreturn C (Or.inr rfl) d_Mo_in_15 ⟨by rw [bI_t (by omega)], rfl⟩
set_option maxRecDepth 20000 in
theorem m_Mo_kept {G : fxG} (d : Nat) (w : fxW) (ty : Int) (v : Int64) (hty : zok ty) (h0 : 0 ≤ ty) : fxM G d y_Mo_kept [zi ty, .long v] w (fxPure (.long (keptF ty v)) w) := by
  refine fxM.of cc_Mo_kept 3 (some .long) [] (by decide +kernel) w_Mo_kept (Nat.le_of_ble_eq_true rfl) ?_
  intro x C ht hu
  show fxR G 3 x _ w 0 [(0, zi ty), (1, .long v)] []
  refine r_iload_n C d_Mo_kept_0 rfl rfl ?_
  by_cases h4 : 3 < ty
  · refine zr_tableOut (tgt := 48) C d_Mo_kept_1 hty (Or.inr h4) (by decide) ?_
    have e : keptF ty v = if v < -524288 then -524288 else if 524288 < v then 524288 else v := by
      unfold keptF; rw [if_neg (by omega), if_neg (by omega), if_neg (by omega), if_neg (by omega)]
    refine r_lload_n C d_Mo_kept_48 rfl rfl ?_
    refine r_ldc2 (v := (-524288)) C d_Mo_kept_49 (fxTW_in 886 (by decide +kernel) rfl) ?_
    refine zr_lif_ge (tgt := 62) C d_Mo_kept_52 d_Mo_kept_53 (by decide) (fun c_52 => ?_) (fun c_52 => ?_)
    · refine r_lload_n C d_Mo_kept_62 rfl rfl ?_
      refine r_ldc2 (v := 524288) C d_Mo_kept_63 (fxTW_in 887 (by decide +kernel) rfl) ?_
      refine zr_lif_le (tgt := 76) C d_Mo_kept_66 d_Mo_kept_67 (by decide) (fun c_66 => ?_) (fun c_66 => ?_)
      · refine r_lload_n C d_Mo_kept_76 rfl rfl ?_
        exact r_lreturn C d_Mo_kept_77 rfl ⟨by rw [e, if_neg (Int64.not_lt.mpr c_52), if_neg (Int64.not_lt.mpr c_66)], rfl⟩
      · refine r_ldc2 (v := 524288) C d_Mo_kept_70 (fxTW_in 887 (by decide +kernel) rfl) ?_
        refine r_goto (tgt := 77) C d_Mo_kept_73 (by decide) ?_
        exact r_lreturn C d_Mo_kept_77 rfl ⟨by rw [e, if_neg (Int64.not_lt.mpr c_52), if_pos (Int64.not_le.mp c_66)], rfl⟩
    · refine r_ldc2 (v := (-524288)) C d_Mo_kept_56 (fxTW_in 886 (by decide +kernel) rfl) ?_
      refine r_goto (tgt := 77) C d_Mo_kept_59 (by decide) ?_
      exact r_lreturn C d_Mo_kept_77 rfl ⟨by rw [e, if_pos (Int64.not_le.mp c_52)], rfl⟩
  · have hc : ty = 0 ∨ ty = 1 ∨ ty = 2 ∨ ty = 3 := by omega
    rcases hc with rfl | rfl | rfl | rfl
    · refine zr_tableIn (tgt := 32) C d_Mo_kept_1 hty (by decide) (by decide) rfl (by decide) ?_
      refine r_lload_n C d_Mo_kept_32 rfl rfl ?_
      refine r_l2i C d_Mo_kept_33 rfl ?_
      refine r_i2b C d_Mo_kept_34 rfl ?_
      refine r_i2l C d_Mo_kept_35 rfl ?_
      exact r_lreturn C d_Mo_kept_36 rfl ⟨rfl, rfl⟩
    · refine zr_tableIn (tgt := 37) C d_Mo_kept_1 hty (by decide) (by decide) rfl (by decide) ?_
      refine r_lload_n C d_Mo_kept_37 rfl rfl ?_
      refine r_l2i C d_Mo_kept_38 rfl ?_
      refine r_i2s C d_Mo_kept_39 rfl ?_
      refine r_i2l C d_Mo_kept_40 rfl ?_
      exact r_lreturn C d_Mo_kept_41 rfl ⟨rfl, rfl⟩
    · refine zr_tableIn (tgt := 42) C d_Mo_kept_1 hty (by decide) (by decide) rfl (by decide) ?_
      refine r_lload_n C d_Mo_kept_42 rfl rfl ?_
      refine r_l2i C d_Mo_kept_43 rfl ?_
      refine r_i2l C d_Mo_kept_44 rfl ?_
      exact r_lreturn C d_Mo_kept_45 rfl ⟨rfl, rfl⟩
    · refine zr_tableIn (tgt := 46) C d_Mo_kept_1 hty (by decide) (by decide) rfl (by decide) ?_
      refine r_lload_n C d_Mo_kept_46 rfl rfl ?_
      exact r_lreturn C d_Mo_kept_47 rfl ⟨rfl, rfl⟩
theorem kept_mm (v : Int64) : (if (-524288 : Int64) < (if v < 524288 then v else 524288) then (if v < 524288 then v else 524288) else -524288) = if v < -524288 then -524288 else if 524288 < v then 524288 else v := by
  simp only [Int64.lt_iff_toInt_lt]
  have e1 : (524288 : Int64).toInt = 524288 := by decide
  have e2 : (-524288 : Int64).toInt = -524288 := by decide
  rw [e1, e2]
  split <;> split <;> split <;> first | rfl | (split <;> first | rfl | (apply Int64.toInt_inj.mp; omega)) | (apply Int64.toInt_inj.mp; omega) | skip
set_option maxRecDepth 20000 in
theorem m_Row_kept {G : fxG} (d : Nat) (w : fxW) (r n : Nat) (ty : Int) (v : Int64) (hd1 : 1 ≤ d) (hr : fxk w r = some (1, n)) (ht0 : fxf w 65 r = zi ty) (hty : zok ty) (h0 : 0 ≤ ty) : fxM G d y_Row_kept [.ref r, .long v] w (fxPure (.long (keptF ty v)) w) := by
  refine fxM.of cc_Row_kept 3 (some .long) [] (by decide +kernel) w_Row_kept (Nat.le_of_ble_eq_true rfl) ?_
  intro x C ht hu
  show fxR G 3 x _ w 0 [(0, .ref r), (1, .long v)] []
  refine r_aload_n C d_Row_kept_0 rfl rfl ?_
  refine g_Row_15 C d_Row_kept_1 hr ht0 ?_
  by_cases h4 : 3 < ty
  · refine zr_tableOut (tgt := 52) C d_Row_kept_4 hty (Or.inr h4) (by decide) ?_
    have e : keptF ty v = if v < -524288 then -524288 else if 524288 < v then 524288 else v := by
      unfold keptF; rw [if_neg (by omega), if_neg (by omega), if_neg (by omega), if_neg (by omega)]
    refine r_ldc2 (v := (-524288)) C d_Row_kept_52 (fxTW_in 316 (by decide +kernel) rfl) ?_
    refine r_ldc2 (v := 524288) C d_Row_kept_55 (fxTW_in 317 (by decide +kernel) rfl) ?_
    refine r_lload_n C d_Row_kept_58 rfl rfl ?_
    refine c_Row_26 C d_Row_kept_59 (m_minL 0 w _ _) (by omega) (by decide) (fxPure.k1 ?_) fxPure.k2
    refine c_Row_32 C d_Row_kept_62 (m_maxL 0 w _ _) (by omega) (by decide) (fxPure.k1 ?_) fxPure.k2
    exact r_lreturn C d_Row_kept_65 rfl ⟨by rw [e]; exact congrArg (fun z => Outcome.returned (some (Value.long z))) (kept_mm v), rfl⟩
  · have hc : ty = 0 ∨ ty = 1 ∨ ty = 2 ∨ ty = 3 := by omega
    rcases hc with rfl | rfl | rfl | rfl
    · refine zr_tableIn (tgt := 36) C d_Row_kept_4 hty (by decide) (by decide) rfl (by decide) ?_
      refine r_lload_n C d_Row_kept_36 rfl rfl ?_
      refine r_l2i C d_Row_kept_37 rfl ?_
      refine r_i2b C d_Row_kept_38 rfl ?_
      refine r_i2l C d_Row_kept_39 rfl ?_
      exact r_lreturn C d_Row_kept_40 rfl ⟨rfl, rfl⟩
    · refine zr_tableIn (tgt := 41) C d_Row_kept_4 hty (by decide) (by decide) rfl (by decide) ?_
      refine r_lload_n C d_Row_kept_41 rfl rfl ?_
      refine r_l2i C d_Row_kept_42 rfl ?_
      refine r_i2s C d_Row_kept_43 rfl ?_
      refine r_i2l C d_Row_kept_44 rfl ?_
      exact r_lreturn C d_Row_kept_45 rfl ⟨rfl, rfl⟩
    · refine zr_tableIn (tgt := 46) C d_Row_kept_4 hty (by decide) (by decide) rfl (by decide) ?_
      refine r_lload_n C d_Row_kept_46 rfl rfl ?_
      refine r_l2i C d_Row_kept_47 rfl ?_
      refine r_i2l C d_Row_kept_48 rfl ?_
      exact r_lreturn C d_Row_kept_49 rfl ⟨rfl, rfl⟩
    · refine zr_tableIn (tgt := 50) C d_Row_kept_4 hty (by decide) (by decide) rfl (by decide) ?_
      refine r_lload_n C d_Row_kept_50 rfl rfl ?_
      exact r_lreturn C d_Row_kept_51 rfl ⟨rfl, rfl⟩

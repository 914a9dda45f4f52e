/-! THE ROWS OF THE POOL -/
/-- the row at r with its elements at e -/
def RowAt (r e : Nat) (ty ln : Int) (g : Nat → Int64) (w : fxW) : Prop := fxk w r = some (1, 0) ∧ fxf w 64 r = .ref e ∧ fxf w 65 r = zi ty ∧ fxf w 66 r = zi ln ∧ fxk w e = some (100, 24) ∧ ∀ k, k < 24 → fxe w 0 e k = .long (g k)
/-- nothing but the elements at e changes -/
def EF (e : Nat) (w w' : fxW) : Prop := fxt w' = fxt w ∧ fxu w' = fxu w ∧ (∀ a, fxk w' a = fxk w a) ∧ (∀ g a, fxf w' g a = fxf w g a) ∧ (∀ t a j, ¬ (t = 0 ∧ a = e) → fxe w' t a j = fxe w t a j)
theorem EF.rf {e : Nat} {w : fxW} : EF e w w := ⟨rfl, rfl, fun _ => rfl, fun _ _ => rfl, fun _ _ _ _ => rfl⟩
theorem EF.tr {e : Nat} {w w' w'' : fxW} (h : EF e w w') (h' : EF e w' w'') : EF e w w'' := ⟨h'.1.trans h.1, h'.2.1.trans h.2.1, fun a => (h'.2.2.1 a).trans (h.2.2.1 a), fun g a => (h'.2.2.2.1 g a).trans (h.2.2.2.1 g a), fun t a j q => (h'.2.2.2.2 t a j q).trans (h.2.2.2.2 t a j q)⟩
theorem EF.ast {e : Nat} {w : fxW} (k : Nat) (v : Value) : EF e w (fx_ast w 0 e k v) := by
  refine ⟨rfl, rfl, fun _ => rfl, fun _ _ => rfl, fun t a j q => ?_⟩
  show (if t = 0 then (if a = e then (if j = k then v else fxe w t a j) else fxe w t a j) else fxe w t a j) = fxe w t a j
  by_cases h : t = 0
  · rw [if_pos h, if_neg (fun z => q ⟨h, z⟩)]
  · rw [if_neg h]
def gU (g : Nat → Int64) (k : Nat) (v : Int64) : Nat → Int64 := fun j => if j = k then v else g j
theorem RowAt.st {r e : Nat} {ty ln : Int} {g : Nat → Int64} {w : fxW} (h : RowAt r e ty ln g w) (k : Nat) (v : Int64) : RowAt r e ty ln (gU g k v) (fx_ast w 0 e k (.long v)) := by
  obtain ⟨h1, h2, h3, h4, h5, h6⟩ := h
  refine ⟨h1, h2, h3, h4, h5, fun j hj => ?_⟩
  show (if (0 : Nat) = 0 then (if e = e then (if j = k then Value.long v else fxe w 0 e j) else fxe w 0 e j) else fxe w 0 e j) = .long (if j = k then v else g j)
  rw [if_pos rfl, if_pos rfl]
  by_cases q : j = k
  · rw [if_pos q, if_pos q]
  · rw [if_neg q, if_neg q]; exact h6 j hj
theorem row_ab {G : fxG} {nL : Nat} {x : fxX} {Q : State → Prop} {pc : Nat} {ls : List (Nat × Value)} {st : List Value} {r e k : Nat} {ty ln : Int} {g : Nat → Int64} {w : fxW} {v : Int64} (hw : RowAt r e ty ln g w) (kk : ∀ w', RowAt r e ty ln (gU g k v) w' → EF e w w' → fxR G nL x Q w' pc ls st) : fxR G nL x Q (fx_ast w 0 e k (.long v)) pc ls st := kk _ (hw.st k v) (EF.ast _ _)
def rowVd (r e : Nat) (ty ln : Int) (w : fxW) (g' : Nat → Int64) : Outcome → fxW → Prop := fun o w' => o = .returned none ∧ RowAt r e ty ln g' w' ∧ EF e w w'
def rowRt (r e : Nat) (ty ln : Int) (w : fxW) (v : Value) (g' : Nat → Int64) : Outcome → fxW → Prop := fun o w' => o = .returned (some v) ∧ RowAt r e ty ln g' w' ∧ EF e w w'
set_option maxRecDepth 20000 in
theorem m_isInEighths {G : fxG} (d : Nat) {w : fxW} {r e : Nat} {ty ln : Int} {g : Nat → Int64} (hw : RowAt r e ty ln g w) (hty : zok ty) : fxM G d y_Row_isInEighths [.ref r] w (fxPure (zi (bI (4 ≤ ty))) w) := by
  refine fxM.of cc_Row_isInEighths 1 (some .boolean) [] (by decide +kernel) w_Row_isInEighths (Nat.le_of_ble_eq_true rfl) ?_
  intro x C ht hu
  show fxR G 1 x _ w 0 [(0, .ref r)] []
  refine r_aload_n C d_Row_isInEighths_0 rfl rfl ?_
  refine g_Row_15 C d_Row_isInEighths_1 hw.1 hw.2.2.1 ?_
  refine r_iconst C d_Row_isInEighths_4 rfl ?_
  refine zr_icmp_lt (tgt := 12) C d_Row_isInEighths_5 (by decide) hty (by unfold zok; omega) (fun c_5 => ?_) (fun c_5 => ?_)
  · refine r_iconst C d_Row_isInEighths_12 rfl ?_
    exact zr_zreturn C (Or.inl rfl) d_Row_isInEighths_13 ⟨by rw [bI_f (by omega)], rfl⟩
  · refine r_iconst C d_Row_isInEighths_8 rfl ?_
    refine r_goto (tgt := 13) C d_Row_isInEighths_9 (by decide) ?_
    exact zr_zreturn C (Or.inr rfl) d_Row_isInEighths_13 ⟨by rw [bI_t (by omega)], rfl⟩
set_option maxRecDepth 20000 in
theorem m_sumOf {G : fxG} (d : Nat) {w : fxW} {r e : Nat} {ty ln : Int} {g : Nat → Int64} (hw : RowAt r e ty ln g w) (hd1 : 2 ≤ d) (hty : zok ty) (h0 : 0 ≤ ty) (lo hi : Nat) (hlh : lo ≤ hi) (hh : hi ≤ 24) : fxM G d y_Row_sumOf [.ref r, zi (lo : Int), zi (hi : Int)] w (fxPure (.long (redF (fun v u => keptF ty (v + u)) g lo (hi - lo) 0)) w) := by
  refine fxM.of cc_Row_sumOf 6 (some .long) [] (by decide +kernel) w_Row_sumOf (Nat.le_of_ble_eq_true rfl) ?_
  intro x C ht hu
  generalize hQ : fxPure (.long (redF (fun v u => keptF ty (v + u)) g lo (hi - lo) 0)) w = QQ
  have loop : ∀ (n k : Nat) (v : Int64), k + n = hi → redF (fun v u => keptF ty (v + u)) g k n v = redF (fun v u => keptF ty (v + u)) g lo (hi - lo) 0 → fxR G 6 x (fxQ G x QQ) w 5 [(5, zi (k : Int)), (3, .long v), (0, .ref r), (1, zi (lo : Int)), (2, zi (hi : Int))] [] := by
    intro n
    induction n with
    | zero =>
      intro k v h1 h2
      refine r_iload C d_Row_sumOf_5 rfl ?_
      refine r_iload_n C d_Row_sumOf_7 rfl rfl ?_
      refine zr_icmp_ge (tgt := 31) C d_Row_sumOf_8 (by decide) (by unfold zok; omega) (by unfold zok; omega) (fun c_8 => ?_) (fun c_8 => ?_)
      · refine r_lload_n C d_Row_sumOf_31 rfl rfl ?_
        rw [← hQ]
        exact r_lreturn C d_Row_sumOf_32 rfl ⟨by rw [← h2]; rfl, rfl⟩
      · exact absurd c_8 (by omega)
    | succ n ih =>
      intro k v h1 h2
      refine r_iload C d_Row_sumOf_5 rfl ?_
      refine r_iload_n C d_Row_sumOf_7 rfl rfl ?_
      refine zr_icmp_ge (tgt := 31) C d_Row_sumOf_8 (by decide) (by unfold zok; omega) (by unfold zok; omega) (fun c_8 => ?_) (fun c_8 => ?_)
      · exact absurd c_8 (by omega)
      · refine r_aload_n C d_Row_sumOf_11 rfl rfl ?_
        refine r_lload_n C d_Row_sumOf_12 rfl rfl ?_
        refine r_aload_n C d_Row_sumOf_13 rfl rfl ?_
        refine g_Row_9 C d_Row_sumOf_14 hw.1 hw.2.1 ?_
        refine r_iload C d_Row_sumOf_17 rfl ?_
        refine zr_laload C d_Row_sumOf_19 (by decide) rfl (t := 0) (k := k) (Or.inl hw.2.2.2.2.1) (by omega) (by omega) (by decide) (hw.2.2.2.2.2 _ (by omega)) ?_
        refine r_ladd C d_Row_sumOf_20 ?_
        refine c_Row_35 C d_Row_sumOf_21 hw.1 (m_Row_kept 1 w r 0 ty _ (by omega) hw.1 hw.2.2.1 hty h0) (by omega) (Nat.le_of_ble_eq_true rfl) (fxPure.k1 ?_) fxPure.k2
        refine r_lstore_n (ls' := [(3, _), (5, _), (0, _), (1, _), (2, _)]) C d_Row_sumOf_24 rfl (by decide) rfl ?_
        refine zr_iinc (ls' := [(5, _), (3, _), (0, _), (1, _), (2, _)]) C d_Row_sumOf_25 rfl (by decide) rfl ?_
        refine r_goto (tgt := 5) C d_Row_sumOf_28 (by decide) ?_
        exact ih (k + 1) _ (by omega) (by rw [← h2]; rfl)
  show fxR G 6 x _ w 0 [(0, .ref r), (1, zi (lo : Int)), (2, zi (hi : Int))] []
  refine r_lconst (v := 0) C d_Row_sumOf_0 (by decide) ?_
  refine r_lstore_n (ls' := [(3, _), (0, _), (1, _), (2, _)]) C d_Row_sumOf_1 rfl (by decide) rfl ?_
  refine r_iload_n C d_Row_sumOf_2 rfl rfl ?_
  refine r_istore (ls' := [(5, _), (3, _), (0, _), (1, _), (2, _)]) C d_Row_sumOf_3 (by decide) rfl ?_
  exact loop (hi - lo) lo 0 (by omega) rfl
set_option maxRecDepth 20000 in
theorem m_greatestOf {G : fxG} (d : Nat) {w : fxW} {r e : Nat} {ty ln : Int} {g : Nat → Int64} (hw : RowAt r e ty ln g w) (hd1 : 1 ≤ d) (lo hi : Nat) (hlh : lo < hi) (hh : hi ≤ 24) : fxM G d y_Row_greatestOf [.ref r, zi (lo : Int), zi (hi : Int)] w (fxPure (.long (redF (fun v u => if v < u then u else v) g (lo + 1) (hi - (lo + 1)) (g lo))) w) := by
  refine fxM.of cc_Row_greatestOf 6 (some .long) [] (by decide +kernel) w_Row_greatestOf (Nat.le_of_ble_eq_true rfl) ?_
  intro x C ht hu
  generalize hQ : fxPure (.long (redF (fun v u => if v < u then u else v) g (lo + 1) (hi - (lo + 1)) (g lo))) w = QQ
  have loop : ∀ (n k : Nat) (v : Int64), k + n = hi → redF (fun v u => if v < u then u else v) g k n v = redF (fun v u => if v < u then u else v) g (lo + 1) (hi - (lo + 1)) (g lo) → fxR G 6 x (fxQ G x QQ) w 12 [(5, zi (k : Int)), (3, .long v), (0, .ref r), (1, zi (lo : Int)), (2, zi (hi : Int))] [] := by
    intro n
    induction n with
    | zero =>
      intro k v h1 h2
      refine r_iload C d_Row_greatestOf_12 rfl ?_
      refine r_iload_n C d_Row_greatestOf_14 rfl rfl ?_
      refine zr_icmp_ge (tgt := 36) C d_Row_greatestOf_15 (by decide) (by unfold zok; omega) (by unfold zok; omega) (fun c_15 => ?_) (fun c_15 => ?_)
      · refine r_lload_n C d_Row_greatestOf_36 rfl rfl ?_
        rw [← hQ]
        exact r_lreturn C d_Row_greatestOf_37 rfl ⟨by rw [← h2]; rfl, rfl⟩
      · exact absurd c_15 (by omega)
    | succ n ih =>
      intro k v h1 h2
      refine r_iload C d_Row_greatestOf_12 rfl ?_
      refine r_iload_n C d_Row_greatestOf_14 rfl rfl ?_
      refine zr_icmp_ge (tgt := 36) C d_Row_greatestOf_15 (by decide) (by unfold zok; omega) (by unfold zok; omega) (fun c_15 => ?_) (fun c_15 => ?_)
      · exact absurd c_15 (by omega)
      · refine r_lload_n C d_Row_greatestOf_18 rfl rfl ?_
        refine r_aload_n C d_Row_greatestOf_19 rfl rfl ?_
        refine g_Row_9 C d_Row_greatestOf_20 hw.1 hw.2.1 ?_
        refine r_iload C d_Row_greatestOf_23 rfl ?_
        refine zr_laload C d_Row_greatestOf_25 (by decide) rfl (t := 0) (k := k) (Or.inl hw.2.2.2.2.1) (by omega) (by omega) (by decide) (hw.2.2.2.2.2 _ (by omega)) ?_
        refine c_Row_32 C d_Row_greatestOf_26 (m_maxL 0 w _ _) (by omega) (Nat.le_of_ble_eq_true rfl) (fxPure.k1 ?_) fxPure.k2
        refine r_lstore_n (ls' := [(3, _), (5, _), (0, _), (1, _), (2, _)]) C d_Row_greatestOf_29 rfl (by decide) rfl ?_
        refine zr_iinc (ls' := [(5, _), (3, _), (0, _), (1, _), (2, _)]) C d_Row_greatestOf_30 rfl (by decide) rfl ?_
        refine r_goto (tgt := 12) C d_Row_greatestOf_33 (by decide) ?_
        exact ih (k + 1) _ (by omega) (by rw [← h2]; rfl)
  show fxR G 6 x _ w 0 [(0, .ref r), (1, zi (lo : Int)), (2, zi (hi : Int))] []
  refine r_aload_n C d_Row_greatestOf_0 rfl rfl ?_
  refine g_Row_9 C d_Row_greatestOf_1 hw.1 hw.2.1 ?_
  refine r_iload_n C d_Row_greatestOf_4 rfl rfl ?_
  refine zr_laload C d_Row_greatestOf_5 (by decide) rfl (t := 0) (k := lo) (Or.inl hw.2.2.2.2.1) (by omega) (by omega) (by decide) (hw.2.2.2.2.2 _ (by omega)) ?_
  refine r_lstore_n (ls' := [(3, _), (0, _), (1, _), (2, _)]) C d_Row_greatestOf_6 rfl (by decide) rfl ?_
  refine r_iload_n C d_Row_greatestOf_7 rfl rfl ?_
  refine r_iconst C d_Row_greatestOf_8 rfl ?_
  refine zr_iadd C d_Row_greatestOf_9 ?_
  refine r_istore (ls' := [(5, _), (3, _), (0, _), (1, _), (2, _)]) C d_Row_greatestOf_10 (by decide) rfl ?_
  exact loop (hi - (lo + 1)) (lo + 1) (g lo) (by omega) rfl
def sprG (ty : Int) : Nat → Nat → Int64 → (Nat → Int64) → (Nat → Int64)
  | _, 0, _, g => g
  | k, n + 1, s, g => sprG ty (k + 1) n (keptF ty (s + g k)) (gU g k (keptF ty (s + g k)))
set_option maxRecDepth 20000 in
theorem m_addUp {G : fxG} (d : Nat) {w : fxW} {r e : Nat} {ty ln : Int} {g : Nat → Int64} (hw : RowAt r e ty ln g w) (hd1 : 2 ≤ d) (hty : zok ty) (h0 : 0 ≤ ty) (lo hi : Nat) (b : Int64) (hlh : lo ≤ hi) (hh : hi ≤ 24) : fxM G d y_Row_addUp [.ref r, zi (lo : Int), zi (hi : Int), .long b] w (rowVd r e ty ln w (sprG ty lo (hi - lo) b g)) := by
  refine fxM.of cc_Row_addUp 8 none [] (by decide +kernel) w_Row_addUp (Nat.le_of_ble_eq_true rfl) ?_
  intro x C ht hu
  generalize hQ : rowVd r e ty ln w (sprG ty lo (hi - lo) b g) = QQ
  have loop : ∀ (n k : Nat) (v : Int64) (g1 : Nat → Int64) (w1 : fxW), k + n = hi → sprG ty k n v g1 = sprG ty lo (hi - lo) b g → RowAt r e ty ln g1 w1 → EF e w w1 → fxR G 8 x (fxQ G x QQ) w1 6 [(7, zi (k : Int)), (5, .long v), (0, .ref r), (1, zi (lo : Int)), (2, zi (hi : Int)), (3, .long b)] [] := by
    intro n
    induction n with
    | zero =>
      intro k v g1 w h1 h2 hw hF
      refine r_iload C d_Row_addUp_6 rfl ?_
      refine r_iload_n C d_Row_addUp_8 rfl rfl ?_
      refine zr_icmp_ge (tgt := 43) C d_Row_addUp_9 (by decide) (by unfold zok; omega) (by unfold zok; omega) (fun c_9 => ?_) (fun c_9 => ?_)
      · rw [← hQ]
        exact r_return C d_Row_addUp_43 rfl ⟨rfl, by rw [← h2]; exact hw, hF⟩
      · exact absurd c_9 (by omega)
    | succ n ih =>
      intro k v g1 w h1 h2 hw hF
      refine r_iload C d_Row_addUp_6 rfl ?_
      refine r_iload_n C d_Row_addUp_8 rfl rfl ?_
      refine zr_icmp_ge (tgt := 43) C d_Row_addUp_9 (by decide) (by unfold zok; omega) (by unfold zok; omega) (fun c_9 => ?_) (fun c_9 => ?_)
      · exact absurd c_9 (by omega)
      · refine r_aload_n C d_Row_addUp_12 rfl rfl ?_
        refine r_lload C d_Row_addUp_13 rfl ?_
        refine r_aload_n C d_Row_addUp_15 rfl rfl ?_
        refine g_Row_9 C d_Row_addUp_16 hw.1 hw.2.1 ?_
        refine r_iload C d_Row_addUp_19 rfl ?_
        refine zr_laload C d_Row_addUp_21 (by decide) rfl (t := 0) (k := k) (Or.inl hw.2.2.2.2.1) (by omega) (by omega) (by decide) (hw.2.2.2.2.2 _ (by omega)) ?_
        refine r_ladd C d_Row_addUp_22 ?_
        refine c_Row_35 C d_Row_addUp_23 hw.1 (m_Row_kept 1 w r 0 ty _ (by omega) hw.1 hw.2.2.1 hty h0) (by omega) (Nat.le_of_ble_eq_true rfl) (fxPure.k1 ?_) fxPure.k2
        refine r_lstore (ls' := [(5, _), (7, _), (0, _), (1, _), (2, _), (3, _)]) C d_Row_addUp_26 (by decide) rfl ?_
        refine r_aload_n C d_Row_addUp_28 rfl rfl ?_
        refine g_Row_9 C d_Row_addUp_29 hw.1 hw.2.1 ?_
        refine r_iload C d_Row_addUp_32 rfl ?_
        refine r_lload C d_Row_addUp_34 rfl ?_
        refine zr_lastore C d_Row_addUp_36 (by decide) rfl (t := 0) (k := k) hw.2.2.2.2.1 (by omega) (by omega) (by decide) ?_
        refine row_ab hw (fun w hw hF9 => ?_)
        refine zr_iinc (ls' := [(7, _), (5, _), (0, _), (1, _), (2, _), (3, _)]) C d_Row_addUp_37 rfl (by decide) rfl ?_
        refine r_goto (tgt := 6) C d_Row_addUp_40 (by decide) ?_
        exact fx_sub (ls' := [(7, zi ((k + 1 : Nat) : Int)), (5, .long (keptF ty (v + g1 k))), (0, .ref r), (1, zi (lo : Int)), (2, zi (hi : Int)), (3, .long b)]) (by simp [fxL]) (ih (k + 1) _ _ w (by omega) (by rw [← h2]; rfl) hw (hF.tr hF9))
  show fxR G 8 x _ w 0 [(0, .ref r), (1, zi (lo : Int)), (2, zi (hi : Int)), (3, .long b)] []
  refine r_lload_n C d_Row_addUp_0 rfl rfl ?_
  refine r_lstore (ls' := [(5, _), (0, _), (1, _), (2, _), (3, _)]) C d_Row_addUp_1 (by decide) rfl ?_
  refine r_iload_n C d_Row_addUp_3 rfl rfl ?_
  refine r_istore (ls' := [(7, _), (5, _), (0, _), (1, _), (2, _), (3, _)]) C d_Row_addUp_4 (by decide) rfl ?_
  exact loop (hi - lo) lo b g w (by omega) rfl hw EF.rf

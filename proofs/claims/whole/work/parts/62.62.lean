/-! THE ROWS OF THE POOL, II: sort, map, share, make -/
def swG (g : Nat → Int64) (k : Nat) : Nat → Int64 := gU (gU g (k + 1) (g k)) k (g (k + 1))
def insG (lo : Nat) : Nat → (Nat → Int64) → (Nat → Int64)
  | 0, g => g
  | k + 1, g => if lo < k + 1 ∧ g (k + 1) < g k then insG lo k (swG g k) else g
def ordG (lo : Nat) : Nat → Nat → (Nat → Int64) → (Nat → Int64)
  | _, 0, g => g
  | i, n + 1, g => ordG lo (i + 1) n (insG lo i g)
theorem gU_same (g : Nat → Int64) (k : Nat) (v : Int64) : gU g k v k = v := if_pos rfl
theorem gU_ne (g : Nat → Int64) {k j : Nat} (v : Int64) (h : j ≠ k) : gU g k v j = g j := if_neg h
theorem gU_self (g : Nat → Int64) (k : Nat) : gU g k (g k) = g := by funext j; unfold gU; split <;> simp_all
set_option maxRecDepth 20000 in
theorem m_putInOrder {G : fxG} (d : Nat) {w : fxW} {r e : Nat} {ty ln : Int} {g : Nat → Int64} (hw : RowAt r e ty ln g w) (lo hi : Nat) (hlh : lo < hi) (hh : hi ≤ 24) : fxM G d y_Row_putInOrder [.ref r, zi (lo : Int), zi (hi : Int)] w (rowVd r e ty ln w (ordG lo (lo + 1) (hi - (lo + 1)) g)) := by
  refine fxM.of cc_Row_putInOrder 7 none [] (by decide +kernel) w_Row_putInOrder (Nat.le_of_ble_eq_true rfl) ?_
  intro x C ht hu
  generalize hQ : rowVd r e ty ln w (ordG lo (lo + 1) (hi - (lo + 1)) g) = QQ
  -- h is the array with a gap at the place k, into which v goes
  have inner : ∀ (i : Nat) (v : Int64) (T : Nat → Int64), i < hi → lo < i → (∀ w1, RowAt r e ty ln T w1 → EF e w w1 → fxR G 7 x (fxQ G x QQ) w1 72 [(3, zi (i : Int)), (0, .ref r), (1, zi (lo : Int)), (2, zi (hi : Int))] []) → ∀ (k : Nat) (h : Nat → Int64) (w1 : fxW), k ≤ i → lo ≤ k → insG lo k (gU h k v) = T → RowAt r e ty ln h w1 → EF e w w1 → fxR G 7 x (fxQ G x QQ) w1 20 [(6, zi (k : Int)), (4, .long v), (3, zi (i : Int)), (0, .ref r), (1, zi (lo : Int)), (2, zi (hi : Int))] [] := by
    intro i v T hi1 hi2 next k
    have stop : ∀ (k : Nat) (h : Nat → Int64) (w1 : fxW), k ≤ i → gU h k v = T → RowAt r e ty ln h w1 → EF e w w1 → fxR G 7 x (fxQ G x QQ) w1 63 [(6, zi (k : Int)), (4, .long v), (3, zi (i : Int)), (0, .ref r), (1, zi (lo : Int)), (2, zi (hi : Int))] [] := by
      intro k h w h1 h2 hw hF
      refine r_aload_n C d_Row_putInOrder_63 rfl rfl ?_
      refine g_Row_9 C d_Row_putInOrder_64 hw.1 hw.2.1 ?_
      refine r_iload C d_Row_putInOrder_67 rfl ?_
      refine r_lload C d_Row_putInOrder_69 rfl ?_
      refine zr_lastore C d_Row_putInOrder_71 (by decide) rfl (t := 0) (k := k) hw.2.2.2.2.1 (by omega) (by omega) (by decide) ?_
      refine row_ab hw (fun w hw hF9 => ?_)
      refine fx_sub (ls' := [(3, zi (i : Int)), (0, .ref r), (1, zi (lo : Int)), (2, zi (hi : Int))]) (by simp [fxL]) ?_
      exact next w (by rw [← h2]; exact hw) (hF.tr hF9)
    induction k with
    | zero =>
      intro h w h1 h2 h3 hw hF
      refine r_iload C d_Row_putInOrder_20 rfl ?_
      refine r_iload_n C d_Row_putInOrder_22 rfl rfl ?_
      refine zr_icmp_le (tgt := 63) C d_Row_putInOrder_23 (by decide) (by unfold zok; omega) (by unfold zok; omega) (fun c_23 => ?_) (fun c_23 => ?_)
      · exact stop 0 h w h1 h3 hw hF
      · exact absurd c_23 (by omega)
    | succ k ih =>
      intro h w h1 h2 h3 hw hF
      rw [insG, gU_same, gU_ne h v (show k ≠ k + 1 by omega)] at h3
      refine r_iload C d_Row_putInOrder_20 rfl ?_
      refine r_iload_n C d_Row_putInOrder_22 rfl rfl ?_
      refine zr_icmp_le (tgt := 63) C d_Row_putInOrder_23 (by decide) (by unfold zok; omega) (by unfold zok; omega) (fun c_23 => ?_) (fun c_23 => ?_)
      · rw [if_neg (by omega)] at h3
        exact stop (k + 1) h w h1 h3 hw hF
      · refine r_aload_n C d_Row_putInOrder_26 rfl rfl ?_
        refine g_Row_9 C d_Row_putInOrder_27 hw.1 hw.2.1 ?_
        refine r_iload C d_Row_putInOrder_30 rfl ?_
        refine r_iconst C d_Row_putInOrder_32 rfl ?_
        refine zr_isub C d_Row_putInOrder_33 ?_
        refine zr_laload C d_Row_putInOrder_34 (by decide) rfl (t := 0) (k := k) (Or.inl hw.2.2.2.2.1) (by omega) (by omega) (by decide) (hw.2.2.2.2.2 _ (by omega)) ?_
        refine r_lload C d_Row_putInOrder_35 rfl ?_
        refine zr_lif_le (tgt := 63) C d_Row_putInOrder_37 d_Row_putInOrder_38 (by decide) (fun c_37 => ?_) (fun c_37 => ?_)
        · rw [if_neg (fun q => absurd q.2 (Int64.not_lt.mpr c_37))] at h3
          exact stop (k + 1) h w h1 h3 hw hF
        · rw [if_pos ⟨by omega, Int64.not_le.mp c_37⟩] at h3
          refine r_aload_n C d_Row_putInOrder_41 rfl rfl ?_
          refine g_Row_9 C d_Row_putInOrder_42 hw.1 hw.2.1 ?_
          refine r_iload C d_Row_putInOrder_45 rfl ?_
          refine r_aload_n C d_Row_putInOrder_47 rfl rfl ?_
          refine g_Row_9 C d_Row_putInOrder_48 hw.1 hw.2.1 ?_
          refine r_iload C d_Row_putInOrder_51 rfl ?_
          refine r_iconst C d_Row_putInOrder_53 rfl ?_
          refine zr_isub C d_Row_putInOrder_54 ?_
          refine zr_laload C d_Row_putInOrder_55 (by decide) rfl (t := 0) (k := k) (Or.inl hw.2.2.2.2.1) (by omega) (by omega) (by decide) (hw.2.2.2.2.2 _ (by omega)) ?_
          refine zr_lastore C d_Row_putInOrder_56 (by decide) rfl (t := 0) (k := k + 1) hw.2.2.2.2.1 (by omega) (by omega) (by decide) ?_
          refine row_ab hw (fun w hw hF9 => ?_)
          refine zr_iinc (ls' := [(6, _), (4, _), (3, _), (0, _), (1, _), (2, _)]) C d_Row_putInOrder_57 rfl (by decide) rfl ?_
          refine r_goto (tgt := 20) C d_Row_putInOrder_60 (by decide) ?_
          rw [show ((k + 1 : Nat) : Int) + -1 = (k : Int) by omega]
          refine fx_sub (ls' := [(6, zi (k : Int)), (4, .long v), (3, zi (i : Int)), (0, .ref r), (1, zi (lo : Int)), (2, zi (hi : Int))]) (by simp [fxL]) ?_
          refine ih _ w (by omega) (by omega) ?_ hw (hF.tr hF9)
          rw [← h3]
          congr 1
          funext j
          unfold swG
          by_cases e1 : j = k
          · subst e1; rw [gU_same, gU_same, gU_same]
          · rw [gU_ne _ _ e1, gU_ne _ _ e1]
            by_cases e2 : j = k + 1
            · subst e2; rw [gU_same, gU_same, gU_ne h v (show k ≠ k + 1 by omega)]
            · rw [gU_ne _ _ e2, gU_ne _ _ e2, gU_ne _ _ e2]
  have outer : ∀ (n i : Nat) (g1 : Nat → Int64) (w1 : fxW), i + n = hi → lo < i → ordG lo i n g1 = ordG lo (lo + 1) (hi - (lo + 1)) g → RowAt r e ty ln g1 w1 → EF e w w1 → fxR G 7 x (fxQ G x QQ) w1 4 [(3, zi (i : Int)), (0, .ref r), (1, zi (lo : Int)), (2, zi (hi : Int))] [] := by
    intro n
    induction n with
    | zero =>
      intro i g1 w h1 h2 h3 hw hF
      refine r_iload_n C d_Row_putInOrder_4 rfl rfl ?_
      refine r_iload_n C d_Row_putInOrder_5 rfl rfl ?_
      refine zr_icmp_ge (tgt := 78) C d_Row_putInOrder_6 (by decide) (by unfold zok; omega) (by unfold zok; omega) (fun c_6 => ?_) (fun c_6 => ?_)
      · rw [← hQ]
        exact r_return C d_Row_putInOrder_78 rfl ⟨rfl, by rw [← h3]; exact hw, hF⟩
      · exact absurd c_6 (by omega)
    | succ n ih =>
      intro i g1 w h1 h2 h3 hw hF
      refine r_iload_n C d_Row_putInOrder_4 rfl rfl ?_
      refine r_iload_n C d_Row_putInOrder_5 rfl rfl ?_
      refine zr_icmp_ge (tgt := 78) C d_Row_putInOrder_6 (by decide) (by unfold zok; omega) (by unfold zok; omega) (fun c_6 => ?_) (fun c_6 => ?_)
      · exact absurd c_6 (by omega)
      · refine r_aload_n C d_Row_putInOrder_9 rfl rfl ?_
        refine g_Row_9 C d_Row_putInOrder_10 hw.1 hw.2.1 ?_
        refine r_iload_n C d_Row_putInOrder_13 rfl rfl ?_
        refine zr_laload C d_Row_putInOrder_14 (by decide) rfl (t := 0) (k := i) (Or.inl hw.2.2.2.2.1) (by omega) (by omega) (by decide) (hw.2.2.2.2.2 _ (by omega)) ?_
        refine r_lstore (ls' := [(4, _), (3, _), (0, _), (1, _), (2, _)]) C d_Row_putInOrder_15 (by decide) rfl ?_
        refine r_iload_n C d_Row_putInOrder_17 rfl rfl ?_
        refine r_istore (ls' := [(6, _), (4, _), (3, _), (0, _), (1, _), (2, _)]) C d_Row_putInOrder_18 (by decide) rfl ?_
        refine inner i (g1 i) (insG lo i g1) (by omega) h2 (fun w hw hF => ?_) i g1 w (Nat.le_refl i) (by omega) (by rw [gU_self]) hw hF
        refine zr_iinc (ls' := [(3, _), (0, _), (1, _), (2, _)]) C d_Row_putInOrder_72 rfl (by decide) rfl ?_
        refine r_goto (tgt := 4) C d_Row_putInOrder_75 (by decide) ?_
        exact ih (i + 1) _ w (by omega) (by omega) (by rw [← h3]; rfl) hw hF
  show fxR G 7 x _ w 0 [(0, .ref r), (1, zi (lo : Int)), (2, zi (hi : Int))] []
  refine r_iload_n C d_Row_putInOrder_0 rfl rfl ?_
  refine r_iconst C d_Row_putInOrder_1 rfl ?_
  refine zr_iadd C d_Row_putInOrder_2 ?_
  refine r_istore_n (ls' := [(3, _), (0, _), (1, _), (2, _)]) C d_Row_putInOrder_3 rfl (by decide) rfl ?_
  exact outer (hi - (lo + 1)) (lo + 1) g w (by omega) (by omega) rfl hw EF.rf
def mapG (ty : Int) (c a : Int64) : Nat → Nat → (Nat → Int64) → (Nat → Int64)
  | _, 0, g => g
  | k, n + 1, g => mapG ty c a (k + 1) n (gU g k (keptF ty (c * g k + a)))
set_option maxRecDepth 20000 in
theorem m_mapAll {G : fxG} (d : Nat) {w : fxW} {r e : Nat} {ty ln : Int} {g : Nat → Int64} (hw : RowAt r e ty ln g w) (hd1 : 2 ≤ d) (hty : zok ty) (h0 : 0 ≤ ty) (lo hi : Nat) (c a : Int64) (hlh : lo ≤ hi) (hh : hi ≤ 24) : fxM G d y_Row_mapAll [.ref r, zi (lo : Int), zi (hi : Int), .long c, .long a] w (rowVd r e ty ln w (mapG ty c (if 4 ≤ ty then a * 8 else a) lo (hi - lo) g)) := by
  refine fxM.of cc_Row_mapAll 10 none [] (by decide +kernel) w_Row_mapAll (Nat.le_of_ble_eq_true rfl) ?_
  intro x C ht hu
  generalize hA : (if 4 ≤ ty then a * 8 else a) = A
  generalize hQ : rowVd r e ty ln w (mapG ty c A lo (hi - lo) g) = QQ
  have loop : ∀ (n k : Nat) (g1 : Nat → Int64) (w1 : fxW), k + n = hi → mapG ty c A k n g1 = mapG ty c A lo (hi - lo) g → RowAt r e ty ln g1 w1 → EF e w w1 → fxR G 10 x (fxQ G x QQ) w1 23 [(9, zi (k : Int)), (7, .long A), (0, .ref r), (1, zi (lo : Int)), (2, zi (hi : Int)), (3, .long c), (5, .long a)] [] := by
    intro n
    induction n with
    | zero =>
      intro k g1 w h1 h2 hw hF
      refine r_iload C d_Row_mapAll_23 rfl ?_
      refine r_iload_n C d_Row_mapAll_25 rfl rfl ?_
      refine zr_icmp_ge (tgt := 58) C d_Row_mapAll_26 (by decide) (by unfold zok; omega) (by unfold zok; omega) (fun c_26 => ?_) (fun c_26 => ?_)
      · rw [← hQ]
        exact r_return C d_Row_mapAll_58 rfl ⟨rfl, by rw [← h2]; exact hw, hF⟩
      · exact absurd c_26 (by omega)
    | succ n ih =>
      intro k g1 w h1 h2 hw hF
      refine r_iload C d_Row_mapAll_23 rfl ?_
      refine r_iload_n C d_Row_mapAll_25 rfl rfl ?_
      refine zr_icmp_ge (tgt := 58) C d_Row_mapAll_26 (by decide) (by unfold zok; omega) (by unfold zok; omega) (fun c_26 => ?_) (fun c_26 => ?_)
      · exact absurd c_26 (by omega)
      · refine r_aload_n C d_Row_mapAll_29 rfl rfl ?_
        refine g_Row_9 C d_Row_mapAll_30 hw.1 hw.2.1 ?_
        refine r_iload C d_Row_mapAll_33 rfl ?_
        refine r_aload_n C d_Row_mapAll_35 rfl rfl ?_
        refine r_lload_n C d_Row_mapAll_36 rfl rfl ?_
        refine r_aload_n C d_Row_mapAll_37 rfl rfl ?_
        refine g_Row_9 C d_Row_mapAll_38 hw.1 hw.2.1 ?_
        refine r_iload C d_Row_mapAll_41 rfl ?_
        refine zr_laload C d_Row_mapAll_43 (by decide) rfl (t := 0) (k := k) (Or.inl hw.2.2.2.2.1) (by omega) (by omega) (by decide) (hw.2.2.2.2.2 _ (by omega)) ?_
        refine r_lmul C d_Row_mapAll_44 ?_
        refine r_lload C d_Row_mapAll_45 rfl ?_
        refine r_ladd C d_Row_mapAll_47 ?_
        refine c_Row_35 C d_Row_mapAll_48 hw.1 (m_Row_kept 1 w r 0 ty _ (by omega) hw.1 hw.2.2.1 hty h0) (by omega) (Nat.le_of_ble_eq_true rfl) (fxPure.k1 ?_) fxPure.k2
        refine zr_lastore C d_Row_mapAll_51 (by decide) rfl (t := 0) (k := k) hw.2.2.2.2.1 (by omega) (by omega) (by decide) ?_
        refine row_ab hw (fun w hw hF9 => ?_)
        refine zr_iinc (ls' := [(9, _), (7, _), (0, _), (1, _), (2, _), (3, _), (5, _)]) C d_Row_mapAll_52 rfl (by decide) rfl ?_
        refine r_goto (tgt := 23) C d_Row_mapAll_55 (by decide) ?_
        exact ih (k + 1) _ w (by omega) (by rw [← h2]; rfl) hw (hF.tr hF9)
  show fxR G 10 x _ w 0 [(0, .ref r), (1, zi (lo : Int)), (2, zi (hi : Int)), (3, .long c), (5, .long a)] []
  refine r_aload_n C d_Row_mapAll_0 rfl rfl ?_
  refine c_Row_39 C d_Row_mapAll_1 hw.1 (m_isInEighths 0 hw hty) (by omega) (Nat.le_of_ble_eq_true rfl) (fxPure.k1 ?_) fxPure.k2
  refine zr_if_eq (tgt := 16) C d_Row_mapAll_4 (by decide) (zok_b _) (fun c_4 => ?_) (fun c_4 => ?_)
  · rw [if_neg (fun q => by rw [bI_t q] at c_4; exact absurd c_4 (by decide))] at hA
    subst hA
    refine r_lload C d_Row_mapAll_16 rfl ?_
    refine r_lstore (ls' := [(7, _), (0, _), (1, _), (2, _), (3, _), (5, _)]) C d_Row_mapAll_18 (by decide) rfl ?_
    refine r_iload_n C d_Row_mapAll_20 rfl rfl ?_
    refine r_istore (ls' := [(9, _), (7, _), (0, _), (1, _), (2, _), (3, _), (5, _)]) C d_Row_mapAll_21 (by decide) rfl ?_
    exact loop (hi - lo) lo g w (by omega) rfl hw EF.rf
  · rw [if_pos (Classical.byContradiction fun q => c_4 (bI_f q))] at hA
    subst hA
    refine r_lload C d_Row_mapAll_7 rfl ?_
    refine r_ldc2 (v := 8) C d_Row_mapAll_9 (fxTW_in 581 (by decide +kernel) rfl) ?_
    refine r_lmul C d_Row_mapAll_12 ?_
    refine r_goto (tgt := 18) C d_Row_mapAll_13 (by decide) ?_
    refine r_lstore (ls' := [(7, _), (0, _), (1, _), (2, _), (3, _), (5, _)]) C d_Row_mapAll_18 (by decide) rfl ?_
    refine r_iload_n C d_Row_mapAll_20 rfl rfl ?_
    refine r_istore (ls' := [(9, _), (7, _), (0, _), (1, _), (2, _), (3, _), (5, _)]) C d_Row_mapAll_21 (by decide) rfl ?_
    exact loop (hi - lo) lo g w (by omega) rfl hw EF.rf
/-- SHARE: where it stops, and what it leaves -/
def shaG (ty : Int) (c : Int64) : Nat → Nat → (Nat → Int64) → Option Nat × (Nat → Int64)
  | _, 0, g => (none, g)
  | k, n + 1, g => if g k = 0 then (some k, g) else shaG ty c (k + 1) n (gU g k (keptF ty (if 4 ≤ ty then fdivF (c * 8 * 8) (g k) else c / g k)))
def shaI : Option Nat → Int
  | none => -1
  | some k => k
set_option maxRecDepth 20000 in
theorem m_shareAll {G : fxG} (d : Nat) {w : fxW} {r e : Nat} {ty ln : Int} {g : Nat → Int64} (hw : RowAt r e ty ln g w) (hd1 : 2 ≤ d) (hty : zok ty) (h0 : 0 ≤ ty) (lo hi : Nat) (c : Int64) (hlh : lo ≤ hi) (hh : hi ≤ 24) : fxM G d y_Row_shareAll [.ref r, zi (lo : Int), zi (hi : Int), .long c] w (rowRt r e ty ln w (zi (shaI (shaG ty c lo (hi - lo) g).1)) (shaG ty c lo (hi - lo) g).2) := by
  refine fxM.of cc_Row_shareAll 10 (some .int) [] (by decide +kernel) w_Row_shareAll (Nat.le_of_ble_eq_true rfl) ?_
  intro x C ht hu
  generalize hS : shaG ty c lo (hi - lo) g = SS
  generalize hQ : rowRt r e ty ln w (zi (shaI SS.1)) SS.2 = QQ
  have loop : ∀ (n k : Nat) (g1 : Nat → Int64) (w1 : fxW), k + n = hi → shaG ty c k n g1 = SS → RowAt r e ty ln g1 w1 → EF e w w1 → fxR G 10 x (fxQ G x QQ) w1 14 [(7, zi (k : Int)), (5, .long (c * 8 * 8)), (0, .ref r), (1, zi (lo : Int)), (2, zi (hi : Int)), (3, .long c)] [] := by
    intro n
    induction n with
    | zero =>
      intro k g1 w h1 h2 hw hF
      refine r_iload C d_Row_shareAll_14 rfl ?_
      refine r_iload_n C d_Row_shareAll_16 rfl rfl ?_
      refine zr_icmp_ge (tgt := 77) C d_Row_shareAll_17 (by decide) (by unfold zok; omega) (by unfold zok; omega) (fun c_17 => ?_) (fun c_17 => ?_)
      · refine r_iconst C d_Row_shareAll_77 rfl ?_
        rw [← hQ]
        exact r_ireturn C d_Row_shareAll_78 rfl ⟨by rw [← h2]; rfl, by rw [← h2]; exact hw, hF⟩
      · exact absurd c_17 (by omega)
    | succ n ih =>
      intro k g1 w h1 h2 hw hF
      rw [shaG] at h2
      refine r_iload C d_Row_shareAll_14 rfl ?_
      refine r_iload_n C d_Row_shareAll_16 rfl rfl ?_
      refine zr_icmp_ge (tgt := 77) C d_Row_shareAll_17 (by decide) (by unfold zok; omega) (by unfold zok; omega) (fun c_17 => ?_) (fun c_17 => ?_)
      · exact absurd c_17 (by omega)
      · refine r_aload_n C d_Row_shareAll_20 rfl rfl ?_
        refine g_Row_9 C d_Row_shareAll_21 hw.1 hw.2.1 ?_
        refine r_iload C d_Row_shareAll_24 rfl ?_
        refine zr_laload C d_Row_shareAll_26 (by decide) rfl (t := 0) (k := k) (Or.inl hw.2.2.2.2.1) (by omega) (by omega) (by decide) (hw.2.2.2.2.2 _ (by omega)) ?_
        refine r_lstore (ls' := [(8, _), (7, _), (5, _), (0, _), (1, _), (2, _), (3, _)]) C d_Row_shareAll_27 (by decide) rfl ?_
        refine r_lload C d_Row_shareAll_29 rfl ?_
        refine r_lconst (v := 0) C d_Row_shareAll_31 (by decide) ?_
        refine zr_lif_ne (tgt := 39) C d_Row_shareAll_32 d_Row_shareAll_33 (by decide) (fun c_32 => ?_) (fun c_32 => ?_)
        · rw [if_neg c_32] at h2
          have fin : ∀ v : Int64, v = (if 4 ≤ ty then fdivF (c * 8 * 8) (g1 k) else c / g1 k) → fxR G 10 x (fxQ G x QQ) w 67 [(8, .long (g1 k)), (7, zi (k : Int)), (5, .long (c * 8 * 8)), (0, .ref r), (1, zi (lo : Int)), (2, zi (hi : Int)), (3, .long c)] [.long v, .ref r, zi (k : Int), .ref e] := by
            intro v hv
            refine c_Row_35 C d_Row_shareAll_67 hw.1 (m_Row_kept 1 w r 0 ty _ (by omega) hw.1 hw.2.2.1 hty h0) (by omega) (Nat.le_of_ble_eq_true rfl) (fxPure.k1 ?_) fxPure.k2
            refine zr_lastore C d_Row_shareAll_70 (by decide) rfl (t := 0) (k := k) hw.2.2.2.2.1 (by omega) (by omega) (by decide) ?_
            refine row_ab hw (fun w hw hF9 => ?_)
            refine zr_iinc (ls' := [(7, _), (8, _), (5, _), (0, _), (1, _), (2, _), (3, _)]) C d_Row_shareAll_71 rfl (by decide) rfl ?_
            refine r_goto (tgt := 14) C d_Row_shareAll_74 (by decide) ?_
            exact fx_sub (ls' := [(7, zi ((k + 1 : Nat) : Int)), (5, .long (c * 8 * 8)), (0, .ref r), (1, zi (lo : Int)), (2, zi (hi : Int)), (3, .long c)]) (by simp [fxL]) (ih (k + 1) _ w (by omega) (by rw [← h2, hv]) hw (hF.tr hF9))
          refine r_aload_n C d_Row_shareAll_39 rfl rfl ?_
          refine g_Row_9 C d_Row_shareAll_40 hw.1 hw.2.1 ?_
          refine r_iload C d_Row_shareAll_43 rfl ?_
          refine r_aload_n C d_Row_shareAll_45 rfl rfl ?_
          refine r_aload_n C d_Row_shareAll_46 rfl rfl ?_
          refine c_Row_39 C d_Row_shareAll_47 hw.1 (m_isInEighths 0 hw hty) (by omega) (Nat.le_of_ble_eq_true rfl) (fxPure.k1 ?_) fxPure.k2
          refine zr_if_eq (tgt := 63) C d_Row_shareAll_50 (by decide) (zok_b _) (fun c_50 => ?_) (fun c_50 => ?_)
          · refine r_lload_n C d_Row_shareAll_63 rfl rfl ?_
            refine r_lload C d_Row_shareAll_64 rfl ?_
            refine r_ldiv C d_Row_shareAll_66 c_32 ?_
            exact fin _ (by rw [if_neg (fun q => by rw [bI_t q] at c_50; exact absurd c_50 (by decide))])
          · refine r_lload C d_Row_shareAll_53 rfl ?_
            refine r_lload C d_Row_shareAll_55 rfl ?_
            refine c_Row_45 C d_Row_shareAll_57 (m_floorDiv 0 w _ _ c_32) (by omega) (Nat.le_of_ble_eq_true rfl) (fxPure.k1 ?_) fxPure.k2
            refine r_goto (tgt := 67) C d_Row_shareAll_60 (by decide) ?_
            exact fin _ (by rw [if_pos (Classical.byContradiction fun q => c_50 (bI_f q))])
        · rw [if_pos c_32] at h2
          refine r_iload C d_Row_shareAll_36 rfl ?_
          rw [← hQ]
          exact r_ireturn C d_Row_shareAll_38 rfl ⟨by rw [← h2]; rfl, by rw [← h2]; exact hw, hF⟩
  show fxR G 10 x _ w 0 [(0, .ref r), (1, zi (lo : Int)), (2, zi (hi : Int)), (3, .long c)] []
  refine r_lload_n C d_Row_shareAll_0 rfl rfl ?_
  refine r_ldc2 (v := 8) C d_Row_shareAll_1 (fxTW_in 581 (by decide +kernel) rfl) ?_
  refine r_lmul C d_Row_shareAll_4 ?_
  refine r_ldc2 (v := 8) C d_Row_shareAll_5 (fxTW_in 581 (by decide +kernel) rfl) ?_
  refine r_lmul C d_Row_shareAll_8 ?_
  refine r_lstore (ls' := [(5, _), (0, _), (1, _), (2, _), (3, _)]) C d_Row_shareAll_9 (by decide) rfl ?_
  refine r_iload_n C d_Row_shareAll_11 rfl rfl ?_
  refine r_istore (ls' := [(7, _), (5, _), (0, _), (1, _), (2, _), (3, _)]) C d_Row_shareAll_12 (by decide) rfl ?_
  exact loop (hi - lo) lo g w (by omega) hS hw EF.rf

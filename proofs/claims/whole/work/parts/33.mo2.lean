/-! THE REFERENCE'S METHODS, II: pull, node, joined, down, mapped, shared, order, reduced, spread -/
theorem sp_same (S : Ms) (k j : Nat) (v : Int) : (sp S k j v).1 k j = v := by show (if k = k then (if j = j then v else S.1 k j) else S.1 k j) = v; simp
theorem sp_j (S : Ms) (k : Nat) {j j' : Nat} (v : Int) (h : j' ≠ j) : (sp S k j v).1 k j' = S.1 k j' := by show (if k = k then (if j' = j then v else S.1 k j') else S.1 k j') = _; simp [h]
theorem sp_k (S : Ms) {k k' : Nat} (j j' : Nat) (v : Int) (h : k' ≠ k) : (sp S k j v).1 k' j' = S.1 k' j' := by show (if k' = k then (if j' = j then v else S.1 k' j') else S.1 k' j') = _; simp [h]
theorem sq_same (S : Ms) (k j : Nat) (v : Int64) : (sq S k j v).2 k j = v := by show (if k = k then (if j = j then v else S.2 k j) else S.2 k j) = v; simp
theorem sq_j (S : Ms) (k : Nat) {j j' : Nat} (v : Int64) (h : j' ≠ j) : (sq S k j v).2 k j' = S.2 k j' := by show (if k = k then (if j' = j then v else S.2 k j') else S.2 k j') = _; simp [h]
theorem sq_k (S : Ms) {k k' : Nat} (j j' : Nat) (v : Int64) (h : k' ≠ k) : (sq S k j v).2 k' j' = S.2 k' j' := by show (if k' = k then (if j' = j then v else S.2 k' j') else S.2 k' j') = _; simp [h]
theorem mShift_k (S : Ms) (lo hi : Nat) {k : Nat} (j : Nat) (h : k ≠ 24) : (mShift S lo hi).1 k j = S.1 k j := if_neg h
theorem mShift_24 (S : Ms) (lo hi j : Nat) : (mShift S lo hi).1 24 j = if lo ≤ j ∧ j < hi then S.1 24 (j + 1) else S.1 24 j := rfl
theorem mShift_self (S : Ms) (lo : Nat) : mShift S lo lo = S := by
  refine Prod.ext (funext fun k => funext fun j => ?_) rfl
  show (if k = 24 then (if lo ≤ j ∧ j < lo then S.1 24 (j + 1) else S.1 24 j) else S.1 k j) = S.1 k j
  by_cases h : k = 24
  · subst h; rw [if_pos rfl, if_neg (by omega)]
  · rw [if_neg h]
theorem mShift_step (S : Ms) {lo p : Nat} (h : lo ≤ p) : sp (mShift S lo p) 24 p ((mShift S lo p).1 24 (p + 1)) = mShift S lo (p + 1) := by
  have e : (mShift S lo p).1 24 (p + 1) = S.1 24 (p + 1) := by
    rw [mShift_24, if_neg (by omega)]
  rw [e]
  refine Prod.ext (funext fun k => funext fun j => ?_) rfl
  show (if k = 24 then (if j = p then S.1 24 (p + 1) else (if k = 24 then (if lo ≤ j ∧ j < p then S.1 24 (j + 1) else S.1 24 j) else S.1 k j)) else (if k = 24 then (if lo ≤ j ∧ j < p then S.1 24 (j + 1) else S.1 24 j) else S.1 k j)) = (if k = 24 then (if lo ≤ j ∧ j < p + 1 then S.1 24 (j + 1) else S.1 24 j) else S.1 k j)
  by_cases h1 : k = 24
  · subst h1
    rw [if_pos rfl, if_pos rfl, if_pos rfl]
    by_cases h2 : j = p
    · subst h2; rw [if_pos rfl, if_pos (by omega)]
    · rw [if_neg h2]
      by_cases h3 : lo ≤ j ∧ j < p
      · rw [if_pos h3, if_pos (by omega)]
      · rw [if_neg h3, if_neg (by omega)]
  · rw [if_neg h1, if_neg h1, if_neg h1]
set_option maxRecDepth 20000 in
theorem m_pull {G : fxG} (d : Nat) {S : Ms} {m : Nat} {w : fxW} (hR : MoR S m w) (i k q : Nat) (hi : i < 4) (hq : S.1 25 i = (q : Int)) (hk : k < q) (hq6 : q ≤ 600) : fxM G d y_Mo_pull [.ref m, zi (i : Int), zi (k : Int)] w (moRet m w (zi (S.1 24 (600 * i + k))) (mPull S i k)) := by
  refine fxM.of cc_Mo_pull 5 (some .int) [] (by decide +kernel) w_Mo_pull (Nat.le_of_ble_eq_true rfl) ?_
  intro x C ht hu
  have e : mPull S i k = mShift (sp S 25 i (S.1 25 i - 1)) (600 * i + k) (600 * i + (q - 1)) := by unfold mPull; rw [hq]; rfl
  rw [e]
  have hF : MoF m w w := MoF.rf
  generalize hQ : moRet m w (zi (S.1 24 (600 * i + k))) (mShift (sp S 25 i (S.1 25 i - 1)) (600 * i + k) (600 * i + (q - 1))) = QQ
  have loop : ∀ (n p : Nat) (w1 : fxW), k ≤ p → p + n = q - 1 → MoR (mShift (sp S 25 i (S.1 25 i - 1)) (600 * i + k) (600 * i + p)) m w1 → MoF m w w1 → fxR G 5 x (fxQ G x QQ) w1 26 [(4, zi (p : Int)), (3, zi (S.1 24 (600 * i + k))), (0, .ref m), (1, zi (i : Int)), (2, zi (k : Int))] [] := by
    intro n
    induction n with
    | zero =>
      intro p w h1 h2 hR hF
      have e5 : (mShift (sp S 25 i (S.1 25 i - 1)) (600 * i + k) (600 * i + p)).1 25 i = S.1 25 i - 1 := by
        rw [mShift_k _ _ _ _ (by decide), sp_same]
      refine r_iload C d_Mo_pull_26 rfl ?_
      refine r_aload_n C d_Mo_pull_28 rfl rfl ?_
      refine g_Mo_74 C d_Mo_pull_29 hR.1 (hR.ar 25 rfl) ?_
      refine r_iload_n C d_Mo_pull_32 rfl rfl ?_
      refine zr_iaload (t := 1) (k := i) C d_Mo_pull_33 (by decide) rfl (Or.inl (hR.kd 25 rfl)) (by omega) (by show i < 4; omega) (by decide) (hR.el 25 rfl (by show i < 4; omega)) ?_
      refine zr_icmp_ge (tgt := 71) C d_Mo_pull_34 (by decide) (by unfold zok; omega) (by rw [e5]; unfold zok; omega) (fun c_34 => ?_) (fun c_34 => ?_)
      · refine r_iload_n C d_Mo_pull_71 rfl rfl ?_
        rw [← hQ]
        exact r_ireturn C d_Mo_pull_72 rfl ⟨rfl, by rw [show q - 1 = p by omega]; exact hR, hF⟩
      · exact absurd c_34 (by rw [e5]; omega)
    | succ n ih =>
      intro p w h1 h2 hR hF
      have e5 : (mShift (sp S 25 i (S.1 25 i - 1)) (600 * i + k) (600 * i + p)).1 25 i = S.1 25 i - 1 := by
        rw [mShift_k _ _ _ _ (by decide), sp_same]
      refine r_iload C d_Mo_pull_26 rfl ?_
      refine r_aload_n C d_Mo_pull_28 rfl rfl ?_
      refine g_Mo_74 C d_Mo_pull_29 hR.1 (hR.ar 25 rfl) ?_
      refine r_iload_n C d_Mo_pull_32 rfl rfl ?_
      refine zr_iaload (t := 1) (k := i) C d_Mo_pull_33 (by decide) rfl (Or.inl (hR.kd 25 rfl)) (by omega) (by show i < 4; omega) (by decide) (hR.el 25 rfl (by show i < 4; omega)) ?_
      refine zr_icmp_ge (tgt := 71) C d_Mo_pull_34 (by decide) (by unfold zok; omega) (by rw [e5]; unfold zok; omega) (fun c_34 => ?_) (fun c_34 => ?_)
      · exact absurd c_34 (by rw [e5]; omega)
      · refine r_aload_n C d_Mo_pull_37 rfl rfl ?_
        refine g_Mo_71 C d_Mo_pull_38 hR.1 (hR.ar 24 rfl) ?_
        refine r_sipush (v := Int32.ofInt 600) C d_Mo_pull_41 (by decide) ?_
        refine r_iload_n C d_Mo_pull_44 rfl rfl ?_
        refine zr_imul C d_Mo_pull_45 ?_
        refine r_iload C d_Mo_pull_46 rfl ?_
        refine zr_iadd C d_Mo_pull_48 ?_
        refine r_aload_n C d_Mo_pull_49 rfl rfl ?_
        refine g_Mo_71 C d_Mo_pull_50 hR.1 (hR.ar 24 rfl) ?_
        refine r_sipush (v := Int32.ofInt 600) C d_Mo_pull_53 (by decide) ?_
        refine r_iload_n C d_Mo_pull_56 rfl rfl ?_
        refine zr_imul C d_Mo_pull_57 ?_
        refine r_iload C d_Mo_pull_58 rfl ?_
        refine zr_iadd C d_Mo_pull_60 ?_
        refine r_iconst C d_Mo_pull_61 rfl ?_
        refine zr_iadd C d_Mo_pull_62 ?_
        refine zr_iaload (t := 1) (k := 600 * i + p + 1) C d_Mo_pull_63 (by decide) rfl (Or.inl (hR.kd 24 rfl)) (by omega) (by show 600 * i + p + 1 < 2400; omega) (by decide) (hR.el 24 rfl (by show 600 * i + p + 1 < 2400; omega)) ?_
        refine zr_iastore (t := 1) (k := 600 * i + p) C d_Mo_pull_64 (by decide) rfl (hR.kd 24 rfl) (by omega) (by show 600 * i + p < 2400; omega) (by decide) ?_
        refine mo_abI 24 hR rfl (fun w hR hF9 => ?_)
        have hF := hF.tr hF9
        refine zr_iinc (ls' := [(4, _), (3, _), (0, _), (1, _), (2, _)]) C d_Mo_pull_65 rfl (by decide) rfl ?_
        refine r_goto (tgt := 26) C d_Mo_pull_68 (by decide) ?_
        exact ih (p + 1) w (by omega) (by omega) (by rw [← Nat.add_assoc, ← mShift_step _ (by omega)]; exact hR) hF
  show fxR G 5 x _ w 0 [(0, .ref m), (1, zi (i : Int)), (2, zi (k : Int))] []
  refine r_aload_n C d_Mo_pull_0 rfl rfl ?_
  refine g_Mo_71 C d_Mo_pull_1 hR.1 (hR.ar 24 rfl) ?_
  refine r_sipush (v := Int32.ofInt 600) C d_Mo_pull_4 (by decide) ?_
  refine r_iload_n C d_Mo_pull_7 rfl rfl ?_
  refine zr_imul C d_Mo_pull_8 ?_
  refine r_iload_n C d_Mo_pull_9 rfl rfl ?_
  refine zr_iadd C d_Mo_pull_10 ?_
  refine zr_iaload (t := 1) (k := 600 * i + k) C d_Mo_pull_11 (by decide) rfl (Or.inl (hR.kd 24 rfl)) (by omega) (by show 600 * i + k < 2400; omega) (by decide) (hR.el 24 rfl (by show 600 * i + k < 2400; omega)) ?_
  refine r_istore_n (ls' := [(3, _), (0, _), (1, _), (2, _)]) C d_Mo_pull_12 rfl (by decide) rfl ?_
  refine r_aload_n C d_Mo_pull_13 rfl rfl ?_
  refine g_Mo_74 C d_Mo_pull_14 hR.1 (hR.ar 25 rfl) ?_
  refine r_iload_n C d_Mo_pull_17 rfl rfl ?_
  refine r_dup2 C d_Mo_pull_18 rfl rfl ?_
  refine zr_iaload (t := 1) (k := i) C d_Mo_pull_19 (by decide) rfl (Or.inl (hR.kd 25 rfl)) (by omega) (by show i < 4; omega) (by decide) (hR.el 25 rfl (by show i < 4; omega)) ?_
  refine r_iconst C d_Mo_pull_20 rfl ?_
  refine zr_isub C d_Mo_pull_21 ?_
  refine zr_iastore (t := 1) (k := i) C d_Mo_pull_22 (by decide) rfl (hR.kd 25 rfl) (by omega) (by show i < 4; omega) (by decide) ?_
  refine mo_abI 25 hR rfl (fun w hR hF9 => ?_)
  have hF := hF.tr hF9
  refine r_iload_n C d_Mo_pull_23 rfl rfl ?_
  refine r_istore (ls' := [(4, _), (3, _), (0, _), (1, _), (2, _)]) C d_Mo_pull_24 (by decide) rfl ?_
  exact loop (q - 1 - k) k w (Nat.le_refl k) (by omega) (by rw [mShift_self]; exact hR) hF
set_option maxRecDepth 20000 in
theorem m_node {G : fxG} (d : Nat) {S : Ms} {m : Nat} {w : fxW} (hR : MoR S m w) (j lo hi ab : Int) (t : Nat) (ht0 : S.1 23 0 = (t : Int)) (ht6 : t < 600) : fxM G d y_Mo_node [.ref m, zi j, zi lo, zi hi, zi ab] w (moRet m w (zi (S.1 23 0)) (mNode S j lo hi ab)) := by
  refine fxM.of cc_Mo_node 6 (some .int) [] (by decide +kernel) w_Mo_node (Nat.le_of_ble_eq_true rfl) ?_
  intro x C ht hu
  have e : mNode S j lo hi ab = sq (sp (sp (sp (sp (sp (sp (sp S 23 0 (S.1 23 0 + 1)) 15 t j) 16 t lo) 17 t hi) 18 t ab) 19 t (-1)) 20 t 0) 22 t 0 := by unfold mNode; rw [ht0]; rfl
  rw [e]
  have hF : MoF m w w := MoF.rf
  show fxR G 6 x _ w 0 [(0, .ref m), (1, zi j), (2, zi lo), (3, zi hi), (4, zi ab)] []
  refine r_aload_n C d_Mo_node_0 rfl rfl ?_
  refine g_Mo_130 C d_Mo_node_1 hR.1 (hR.sc 23 rfl) ?_
  refine r_istore (ls' := [(5, _), (0, _), (1, _), (2, _), (3, _), (4, _)]) C d_Mo_node_4 (by decide) rfl ?_
  refine r_aload_n C d_Mo_node_6 rfl rfl ?_
  refine r_dup C d_Mo_node_7 rfl ?_
  refine g_Mo_130 C d_Mo_node_8 hR.1 (hR.sc 23 rfl) ?_
  refine r_iconst C d_Mo_node_11 rfl ?_
  refine zr_iadd C d_Mo_node_12 ?_
  refine p_Mo_130 C d_Mo_node_13 rfl rfl hR.1 ?_
  refine mo_abS 23 hR rfl (fun w hR hF9 => ?_)
  have hF := hF.tr hF9
  refine r_aload_n C d_Mo_node_16 rfl rfl ?_
  refine g_Mo_47 C d_Mo_node_17 hR.1 (hR.ar 15 rfl) ?_
  refine r_iload C d_Mo_node_20 rfl ?_
  refine r_iload_n C d_Mo_node_22 rfl rfl ?_
  refine zr_iastore (t := 1) (k := t) C d_Mo_node_23 (by decide) rfl (hR.kd 15 rfl) (by omega) (by show t < 600; omega) (by decide) ?_
  refine mo_abI 15 hR rfl (fun w hR hF9 => ?_)
  have hF := hF.tr hF9
  refine r_aload_n C d_Mo_node_24 rfl rfl ?_
  refine g_Mo_50 C d_Mo_node_25 hR.1 (hR.ar 16 rfl) ?_
  refine r_iload C d_Mo_node_28 rfl ?_
  refine r_iload_n C d_Mo_node_30 rfl rfl ?_
  refine zr_iastore (t := 1) (k := t) C d_Mo_node_31 (by decide) rfl (hR.kd 16 rfl) (by omega) (by show t < 600; omega) (by decide) ?_
  refine mo_abI 16 hR rfl (fun w hR hF9 => ?_)
  have hF := hF.tr hF9
  refine r_aload_n C d_Mo_node_32 rfl rfl ?_
  refine g_Mo_53 C d_Mo_node_33 hR.1 (hR.ar 17 rfl) ?_
  refine r_iload C d_Mo_node_36 rfl ?_
  refine r_iload_n C d_Mo_node_38 rfl rfl ?_
  refine zr_iastore (t := 1) (k := t) C d_Mo_node_39 (by decide) rfl (hR.kd 17 rfl) (by omega) (by show t < 600; omega) (by decide) ?_
  refine mo_abI 17 hR rfl (fun w hR hF9 => ?_)
  have hF := hF.tr hF9
  refine r_aload_n C d_Mo_node_40 rfl rfl ?_
  refine g_Mo_56 C d_Mo_node_41 hR.1 (hR.ar 18 rfl) ?_
  refine r_iload C d_Mo_node_44 rfl ?_
  refine r_iload C d_Mo_node_46 rfl ?_
  refine zr_iastore (t := 1) (k := t) C d_Mo_node_48 (by decide) rfl (hR.kd 18 rfl) (by omega) (by show t < 600; omega) (by decide) ?_
  refine mo_abI 18 hR rfl (fun w hR hF9 => ?_)
  have hF := hF.tr hF9
  refine r_aload_n C d_Mo_node_49 rfl rfl ?_
  refine g_Mo_59 C d_Mo_node_50 hR.1 (hR.ar 19 rfl) ?_
  refine r_iload C d_Mo_node_53 rfl ?_
  refine r_iconst C d_Mo_node_55 rfl ?_
  refine zr_iastore (t := 1) (k := t) C d_Mo_node_56 (by decide) rfl (hR.kd 19 rfl) (by omega) (by show t < 600; omega) (by decide) ?_
  refine mo_abI 19 hR rfl (fun w hR hF9 => ?_)
  have hF := hF.tr hF9
  refine r_aload_n C d_Mo_node_57 rfl rfl ?_
  refine g_Mo_62 C d_Mo_node_58 hR.1 (hR.ar 20 rfl) ?_
  refine r_iload C d_Mo_node_61 rfl ?_
  refine r_iconst C d_Mo_node_63 rfl ?_
  refine zr_iastore (t := 1) (k := t) C d_Mo_node_64 (by decide) rfl (hR.kd 20 rfl) (by omega) (by show t < 600; omega) (by decide) ?_
  refine mo_abI 20 hR rfl (fun w hR hF9 => ?_)
  have hF := hF.tr hF9
  refine r_aload_n C d_Mo_node_65 rfl rfl ?_
  refine g_Mo_68 C d_Mo_node_66 hR.1 (hR.arL 22 rfl) ?_
  refine r_iload C d_Mo_node_69 rfl ?_
  refine r_lconst (v := 0) C d_Mo_node_71 (by decide) ?_
  refine zr_lastore (t := 0) (k := t) C d_Mo_node_72 (by decide) rfl (hR.kdL 22 rfl) (by omega) (by show t < 600; omega) (by decide) ?_
  refine mo_abL 22 hR rfl (fun w hR hF9 => ?_)
  have hF := hF.tr hF9
  refine r_iload C d_Mo_node_73 rfl ?_
  exact r_ireturn C d_Mo_node_75 rfl ⟨rfl, hR, hF⟩
set_option maxRecDepth 20000 in
theorem m_joined {G : fxG} (d : Nat) {S : Ms} {m : Nat} {w : fxW} (hR : MoR S m w) (j o : Nat) (v u : Int64) (hd1 : 1 ≤ d) (hj : j < 12) (hk : zok (S.1 5 j)) (ho : S.1 6 j = (o : Int)) (ho4 : o < 4) (hty : zok (S.1 2 o)) (hty0 : 0 ≤ S.1 2 o) : fxM G d y_Mo_joined [.ref m, zi (j : Int), .long v, .long u] w (fxPure (.long (joinF S j v u)) w) := by
  refine fxM.of cc_Mo_joined 6 (some .long) [] (by decide +kernel) w_Mo_joined (Nat.le_of_ble_eq_true rfl) ?_
  intro x C ht hu
  have et : mTy S j = S.1 2 o := by unfold mTy; rw [ho]; rfl
  show fxR G 6 x _ w 0 [(0, .ref m), (1, zi (j : Int)), (2, .long v), (4, .long u)] []
  refine r_aload_n C d_Mo_joined_0 rfl rfl ?_
  refine g_Mo_20 C d_Mo_joined_1 hR.1 (hR.ar 5 rfl) ?_
  refine r_iload_n C d_Mo_joined_4 rfl rfl ?_
  refine zr_iaload (t := 1) (k := j) C d_Mo_joined_5 (by decide) rfl (Or.inl (hR.kd 5 rfl)) (by omega) (by show j < 12; omega) (by decide) (hR.el 5 rfl (by show j < 12; omega)) ?_
  refine r_iconst C d_Mo_joined_6 rfl ?_
  refine zr_icmp_ne (tgt := 24) C d_Mo_joined_7 (by decide) hk (by unfold zok; omega) (fun c_7 => ?_) (fun c_7 => ?_)
  · refine r_aload_n C d_Mo_joined_24 rfl rfl ?_
    refine g_Mo_7 C d_Mo_joined_25 hR.1 (hR.ar 2 rfl) ?_
    refine r_aload_n C d_Mo_joined_28 rfl rfl ?_
    refine g_Mo_23 C d_Mo_joined_29 hR.1 (hR.ar 6 rfl) ?_
    refine r_iload_n C d_Mo_joined_32 rfl rfl ?_
    refine zr_iaload (t := 1) (k := j) C d_Mo_joined_33 (by decide) rfl (Or.inl (hR.kd 6 rfl)) (by omega) (by show j < 12; omega) (by decide) (hR.el 6 rfl (by show j < 12; omega)) ?_
    rw [ho]
    refine zr_iaload (t := 1) (k := o) C d_Mo_joined_34 (by decide) rfl (Or.inl (hR.kd 2 rfl)) (by omega) (by show o < 4; omega) (by decide) (hR.el 2 rfl (by show o < 4; omega)) ?_
    refine r_lload_n C d_Mo_joined_35 rfl rfl ?_
    refine r_lload C d_Mo_joined_36 rfl ?_
    refine r_ladd C d_Mo_joined_38 ?_
    refine c_Mo_122 C d_Mo_joined_39 (m_Mo_kept 0 w _ _ hty hty0) (by omega) (Nat.le_of_ble_eq_true rfl) (fxPure.k1 ?_) fxPure.k2
    exact r_lreturn C d_Mo_joined_42 rfl ⟨by unfold joinF; rw [if_neg c_7, et], rfl⟩
  · refine r_lload_n C d_Mo_joined_10 rfl rfl ?_
    refine r_lload C d_Mo_joined_11 rfl ?_
    refine zr_lif_le (tgt := 21) C d_Mo_joined_13 d_Mo_joined_14 (by decide) (fun c_13 => ?_) (fun c_13 => ?_)
    · refine r_lload C d_Mo_joined_21 rfl ?_
      exact r_lreturn C d_Mo_joined_23 rfl ⟨by unfold joinF; rw [if_pos c_7, if_neg (Int64.not_lt.mpr c_13)], rfl⟩
    · refine r_lload_n C d_Mo_joined_17 rfl rfl ?_
      refine r_goto (tgt := 23) C d_Mo_joined_18 (by decide) ?_
      exact r_lreturn C d_Mo_joined_23 rfl ⟨by unfold joinF; rw [if_pos c_7, if_pos (Int64.not_le.mp c_13)], rfl⟩
set_option maxRecDepth 20000 in
theorem m_down {G : fxG} (d : Nat) (w : fxW) (a b : Int64) (hb : ¬ b = 0) : fxM G d y_Mo_down [.long a, .long b] w (fxPure (.long (downF a b)) w) := by
  refine fxM.of cc_Mo_down 4 (some .long) [] (by decide +kernel) w_Mo_down (Nat.le_of_ble_eq_true rfl) ?_
  intro x C ht hu
  show fxR G 4 x _ w 0 [(0, .long a), (2, .long b)] []
  refine r_lload_n C d_Mo_down_0 rfl rfl ?_
  refine r_lload_n C d_Mo_down_1 rfl rfl ?_
  refine r_ldiv C d_Mo_down_2 hb ?_
  refine r_lload_n C d_Mo_down_3 rfl rfl ?_
  refine r_lload_n C d_Mo_down_4 rfl rfl ?_
  refine r_lrem C d_Mo_down_5 hb ?_
  refine r_lconst (v := 0) C d_Mo_down_6 (by decide) ?_
  refine zr_lif_eq (tgt := 40) C d_Mo_down_7 d_Mo_down_8 (by decide) (fun c_7 => ?_) (fun c_7 => ?_)
  · refine r_iconst C d_Mo_down_40 rfl ?_
    refine r_i2l C d_Mo_down_41 rfl ?_
    refine r_lsub C d_Mo_down_42 ?_
    exact r_lreturn C d_Mo_down_43 rfl ⟨by unfold downF; rw [if_neg (fun q => q.1 c_7)]; rfl, rfl⟩
  · refine r_lload_n C d_Mo_down_11 rfl rfl ?_
    refine r_lconst (v := 0) C d_Mo_down_12 (by decide) ?_
    refine zr_lif_ge (tgt := 21) C d_Mo_down_13 d_Mo_down_14 (by decide) (fun c_13 => ?_) (fun c_13 => ?_)
    · refine r_iconst C d_Mo_down_21 rfl ?_
      refine r_lload_n C d_Mo_down_22 rfl rfl ?_
      refine r_lconst (v := 0) C d_Mo_down_23 (by decide) ?_
      refine zr_lif_ge (tgt := 32) C d_Mo_down_24 d_Mo_down_25 (by decide) (fun c_24 => ?_) (fun c_24 => ?_)
      · refine r_iconst C d_Mo_down_32 rfl ?_
        refine zr_icmp_eq (tgt := 40) C d_Mo_down_33 (by decide) (by unfold zok; omega) (by unfold zok; omega) (fun c_33 => ?_) (fun c_33 => ?_)
        · refine r_iconst C d_Mo_down_40 rfl ?_
          refine r_i2l C d_Mo_down_41 rfl ?_
          refine r_lsub C d_Mo_down_42 ?_
          exact r_lreturn C d_Mo_down_43 rfl ⟨by unfold downF; rw [if_neg (fun q => q.2 ⟨fun z => absurd z (Int64.not_lt.mpr c_13), fun z => absurd z (Int64.not_lt.mpr c_24)⟩)]; rfl, rfl⟩
        · exact absurd rfl c_33
      · refine r_iconst C d_Mo_down_28 rfl ?_
        refine r_goto (tgt := 33) C d_Mo_down_29 (by decide) ?_
        refine zr_icmp_eq (tgt := 40) C d_Mo_down_33 (by decide) (by unfold zok; omega) (by unfold zok; omega) (fun c_33 => ?_) (fun c_33 => ?_)
        · exact absurd c_33 (by decide)
        · refine r_iconst C d_Mo_down_36 rfl ?_
          refine r_goto (tgt := 41) C d_Mo_down_37 (by decide) ?_
          refine r_i2l C d_Mo_down_41 rfl ?_
          refine r_lsub C d_Mo_down_42 ?_
          exact r_lreturn C d_Mo_down_43 rfl ⟨by unfold downF; rw [if_pos ⟨c_7, fun z => absurd (z.mpr (Int64.not_le.mp c_24)) (Int64.not_lt.mpr c_13)⟩]; rfl, rfl⟩
    · refine r_iconst C d_Mo_down_17 rfl ?_
      refine r_goto (tgt := 22) C d_Mo_down_18 (by decide) ?_
      refine r_lload_n C d_Mo_down_22 rfl rfl ?_
      refine r_lconst (v := 0) C d_Mo_down_23 (by decide) ?_
      refine zr_lif_ge (tgt := 32) C d_Mo_down_24 d_Mo_down_25 (by decide) (fun c_24 => ?_) (fun c_24 => ?_)
      · refine r_iconst C d_Mo_down_32 rfl ?_
        refine zr_icmp_eq (tgt := 40) C d_Mo_down_33 (by decide) (by unfold zok; omega) (by unfold zok; omega) (fun c_33 => ?_) (fun c_33 => ?_)
        · exact absurd c_33 (by decide)
        · refine r_iconst C d_Mo_down_36 rfl ?_
          refine r_goto (tgt := 41) C d_Mo_down_37 (by decide) ?_
          refine r_i2l C d_Mo_down_41 rfl ?_
          refine r_lsub C d_Mo_down_42 ?_
          exact r_lreturn C d_Mo_down_43 rfl ⟨by unfold downF; rw [if_pos ⟨c_7, fun z => absurd (z.mp (Int64.not_le.mp c_13)) (Int64.not_lt.mpr c_24)⟩]; rfl, rfl⟩
      · refine r_iconst C d_Mo_down_28 rfl ?_
        refine r_goto (tgt := 33) C d_Mo_down_29 (by decide) ?_
        refine zr_icmp_eq (tgt := 40) C d_Mo_down_33 (by decide) (by unfold zok; omega) (by unfold zok; omega) (fun c_33 => ?_) (fun c_33 => ?_)
        · refine r_iconst C d_Mo_down_40 rfl ?_
          refine r_i2l C d_Mo_down_41 rfl ?_
          refine r_lsub C d_Mo_down_42 ?_
          exact r_lreturn C d_Mo_down_43 rfl ⟨by unfold downF; rw [if_neg (fun q => q.2 ⟨fun _ => Int64.not_le.mp c_24, fun _ => Int64.not_le.mp c_13⟩)]; rfl, rfl⟩
        · exact absurd rfl c_33
set_option maxRecDepth 20000 in
theorem m_mapped {G : fxG} (d : Nat) {S : Ms} {m : Nat} {w : fxW} (hR : MoR S m w) (j o : Nat) (v : Int64) (hd1 : 1 ≤ d) (hj : j < 12) (ho : S.1 6 j = (o : Int)) (ho4 : o < 4) (hty : zok (S.1 2 o)) (hty0 : 0 ≤ S.1 2 o) : fxM G d y_Mo_mapped [.ref m, zi (j : Int), .long v] w (fxPure (.long (mapF S j v)) w) := by
  refine fxM.of cc_Mo_mapped 5 (some .long) [] (by decide +kernel) w_Mo_mapped (Nat.le_of_ble_eq_true rfl) ?_
  intro x C ht hu
  have et : mTy S j = S.1 2 o := by unfold mTy; rw [ho]; rfl
  show fxR G 5 x _ w 0 [(0, .ref m), (1, zi (j : Int)), (2, .long v)] []
  refine r_aload_n C d_Mo_mapped_0 rfl rfl ?_
  refine g_Mo_7 C d_Mo_mapped_1 hR.1 (hR.ar 2 rfl) ?_
  refine r_aload_n C d_Mo_mapped_4 rfl rfl ?_
  refine g_Mo_23 C d_Mo_mapped_5 hR.1 (hR.ar 6 rfl) ?_
  refine r_iload_n C d_Mo_mapped_8 rfl rfl ?_
  refine zr_iaload (t := 1) (k := j) C d_Mo_mapped_9 (by decide) rfl (Or.inl (hR.kd 6 rfl)) (by omega) (by show j < 12; omega) (by decide) (hR.el 6 rfl (by show j < 12; omega)) ?_
  rw [ho]
  refine zr_iaload (t := 1) (k := o) C d_Mo_mapped_10 (by decide) rfl (Or.inl (hR.kd 2 rfl)) (by omega) (by show o < 4; omega) (by decide) (hR.el 2 rfl (by show o < 4; omega)) ?_
  refine r_istore (ls' := [(4, _), (0, _), (1, _), (2, _)]) C d_Mo_mapped_11 (by decide) rfl ?_
  refine r_iload C d_Mo_mapped_13 rfl ?_
  refine r_aload_n C d_Mo_mapped_15 rfl rfl ?_
  refine g_Mo_26 C d_Mo_mapped_16 hR.1 (hR.ar 7 rfl) ?_
  refine r_iload_n C d_Mo_mapped_19 rfl rfl ?_
  refine zr_iaload (t := 1) (k := j) C d_Mo_mapped_20 (by decide) rfl (Or.inl (hR.kd 7 rfl)) (by omega) (by show j < 12; omega) (by decide) (hR.el 7 rfl (by show j < 12; omega)) ?_
  refine r_i2l C d_Mo_mapped_21 rfl ?_
  refine r_lload_n C d_Mo_mapped_22 rfl rfl ?_
  refine r_lmul C d_Mo_mapped_23 ?_
  refine r_iload C d_Mo_mapped_24 rfl ?_
  refine r_iconst C d_Mo_mapped_26 rfl ?_
  refine zr_icmp_ge (tgt := 40) C d_Mo_mapped_27 (by decide) hty (by unfold zok; omega) (fun c_27 => ?_) (fun c_27 => ?_)
  · refine r_ldc2 (v := 8) C d_Mo_mapped_40 (fxTW_in 952 (by decide +kernel) rfl) ?_
    refine r_aload_n C d_Mo_mapped_43 rfl rfl ?_
    refine g_Mo_29 C d_Mo_mapped_44 hR.1 (hR.ar 8 rfl) ?_
    refine r_iload_n C d_Mo_mapped_47 rfl rfl ?_
    refine zr_iaload (t := 1) (k := j) C d_Mo_mapped_48 (by decide) rfl (Or.inl (hR.kd 8 rfl)) (by omega) (by show j < 12; omega) (by decide) (hR.el 8 rfl (by show j < 12; omega)) ?_
    refine r_i2l C d_Mo_mapped_49 rfl ?_
    refine r_lmul C d_Mo_mapped_50 ?_
    refine r_ladd C d_Mo_mapped_51 ?_
    refine c_Mo_122 C d_Mo_mapped_52 (m_Mo_kept 0 w _ _ hty hty0) (by omega) (Nat.le_of_ble_eq_true rfl) (fxPure.k1 ?_) fxPure.k2
    exact r_lreturn C d_Mo_mapped_55 rfl ⟨by unfold mapF; rw [et, if_neg (by omega)], rfl⟩
  · refine r_aload_n C d_Mo_mapped_30 rfl rfl ?_
    refine g_Mo_29 C d_Mo_mapped_31 hR.1 (hR.ar 8 rfl) ?_
    refine r_iload_n C d_Mo_mapped_34 rfl rfl ?_
    refine zr_iaload (t := 1) (k := j) C d_Mo_mapped_35 (by decide) rfl (Or.inl (hR.kd 8 rfl)) (by omega) (by show j < 12; omega) (by decide) (hR.el 8 rfl (by show j < 12; omega)) ?_
    refine r_i2l C d_Mo_mapped_36 rfl ?_
    refine r_goto (tgt := 51) C d_Mo_mapped_37 (by decide) ?_
    refine r_ladd C d_Mo_mapped_51 ?_
    refine c_Mo_122 C d_Mo_mapped_52 (m_Mo_kept 0 w _ _ hty hty0) (by omega) (Nat.le_of_ble_eq_true rfl) (fxPure.k1 ?_) fxPure.k2
    exact r_lreturn C d_Mo_mapped_55 rfl ⟨by unfold mapF; rw [et, if_pos (by omega)], rfl⟩
set_option maxRecDepth 20000 in
theorem m_shared {G : fxG} (d : Nat) {S : Ms} {m : Nat} {w : fxW} (hR : MoR S m w) (j o : Nat) (v : Int64) (hv : ¬ v = 0) (hd1 : 1 ≤ d) (hj : j < 12) (ho : S.1 6 j = (o : Int)) (ho4 : o < 4) (hty : zok (S.1 2 o)) (hty0 : 0 ≤ S.1 2 o) : fxM G d y_Mo_shared [.ref m, zi (j : Int), .long v] w (fxPure (.long (shaF S j v)) w) := by
  refine fxM.of cc_Mo_shared 5 (some .long) [] (by decide +kernel) w_Mo_shared (Nat.le_of_ble_eq_true rfl) ?_
  intro x C ht hu
  have et : mTy S j = S.1 2 o := by unfold mTy; rw [ho]; rfl
  show fxR G 5 x _ w 0 [(0, .ref m), (1, zi (j : Int)), (2, .long v)] []
  refine r_aload_n C d_Mo_shared_0 rfl rfl ?_
  refine g_Mo_7 C d_Mo_shared_1 hR.1 (hR.ar 2 rfl) ?_
  refine r_aload_n C d_Mo_shared_4 rfl rfl ?_
  refine g_Mo_23 C d_Mo_shared_5 hR.1 (hR.ar 6 rfl) ?_
  refine r_iload_n C d_Mo_shared_8 rfl rfl ?_
  refine zr_iaload (t := 1) (k := j) C d_Mo_shared_9 (by decide) rfl (Or.inl (hR.kd 6 rfl)) (by omega) (by show j < 12; omega) (by decide) (hR.el 6 rfl (by show j < 12; omega)) ?_
  rw [ho]
  refine zr_iaload (t := 1) (k := o) C d_Mo_shared_10 (by decide) rfl (Or.inl (hR.kd 2 rfl)) (by omega) (by show o < 4; omega) (by decide) (hR.el 2 rfl (by show o < 4; omega)) ?_
  refine r_istore (ls' := [(4, _), (0, _), (1, _), (2, _)]) C d_Mo_shared_11 (by decide) rfl ?_
  refine r_iload C d_Mo_shared_13 rfl ?_
  refine r_iload C d_Mo_shared_15 rfl ?_
  refine r_iconst C d_Mo_shared_17 rfl ?_
  refine zr_icmp_ge (tgt := 33) C d_Mo_shared_18 (by decide) hty (by unfold zok; omega) (fun c_18 => ?_) (fun c_18 => ?_)
  · refine r_ldc2 (v := 64) C d_Mo_shared_33 (fxTW_in 957 (by decide +kernel) rfl) ?_
    refine r_aload_n C d_Mo_shared_36 rfl rfl ?_
    refine g_Mo_26 C d_Mo_shared_37 hR.1 (hR.ar 7 rfl) ?_
    refine r_iload_n C d_Mo_shared_40 rfl rfl ?_
    refine zr_iaload (t := 1) (k := j) C d_Mo_shared_41 (by decide) rfl (Or.inl (hR.kd 7 rfl)) (by omega) (by show j < 12; omega) (by decide) (hR.el 7 rfl (by show j < 12; omega)) ?_
    refine r_i2l C d_Mo_shared_42 rfl ?_
    refine r_lmul C d_Mo_shared_43 ?_
    refine r_lload_n C d_Mo_shared_44 rfl rfl ?_
    refine c_Mo_145 C d_Mo_shared_45 (m_down 0 w _ _ hv) (by omega) (Nat.le_of_ble_eq_true rfl) (fxPure.k1 ?_) fxPure.k2
    refine c_Mo_122 C d_Mo_shared_48 (m_Mo_kept 0 w _ _ hty hty0) (by omega) (Nat.le_of_ble_eq_true rfl) (fxPure.k1 ?_) fxPure.k2
    exact r_lreturn C d_Mo_shared_51 rfl ⟨by unfold shaF; rw [et, if_neg (by omega)], rfl⟩
  · refine r_aload_n C d_Mo_shared_21 rfl rfl ?_
    refine g_Mo_26 C d_Mo_shared_22 hR.1 (hR.ar 7 rfl) ?_
    refine r_iload_n C d_Mo_shared_25 rfl rfl ?_
    refine zr_iaload (t := 1) (k := j) C d_Mo_shared_26 (by decide) rfl (Or.inl (hR.kd 7 rfl)) (by omega) (by show j < 12; omega) (by decide) (hR.el 7 rfl (by show j < 12; omega)) ?_
    refine r_i2l C d_Mo_shared_27 rfl ?_
    refine r_lload_n C d_Mo_shared_28 rfl rfl ?_
    refine r_ldiv C d_Mo_shared_29 hv ?_
    refine r_goto (tgt := 48) C d_Mo_shared_30 (by decide) ?_
    refine c_Mo_122 C d_Mo_shared_48 (m_Mo_kept 0 w _ _ hty hty0) (by omega) (Nat.le_of_ble_eq_true rfl) (fxPure.k1 ?_) fxPure.k2
    exact r_lreturn C d_Mo_shared_51 rfl ⟨by unfold shaF; rw [et, if_pos (by omega)], rfl⟩
theorem redF_eq (f : Int64 → Int64 → Int64) (g : Nat → Int64) (k n : Nat) (v : Int64) : redF f g k (n + 1) v = redF f g (k + 1) n (f v (g k)) := rfl
/-- what a task's numbers must be: its job j, the job's array o, its range -/
def mTok (S : Ms) (t j o lo hi : Nat) : Prop := t < 600 ∧ S.1 15 t = (j : Int) ∧ j < 12 ∧ S.1 6 j = (o : Int) ∧ o < 4 ∧ S.1 16 t = (lo : Int) ∧ S.1 17 t = (hi : Int) ∧ lo < hi ∧ hi ≤ 24 ∧ 0 ≤ S.1 5 j ∧ S.1 5 j ≤ 5 ∧ 0 ≤ S.1 2 o ∧ S.1 2 o ≤ 5
set_option maxRecDepth 20000 in
theorem m_reduced {G : fxG} (d : Nat) {S : Ms} {m : Nat} {w : fxW} (hR : MoR S m w) {t j o lo hi : Nat} (hd1 : 2 ≤ d) (T : mTok S t j o lo hi) : fxM G d y_Mo_reduced [.ref m, zi (t : Int)] w (fxPure (.long (mReduced S t)) w) := by
  obtain ⟨h6, e15, h12, e6, h4, e16, e17, hlh, h24, hk0, hk5, ht0, ht5⟩ := T
  refine fxM.of cc_Mo_reduced 7 (some .long) [] (by decide +kernel) w_Mo_reduced (Nat.le_of_ble_eq_true rfl) ?_
  intro x C ht hu
  have e : mReduced S t = redF (joinF S j) (fun k => S.2 4 (24 * o + k)) (lo + 1) (hi - (lo + 1)) (S.2 4 (24 * o + lo)) := by
    unfold mReduced mAt mLo mHi mOf; rw [e15, e16, e17]; simp only [Int.toNat_natCast]; rw [e6]; simp only [Int.toNat_natCast]
  rw [e]
  generalize hQ : fxPure (.long (redF (joinF S j) (fun k => S.2 4 (24 * o + k)) (lo + 1) (hi - (lo + 1)) (S.2 4 (24 * o + lo)))) w = QQ
  have loop : ∀ (n k : Nat) (v : Int64), k + n = hi → redF (joinF S j) (fun k => S.2 4 (24 * o + k)) k n v = redF (joinF S j) (fun k => S.2 4 (24 * o + k)) (lo + 1) (hi - (lo + 1)) (S.2 4 (24 * o + lo)) → fxR G 7 x (fxQ G x QQ) w 42 [(6, zi (k : Int)), (4, .long v), (3, zi (24 * (o : Int))), (2, zi (j : Int)), (0, .ref m), (1, zi (t : Int))] [] := by
    intro n
    induction n with
    | zero =>
      intro k v h1 h2
      refine r_iload C d_Mo_reduced_42 rfl ?_
      refine r_aload_n C d_Mo_reduced_44 rfl rfl ?_
      refine g_Mo_53 C d_Mo_reduced_45 hR.1 (hR.ar 17 rfl) ?_
      refine r_iload_n C d_Mo_reduced_48 rfl rfl ?_
      refine zr_iaload (t := 1) (k := t) C d_Mo_reduced_49 (by decide) rfl (Or.inl (hR.kd 17 rfl)) (by omega) (by show t < 600; omega) (by decide) (hR.el 17 rfl (by show t < 600; omega)) ?_
      refine zr_icmp_ge (tgt := 77) C d_Mo_reduced_50 (by decide) (by unfold zok; omega) (by rw [e17]; unfold zok; omega) (fun c_50 => ?_) (fun c_50 => ?_)
      · refine r_lload C d_Mo_reduced_77 rfl ?_
        rw [← hQ]
        exact r_lreturn C d_Mo_reduced_79 rfl ⟨by rw [← h2]; rfl, rfl⟩
      · exact absurd c_50 (by rw [e17]; omega)
    | succ n ih =>
      intro k v h1 h2
      refine r_iload C d_Mo_reduced_42 rfl ?_
      refine r_aload_n C d_Mo_reduced_44 rfl rfl ?_
      refine g_Mo_53 C d_Mo_reduced_45 hR.1 (hR.ar 17 rfl) ?_
      refine r_iload_n C d_Mo_reduced_48 rfl rfl ?_
      refine zr_iaload (t := 1) (k := t) C d_Mo_reduced_49 (by decide) rfl (Or.inl (hR.kd 17 rfl)) (by omega) (by show t < 600; omega) (by decide) (hR.el 17 rfl (by show t < 600; omega)) ?_
      refine zr_icmp_ge (tgt := 77) C d_Mo_reduced_50 (by decide) (by unfold zok; omega) (by rw [e17]; unfold zok; omega) (fun c_50 => ?_) (fun c_50 => ?_)
      · exact absurd c_50 (by rw [e17]; omega)
      · refine r_aload_n C d_Mo_reduced_53 rfl rfl ?_
        refine r_iload_n C d_Mo_reduced_54 rfl rfl ?_
        refine r_lload C d_Mo_reduced_55 rfl ?_
        refine r_aload_n C d_Mo_reduced_57 rfl rfl ?_
        refine g_Mo_16 C d_Mo_reduced_58 hR.1 (hR.arL 4 rfl) ?_
        refine r_iload_n C d_Mo_reduced_61 rfl rfl ?_
        refine r_iload C d_Mo_reduced_62 rfl ?_
        refine zr_iadd C d_Mo_reduced_64 ?_
        refine zr_laload (t := 0) (k := 24 * o + k) C d_Mo_reduced_65 (by decide) rfl (Or.inl (hR.kdL 4 rfl)) (by omega) (by show 24 * o + k < 96; omega) (by decide) (hR.elL 4 rfl (by show 24 * o + k < 96; omega)) ?_
        refine c_Mo_149 C d_Mo_reduced_66 hR.1 (m_joined 1 hR j o _ _ (by omega) h12 (by unfold zok; omega) e6 h4 (by unfold zok; omega) ht0) (by omega) (Nat.le_of_ble_eq_true rfl) (fxPure.k1 ?_) fxPure.k2
        refine r_lstore (ls' := [(4, _), (6, _), (3, _), (2, _), (0, _), (1, _)]) C d_Mo_reduced_69 (by decide) rfl ?_
        refine zr_iinc (ls' := [(6, _), (4, _), (3, _), (2, _), (0, _), (1, _)]) C d_Mo_reduced_71 rfl (by decide) rfl ?_
        refine r_goto (tgt := 42) C d_Mo_reduced_74 (by decide) ?_
        exact ih (k + 1) _ (by omega) (by rw [← h2]; rfl)
  show fxR G 7 x _ w 0 [(0, .ref m), (1, zi (t : Int))] []
  refine r_aload_n C d_Mo_reduced_0 rfl rfl ?_
  refine g_Mo_47 C d_Mo_reduced_1 hR.1 (hR.ar 15 rfl) ?_
  refine r_iload_n C d_Mo_reduced_4 rfl rfl ?_
  refine zr_iaload (t := 1) (k := t) C d_Mo_reduced_5 (by decide) rfl (Or.inl (hR.kd 15 rfl)) (by omega) (by show t < 600; omega) (by decide) (hR.el 15 rfl (by show t < 600; omega)) ?_
  rw [e15]
  refine r_istore_n (ls' := [(2, _), (0, _), (1, _)]) C d_Mo_reduced_6 rfl (by decide) rfl ?_
  refine r_bipush (v := Int32.ofInt 24) C d_Mo_reduced_7 (by decide) ?_
  refine r_aload_n C d_Mo_reduced_9 rfl rfl ?_
  refine g_Mo_23 C d_Mo_reduced_10 hR.1 (hR.ar 6 rfl) ?_
  refine r_iload_n C d_Mo_reduced_13 rfl rfl ?_
  refine zr_iaload (t := 1) (k := j) C d_Mo_reduced_14 (by decide) rfl (Or.inl (hR.kd 6 rfl)) (by omega) (by show j < 12; omega) (by decide) (hR.el 6 rfl (by show j < 12; omega)) ?_
  rw [e6]
  refine zr_imul C d_Mo_reduced_15 ?_
  refine r_istore_n (ls' := [(3, _), (2, _), (0, _), (1, _)]) C d_Mo_reduced_16 rfl (by decide) rfl ?_
  refine r_aload_n C d_Mo_reduced_17 rfl rfl ?_
  refine g_Mo_16 C d_Mo_reduced_18 hR.1 (hR.arL 4 rfl) ?_
  refine r_iload_n C d_Mo_reduced_21 rfl rfl ?_
  refine r_aload_n C d_Mo_reduced_22 rfl rfl ?_
  refine g_Mo_50 C d_Mo_reduced_23 hR.1 (hR.ar 16 rfl) ?_
  refine r_iload_n C d_Mo_reduced_26 rfl rfl ?_
  refine zr_iaload (t := 1) (k := t) C d_Mo_reduced_27 (by decide) rfl (Or.inl (hR.kd 16 rfl)) (by omega) (by show t < 600; omega) (by decide) (hR.el 16 rfl (by show t < 600; omega)) ?_
  rw [e16]
  refine zr_iadd C d_Mo_reduced_28 ?_
  refine zr_laload (t := 0) (k := 24 * o + lo) C d_Mo_reduced_29 (by decide) rfl (Or.inl (hR.kdL 4 rfl)) (by omega) (by show 24 * o + lo < 96; omega) (by decide) (hR.elL 4 rfl (by show 24 * o + lo < 96; omega)) ?_
  refine r_lstore (ls' := [(4, _), (3, _), (2, _), (0, _), (1, _)]) C d_Mo_reduced_30 (by decide) rfl ?_
  refine r_aload_n C d_Mo_reduced_32 rfl rfl ?_
  refine g_Mo_50 C d_Mo_reduced_33 hR.1 (hR.ar 16 rfl) ?_
  refine r_iload_n C d_Mo_reduced_36 rfl rfl ?_
  refine zr_iaload (t := 1) (k := t) C d_Mo_reduced_37 (by decide) rfl (Or.inl (hR.kd 16 rfl)) (by omega) (by show t < 600; omega) (by decide) (hR.el 16 rfl (by show t < 600; omega)) ?_
  rw [e16]
  refine r_iconst C d_Mo_reduced_38 rfl ?_
  refine zr_iadd C d_Mo_reduced_39 ?_
  refine r_istore (ls' := [(6, _), (4, _), (3, _), (2, _), (0, _), (1, _)]) C d_Mo_reduced_40 (by decide) rfl ?_
  exact loop (hi - (lo + 1)) (lo + 1) _ (by omega) rfl
set_option maxRecDepth 20000 in
theorem m_spread {G : fxG} (d : Nat) {S : Ms} {m : Nat} {w : fxW} (hR : MoR S m w) {t j o lo hi : Nat} (hd1 : 2 ≤ d) (T : mTok S t j o lo hi) : fxM G d y_Mo_spread [.ref m, zi (t : Int)] w (moVoid m w (mSpread S t)) := by
  obtain ⟨h6, e15, h12, e6, h4, e16, e17, hlh, h24, hk0, hk5, ht0, ht5⟩ := T
  refine fxM.of cc_Mo_spread 7 none [] (by decide +kernel) w_Mo_spread (Nat.le_of_ble_eq_true rfl) ?_
  intro x C ht hu
  have e : mSpread S t = sprF j (24 * o) lo (hi - lo) (S.2 22 t) S := by
    unfold mSpread mAt mLo mHi mOf; rw [e15, e16, e17]; simp only [Int.toNat_natCast]; rw [e6]; simp only [Int.toNat_natCast]
  rw [e]
  generalize hQ : moVoid m w (sprF j (24 * o) lo (hi - lo) (S.2 22 t) S) = QQ
  have loop : ∀ (n k : Nat) (v : Int64) (S1 : Ms) (w1 : fxW), k + n = hi → S1.1 = S.1 → sprF j (24 * o) k n v S1 = sprF j (24 * o) lo (hi - lo) (S.2 22 t) S → MoR S1 m w1 → MoF m w w1 → fxR G 7 x (fxQ G x QQ) w1 33 [(6, zi (k : Int)), (4, .long v), (3, zi (24 * (o : Int))), (2, zi (j : Int)), (0, .ref m), (1, zi (t : Int))] [] := by
    intro n
    induction n with
    | zero =>
      intro k v S1 w h1 h3 h2 hR hF
      refine r_iload C d_Mo_spread_33 rfl ?_
      refine r_aload_n C d_Mo_spread_35 rfl rfl ?_
      refine g_Mo_53 C d_Mo_spread_36 hR.1 (hR.ar 17 rfl) ?_
      refine r_iload_n C d_Mo_spread_39 rfl rfl ?_
      refine zr_iaload (t := 1) (k := t) C d_Mo_spread_40 (by decide) rfl (Or.inl (hR.kd 17 rfl)) (by omega) (by show t < 600; omega) (by decide) (hR.el 17 rfl (by show t < 600; omega)) ?_
      refine zr_icmp_ge (tgt := 79) C d_Mo_spread_41 (by decide) (by unfold zok; omega) (by rw [h3, e17]; unfold zok; omega) (fun c_41 => ?_) (fun c_41 => ?_)
      · rw [← hQ]
        exact r_return C d_Mo_spread_79 rfl ⟨rfl, by rw [← h2]; exact hR, hF⟩
      · exact absurd c_41 (by rw [h3, e17]; omega)
    | succ n ih =>
      intro k v S1 w h1 h3 h2 hR hF
      refine r_iload C d_Mo_spread_33 rfl ?_
      refine r_aload_n C d_Mo_spread_35 rfl rfl ?_
      refine g_Mo_53 C d_Mo_spread_36 hR.1 (hR.ar 17 rfl) ?_
      refine r_iload_n C d_Mo_spread_39 rfl rfl ?_
      refine zr_iaload (t := 1) (k := t) C d_Mo_spread_40 (by decide) rfl (Or.inl (hR.kd 17 rfl)) (by omega) (by show t < 600; omega) (by decide) (hR.el 17 rfl (by show t < 600; omega)) ?_
      refine zr_icmp_ge (tgt := 79) C d_Mo_spread_41 (by decide) (by unfold zok; omega) (by rw [h3, e17]; unfold zok; omega) (fun c_41 => ?_) (fun c_41 => ?_)
      · exact absurd c_41 (by rw [h3, e17]; omega)
      · refine r_aload_n C d_Mo_spread_44 rfl rfl ?_
        refine r_iload_n C d_Mo_spread_45 rfl rfl ?_
        refine r_lload C d_Mo_spread_46 rfl ?_
        refine r_aload_n C d_Mo_spread_48 rfl rfl ?_
        refine g_Mo_16 C d_Mo_spread_49 hR.1 (hR.arL 4 rfl) ?_
        refine r_iload_n C d_Mo_spread_52 rfl rfl ?_
        refine r_iload C d_Mo_spread_53 rfl ?_
        refine zr_iadd C d_Mo_spread_55 ?_
        refine zr_laload (t := 0) (k := 24 * o + k) C d_Mo_spread_56 (by decide) rfl (Or.inl (hR.kdL 4 rfl)) (by omega) (by show 24 * o + k < 96; omega) (by decide) (hR.elL 4 rfl (by show 24 * o + k < 96; omega)) ?_
        refine c_Mo_149 C d_Mo_spread_57 hR.1 (m_joined 1 hR j o _ _ (by omega) h12 (by rw [h3]; unfold zok; omega) (by rw [h3]; exact e6) h4 (by rw [h3]; unfold zok; omega) (by rw [h3]; exact ht0)) (by omega) (Nat.le_of_ble_eq_true rfl) (fxPure.k1 ?_) fxPure.k2
        refine r_lstore (ls' := [(4, _), (6, _), (3, _), (2, _), (0, _), (1, _)]) C d_Mo_spread_60 (by decide) rfl ?_
        refine r_aload_n C d_Mo_spread_62 rfl rfl ?_
        refine g_Mo_16 C d_Mo_spread_63 hR.1 (hR.arL 4 rfl) ?_
        refine r_iload_n C d_Mo_spread_66 rfl rfl ?_
        refine r_iload C d_Mo_spread_67 rfl ?_
        refine zr_iadd C d_Mo_spread_69 ?_
        refine r_lload C d_Mo_spread_70 rfl ?_
        refine zr_lastore (t := 0) (k := 24 * o + k) C d_Mo_spread_72 (by decide) rfl (hR.kdL 4 rfl) (by omega) (by show 24 * o + k < 96; omega) (by decide) ?_
        refine mo_abL 4 hR rfl (fun w hR hF9 => ?_)
        have hF := hF.tr hF9
        refine zr_iinc (ls' := [(6, _), (4, _), (3, _), (2, _), (0, _), (1, _)]) C d_Mo_spread_73 rfl (by decide) rfl ?_
        refine r_goto (tgt := 33) C d_Mo_spread_76 (by decide) ?_
        exact ih (k + 1) _ (sq S1 4 (24 * o + k) (joinF S1 j v (S1.2 4 (24 * o + k)))) w (by omega) h3 (by rw [← h2]; rfl) hR hF
  have hF : MoF m w w := MoF.rf
  show fxR G 7 x _ w 0 [(0, .ref m), (1, zi (t : Int))] []
  refine r_aload_n C d_Mo_spread_0 rfl rfl ?_
  refine g_Mo_47 C d_Mo_spread_1 hR.1 (hR.ar 15 rfl) ?_
  refine r_iload_n C d_Mo_spread_4 rfl rfl ?_
  refine zr_iaload (t := 1) (k := t) C d_Mo_spread_5 (by decide) rfl (Or.inl (hR.kd 15 rfl)) (by omega) (by show t < 600; omega) (by decide) (hR.el 15 rfl (by show t < 600; omega)) ?_
  rw [e15]
  refine r_istore_n (ls' := [(2, _), (0, _), (1, _)]) C d_Mo_spread_6 rfl (by decide) rfl ?_
  refine r_bipush (v := Int32.ofInt 24) C d_Mo_spread_7 (by decide) ?_
  refine r_aload_n C d_Mo_spread_9 rfl rfl ?_
  refine g_Mo_23 C d_Mo_spread_10 hR.1 (hR.ar 6 rfl) ?_
  refine r_iload_n C d_Mo_spread_13 rfl rfl ?_
  refine zr_iaload (t := 1) (k := j) C d_Mo_spread_14 (by decide) rfl (Or.inl (hR.kd 6 rfl)) (by omega) (by show j < 12; omega) (by decide) (hR.el 6 rfl (by show j < 12; omega)) ?_
  rw [e6]
  refine zr_imul C d_Mo_spread_15 ?_
  refine r_istore_n (ls' := [(3, _), (2, _), (0, _), (1, _)]) C d_Mo_spread_16 rfl (by decide) rfl ?_
  refine r_aload_n C d_Mo_spread_17 rfl rfl ?_
  refine g_Mo_68 C d_Mo_spread_18 hR.1 (hR.arL 22 rfl) ?_
  refine r_iload_n C d_Mo_spread_21 rfl rfl ?_
  refine zr_laload (t := 0) (k := t) C d_Mo_spread_22 (by decide) rfl (Or.inl (hR.kdL 22 rfl)) (by omega) (by show t < 600; omega) (by decide) (hR.elL 22 rfl (by show t < 600; omega)) ?_
  refine r_lstore (ls' := [(4, _), (3, _), (2, _), (0, _), (1, _)]) C d_Mo_spread_23 (by decide) rfl ?_
  refine r_aload_n C d_Mo_spread_25 rfl rfl ?_
  refine g_Mo_50 C d_Mo_spread_26 hR.1 (hR.ar 16 rfl) ?_
  refine r_iload_n C d_Mo_spread_29 rfl rfl ?_
  refine zr_iaload (t := 1) (k := t) C d_Mo_spread_30 (by decide) rfl (Or.inl (hR.kd 16 rfl)) (by omega) (by show t < 600; omega) (by decide) (hR.el 16 rfl (by show t < 600; omega)) ?_
  rw [e16]
  refine r_istore (ls' := [(6, _), (4, _), (3, _), (2, _), (0, _), (1, _)]) C d_Mo_spread_31 (by decide) rfl ?_
  exact loop (hi - lo) lo _ S w (by omega) rfl rfl hR hF
set_option maxRecDepth 20000 in
theorem m_order {G : fxG} (d : Nat) {S : Ms} {m : Nat} {w : fxW} (hR : MoR S m w) {a lo hi : Nat} (ha : a ≤ 72) (hlh : lo < hi) (h24 : hi ≤ 24) : fxM G d y_Mo_order [.ref m, zi (a : Int), zi (lo : Int), zi (hi : Int)] w (moVoid m w (mOrder S a lo hi)) := by
  refine fxM.of cc_Mo_order 8 none [] (by decide +kernel) w_Mo_order (Nat.le_of_ble_eq_true rfl) ?_
  intro x C ht hu
  unfold mOrder
  generalize hQ : moVoid m w (ordF (a + lo) (a + lo + 1) (hi - (lo + 1)) S) = QQ
  have inner : ∀ (S0 : Ms) (i : Nat), i < a + hi → a + lo < i → (∀ w1, MoR (insF (a + lo) i S0) m w1 → MoF m w w1 → fxR G 8 x (fxQ G x QQ) w1 89 [(4, zi (i : Int)), (0, .ref m), (1, zi (a : Int)), (2, zi (lo : Int)), (3, zi (hi : Int))] []) → ∀ (k : Nat) (S1 : Ms) (w1 : fxW), k ≤ i → a + lo ≤ k → insF (a + lo) k S1 = insF (a + lo) i S0 → MoR S1 m w1 → MoF m w w1 → fxR G 8 x (fxQ G x QQ) w1 19 [(5, zi (k : Int)), (4, zi (i : Int)), (0, .ref m), (1, zi (a : Int)), (2, zi (lo : Int)), (3, zi (hi : Int))] [] := by
    intro S0 i hi1 hi2 next k
    induction k with
    | zero =>
      intro S1 w h1 h2 h3 hR hF
      refine r_iload C d_Mo_order_19 rfl ?_
      refine r_iload_n C d_Mo_order_21 rfl rfl ?_
      refine r_iload_n C d_Mo_order_22 rfl rfl ?_
      refine zr_iadd C d_Mo_order_23 ?_
      refine zr_icmp_le (tgt := 89) C d_Mo_order_24 (by decide) (by unfold zok; omega) (by unfold zok; omega) (fun c_24 => ?_) (fun c_24 => ?_)
      · refine fx_sub (ls' := [(4, zi (i : Int)), (0, .ref m), (1, zi (a : Int)), (2, zi (lo : Int)), (3, zi (hi : Int))]) (by simp [fxL]) ?_
        exact next w (by rw [← h3]; exact hR) hF
      · exact absurd c_24 (by omega)
    | succ k ih =>
      intro S1 w h1 h2 h3 hR hF
      refine r_iload C d_Mo_order_19 rfl ?_
      refine r_iload_n C d_Mo_order_21 rfl rfl ?_
      refine r_iload_n C d_Mo_order_22 rfl rfl ?_
      refine zr_iadd C d_Mo_order_23 ?_
      refine zr_icmp_le (tgt := 89) C d_Mo_order_24 (by decide) (by unfold zok; omega) (by unfold zok; omega) (fun c_24 => ?_) (fun c_24 => ?_)
      · refine fx_sub (ls' := [(4, zi (i : Int)), (0, .ref m), (1, zi (a : Int)), (2, zi (lo : Int)), (3, zi (hi : Int))]) (by simp [fxL]) ?_
        have e : insF (a + lo) (k + 1) S1 = S1 := by unfold insF; rw [if_neg (by omega)]
        exact next w (by rw [← h3, e]; exact hR) hF
      · refine r_aload_n C d_Mo_order_27 rfl rfl ?_
        refine g_Mo_16 C d_Mo_order_28 hR.1 (hR.arL 4 rfl) ?_
        refine r_iload C d_Mo_order_31 rfl ?_
        refine r_iconst C d_Mo_order_33 rfl ?_
        refine zr_isub C d_Mo_order_34 ?_
        refine zr_laload (t := 0) (k := k) C d_Mo_order_35 (by decide) rfl (Or.inl (hR.kdL 4 rfl)) (by omega) (by show k < 96; omega) (by decide) (hR.elL 4 rfl (by show k < 96; omega)) ?_
        refine r_aload_n C d_Mo_order_36 rfl rfl ?_
        refine g_Mo_16 C d_Mo_order_37 hR.1 (hR.arL 4 rfl) ?_
        refine r_iload C d_Mo_order_40 rfl ?_
        refine zr_laload (t := 0) (k := k + 1) C d_Mo_order_42 (by decide) rfl (Or.inl (hR.kdL 4 rfl)) (by omega) (by show k + 1 < 96; omega) (by decide) (hR.elL 4 rfl (by show k + 1 < 96; omega)) ?_
        refine zr_lif_le (tgt := 89) C d_Mo_order_43 d_Mo_order_44 (by decide) (fun c_43 => ?_) (fun c_43 => ?_)
        · refine fx_sub (ls' := [(4, zi (i : Int)), (0, .ref m), (1, zi (a : Int)), (2, zi (lo : Int)), (3, zi (hi : Int))]) (by simp [fxL]) ?_
          have e : insF (a + lo) (k + 1) S1 = S1 := by
            unfold insF; rw [if_neg (fun q => absurd q.2 (Int64.not_lt.mpr c_43))]
          exact next w (by rw [← h3, e]; exact hR) hF
        · have e : insF (a + lo) (k + 1) S1 = insF (a + lo) k (mSwap S1 k) := by
            rw [insF, if_pos ⟨by omega, Int64.not_le.mp c_43⟩]
          refine r_aload_n C d_Mo_order_47 rfl rfl ?_
          refine g_Mo_16 C d_Mo_order_48 hR.1 (hR.arL 4 rfl) ?_
          refine r_iload C d_Mo_order_51 rfl ?_
          refine zr_laload (t := 0) (k := k + 1) C d_Mo_order_53 (by decide) rfl (Or.inl (hR.kdL 4 rfl)) (by omega) (by show k + 1 < 96; omega) (by decide) (hR.elL 4 rfl (by show k + 1 < 96; omega)) ?_
          refine r_lstore (ls' := [(6, _), (5, _), (4, _), (0, _), (1, _), (2, _), (3, _)]) C d_Mo_order_54 (by decide) rfl ?_
          refine r_aload_n C d_Mo_order_56 rfl rfl ?_
          refine g_Mo_16 C d_Mo_order_57 hR.1 (hR.arL 4 rfl) ?_
          refine r_iload C d_Mo_order_60 rfl ?_
          refine r_aload_n C d_Mo_order_62 rfl rfl ?_
          refine g_Mo_16 C d_Mo_order_63 hR.1 (hR.arL 4 rfl) ?_
          refine r_iload C d_Mo_order_66 rfl ?_
          refine r_iconst C d_Mo_order_68 rfl ?_
          refine zr_isub C d_Mo_order_69 ?_
          refine zr_laload (t := 0) (k := k) C d_Mo_order_70 (by decide) rfl (Or.inl (hR.kdL 4 rfl)) (by omega) (by show k < 96; omega) (by decide) (hR.elL 4 rfl (by show k < 96; omega)) ?_
          refine zr_lastore (t := 0) (k := k + 1) C d_Mo_order_71 (by decide) rfl (hR.kdL 4 rfl) (by omega) (by show k + 1 < 96; omega) (by decide) ?_
          refine mo_abL 4 hR rfl (fun w hR hF9 => ?_)
          have hF := hF.tr hF9
          refine r_aload_n C d_Mo_order_72 rfl rfl ?_
          refine g_Mo_16 C d_Mo_order_73 hR.1 (hR.arL 4 rfl) ?_
          refine r_iload C d_Mo_order_76 rfl ?_
          refine r_iconst C d_Mo_order_78 rfl ?_
          refine zr_isub C d_Mo_order_79 ?_
          refine r_lload C d_Mo_order_80 rfl ?_
          refine zr_lastore (t := 0) (k := k) C d_Mo_order_82 (by decide) rfl (hR.kdL 4 rfl) (by omega) (by show k < 96; omega) (by decide) ?_
          refine mo_abL 4 hR rfl (fun w hR hF9 => ?_)
          have hF := hF.tr hF9
          refine zr_iinc (ls' := [(5, _), (6, _), (4, _), (0, _), (1, _), (2, _), (3, _)]) C d_Mo_order_83 rfl (by decide) rfl ?_
          refine r_goto (tgt := 19) C d_Mo_order_86 (by decide) ?_
          rw [show ((k + 1 : Nat) : Int) + -1 = (k : Int) by omega]
          refine fx_sub (ls' := [(5, zi (k : Int)), (4, zi (i : Int)), (0, .ref m), (1, zi (a : Int)), (2, zi (lo : Int)), (3, zi (hi : Int))]) (by simp [fxL]) ?_
          exact ih _ w (by omega) (by omega) (by rw [← h3, e]; rfl) hR hF
  have outer : ∀ (n i : Nat) (S1 : Ms) (w1 : fxW), i + n = a + hi → a + lo < i → ordF (a + lo) i n S1 = ordF (a + lo) (a + lo + 1) (hi - (lo + 1)) S → MoR S1 m w1 → MoF m w w1 → fxR G 8 x (fxQ G x QQ) w1 7 [(4, zi (i : Int)), (0, .ref m), (1, zi (a : Int)), (2, zi (lo : Int)), (3, zi (hi : Int))] [] := by
    intro n
    induction n with
    | zero =>
      intro i S1 w h1 h2 h3 hR hF
      refine r_iload C d_Mo_order_7 rfl ?_
      refine r_iload_n C d_Mo_order_9 rfl rfl ?_
      refine r_iload_n C d_Mo_order_10 rfl rfl ?_
      refine zr_iadd C d_Mo_order_11 ?_
      refine zr_icmp_ge (tgt := 95) C d_Mo_order_12 (by decide) (by unfold zok; omega) (by unfold zok; omega) (fun c_12 => ?_) (fun c_12 => ?_)
      · rw [← hQ]
        exact r_return C d_Mo_order_95 rfl ⟨rfl, by rw [← h3]; exact hR, hF⟩
      · exact absurd c_12 (by omega)
    | succ n ih =>
      intro i S1 w h1 h2 h3 hR hF
      refine r_iload C d_Mo_order_7 rfl ?_
      refine r_iload_n C d_Mo_order_9 rfl rfl ?_
      refine r_iload_n C d_Mo_order_10 rfl rfl ?_
      refine zr_iadd C d_Mo_order_11 ?_
      refine zr_icmp_ge (tgt := 95) C d_Mo_order_12 (by decide) (by unfold zok; omega) (by unfold zok; omega) (fun c_12 => ?_) (fun c_12 => ?_)
      · exact absurd c_12 (by omega)
      · refine r_iload C d_Mo_order_15 rfl ?_
        refine r_istore (ls' := [(5, _), (4, _), (0, _), (1, _), (2, _), (3, _)]) C d_Mo_order_17 (by decide) rfl ?_
        refine inner S1 i (by omega) h2 (fun w hR hF => ?_) i S1 w (Nat.le_refl i) (by omega) rfl hR hF
        refine zr_iinc (ls' := [(4, _), (0, _), (1, _), (2, _), (3, _)]) C d_Mo_order_89 rfl (by decide) rfl ?_
        refine r_goto (tgt := 7) C d_Mo_order_92 (by decide) ?_
        exact ih (i + 1) _ w (by omega) (by omega) (by rw [← h3]; rfl) hR hF
  have hF : MoF m w w := MoF.rf
  show fxR G 8 x _ w 0 [(0, .ref m), (1, zi (a : Int)), (2, zi (lo : Int)), (3, zi (hi : Int))] []
  refine r_iload_n C d_Mo_order_0 rfl rfl ?_
  refine r_iload_n C d_Mo_order_1 rfl rfl ?_
  refine zr_iadd C d_Mo_order_2 ?_
  refine r_iconst C d_Mo_order_3 rfl ?_
  refine zr_iadd C d_Mo_order_4 ?_
  refine r_istore (ls' := [(4, _), (0, _), (1, _), (2, _), (3, _)]) C d_Mo_order_5 (by decide) rfl ?_
  exact outer (hi - (lo + 1)) (a + lo + 1) S w (by omega) (by omega) rfl hR hF

/-! THE REFERENCE'S METHODS, III: inQueues, leaf -/
/-- how many of 0 .. n - 1 have f -/
noncomputable def cnt (f : Nat → Prop) : Nat → Nat
  | 0 => 0
  | n + 1 => cnt f n + @ite _ (f n) (Classical.propDecidable _) 1 0
theorem cnt_t {f : Nat → Prop} {n : Nat} (h : f n) : cnt f (n + 1) = cnt f n + 1 := congrArg (cnt f n + ·) (@if_pos _ (Classical.propDecidable _) h _ _ _)
theorem cnt_f {f : Nat → Prop} {n : Nat} (h : ¬ f n) : cnt f (n + 1) = cnt f n := congrArg (cnt f n + ·) (@if_neg _ (Classical.propDecidable _) h _ _ _)
/-- the tasks of the job j in the queue i; in the first n queues -/
noncomputable def inQ1 (S : Ms) (j : Int) (i : Nat) : Nat := cnt (fun k => S.1 15 (S.1 24 (600 * i + k)).toNat = j) (S.1 25 i).toNat
noncomputable def inQ (S : Ms) (j : Int) : Nat → Nat
  | 0 => 0
  | i + 1 => inQ S j i + inQ1 S j i
set_option maxRecDepth 20000 in
theorem m_inQueues {G : fxG} (d : Nat) {S : Ms} {m : Nat} {w : fxW} (hR : MoR S m w) (j : Nat) (hj : j < 12) (hB : Bi S) : fxM G d y_Mo_inQueues [.ref m, zi (j : Int)] w (fxPure (zi (inQ S j (S.1 1 0).toNat)) w) := by
  refine fxM.of cc_Mo_inQueues 5 (some .int) [] (by decide +kernel) w_Mo_inQueues (Nat.le_of_ble_eq_true rfl) ?_
  intro x C ht hu
  obtain ⟨W, hW⟩ := Int.eq_ofNat_of_zero_le (show 0 ≤ S.1 1 0 by have := hB.1.1; omega)
  have hW4 : W ≤ 4 := by have := hB.1.2; omega
  rw [hW, show ((W : Int)).toNat = W from Int.toNat_natCast W]
  generalize hQ : fxPure (zi (inQ S j W)) w = QQ
  have inner : ∀ (i : Nat), i < 4 → (fxR G 5 x (fxQ G x QQ) w 57 [(2, zi ((inQ S j (i + 1) : Nat) : Int)), (3, zi (i : Int)), (0, .ref m), (1, zi (j : Int))] []) → ∀ (n k a : Nat), S.1 25 i = ((k + n : Nat) : Int) → a = inQ S j i + cnt (fun k => S.1 15 (S.1 24 (600 * i + k)).toNat = (j : Int)) k → fxR G 5 x (fxQ G x QQ) w 15 [(4, zi (k : Int)), (2, zi (a : Int)), (3, zi (i : Int)), (0, .ref m), (1, zi (j : Int))] [] := by
    intro i hi4 next n
    have b := hB.2.2.2.2.2.2.1 i hi4
    have b1 := b.2.1
    induction n with
    | zero =>
      intro k a h1 ha
      refine r_iload C d_Mo_inQueues_15 rfl ?_
      refine r_aload_n C d_Mo_inQueues_17 rfl rfl ?_
      refine g_Mo_74 C d_Mo_inQueues_18 hR.1 (hR.ar 25 rfl) ?_
      refine r_iload_n C d_Mo_inQueues_21 rfl rfl ?_
      refine zr_iaload (t := 1) (k := i) C d_Mo_inQueues_22 (by decide) rfl (Or.inl (hR.kd 25 rfl)) (by omega) (by show i < 4; omega) (by decide) (hR.el 25 rfl (by show i < 4; omega)) ?_
      refine zr_icmp_ge (tgt := 57) C d_Mo_inQueues_23 (by decide) (by unfold zok; omega) (by unfold zok; omega) (fun c_23 => ?_) (fun c_23 => ?_)
      · refine fx_sub (ls' := [(2, zi ((inQ S j (i + 1) : Nat) : Int)), (3, zi (i : Int)), (0, .ref m), (1, zi (j : Int))]) (by rw [show inQ S j (i + 1) = a by rw [ha]; show _ + inQ1 S j i = _; unfold inQ1; rw [h1]; rfl]; simp [fxL]) ?_
        exact next
      · exact absurd c_23 (by omega)
    | succ n ih =>
      intro k a h1 ha
      obtain ⟨b2, b3⟩ := b.2.2 k (by omega)
      obtain ⟨t, ht1⟩ := Int.eq_ofNat_of_zero_le b2
      have hT6 := hB.2.2.2.2.1.2
      have tt := hB.2.2.2.2.2.1 t (by omega)
      have hJ := hB.2.2.1.2
      refine r_iload C d_Mo_inQueues_15 rfl ?_
      refine r_aload_n C d_Mo_inQueues_17 rfl rfl ?_
      refine g_Mo_74 C d_Mo_inQueues_18 hR.1 (hR.ar 25 rfl) ?_
      refine r_iload_n C d_Mo_inQueues_21 rfl rfl ?_
      refine zr_iaload (t := 1) (k := i) C d_Mo_inQueues_22 (by decide) rfl (Or.inl (hR.kd 25 rfl)) (by omega) (by show i < 4; omega) (by decide) (hR.el 25 rfl (by show i < 4; omega)) ?_
      refine zr_icmp_ge (tgt := 57) C d_Mo_inQueues_23 (by decide) (by unfold zok; omega) (by unfold zok; omega) (fun c_23 => ?_) (fun c_23 => ?_)
      · exact absurd c_23 (by omega)
      · refine r_aload_n C d_Mo_inQueues_26 rfl rfl ?_
        refine g_Mo_47 C d_Mo_inQueues_27 hR.1 (hR.ar 15 rfl) ?_
        refine r_aload_n C d_Mo_inQueues_30 rfl rfl ?_
        refine g_Mo_71 C d_Mo_inQueues_31 hR.1 (hR.ar 24 rfl) ?_
        refine r_sipush (v := Int32.ofInt 600) C d_Mo_inQueues_34 (by decide) ?_
        refine r_iload_n C d_Mo_inQueues_37 rfl rfl ?_
        refine zr_imul C d_Mo_inQueues_38 ?_
        refine r_iload C d_Mo_inQueues_39 rfl ?_
        refine zr_iadd C d_Mo_inQueues_41 ?_
        refine zr_iaload (t := 1) (k := 600 * i + k) C d_Mo_inQueues_42 (by decide) rfl (Or.inl (hR.kd 24 rfl)) (by omega) (by show 600 * i + k < 2400; omega) (by decide) (hR.el 24 rfl (by show 600 * i + k < 2400; omega)) ?_
        rw [ht1]
        refine zr_iaload (t := 1) (k := t) C d_Mo_inQueues_43 (by decide) rfl (Or.inl (hR.kd 15 rfl)) (by omega) (by show t < 600; omega) (by decide) (hR.el 15 rfl (by show t < 600; omega)) ?_
        refine r_iload_n C d_Mo_inQueues_44 rfl rfl ?_
        refine zr_icmp_ne (tgt := 51) C d_Mo_inQueues_45 (by decide) (by have := tt.1; have := tt.2.1; unfold zok; omega) (by unfold zok; omega) (fun c_45 => ?_) (fun c_45 => ?_)
        · refine zr_iinc (ls' := [(4, _), (2, _), (3, _), (0, _), (1, _)]) C d_Mo_inQueues_51 rfl (by decide) rfl ?_
          refine r_goto (tgt := 15) C d_Mo_inQueues_54 (by decide) ?_
          exact ih (k + 1) a (by omega) (by rw [ha, cnt_f (by rw [ht1]; exact c_45)])
        · refine zr_iinc (ls' := [(2, _), (4, _), (3, _), (0, _), (1, _)]) C d_Mo_inQueues_48 rfl (by decide) rfl ?_
          refine zr_iinc (ls' := [(4, _), (2, _), (3, _), (0, _), (1, _)]) C d_Mo_inQueues_51 rfl (by decide) rfl ?_
          refine r_goto (tgt := 15) C d_Mo_inQueues_54 (by decide) ?_
          exact fx_sub (ls' := [(4, zi ((k + 1 : Nat) : Int)), (2, zi ((a + 1 : Nat) : Int)), (3, zi (i : Int)), (0, .ref m), (1, zi (j : Int))]) (by simp [fxL]) (ih (k + 1) (a + 1) (by omega) (by rw [ha, cnt_t (by rw [ht1]; exact c_45)]; omega))
  have outer : ∀ (n i : Nat), i + n = W → fxR G 5 x (fxQ G x QQ) w 4 [(2, zi ((inQ S j i : Nat) : Int)), (3, zi (i : Int)), (0, .ref m), (1, zi (j : Int))] [] := by
    intro n
    induction n with
    | zero =>
      intro i h1
      refine r_iload_n C d_Mo_inQueues_4 rfl rfl ?_
      refine r_aload_n C d_Mo_inQueues_5 rfl rfl ?_
      refine g_Mo_93 C d_Mo_inQueues_6 hR.1 (hR.sc 1 rfl) ?_
      refine zr_icmp_ge (tgt := 63) C d_Mo_inQueues_9 (by decide) (by unfold zok; omega) (by unfold zok; omega) (fun c_9 => ?_) (fun c_9 => ?_)
      · refine r_iload_n C d_Mo_inQueues_63 rfl rfl ?_
        rw [← hQ]
        exact r_ireturn C d_Mo_inQueues_64 rfl ⟨by rw [show i = W by omega], rfl⟩
      · exact absurd c_9 (by omega)
    | succ n ih =>
      intro i h1
      have b := (hB.2.2.2.2.2.2.1 i (by omega)).1
      refine r_iload_n C d_Mo_inQueues_4 rfl rfl ?_
      refine r_aload_n C d_Mo_inQueues_5 rfl rfl ?_
      refine g_Mo_93 C d_Mo_inQueues_6 hR.1 (hR.sc 1 rfl) ?_
      refine zr_icmp_ge (tgt := 63) C d_Mo_inQueues_9 (by decide) (by unfold zok; omega) (by unfold zok; omega) (fun c_9 => ?_) (fun c_9 => ?_)
      · exact absurd c_9 (by omega)
      · refine r_iconst C d_Mo_inQueues_12 rfl ?_
        refine r_istore (ls' := [(4, _), (2, _), (3, _), (0, _), (1, _)]) C d_Mo_inQueues_13 (by decide) rfl ?_
        refine inner i (by omega) ?_ (S.1 25 i).toNat 0 _ (by omega) rfl
        refine zr_iinc (ls' := [(3, _), (2, _), (0, _), (1, _)]) C d_Mo_inQueues_57 rfl (by decide) rfl ?_
        refine r_goto (tgt := 4) C d_Mo_inQueues_60 (by decide) ?_
        exact fx_sub (ls' := [(2, zi ((inQ S j (i + 1) : Nat) : Int)), (3, zi ((i + 1 : Nat) : Int)), (0, .ref m), (1, zi (j : Int))]) (by simp [fxL]) (ih (i + 1) (by omega))
  show fxR G 5 x _ w 0 [(0, .ref m), (1, zi (j : Int))] []
  refine r_iconst C d_Mo_inQueues_0 rfl ?_
  refine r_istore_n (ls' := [(2, _), (0, _), (1, _)]) C d_Mo_inQueues_1 rfl (by decide) rfl ?_
  refine r_iconst C d_Mo_inQueues_2 rfl ?_
  refine r_istore_n (ls' := [(3, _), (2, _), (0, _), (1, _)]) C d_Mo_inQueues_3 rfl (by decide) rfl ?_
  exact fx_sub (ls' := [(2, zi ((inQ S j 0 : Nat) : Int)), (3, zi ((0 : Nat) : Int)), (0, .ref m), (1, zi (j : Int))]) (by rw [show inQ S j 0 = 0 from rfl]; simp [fxL]) (outer W 0 (by omega))

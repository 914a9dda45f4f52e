section FXP
variable {G : fxG} {d nL : Nat} {cc : ByteArray} {own nm : String} {ret : Option FieldType} {hh : List (Nat × Nat × Nat × Nat)} {x : fxX} {Q : State → Prop} {w : fxW} {pc : Nat} {ls : List (Nat × Value)} {st : List Value}
theorem r_pop (C : fxC G d cc nL own nm ret hh x) {a : Value} (hd : decode cc pc = .ok (.pop, 1)) (ha : a.category = 1) (k : fxR G nL x Q w (pc + 1) ls st) : fxR G nL x Q w pc ls (a :: st) := by
  obtain ⟨p, e, R, s, m, args, below, meth, c, t0, u0⟩ := x
  obtain ⟨hx, hb', C2⟩ := C
  exact fx_lift (fun H locs sl cells slots h3 kk => lv_pop hx hb' hd ha kk) k
end FXP
/-! WHAT KEEPS THE REFERENCE WITHIN ITS ARRAYS -/
def BiA (S : Ms) (a : Nat) : Prop := -1 ≤ S.1 2 a ∧ S.1 2 a ≤ 5 ∧ 0 ≤ S.1 3 a ∧ S.1 3 a ≤ 24 ∧ (0 ≤ S.1 2 a → 1 ≤ S.1 3 a)
def BiJ (S : Ms) (j : Nat) : Prop := 0 ≤ S.1 5 j ∧ S.1 5 j ≤ 5 ∧ 0 ≤ S.1 6 j ∧ S.1 6 j ≤ 3 ∧ 0 ≤ S.1 2 (S.1 6 j).toNat ∧ 0 ≤ S.1 9 j ∧ S.1 9 j ≤ 2 ∧ 1 ≤ S.1 13 j ∧ S.1 13 j ≤ 2 ∧ 0 ≤ S.1 12 j ∧ S.1 12 j < S.1 23 0 ∧ -1000 ≤ S.1 7 j ∧ S.1 7 j ≤ 1000 ∧ -1000 ≤ S.1 8 j ∧ S.1 8 j ≤ 1000
def BiT (S : Ms) (t : Nat) : Prop := 0 ≤ S.1 15 t ∧ S.1 15 t < S.1 14 0 ∧ 0 ≤ S.1 16 t ∧ S.1 16 t < S.1 17 t ∧ S.1 17 t ≤ 24 ∧ -1 ≤ S.1 18 t ∧ S.1 18 t < t ∧ (S.1 19 t = -1 ∨ ((t : Int) < S.1 19 t ∧ S.1 19 t + 1 < S.1 23 0)) ∧ 0 ≤ S.1 20 t ∧ S.1 20 t ≤ 2 ∧ (0 ≤ S.1 18 t → (S.1 19 (S.1 18 t).toNat = t ∨ S.1 19 (S.1 18 t).toNat + 1 = t) ∧ S.1 15 (S.1 18 t).toNat = S.1 15 t)
def BiQ (S : Ms) (i : Nat) : Prop := 0 ≤ S.1 25 i ∧ S.1 25 i ≤ 600 ∧ ∀ k : Nat, (k : Int) < S.1 25 i → 0 ≤ S.1 24 (600 * i + k) ∧ S.1 24 (600 * i + k) < S.1 23 0
def Bi (S : Ms) : Prop :=
  (1 ≤ S.1 1 0 ∧ S.1 1 0 ≤ 4) ∧ (∀ a, a < 4 → BiA S a) ∧ (0 ≤ S.1 14 0 ∧ S.1 14 0 ≤ 12) ∧ (∀ j : Nat, (j : Int) < S.1 14 0 → BiJ S j) ∧ (0 ≤ S.1 23 0 ∧ S.1 23 0 ≤ 600) ∧ (∀ t : Nat, (t : Int) < S.1 23 0 → BiT S t) ∧ (∀ i, i < 4 → BiQ S i) ∧ (∀ i : Nat, (i : Int) < S.1 1 0 → 0 ≤ S.1 29 i ∧ S.1 29 i < S.1 1 0) ∧ (1 ≤ S.1 30 0 ∧ S.1 30 0 ≤ 24) ∧ (0 ≤ S.1 32 0 ∧ S.1 32 0 < S.1 1 0)
theorem mPull_k {S : Ms} {i k : Nat} (c j : Nat) (h4 : c ≠ 24) (h5 : c ≠ 25) : (mPull S i k).1 c j = S.1 c j := by
  unfold mPull; rw [mShift_k _ _ _ _ h4, sp_k _ _ _ _ h5]
theorem mPull_25 {S : Ms} {i k : Nat} (j : Nat) : (mPull S i k).1 25 j = if j = i then S.1 25 i - 1 else S.1 25 j := by
  unfold mPull; rw [mShift_k _ _ _ _ (by decide)]
  by_cases h : j = i
  · subst h; rw [sp_same, if_pos rfl]
  · rw [sp_j _ _ _ h, if_neg h]
theorem mPull_24 {S : Ms} {i k q : Nat} (hq : S.1 25 i = (q : Int)) (j : Nat) : (mPull S i k).1 24 j = if 600 * i + k ≤ j ∧ j < 600 * i + (q - 1) then S.1 24 (j + 1) else S.1 24 j := by
  unfold mPull; rw [mShift_24, hq]; rfl
theorem mPull_2 (S : Ms) (i k : Nat) : (mPull S i k).2 = S.2 := rfl
/-- a change that leaves the arrays', jobs' and tasks' numbers alone -/
theorem Bi.mono {S S' : Ms} (h : Bi S) (hc : ∀ c j, c ≠ 24 → c ≠ 25 → c ≠ 10 → c ≠ 11 → c ≠ 26 → c ≠ 27 → c ≠ 28 → c ≠ 31 → c ≠ 0 → S'.1 c j = S.1 c j) (hq : ∀ i, i < 4 → BiQ S' i) : Bi S' := by
  obtain ⟨h1, h2, h3, h4, h5, h6, h7, h8, h9, h10⟩ := h
  have c' : ∀ c j, c = 1 ∨ c = 2 ∨ c = 3 ∨ c = 5 ∨ c = 6 ∨ c = 7 ∨ c = 8 ∨ c = 9 ∨ c = 12 ∨ c = 13 ∨ c = 14 ∨ c = 15 ∨ c = 16 ∨ c = 17 ∨ c = 18 ∨ c = 19 ∨ c = 20 ∨ c = 23 ∨ c = 29 ∨ c = 30 ∨ c = 32 → S'.1 c j = S.1 c j := fun c j h => hc c j (by omega) (by omega) (by omega) (by omega) (by omega) (by omega) (by omega) (by omega) (by omega)
  refine ⟨?_, ?_, ?_, ?_, ?_, ?_, hq, ?_, ?_, ?_⟩
  · rw [c' 1 0 (by simp)]; exact h1
  · intro a ha; unfold BiA; rw [c' 2 a (by simp), c' 3 a (by simp)]; exact h2 a ha
  · rw [c' 14 0 (by simp)]; exact h3
  · intro j hj; rw [c' 14 0 (by simp)] at hj; unfold BiJ; rw [c' 5 j (by simp), c' 6 j (by simp), c' 2 _ (by simp), c' 9 j (by simp), c' 13 j (by simp), c' 12 j (by simp), c' 23 0 (by simp), c' 7 j (by simp), c' 8 j (by simp)]; exact h4 j hj
  · rw [c' 23 0 (by simp)]; exact h5
  · intro t ht; rw [c' 23 0 (by simp)] at ht; unfold BiT; rw [c' 15 t (by simp), c' 14 0 (by simp), c' 16 t (by simp), c' 17 t (by simp), c' 18 t (by simp), c' 19 t (by simp), c' 20 t (by simp), c' 23 0 (by simp), c' 19 _ (by simp), c' 15 _ (by simp)]; exact h6 t ht
  · intro i hi; rw [c' 1 0 (by simp)] at hi ⊢; rw [c' 29 i (by simp)]; exact h8 i hi
  · rw [c' 30 0 (by simp)]; exact h9
  · rw [c' 32 0 (by simp), c' 1 0 (by simp)]; exact h10
theorem Bi_pull {S : Ms} {i k q : Nat} (h : Bi S) (hi : i < 4) (hq : S.1 25 i = (q : Int)) (hk : k < q) : Bi (mPull S i k) := by
  refine h.mono (fun c j h4 h5 _ _ _ _ _ _ _ => mPull_k c j h4 h5) (fun i' hi' => ?_)
  obtain ⟨-, -, -, -, -, -, h7, -⟩ := h
  obtain ⟨a1, a2, a3⟩ := h7 i' hi'
  have hq6 := (h7 i hi).2.1
  unfold BiQ
  rw [mPull_25]
  by_cases e : i' = i
  · subst e
    rw [if_pos rfl]
    refine ⟨by omega, by omega, fun k' hk' => ?_⟩
    rw [mPull_24 hq, mPull_k 23 0 (by decide) (by decide)]
    by_cases c1 : 600 * i' + k ≤ 600 * i' + k' ∧ 600 * i' + k' < 600 * i' + (q - 1)
    · rw [if_pos c1, show 600 * i' + k' + 1 = 600 * i' + (k' + 1) by omega]; exact a3 (k' + 1) (by omega)
    · rw [if_neg c1]; exact a3 k' (by omega)
  · rw [if_neg e]
    refine ⟨a1, a2, fun k' hk' => ?_⟩
    rw [mPull_24 hq, mPull_k 23 0 (by decide) (by decide), if_neg (by omega)]
    exact a3 k' hk'
theorem endW_succ (i : Nat) (j : Int) (n k : Nat) (S : Ms) : endW i j (n + 1) k S = if S.1 15 (S.1 24 (600 * i + k)).toNat = j then endW i j n k (mPull S i k) else endW i j n (k + 1) S := rfl
theorem endW_Bi {i : Nat} (j : Int) (hi : i < 4) : ∀ (n k : Nat) (S : Ms), Bi S → S.1 25 i = ((k + n : Nat) : Int) → Bi (endW i j n k S) ∧ ∀ c jj, c ≠ 24 → c ≠ 25 → (endW i j n k S).1 c jj = S.1 c jj := by
  intro n
  induction n with
  | zero => intro k S h _; exact ⟨h, fun _ _ _ _ => rfl⟩
  | succ n ih =>
    intro k S h h1
    rw [endW_succ]
    split
    · obtain ⟨q1, q2⟩ := ih k (mPull S i k) (Bi_pull h hi h1 (by omega)) (by rw [mPull_25, if_pos rfl]; omega)
      exact ⟨q1, fun c jj h4 h5 => (q2 c jj h4 h5).trans (mPull_k c jj h4 h5)⟩
    · exact ih (k + 1) S h (by omega)
theorem endA_succ (j : Int) (n i : Nat) (S : Ms) : endA j (n + 1) i S = endA j n (i + 1) (endW i j (S.1 25 i).toNat 0 S) := rfl
theorem endA_Bi (j : Int) : ∀ (n i : Nat) (S : Ms), i + n ≤ 4 → Bi S → Bi (endA j n i S) ∧ ∀ c jj, c ≠ 24 → c ≠ 25 → (endA j n i S).1 c jj = S.1 c jj := by
  intro n
  induction n with
  | zero => intro i S _ h; exact ⟨h, fun _ _ _ _ => rfl⟩
  | succ n ih =>
    intro i S hi h
    rw [endA_succ]
    have b := (h.2.2.2.2.2.2.1 i (by omega)).1
    obtain ⟨q1, q2⟩ := endW_Bi j (i := i) (by omega) (S.1 25 i).toNat 0 S h (by omega)
    obtain ⟨q3, q4⟩ := ih (i + 1) _ (by omega) q1
    exact ⟨q3, fun c jj h4 h5 => (q4 c jj h4 h5).trans (q2 c jj h4 h5)⟩
theorem Bi_st {S : Ms} (h : Bi S) (j : Nat) (s x : Int) (hs : 0 ≤ s ∧ s ≤ 2) : Bi (sp (sp S 9 j s) 10 j x) := by
  obtain ⟨h1, h2, h3, h4, h5, h6, h7, h8, h9, h10⟩ := h
  refine ⟨h1, h2, h3, fun j' hj' => ?_, h5, h6, h7, h8, h9, h10⟩
  obtain ⟨a1, a2, a3, a4, a5, a6, a7, a8⟩ := h4 j' hj'
  refine ⟨a1, a2, a3, a4, a5, ?_, ?_, a8⟩
  all_goals
    rw [sp_k _ _ _ _ (by decide)]
    by_cases e : j' = j
    · subst e; rw [sp_same]; first | exact hs.1 | exact hs.2
    · rw [sp_j _ _ _ e]; assumption
set_option maxRecDepth 20000 in
theorem m_end {G : fxG} (d : Nat) {S : Ms} {m : Nat} {w : fxW} (hR : MoR S m w) (hd1 : 1 ≤ d) (j : Nat) (v : Int) (hj : j < 12) (hB : Bi S) : fxM G d y_Mo_end [.ref m, zi (j : Int), zi v] w (moVoid m w (mEnd S j v)) := by
  refine fxM.of cc_Mo_end 5 none [] (by decide +kernel) w_Mo_end (Nat.le_of_ble_eq_true rfl) ?_
  intro x C ht hu
  have hq9 : ∀ i, i < 4 → BiQ (sp (sp S 9 j 2) 10 j v) i := hB.2.2.2.2.2.2.1
  obtain ⟨W, hW⟩ := Int.eq_ofNat_of_zero_le (show 0 ≤ S.1 1 0 by have := hB.1.1; omega)
  have hW4 : W ≤ 4 := by have := hB.1.2; omega
  have eW : mEnd S j v = endA j W 0 (sp (sp S 9 j 2) 10 j v) := by unfold mEnd; rw [hW]; rfl
  rw [eW]
  generalize hQ : moVoid m w (endA j W 0 (sp (sp S 9 j 2) 10 j v)) = QQ
  -- what the loops keep
  have inner : ∀ (i : Nat), i < 4 → ∀ (T0 : Ms), (∀ w1, MoR T0 m w1 → MoF m w w1 → fxR G 5 x (fxQ G x QQ) w1 77 [(3, zi (i : Int)), (0, .ref m), (1, zi (j : Int)), (2, zi v)] []) → ∀ (n k : Nat) (S1 : Ms) (w1 : fxW), Bi S1 → S1.1 25 i = ((k + n : Nat) : Int) → endW i j n k S1 = T0 → MoR S1 m w1 → MoF m w w1 → fxR G 5 x (fxQ G x QQ) w1 27 [(4, zi (k : Int)), (3, zi (i : Int)), (0, .ref m), (1, zi (j : Int)), (2, zi v)] [] := by
    intro i hi4 T0 next n
    induction n with
    | zero =>
      intro k S1 w hB1 h1 h2 hR hF
      have b := hB1.2.2.2.2.2.2.1 i hi4
      have b1 := b.2.1
      refine r_iload C d_Mo_end_27 rfl ?_
      refine r_aload_n C d_Mo_end_29 rfl rfl ?_
      refine g_Mo_74 C d_Mo_end_30 hR.1 (hR.ar 25 rfl) ?_
      refine r_iload_n C d_Mo_end_33 rfl rfl ?_
      refine zr_iaload (t := 1) (k := i) C d_Mo_end_34 (by decide) rfl (Or.inl (hR.kd 25 rfl)) (by omega) (by show i < 4; omega) (by decide) (hR.el 25 rfl (by show i < 4; omega)) ?_
      refine zr_icmp_ge (tgt := 77) C d_Mo_end_35 (by decide) (by unfold zok; omega) (by unfold zok; omega) (fun c_35 => ?_) (fun c_35 => ?_)
      · refine fx_sub (ls' := [(3, zi (i : Int)), (0, .ref m), (1, zi (j : Int)), (2, zi v)]) (by simp [fxL]) ?_
        exact next w (by rw [← h2]; exact hR) hF
      · exact absurd c_35 (by omega)
    | succ n ih =>
      intro k S1 w hB1 h1 h2 hR hF
      have b := hB1.2.2.2.2.2.2.1 i hi4
      have b1 := b.2.1
      obtain ⟨b2, b3⟩ := b.2.2 k (by omega)
      obtain ⟨t, ht1⟩ := Int.eq_ofNat_of_zero_le b2
      have hT6 := hB1.2.2.2.2.1.2
      have tt := hB1.2.2.2.2.2.1 t (by omega)
      have hJ := hB1.2.2.1.2
      refine r_iload C d_Mo_end_27 rfl ?_
      refine r_aload_n C d_Mo_end_29 rfl rfl ?_
      refine g_Mo_74 C d_Mo_end_30 hR.1 (hR.ar 25 rfl) ?_
      refine r_iload_n C d_Mo_end_33 rfl rfl ?_
      refine zr_iaload (t := 1) (k := i) C d_Mo_end_34 (by decide) rfl (Or.inl (hR.kd 25 rfl)) (by omega) (by show i < 4; omega) (by decide) (hR.el 25 rfl (by show i < 4; omega)) ?_
      refine zr_icmp_ge (tgt := 77) C d_Mo_end_35 (by decide) (by unfold zok; omega) (by unfold zok; omega) (fun c_35 => ?_) (fun c_35 => ?_)
      · exact absurd c_35 (by omega)
      · refine r_aload_n C d_Mo_end_38 rfl rfl ?_
        refine g_Mo_47 C d_Mo_end_39 hR.1 (hR.ar 15 rfl) ?_
        refine r_aload_n C d_Mo_end_42 rfl rfl ?_
        refine g_Mo_71 C d_Mo_end_43 hR.1 (hR.ar 24 rfl) ?_
        refine r_sipush (v := Int32.ofInt 600) C d_Mo_end_46 (by decide) ?_
        refine r_iload_n C d_Mo_end_49 rfl rfl ?_
        refine zr_imul C d_Mo_end_50 ?_
        refine r_iload C d_Mo_end_51 rfl ?_
        refine zr_iadd C d_Mo_end_53 ?_
        refine zr_iaload (t := 1) (k := 600 * i + k) C d_Mo_end_54 (by decide) rfl (Or.inl (hR.kd 24 rfl)) (by omega) (by show 600 * i + k < 2400; omega) (by decide) (hR.el 24 rfl (by show 600 * i + k < 2400; omega)) ?_
        rw [ht1]
        refine zr_iaload (t := 1) (k := t) C d_Mo_end_55 (by decide) rfl (Or.inl (hR.kd 15 rfl)) (by omega) (by show t < 600; omega) (by decide) (hR.el 15 rfl (by show t < 600; omega)) ?_
        refine r_iload_n C d_Mo_end_56 rfl rfl ?_
        refine zr_icmp_ne (tgt := 71) C d_Mo_end_57 (by decide) (by have := tt.1; have := tt.2.1; unfold zok; omega) (by unfold zok; omega) (fun c_57 => ?_) (fun c_57 => ?_)
        · refine zr_iinc (ls' := [(4, _), (3, _), (0, _), (1, _), (2, _)]) C d_Mo_end_71 rfl (by decide) rfl ?_
          refine r_goto (tgt := 27) C d_Mo_end_74 (by decide) ?_
          refine ih (k + 1) S1 w hB1 (by omega) ?_ hR hF
          rw [← h2, endW_succ, if_neg (by rw [ht1]; exact c_57)]
        · refine r_aload_n C d_Mo_end_60 rfl rfl ?_
          refine r_iload_n C d_Mo_end_61 rfl rfl ?_
          refine r_iload C d_Mo_end_62 rfl ?_
          refine c_Mo_126 C d_Mo_end_64 hR.1 (m_pull 0 hR i k (k + (n + 1)) hi4 h1 (by omega) (by omega)) (by omega) (Nat.le_of_ble_eq_true rfl) (moRet.k1 (fun w hR hF9 => ?_)) moRet.k2
          have hF := hF.tr hF9
          refine r_pop C d_Mo_end_67 rfl ?_
          refine r_goto (tgt := 27) C d_Mo_end_68 (by decide) ?_
          refine ih k (mPull S1 i k) w (Bi_pull hB1 hi4 h1 (by omega)) (by rw [mPull_25, if_pos rfl]; omega) ?_ hR hF
          rw [← h2, endW_succ, if_pos (by rw [ht1]; exact c_57)]
  have outer : ∀ (n i : Nat) (S1 : Ms) (w1 : fxW), Bi S1 → i + n = W → S1.1 1 0 = (W : Int) → endA j n i S1 = endA j W 0 (sp (sp S 9 j 2) 10 j v) → MoR S1 m w1 → MoF m w w1 → fxR G 5 x (fxQ G x QQ) w1 16 [(3, zi (i : Int)), (0, .ref m), (1, zi (j : Int)), (2, zi v)] [] := by
    intro n
    induction n with
    | zero =>
      intro i S1 w hB1 h1 hW1 h2 hR hF
      refine r_iload_n C d_Mo_end_16 rfl rfl ?_
      refine r_aload_n C d_Mo_end_17 rfl rfl ?_
      refine g_Mo_93 C d_Mo_end_18 hR.1 (hR.sc 1 rfl) ?_
      refine zr_icmp_ge (tgt := 83) C d_Mo_end_21 (by decide) (by unfold zok; omega) (by unfold zok; omega) (fun c_21 => ?_) (fun c_21 => ?_)
      · rw [← hQ]
        exact r_return C d_Mo_end_83 rfl ⟨rfl, by rw [← h2]; exact hR, hF⟩
      · exact absurd c_21 (by omega)
    | succ n ih =>
      intro i S1 w hB1 h1 hW1 h2 hR hF
      have b := hB1.2.2.2.2.2.2.1 i (by omega)
      refine r_iload_n C d_Mo_end_16 rfl rfl ?_
      refine r_aload_n C d_Mo_end_17 rfl rfl ?_
      refine g_Mo_93 C d_Mo_end_18 hR.1 (hR.sc 1 rfl) ?_
      refine zr_icmp_ge (tgt := 83) C d_Mo_end_21 (by decide) (by unfold zok; omega) (by unfold zok; omega) (fun c_21 => ?_) (fun c_21 => ?_)
      · exact absurd c_21 (by omega)
      · refine r_iconst C d_Mo_end_24 rfl ?_
        refine r_istore (ls' := [(4, _), (3, _), (0, _), (1, _), (2, _)]) C d_Mo_end_25 (by decide) rfl ?_
        obtain ⟨q1, q2⟩ := endW_Bi (j : Int) (i := i) (by omega) (S1.1 25 i).toNat 0 S1 hB1 (by have := b.1; omega)
        refine inner i (by omega) (endW i j (S1.1 25 i).toNat 0 S1) (fun w hR hF => ?_) (S1.1 25 i).toNat 0 S1 w hB1 (by have := b.1; omega) rfl hR hF
        refine zr_iinc (ls' := [(3, _), (0, _), (1, _), (2, _)]) C d_Mo_end_77 rfl (by decide) rfl ?_
        refine r_goto (tgt := 16) C d_Mo_end_80 (by decide) ?_
        exact ih (i + 1) _ w q1 (by omega) (by rw [q2 1 0 (by decide) (by decide)]; exact hW1) (by rw [← h2]; rfl) hR hF
  have hF : MoF m w w := MoF.rf
  show fxR G 5 x _ w 0 [(0, .ref m), (1, zi (j : Int)), (2, zi v)] []
  refine r_aload_n C d_Mo_end_0 rfl rfl ?_
  refine g_Mo_32 C d_Mo_end_1 hR.1 (hR.ar 9 rfl) ?_
  refine r_iload_n C d_Mo_end_4 rfl rfl ?_
  refine r_iconst C d_Mo_end_5 rfl ?_
  refine zr_iastore (t := 1) (k := j) C d_Mo_end_6 (by decide) rfl (hR.kd 9 rfl) (by omega) (by show j < 12; omega) (by decide) ?_
  refine mo_abI 9 hR rfl (fun w hR hF9 => ?_)
  have hF := hF.tr hF9
  refine r_aload_n C d_Mo_end_7 rfl rfl ?_
  refine g_Mo_35 C d_Mo_end_8 hR.1 (hR.ar 10 rfl) ?_
  refine r_iload_n C d_Mo_end_11 rfl rfl ?_
  refine r_iload_n C d_Mo_end_12 rfl rfl ?_
  refine zr_iastore (t := 1) (k := j) C d_Mo_end_13 (by decide) rfl (hR.kd 10 rfl) (by omega) (by show j < 12; omega) (by decide) ?_
  refine mo_abI 10 hR rfl (fun w hR hF9 => ?_)
  have hF := hF.tr hF9
  refine r_iconst C d_Mo_end_14 rfl ?_
  refine r_istore_n (ls' := [(3, _), (0, _), (1, _), (2, _)]) C d_Mo_end_15 rfl (by decide) rfl ?_
  exact outer W 0 _ w (Bi_st hB j 2 v (by omega)) (by omega) (by rw [sp_k _ _ _ _ (by decide), sp_k _ _ _ _ (by decide)]; exact hW) rfl hR hF

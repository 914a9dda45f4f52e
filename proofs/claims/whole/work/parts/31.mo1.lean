/-! THE REFERENCE'S METHODS, I: raise, thrown, busy, noElement, put, pull -/
def moRet (m : Nat) (w : fxW) (v : Value) (S' : Ms) : Outcome → fxW → Prop := fun o w' => o = .returned (some v) ∧ MoR S' m w' ∧ MoF m w w'
def moVoid (m : Nat) (w : fxW) (S' : Ms) : Outcome → fxW → Prop := fun o w' => o = .returned none ∧ MoR S' m w' ∧ MoF m w w'
section MOK
variable {G : fxG} {nL : Nat} {x : fxX} {Q : State → Prop} {w : fxW} {pc : Nat} {ls : List (Nat × Value)} {st : List Value} {m : Nat} {v : Value} {S' : Ms}
theorem moRet.k1 (k : ∀ w', MoR S' m w' → MoF m w w' → fxR G nL x Q w' pc ls (v :: st)) : ∀ v' w', moRet m w v S' (.returned v') w' → fxR G nL x Q w' pc ls (v'.toList ++ st) := by
  rintro v' w' ⟨h, h1, h2⟩
  cases h
  exact k w' h1 h2
theorem moRet.k2 : ∀ a w', moRet m w v S' (.threw a) w' → fxRt G nL x Q w' pc ls st a := by
  rintro a w' ⟨h, -⟩
  cases h
theorem moVoid.k1 (k : ∀ w', MoR S' m w' → MoF m w w' → fxR G nL x Q w' pc ls st) : ∀ v' w', moVoid m w S' (.returned v') w' → fxR G nL x Q w' pc ls (v'.toList ++ st) := by
  rintro v' w' ⟨h, h1, h2⟩
  cases h
  exact k w' h1 h2
theorem moVoid.k2 : ∀ a w', moVoid m w S' (.threw a) w' → fxRt G nL x Q w' pc ls st a := by
  rintro a w' ⟨h, -⟩
  cases h
theorem mo_abS {S : Ms} {v : Int} (k : Nat) (hR : MoR S m w) (hk : moK k = 0) (kk : ∀ w', MoR (sp S k 0 v) m w' → MoF m w w' → fxR G nL x Q w' pc ls st) : fxR G nL x Q (fx_put w (384 + k) m (zi v)) pc ls st := kk _ (hR.putS k hk v) (MoF.put _ _)
theorem mo_abI {S : Ms} {v : Int} {j : Nat} (k : Nat) (hR : MoR S m w) (hk : moK k = 1) (kk : ∀ w', MoR (sp S k j v) m w' → MoF m w w' → fxR G nL x Q w' pc ls st) : fxR G nL x Q (fx_ast w 1 (m + moO k) j (zi v)) pc ls st := kk _ (hR.putI k hk j v) (MoF.ast _ _ _ (by omega) (by omega) _)
theorem mo_abL {S : Ms} {v : Int64} {j : Nat} (k : Nat) (hR : MoR S m w) (hk : moK k = 2) (kk : ∀ w', MoR (sq S k j v) m w' → MoF m w w' → fxR G nL x Q w' pc ls st) : fxR G nL x Q (fx_ast w 0 (m + moO k) j (.long v)) pc ls st := kk _ (hR.putL k hk j v) (MoF.ast _ _ _ (by omega) (by omega) _)
end MOK
noncomputable def cI (p : Prop) : Int := @ite _ p (Classical.propDecidable p) 1 0
theorem cI_t {p : Prop} (h : p) : cI p = 1 := if_pos h
theorem cI_f {p : Prop} (h : ¬ p) : cI p = 0 := if_neg h
theorem cI_01 (p : Prop) : cI p = 0 ∨ cI p = 1 := by
  by_cases h : p
  · exact Or.inr (cI_t h)
  · exact Or.inl (cI_f h)
theorem cI_1 {p : Prop} : cI p = 1 ↔ p := by
  constructor
  · intro h
    by_cases q : p
    · exact q
    · rw [cI_f q] at h; cases h
  · exact cI_t
theorem cI_0 {p : Prop} : cI p = 0 ↔ ¬ p := by
  constructor
  · intro h q; rw [cI_t q] at h; cases h
  · exact cI_f
theorem bI_c (p : Prop) [h : Decidable p] : bI p = cI p := by
  by_cases q : p
  · rw [bI_t q, cI_t q]
  · rw [bI_f q, cI_f q]
theorem zok_c (p : Prop) : zok (cI p) := by rcases cI_01 p with h | h <;> rw [h] <;> exact ⟨by decide, by decide⟩
theorem zok_b (p : Prop) [Decidable p] : zok (bI p) := by rcases bI_01 p with h | h <;> rw [h] <;> exact ⟨by decide, by decide⟩
set_option maxRecDepth 20000 in
theorem m_raise {G : fxG} (d : Nat) {S : Ms} {m : Nat} {w : fxW} (hR : MoR S m w) (c : Int) : fxM G d y_Mo_raise [.ref m, zi c] w (moRet m w (zi 0) (sp S 0 0 c)) := by
  refine fxM.of cc_Mo_raise 2 (some .int) [] (by decide +kernel) w_Mo_raise (Nat.le_of_ble_eq_true rfl) ?_
  intro x C ht hu
  show fxR G 2 x _ w 0 [(0, .ref m), (1, zi c)] []
  have hF : MoF m w w := MoF.rf
  refine r_aload_n C d_Mo_raise_0 rfl rfl ?_
  refine r_iload_n C d_Mo_raise_1 rfl rfl ?_
  refine p_Mo_96 C d_Mo_raise_2 rfl rfl hR.1 ?_
  refine mo_abS 0 hR rfl (fun w hR hF9 => ?_)
  have hF := hF.tr hF9
  refine r_iconst C d_Mo_raise_5 rfl ?_
  exact r_ireturn C d_Mo_raise_6 rfl ⟨rfl, hR, hF⟩
set_option maxRecDepth 20000 in
theorem m_thrown {G : fxG} (d : Nat) {S : Ms} {m : Nat} {w : fxW} (hR : MoR S m w) : fxM G d y_Mo_thrown [.ref m] w (fxPure (zi (S.1 0 0)) w) := by
  refine fxM.of cc_Mo_thrown 1 (some .int) [] (by decide +kernel) w_Mo_thrown (Nat.le_of_ble_eq_true rfl) ?_
  intro x C ht hu
  show fxR G 1 x _ w 0 [(0, .ref m)] []
  refine r_aload_n C d_Mo_thrown_0 rfl rfl ?_
  refine g_Mo_96 C d_Mo_thrown_1 hR.1 (hR.sc 0 rfl) ?_
  exact r_ireturn C d_Mo_thrown_4 rfl ⟨rfl, rfl⟩
/-- a job that runs is on the array a -/
def mBusy (S : Ms) (a : Int) : Prop := ∃ j : Nat, (j : Int) < S.1 14 0 ∧ S.1 6 j = a ∧ S.1 9 j = 0
set_option maxRecDepth 20000 in
theorem m_busy {G : fxG} (d : Nat) {S : Ms} {m : Nat} {w : fxW} (hR : MoR S m w) (a : Int) (ha : zok a) (hj : 0 ≤ S.1 14 0 ∧ S.1 14 0 ≤ 12) (hon : ∀ j : Nat, (j : Int) < S.1 14 0 → zok (S.1 6 j)) (hst : ∀ j : Nat, (j : Int) < S.1 14 0 → zok (S.1 9 j)) : fxM G d y_Mo_busy [.ref m, zi a] w (fxPure (zi (cI (mBusy S a))) w) := by
  refine fxM.of cc_Mo_busy 3 (some .boolean) [] (by decide +kernel) w_Mo_busy (Nat.le_of_ble_eq_true rfl) ?_
  intro x C ht hu
  have loop : ∀ (n : Nat) (j : Nat), j ≤ 12 → 13 ≤ j + n → (∀ i : Nat, i < j → ¬ (S.1 6 i = a ∧ S.1 9 i = 0)) → fxR G 3 x (fxQ G x (fxPure (zi (cI (mBusy S a))) w)) w 2 [(2, zi (j : Int)), (0, .ref m), (1, zi a)] [] := by
    intro n
    induction n with
    | zero => intro j h1 h2; exact absurd h2 (by omega)
    | succ n ih =>
      intro j h1 h2 h3
      refine r_iload_n C d_Mo_busy_2 rfl rfl ?_
      refine r_aload_n C d_Mo_busy_3 rfl rfl ?_
      refine g_Mo_103 C d_Mo_busy_4 hR.1 (hR.sc 14 rfl) ?_
      refine zr_icmp_ge (tgt := 37) C d_Mo_busy_7 (by decide) (by unfold zok; omega) (by unfold zok; omega) (fun c_7 => ?_) (fun c_7 => ?_)
      · refine r_iconst C d_Mo_busy_37 rfl ?_
        refine zr_zreturn C (Or.inl rfl) d_Mo_busy_38 ⟨by rw [cI_f]; rintro ⟨i, q1, q2, q3⟩; exact h3 i (by omega) ⟨q2, q3⟩, rfl⟩
      · refine r_aload_n C d_Mo_busy_10 rfl rfl ?_
        refine g_Mo_23 C d_Mo_busy_11 hR.1 (hR.ar 6 rfl) ?_
        refine r_iload_n C d_Mo_busy_14 rfl rfl ?_
        refine zr_iaload (t := 1) (k := j) C d_Mo_busy_15 (by decide) rfl (Or.inl (hR.kd 6 rfl)) (by omega) (by show j < 12; omega) (by decide) (hR.el 6 rfl (by show j < 12; omega)) ?_
        refine r_iload_n C d_Mo_busy_16 rfl rfl ?_
        refine zr_icmp_ne (tgt := 31) C d_Mo_busy_17 (by decide) (hon j (by omega)) ha (fun c_17 => ?_) (fun c_17 => ?_)
        · refine zr_iinc (ls' := [(2, _), (0, _), (1, _)]) C d_Mo_busy_31 rfl (by decide) rfl ?_
          refine r_goto (tgt := 2) C d_Mo_busy_34 (by decide) ?_
          refine ih (j + 1) (by omega) (by omega) (fun i hi => ?_)
          by_cases e : i = j
          · subst e; exact fun q => c_17 q.1
          · exact h3 i (by omega)
        · refine r_aload_n C d_Mo_busy_20 rfl rfl ?_
          refine g_Mo_32 C d_Mo_busy_21 hR.1 (hR.ar 9 rfl) ?_
          refine r_iload_n C d_Mo_busy_24 rfl rfl ?_
          refine zr_iaload (t := 1) (k := j) C d_Mo_busy_25 (by decide) rfl (Or.inl (hR.kd 9 rfl)) (by omega) (by show j < 12; omega) (by decide) (hR.el 9 rfl (by show j < 12; omega)) ?_
          refine zr_if_ne (tgt := 31) C d_Mo_busy_26 (by decide) (hst j (by omega)) (fun c_26 => ?_) (fun c_26 => ?_)
          · refine zr_iinc (ls' := [(2, _), (0, _), (1, _)]) C d_Mo_busy_31 rfl (by decide) rfl ?_
            refine r_goto (tgt := 2) C d_Mo_busy_34 (by decide) ?_
            refine ih (j + 1) (by omega) (by omega) (fun i hi => ?_)
            by_cases e : i = j
            · subst e; exact fun q => c_26 q.2
            · exact h3 i (by omega)
          · refine r_iconst C d_Mo_busy_29 rfl ?_
            refine zr_zreturn C (Or.inr rfl) d_Mo_busy_30 ⟨by rw [cI_t]; exact ⟨j, by omega, c_17, c_26⟩, rfl⟩
  show fxR G 3 x _ w 0 [(0, .ref m), (1, zi a)] []
  refine r_iconst C d_Mo_busy_0 rfl ?_
  refine r_istore_n (ls' := [(2, _), (0, _), (1, _)]) C d_Mo_busy_1 rfl (by decide) rfl ?_
  exact loop 13 0 (by decide) (by decide) (fun i hi => absurd hi (by omega))
set_option maxRecDepth 20000 in
theorem m_noElement {G : fxG} (d : Nat) {S : Ms} {m : Nat} {w : fxW} (hR : MoR S m w) (a i : Int) (ha : zok a) (hi : zok i) (hd1 : 1 ≤ d) (hty : ∀ j, j < 4 → zok (S.1 2 j)) (hln : ∀ j, j < 4 → zok (S.1 3 j)) : fxM G d y_Mo_noElement [.ref m, zi a, zi i] w (fxPure (zi (cI (¬ (0 ≤ a ∧ a ≤ 3 ∧ 0 ≤ S.1 2 a.toNat ∧ 0 ≤ i ∧ i < S.1 3 a.toNat)))) w) := by
  refine fxM.of cc_Mo_noElement 3 (some .boolean) [] (by decide +kernel) w_Mo_noElement (Nat.le_of_ble_eq_true rfl) ?_
  intro x C ht hu
  show fxR G 3 x _ w 0 [(0, .ref m), (1, zi a), (2, zi i)] []
  refine r_iload_n C d_Mo_noElement_0 rfl rfl ?_
  refine r_iconst C d_Mo_noElement_1 rfl ?_
  refine r_iconst C d_Mo_noElement_2 rfl ?_
  refine c_Mo_106 C d_Mo_noElement_3 (m_in 0 w _ _ _ ha (by unfold zok; omega) (by unfold zok; omega)) (by omega) (by decide) (fxPure.k1 ?_) fxPure.k2
  refine zr_if_eq (tgt := 32) C d_Mo_noElement_6 (by decide) (zok_b _) (fun c_6 => ?_) (fun c_6 => ?_)
  · refine r_iconst C d_Mo_noElement_32 rfl ?_
    refine r_goto (tgt := 37) C d_Mo_noElement_33 (by decide) ?_
    have e : ¬ (0 ≤ a ∧ a ≤ 3) := fun q => by rw [bI_t q] at c_6; cases c_6
    exact zr_zreturn C (Or.inr rfl) d_Mo_noElement_37 ⟨by rw [cI_t (by omega)], rfl⟩
  · have e : 0 ≤ a ∧ a ≤ 3 := by
      rcases Decidable.em (0 ≤ a ∧ a ≤ 3) with q | q
      · exact q
      · exact absurd (bI_f q) c_6
    obtain ⟨a, rfl⟩ := Int.eq_ofNat_of_zero_le e.1
    rw [Int.toNat_natCast]
    refine r_aload_n C d_Mo_noElement_9 rfl rfl ?_
    refine g_Mo_7 C d_Mo_noElement_10 hR.1 (hR.ar 2 rfl) ?_
    refine r_iload_n C d_Mo_noElement_13 rfl rfl ?_
    refine zr_iaload (t := 1) (k := a) C d_Mo_noElement_14 (by decide) rfl (Or.inl (hR.kd 2 rfl)) (by omega) (by show a < 4; omega) (by decide) (hR.el 2 rfl (by show a < 4; omega)) ?_
    refine zr_if_lt (tgt := 32) C d_Mo_noElement_15 (by decide) (hty a (by omega)) (fun c_15 => ?_) (fun c_15 => ?_)
    · refine r_iconst C d_Mo_noElement_32 rfl ?_
      refine r_goto (tgt := 37) C d_Mo_noElement_33 (by decide) ?_
      exact zr_zreturn C (Or.inr rfl) d_Mo_noElement_37 ⟨by rw [cI_t (by omega)], rfl⟩
    · refine r_iload_n C d_Mo_noElement_18 rfl rfl ?_
      refine zr_if_lt (tgt := 32) C d_Mo_noElement_19 (by decide) hi (fun c_19 => ?_) (fun c_19 => ?_)
      · refine r_iconst C d_Mo_noElement_32 rfl ?_
        refine r_goto (tgt := 37) C d_Mo_noElement_33 (by decide) ?_
        exact zr_zreturn C (Or.inr rfl) d_Mo_noElement_37 ⟨by rw [cI_t (by omega)], rfl⟩
      · refine r_iload_n C d_Mo_noElement_22 rfl rfl ?_
        refine r_aload_n C d_Mo_noElement_23 rfl rfl ?_
        refine g_Mo_13 C d_Mo_noElement_24 hR.1 (hR.ar 3 rfl) ?_
        refine r_iload_n C d_Mo_noElement_27 rfl rfl ?_
        refine zr_iaload (t := 1) (k := a) C d_Mo_noElement_28 (by decide) rfl (Or.inl (hR.kd 3 rfl)) (by omega) (by show a < 4; omega) (by decide) (hR.el 3 rfl (by show a < 4; omega)) ?_
        refine zr_icmp_lt (tgt := 36) C d_Mo_noElement_29 (by decide) hi (hln a (by omega)) (fun c_29 => ?_) (fun c_29 => ?_)
        · refine r_iconst C d_Mo_noElement_36 rfl ?_
          exact zr_zreturn C (Or.inl rfl) d_Mo_noElement_37 ⟨by rw [cI_f (by omega)], rfl⟩
        · refine r_iconst C d_Mo_noElement_32 rfl ?_
          refine r_goto (tgt := 37) C d_Mo_noElement_33 (by decide) ?_
          exact zr_zreturn C (Or.inr rfl) d_Mo_noElement_37 ⟨by rw [cI_t (by omega)], rfl⟩
/-- a task on top of a queue -/
def mPut (S : Ms) (i : Nat) (t : Int) : Ms := sp (sp S 24 (600 * i + (S.1 25 i).toNat) t) 25 i (S.1 25 i + 1)
set_option maxRecDepth 20000 in
theorem m_put {G : fxG} (d : Nat) {S : Ms} {m : Nat} {w : fxW} (hR : MoR S m w) (i q : Nat) (t : Int) (hi : i < 4) (hq : S.1 25 i = (q : Int)) (hq6 : q < 600) : fxM G d y_Mo_put [.ref m, zi (i : Int), zi t] w (moVoid m w (mPut S i t)) := by
  refine fxM.of cc_Mo_put 3 none [] (by decide +kernel) w_Mo_put (Nat.le_of_ble_eq_true rfl) ?_
  intro x C ht hu
  have e : mPut S i t = sp (sp S 24 (600 * i + q) t) 25 i (S.1 25 i + 1) := by unfold mPut; rw [hq]; rfl
  rw [e]
  show fxR G 3 x _ w 0 [(0, .ref m), (1, zi (i : Int)), (2, zi t)] []
  have hF : MoF m w w := MoF.rf
  refine r_aload_n C d_Mo_put_0 rfl rfl ?_
  refine g_Mo_71 C d_Mo_put_1 hR.1 (hR.ar 24 rfl) ?_
  refine r_sipush (v := Int32.ofInt 600) C d_Mo_put_4 (by decide) ?_
  refine r_iload_n C d_Mo_put_7 rfl rfl ?_
  refine zr_imul C d_Mo_put_8 ?_
  refine r_aload_n C d_Mo_put_9 rfl rfl ?_
  refine g_Mo_74 C d_Mo_put_10 hR.1 (hR.ar 25 rfl) ?_
  refine r_iload_n C d_Mo_put_13 rfl rfl ?_
  refine zr_iaload (t := 1) (k := i) C d_Mo_put_14 (by decide) rfl (Or.inl (hR.kd 25 rfl)) (by omega) (by show i < 4; omega) (by decide) (hR.el 25 rfl (by show i < 4; omega)) ?_
  refine zr_iadd C d_Mo_put_15 ?_
  refine r_iload_n C d_Mo_put_16 rfl rfl ?_
  refine zr_iastore (t := 1) (k := 600 * i + q) C d_Mo_put_17 (by decide) rfl (hR.kd 24 rfl) (by omega) (by show 600 * i + q < 2400; omega) (by decide) ?_
  refine mo_abI 24 hR rfl (fun w hR hF9 => ?_)
  have hF := hF.tr hF9
  refine r_aload_n C d_Mo_put_18 rfl rfl ?_
  refine g_Mo_74 C d_Mo_put_19 hR.1 (hR.ar 25 rfl) ?_
  refine r_iload_n C d_Mo_put_22 rfl rfl ?_
  refine r_dup2 C d_Mo_put_23 rfl rfl ?_
  refine zr_iaload (t := 1) (k := i) C d_Mo_put_24 (by decide) rfl (Or.inl (hR.kd 25 rfl)) (by omega) (by show i < 4; omega) (by decide) (hR.el 25 rfl (by show i < 4; omega)) ?_
  refine r_iconst C d_Mo_put_25 rfl ?_
  refine zr_iadd C d_Mo_put_26 ?_
  refine zr_iastore (t := 1) (k := i) C d_Mo_put_27 (by decide) rfl (hR.kd 25 rfl) (by omega) (by show i < 4; omega) (by decide) ?_
  refine mo_abI 25 hR rfl (fun w hR hF9 => ?_)
  have hF := hF.tr hF9
  exact r_return C d_Mo_put_28 rfl ⟨rfl, hR, hF⟩

/-! THE POOL'S OWN METHODS, IV: those that may throw -/
section FXT
variable {G : fxG} {A : Ad} {S : Ms} {w : fxW}
theorem fxk_ex (w : fxW) (ci : Nat) : fxk (fx_ex w ci) (fxt w) = some (ci, 0) := fxk_new _ _ _ _
theorem CF_ex (hdm : ∀ a c n, fxk w a = some (c, n) → a < fxt w) (ci : Nat) : CF 1 6 w (fx_ex w ci) := by
  refine ⟨Nat.le_succ _, Nat.le_refl _, Nat.le_add_right _ _, Nat.le_refl _, fun a q h => ?_, fun a q h _ => ⟨fun g => ?_, fun _ _ => rfl⟩⟩
  · have := hdm a q.1 q.2 h
    exact (fxk_newN _ _ _ _ (by omega)).trans h
  · have := hdm a q.1 q.2 h
    exact fxf_newN _ _ _ _ (by omega)
theorem Rc.ex (h : Rc G A S w) (hdm : ∀ a c n, fxk w a = some (c, n) → a < fxt w) (ci : Nat) : Rc G A S (fx_ex w ci) := by
  obtain ⟨hP, hR, hJ, hT, hW, hL⟩ := h
  have k0 : KM w (fx_ex w ci) := (CF_ex hdm ci).km
  have f0 : ∀ c, FS c w (fx_ex w ci) := fun c g a _ _ h => fxf_newN _ _ _ _ (by have := hdm a _ _ h; omega)
  have e0 : ∀ t, ES t w (fx_ex w ci) := fun _ _ _ _ _ => rfl
  exact ⟨hP.ext k0 (f0 0) (fun t _ => e0 t) (fun c hc => rfl), hR.ext k0 (f0 1) (e0 0) rfl rfl (fun _ _ _ _ => rfl), hJ.ext k0 (f0 2) rfl (fun c hc => rfl) (fun _ _ _ => rfl), hT.ext k0 (f0 3) rfl (fun c hc => rfl) rfl rfl, hW.ext k0 (f0 4) rfl (fun c hc => rfl), hL.ext k0 (f0 5) (e0 2) rfl (fun i _ => rfl)⟩
theorem Rc.th (h : Rc G A S w) (v : Int) : Rc G A (sp S 0 0 v) w := h
theorem Rc.rw' (h : Rc G A S w) {a : Nat} (ha : a < 4) : RowAt (A 1 a) (A 2 a) (cty S a) (S.1 3 a) (rowG S a) w := h.2.1.1 a ha
theorem Rc.kr (h : Rc G A S w) : fxk w (A 8 0) = some (103, 4) := h.1.2.2.2.2.2.2.2.2.1
theorem Rc.pr (h : Rc G A S w) : fxf w 0 (A 0 0) = .ref (A 8 0) := h.1.2.1
theorem Rc.er (h : Rc G A S w) {a : Nat} (ha : a < 4) : fxe w 3 (A 8 0) a = .ref (A 1 a) := h.1.2.2.2.2.2.2.2.2.2.2.2.1 a ha
theorem Rc.kj (h : Rc G A S w) : fxk w (A 8 2) = some (105, 12) := h.1.2.2.2.2.2.2.2.2.2.2.1
theorem Rc.pj (h : Rc G A S w) : fxf w 2 (A 0 0) = .ref (A 8 2) := h.1.2.2.2.1
theorem Rc.pn (h : Rc G A S w) : fxf w 3 (A 0 0) = zi (S.1 14 0) := h.1.2.2.2.2.1
theorem Rc.ej (h : Rc G A S w) {j : Nat} (hj : (j : Int) < S.1 14 0) : fxe w 5 (A 8 2) j = .ref (A 3 j) := h.1.2.2.2.2.2.2.2.2.2.2.2.2.2 j hj
end FXT
/-- it returns v and leaves the world, or it throws an exception of the kind ci -/
def cOr (ok : Prop) (v : Option Value) (w : fxW) (ci : Nat) : Outcome → fxW → Prop := fun o w' => (ok ∧ o = .returned v ∧ w' = w) ∨ (¬ ok ∧ o = .threw (fxt w) ∧ w' = fx_ex w ci)
section COR
variable {G : fxG} {nL : Nat} {x : fxX} {Q : State → Prop} {w : fxW} {pc : Nat} {ls : List (Nat × Value)} {st : List Value} {ok : Prop} {v : Option Value} {ci : Nat}
theorem cOr.k1 (k : ok → fxR G nL x Q w pc ls (v.toList ++ st)) : ∀ v' w', cOr ok v w ci (.returned v') w' → fxR G nL x Q w' pc ls (v'.toList ++ st) := by
  rintro v' w' (⟨h1, h2, h3⟩ | ⟨-, h2, -⟩)
  · cases h2; rw [h3]; exact k h1
  · cases h2
theorem cOr.k2 (k : ¬ ok → fxRt G nL x Q (fx_ex w ci) pc ls st (fxt w)) : ∀ a w', cOr ok v w ci (.threw a) w' → fxRt G nL x Q w' pc ls st a := by
  rintro a w' (⟨-, h2, -⟩ | ⟨h1, h2, h3⟩)
  · cases h2
  · cases h2; rw [h3]; exact k h1
end COR
/-- how a public method ends -/
def cP (G : fxG) (A : Ad) (S : Ms) (w : fxW) (K : List Nat) (v : Value) (S' : Ms) (c u : Nat) : Outcome → fxW → Prop := fun o w' => ∃ A', Ax S A A' ∧ Rc G A' S' w' ∧ CF c u w w' ∧ ((S'.1 0 0 = 0 ∧ o = .returned (some v)) ∨ ∃ q ci a : Nat, S'.1 0 0 = ((q + 1 : Nat) : Int) ∧ K[q]? = some ci ∧ o = .threw a ∧ fxk w' a = some (ci, 0))
theorem cP.th {G : fxG} {A : Ad} {S S' : Ms} {w : fxW} {K : List Nat} {v : Value} {c u : Nat} (h : Rc G A S' w) (hdm : ∀ a c n, fxk w a = some (c, n) → a < fxt w) (q ci : Nat) (h0 : S'.1 0 0 = ((q + 1 : Nat) : Int)) (hK : K[q]? = some ci) (hc : 1 ≤ c) (hu : 6 ≤ u) : cP G A S w K v S' c u (.threw (fxt w)) (fx_ex w ci) :=
  ⟨A, Ax.rf, h.ex hdm ci, (CF_ex hdm ci).wk hc hu, Or.inr ⟨q, ci, _, h0, hK, rfl, fxk_ex w ci⟩⟩
theorem zok_j {S : Ms} (hB : Bi S) : 0 ≤ S.1 14 0 ∧ S.1 14 0 ≤ 12 := hB.2.2.1
set_option maxRecDepth 20000 in
theorem m_madeRow {G : fxG} (d : Nat) {A : Ad} {S : Ms} {w : fxW} (h : Rc G A S w) (hB : Bi S) (hF : Fr S) (hd1 : 6 ≤ d) (a : Int) (ha : zok a) (t9 : fxt w + 1 ≤ fxmt G) (t8 : fxu w + 6 ≤ fxmu G) : fxM G d y_FP_madeRow [.ref (A 0 0), zi a] w (cOr ((0 ≤ a ∧ a ≤ 3) ∧ 0 ≤ S.1 2 a.toNat) (some (.ref (A 1 a.toNat))) w 9) := by
  refine fxM.of cc_FP_madeRow 2 (some (.object "ForkPool$Row")) [] (by decide +kernel) w_FP_madeRow (Nat.le_of_ble_eq_true rfl) ?_
  intro x C ht hu
  show fxR G 2 x _ w 0 [(0, .ref (A 0 0)), (1, zi a)] []
  refine r_iload_n C d_FP_madeRow_0 rfl rfl ?_
  refine r_iconst C d_FP_madeRow_1 rfl ?_
  refine r_iconst C d_FP_madeRow_2 rfl ?_
  refine c_FP_44 C d_FP_madeRow_3 (m_isWithin 1 w a 0 3 ha (by unfold zok; omega) (by unfold zok; omega)) (by omega) (Nat.le_of_ble_eq_true rfl) (fxPure.k1 ?_) fxPure.k2
  refine zr_if_eq (tgt := 21) C d_FP_madeRow_6 (by decide) (zok_b _) (fun c_6 => ?_) (fun c_6 => ?_)
  · have n1 : ¬ (0 ≤ a ∧ a ≤ 3) := fun z => by rw [bI_t z] at c_6; exact absurd c_6 (by decide)
    refine x_9 C (si := 211) (tx := "no such array") (by decide +kernel) d_FP_madeRow_21 d_FP_madeRow_24 d_FP_madeRow_25 d_FP_madeRow_27 d_FP_madeRow_30 (by omega) (Nat.le_of_ble_eq_true rfl) (by omega) (by omega) (rt_out C rfl ?_)
    exact Or.inr ⟨fun z => n1 z.1, rfl, rfl⟩
  · have n1 : 0 ≤ a ∧ a ≤ 3 := Classical.byContradiction fun z => c_6 (bI_f z)
    obtain ⟨k, hk⟩ := Int.eq_ofNat_of_zero_le n1.1
    subst hk
    have hk4 : k < 4 := by omega
    have R := h.rw' hk4
    obtain ⟨b1, b2, b3, b4, b5⟩ := hB.2.1 k hk4
    have f := hF.2 k hk4
    rw [Int.toNat_natCast]
    refine r_aload_n C d_FP_madeRow_9 rfl rfl ?_
    refine g_FP_11 C d_FP_madeRow_10 h.p0 h.pr ?_
    refine r_iload_n C d_FP_madeRow_13 rfl rfl ?_
    refine zr_aaload C d_FP_madeRow_14 (by decide) rfl rfl (t := 3) (k := k) (Or.inl h.kr) rfl hk4 (by decide) (h.er hk4) ?_
    refine g_FP_96 C d_FP_madeRow_15 R.1 R.2.2.2.1 ?_
    refine zr_if_ne (tgt := 31) C d_FP_madeRow_18 (by decide) (by unfold zok; omega) (fun c_18 => ?_) (fun c_18 => ?_)
    · refine r_aload_n C d_FP_madeRow_31 rfl rfl ?_
      refine g_FP_11 C d_FP_madeRow_32 h.p0 h.pr ?_
      refine r_iload_n C d_FP_madeRow_35 rfl rfl ?_
      refine zr_aaload C d_FP_madeRow_36 (by decide) rfl rfl (t := 3) (k := k) (Or.inl h.kr) rfl hk4 (by decide) (h.er hk4) ?_
      exact r_areturn C d_FP_madeRow_37 rfl (Or.inl ⟨_, rfl⟩) (Or.inr ⟨_, rfl⟩) (Or.inl ⟨⟨n1, by omega⟩, rfl, rfl⟩)
    · refine x_9 C (si := 211) (tx := "no such array") (by decide +kernel) d_FP_madeRow_21 d_FP_madeRow_24 d_FP_madeRow_25 d_FP_madeRow_27 d_FP_madeRow_30 (by omega) (Nat.le_of_ble_eq_true rfl) (by omega) (by omega) (rt_out C rfl ?_)
      exact Or.inr ⟨fun z => by have := b5 z.2; omega, rfl, rfl⟩
set_option maxRecDepth 20000 in
theorem m_rowWith {G : fxG} (d : Nat) {A : Ad} {S : Ms} {w : fxW} (h : Rc G A S w) (hB : Bi S) (hF : Fr S) (hd1 : 7 ≤ d) (a i : Int) (ha : zok a) (hi : zok i) (t9 : fxt w + 1 ≤ fxmt G) (t8 : fxu w + 6 ≤ fxmu G) : fxM G d y_FP_rowWith [.ref (A 0 0), zi a, zi i] w (cOr (¬ mNoEl S a i) (some (.ref (A 1 a.toNat))) w 9) := by
  refine fxM.of cc_FP_rowWith 4 (some (.object "ForkPool$Row")) [] (by decide +kernel) w_FP_rowWith (Nat.le_of_ble_eq_true rfl) ?_
  intro x C ht hu
  show fxR G 4 x _ w 0 [(0, .ref (A 0 0)), (1, zi a), (2, zi i)] []
  refine r_aload_n C d_FP_rowWith_0 rfl rfl ?_
  refine r_iload_n C d_FP_rowWith_1 rfl rfl ?_
  refine c_FP_75 C d_FP_rowWith_2 h.p0 (m_madeRow 6 h hB hF (by omega) a ha t9 t8) (by omega) (Nat.le_of_ble_eq_true rfl) (cOr.k1 fun n1 => ?_) (cOr.k2 fun n1 => ?_)
  · obtain ⟨⟨n1, n2⟩, n3⟩ := n1
    obtain ⟨k, hk⟩ := Int.eq_ofNat_of_zero_le n1
    subst hk
    rw [Int.toNat_natCast] at n3 ⊢
    have hk4 : k < 4 := by omega
    have R := h.rw' hk4
    obtain ⟨b1, b2, b3, b4, b5⟩ := hB.2.1 k hk4
    refine r_astore_n (ls' := [(3, _), (0, _), (1, _), (2, _)]) C d_FP_rowWith_5 rfl (by decide) rfl ?_
    refine r_iload_n C d_FP_rowWith_6 rfl rfl ?_
    refine r_iconst C d_FP_rowWith_7 rfl ?_
    refine r_aload_n C d_FP_rowWith_8 rfl rfl ?_
    refine g_FP_96 C d_FP_rowWith_9 R.1 R.2.2.2.1 ?_
    refine r_iconst C d_FP_rowWith_12 rfl ?_
    refine zr_isub C d_FP_rowWith_13 ?_
    refine c_FP_44 C d_FP_rowWith_14 (m_isWithin 1 w i 0 (S.1 3 k - 1) hi (by unfold zok; omega) (by unfold zok; omega)) (by omega) (Nat.le_of_ble_eq_true rfl) (fxPure.k1 ?_) fxPure.k2
    refine zr_if_ne (tgt := 30) C d_FP_rowWith_17 (by decide) (zok_b _) (fun c_17 => ?_) (fun c_17 => ?_)
    · have q : 0 ≤ i ∧ i ≤ S.1 3 k - 1 := Classical.byContradiction fun z => c_17 (bI_f z)
      refine r_aload_n C d_FP_rowWith_30 rfl rfl ?_
      exact r_areturn C d_FP_rowWith_31 rfl (Or.inl ⟨_, rfl⟩) (Or.inr ⟨_, rfl⟩) (Or.inl ⟨fun z => z ⟨n1, n2, n3, by rw [Int.toNat_natCast]; omega⟩, rfl, rfl⟩)
    · have q : ¬ (0 ≤ i ∧ i ≤ S.1 3 k - 1) := fun z => by rw [bI_t z] at c_17; exact absurd c_17 (by decide)
      refine x_9 C (si := 213) (tx := "no such element") (by decide +kernel) d_FP_rowWith_20 d_FP_rowWith_23 d_FP_rowWith_24 d_FP_rowWith_26 d_FP_rowWith_29 (by omega) (Nat.le_of_ble_eq_true rfl) (by omega) (by omega) (rt_out C rfl ?_)
      exact Or.inr ⟨fun z => z fun y => q (by have := y.2.2.2; rw [Int.toNat_natCast] at this; omega), rfl, rfl⟩
  · exact rt_out C rfl (Or.inr ⟨fun z => z fun y => n1 ⟨⟨y.1, y.2.1⟩, y.2.2.1⟩, rfl, rfl⟩)
set_option maxRecDepth 20000 in
theorem m_refuseIfBusy {G : fxG} (d : Nat) {A : Ad} {S : Ms} {w : fxW} (h : Rc G A S w) (hB : Bi S) (hd1 : 6 ≤ d) (a : Nat) (ha : a < 4) (t9 : fxt w + 1 ≤ fxmt G) (t8 : fxu w + 6 ≤ fxmu G) : fxM G d y_FP_refuseIfBusy [.ref (A 0 0), .ref (A 1 a)] w (cOr (¬ mBusy S a) none w 8) := by
  refine fxM.of cc_FP_refuseIfBusy 3 none [] (by decide +kernel) w_FP_refuseIfBusy (Nat.le_of_ble_eq_true rfl) ?_
  intro x C ht hu
  obtain ⟨j1, j2⟩ := zok_j hB
  generalize hQ : cOr (¬ mBusy S a) none w 8 = QQ
  have loop : ∀ (n k : Nat), ((k + n : Nat) : Int) = S.1 14 0 → (∀ j, j < k → ¬ (S.1 6 j = (a : Int) ∧ S.1 9 j = 0)) → fxR G 3 x (fxQ G x QQ) w 2 [(2, zi (k : Int)), (0, .ref (A 0 0)), (1, .ref (A 1 a))] [] := by
    intro n
    induction n with
    | zero =>
      intro k hk hn
      refine r_iload_n C d_FP_refuseIfBusy_2 rfl rfl ?_
      refine r_aload_n C d_FP_refuseIfBusy_3 rfl rfl ?_
      refine g_FP_83 C d_FP_refuseIfBusy_4 h.p0 h.pn ?_
      refine zr_icmp_ge (tgt := 51) C d_FP_refuseIfBusy_7 (by decide) (by unfold zok; omega) (by unfold zok; omega) (fun c_7 => ?_) (fun c_7 => ?_)
      · rw [← hQ]
        refine r_return C d_FP_refuseIfBusy_51 rfl (Or.inl ⟨?_, rfl, rfl⟩)
        rintro ⟨j, q1, q2, q3⟩
        exact hn j (by omega) ⟨q2, q3⟩
      · exact absurd c_7 (by omega)
    | succ n ih =>
      intro k hk hn
      have hj : (k : Int) < S.1 14 0 := by omega
      have J := h.jb hj
      obtain ⟨k1, k2, o1, o2, o3, s1, s2, -⟩ := hB.2.2.2.1 k hj
      have next : ¬ (S.1 6 k = (a : Int) ∧ S.1 9 k = 0) → fxR G 3 x (fxQ G x QQ) w 45 [(2, zi (k : Int)), (0, .ref (A 0 0)), (1, .ref (A 1 a))] [] := by
        intro q
        refine zr_iinc (ls' := [(2, _), (0, _), (1, _)]) C d_FP_refuseIfBusy_45 rfl (by decide) rfl ?_
        refine r_goto (tgt := 2) C d_FP_refuseIfBusy_48 (by decide) ?_
        refine ih (k + 1) (by omega) fun j hj => ?_
        by_cases e : j = k
        · subst e; exact q
        · exact hn j (by omega)
      refine r_iload_n C d_FP_refuseIfBusy_2 rfl rfl ?_
      refine r_aload_n C d_FP_refuseIfBusy_3 rfl rfl ?_
      refine g_FP_83 C d_FP_refuseIfBusy_4 h.p0 h.pn ?_
      refine zr_icmp_ge (tgt := 51) C d_FP_refuseIfBusy_7 (by decide) (by unfold zok; omega) (by unfold zok; omega) (fun c_7 => ?_) (fun c_7 => ?_)
      · exact absurd c_7 (by omega)
      · refine r_aload_n C d_FP_refuseIfBusy_10 rfl rfl ?_
        refine g_FP_36 C d_FP_refuseIfBusy_11 h.p0 h.pj ?_
        refine r_iload_n C d_FP_refuseIfBusy_14 rfl rfl ?_
        refine zr_aaload C d_FP_refuseIfBusy_15 (by decide) rfl rfl (t := 5) (k := k) (Or.inl h.kj) rfl (by omega) (by decide) (h.ej hj) ?_
        refine g_FP_215 C d_FP_refuseIfBusy_16 J.1 J.2.2.2.1 ?_
        refine r_aload_n C d_FP_refuseIfBusy_19 rfl rfl ?_
        refine r_acmp_ne (ra := some (A 1 (S.1 6 k).toNat)) (rb := some (A 1 a)) (tgt := 45) C d_FP_refuseIfBusy_20 (by decide) (fun q => ?_) (fun q => ?_)
        · refine next fun z => q ?_
          rw [z.1, Int.toNat_natCast]
        · have e : (S.1 6 k).toNat = a := Classical.byContradiction fun z => (h.2.1.2 (S.1 6 k).toNat a (by omega) ha z).1 (Option.some.inj q)
          refine r_aload_n C d_FP_refuseIfBusy_23 rfl rfl ?_
          refine g_FP_36 C d_FP_refuseIfBusy_24 h.p0 h.pj ?_
          refine r_iload_n C d_FP_refuseIfBusy_27 rfl rfl ?_
          refine zr_aaload C d_FP_refuseIfBusy_28 (by decide) rfl rfl (t := 5) (k := k) (Or.inl h.kj) rfl (by omega) (by decide) (h.ej hj) ?_
          refine g_FP_119 C d_FP_refuseIfBusy_29 J.1 J.2.2.2.2.2.2.1 ?_
          refine zr_if_ne (tgt := 45) C d_FP_refuseIfBusy_32 (by decide) (by unfold zok; omega) (fun c_32 => ?_) (fun c_32 => ?_)
          · exact next fun z => c_32 z.2
          · rw [← hQ]
            refine x_8 C (si := 219) (tx := "a job on the array is running") (by decide +kernel) d_FP_refuseIfBusy_35 d_FP_refuseIfBusy_38 d_FP_refuseIfBusy_39 d_FP_refuseIfBusy_41 d_FP_refuseIfBusy_44 (by omega) (Nat.le_of_ble_eq_true rfl) (by omega) (by omega) (rt_out C rfl ?_)
            exact Or.inr ⟨fun z => z ⟨k, hj, by omega, by omega⟩, rfl, rfl⟩
  show fxR G 3 x _ w 0 [(0, .ref (A 0 0)), (1, .ref (A 1 a))] []
  refine r_iconst C d_FP_refuseIfBusy_0 rfl ?_
  refine r_istore_n (ls' := [(2, _), (0, _), (1, _)]) C d_FP_refuseIfBusy_1 rfl (by decide) rfl ?_
  exact loop (S.1 14 0).toNat 0 (by omega) (fun j hj => by omega)
set_option maxRecDepth 20000 in
theorem m_begunJob {G : fxG} (d : Nat) {A : Ad} {S : Ms} {w : fxW} (h : Rc G A S w) (hB : Bi S) (hd1 : 6 ≤ d) (j : Int) (hj : zok j) (t9 : fxt w + 1 ≤ fxmt G) (t8 : fxu w + 6 ≤ fxmu G) : fxM G d y_FP_begunJob [.ref (A 0 0), zi j] w (cOr (0 ≤ j ∧ j < S.1 14 0) (some (.ref (A 3 j.toNat))) w 9) := by
  refine fxM.of cc_FP_begunJob 2 (some (.object "ForkPool$Job")) [] (by decide +kernel) w_FP_begunJob (Nat.le_of_ble_eq_true rfl) ?_
  intro x C ht hu
  obtain ⟨j1, j2⟩ := zok_j hB
  show fxR G 2 x _ w 0 [(0, .ref (A 0 0)), (1, zi j)] []
  refine r_iload_n C d_FP_begunJob_0 rfl rfl ?_
  refine r_iconst C d_FP_begunJob_1 rfl ?_
  refine r_aload_n C d_FP_begunJob_2 rfl rfl ?_
  refine g_FP_83 C d_FP_begunJob_3 h.p0 h.pn ?_
  refine r_iconst C d_FP_begunJob_6 rfl ?_
  refine zr_isub C d_FP_begunJob_7 ?_
  refine c_FP_44 C d_FP_begunJob_8 (m_isWithin 1 w j 0 (S.1 14 0 - 1) hj (by unfold zok; omega) (by unfold zok; omega)) (by omega) (Nat.le_of_ble_eq_true rfl) (fxPure.k1 ?_) fxPure.k2
  refine zr_if_ne (tgt := 24) C d_FP_begunJob_11 (by decide) (zok_b _) (fun c_11 => ?_) (fun c_11 => ?_)
  · have q : 0 ≤ j ∧ j ≤ S.1 14 0 - 1 := Classical.byContradiction fun z => c_11 (bI_f z)
    obtain ⟨k, hk⟩ := Int.eq_ofNat_of_zero_le q.1
    subst hk
    refine r_aload_n C d_FP_begunJob_24 rfl rfl ?_
    refine g_FP_36 C d_FP_begunJob_25 h.p0 h.pj ?_
    refine r_iload_n C d_FP_begunJob_28 rfl rfl ?_
    refine zr_aaload C d_FP_begunJob_29 (by decide) rfl rfl (t := 5) (k := k) (Or.inl h.kj) rfl (by omega) (by decide) (h.ej (by omega)) ?_
    exact r_areturn C d_FP_begunJob_30 rfl (Or.inl ⟨_, rfl⟩) (Or.inr ⟨_, rfl⟩) (Or.inl ⟨by omega, by rw [Int.toNat_natCast], rfl⟩)
  · have q : ¬ (0 ≤ j ∧ j ≤ S.1 14 0 - 1) := fun z => by rw [bI_t z] at c_11; exact absurd c_11 (by decide)
    refine x_9 C (si := 221) (tx := "no such job") (by decide +kernel) d_FP_begunJob_14 d_FP_begunJob_17 d_FP_begunJob_18 d_FP_begunJob_20 d_FP_begunJob_23 (by omega) (Nat.le_of_ble_eq_true rfl) (by omega) (by omega) (rt_out C rfl ?_)
    exact Or.inr ⟨by omega, rfl, rfl⟩
set_option maxRecDepth 20000 in
theorem m_workerAt {G : fxG} (d : Nat) {A : Ad} {S : Ms} {w : fxW} (h : Rc G A S w) (hB : Bi S) (hd1 : 6 ≤ d) (i : Int) (hi : zok i) (t9 : fxt w + 1 ≤ fxmt G) (t8 : fxu w + 6 ≤ fxmu G) : fxM G d y_FP_workerAt [.ref (A 0 0), zi i] w (cOr (0 ≤ i ∧ i ≤ S.1 1 0 - 1) (some (.ref (A 5 i.toNat))) w 9) := by
  refine fxM.of cc_FP_workerAt 2 (some (.object "ForkPool$Worker")) [] (by decide +kernel) w_FP_workerAt (Nat.le_of_ble_eq_true rfl) ?_
  intro x C ht hu
  obtain ⟨W1, W2⟩ := hB.1
  obtain ⟨W, hW⟩ := Int.eq_ofNat_of_zero_le (show 0 ≤ S.1 1 0 by omega)
  have kw := h.kw
  rw [hW, Int.toNat_natCast] at kw
  show fxR G 2 x _ w 0 [(0, .ref (A 0 0)), (1, zi i)] []
  refine r_iload_n C d_FP_workerAt_0 rfl rfl ?_
  refine r_iconst C d_FP_workerAt_1 rfl ?_
  refine r_aload_n C d_FP_workerAt_2 rfl rfl ?_
  refine g_FP_27 C d_FP_workerAt_3 h.p0 h.pw ?_
  refine zr_alen C d_FP_workerAt_6 (by decide) (t := 4) (Or.inl kw) ?_
  refine r_iconst C d_FP_workerAt_7 rfl ?_
  refine zr_isub C d_FP_workerAt_8 ?_
  refine c_FP_44 C d_FP_workerAt_9 (m_isWithin 1 w i 0 ((W : Int) - 1) hi (by unfold zok; omega) (by unfold zok; omega)) (by omega) (Nat.le_of_ble_eq_true rfl) (fxPure.k1 ?_) fxPure.k2
  refine zr_if_ne (tgt := 25) C d_FP_workerAt_12 (by decide) (zok_b _) (fun c_12 => ?_) (fun c_12 => ?_)
  · have q : 0 ≤ i ∧ i ≤ (W : Int) - 1 := Classical.byContradiction fun z => c_12 (bI_f z)
    obtain ⟨k, hk⟩ := Int.eq_ofNat_of_zero_le q.1
    subst hk
    refine r_aload_n C d_FP_workerAt_25 rfl rfl ?_
    refine g_FP_27 C d_FP_workerAt_26 h.p0 h.pw ?_
    refine r_iload_n C d_FP_workerAt_29 rfl rfl ?_
    refine zr_aaload C d_FP_workerAt_30 (by decide) rfl rfl (t := 4) (k := k) (Or.inl kw) rfl (by omega) (by omega) (h.ew (by omega)) ?_
    exact r_areturn C d_FP_workerAt_31 rfl (Or.inl ⟨_, rfl⟩) (Or.inr ⟨_, rfl⟩) (Or.inl ⟨by omega, by rw [Int.toNat_natCast], rfl⟩)
  · have q : ¬ (0 ≤ i ∧ i ≤ (W : Int) - 1) := fun z => by rw [bI_t z] at c_12; exact absurd c_12 (by decide)
    refine x_9 C (si := 223) (tx := "no such worker") (by decide +kernel) d_FP_workerAt_15 d_FP_workerAt_18 d_FP_workerAt_19 d_FP_workerAt_21 d_FP_workerAt_24 (by omega) (Nat.le_of_ble_eq_true rfl) (by omega) (by omega) (rt_out C rfl ?_)
    exact Or.inr ⟨by omega, rfl, rfl⟩
set_option maxRecDepth 20000 in
theorem m_FP_queuedTasks {G : fxG} (d : Nat) {A : Ad} {S : Ms} {w : fxW} (h : Rc G A S w) (hB : Bi S) (hd1 : 4 ≤ d) {j : Nat} (hj : (j : Int) < S.1 14 0) : fxM G d y_FP_queuedTasks [.ref (A 0 0), .ref (A 3 j)] w (fxPure (zi (inQ S j (S.1 1 0).toNat : Int)) w) := by
  refine fxM.of cc_FP_queuedTasks 4 (some .int) [] (by decide +kernel) w_FP_queuedTasks (Nat.le_of_ble_eq_true rfl) ?_
  intro x C ht hu
  obtain ⟨W1, W2⟩ := hB.1
  obtain ⟨W, hW⟩ := Int.eq_ofNat_of_zero_le (show 0 ≤ S.1 1 0 by omega)
  have kw := h.kw
  rw [hW, Int.toNat_natCast] at kw ⊢
  generalize hQ : fxPure (zi (inQ S j W : Int)) w = QQ
  have loop : ∀ (n i : Nat), i + n = W → fxR G 4 x (fxQ G x QQ) w 4 [(3, zi (i : Int)), (2, zi (inQ S j i : Int)), (0, .ref (A 0 0)), (1, .ref (A 3 j))] [] := by
    intro n
    induction n with
    | zero =>
      intro i hn
      refine r_iload_n C d_FP_queuedTasks_4 rfl rfl ?_
      refine r_aload_n C d_FP_queuedTasks_5 rfl rfl ?_
      refine g_FP_27 C d_FP_queuedTasks_6 h.p0 h.pw ?_
      refine zr_alen C d_FP_queuedTasks_9 (by decide) (t := 4) (Or.inl kw) ?_
      refine zr_icmp_ge (tgt := 32) C d_FP_queuedTasks_10 (by decide) (by unfold zok; omega) (by unfold zok; omega) (fun c_10 => ?_) (fun c_10 => ?_)
      · refine r_iload_n C d_FP_queuedTasks_32 rfl rfl ?_
        rw [← hQ]
        exact r_ireturn C d_FP_queuedTasks_33 rfl ⟨by rw [show i = W by omega], rfl⟩
      · exact absurd c_10 (by omega)
    | succ n ih =>
      intro i hn
      refine r_iload_n C d_FP_queuedTasks_4 rfl rfl ?_
      refine r_aload_n C d_FP_queuedTasks_5 rfl rfl ?_
      refine g_FP_27 C d_FP_queuedTasks_6 h.p0 h.pw ?_
      refine zr_alen C d_FP_queuedTasks_9 (by decide) (t := 4) (Or.inl kw) ?_
      refine zr_icmp_ge (tgt := 32) C d_FP_queuedTasks_10 (by decide) (by unfold zok; omega) (by unfold zok; omega) (fun c_10 => ?_) (fun c_10 => ?_)
      · exact absurd c_10 (by omega)
      · refine r_iload_n C d_FP_queuedTasks_13 rfl rfl ?_
        refine r_aload_n C d_FP_queuedTasks_14 rfl rfl ?_
        refine g_FP_27 C d_FP_queuedTasks_15 h.p0 h.pw ?_
        refine r_iload_n C d_FP_queuedTasks_18 rfl rfl ?_
        refine zr_aaload C d_FP_queuedTasks_19 (by decide) rfl rfl (t := 4) (k := i) (Or.inl kw) rfl (by omega) (by omega) (h.ew (by omega)) ?_
        refine r_aload_n C d_FP_queuedTasks_20 rfl rfl ?_
        refine c_FP_285 C d_FP_queuedTasks_21 (h.wk (by omega)).1 (m_Wk_queuedTasks 3 h hB (by omega) (by omega) hj) (by omega) (Nat.le_of_ble_eq_true rfl) (fxPure.k1 ?_) fxPure.k2
        refine zr_iadd C d_FP_queuedTasks_24 ?_
        refine r_istore_n (ls' := [(2, _), (3, _), (0, _), (1, _)]) C d_FP_queuedTasks_25 rfl (by decide) rfl ?_
        refine zr_iinc (ls' := [(3, _), (2, _), (0, _), (1, _)]) C d_FP_queuedTasks_26 rfl (by decide) rfl ?_
        refine r_goto (tgt := 4) C d_FP_queuedTasks_29 (by decide) ?_
        have e : (inQ S j i : Int) + ((inQ1 S j i : Nat) : Int) = (inQ S j (i + 1) : Int) := rfl
        exact ih (i + 1) (by omega)
  show fxR G 4 x _ w 0 [(0, .ref (A 0 0)), (1, .ref (A 3 j))] []
  refine r_iconst C d_FP_queuedTasks_0 rfl ?_
  refine r_istore_n (ls' := [(2, _), (0, _), (1, _)]) C d_FP_queuedTasks_1 rfl (by decide) rfl ?_
  refine r_iconst C d_FP_queuedTasks_2 rfl ?_
  refine r_istore_n (ls' := [(3, _), (2, _), (0, _), (1, _)]) C d_FP_queuedTasks_3 rfl (by decide) rfl ?_
  exact loop W 0 (by omega)

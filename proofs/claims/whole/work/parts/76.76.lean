/-! THE POOL'S OWN METHODS, III: a step -/
def cVi (G : fxG) (A : Ad) (w : fxW) (S : Ms) (i : Nat) (r : Option Nat) : Outcome → fxW → Prop := fun o w' => match r with
  | some r => o = .returned (some (.ref (A 5 r))) ∧ Rc G A (sp S 29 i r) w' ∧ CF 0 0 w w'
  | none => o = .returned (some .null) ∧ w' = w
set_option maxRecDepth 20000 in
theorem m_findVictim {G : fxG} (d : Nat) {A : Ad} {S : Ms} {w : fxW} (h : Rc G A S w) (hB : Bi S) (hd1 : 2 ≤ d) {i v W : Nat} (hi : (i : Int) < S.1 1 0) (hv : S.1 29 i = (v : Int)) (hvW : v < W) (hW : S.1 1 0 = (W : Int)) : fxM G d y_FP_findVictim [.ref (A 0 0), .ref (A 5 i)] w (cVi G A w S i (vicF S v W W 1)) := by
  refine fxM.of cc_FP_findVictim 4 (some (.object "ForkPool$Worker")) [] (by decide +kernel) w_FP_findVictim (Nat.le_of_ble_eq_true rfl) ?_
  intro x C ht hu
  have hW4 := hB.1.2
  have kw := h.kw
  rw [hW, Int.toNat_natCast] at kw
  have Wk := h.wk hi
  generalize hQ : cVi G A w S i (vicF S v W W 1) = QQ
  have loop : ∀ (n k : Nat), k + n = W + 1 → vicF S v W n k = vicF S v W W 1 → fxR G 4 x (fxQ G x QQ) w 2 [(2, zi (k : Int)), (0, .ref (A 0 0)), (1, .ref (A 5 i))] [] := by
    intro n
    induction n with
    | zero =>
      intro k hk hE
      refine r_iload_n C d_FP_findVictim_2 rfl rfl ?_
      refine r_aload_n C d_FP_findVictim_3 rfl rfl ?_
      refine g_FP_27 C d_FP_findVictim_4 h.p0 h.pw ?_
      refine zr_alen C d_FP_findVictim_7 (by decide) (t := 4) (Or.inl kw) ?_
      refine zr_icmp_gt (tgt := 54) C d_FP_findVictim_8 (by decide) (by unfold zok; omega) (by unfold zok; omega) (fun c_8 => ?_) (fun c_8 => ?_)
      · refine r_null C d_FP_findVictim_54 ?_
        rw [← hQ, ← hE]
        exact r_areturn C d_FP_findVictim_55 rfl (Or.inl ⟨_, rfl⟩) (Or.inl rfl) ⟨rfl, rfl⟩
      · exact absurd c_8 (by omega)
    | succ n ih =>
      intro k hk hE
      rw [vicF_succ] at hE
      obtain ⟨v', hv'⟩ : ∃ v' : Nat, v' = (v + k) % W := ⟨_, rfl⟩
      have hvW' : v' < W := by rw [hv']; exact Nat.mod_lt _ (by omega)
      have ev : ((v : Int) + (k : Int)) % (W : Int) = (v' : Int) := by rw [hv']; norm_cast
      rw [← hv'] at hE
      have f29 := Wk.2.2.2.2.2
      rw [hv] at f29
      have W2 := (h.wk (i := v') (by omega)).1
      have q0 := hB.q0 v' (by omega)
      have q6 := hB.q6 v' (by omega)
      refine r_iload_n C d_FP_findVictim_2 rfl rfl ?_
      refine r_aload_n C d_FP_findVictim_3 rfl rfl ?_
      refine g_FP_27 C d_FP_findVictim_4 h.p0 h.pw ?_
      refine zr_alen C d_FP_findVictim_7 (by decide) (t := 4) (Or.inl kw) ?_
      refine zr_icmp_gt (tgt := 54) C d_FP_findVictim_8 (by decide) (by unfold zok; omega) (by unfold zok; omega) (fun c_8 => ?_) (fun c_8 => ?_)
      · exact absurd c_8 (by omega)
      · refine r_aload_n C d_FP_findVictim_11 rfl rfl ?_
        refine g_FP_196 C d_FP_findVictim_12 Wk.1 f29 ?_
        refine r_iload_n C d_FP_findVictim_15 rfl rfl ?_
        refine zr_iadd C d_FP_findVictim_16 ?_
        refine r_aload_n C d_FP_findVictim_17 rfl rfl ?_
        refine g_FP_27 C d_FP_findVictim_18 h.p0 h.pw ?_
        refine zr_alen C d_FP_findVictim_21 (by decide) (t := 4) (Or.inl kw) ?_
        refine zr_irem C d_FP_findVictim_22 (by omega) (by unfold zok; omega) (by omega) (by unfold zok; omega) ?_
        rw [ev]
        refine r_istore_n (ls' := [(3, _), (2, _), (0, _), (1, _)]) C d_FP_findVictim_23 rfl (by decide) rfl ?_
        refine r_aload_n C d_FP_findVictim_24 rfl rfl ?_
        refine g_FP_27 C d_FP_findVictim_25 h.p0 h.pw ?_
        refine r_iload_n C d_FP_findVictim_28 rfl rfl ?_
        refine zr_aaload C d_FP_findVictim_29 (by decide) rfl rfl (t := 4) (k := v') (Or.inl kw) rfl hvW' (by omega) (h.ew (by omega)) ?_
        refine c_FP_164 C d_FP_findVictim_30 W2 (m_queueLength 1 h (by omega) (by omega) q0) (by omega) (Nat.le_of_ble_eq_true rfl) (fxPure.k1 ?_) fxPure.k2
        refine zr_if_le (tgt := 48) C d_FP_findVictim_33 (by decide) (by unfold zok; omega) (fun c_33 => ?_) (fun c_33 => ?_)
        · rw [if_pos (by omega)] at hE
          refine zr_iinc (ls' := [(2, _), (3, _), (0, _), (1, _)]) C d_FP_findVictim_48 rfl (by decide) rfl ?_
          refine r_goto (tgt := 2) C d_FP_findVictim_51 (by decide) ?_
          exact fx_sub (ls' := [(2, zi ((k + 1 : Nat) : Int)), (0, .ref (A 0 0)), (1, .ref (A 5 i))]) (by simp [fxL]) (ih (k + 1) (by omega) hE)
        · rw [if_neg (by omega)] at hE
          refine r_aload_n C d_FP_findVictim_36 rfl rfl ?_
          refine r_iload_n C d_FP_findVictim_37 rfl rfl ?_
          refine p_FP_196 C d_FP_findVictim_38 rfl rfl Wk.1 ?_
          have h1 : Rc G A (sp S 29 i v') (fx_put w 260 (A 5 i) (zi (v' : Int))) := h.wkr i 29 v' hi ⟨by decide, by decide⟩
          have kw1 := h1.kw
          rw [show (sp S 29 i v').1 1 0 = S.1 1 0 from rfl, hW, Int.toNat_natCast] at kw1
          refine r_aload_n C d_FP_findVictim_41 rfl rfl ?_
          refine g_FP_27 C d_FP_findVictim_42 h1.p0 h1.pw ?_
          refine r_iload_n C d_FP_findVictim_45 rfl rfl ?_
          refine zr_aaload C d_FP_findVictim_46 (by decide) rfl rfl (t := 4) (k := v') (Or.inl kw1) rfl hvW' (by omega) (h1.ew (i := v') (by show (v' : Int) < S.1 1 0; omega)) ?_
          rw [← hQ, ← hE]
          exact r_areturn C d_FP_findVictim_47 rfl (Or.inl ⟨_, rfl⟩) (Or.inr ⟨_, rfl⟩) ⟨rfl, h1, CF_put Wk.1 (by decide)⟩
  show fxR G 4 x _ w 0 [(0, .ref (A 0 0)), (1, .ref (A 5 i))] []
  refine r_iconst C d_FP_findVictim_0 rfl ?_
  refine r_istore_n (ls' := [(2, _), (0, _), (1, _)]) C d_FP_findVictim_1 rfl (by decide) rfl ?_
  exact loop W 1 (by omega) rfl
/-- a step: what it costs -/
def cSt (G : fxG) (A : Ad) (S : Ms) (w : fxW) : Outcome → fxW → Prop := fun o w' => o = .returned (some (zi (bz (mTurns S).1))) ∧ ∃ A', Ax S A A' ∧ Rc G A' (mTurns S).2 w' ∧ CF (if (mTurns S).1 then 4 else 0) (if (mTurns S).1 then 1818 else 0) w w'
set_option maxRecDepth 20000 in
theorem m_makeStep {G : fxG} (d : Nat) {A : Ad} {S : Ms} {w : fxW} (h : Rc G A S w) (hI : Inv3 S) (hd1 : 11 ≤ d) (t9 : (mTurns S).1 = true → fxt w + 4 ≤ fxmt G) (t8 : (mTurns S).1 = true → fxu w + 1818 ≤ fxmu G) : fxM G d y_FP_makeStep [.ref (A 0 0)] w (cSt G A S w) := by
  refine fxM.of cc_FP_makeStep 3 (some .boolean) [] (by decide +kernel) w_FP_makeStep (Nat.le_of_ble_eq_true rfl) ?_
  intro x C ht hu
  obtain ⟨⟨hInv, hK, hFr⟩, hZ⟩ := id hI
  have hql := fun i hi => hInv.ql i hi
  obtain ⟨hB, hE, ⟨L, hT⟩, h4, h5⟩ := hInv
  obtain ⟨⟨W1, W2⟩, -, -, -, -, -, hq, hv, ⟨g1, g2⟩, ⟨u1, u2⟩⟩ := id hB
  obtain ⟨W, hW⟩ := Int.eq_ofNat_of_zero_le (show 0 ≤ S.1 1 0 by omega)
  obtain ⟨i, hi⟩ := Int.eq_ofNat_of_zero_le u1
  obtain ⟨v1, v2⟩ := hv i (by omega)
  obtain ⟨v, hvi⟩ := Int.eq_ofNat_of_zero_le v1
  have hi1 : (i : Int) < S.1 1 0 := by omega
  have kw := h.kw
  rw [hW, Int.toNat_natCast] at kw
  have f5 := h.1.2.2.2.2.2.2.1
  rw [hi] at f5
  have f4 := h.1.2.2.2.2.2.1
  have eT : mTurns S = if 0 < S.1 25 i then (true, mPerform (mPull (sp (sp S 32 0 ((S.1 32 0 + 1) % S.1 1 0)) 31 0 (S.1 31 0 + 1)) i ((S.1 25 i).toNat - 1)) (S.1 24 (600 * i + ((S.1 25 i).toNat - 1))).toNat i) else match vicF (sp (sp S 32 0 ((S.1 32 0 + 1) % S.1 1 0)) 31 0 (S.1 31 0 + 1)) v W W 1 with
      | some v => (true, mPerform (mPull (sp (sp (sp (sp S 32 0 ((S.1 32 0 + 1) % S.1 1 0)) 31 0 (S.1 31 0 + 1)) 29 i v) 27 i (S.1 27 i + 1)) v 0) (S.1 24 (600 * v)).toNat i)
      | none => (false, sp (sp (sp S 32 0 ((S.1 32 0 + 1) % S.1 1 0)) 31 0 (S.1 31 0 + 1)) 28 i (S.1 28 i + 1)) := by
    unfold mTurns; simp only; rw [hi, hW, Int.toNat_natCast, hvi]; rfl
  have eCi : ∀ b, b = (mTurns S).1 → CF (if b then 4 else 0) (if b then 1818 else 0) = CF (if (mTurns S).1 then 4 else 0) (if (mTurns S).1 then 1818 else 0) := fun b hb => by rw [hb]
  show fxR G 3 x _ w 0 [(0, .ref (A 0 0))] []
  refine r_aload_n C d_FP_makeStep_0 rfl rfl ?_
  refine g_FP_27 C d_FP_makeStep_1 h.p0 h.pw ?_
  refine r_aload_n C d_FP_makeStep_4 rfl rfl ?_
  refine g_FP_206 C d_FP_makeStep_5 h.p0 f5 ?_
  refine zr_aaload C d_FP_makeStep_8 (by decide) rfl rfl (t := 4) (k := i) (Or.inl kw) rfl (by omega) (by omega) (h.ew hi1) ?_
  refine r_astore_n (ls' := [(1, _), (0, _)]) C d_FP_makeStep_9 rfl (by decide) rfl ?_
  refine r_aload_n C d_FP_makeStep_10 rfl rfl ?_
  refine r_aload_n C d_FP_makeStep_11 rfl rfl ?_
  refine g_FP_206 C d_FP_makeStep_12 h.p0 f5 ?_
  refine r_iconst C d_FP_makeStep_15 rfl ?_
  refine zr_iadd C d_FP_makeStep_16 ?_
  refine r_aload_n C d_FP_makeStep_17 rfl rfl ?_
  refine g_FP_27 C d_FP_makeStep_18 h.p0 h.pw ?_
  refine zr_alen C d_FP_makeStep_21 (by decide) (t := 4) (Or.inl kw) ?_
  refine zr_irem C d_FP_makeStep_22 (by omega) (by unfold zok; omega) (by omega) (by unfold zok; omega) ?_
  refine p_FP_206 C d_FP_makeStep_23 rfl rfl h.p0 ?_
  have h1 : Rc G A (sp S 32 0 (((i : Int) + 1) % (W : Int))) (fx_put w 5 (A 0 0) (zi (((i : Int) + 1) % (W : Int)))) := h.pool 5 32 _ (by omega)
  have f4' : fxf (fx_put w 5 (A 0 0) (zi (((i : Int) + 1) % (W : Int)))) 4 (A 0 0) = zi (S.1 31 0) := by rw [fxf_putN _ _ (Or.inl (by decide))]; exact f4
  refine r_aload_n C d_FP_makeStep_26 rfl rfl ?_
  refine r_dup C d_FP_makeStep_27 rfl ?_
  refine g_FP_203 C d_FP_makeStep_28 h1.p0 f4' ?_
  refine r_iconst C d_FP_makeStep_31 rfl ?_
  refine zr_iadd C d_FP_makeStep_32 ?_
  refine p_FP_203 C d_FP_makeStep_33 rfl rfl h1.p0 ?_
  have h2 : Rc G A (sp (sp S 32 0 (((i : Int) + 1) % (W : Int))) 31 0 (S.1 31 0 + 1)) (fx_put (fx_put w 5 (A 0 0) (zi (((i : Int) + 1) % (W : Int)))) 4 (A 0 0) (zi (S.1 31 0 + 1))) := h1.pool 4 31 _ (by omega)
  have hC : CF 0 0 w (fx_put (fx_put w 5 (A 0 0) (zi (((i : Int) + 1) % (W : Int)))) 4 (A 0 0) (zi (S.1 31 0 + 1))) := (CF_put h.p0 (by decide)).tr0 (CF_put h1.p0 (by decide))
  generalize fx_put (fx_put w 5 (A 0 0) (zi (((i : Int) + 1) % (W : Int)))) 4 (A 0 0) (zi (S.1 31 0 + 1)) = w2 at h2 hC ⊢
  rw [show ((i : Int) + 1) % (W : Int) = (S.1 32 0 + 1) % S.1 1 0 by rw [hi, hW]] at h2
  generalize hS1 : sp (sp S 32 0 ((S.1 32 0 + 1) % S.1 1 0)) 31 0 (S.1 31 0 + 1) = S1 at h2 eT
  have k1 : ∀ c, c ≠ 31 → c ≠ 32 → S1.1 c = S.1 c := fun c h1 h2 => by rw [← hS1]; funext jj; rw [sp_k _ _ _ _ h1, sp_k _ _ _ _ h2]
  have hB1 : Bi S1 := by rw [← hS1]; exact Bi_turn hB _
  have e2 : S1.2 = S.2 := by rw [← hS1]; rfl
  have c25 : ∀ x, S1.1 25 x = S.1 25 x := fun x => by rw [k1 25 (by decide) (by decide)]
  have c24 : ∀ x, S1.1 24 x = S.1 24 x := fun x => by rw [k1 24 (by decide) (by decide)]
  have hi2 : (i : Int) < S1.1 1 0 := by rw [k1 1 (by decide) (by decide)]; exact hi1
  have z9 := hC.2.1
  have z8 := hC.2.2.2.1
  -- a task is pulled from a state that differs by counters alone: it can be performed
  have main : ∀ (A2 : Ad) (S2 : Ms) (w3 : fxW) (r k : Nat), Bi S2 → r < W → (k : Int) < S.1 25 r → (∀ c, c ≠ 27 → c ≠ 29 → c ≠ 31 → c ≠ 32 → S2.1 c = S.1 c) → S2.2 = S.2 → Ax S A A2 → Rc G A2 (mPull S2 r k) w3 → CF 0 0 w w3 → (mTurns S).1 = true → fxM G 10 y_FP_perform [.ref (A2 0 0), .ref (A2 4 (S.1 24 (600 * r + k)).toNat), .ref (A2 5 i)] w3 (cRt G A2 (mPull S2 r k) w3 none (mPerform (mPull S2 r k) (S.1 24 (600 * r + k)).toNat i) 4 1818) := by
    intro A2 S2 w3 r k hB2 hr4 hk k2 s2 hA2 h3 hC3 hb
    have d25 : S2.1 25 = S.1 25 := k2 25 (by decide) (by decide) (by decide) (by decide)
    have d24 : S2.1 24 = S.1 24 := k2 24 (by decide) (by decide) (by decide) (by decide)
    have hqe : qA S2 = qA S := qA_ext (fun i _ => by rw [d25]) (fun k => by rw [d24])
    have hqk : S2.1 25 r = (((S.1 25 r).toNat : Nat) : Int) := by rw [d25]; omega
    have hP := qA_pull (S := S2) (i := r) (k := k) (q := (S.1 25 r).toNat) (by omega) hqk (by omega) (fun i' hi' => hB2.q6 i' hi')
    rw [hqe, d24] at hP
    have hB3 := Bi_pull (i := r) (k := k) (q := (S.1 25 r).toNat) hB2 (by omega) hqk (by omega)
    have k3 : ∀ c, c ≠ 24 → c ≠ 25 → c ≠ 27 → c ≠ 29 → c ≠ 31 → c ≠ 32 → (mPull S2 r k).1 c = S.1 c := fun c z1 z2 a1 a2 a3 a4 => by funext x; rw [mPull_k c x z1 z2, k2 c a1 a2 a3 a4]
    have AG : AgT S (mPull S2 r k) := AgT.of fun c h1 h2 h3 h4 h5 h6 h7 h8 h9 h10 h11 h12 h13 x => by rw [k3 c h2 h3 h7 h9 h11 h12]
    have hE3 : QE (mPull S2 r k) := by
      intro i' h1 h2
      rw [k3 1 (by decide) (by decide) (by decide) (by decide) (by decide) (by decide)] at h2
      rw [mPull_25, if_neg (by omega), d25]
      exact hE i' h1 h2
    have hK3 : KF (mPull S2 r k) := by
      intro a ha h2 k hk
      rw [k3 2 (by decide) (by decide) (by decide) (by decide) (by decide) (by decide)] at h2 ⊢
      rw [mPull_2, s2]
      exact hK a ha h2 k hk
    have hZ3 : Zb (mPull S2 r k) := hZ.ext (k3 13 (by decide) (by decide) (by decide) (by decide) (by decide) (by decide)) (k3 15 (by decide) (by decide) (by decide) (by decide) (by decide) (by decide)) (k3 23 (by decide) (by decide) (by decide) (by decide) (by decide) (by decide)) (fun _ _ => by rw [mPull_2, s2]) (by rw [mPull_2, s2])
    generalize ht : (S.1 24 (600 * r + k)).toNat = t at *
    have htm : t ∈ qA S := hP.mem_iff.mpr (by simp)
    have hT3 := Tr.pull (S' := mPull S2 r k) hB hT AG (k3 20 (by decide) (by decide) (by decide) (by decide) (by decide) (by decide)) hP (by rw [mPull_2, s2])
    have hqi' : (mPull S2 r k).1 25 i ≤ S.1 25 i := by
      rw [mPull_25]; split
      · rename_i z; rw [z, d25]; omega
      · rw [d25]; exact Int.le_refl _
    have := hql i (by omega)
    have cq : S.1 13 (mOf S t) = 1 → S.1 19 t = -1 := (hT.2.2.2.2.2.1.2 t htm).2
    have y9 := hC3.2.1
    have y8 := hC3.2.2.2.1
    have t9' := t9 hb
    have t8' := t8 hb
    exact m_FP_perform 10 h3 hB3 hE3 hK3 hZ3 (by omega) hT3 (by rw [k3 1 (by decide) (by decide) (by decide) (by decide) (by decide) (by decide)]; exact hi1) (by rw [AG.eO, AG.f13, AG.f19]; exact cq) (by omega) (by omega) (by omega)
  have Wk := h2.wk hi2
  have b := (hq i (by omega)).1
  have q6 := hB.q6 i (by omega)
  refine r_aload_n C d_FP_makeStep_36 rfl rfl ?_
  refine c_FP_164 C d_FP_makeStep_37 Wk.1 (m_queueLength 1 h2 (by omega) hi2 (by rw [c25]; exact b)) (by omega) (Nat.le_of_ble_eq_true rfl) (fxPure.k1 ?_) fxPure.k2
  refine zr_if_le (tgt := 54) C d_FP_makeStep_40 (by decide) (by rw [c25]; unfold zok; omega) (fun c_40 => ?_) (fun c_40 => ?_)
  · rw [c25] at c_40
    rw [if_neg (by omega)] at eT
    have fv := m_findVictim 2 h2 hB1 (by omega) (i := i) (v := v) (W := W) hi2 (by rw [k1 29 (by decide) (by decide)]; exact hvi) (by omega) (by rw [k1 1 (by decide) (by decide)]; exact hW)
    refine r_aload_n C d_FP_makeStep_54 rfl rfl ?_
    refine r_aload_n C d_FP_makeStep_55 rfl rfl ?_
    cases hvf : vicF S1 v W W 1 with
    | none =>
      rw [hvf] at eT fv
      simp only at eT
      refine c_FP_233 C d_FP_makeStep_56 h2.p0 fv (by omega) (Nat.le_of_ble_eq_true rfl) ?_ ?_
      · rintro v' w3 ⟨e9, rfl⟩
        cases e9
        show fxR G 3 x _ w3 59 _ [.null]
        refine r_astore_nN (ls' := [(2, _), (1, _), (0, _)]) C d_FP_makeStep_59 rfl (by decide) rfl ?_
        refine r_aload_nN C d_FP_makeStep_60 rfl rfl ?_
        refine r_ifnonnullN C d_FP_makeStep_61 ?_
        have f28 := Wk.2.2.2.2.1
        rw [k1 28 (by decide) (by decide)] at f28
        refine r_aload_n C d_FP_makeStep_64 rfl rfl ?_
        refine r_dup C d_FP_makeStep_65 rfl ?_
        refine g_FP_193 C d_FP_makeStep_66 Wk.1 f28 ?_
        refine r_iconst C d_FP_makeStep_69 rfl ?_
        refine zr_iadd C d_FP_makeStep_70 ?_
        refine p_FP_193 C d_FP_makeStep_71 rfl rfl Wk.1 ?_
        refine r_iconst C d_FP_makeStep_74 rfl ?_
        refine zr_zreturn C (Or.inl rfl) d_FP_makeStep_75 ⟨by rw [eT]; rfl, A, Ax.rf, ?_, ?_⟩
        · rw [eT]
          exact h2.wkr i 28 (S.1 28 i + 1) hi2 ⟨by decide, by decide⟩
        · rw [eT]
          exact hC.tr0 (CF_put Wk.1 (by decide))
      · rintro a w' ⟨e9, -⟩
        cases e9
    | some r =>
      rw [hvf] at eT fv
      simp only at eT
      have hb : (mTurns S).1 = true := by rw [eT]
      obtain ⟨k', r1, r2, r3, r4⟩ := vicF_some _ _ hvf
      have hrW : r < W := by rw [r3]; exact Nat.mod_lt _ (by omega)
      rw [c25] at r4
      have br := (hq r (by omega)).1
      refine c_FP_233 C d_FP_makeStep_56 h2.p0 fv (by omega) (Nat.le_of_ble_eq_true rfl) ?_ ?_
      · rintro v' w3 ⟨e9, h3, cf3⟩
        cases e9
        show fxR G 3 x _ w3 59 _ [.ref (A 5 r)]
        refine r_astore_n (ls' := [(2, _), (1, _), (0, _)]) C d_FP_makeStep_59 rfl (by decide) rfl ?_
        refine r_aload_n C d_FP_makeStep_60 rfl rfl ?_
        refine r_ifnonnull (tgt := 76) C d_FP_makeStep_61 (by decide) ?_
        have Wk3 := h3.wk (i := i) hi2
        have f27 : fxf w3 258 (A 5 i) = zi (S.1 27 i) := by
          have := Wk3.2.2.2.1
          rw [sp_k _ _ _ _ (by decide), k1 27 (by decide) (by decide)] at this
          exact this
        refine r_aload_n C d_FP_makeStep_76 rfl rfl ?_
        refine r_dup C d_FP_makeStep_77 rfl ?_
        refine g_FP_190 C d_FP_makeStep_78 Wk3.1 f27 ?_
        refine r_iconst C d_FP_makeStep_81 rfl ?_
        refine zr_iadd C d_FP_makeStep_82 ?_
        refine p_FP_190 C d_FP_makeStep_83 rfl rfl Wk3.1 ?_
        have h4' : Rc G A (sp (sp S1 29 i r) 27 i (S.1 27 i + 1)) (fx_put w3 258 (A 5 i) (zi (S.1 27 i + 1))) := h3.wkr i 27 (S.1 27 i + 1) hi2 ⟨by decide, by decide⟩
        have hC4 : CF 0 0 w (fx_put w3 258 (A 5 i) (zi (S.1 27 i + 1))) := (hC.tr0 cf3).tr0 (CF_put Wk3.1 (by decide))
        generalize fx_put w3 258 (A 5 i) (zi (S.1 27 i + 1)) = w4 at h4' hC4 ⊢
        have k2 : ∀ c, c ≠ 27 → c ≠ 29 → c ≠ 31 → c ≠ 32 → (sp (sp S1 29 i r) 27 i (S.1 27 i + 1)).1 c = S.1 c := fun c a1 a2 a3 a4 => by funext x; rw [sp_k _ _ _ _ a1, sp_k _ _ _ _ a2, k1 c a3 a4]
        have hB2 : Bi (sp (sp S1 29 i r) 27 i (S.1 27 i + 1)) := Bi_vic hB1 i r _ (by rw [k1 1 (by decide) (by decide)]; omega)
        have s2 : (sp (sp S1 29 i r) 27 i (S.1 27 i + 1)).2 = S.2 := by rw [← e2]; rfl
        generalize sp (sp S1 29 i r) 27 i (S.1 27 i + 1) = S2 at h4' hB2 k2 s2 eT
        have d1 : S2.1 1 = S.1 1 := k2 1 (by decide) (by decide) (by decide) (by decide)
        have d25 : S2.1 25 = S.1 25 := k2 25 (by decide) (by decide) (by decide) (by decide)
        have d24 : S2.1 24 = S.1 24 := k2 24 (by decide) (by decide) (by decide) (by decide)
        have Wr := (h4'.wk (i := r) (by rw [d1]; omega)).1
        refine r_aload_n C d_FP_makeStep_86 rfl rfl ?_
        refine r_aload_n C d_FP_makeStep_87 rfl rfl ?_
        refine c_FP_237 C d_FP_makeStep_88 Wr (m_takeBottom 3 h4' (by omega) (i := r) (by rw [d1]; omega) (by rw [d1]; omega) (by rw [d25]; omega) (fun i' hi' => hB2.q6 i' hi')) (by omega) (Nat.le_of_ble_eq_true rfl) (cRt.k1 fun w5 A5 g5 h5 cf5 => ?_) cRt.k2
        have a14 : S2.1 14 = S.1 14 := k2 14 (by decide) (by decide) (by decide) (by decide)
        have a23 : S2.1 23 = S.1 23 := k2 23 (by decide) (by decide) (by decide) (by decide)
        have gS : Ax S A A5 := fun k x a b c d => g5 k x a b (fun e => by rw [a23]; exact c e) (fun e => by rw [a14]; exact d e)
        have n0 := (hB.2.2.2.2.2.2.1 r (by omega)).2.2 0 (by omega)
        have u0 : A5 0 0 = A 0 0 := g5 0 0 (by decide) (by decide) (fun z => by cases z) (fun z => by cases z)
        have u5 : A5 5 i = A 5 i := g5 5 i (by decide) (by decide) (fun z => by cases z) (fun z => by cases z)
        have u4 : A5 4 (S.1 24 (600 * r + 0)).toNat = A 4 (S.1 24 (600 * r + 0)).toNat := gS 4 _ (by decide) (by decide) (fun _ => by omega) (fun z => by cases z)
        rw [d24, ← u0, ← u5, ← u4]
        show fxR G 3 x _ w5 91 _ [.ref (A5 4 (S.1 24 (600 * r + 0)).toNat), .ref (A5 0 0)]
        refine r_aload_n C d_FP_makeStep_91 rfl rfl ?_
        refine c_FP_229 C d_FP_makeStep_92 h5.p0 (main A5 S2 w5 r 0 hB2 hrW (by omega) k2 s2 gS h5 (hC4.tr0 cf5) hb) (by omega) (Nat.le_of_ble_eq_true rfl) (cRt.k1 fun w6 A6 g6 h6 cf6 => ?_) cRt.k2
        show fxR G 3 x _ w6 95 _ []
        refine r_iconst C d_FP_makeStep_95 rfl ?_
        refine zr_zreturn C (Or.inr rfl) d_FP_makeStep_96 ⟨by rw [eT]; rfl, A6, gS.tr g6 (by rw [mPull_k 23 0 (by decide) (by decide), a23]; omega) (by rw [mPull_k 14 0 (by decide) (by decide), a14]; omega), ?_, ?_⟩
        · rw [eT]; exact h6
        · rw [eT]; exact (hC4.tr0 cf5).tr0 cf6
      · rintro a w' ⟨e9, -⟩
        cases e9
  · rw [c25] at c_40
    rw [if_pos (by omega)] at eT
    have hb : (mTurns S).1 = true := by rw [eT]
    obtain ⟨kq, hkq⟩ : ∃ kq : Nat, S.1 25 i = ((kq + 1 : Nat) : Int) := ⟨(S.1 25 i).toNat - 1, by omega⟩
    rw [show (S.1 25 i).toNat - 1 = kq by omega] at eT
    refine r_aload_n C d_FP_makeStep_43 rfl rfl ?_
    refine r_aload_n C d_FP_makeStep_44 rfl rfl ?_
    refine c_FP_225 C d_FP_makeStep_45 Wk.1 (m_takeTop 3 h2 (by omega) hi2 (by rw [k1 1 (by decide) (by decide)]; omega) (k := kq) (by rw [c25]; exact hkq) (fun i' hi' => hB1.q6 i' hi')) (by omega) (Nat.le_of_ble_eq_true rfl) (cRt.k1 fun w5 A5 g5 h5 cf5 => ?_) cRt.k2
    have gS : Ax S A A5 := fun k x a b c d => g5 k x a b (fun e => by rw [k1 23 (by decide) (by decide)]; exact c e) (fun e => by rw [k1 14 (by decide) (by decide)]; exact d e)
    have n0 := (hB.2.2.2.2.2.2.1 i (by omega)).2.2 kq (by omega)
    have u0 : A5 0 0 = A 0 0 := g5 0 0 (by decide) (by decide) (fun z => by cases z) (fun z => by cases z)
    have u5 : A5 5 i = A 5 i := g5 5 i (by decide) (by decide) (fun z => by cases z) (fun z => by cases z)
    have u4 : A5 4 (S.1 24 (600 * i + kq)).toNat = A 4 (S.1 24 (600 * i + kq)).toNat := gS 4 _ (by decide) (by decide) (fun _ => by omega) (fun z => by cases z)
    rw [c24, ← u0, ← u5, ← u4]
    show fxR G 3 x _ w5 48 _ [.ref (A5 4 (S.1 24 (600 * i + kq)).toNat), .ref (A5 0 0)]
    refine r_aload_n C d_FP_makeStep_48 rfl rfl ?_
    refine c_FP_229 C d_FP_makeStep_49 h5.p0 (main A5 S1 w5 i kq hB1 (by omega) (by omega) (fun c _ _ a b => k1 c a b) e2 gS h5 (hC.tr0 cf5) hb) (by omega) (Nat.le_of_ble_eq_true rfl) (cRt.k1 fun w6 A6 g6 h6 cf6 => ?_) cRt.k2
    show fxR G 3 x _ w6 52 _ []
    refine r_iconst C d_FP_makeStep_52 rfl ?_
    refine zr_zreturn C (Or.inr rfl) d_FP_makeStep_53 ⟨by rw [eT]; rfl, A6, gS.tr g6 (by rw [mPull_k 23 0 (by decide) (by decide), k1 23 (by decide) (by decide)]; omega) (by rw [mPull_k 14 0 (by decide) (by decide), k1 14 (by decide) (by decide)]; omega), ?_, ?_⟩
    · rw [eT]; exact h6
    · rw [eT]; exact (hC.tr0 cf5).tr0 cf6

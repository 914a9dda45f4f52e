/-! A STEP KEEPS THE TREES -/
theorem Ph_eq {S S' : Ms} (hq : qA S' = qA S) (h : ∀ c, c = 5 ∨ c = 9 ∨ c = 13 ∨ c = 14 ∨ c = 16 ∨ c = 17 → S'.1 c = S.1 c) : Ph S' = Ph S := by
  unfold Ph
  have ew : w2 S' = w2 S := by funext x; unfold w2 lenT; rw [h 16 (by simp), h 17 (by simp)]
  rw [hq, ew, h 14 (by simp), sc_congr (S := S) (S' := S') _ fun jj _ => by unfold scw; rw [h 9 (by simp), h 5 (by simp), h 13 (by simp)]]
theorem P1_eq {S S' : Ms} (hq : qA S' = qA S) (h : ∀ c, c = 13 ∨ c = 15 ∨ c = 16 ∨ c = 17 ∨ c = 23 → S'.1 c = S.1 c) : P1 S' = P1 S := by
  unfold P1
  have ew : w1 S' = w1 S := by funext x; unfold w1 lenT mOf; rw [h 16 (by simp), h 17 (by simp), h 15 (by simp), h 13 (by simp)]
  rw [hq, ew, h 23 (by simp)]
theorem perform_ok {S : Ms} {L : Nat → Prop} {t i : Nat} (hB : Bi S) (hE : QE S) (hT : Tr S L (fun x => x = t)) (hi : (i : Int) < S.1 1 0) (hq : S.1 25 i + 2 ≤ 600) (hc1 : S.1 13 (mOf S t) = 1 → S.1 19 t = -1) (hr1 : S.1 13 (mOf S t) = 1 → S.1 30 0 < S.1 17 t - S.1 16 t → S.1 23 0 + 2 ≤ 600) : Ok S (mPerform S t i) (w1 S t) (w2 S t - 1) := by
  have hi4 : i < 4 := by have := hB.1.2; omega
  have x1 := (hT.2.2.2.2.1 t rfl).1
  have y1 := (hT.2.2.1 t x1).1
  have hlen := hB.len y1
  unfold mPerform
  simp only
  generalize hS1 : sp (sp S 11 (mOf S t) (S.1 11 (mOf S t) + 1)) 26 i (S.1 26 i + 1) = S1
  have k1 : ∀ c, c ≠ 11 → c ≠ 26 → S1.1 c = S.1 c := fun c h1 h2 => by rw [← hS1]; funext jj; rw [sp_k _ _ _ _ h2, sp_k _ _ _ _ h1]
  have hB1 : Bi S1 := hB.mono (fun c jj _ _ _ h11 h26 _ _ _ _ => by rw [k1 c h11 h26]) (by rw [← hS1]; exact hB.2.2.2.2.2.2.1)
  have hE1 : QE S1 := by rw [← hS1]; exact hE
  have A : AgT S S1 := AgT.of fun c h1 h2 h3 h4 h5 h6 _ _ _ _ _ _ _ x => by rw [k1 c h5 h6]
  have hq1 : qA S1 = qA S := by rw [← hS1]; rfl
  have hT1 : Tr S1 L (fun x => x = t) := hT.ext A (k1 20 (by decide) (by decide)) hq1 (by rw [← hS1]; rfl)
  have p1 : P1 S1 = P1 S := P1_eq hq1 fun c hc => k1 c (by omega) (by omega)
  have p2 : Ph S1 = Ph S := Ph_eq hq1 fun c hc => k1 c (by omega) (by omega)
  have v1 : w1 S1 t = w1 S t := by unfold w1; rw [A.eO, A.f13, A.eL]
  have v2 : w2 S1 t = w2 S t := by unfold w2; rw [A.eL]
  have kp : Kp S S1 := fun c hc => k1 c (by omega) (by omega)
  have nn1 : 0 ≤ w1 S t := by unfold w1; split <;> omega
  have nn2 : 0 ≤ w2 S t - 1 := by unfold w2; omega
  have fk : mForks S1 t ↔ mForks S t := by unfold mForks; rw [A.eO, A.f13, k1 30 (by decide) (by decide), k1 17 (by decide) (by decide), k1 16 (by decide) (by decide), A.f19]
  by_cases hf : mForks S t
  · rw [if_pos hf]
    obtain ⟨o1, o2, o3, o4, o5, o6⟩ := fork_ok (S := S1) (i := i) hB1 hE1 hT1 (by rw [k1 1 (by decide) (by decide)]; exact hi) (by rw [k1 25 (by decide) (by decide)]; exact hq) (by rw [A.eO, A.f13, A.f19]; exact hc1) (fk.mpr hf) (by
      rw [A.eO, A.f13, A.f23]
      intro rd
      refine hr1 rd ?_
      unfold mForks at hf
      rw [if_pos rd] at hf
      exact hf)
    exact ⟨o1, o2, o3, by rw [p1, v1] at o4; exact o4, by rw [p2, v2] at o5; exact o5, kp.tr o6⟩
  · rw [if_neg hf]
    have rdk : S.1 13 (mOf S t) = 2 → S.1 5 (mOf S t) = 2 := (hT.1 (mOf S t) (hB.job y1).1).2.2.1
    cases hl : (mLeaf S1 t).1
    · rw [if_neg (by simp)]
      obtain ⟨S2, k', e1, e2, e3⟩ := mLeaf_f hl
      rw [e3]
      have hT2 : Tr S2 L (fun x => x = t) := Tr.ext hT1 (fun c _ => by rw [e1]) (by rw [e1]) (by rw [of1_ e1]; rfl) e2
      obtain ⟨⟨o1, o2, o3, o4, o5, o6⟩, -⟩ := end_ok (S := S2) (mOf S1 t) k' (hB1.of1 e1) (hE1.of1 e1) hT2 (fun x hx => by rw [hx]; unfold mOf; rw [e1])
      rw [P1_of1 e1] at o4
      rw [Ph_of1 e1] at o5
      exact ⟨o1, o2, o3, by omega, by omega, (kp.tr (Kp.of1 e1)).tr o6⟩
    · rw [if_pos rfl]
      unfold mFinished
      have e1 := mLeaf_t hl
      obtain ⟨r1, r2⟩ := mLeaf_r hl
      have hT2 : Tr (mLeaf S1 t).2 L (fun x => x = t) := Tr.res hB1 hT1 e1 r1 (fun h => r2 (by rw [A.eO, A.f5]; rw [A.eO, A.f13] at h; exact rdk h) h) (by rw [A.eO, A.f13, A.f19]; exact hc1)
      obtain ⟨o1, o2, o3, o4, o5, o6⟩ := fin_ok i (mOf (mLeaf S1 t).2 t) (t + 1) t (mLeaf S1 t).2 L (by omega) (hB1.of1 e1) (hE1.of1 e1) hT2 rfl (by rw [e1, k1 1 (by decide) (by decide)]; exact hi) (by rw [e1, k1 25 (by decide) (by decide)]; omega)
      rw [P1_of1 e1] at o4
      rw [Ph_of1 e1] at o5
      exact ⟨o1, o2, o3, by omega, by omega, (kp.tr (Kp.of1 e1)).tr o6⟩
/-- WHAT HOLDS BETWEEN THE CALLS, of the reference's numbers -/
def Inv (S : Ms) : Prop := Bi S ∧ QE S ∧ (∃ L, Tr S L X0) ∧ P1 S ≤ 47 * S.1 14 0 ∧ Ph S ≤ 94 * S.1 14 0
theorem qL_le (S : Ms) (i : Nat) (hi : i < 4) : (qL S i).length ≤ (qA S).length := by
  unfold qA
  simp only [List.length_append]
  match i, hi with
  | 0, _ => omega
  | 1, _ => omega
  | 2, _ => omega
  | 3, _ => omega
theorem Inv.nn {S : Ms} (h : Inv S) : S.1 23 0 ≤ P1 S ∧ 0 ≤ Ph S := by
  obtain ⟨hB, -⟩ := h
  have a1 := sumI_nn (f := w1 S) fun x hx => w1_nn hB hx
  have a2 := sumI_nn (f := w2 S) fun x hx => w2_nn hB hx
  have a3 := sc_nn S (S.1 14 0).toNat
  unfold P1 Ph; omega
theorem Inv.ql {S : Ms} (h : Inv S) (i : Nat) (hi : i < 4) : S.1 25 i ≤ 564 := by
  have n := h.nn.1
  obtain ⟨hB, -, ⟨L, hT⟩, h4, -⟩ := h
  have h5 := hB.2.2.1.2
  have a := nodup_len (S.1 23 0).toNat (qA S) hT.2.2.2.2.2.1.1 fun x hx => by have := hB.qm hx; omega
  have b := qL_le S i hi
  rw [qL_len] at b
  omega
theorem Inv.room {S : Ms} (h : Inv S) : mRoom S := by
  refine ⟨fun i hi => by have := h.ql i hi; omega, fun i hi k hk rd hl => ?_⟩
  obtain ⟨hB, -, -, h4, -⟩ := h
  have h5 := hB.2.2.1.2
  have hm : (S.1 24 (600 * i + k)).toNat ∈ qA S := qA_mem.mpr ⟨i, hi, qL_mem.mpr ⟨k, hk, rfl⟩⟩
  have := sumI_mem (f := w1 S) (fun x hx => w1_nn hB hx) hm
  have e : w1 S (S.1 24 (600 * i + k)).toNat = 2 * lenT S (S.1 24 (600 * i + k)).toNat - 2 := by unfold w1; rw [if_pos rd]
  unfold lenT at e
  unfold P1 at h4
  omega
/-- a job that runs has a task in a queue -/
theorem Inv.busy {S : Ms} (h : Inv S) {j : Nat} (hj : (j : Int) < S.1 14 0) (h9 : S.1 9 j = 0) : ∃ x, x ∈ qA S := by
  obtain ⟨hB, -, ⟨L, t1, t2, t3, t4, t5, t6, t7⟩, -⟩ := h
  have go : ∀ n t, (S.1 23 0).toNat ≤ t + n → L t → ∃ x, x ∈ qA S := by
    intro n
    induction n with
    | zero => intro t h1 h2; have := (t3 t h2).1; omega
    | succ n ih =>
      intro t h1 h2
      by_cases hm : t ∈ qA S
      · exact ⟨t, hm⟩
      · obtain ⟨a1, a2⟩ := t4 t h2 hm (fun e => e)
        obtain ⟨-, -, -, -, -, -, -, b8, -⟩ := hB.2.2.2.2.2.1 t (t3 t h2).1
        have hc : t < chT S t := by unfold chT; omega
        rcases a2 with ⟨-, a, -⟩ | ⟨-, a⟩
        · exact ih (chT S t) (by omega) a
        · by_cases hl : L (chT S t)
          · exact ih (chT S t) (by omega) hl
          · have : L (chT S t + 1) := Classical.byContradiction fun z => hl (a.mpr z)
            exact ih (chT S t + 1) (by omega) this
  exact go _ (rootT S j) (Nat.le_add_left _ _) ((t1 j hj).2.2.2 h9)
theorem vicF_none {S : Ms} {v W : Nat} : ∀ n k, vicF S v W n k = none → ∀ k', k ≤ k' → k' < k + n → S.1 25 ((v + k') % W) = 0 := by
  intro n
  induction n with
  | zero => intro k _ k' h1 h2; omega
  | succ n ih =>
    intro k h k' h1 h2
    rw [vicF_succ] at h
    split at h
    · rename_i c
      by_cases e : k' = k
      · subst e; exact c
      · exact ih (k + 1) h k' (by omega) (by omega)
    · cases h
theorem vicF_some {S : Ms} {v W r : Nat} : ∀ n k, vicF S v W n k = some r → ∃ k', k ≤ k' ∧ k' < k + n ∧ r = (v + k') % W ∧ S.1 25 r ≠ 0 := by
  intro n
  induction n with
  | zero => intro k h; cases h
  | succ n ih =>
    intro k h
    rw [vicF_succ] at h
    split at h
    · rename_i c
      obtain ⟨k', h1, h2, h3⟩ := ih (k + 1) h
      exact ⟨k', by omega, by omega, h3⟩
    · rename_i c
      cases h
      exact ⟨k, Nat.le_refl k, by omega, rfl, c⟩
/-- THE STEP -/
theorem turns_ok {S : Ms} (h : Inv S) : Inv (mTurns S).2 ∧ Kp S (mTurns S).2 ∧ ((mTurns S).1 = true → Ph (mTurns S).2 ≤ Ph S - 1) ∧ ((mTurns S).1 = false → qA S = [] ∧ (mTurns S).2.1 9 = S.1 9 ∧ Ph (mTurns S).2 = Ph S) := by
  have hM := h.room
  have hnn := h.nn
  obtain ⟨hB, hE, ⟨L, hT⟩, h4, h5⟩ := h
  obtain ⟨⟨W1, W2⟩, -, -, -, -, -, hq, hv, ⟨g1, g2⟩, ⟨u1, u2⟩⟩ := id hB
  obtain ⟨W, hW⟩ := Int.eq_ofNat_of_zero_le (show 0 ≤ S.1 1 0 by omega)
  obtain ⟨i, hi⟩ := Int.eq_ofNat_of_zero_le u1
  obtain ⟨v1, v2⟩ := hv i (by omega)
  obtain ⟨v, hvi⟩ := Int.eq_ofNat_of_zero_le v1
  generalize hS1 : sp (sp S 32 0 ((S.1 32 0 + 1) % S.1 1 0)) 31 0 (S.1 31 0 + 1) = S1
  have k1 : ∀ c, c ≠ 31 → c ≠ 32 → S1.1 c = S.1 c := fun c h1 h2 => by rw [← hS1]; funext jj; rw [sp_k _ _ _ _ h1, sp_k _ _ _ _ h2]
  have hB1 : Bi S1 := by rw [← hS1]; exact Bi_turn hB _
  have e2 : S1.2 = S.2 := by rw [← hS1]; rfl
  have eT : mTurns S = if 0 < S.1 25 i then (true, mPerform (mPull S1 i ((S.1 25 i).toNat - 1)) (S.1 24 (600 * i + ((S.1 25 i).toNat - 1))).toNat i) else match vicF S1 v W W 1 with
      | some v => (true, mPerform (mPull (sp (sp S1 29 i v) 27 i (S.1 27 i + 1)) v 0) (S.1 24 (600 * v)).toNat i)
      | none => (false, sp S1 28 i (S.1 28 i + 1)) := by
    unfold mTurns; simp only; rw [hS1, hi, hW, Int.toNat_natCast, hvi]; rfl
  have c25 : ∀ x, S1.1 25 x = S.1 25 x := fun x => by rw [k1 25 (by decide) (by decide)]
  -- a task is pulled from a state that differs by counters alone, and performed
  have main : ∀ (S2 : Ms) (v k : Nat), Bi S2 → v < W → (k : Int) < S.1 25 v → (∀ c, c ≠ 27 → c ≠ 29 → c ≠ 31 → c ≠ 32 → S2.1 c = S.1 c) → S2.2 = S.2 → (Inv (mPerform (mPull S2 v k) (S.1 24 (600 * v + k)).toNat i) ∧ Kp S (mPerform (mPull S2 v k) (S.1 24 (600 * v + k)).toNat i) ∧ Ph (mPerform (mPull S2 v k) (S.1 24 (600 * v + k)).toNat i) ≤ Ph S - 1) := by
    intro S2 v k hB2 hv4 hk k2 s2
    have d25 : S2.1 25 = S.1 25 := k2 25 (by decide) (by decide) (by decide) (by decide)
    have d24 : S2.1 24 = S.1 24 := k2 24 (by decide) (by decide) (by decide) (by decide)
    have hqe : qA S2 = qA S := qA_ext (fun i _ => by rw [d25]) (fun k => by rw [d24])
    have hqk : S2.1 25 v = (((S.1 25 v).toNat : Nat) : Int) := by rw [d25]; omega
    have hP := qA_pull (S := S2) (i := v) (k := k) (q := (S.1 25 v).toNat) (by omega) hqk (by omega) (fun i' hi' => hB2.q6 i' hi')
    rw [hqe, d24] at hP
    have hB3 := Bi_pull (i := v) (k := k) (q := (S.1 25 v).toNat) hB2 (by omega) hqk (by omega)
    have k3 : ∀ c, c ≠ 24 → c ≠ 25 → c ≠ 27 → c ≠ 29 → c ≠ 31 → c ≠ 32 → (mPull S2 v k).1 c = S.1 c := fun c z1 z2 a1 a2 a3 a4 => by funext x; rw [mPull_k c x z1 z2, k2 c a1 a2 a3 a4]
    have A : AgT S (mPull S2 v k) := AgT.of fun c h1 h2 h3 h4 h5 h6 h7 h8 h9 h10 h11 h12 h13 x => by rw [k3 c h2 h3 h7 h9 h11 h12]
    have hE3 : QE (mPull S2 v k) := by
      intro i' h1 h2
      rw [k3 1 (by decide) (by decide) (by decide) (by decide) (by decide) (by decide)] at h2
      rw [mPull_25, if_neg (by omega), d25]
      exact hE i' h1 h2
    generalize ht : (S.1 24 (600 * v + k)).toNat = t at *
    have htm : t ∈ qA S := hP.mem_iff.mpr (by simp)
    have htn := hB.qm htm
    have hT3 := Tr.pull (S' := mPull S2 v k) hB hT A (k3 20 (by decide) (by decide) (by decide) (by decide) (by decide) (by decide)) hP (by rw [mPull_2, s2])
    have hqi := hM.1 i (by omega)
    have hqi' : (mPull S2 v k).1 25 i ≤ S.1 25 i := by
      rw [mPull_25]; split
      · rename_i z; rw [z, d25]; omega
      · rw [d25]; exact Int.le_refl _
    have cq : S.1 13 (mOf S t) = 1 → S.1 19 t = -1 := (hT.2.2.2.2.2.1.2 t htm).2
    obtain ⟨o1, o2, o3, o4, o5, o6⟩ := perform_ok (S := mPull S2 v k) (t := t) (i := i) hB3 hE3 hT3 (by rw [k3 1 (by decide) (by decide) (by decide) (by decide) (by decide) (by decide)]; omega) (by omega) (by rw [A.eO, A.f13, A.f19]; exact cq) (by
      rw [A.eO, A.f13, k3 30 (by decide) (by decide) (by decide) (by decide) (by decide) (by decide), k3 17 (by decide) (by decide) (by decide) (by decide) (by decide) (by decide), k3 16 (by decide) (by decide) (by decide) (by decide) (by decide) (by decide), A.f23]
      intro a1 a2
      refine hM.2 v (by omega) k hk ?_ ?_
      · rw [ht]; exact a1
      · rw [ht]; omega)
    have e1 : w1 (mPull S2 v k) = w1 S := by funext x; unfold w1; rw [A.eO, A.f13, A.eL]
    have e2 : w2 (mPull S2 v k) = w2 S := by funext x; unfold w2; rw [A.eL]
    have q1 : P1 (mPull S2 v k) + w1 S t = P1 S := by
      unfold P1; rw [e1, A.f23, sumI_perm (w1 S) hP, sumI_cons]; omega
    have q2 : Ph (mPull S2 v k) + w2 S t = Ph S := by
      unfold Ph; rw [e2, A.f14, sumI_perm (w2 S) hP, sumI_cons, sc_congr (S := S) (S' := mPull S2 v k) _ fun jj _ => by unfold scw; rw [A.f9, A.f5, A.f13]]; omega
    rw [e1] at o4
    rw [e2] at o5
    have kp : Kp S (mPull S2 v k) := fun c hc => k3 c (by omega) (by omega) (by omega) (by omega) (by omega) (by omega)
    have kp2 := kp.tr o6
    refine ⟨⟨o1, o2, o3, ?_, ?_⟩, kp2, by omega⟩
    · rw [kp2 14 (by simp)]; omega
    · rw [kp2 14 (by simp)]; omega
  rw [eT]
  have b := (hq i (by omega)).1
  by_cases h0 : 0 < S.1 25 i
  · rw [if_pos h0]
    obtain ⟨m1, m2, m3⟩ := main S1 i ((S.1 25 i).toNat - 1) hB1 (by omega) (by omega) (fun c _ _ a b => k1 c a b) e2
    exact ⟨m1, m2, fun _ => m3, fun z => by cases z⟩
  · rw [if_neg h0]
    cases hvf : vicF S1 v W W 1 with
    | some r =>
      obtain ⟨k', r1, r2, r3, r4⟩ := vicF_some _ _ hvf
      have hrW : r < W := by rw [r3]; exact Nat.mod_lt _ (by omega)
      rw [c25] at r4
      have br := (hq r (by omega)).1
      obtain ⟨m1, m2, m3⟩ := main (sp (sp S1 29 i r) 27 i (S.1 27 i + 1)) r 0 (Bi_vic hB1 i r _ (by rw [k1 1 (by decide) (by decide)]; omega)) hrW (by omega) (fun c a1 a2 a3 a4 => by funext x; rw [sp_k _ _ _ _ a1, sp_k _ _ _ _ a2, k1 c a3 a4]) (by rw [← e2]; rfl)
      exact ⟨m1, m2, fun _ => m3, fun z => by cases z⟩
    | none =>
      have hn := vicF_none _ _ hvf
      have all : ∀ x, x < 4 → S.1 25 x = 0 := by
        intro x hx
        by_cases hxW : x < W
        · have := hn (if v < x then x - v else x + W - v) (by split <;> omega) (by split <;> omega)
          rw [c25] at this
          have e : (v + (if v < x then x - v else x + W - v)) % W = x := by
            split
            · rw [show v + (x - v) = x by omega]; exact Nat.mod_eq_of_lt hxW
            · rw [show v + (x + W - v) = x + W by omega, Nat.add_mod_right]; exact Nat.mod_eq_of_lt hxW
          rw [e] at this; exact this
        · exact hE x hx (by omega)
      have nil : qA S = [] := by unfold qA; rw [qL_nil (all 0 (by decide)), qL_nil (all 1 (by decide)), qL_nil (all 2 (by decide)), qL_nil (all 3 (by decide))]; rfl
      have k2 : ∀ c, c ≠ 28 → c ≠ 31 → c ≠ 32 → (sp S1 28 i (S.1 28 i + 1)).1 c = S.1 c := fun c a1 a2 a3 => by funext x; rw [sp_k _ _ _ _ a1, k1 c a2 a3]
      have hq2 : qA (sp S1 28 i (S.1 28 i + 1)) = qA S := qA_ext (fun i _ => by rw [k2 25 (by decide) (by decide) (by decide)]) (fun k => by rw [k2 24 (by decide) (by decide) (by decide)])
      have A : AgT S (sp S1 28 i (S.1 28 i + 1)) := AgT.of fun c h1 h2 h3 h4 h5 h6 h7 h8 h9 h10 h11 h12 h13 x => by rw [k2 c h8 h11 h12]
      have kp : Kp S (sp S1 28 i (S.1 28 i + 1)) := fun c hc => k2 c (by omega) (by omega) (by omega)
      have p1 : P1 (sp S1 28 i (S.1 28 i + 1)) = P1 S := P1_eq hq2 fun c hc => k2 c (by omega) (by omega) (by omega)
      have p2 : Ph (sp S1 28 i (S.1 28 i + 1)) = Ph S := Ph_eq hq2 fun c hc => k2 c (by omega) (by omega) (by omega)
      refine ⟨⟨hB1.mono (fun c jj _ _ _ _ _ _ h28 _ _ => sp_k _ _ _ _ h28) (fun i' hi' => hB1.2.2.2.2.2.2.1 i' hi'), ?_, ⟨L, hT.ext A (k2 20 (by decide) (by decide) (by decide)) hq2 (by show S1.2 21 = _; rw [e2])⟩, ?_, ?_⟩, kp, (fun z => by cases z), fun _ => ⟨nil, k2 9 (by decide) (by decide) (by decide), p2⟩⟩
      · intro i' h1 h2
        rw [k2 25 (by decide) (by decide) (by decide)]
        rw [k2 1 (by decide) (by decide) (by decide)] at h2
        exact hE i' h1 h2
      · rw [p1, kp 14 (by simp)]; exact h4
      · rw [p2, kp 14 (by simp)]; exact h5

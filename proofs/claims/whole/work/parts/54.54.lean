/-! WHAT ELSE A STEP KEEPS: jobs that weren't begun, and elements that their type keeps -/
theorem finF_9 (i j : Nat) : ∀ (n k : Nat) (S : Ms) (jj : Nat), jj ≠ j → (finF i j n k S).1 9 jj = S.1 9 jj ∧ (finF i j n k S).1 11 jj = S.1 11 jj := by
  intro n
  induction n with
  | zero => intro k S jj _; exact ⟨rfl, rfl⟩
  | succ n ih =>
    intro k S jj h
    rw [finF_succ]
    split
    · unfold finE
      split
      · exact ⟨sp_j _ _ _ h, sp_k _ _ _ _ (by decide)⟩
      · rw [mPut_c _ _ _ _ (by decide) (by decide), mPut_c _ _ _ _ (by decide) (by decide)]; exact ⟨rfl, rfl⟩
    · split
      · exact ⟨rfl, rfl⟩
      · obtain ⟨a, b⟩ := ih (S.1 18 k).toNat (finJ (sp S 20 (S.1 18 k).toNat (S.1 20 (S.1 18 k).toNat + 1)) j (S.1 18 k).toNat) jj h
        rw [finJ_1] at a b
        exact ⟨a, b⟩
theorem mEnd_9 {S : Ms} (hB : Bi S) (hE : QE S) (j : Nat) (x : Int) (jj : Nat) (h : jj ≠ j) : (mEnd S j x).1 9 jj = S.1 9 jj ∧ (mEnd S j x).1 11 jj = S.1 11 jj := by
  obtain ⟨-, -, -, -, q4⟩ := mEnd_q hB hE j x
  refine ⟨?_, ?_⟩
  · rw [q4 9 jj (by decide) (by decide), sp_k _ _ _ _ (by decide), sp_j _ _ _ h]
  · rw [q4 11 jj (by decide) (by decide), sp_k _ _ _ _ (by decide), sp_k _ _ _ _ (by decide)]
theorem mFork_9 (S : Ms) (t i c jj : Nat) (h : c = 9 ∨ c = 11 ∨ c = 2) : (mFork S t i).1 c jj = S.1 c jj := by
  rw [mFork_eq, mPut_c _ _ _ _ (by omega) (by omega), mPut_c _ _ _ _ (by omega) (by omega)]
  unfold mFk
  rw [sp_k _ _ _ _ (by omega)]
  unfold mFork1
  split
  · rw [mNode_o _ _ _ _ _ _ _ (by omega), sp_k _ _ _ _ (by omega), mNode_o _ _ _ _ _ _ _ (by omega)]
  · rfl
theorem mFork_d (S : Ms) (t i : Nat) : (mFork S t i).2 4 = S.2 4 := by
  rw [mFork_eq]
  show (mFork1 S t).2 4 = S.2 4
  unfold mFork1
  split
  · rfl
  · rfl
theorem mPerform_9 {S : Ms} {t i : Nat} (hB : Bi S) (hE : QE S) (jj : Nat) (h : jj ≠ mOf S t) : (mPerform S t i).1 9 jj = S.1 9 jj ∧ (mPerform S t i).1 11 jj = S.1 11 jj := by
  unfold mPerform
  simp only
  generalize hS1 : sp (sp S 11 (mOf S t) (S.1 11 (mOf S t) + 1)) 26 i (S.1 26 i + 1) = S1
  have e9 : S1.1 9 jj = S.1 9 jj := by rw [← hS1]; rfl
  have e11 : S1.1 11 jj = S.1 11 jj := by rw [← hS1, sp_k _ _ _ _ (by decide), sp_j _ _ _ h]
  have eO : mOf S1 t = mOf S t := by rw [← hS1]; rfl
  have hB1 : Bi S1 := by rw [← hS1]; exact hB.mono (fun c jj _ _ _ h11 h26 _ _ _ _ => by rw [sp_k _ _ _ _ h26, sp_k _ _ _ _ h11]) hB.2.2.2.2.2.2.1
  have hE1 : QE S1 := by rw [← hS1]; exact hE
  rw [← e9, ← e11]
  rw [← eO] at h
  by_cases hf : mForks S t
  · rw [if_pos hf]
    exact ⟨mFork_9 _ _ _ _ _ (by simp), mFork_9 _ _ _ _ _ (by simp)⟩
  · rw [if_neg hf]
    cases hl : (mLeaf S1 t).1
    · rw [if_neg (by simp)]
      obtain ⟨S2, k', f1, f2, f3⟩ := mLeaf_f hl
      rw [f3]
      obtain ⟨a, b⟩ := mEnd_9 (hB1.of1 f1) (hE1.of1 f1) (mOf S1 t) k' jj h
      rw [f1] at a b
      exact ⟨a, b⟩
    · rw [if_pos rfl]
      have f1 := mLeaf_t hl
      have eO2 : mOf (mLeaf S1 t).2 t = mOf S1 t := by unfold mOf; rw [f1]
      obtain ⟨a, b⟩ := finF_9 i (mOf (mLeaf S1 t).2 t) (t + 1) t (mLeaf S1 t).2 jj (by rw [eO2]; exact h)
      rw [f1] at a b
      exact ⟨a, b⟩
/-- the elements are such as their type keeps -/
def KF (S : Ms) : Prop := ∀ a, a < 4 → 0 ≤ S.1 2 a → ∀ k, k < 24 → keptF (S.1 2 a) (S.2 4 (24 * a + k)) = S.2 4 (24 * a + k)
theorem KF.ext {S S' : Ms} (h : KF S) (h2 : S'.1 2 = S.1 2) (h4 : S'.2 4 = S.2 4) : KF S' := by
  unfold KF; rw [h2, h4]; exact h
theorem KF.put {S : Ms} (h : KF S) {a k : Nat} {v : Int64} (hk : k < 24) (hv : 0 ≤ S.1 2 a → keptF (S.1 2 a) v = v) : KF (sq S 4 (24 * a + k) v) := by
  intro a' h1 h2 k' h3
  show keptF (S.1 2 a') ((sq S 4 (24 * a + k) v).2 4 (24 * a' + k')) = (sq S 4 (24 * a + k) v).2 4 (24 * a' + k')
  by_cases e : 24 * a' + k' = 24 * a + k
  · have ea : a' = a := by omega
    rw [e, sq_same, ea]
    exact hv (by rw [← ea]; exact h2)
  · rw [sq_j _ _ _ e]; exact h a' h1 h2 k' h3
theorem keptF_idem (ty : Int) (v : Int64) : keptF ty (keptF ty v) = keptF ty v := by
  unfold keptF
  split
  · simp
  · split
    · simp
    · split
      · simp
      · split
        · rfl
        · by_cases h1 : v < -524288
          · rw [if_pos h1]; decide
          · rw [if_neg h1]
            by_cases h2 : 524288 < v
            · rw [if_pos h2]; decide
            · rw [if_neg h2, if_neg h1, if_neg h2]
theorem KF.swap {S : Ms} (h : KF S) {a k : Nat} (hk : k + 1 < 24) : KF (mSwap S (24 * a + k)) := by
  by_cases ha : a < 4
  · have e1 := fun z => h a ha z k (by omega)
    have e2 := fun z => h a ha z (k + 1) hk
    unfold mSwap
    rw [show 24 * a + k + 1 = 24 * a + (k + 1) by omega]
    exact KF.put (KF.put h hk e1) (by omega) e2
  · intro a' h1 h2 k' h3
    have e : (mSwap S (24 * a + k)).2 4 (24 * a' + k') = S.2 4 (24 * a' + k') := by
      unfold mSwap; rw [sq_j _ _ _ (by omega), sq_j _ _ _ (by omega)]
    rw [e]; exact h a' h1 h2 k' h3
theorem KF.ins {a lo : Nat} : ∀ (k : Nat) (S : Ms), KF S → k < 24 → KF (insF (24 * a + lo) (24 * a + k) S) := by
  intro k
  induction k with
  | zero =>
    intro S h _
    cases hz : 24 * a + 0 with
    | zero => exact h
    | succ x => rw [insF, if_neg (by omega)]; exact h
  | succ k ih =>
    intro S h hk
    rw [show 24 * a + (k + 1) = (24 * a + k) + 1 by omega, insF]
    split
    · exact ih _ (h.swap (by omega)) (by omega)
    · exact h
theorem KF.ord {a lo : Nat} : ∀ (n i : Nat) (S : Ms), KF S → i + n ≤ 24 → KF (ordF (24 * a + lo) (24 * a + i) n S) := by
  intro n
  induction n with
  | zero => intro i S h _; exact h
  | succ n ih =>
    intro i S h hi
    show KF (ordF (24 * a + lo) (24 * a + i + 1) n (insF (24 * a + lo) (24 * a + i) S))
    rw [show 24 * a + i + 1 = 24 * a + (i + 1) by omega]
    exact ih (i + 1) _ (KF.ins i S h (by omega)) (by omega)
theorem KF.order {S : Ms} (h : KF S) {a lo hi : Nat} (hl : lo < hi) (hh : hi ≤ 24) : KF (mOrder S (24 * a) lo hi) := by
  unfold mOrder
  rw [show 24 * a + lo + 1 = 24 * a + (lo + 1) by omega]
  exact KF.ord _ _ S h (by omega)
theorem KF.spr {j a : Nat} : ∀ (n k : Nat) (v : Int64) (S : Ms), KF S → k + n ≤ 24 → ¬ S.1 5 j = 1 → mTy S j = S.1 2 a → KF (sprF j (24 * a) k n v S) := by
  intro n
  induction n with
  | zero => intro k v S h _ _ _; exact h
  | succ n ih =>
    intro k v S h h1 h2 h3
    refine ih (k + 1) _ _ (KF.put h (by omega) fun _ => ?_) (by omega) h2 h3
    unfold joinF; rw [if_neg h2, h3]; exact keptF_idem _ _
theorem KF.lf {j a : Nat} : ∀ (n k : Nat) (S : Ms), KF S → Bi S → QE S → k + n ≤ 24 → mTy S j = S.1 2 a → KF (lfF j (24 * a) k n S).2 := by
  intro n
  induction n with
  | zero => intro k S h _ _ _ _; exact h
  | succ n ih =>
    intro k S h hB hE h1 h3
    rw [lfF_succ]
    split
    · obtain ⟨-, -, q2, -, q4⟩ := mEnd_q hB hE j k
      exact h.ext (by funext x; rw [q4 2 x (by decide) (by decide), sp_k _ _ _ _ (by decide), sp_k _ _ _ _ (by decide)]) (by show (mEnd S j k).2 4 = _; rw [q2])
    · refine ih (k + 1) _ (KF.put h (by omega) fun _ => ?_) hB hE (by omega) h3
      split
      · unfold mapF; rw [h3]; exact keptF_idem _ _
      · unfold shaF; rw [h3]; exact keptF_idem _ _
theorem KF.leaf {S : Ms} (h : KF S) (hB : Bi S) (hE : QE S) {t : Nat} (ht : (t : Int) < S.1 23 0) : KF (mLeaf S t).2 := by
  obtain ⟨b1, b2, b3, b4, b5, -⟩ := hB.2.2.2.2.2.1 t ht
  obtain ⟨j1, j2, j3, j4, j5, -⟩ := (hB.job ht).2.1
  have eA : mAt S (mOf S t) = 24 * (S.1 6 (mOf S t)).toNat := rfl
  have eT : mTy S (mOf S t) = S.1 2 (S.1 6 (mOf S t)).toNat := rfl
  unfold mLeaf
  simp only
  split
  · exact h.ext rfl rfl
  · rename_i q1
    split
    · rename_i q2
      exact KF.spr (mHi S t - mLo S t) (mLo S t) (S.2 22 t) S h (by unfold mLo mHi; omega) (by omega) eT
    · split
      · rw [eA]; exact h.order (by unfold mLo mHi; omega) (by unfold mHi; omega)
      · rw [eA]; exact KF.lf _ _ S h hB hE (by unfold mLo mHi; omega) eT
theorem KF.fin (i j : Nat) : ∀ (n k : Nat) (S : Ms), KF S → (∀ x : Nat, (x : Int) < S.1 23 0 → 0 ≤ S.1 16 x ∧ S.1 16 x < S.1 17 x ∧ S.1 17 x ≤ 24 ∧ S.1 18 x < x) → (k : Int) < S.1 23 0 → KF (finF i j n k S) := by
  intro n
  induction n with
  | zero => intro k S h _ _; exact h
  | succ n ih =>
    intro k S h hx hk
    rw [finF_succ]
    split
    · unfold finE
      split
      · exact h.ext rfl rfl
      · exact h.ext (by funext x; rw [mPut_c _ _ _ _ (by decide) (by decide)]; rfl) rfl
    · split
      · exact h.ext rfl rfl
      · rename_i q1 q2
        have h9 := hx k hk
        have hp : (((S.1 18 k).toNat : Nat) : Int) < S.1 23 0 := by omega
        refine ih _ _ ?_ (by rw [finJ_1]; exact hx) (by rw [finJ_1]; exact hp)
        obtain ⟨a1, a2, a3, -⟩ := hx (S.1 18 k).toNat hp
        generalize (S.1 18 k).toNat = p at *
        unfold finJ
        simp only
        have key : ∀ T : Ms, T.1 2 = S.1 2 → T.2 4 = S.2 4 → KF (if (sp S 20 p (S.1 20 p + 1)).1 5 j = 3 then mOrder T (mAt (sp S 20 p (S.1 20 p + 1)) j) (mLo (sp S 20 p (S.1 20 p + 1)) p) (mHi (sp S 20 p (S.1 20 p + 1)) p) else T) := by
          intro T e1 e2
          split
          · refine KF.order (h.ext e1 e2) ?_ ?_
            · show (S.1 16 p).toNat < (S.1 17 p).toNat; omega
            · show (S.1 17 p).toNat ≤ 24; omega
          · exact h.ext e1 e2
        refine key _ ?_ ?_
        · split <;> rfl
        · split <;> rfl
theorem KF.perform {S : Ms} (h : KF S) (hB : Bi S) (hE : QE S) {t i : Nat} (ht : (t : Int) < S.1 23 0) : KF (mPerform S t i) := by
  unfold mPerform
  simp only
  generalize hS1 : sp (sp S 11 (mOf S t) (S.1 11 (mOf S t) + 1)) 26 i (S.1 26 i + 1) = S1
  have h1 : KF S1 := by rw [← hS1]; exact h.ext rfl rfl
  have hB1 : Bi S1 := by rw [← hS1]; exact hB.mono (fun c jj _ _ _ h11 h26 _ _ _ _ => by rw [sp_k _ _ _ _ h26, sp_k _ _ _ _ h11]) hB.2.2.2.2.2.2.1
  have hE1 : QE S1 := by rw [← hS1]; exact hE
  have ht1 : (t : Int) < S1.1 23 0 := by rw [← hS1]; exact ht
  by_cases hf : mForks S t
  · rw [if_pos hf]
    exact h1.ext (by funext x; exact mFork_9 _ _ _ _ _ (by simp)) (mFork_d _ _ _)
  · rw [if_neg hf]
    have hl := h1.leaf hB1 hE1 ht1
    cases hb : (mLeaf S1 t).1
    · rw [if_neg (by simp)]; exact hl
    · rw [if_pos rfl]
      have f1 := mLeaf_t hb
      refine KF.fin _ _ _ _ _ hl ?_ (by rw [f1]; exact ht1)
      rw [f1]
      intro x hx
      obtain ⟨b1, b2, b3, b4, b5, b6, b7, -⟩ := hB1.2.2.2.2.2.1 x hx
      exact ⟨b3, b4, b5, b7⟩
/-- the two ways of a step: a task is pulled and performed, or the worker is idle -/
theorem mTurns_cases {S : Ms} (hB : Bi S) (hE : QE S) : ∃ i W : Nat, S.1 32 0 = (i : Int) ∧ S.1 1 0 = (W : Int) ∧ i < W ∧ ((∃ (S2 : Ms) (v k : Nat), Bi S2 ∧ v < W ∧ (k : Int) < S.1 25 v ∧ (∀ c, c ≠ 27 → c ≠ 29 → c ≠ 31 → c ≠ 32 → S2.1 c = S.1 c) ∧ S2.2 = S.2 ∧ mTurns S = (true, mPerform (mPull S2 v k) (S.1 24 (600 * v + k)).toNat i)) ∨ (∃ S2 : Ms, (∀ c, c ≠ 28 → c ≠ 31 → c ≠ 32 → S2.1 c = S.1 c) ∧ S2.2 = S.2 ∧ mTurns S = (false, S2))) := by
  obtain ⟨⟨W1, W2⟩, -, -, -, -, -, hq, hv, ⟨g1, g2⟩, ⟨u1, u2⟩⟩ := id hB
  obtain ⟨W, hW⟩ := Int.eq_ofNat_of_zero_le (show 0 ≤ S.1 1 0 by omega)
  obtain ⟨i, hi⟩ := Int.eq_ofNat_of_zero_le u1
  obtain ⟨v1, v2⟩ := hv i (by omega)
  obtain ⟨v, hvi⟩ := Int.eq_ofNat_of_zero_le v1
  refine ⟨i, W, hi, hW, by omega, ?_⟩
  generalize hS1 : sp (sp S 32 0 ((S.1 32 0 + 1) % S.1 1 0)) 31 0 (S.1 31 0 + 1) = S1
  have k1 : ∀ c, c ≠ 31 → c ≠ 32 → S1.1 c = S.1 c := fun c h1 h2 => by rw [← hS1]; funext jj; rw [sp_k _ _ _ _ h1, sp_k _ _ _ _ h2]
  have hB1 : Bi S1 := by rw [← hS1]; exact Bi_turn hB _
  have e2 : S1.2 = S.2 := by rw [← hS1]; rfl
  have eT : mTurns S = if 0 < S.1 25 i then (true, mPerform (mPull S1 i ((S.1 25 i).toNat - 1)) (S.1 24 (600 * i + ((S.1 25 i).toNat - 1))).toNat i) else match vicF S1 v W W 1 with
      | some v => (true, mPerform (mPull (sp (sp S1 29 i v) 27 i (S.1 27 i + 1)) v 0) (S.1 24 (600 * v)).toNat i)
      | none => (false, sp S1 28 i (S.1 28 i + 1)) := by
    unfold mTurns; simp only; rw [hS1, hi, hW, Int.toNat_natCast, hvi]; rfl
  have c25 : ∀ x, S1.1 25 x = S.1 25 x := fun x => by rw [k1 25 (by decide) (by decide)]
  rw [eT]
  by_cases h0 : 0 < S.1 25 i
  · rw [if_pos h0]
    exact Or.inl ⟨S1, i, (S.1 25 i).toNat - 1, hB1, by omega, by omega, fun c _ _ a b => k1 c a b, e2, rfl⟩
  · rw [if_neg h0]
    cases hvf : vicF S1 v W W 1 with
    | some r =>
      obtain ⟨k', r1, r2, r3, r4⟩ := vicF_some _ _ hvf
      have hrW : r < W := by rw [r3]; exact Nat.mod_lt _ (by omega)
      rw [c25] at r4
      have br := (hq r (by omega)).1
      exact Or.inl ⟨sp (sp S1 29 i r) 27 i (S.1 27 i + 1), r, 0, Bi_vic hB1 i r _ (by rw [k1 1 (by decide) (by decide)]; omega), hrW, by omega, fun c a1 a2 a3 a4 => by funext x; rw [sp_k _ _ _ _ a1, sp_k _ _ _ _ a2, k1 c a3 a4], by rw [← e2]; rfl, rfl⟩
    | none =>
      exact Or.inr ⟨sp S1 28 i (S.1 28 i + 1), fun c a1 a2 a3 => by funext x; rw [sp_k _ _ _ _ a1, k1 c a2 a3], by rw [← e2]; rfl, rfl⟩
def Fr (S : Ms) : Prop := (∀ j : Nat, S.1 14 0 ≤ (j : Int) → j < 12 → S.1 9 j = 0 ∧ S.1 11 j = 0) ∧ (∀ a, a < 4 → S.1 2 a = -1 → S.1 3 a = 0)
def Inv2 (S : Ms) : Prop := Inv S ∧ KF S ∧ Fr S
theorem Inv2.th {S : Ms} (h : Inv2 S) (x : Int) : Inv2 (sp S 0 0 x) := ⟨h.1.th x, h.2.1.ext rfl rfl, h.2.2⟩
theorem turns2 {S : Ms} (h : Inv2 S) : Inv2 (mTurns S).2 := by
  obtain ⟨hI, hK, hF1, hF2⟩ := h
  obtain ⟨o1, o2, -⟩ := turns_ok hI
  obtain ⟨hB, hE, -⟩ := hI
  have f2 : ∀ a, a < 4 → (mTurns S).2.1 2 a = -1 → (mTurns S).2.1 3 a = 0 := by rw [o2 2 (by simp), o2 3 (by simp)]; exact hF2
  refine ⟨o1, ?_⟩
  obtain ⟨i, W, hi, hW, hiW, hc⟩ := mTurns_cases hB hE
  rcases hc with ⟨S2, v, k, hB2, hv4, hk, k2, s2, e⟩ | ⟨S2, k2, s2, e⟩
  · rw [e] at f2 o2 ⊢
    have hW4 := hB.1.2
    have d25 : S2.1 25 = S.1 25 := k2 25 (by decide) (by decide) (by decide) (by decide)
    have hqk : S2.1 25 v = (((S.1 25 v).toNat : Nat) : Int) := by rw [d25]; omega
    have hB3 := Bi_pull (i := v) (k := k) (q := (S.1 25 v).toNat) hB2 (by omega) hqk (by omega)
    have k3 : ∀ c, c ≠ 24 → c ≠ 25 → c ≠ 27 → c ≠ 29 → c ≠ 31 → c ≠ 32 → (mPull S2 v k).1 c = S.1 c := fun c z1 z2 a1 a2 a3 a4 => by funext x; rw [mPull_k c x z1 z2, k2 c a1 a2 a3 a4]
    have hE3 : QE (mPull S2 v k) := by
      intro i' h1 h2
      rw [k3 1 (by decide) (by decide) (by decide) (by decide) (by decide) (by decide)] at h2
      rw [mPull_25, if_neg (by omega), d25]
      exact hE i' h1 h2
    have hq := (hB.2.2.2.2.2.2.1 v (by omega)).2.2 k hk
    have htn : (((S.1 24 (600 * v + k)).toNat : Nat) : Int) < S.1 23 0 := by omega
    generalize (S.1 24 (600 * v + k)).toNat = t at *
    have hj := (hB.job htn).1
    have eO : mOf (mPull S2 v k) t = mOf S t := by unfold mOf; rw [k3 15 (by decide) (by decide) (by decide) (by decide) (by decide) (by decide)]
    refine ⟨KF.perform (hK.ext (k3 2 (by decide) (by decide) (by decide) (by decide) (by decide) (by decide)) (by rw [mPull_2, s2])) hB3 hE3 (by rw [k3 23 (by decide) (by decide) (by decide) (by decide) (by decide) (by decide)]; exact htn), ?_, f2⟩
    intro j h1 h2
    rw [o2 14 (by simp)] at h1
    obtain ⟨a, b⟩ := mPerform_9 (i := i) (t := t) hB3 hE3 j (by rw [eO]; omega)
    rw [k3 9 (by decide) (by decide) (by decide) (by decide) (by decide) (by decide)] at a
    rw [k3 11 (by decide) (by decide) (by decide) (by decide) (by decide) (by decide)] at b
    show (mPerform (mPull S2 v k) t i).1 9 j = 0 ∧ (mPerform (mPull S2 v k) t i).1 11 j = 0
    rw [a, b]
    exact hF1 j h1 h2
  · rw [e] at f2 o2 ⊢
    refine ⟨hK.ext (k2 2 (by decide) (by decide) (by decide)) (by show S2.2 4 = _; rw [s2]), ?_, f2⟩
    intro j h1 h2
    rw [o2 14 (by simp)] at h1
    show S2.1 9 j = 0 ∧ S2.1 11 j = 0
    rw [k2 9 (by decide) (by decide) (by decide), k2 11 (by decide) (by decide) (by decide)]
    exact hF1 j h1 h2

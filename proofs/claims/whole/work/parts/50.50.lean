/-! WHAT A STEP KEEPS -/
theorem w1_nn {S : Ms} (hB : Bi S) {x : Nat} (hx : x ∈ qA S) : 0 ≤ w1 S x := by
  have := (hB.len (hB.qm hx)).1
  unfold w1; split <;> omega
theorem w2_nn {S : Ms} (hB : Bi S) {x : Nat} (hx : x ∈ qA S) : 0 ≤ w2 S x := by
  have := (hB.len (hB.qm hx)).1
  unfold w2; omega
theorem end_ok {S : Ms} {L X : Nat → Prop} (j : Nat) (v : Int) (hB : Bi S) (hE : QE S) (hT : Tr S L X) (hX : ∀ x, X x → mOf S x = j) : Ok S (mEnd S j v) 0 0 ∧ (mEnd S j v).2 = S.2 := by
  obtain ⟨q0, q1, q2, q3, q4⟩ := mEnd_q hB hE j v
  have f : ∀ c, c ≠ 24 → c ≠ 25 → c ≠ 9 → c ≠ 10 → (mEnd S j v).1 c = S.1 c := fun c h1 h2 h3 h4 => by
    funext x; rw [q4 c x h1 h2, sp_k _ _ _ _ h4, sp_k _ _ _ _ h3]
  have g9 : ∀ jj, (mEnd S j v).1 9 jj = (sp S 9 j 2).1 9 jj := fun jj => by rw [q4 9 jj (by decide) (by decide), sp_k _ _ _ _ (by decide)]
  have eO : mOf (mEnd S j v) = mOf S := by funext t; unfold mOf; rw [f 15 (by decide) (by decide) (by decide) (by decide)]
  have eL : lenT (mEnd S j v) = lenT S := by funext t; unfold lenT; rw [f 16 (by decide) (by decide) (by decide) (by decide), f 17 (by decide) (by decide) (by decide) (by decide)]
  have e1 : w1 (mEnd S j v) = w1 S := by funext t; unfold w1; rw [eO, eL, f 13 (by decide) (by decide) (by decide) (by decide)]
  have e2 : w2 (mEnd S j v) = w2 S := by funext t; unfold w2; rw [eL]
  refine ⟨⟨q3, ?_, ⟨_, Tr.retire j hB hT hX ?_ ?_ ?_ q1 ?_⟩, ?_, ?_, ?_⟩, q2⟩
  · intro i hi hw
    rw [f 1 (by decide) (by decide) (by decide) (by decide)] at hw
    have h0 := hE i hi hw
    have hl := q0 i hi
    rw [qL_nil h0] at hl
    have := congrArg List.length hl
    rw [qL_len] at this
    have h1 := q3.q0 i hi
    simp at this
    omega
  · intro c hc; exact f c (by omega) (by omega) (by omega) (by omega)
  · intro jj hjj; rw [g9]; exact sp_j _ _ _ hjj
  · rw [g9, sp_same]; omega
  · rw [q2]
  · unfold P1
    rw [e1, q1, f 23 (by decide) (by decide) (by decide) (by decide)]
    have := sumI_filter (f := w1 S) (notOf S j) fun x hx => w1_nn hB hx
    omega
  · unfold Ph
    rw [e2, q1, f 14 (by decide) (by decide) (by decide) (by decide)]
    have h1 := sumI_filter (f := w2 S) (notOf S j) fun x hx => w2_nn hB hx
    have h2 := sc_le (S := S) (S' := mEnd S j v) (S.1 14 0).toNat fun jj _ => by
      unfold scw
      rw [g9, f 5 (by decide) (by decide) (by decide) (by decide), f 13 (by decide) (by decide) (by decide) (by decide)]
      by_cases e : jj = j
      · subst e; rw [sp_same, if_neg (by omega)]; split <;> omega
      · rw [sp_j _ _ _ e]; exact Int.le_refl _
    omega
  · intro c hc; exact f c (by omega) (by omega) (by omega) (by omega)
theorem Tr.res {S S' : Ms} {L : Nat → Prop} {t : Nat} (hB : Bi S) (h : Tr S L (fun x => x = t)) (e : S'.1 = S.1) (hr : ∀ x, x ≠ t → S'.2 21 x = S.2 21 x) (hr2 : S.1 13 (mOf S t) = 2 → S'.2 21 = S.2 21) (hc1 : S.1 13 (mOf S t) = 1 → S.1 19 t = -1) : Tr S' L (fun x => x = t) := by
  obtain ⟨t1, t2, t3, t4, t5, t6, t7⟩ := h
  have x1 := (t5 t rfl).1
  have y1 := (t3 t x1).1
  rw [of1_ e]
  refine ⟨t1, t2, t3, t4, t5, t6, ?_⟩
  intro x h1 h2 h3 h4 h5
  have h := t7 x h1 h2 h3 h4 h5
  show S'.2 21 x = joinF S (mOf S x) (S'.2 21 (chT S x)) (S'.2 21 (chT S x + 1))
  rcases hB.rd y1 with rd | rd
  · have hx : x ≠ t := fun q => by have := hc1 rd; rw [q] at h3; exact absurd h3 (by show ¬ 0 ≤ S.1 19 t; omega)
    obtain ⟨c1, c2, c3, c4, -⟩ := t2 x h1 h3
    have key : ∀ y, S.1 18 y = (x : Int) → S.1 15 y = S.1 15 x → ¬ y = t := by
      intro y hy ho q
      subst q
      rcases (t3 y x1).2.2 with ⟨a, -⟩ | ⟨-, b2, b3, -⟩
      · omega
      · have ep : paT S y = x := by unfold paT; rw [hy]; rfl
        rw [ep] at b2 b3
        have eo : mOf S x = mOf S y := by unfold mOf; rw [ho]
        rcases h5 with h | h | h
        · have h' : S.1 13 (mOf S x) = 2 := h
          rw [eo] at h'; omega
        · exact h b2
        · exact b3 h
    rw [hr x hx, hr _ (key _ c1 c3), hr _ (key _ c2 c4)]
    exact h
  · rw [hr2 rd]; exact h
theorem lfF_f (j a : Nat) : ∀ (n k : Nat) (S : Ms), (lfF j a k n S).1 = false → ∃ (S2 : Ms) (k' : Nat), S2.1 = S.1 ∧ S2.2 21 = S.2 21 ∧ (lfF j a k n S).2 = mEnd S2 j k' := by
  intro n
  induction n with
  | zero => intro k S h; cases h
  | succ n ih =>
    intro k S h
    rw [lfF_succ] at h ⊢
    split at h
    · rename_i c
      rw [if_pos c]
      exact ⟨S, k, rfl, rfl, rfl⟩
    · rename_i c
      rw [if_neg c]
      obtain ⟨S2, k', h1, h2, h3⟩ := ih _ _ h
      exact ⟨S2, k', h1, by rw [h2]; funext x; exact sq_k _ _ _ _ (by decide), h3⟩
theorem lfF_r (j a : Nat) : ∀ (n k : Nat) (S : Ms), (lfF j a k n S).1 = true → (lfF j a k n S).2.2 21 = S.2 21 := by
  intro n
  induction n with
  | zero => intro k S _; rfl
  | succ n ih =>
    intro k S h
    rw [lfF_succ] at h ⊢
    split at h
    · cases h
    · rename_i c
      rw [if_neg c, ih _ _ h]; funext x; exact sq_k _ _ _ _ (by decide)
theorem sprF_2 (j a c : Nat) (hc : c ≠ 4) : ∀ (n k : Nat) (v : Int64) (S : Ms), (sprF j a k n v S).2 c = S.2 c := by
  intro n
  induction n with
  | zero => intro k v S; rfl
  | succ n ih => intro k v S; show (sprF j a (k + 1) n _ _).2 c = S.2 c; rw [ih]; funext x; exact sq_k _ _ _ _ hc
theorem mLeaf_f {S : Ms} {t : Nat} (h : (mLeaf S t).1 = false) : ∃ (S2 : Ms) (k' : Nat), S2.1 = S.1 ∧ S2.2 21 = S.2 21 ∧ (mLeaf S t).2 = mEnd S2 (mOf S t) k' := by
  unfold mLeaf at h ⊢
  simp only at h ⊢
  split
  · rename_i q1; rw [if_pos q1] at h; cases h
  · rename_i q1
    rw [if_neg q1] at h
    split
    · rename_i q2; rw [if_pos q2] at h; cases h
    · rename_i q2
      rw [if_neg q2] at h
      split
      · rename_i q3; rw [if_pos q3] at h; cases h
      · rename_i q3
        rw [if_neg q3] at h
        exact lfF_f _ _ _ _ _ h
theorem mLeaf_r {S : Ms} {t : Nat} (h : (mLeaf S t).1 = true) : (∀ x, x ≠ t → (mLeaf S t).2.2 21 x = S.2 21 x) ∧ (S.1 5 (mOf S t) = 2 → S.1 13 (mOf S t) = 2 → (mLeaf S t).2.2 21 = S.2 21) := by
  unfold mLeaf at h ⊢
  simp only at h ⊢
  split
  · rename_i q1
    exact ⟨fun x hx => sq_j _ _ _ hx, fun a b => by omega⟩
  · rename_i q1
    rw [if_neg q1] at h
    split
    · have : (mSpread S t).2 21 = S.2 21 := sprF_2 _ _ _ (by decide) _ _ _ _
      exact ⟨fun x _ => by show (mSpread S t).2 21 x = _; rw [this], fun _ _ => this⟩
    · rename_i q2
      rw [if_neg q2] at h
      split
      · have : (mOrder S (mAt S (mOf S t)) (mLo S t) (mHi S t)).2 21 = S.2 21 := mOrder_2 _ _ _ _ _ (by decide)
        exact ⟨fun x _ => by show (mOrder S (mAt S (mOf S t)) (mLo S t) (mHi S t)).2 21 x = _; rw [this], fun _ _ => this⟩
      · rename_i q3
        rw [if_neg q3] at h
        have := lfF_r _ _ _ _ _ h
        exact ⟨fun x _ => by rw [this], fun _ _ => this⟩

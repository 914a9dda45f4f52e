/-! A TASK IS OVER: one step up -/
/-- what is known of the parent of the task that is held -/
theorem Tr.par {S : Ms} {L : Nat → Prop} {k : Nat} (hB : Bi S) (h : Tr S L (fun x => x = k)) (hp : 0 ≤ S.1 18 k) :
    L k ∧ (k : Int) < S.1 23 0 ∧ S.1 9 (mOf S k) = 0 ∧ S.1 18 k = ((paT S k : Nat) : Int) ∧ paT S k < k ∧ L (paT S k) ∧ ¬ paT S k ∈ qA S ∧ mOf S (paT S k) = mOf S k ∧ 0 ≤ S.1 19 (paT S k) ∧ (chT S (paT S k) = k ∨ chT S (paT S k) + 1 = k) ∧ ((S.1 20 (paT S k) = 0 ∧ L (chT S (paT S k)) ∧ L (chT S (paT S k) + 1)) ∨ (S.1 20 (paT S k) = 1 ∧ (L (chT S (paT S k)) ↔ ¬ L (chT S (paT S k) + 1)))) := by
  obtain ⟨t1, t2, t3, t4, t5, t6, t7⟩ := h
  obtain ⟨x1, x2, x3⟩ := t5 k rfl
  obtain ⟨a1, a2, a3⟩ := t3 k x1
  rcases a3 with ⟨a, -⟩ | ⟨-, b2, b3, b4⟩
  · omega
  · obtain ⟨-, -, -, -, -, -, c7, -, -, -, c11⟩ := hB.2.2.2.2.2.1 k a1
    obtain ⟨d1, d2⟩ := c11 hp
    have e : S.1 18 k = ((paT S k : Nat) : Int) := by unfold paT; omega
    obtain ⟨e1, e2⟩ := t4 _ b2 b4 b3
    have hpa : (S.1 18 k).toNat = paT S k := rfl
    rw [hpa] at d1 d2
    refine ⟨x1, a1, a2, e, by omega, b2, b4, by unfold mOf; rw [d2], e1, ?_, e2⟩
    unfold chT; omega
theorem Tr.root {S : Ms} {L : Nat → Prop} {k : Nat} (h : Tr S L (fun x => x = k)) (hB : Bi S) (hp : S.1 18 k < 0) : k = rootT S (mOf S k) ∧ ∀ t, L t → mOf S t = mOf S k → t = k := by
  obtain ⟨t1, t2, t3, t4, t5, t6, t7⟩ := h
  obtain ⟨x1, x2, x3⟩ := t5 k rfl
  have hk : k = rootT S (mOf S k) := by
    rcases (t3 k x1).2.2 with ⟨-, a⟩ | ⟨a, -⟩
    · exact a
    · omega
  refine ⟨hk, fun t => ?_⟩
  induction t using Nat.strongRecOn with
  | _ t ih =>
    intro hl ho
    obtain ⟨a1, a2, a3⟩ := t3 t hl
    rcases a3 with ⟨-, a⟩ | ⟨b1, b2, b3, b4⟩
    · rw [a, ho]; exact hk.symm
    · obtain ⟨-, -, -, -, -, -, c7, -, -, -, c11⟩ := hB.2.2.2.2.2.1 t a1
      obtain ⟨d1, d2⟩ := c11 b1
      have e : mOf S (paT S t) = mOf S t := by unfold mOf paT; rw [d2]
      exact absurd (ih (paT S t) (by unfold paT; omega) b2 (by rw [e, ho])) b3
theorem Tr.up {S S' : Ms} {L : Nat → Prop} {k : Nat} (hB : Bi S) (h : Tr S L (fun x => x = k)) (hp : 0 ≤ S.1 18 k) (h0 : S.1 20 (paT S k) = 0) (A : AgT S S') (h20 : S'.1 20 (paT S k) = 1) (h20' : ∀ t, t ≠ paT S k → S'.1 20 t = S.1 20 t) (hq : qA S' = qA S) (hr : S'.2 21 = S.2 21) : Tr S' (fun x => L x ∧ x ≠ k) X0 := by
  obtain ⟨p1, p2, p3, p4, p5, p6, p7, p8, p9, p10, p11⟩ := h.par hB hp
  obtain ⟨t1, t2, t3, t4, t5, t6, t7⟩ := h
  generalize hP : paT S k = p at *
  rcases p11 with ⟨-, q1, q2⟩ | ⟨q, -⟩
  · unfold Tr TrJb TrCh TrLv TrOp TrX TrQu TrRs
    simp only [A.f5, A.f9, A.f13, A.f14, A.f15, A.f18, A.f19, A.f23, A.eO, A.eR, A.eC, A.eP, A.eL, A.eJ, hq, hr]
    refine ⟨?_, t2, ?_, ?_, ?_, ⟨t6.1, ?_⟩, ?_⟩
    · intro j hj
      obtain ⟨a1, a2, a3, a4⟩ := t1 j hj
      exact ⟨a1, a2, a3, fun q => ⟨a4 q, fun e => by rw [e] at a2; omega⟩⟩
    · rintro x ⟨hx, hk⟩
      obtain ⟨a1, a2, a3⟩ := t3 x hx
      exact ⟨a1, a2, a3.imp id fun ⟨b1, b2, b3, b4⟩ => ⟨b1, ⟨b2, b3⟩, fun e => e, b4⟩⟩
    · rintro x ⟨hx, hk⟩ h1 -
      obtain ⟨a1, a2⟩ := t4 x hx h1 hk
      refine ⟨a1, ?_⟩
      by_cases e : x = p
      · subst e
        refine Or.inr ⟨h20, ?_⟩
        rcases p10 with r | r
        · constructor
          · intro z; exact absurd r z.2
          · intro z; exact absurd ⟨q2, by omega⟩ z
        · constructor
          · intro z z2; exact absurd r z2.2
          · intro z; exact ⟨q1, by omega⟩
      · rw [h20' x e]
        obtain ⟨c1, c2, -⟩ := t2 x (t3 x hx).1 a1
        have n1 : chT S x ≠ k := fun z => by rw [z] at c1; omega
        have n2 : chT S x + 1 ≠ k := fun z => by rw [z] at c2; omega
        rcases a2 with ⟨d1, d2, d3⟩ | ⟨d1, d2⟩
        · exact Or.inl ⟨d1, ⟨d2, n1⟩, ⟨d3, n2⟩⟩
        · exact Or.inr ⟨d1, ⟨fun z z2 => d2.mp z.1 z2.1, fun z => ⟨d2.mpr fun z2 => z ⟨z2, n2⟩, n1⟩⟩⟩
    · intro x hx; exact absurd hx (fun e => e)
    · intro x hx
      obtain ⟨a1, a2⟩ := t6.2 x hx
      exact ⟨⟨a1, fun e => (t5 k rfl).2.1 (e ▸ hx)⟩, a2⟩
    · intro x h1 h2 h3 h4 h5
      refine t7 x h1 h2 h3 h4 ?_
      rcases h5 with h | h | h
      · exact Or.inl h
      · by_cases e : x = k
        · exact Or.inr (Or.inr e)
        · exact Or.inr (Or.inl fun z => h ⟨z, e⟩)
      · exact absurd h (fun e => e)
  · omega
theorem Tr.up2 {S S' : Ms} {L : Nat → Prop} {k : Nat} (hB : Bi S) (h : Tr S L (fun x => x = k)) (hp : 0 ≤ S.1 18 k) (h0 : ¬ S.1 20 (paT S k) = 0) (A : AgT S S') (h20' : ∀ t, t ≠ paT S k → S'.1 20 t = S.1 20 t) (hq : qA S' = qA S) (hr : ∀ t, t ≠ paT S k → S'.2 21 t = S.2 21 t) (hr2 : S.1 13 (mOf S k) = 2 → S'.2 21 = S.2 21) (hr1 : S.1 13 (mOf S k) = 1 → S.1 5 (mOf S k) < 3 → S'.2 21 (paT S k) = joinF S (mOf S k) (S.2 21 (chT S (paT S k))) (S.2 21 (chT S (paT S k) + 1))) : Tr S' (fun x => L x ∧ x ≠ k) (fun x => x = paT S k) := by
  obtain ⟨p1, p2, p3, p4, p5, p6, p7, p8, p9, p10, p11⟩ := h.par hB hp
  obtain ⟨t1, t2, t3, t4, t5, t6, t7⟩ := h
  have rdk := hB.rd p2
  generalize hP : paT S k = p at *
  rcases p11 with ⟨q, -⟩ | ⟨-, q1⟩
  · exact absurd q h0
  · have hpp : (p : Int) < S.1 23 0 := (t3 p p6).1
    obtain ⟨c1, c2, c3, c4, c5⟩ := t2 p hpp p9
    obtain ⟨-, -, -, -, -, -, -, b8, -⟩ := hB.2.2.2.2.2.1 p hpp
    have hch : p < chT S p := by unfold chT; omega
    have hot : ∀ x, L x → x ≠ k → x ≠ chT S p ∧ x ≠ chT S p + 1 := by
      intro x hx hk
      rcases p10 with r | r
      · refine ⟨by omega, fun e => ?_⟩
        rw [e] at hx
        rw [r] at q1
        exact (q1.mp p1) (by rw [r] at hx; exact hx)
      · refine ⟨fun e => ?_, by omega⟩
        rw [e] at hx
        exact (q1.mp hx) (by rw [r]; exact p1)
    unfold Tr TrJb TrCh TrLv TrOp TrX TrQu TrRs
    simp only [A.f5, A.f9, A.f13, A.f14, A.f15, A.f18, A.f19, A.f23, A.eO, A.eR, A.eC, A.eP, A.eL, A.eJ, hq]
    refine ⟨?_, t2, ?_, ?_, ?_, ⟨t6.1, ?_⟩, ?_⟩
    · intro j hj
      obtain ⟨a1, a2, a3, a4⟩ := t1 j hj
      exact ⟨a1, a2, a3, fun q => ⟨a4 q, fun e => by rw [e] at a2; omega⟩⟩
    · rintro x ⟨hx, hk⟩
      obtain ⟨a1, a2, a3⟩ := t3 x hx
      refine ⟨a1, a2, a3.imp id fun ⟨b1, b2, b3, b4⟩ => ⟨b1, ⟨b2, b3⟩, fun e => ?_, b4⟩⟩
      obtain ⟨-, -, -, -, -, -, -, -, -, -, c11⟩ := hB.2.2.2.2.2.1 x a1
      obtain ⟨d1, -⟩ := c11 b1
      have e2 : (S.1 18 x).toNat = p := e
      rw [e2] at d1
      have := hot x hx hk
      unfold chT at this
      omega
    · rintro x ⟨hx, hk⟩ h1 h2
      obtain ⟨a1, a2⟩ := t4 x hx h1 hk
      refine ⟨a1, ?_⟩
      rw [h20' x h2]
      obtain ⟨c1, c2, -⟩ := t2 x (t3 x hx).1 a1
      have n1 : chT S x ≠ k := fun z => by rw [z] at c1; omega
      have n2 : chT S x + 1 ≠ k := fun z => by rw [z] at c2; omega
      rcases a2 with ⟨d1, d2, d3⟩ | ⟨d1, d2⟩
      · exact Or.inl ⟨d1, ⟨d2, n1⟩, ⟨d3, n2⟩⟩
      · exact Or.inr ⟨d1, ⟨fun z z2 => d2.mp z.1 z2.1, fun z => ⟨d2.mpr fun z2 => z ⟨z2, n2⟩, n1⟩⟩⟩
    · rintro x rfl
      refine ⟨⟨p6, by omega⟩, p7, fun _ => ?_⟩
      exact ⟨fun z => (hot _ z.1 z.2).1 rfl, fun z => (hot _ z.1 z.2).2 rfl⟩
    · intro x hx
      obtain ⟨a1, a2⟩ := t6.2 x hx
      exact ⟨⟨a1, fun e => (t5 k rfl).2.1 (e ▸ hx)⟩, a2⟩
    · intro x h1 h2 h3 h4 h5
      obtain ⟨c1, c2, c3, -⟩ := t2 x h1 h3
      have old : (S.1 13 (mOf S x) = 2 ∨ ¬L x ∨ x = k) → S.2 21 x = joinF S (mOf S x) (S.2 21 (chT S x)) (S.2 21 (chT S x + 1)) := t7 x h1 h2 h3 h4
      rcases rdk with rd | rd
      · by_cases e : x = p
        · subst e
          obtain ⟨-, -, -, -, -, -, -, b8, -⟩ := hB.2.2.2.2.2.1 x h1
          rw [hr (chT S x) (by unfold chT; omega), hr (chT S x + 1) (by unfold chT; omega), p8]
          exact hr1 rd (by rw [← p8]; exact h4)
        · have np : ¬ chT S x = p ∧ ¬ chT S x + 1 = p := by
            have key : ∀ y, S.1 18 y = x → ¬ y = p := by
              intro y hy e2
              subst e2
              obtain ⟨-, -, a3⟩ := t3 y p6
              have hox : mOf S x = mOf S y := by
                obtain ⟨-, -, -, -, -, -, -, -, -, -, c11⟩ := hB.2.2.2.2.2.1 y hpp
                have := (c11 (by omega)).2
                unfold mOf; rw [hy] at this; rw [← this]; rfl
              rcases a3 with ⟨a, -⟩ | ⟨b1, b2, b3, b4⟩
              · omega
              · have ex : paT S y = x := by unfold paT; rw [hy]; rfl
                rw [ex] at b2 b3
                rcases h5 with h | h | h
                · rw [hox, p8] at h; omega
                · exact h ⟨b2, b3⟩
                · exact e h
            exact ⟨key _ c1, key _ c2⟩
          rw [hr x e, hr _ np.1, hr _ np.2]
          refine old ?_
          rcases h5 with h | h | h
          · exact Or.inl h
          · by_cases e : x = k
            · exact Or.inr (Or.inr e)
            · exact Or.inr (Or.inl fun z => h ⟨z, e⟩)
          · exact absurd h e
      · rw [hr2 rd]
        refine old ?_
        rcases h5 with h | h | h
        · exact Or.inl h
        · by_cases e : x = k
          · exact Or.inr (Or.inr e)
          · exact Or.inr (Or.inl fun z => h ⟨z, e⟩)
        · subst h; rw [p8]; exact Or.inl rd

/-! A JOB ENDS; A SCAN's SECOND ROUND BEGINS; A FORK IN THE SECOND ROUND -/
theorem Tr.retire {S S' : Ms} {L X : Nat → Prop} (j : Nat) (hB : Bi S) (h : Tr S L X) (hX : ∀ x, X x → mOf S x = j) (A : ∀ c, c = 2 ∨ c = 5 ∨ c = 6 ∨ c = 12 ∨ c = 13 ∨ c = 14 ∨ c = 15 ∨ c = 16 ∨ c = 17 ∨ c = 18 ∨ c = 19 ∨ c = 20 ∨ c = 23 → S'.1 c = S.1 c) (h9 : ∀ jj, jj ≠ j → S'.1 9 jj = S.1 9 jj) (h9j : ¬ S'.1 9 j = 0) (hq : qA S' = (qA S).filter (notOf S j)) (hr : S'.2 21 = S.2 21) : Tr S' (fun x => L x ∧ mOf S x ≠ j) X0 := by
  obtain ⟨t1, t2, t3, t4, t5, t6, t7⟩ := h
  have eO : mOf S' = mOf S := by funext t; unfold mOf; rw [A 15 (by simp)]
  have eR : rootT S' = rootT S := by funext t; unfold rootT; rw [A 12 (by simp)]
  have eC : chT S' = chT S := by funext t; unfold chT; rw [A 19 (by simp)]
  have eP : paT S' = paT S := by funext t; unfold paT; rw [A 18 (by simp)]
  have eL : lenT S' = lenT S := by funext t; unfold lenT; rw [A 16 (by simp), A 17 (by simp)]
  have eJ : joinF S' = joinF S := by funext j v u; unfold joinF mTy; rw [A 5 (by simp), A 6 (by simp), A 2 (by simp)]
  have hm : ∀ x : Nat, (x : Int) < S.1 23 0 → (x ∈ qA S' ↔ x ∈ qA S ∧ mOf S x ≠ j) := fun x hx => by
    rw [hq, List.mem_filter]
    unfold notOf
    have := (hB.job hx).2.2
    simp only [decide_not, Bool.not_eq_eq_eq_not, Bool.not_true, decide_eq_false_iff_not]
    rw [this]
    constructor
    · rintro ⟨a, b⟩; exact ⟨a, fun e => b (by rw [e])⟩
    · rintro ⟨a, b⟩; exact ⟨a, fun e => b (by omega)⟩
  have hm1 : ∀ x, x ∈ qA S' → x ∈ qA S := fun x hx => by rw [hq, List.mem_filter] at hx; exact hx.1
  unfold Tr TrJb TrCh TrLv TrOp TrX TrQu TrRs
  simp only [A 5 (by simp), A 13 (by simp), A 14 (by simp), A 15 (by simp), A 18 (by simp), A 19 (by simp), A 20 (by simp), A 23 (by simp), eO, eR, eC, eP, eL, eJ, hr]
  refine ⟨?_, t2, ?_, ?_, ?_, ⟨?_, ?_⟩, ?_⟩
  · intro jj hj
    obtain ⟨a1, a2, a3, a4⟩ := t1 jj hj
    refine ⟨a1, a2, a3, fun q => ?_⟩
    have e : jj ≠ j := fun e => h9j (by rw [← e]; exact q)
    exact ⟨a4 (by rw [← h9 jj e]; exact q), by rw [a1]; exact e⟩
  · rintro x ⟨hx, hj⟩
    obtain ⟨a1, a2, a3⟩ := t3 x hx
    refine ⟨a1, by rw [h9 _ hj]; exact a2, a3.imp id fun ⟨b1, b2, b3, b4⟩ => ⟨b1, ⟨b2, ?_⟩, fun e => e, fun e => b4 (hm1 _ e)⟩⟩
    obtain ⟨-, -, -, -, -, -, -, -, -, -, c11⟩ := hB.2.2.2.2.2.1 x a1
    have e : mOf S (paT S x) = mOf S x := by unfold mOf paT; rw [(c11 b1).2]
    rw [e]; exact hj
  · rintro x ⟨hx, hj⟩ h1 -
    have hx9 := (t3 x hx).1
    obtain ⟨a1, a2⟩ := t4 x hx (fun e => h1 ((hm x hx9).mpr ⟨e, hj⟩)) (fun e => hj (hX x e))
    obtain ⟨-, -, c3, c4, -⟩ := t2 x hx9 a1
    have e1 : mOf S (chT S x) ≠ j := by unfold mOf at hj ⊢; rw [c3]; exact hj
    have e2 : mOf S (chT S x + 1) ≠ j := by unfold mOf at hj ⊢; rw [c4]; exact hj
    refine ⟨a1, ?_⟩
    rcases a2 with ⟨d1, d2, d3⟩ | ⟨d1, d2⟩
    · exact Or.inl ⟨d1, ⟨d2, e1⟩, ⟨d3, e2⟩⟩
    · exact Or.inr ⟨d1, ⟨fun z z2 => d2.mp z.1 z2.1, fun z => ⟨d2.mpr fun z2 => z ⟨z2, e2⟩, e1⟩⟩⟩
  · intro x hx; exact absurd hx (fun e => e)
  · rw [hq]; exact t6.1.filter _
  · intro x hx
    obtain ⟨a1, a2⟩ := t6.2 x (hm1 x hx)
    exact ⟨⟨a1, ((hm x (t3 x a1).1).mp hx).2⟩, a2⟩
  · intro x h1 h2 h3 h4 h5
    have e : mOf S x ≠ j := fun e => h9j (by rw [← e]; exact h2)
    refine t7 x h1 (by rw [← h9 _ e]; exact h2) h3 h4 ?_
    rcases h5 with h | h | h
    · exact Or.inl h
    · exact Or.inr (Or.inl fun z => h ⟨z, e⟩)
    · exact absurd h (fun e => e)
theorem Tr.again {S S' : Ms} {L : Nat → Prop} {k : Nat} (hB : Bi S) (h : Tr S L (fun x => x = k)) (hp : S.1 18 k < 0) (A : ∀ c, c = 2 ∨ c = 5 ∨ c = 6 ∨ c = 9 ∨ c = 12 ∨ c = 14 ∨ c = 15 ∨ c = 16 ∨ c = 17 ∨ c = 18 ∨ c = 19 ∨ c = 20 ∨ c = 23 → S'.1 c = S.1 c) (h13 : ∀ jj, jj ≠ mOf S k → S'.1 13 jj = S.1 13 jj) (h13j : S'.1 13 (mOf S k) = 2) (hk : S.1 5 (mOf S k) = 2) (hq : (qA S').Perm (k :: qA S)) (hr : S'.2 21 = S.2 21) : Tr S' L X0 := by
  obtain ⟨r1, r2⟩ := h.root hB hp
  obtain ⟨t1, t2, t3, t4, t5, t6, t7⟩ := h
  obtain ⟨x1, x2, x3⟩ := t5 k rfl
  have eO : mOf S' = mOf S := by funext t; unfold mOf; rw [A 15 (by simp)]
  have eR : rootT S' = rootT S := by funext t; unfold rootT; rw [A 12 (by simp)]
  have eC : chT S' = chT S := by funext t; unfold chT; rw [A 19 (by simp)]
  have eP : paT S' = paT S := by funext t; unfold paT; rw [A 18 (by simp)]
  have eL : lenT S' = lenT S := by funext t; unfold lenT; rw [A 16 (by simp), A 17 (by simp)]
  have eJ : joinF S' = joinF S := by funext j v u; unfold joinF mTy; rw [A 5 (by simp), A 6 (by simp), A 2 (by simp)]
  have hm : ∀ x, x ∈ qA S' ↔ x = k ∨ x ∈ qA S := fun x => by rw [hq.mem_iff]; simp
  unfold Tr TrJb TrCh TrLv TrOp TrX TrQu TrRs
  simp only [A 5 (by simp), A 9 (by simp), A 14 (by simp), A 15 (by simp), A 18 (by simp), A 19 (by simp), A 20 (by simp), A 23 (by simp), eO, eR, eC, eP, eL, eJ, hr]
  refine ⟨?_, t2, ?_, ?_, ?_, ⟨?_, ?_⟩, ?_⟩
  · intro jj hj
    obtain ⟨a1, a2, a3, a4⟩ := t1 jj hj
    refine ⟨a1, a2, fun q => ?_, a4⟩
    by_cases e : jj = mOf S k
    · rw [e]; exact hk
    · exact a3 (by rw [← h13 jj e]; exact q)
  · intro x hx
    obtain ⟨a1, a2, a3⟩ := t3 x hx
    exact ⟨a1, a2, a3.imp id fun ⟨b1, b2, b3, b4⟩ => ⟨b1, b2, fun e => e, fun e => ((hm _).mp e).elim b3 b4⟩⟩
  · intro x hx h1 _
    exact t4 x hx (fun e => h1 ((hm x).mpr (Or.inr e))) (fun e => h1 ((hm x).mpr (Or.inl e)))
  · intro x hx; exact absurd hx (fun e => e)
  · rw [hq.nodup_iff]; exact List.nodup_cons.mpr ⟨x2, t6.1⟩
  · intro x hx
    rcases (hm x).mp hx with e | e
    · rw [e]; exact ⟨x1, fun z => by rw [h13j] at z; omega⟩
    · obtain ⟨a1, a2⟩ := t6.2 x e
      refine ⟨a1, fun z => ?_⟩
      by_cases e2 : mOf S x = mOf S k
      · rw [e2, h13j] at z; omega
      · exact a2 (by rw [← h13 _ e2]; exact z)
  · intro x h1 h2 h3 h4 h5
    refine t7 x h1 h2 h3 h4 ?_
    by_cases e2 : mOf S x = mOf S k
    · by_cases e : x = k
      · exact Or.inr (Or.inr e)
      · exact Or.inr (Or.inl fun z => e (r2 x z e2))
    · rcases h5 with h | h | h
      · exact Or.inl (by rw [← h13 _ e2]; exact h)
      · exact Or.inr (Or.inl h)
      · exact absurd h (fun e => e)
theorem Tr.fork2 {S S' : Ms} {L : Nat → Prop} {t : Nat} (hB : Bi S) (h : Tr S L (fun x => x = t)) (A : AgT S S') (hc : 0 ≤ S.1 19 t) (hrd : S.1 13 (mOf S t) = 2) (h20 : S'.1 20 t = 0) (h20' : ∀ x, x ≠ t → S'.1 20 x = S.1 20 x) (hq : (qA S').Perm (chT S t :: (chT S t + 1) :: qA S)) (hr : S'.2 21 = S.2 21) : Tr S' (fun x => L x ∨ x = chT S t ∨ x = chT S t + 1) X0 := by
  obtain ⟨t1, t2, t3, t4, t5, t6, t7⟩ := h
  obtain ⟨x1, x2, x3⟩ := t5 t rfl
  obtain ⟨y1, y2⟩ := x3 hc
  obtain ⟨z1, z2, -⟩ := t3 t x1
  obtain ⟨c1, c2, c3, c4, -⟩ := t2 t z1 hc
  obtain ⟨-, -, -, -, -, -, -, b8, -⟩ := hB.2.2.2.2.2.1 t z1
  have hcn : (chT S t : Int) = S.1 19 t := by unfold chT; omega
  generalize hC : chT S t = c at *
  have o1 : mOf S c = mOf S t := by unfold mOf; rw [c3]
  have o2 : mOf S (c + 1) = mOf S t := by unfold mOf; rw [c4]
  have hm : ∀ x, x ∈ qA S' ↔ x = c ∨ x = c + 1 ∨ x ∈ qA S := fun x => by rw [hq.mem_iff]; simp
  have nq1 : ¬ c ∈ qA S := fun e => y1 (t6.2 _ e).1
  have nq2 : ¬ c + 1 ∈ qA S := fun e => y2 (t6.2 _ e).1
  unfold Tr TrJb TrCh TrLv TrOp TrX TrQu TrRs
  simp only [A.f5, A.f9, A.f13, A.f14, A.f15, A.f18, A.f19, A.f23, A.eO, A.eR, A.eC, A.eP, A.eL, A.eJ, hr]
  refine ⟨?_, t2, ?_, ?_, ?_, ⟨?_, ?_⟩, ?_⟩
  · intro jj hj
    obtain ⟨a1, a2, a3, a4⟩ := t1 jj hj
    exact ⟨a1, a2, a3, fun q => Or.inl (a4 q)⟩
  · have new : ∀ x : Nat, S.1 18 x = (t : Int) → mOf S x = mOf S t → (x : Int) < S.1 23 0 → (x : Int) < S.1 23 0 ∧ S.1 9 (mOf S x) = 0 ∧ ((S.1 18 x = -1 ∧ x = rootT S (mOf S x)) ∨ (0 ≤ S.1 18 x ∧ (L (paT S x) ∨ paT S x = c ∨ paT S x = c + 1) ∧ ¬ X0 (paT S x) ∧ ¬ paT S x ∈ qA S')) := by
      intro x e1 e2 e3
      have ep : paT S x = t := by unfold paT; rw [e1]; rfl
      refine ⟨e3, by rw [e2]; exact z2, Or.inr ⟨by omega, by rw [ep]; exact Or.inl x1, fun e => e, ?_⟩⟩
      rw [ep, hm]
      rintro (e | e | e)
      · omega
      · omega
      · exact x2 e
    rintro x (hx | hx | hx)
    · obtain ⟨a1, a2, a3⟩ := t3 x hx
      refine ⟨a1, a2, a3.imp id fun ⟨b1, b2, b3, b4⟩ => ⟨b1, Or.inl b2, fun e => e, fun e => ?_⟩⟩
      rcases (hm _).mp e with e | e | e
      · exact y1 (e ▸ b2)
      · exact y2 (e ▸ b2)
      · exact b4 e
    · rw [hx]; exact new c c1 o1 (by omega)
    · rw [hx]; exact new (c + 1) c2 o2 (by omega)
  · intro x hx h1 _
    have n1 : x ≠ c := fun e => h1 ((hm x).mpr (Or.inl e))
    have n2 : x ≠ c + 1 := fun e => h1 ((hm x).mpr (Or.inr (Or.inl e)))
    have n3 : ¬ x ∈ qA S := fun e => h1 ((hm x).mpr (Or.inr (Or.inr e)))
    have hl : L x := hx.elim id fun e => e.elim (fun e => absurd e n1) (fun e => absurd e n2)
    by_cases e : x = t
    · subst e
      rw [hC]
      exact ⟨hc, Or.inl ⟨h20, Or.inr (Or.inl rfl), Or.inr (Or.inr rfl)⟩⟩
    · obtain ⟨a1, a2⟩ := t4 x hl n3 e
      obtain ⟨e1, e2, -⟩ := t2 x (t3 x hl).1 a1
      have k1 : ∀ y, S.1 18 y = (x : Int) → ((L y ∨ y = c ∨ y = c + 1) ↔ L y) := fun y hy => by
        constructor
        · rintro (q | q | q)
          · exact q
          · rw [q] at hy; omega
          · rw [q] at hy; omega
        · exact Or.inl
      rw [h20' x e, k1 _ e1, k1 _ e2]
      exact ⟨a1, a2⟩
  · intro x hx; exact absurd hx (fun e => e)
  · rw [hq.nodup_iff]
    refine List.nodup_cons.mpr ⟨?_, List.nodup_cons.mpr ⟨nq2, t6.1⟩⟩
    rw [List.mem_cons]
    rintro (e | e)
    · omega
    · exact nq1 e
  · intro x hx
    rcases (hm x).mp hx with e | e | e
    · rw [e, o1]; exact ⟨Or.inr (Or.inl rfl), fun z => by omega⟩
    · rw [e, o2]; exact ⟨Or.inr (Or.inr rfl), fun z => by omega⟩
    · obtain ⟨a1, a2⟩ := t6.2 x e
      exact ⟨Or.inl a1, a2⟩
  · intro x h1 h2 h3 h4 h5
    refine t7 x h1 h2 h3 h4 ?_
    rcases h5 with h | h | h
    · exact Or.inl h
    · exact Or.inr (Or.inl fun z => h (Or.inl z))
    · exact absurd h (fun e => e)

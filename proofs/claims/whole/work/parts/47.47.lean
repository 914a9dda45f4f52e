/-! NEW TASKS: a fork in the first round; a job begins -/
theorem Tr.fork1 {S S' : Ms} {L : Nat → Prop} {t n0 : Nat} (hB : Bi S) (h : Tr S L (fun x => x = t)) (hn : S.1 23 0 = (n0 : Int)) (hn' : S'.1 23 0 = ((n0 + 2 : Nat) : Int)) (hrd : S.1 13 (mOf S t) = 1)
    (hJ : ∀ c, c = 2 ∨ c = 5 ∨ c = 6 ∨ c = 9 ∨ c = 12 ∨ c = 13 ∨ c = 14 → S'.1 c = S.1 c) (hT : ∀ c, c = 15 ∨ c = 16 ∨ c = 17 ∨ c = 18 → ∀ x, x < n0 → S'.1 c x = S.1 c x)
    (h19 : ∀ x, x < n0 → x ≠ t → S'.1 19 x = S.1 19 x) (h19t : S'.1 19 t = (n0 : Int)) (h20 : S'.1 20 t = 0) (h20' : ∀ x, x < n0 → x ≠ t → S'.1 20 x = S.1 20 x)
    (hnew : ∀ x, x = n0 ∨ x = n0 + 1 → S'.1 15 x = S.1 15 t ∧ S'.1 18 x = (t : Int) ∧ S'.1 19 x = -1) (hlen : lenT S' n0 + lenT S' (n0 + 1) = lenT S t)
    (hq : (qA S').Perm (n0 :: (n0 + 1) :: qA S)) (hr : S'.2 21 = S.2 21) : Tr S' (fun x => L x ∨ x = n0 ∨ x = n0 + 1) X0 := by
  obtain ⟨t1, t2, t3, t4, t5, t6, t7⟩ := h
  obtain ⟨x1, x2, x3⟩ := t5 t rfl
  obtain ⟨z1, z2, -⟩ := t3 t x1
  have htn : t < n0 := by omega
  have eO : ∀ x, x < n0 → mOf S' x = mOf S x := fun x hx => by unfold mOf; rw [hT 15 (by simp) x hx]
  have eON : ∀ x, x = n0 ∨ x = n0 + 1 → mOf S' x = mOf S t := fun x hx => by unfold mOf; rw [(hnew x hx).1]
  have eP : ∀ x, x < n0 → paT S' x = paT S x := fun x hx => by unfold paT; rw [hT 18 (by simp) x hx]
  have eR : rootT S' = rootT S := by funext t; unfold rootT; rw [hJ 12 (by simp)]
  have eC : ∀ x, x < n0 → x ≠ t → chT S' x = chT S x := fun x hx h => by unfold chT; rw [h19 x hx h]
  have eCt : chT S' t = n0 := by unfold chT; rw [h19t]; rfl
  have eL : ∀ x, x < n0 → lenT S' x = lenT S x := fun x hx => by unfold lenT; rw [hT 16 (by simp) x hx, hT 17 (by simp) x hx]
  have eJ : joinF S' = joinF S := by funext j v u; unfold joinF mTy; rw [hJ 5 (by simp), hJ 6 (by simp), hJ 2 (by simp)]
  have hm : ∀ x, x ∈ qA S' ↔ x = n0 ∨ x = n0 + 1 ∨ x ∈ qA S := fun x => by rw [hq.mem_iff]; simp
  have hLn : ∀ x, L x → x < n0 := fun x hx => by have := (t3 x hx).1; omega
  have hch : ∀ x : Nat, x < n0 → 0 ≤ S.1 19 x → chT S x + 1 < n0 := fun x hx h => by
    obtain ⟨-, -, -, -, -, -, -, b8, -⟩ := hB.2.2.2.2.2.1 x (by omega)
    unfold chT; omega
  unfold Tr TrJb TrCh TrLv TrOp TrX TrQu TrRs
  simp only [hJ 5 (by simp), hJ 9 (by simp), hJ 13 (by simp), hJ 14 (by simp), eR, eJ, hr, hn']
  refine ⟨?_, ?_, ?_, ?_, ?_, ⟨?_, ?_⟩, ?_⟩
  · intro jj hj
    obtain ⟨a1, a2, a3, a4⟩ := t1 jj hj
    have hr0 : rootT S jj < n0 := by
      obtain ⟨-, -, -, -, -, -, -, -, -, b1, b2, -⟩ := hB.2.2.2.1 jj hj
      unfold rootT; omega
    exact ⟨by rw [eO _ hr0]; exact a1, by rw [hT 18 (by simp) _ hr0]; exact a2, a3, fun q => Or.inl (a4 q)⟩
  · intro x hx hc
    by_cases e : x = t
    · subst e
      rw [eCt]
      obtain ⟨a1, a2, -⟩ := hnew n0 (Or.inl rfl)
      obtain ⟨b1, b2, -⟩ := hnew (n0 + 1) (Or.inr rfl)
      rw [hT 15 (by simp) x htn, eL x htn]
      exact ⟨a2, b2, a1, b1, hlen⟩
    · have hxn : x < n0 := by
        rcases Nat.lt_or_ge x n0 with q | q
        · exact q
        · have := (hnew x (by omega)).2.2; omega
      rw [h19 x hxn e] at hc
      have hcc := hch x hxn hc
      rw [eC x hxn e, hT 18 (by simp) _ (by omega), hT 18 (by simp) _ hcc, hT 15 (by simp) _ (by omega), hT 15 (by simp) _ hcc, hT 15 (by simp) x hxn, eL _ (by omega), eL _ hcc, eL x hxn]
      exact t2 x (by omega) hc
  · rintro x (hx | hx)
    · have hxn := hLn x hx
      obtain ⟨a1, a2, a3⟩ := t3 x hx
      rw [eO x hxn, eP x hxn, hT 18 (by simp) x hxn]
      refine ⟨by omega, a2, a3.imp id fun ⟨b1, b2, b3, b4⟩ => ⟨b1, Or.inl b2, fun e => e, fun e => ?_⟩⟩
      have := hLn _ b2
      rcases (hm _).mp e with e | e | e
      · omega
      · omega
      · exact b4 e
    · obtain ⟨a1, a2, -⟩ := hnew x hx
      have ep : paT S' x = t := by unfold paT; rw [a2]; rfl
      rw [eON x hx, ep]
      refine ⟨by omega, z2, Or.inr ⟨by omega, Or.inl x1, fun e => e, ?_⟩⟩
      rw [hm]
      rintro (e | e | e)
      · omega
      · omega
      · exact x2 e
  · intro x hx h1 _
    have n1 : x ≠ n0 := fun e => h1 ((hm x).mpr (Or.inl e))
    have n2 : x ≠ n0 + 1 := fun e => h1 ((hm x).mpr (Or.inr (Or.inl e)))
    have n3 : ¬ x ∈ qA S := fun e => h1 ((hm x).mpr (Or.inr (Or.inr e)))
    have hl : L x := hx.elim id fun e => e.elim (fun e => absurd e n1) (fun e => absurd e n2)
    have hxn := hLn x hl
    by_cases e : x = t
    · subst e
      rw [eCt]
      exact ⟨by omega, Or.inl ⟨h20, Or.inr (Or.inl rfl), Or.inr (Or.inr rfl)⟩⟩
    · obtain ⟨a1, a2⟩ := t4 x hl n3 e
      have hcc := hch x hxn a1
      have k1 : ∀ y, y < n0 → ((L y ∨ y = n0 ∨ y = n0 + 1) ↔ L y) := fun y hy => by
        constructor
        · rintro (q | q | q)
          · exact q
          · omega
          · omega
        · exact Or.inl
      rw [h20' x hxn e, eC x hxn e, h19 x hxn e, k1 _ (by omega), k1 _ hcc]
      exact ⟨a1, a2⟩
  · intro x hx; exact absurd hx (fun e => e)
  · have nq : ∀ x, x ∈ qA S → x < n0 := fun x hx => hLn x (t6.2 x hx).1
    rw [hq.nodup_iff]
    refine List.nodup_cons.mpr ⟨?_, List.nodup_cons.mpr ⟨fun e => by have := nq _ e; omega, t6.1⟩⟩
    rw [List.mem_cons]
    rintro (e | e)
    · omega
    · have := nq _ e; omega
  · intro x hx
    rcases (hm x).mp hx with e | e | e
    · exact ⟨Or.inr (Or.inl e), fun _ => (hnew x (Or.inl e)).2.2⟩
    · exact ⟨Or.inr (Or.inr e), fun _ => (hnew x (Or.inr e)).2.2⟩
    · obtain ⟨a1, a2⟩ := t6.2 x e
      have hxn := hLn x a1
      refine ⟨Or.inl a1, fun z => ?_⟩
      have e : x ≠ t := fun e' => x2 (e' ▸ e)
      rw [h19 x hxn e]
      exact a2 (by rw [← eO x hxn]; exact z)
  · intro x h1 h2 h3 h4 h5
    by_cases e : x = t
    · subst e
      rw [eO x htn] at h5
      rcases h5 with h | h | h
      · omega
      · exact absurd (Or.inl x1) h
      · exact absurd h (fun e => e)
    · have hxn : x < n0 := by
        rcases Nat.lt_or_ge x n0 with q | q
        · exact q
        · have := (hnew x (by omega)).2.2; omega
      rw [h19 x hxn e] at h3
      rw [eO x hxn] at h2 h4 h5 ⊢
      rw [eC x hxn e]
      refine t7 x (by omega) h2 h3 h4 ?_
      rcases h5 with h | h | h
      · exact Or.inl h
      · exact Or.inr (Or.inl fun z => h (Or.inl z))
      · exact absurd h (fun e => e)
theorem Tr.begin {S S' : Ms} {L : Nat → Prop} {n0 j0 : Nat} (hB : Bi S) (h : Tr S L X0) (hn : S.1 23 0 = (n0 : Int)) (hn' : S'.1 23 0 = ((n0 + 1 : Nat) : Int)) (hj : S.1 14 0 = (j0 : Int)) (hj' : S'.1 14 0 = ((j0 + 1 : Nat) : Int))
    (hJ : ∀ c, c = 5 ∨ c = 6 ∨ c = 9 ∨ c = 12 ∨ c = 13 → ∀ x, x < j0 → S'.1 c x = S.1 c x) (h2 : S'.1 2 = S.1 2) (hT : ∀ c, c = 15 ∨ c = 16 ∨ c = 17 ∨ c = 18 ∨ c = 19 ∨ c = 20 → ∀ x, x < n0 → S'.1 c x = S.1 c x)
    (h12 : S'.1 12 j0 = (n0 : Int)) (h13 : S'.1 13 j0 = 1) (h9 : S'.1 9 j0 = 0)
    (h15 : S'.1 15 n0 = (j0 : Int)) (h18 : S'.1 18 n0 = -1) (h19 : S'.1 19 n0 = -1)
    (hq : (qA S').Perm (n0 :: qA S)) (hr : S'.2 21 = S.2 21) : Tr S' (fun x => L x ∨ x = n0) X0 := by
  obtain ⟨t1, t2, t3, t4, t5, t6, t7⟩ := h
  have eO : ∀ x, x < n0 → mOf S' x = mOf S x := fun x hx => by unfold mOf; rw [hT 15 (by simp) x hx]
  have eON : mOf S' n0 = j0 := by unfold mOf; rw [h15]; rfl
  have eP : ∀ x, x < n0 → paT S' x = paT S x := fun x hx => by unfold paT; rw [hT 18 (by simp) x hx]
  have eR : ∀ x, x < j0 → rootT S' x = rootT S x := fun x hx => by unfold rootT; rw [hJ 12 (by simp) x hx]
  have eRN : rootT S' j0 = n0 := by unfold rootT; rw [h12]; rfl
  have eC : ∀ x, x < n0 → chT S' x = chT S x := fun x hx => by unfold chT; rw [hT 19 (by simp) x hx]
  have eL : ∀ x, x < n0 → lenT S' x = lenT S x := fun x hx => by unfold lenT; rw [hT 16 (by simp) x hx, hT 17 (by simp) x hx]
  have eJ : ∀ x, x < j0 → joinF S' x = joinF S x := fun x hx => by funext v u; unfold joinF mTy; rw [hJ 5 (by simp) x hx, hJ 6 (by simp) x hx, h2]
  have hm : ∀ x, x ∈ qA S' ↔ x = n0 ∨ x ∈ qA S := fun x => by rw [hq.mem_iff]; simp
  have hLn : ∀ x, L x → x < n0 := fun x hx => by have := (t3 x hx).1; omega
  have hoj : ∀ x : Nat, x < n0 → mOf S x < j0 := fun x hx => by have := (hB.job (t := x) (by omega)).1; omega
  have hch : ∀ x : Nat, x < n0 → 0 ≤ S.1 19 x → chT S x + 1 < n0 := fun x hx h => by
    obtain ⟨-, -, -, -, -, -, -, b8, -⟩ := hB.2.2.2.2.2.1 x (by omega)
    unfold chT; omega
  unfold Tr TrJb TrCh TrLv TrOp TrX TrQu TrRs
  simp only [hr, hn', hj']
  have c19 : ∀ x : Nat, (x : Int) < ((n0 + 1 : Nat) : Int) → 0 ≤ S'.1 19 x → x < n0 := fun x h1 h2 => by
    rcases Nat.lt_or_ge x n0 with q | q
    · exact q
    · rw [show x = n0 by omega, h19] at h2; omega
  refine ⟨?_, ?_, ?_, ?_, ?_, ⟨?_, ?_⟩, ?_⟩
  · intro jj hj9
    by_cases e : jj = j0
    · subst e
      rw [eRN]
      exact ⟨eON, h18, fun q => by omega, fun _ => Or.inr rfl⟩
    · have hjn : jj < j0 := by omega
      obtain ⟨a1, a2, a3, a4⟩ := t1 jj (by omega)
      have hr0 : rootT S jj < n0 := by
        obtain ⟨-, -, -, -, -, -, -, -, -, b1, b2, -⟩ := hB.2.2.2.1 jj (by omega)
        unfold rootT; omega
      rw [eR jj hjn, eO _ hr0, hT 18 (by simp) _ hr0, hJ 13 (by simp) jj hjn, hJ 5 (by simp) jj hjn, hJ 9 (by simp) jj hjn]
      exact ⟨a1, a2, a3, fun q => Or.inl (a4 q)⟩
  · intro x hx hc
    have hxn := c19 x hx hc
    rw [hT 19 (by simp) x hxn] at hc
    have hcc := hch x hxn hc
    rw [eC x hxn, hT 18 (by simp) _ (by omega), hT 18 (by simp) _ hcc, hT 15 (by simp) _ (by omega), hT 15 (by simp) _ hcc, hT 15 (by simp) x hxn, eL _ (by omega), eL _ hcc, eL x hxn]
    exact t2 x (by omega) hc
  · rintro x (hx | hx)
    · have hxn := hLn x hx
      obtain ⟨a1, a2, a3⟩ := t3 x hx
      rw [eO x hxn, eP x hxn, hT 18 (by simp) x hxn, hJ 9 (by simp) _ (hoj x hxn), eR _ (hoj x hxn)]
      refine ⟨by omega, a2, a3.imp id fun ⟨b1, b2, b3, b4⟩ => ⟨b1, Or.inl b2, fun e => e, fun e => ?_⟩⟩
      have := hLn _ b2
      rcases (hm _).mp e with e | e
      · omega
      · exact b4 e
    · rw [hx, eON, eRN]
      exact ⟨by omega, h9, Or.inl ⟨h18, rfl⟩⟩
  · intro x hx h1 _
    have n1 : x ≠ n0 := fun e => h1 ((hm x).mpr (Or.inl e))
    have n3 : ¬ x ∈ qA S := fun e => h1 ((hm x).mpr (Or.inr e))
    have hl : L x := hx.elim id fun e => absurd e n1
    have hxn := hLn x hl
    obtain ⟨a1, a2⟩ := t4 x hl n3 (fun e => e)
    have hcc := hch x hxn a1
    have k1 : ∀ y, y < n0 → ((L y ∨ y = n0) ↔ L y) := fun y hy => by
      constructor
      · rintro (q | q)
        · exact q
        · omega
      · exact Or.inl
    rw [hT 20 (by simp) x hxn, eC x hxn, hT 19 (by simp) x hxn, k1 _ (by omega), k1 _ hcc]
    exact ⟨a1, a2⟩
  · intro x hx; exact absurd hx (fun e => e)
  · have nq : ∀ x, x ∈ qA S → x < n0 := fun x hx => hLn x (t6.2 x hx).1
    rw [hq.nodup_iff]
    exact List.nodup_cons.mpr ⟨fun e => by have := nq _ e; omega, t6.1⟩
  · intro x hx
    rcases (hm x).mp hx with e | e
    · exact ⟨Or.inr e, fun _ => by rw [e]; exact h19⟩
    · obtain ⟨a1, a2⟩ := t6.2 x e
      have hxn := hLn x a1
      refine ⟨Or.inl a1, fun z => ?_⟩
      rw [hT 19 (by simp) x hxn]
      exact a2 (by rw [← eO x hxn, ← hJ 13 (by simp) _ (by rw [eO x hxn]; exact hoj x hxn)]; exact z)
  · intro x h1 h2 h3 h4 h5
    have hxn := c19 x h1 h3
    rw [hT 19 (by simp) x hxn] at h3
    have ho := hoj x hxn
    rw [eO x hxn] at h2 h4 h5 ⊢
    rw [hJ 9 (by simp) _ ho] at h2
    rw [hJ 5 (by simp) _ ho] at h4
    rw [hJ 13 (by simp) _ ho] at h5
    rw [eC x hxn, eJ _ ho]
    refine t7 x (by omega) h2 h3 h4 ?_
    rcases h5 with h | h | h
    · exact Or.inl h
    · exact Or.inr (Or.inl fun z => h (Or.inl z))
    · exact absurd h (fun e => e)

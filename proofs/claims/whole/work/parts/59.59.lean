/-! THE CALLS KEEP WHAT HOLDS -/
theorem Inv2.ini (n : Int) : Inv2 (mIni n) := by
  have h1 : (mIni n).1 1 0 = (if n < 1 then 1 else if 4 < n then 4 else n) := by unfold mIni; rw [sp_same]
  have hW : 1 ≤ (mIni n).1 1 0 ∧ (mIni n).1 1 0 ≤ 4 := by rw [h1]; split <;> (try split) <;> omega
  have h0 : ∀ c j, c ≠ 1 → c ≠ 30 → c ≠ 29 → c ≠ 2 → (mIni n).1 c j = 0 := fun c j a1 a2 a3 a4 => by
    unfold mIni mVict mType mZero
    rw [sp_k _ _ _ _ a1, sp_k _ _ _ _ a2, sp_k _ _ _ _ a3, sp_k _ _ _ _ a3, sp_k _ _ _ _ a3, sp_k _ _ _ _ a3, sp_k _ _ _ _ a4, sp_k _ _ _ _ a4, sp_k _ _ _ _ a4, sp_k _ _ _ _ a4]
  have h30 : (mIni n).1 30 0 = 4 := by unfold mIni; rw [sp_k _ _ _ _ (by decide), sp_same]
  have h29 : ∀ i, i < 4 → (mIni n).1 29 i = (i : Int) := fun i hi => by
    unfold mIni mVict
    rw [sp_k _ _ _ _ (by decide), sp_k _ _ _ _ (by decide)]
    match i, hi with
    | 0, _ => rw [sp_j _ _ _ (by decide), sp_j _ _ _ (by decide), sp_j _ _ _ (by decide), sp_same]; rfl
    | 1, _ => rw [sp_j _ _ _ (by decide), sp_j _ _ _ (by decide), sp_same]; rfl
    | 2, _ => rw [sp_j _ _ _ (by decide), sp_same]; rfl
    | 3, _ => rw [sp_same]; rfl
  have h2 : ∀ a, a < 4 → (mIni n).1 2 a = -1 := fun a ha => by
    unfold mIni mVict mType
    rw [sp_k _ _ _ _ (by decide), sp_k _ _ _ _ (by decide), sp_k _ _ _ _ (by decide), sp_k _ _ _ _ (by decide), sp_k _ _ _ _ (by decide), sp_k _ _ _ _ (by decide)]
    match a, ha with
    | 0, _ => rw [sp_j _ _ _ (by decide), sp_j _ _ _ (by decide), sp_j _ _ _ (by decide), sp_same]
    | 1, _ => rw [sp_j _ _ _ (by decide), sp_j _ _ _ (by decide), sp_same]
    | 2, _ => rw [sp_j _ _ _ (by decide), sp_same]
    | 3, _ => rw [sp_same]
  have z : ∀ c j, c = 3 ∨ c = 9 ∨ c = 11 ∨ c = 14 ∨ c = 23 ∨ c = 25 ∨ c = 32 → (mIni n).1 c j = 0 := fun c j hc => h0 c j (by omega) (by omega) (by omega) (by omega)
  have nil : qA (mIni n) = [] := by unfold qA; rw [qL_nil (z 25 0 (by simp)), qL_nil (z 25 1 (by simp)), qL_nil (z 25 2 (by simp)), qL_nil (z 25 3 (by simp))]; rfl
  refine ⟨⟨⟨hW, ?_, by rw [z 14 0 (by simp)]; omega, ?_, by rw [z 23 0 (by simp)]; omega, ?_, ?_, ?_, by omega, by rw [z 32 0 (by simp)]; omega⟩, fun i _ _ => z 25 i (by simp), ⟨fun _ => False, ?_, ?_, ?_, ?_, ?_, ?_, ?_⟩, ?_, ?_⟩, ?_, ?_, ?_⟩
  · intro a ha; unfold BiA; rw [h2 a ha, z 3 a (by simp)]; omega
  · intro j hj; rw [z 14 0 (by simp)] at hj; omega
  · intro t ht; rw [z 23 0 (by simp)] at ht; omega
  · intro i hi; unfold BiQ; rw [z 25 i (by simp)]; exact ⟨by omega, by omega, fun k hk => by omega⟩
  · intro i hi; rw [h29 i (by omega)]; omega
  · intro j hj; rw [z 14 0 (by simp)] at hj; omega
  · intro t ht; rw [z 23 0 (by simp)] at ht; omega
  · intro t ht; exact absurd ht (fun e => e)
  · intro t ht; exact absurd ht (fun e => e)
  · intro t ht; exact absurd ht (fun e => e)
  · rw [TrQu, nil]; exact ⟨List.nodup_nil, fun t ht => by cases ht⟩
  · intro t ht; rw [z 23 0 (by simp)] at ht; omega
  · unfold P1; rw [nil, z 23 0 (by simp), z 14 0 (by simp)]; exact Int.le_refl _
  · unfold Ph; rw [nil, z 14 0 (by simp)]; exact Int.le_refl _
  · intro a ha hz; rw [h2 a ha] at hz; omega
  · intro j _ _; exact ⟨z 9 j (by simp), z 11 j (by simp)⟩
  · intro a _ _; exact z 3 a (by simp)
theorem zerF_1 (a : Nat) : ∀ (n k : Nat) (S : Ms), (zerF a k n S).1 = S.1 ∧ (∀ c, c ≠ 4 → (zerF a k n S).2 c = S.2 c) ∧ ∀ x, (zerF a k n S).2 4 x = if 24 * a + k ≤ x ∧ x < 24 * a + k + n then 0 else S.2 4 x := by
  intro n
  induction n with
  | zero => intro k S; exact ⟨rfl, fun _ _ => rfl, fun x => by rw [if_neg (by omega)]; rfl⟩
  | succ n ih =>
    intro k S
    obtain ⟨h1, h2, h3⟩ := ih (k + 1) (sq S 4 (24 * a + k) 0)
    refine ⟨h1, fun c hc => (h2 c hc).trans (by funext x; exact sq_k _ _ _ _ hc), fun x => (h3 x).trans ?_⟩
    by_cases e : x = 24 * a + k
    · subst e; rw [if_neg (by omega), sq_same, if_pos (by omega)]
    · rw [sq_j _ _ _ e]
      by_cases c : 24 * a + (k + 1) ≤ x ∧ x < 24 * a + (k + 1) + n
      · rw [if_pos c, if_pos (by omega)]
      · rw [if_neg c, if_neg (by omega)]
theorem keptF_0 (ty : Int) : keptF ty 0 = 0 := by unfold keptF; split <;> (try split) <;> (try split) <;> (try split) <;> decide
theorem Inv2.array {S : Ms} (h : Inv2 S) (a ty len : Int) : Inv2 (mArray S a ty len).2 := by
  unfold mArray
  by_cases c1 : (0 ≤ a ∧ a ≤ 3) ∧ (0 ≤ ty ∧ ty ≤ 5) ∧ (1 ≤ len ∧ len ≤ 24)
  · rw [if_neg (fun q => q c1)]
    by_cases c2 : mBusy S a
    · rw [if_pos c2]; exact (h.th 0).th 2
    · rw [if_neg c2]
      obtain ⟨⟨ha1, ha2⟩, ⟨ht1, ht2⟩, hl1, hl2⟩ := c1
      obtain ⟨a, rfl⟩ := Int.eq_ofNat_of_zero_le ha1
      rw [Int.toNat_natCast]
      have h := h.th 0
      have c2 : ¬ mBusy (sp S 0 0 0) a := c2
      generalize sp S 0 0 0 = S at h c2 ⊢
      obtain ⟨⟨hB, hE, ⟨L, hT⟩, h4, h5⟩, hK, hF1, hF2⟩ := h
      obtain ⟨z1, z2, z3⟩ := zerF_1 a 24 0 (sp (sp S 2 a ty) 3 a len)
      show Inv2 (zerF a 0 24 (sp (sp S 2 a ty) 3 a len))
      generalize zerF a 0 24 (sp (sp S 2 a ty) 3 a len) = S' at z1 z2 z3 ⊢
      have f : ∀ c, c ≠ 2 → c ≠ 3 → S'.1 c = S.1 c := fun c h2 h3 => by rw [z1]; funext x; rw [sp_k _ _ _ _ h3, sp_k _ _ _ _ h2]
      have f2 : ∀ x, S'.1 2 x = if x = a then ty else S.1 2 x := fun x => by
        rw [z1, sp_k _ _ _ _ (by decide)]
        split
        · rename_i e; rw [e, sp_same]
        · rename_i e; exact sp_j _ _ _ e
      have f3 : ∀ x, S'.1 3 x = if x = a then len else S.1 3 x := fun x => by
        rw [z1]
        split
        · rename_i e; rw [e, sp_same]
        · rename_i e; rw [sp_j _ _ _ e, sp_k _ _ _ _ (by decide)]
      have nb : ∀ j : Nat, (j : Int) < S.1 14 0 → S.1 9 j = 0 → (S.1 6 j).toNat ≠ a := fun j hj h9 e => c2 ⟨j, hj, by obtain ⟨-, -, b, -⟩ := hB.2.2.2.1 j hj; omega, h9⟩
      have hq : qA S' = qA S := qA_ext (fun i _ => by rw [f 25 (by decide) (by decide)]) (fun k => by rw [f 24 (by decide) (by decide)])
      have eO : mOf S' = mOf S := by funext x; unfold mOf; rw [f 15 (by decide) (by decide)]
      have eR : rootT S' = rootT S := by funext x; unfold rootT; rw [f 12 (by decide) (by decide)]
      have eC : chT S' = chT S := by funext x; unfold chT; rw [f 19 (by decide) (by decide)]
      have eP : paT S' = paT S := by funext x; unfold paT; rw [f 18 (by decide) (by decide)]
      have eL : lenT S' = lenT S := by funext x; unfold lenT; rw [f 16 (by decide) (by decide), f 17 (by decide) (by decide)]
      have r21 : S'.2 21 = S.2 21 := z2 21 (by decide)
      refine ⟨⟨?_, ?_, ⟨L, ?_⟩, ?_, ?_⟩, ?_, ?_, ?_⟩
      · obtain ⟨g1, g2, g3, g4, g5, g6, g7, g8, g9, g10⟩ := hB
        refine ⟨?_, ?_, ?_, ?_, ?_, ?_, ?_, ?_, ?_, ?_⟩
        · rw [f 1 (by decide) (by decide)]; exact g1
        · intro x hx; unfold BiA; rw [f2, f3]
          by_cases e : x = a
          · rw [if_pos e, if_pos e]; omega
          · rw [if_neg e, if_neg e]; exact g2 x hx
        · rw [f 14 (by decide) (by decide)]; exact g3
        · intro j hj
          rw [f 14 (by decide) (by decide)] at hj
          obtain ⟨a1, a2, a3, a4, a5, a6⟩ := g4 j hj
          unfold BiJ
          rw [f 5 (by decide) (by decide), f 6 (by decide) (by decide), f2, f 9 (by decide) (by decide), f 13 (by decide) (by decide), f 12 (by decide) (by decide), f 23 (by decide) (by decide), f 7 (by decide) (by decide), f 8 (by decide) (by decide)]
          refine ⟨a1, a2, a3, a4, ?_, a6⟩
          split
          · exact ht1
          · exact a5
        · rw [f 23 (by decide) (by decide)]; exact g5
        · intro t ht
          rw [f 23 (by decide) (by decide)] at ht
          unfold BiT
          rw [f 15 (by decide) (by decide), f 14 (by decide) (by decide), f 16 (by decide) (by decide), f 17 (by decide) (by decide), f 18 (by decide) (by decide), f 19 (by decide) (by decide), f 20 (by decide) (by decide), f 23 (by decide) (by decide)]
          exact g6 t ht
        · intro i hi; unfold BiQ; rw [f 25 (by decide) (by decide), f 24 (by decide) (by decide), f 23 (by decide) (by decide)]; exact g7 i hi
        · rw [f 1 (by decide) (by decide), f 29 (by decide) (by decide)]; exact g8
        · rw [f 30 (by decide) (by decide)]; exact g9
        · rw [f 1 (by decide) (by decide), f 32 (by decide) (by decide)]; exact g10
      · unfold QE; rw [f 1 (by decide) (by decide), f 25 (by decide) (by decide)]; exact hE
      · obtain ⟨t1, t2, t3, t4, t5, t6, t7⟩ := hT
        unfold Tr TrJb TrCh TrLv TrOp TrX TrQu TrRs
        simp only [f 5 (by decide) (by decide), f 9 (by decide) (by decide), f 13 (by decide) (by decide), f 14 (by decide) (by decide), f 15 (by decide) (by decide), f 18 (by decide) (by decide), f 19 (by decide) (by decide), f 20 (by decide) (by decide), f 23 (by decide) (by decide), eO, eR, eC, eP, eL, hq, r21]
        refine ⟨t1, t2, t3, t4, t5, t6, ?_⟩
        intro x h1 h2 h3 h4 h5
        have := t7 x h1 h2 h3 h4 h5
        rw [this]
        unfold joinF mTy
        rw [f 5 (by decide) (by decide), f 6 (by decide) (by decide), f2, if_neg (nb _ (hB.job h1).1 h2)]
      · rw [P1_eq hq fun c hc => f c (by omega) (by omega), f 14 (by decide) (by decide)]; exact h4
      · rw [Ph_eq hq fun c hc => f c (by omega) (by omega), f 14 (by decide) (by decide)]; exact h5
      · intro x hx hz k hk
        rw [f2] at hz ⊢
        rw [z3]
        by_cases e : x = a
        · subst e
          rw [if_pos rfl, if_pos (by omega)]; exact keptF_0 _
        · rw [if_neg e] at hz ⊢
          rw [if_neg (by omega)]
          exact hK x hx hz k hk
      · rw [f 14 (by decide) (by decide), f 9 (by decide) (by decide), f 11 (by decide) (by decide)]; exact hF1
      · intro x hx; rw [f2, f3]
        by_cases e : x = a
        · rw [if_pos e, if_pos e]; omega
        · rw [if_neg e, if_neg e]; exact hF2 x hx
  · rw [if_pos c1]; exact (h.th 0).th 1
theorem Inv2.d4 {S S' : Ms} (h : Inv2 S) (e : S'.1 = S.1) (hr : S'.2 21 = S.2 21) (hK : KF S') : Inv2 S' := by
  obtain ⟨⟨hB, hE, ⟨L, hT⟩, h4, h5⟩, -, hF1, hF2⟩ := h
  exact ⟨⟨hB.of1 e, hE.of1 e, ⟨L, hT.ext (fun c _ => by rw [e]) (by rw [e]) (by rw [of1_ e]; rfl) hr⟩, by rw [P1_of1 e, e]; exact h4, by rw [Ph_of1 e, e]; exact h5⟩, hK, by rw [e]; exact hF1, by rw [e]; exact hF2⟩
theorem Inv2.set {S : Ms} (h : Inv2 S) (a i : Int) (v : Int64) : Inv2 (mSet S a i v).2 := by
  unfold mSet
  by_cases c1 : mNoEl S a i
  · rw [if_pos c1]; exact (h.th 0).th 1
  · rw [if_neg c1]
    by_cases c2 : mBusy S a
    · rw [if_pos c2]; exact (h.th 0).th 2
    · rw [if_neg c2]
      have c : 0 ≤ a ∧ a ≤ 3 ∧ 0 ≤ S.1 2 a.toNat ∧ 0 ≤ i ∧ i < S.1 3 a.toNat := Classical.byContradiction c1
      have hl := (h.1.1.2.1 a.toNat (by omega)).2.2.2.1
      have h0 := h.th 0
      exact h0.d4 rfl rfl (KF.put h0.2.1 (by omega) (fun _ => keptF_idem _ _))
theorem Inv2.grain {S : Ms} (h : Inv2 S) (g : Int) : Inv2 (mGrain S g).2 := by
  unfold mGrain
  by_cases c1 : 1 ≤ g ∧ g ≤ 24
  · rw [if_neg (fun q => q c1)]
    have h := h.th 0
    show Inv2 (sp (sp S 0 0 0) 30 0 g)
    generalize sp S 0 0 0 = S at h ⊢
    obtain ⟨⟨hB, hE, ⟨L, hT⟩, h4, h5⟩, hK, hF1, hF2⟩ := h
    have f : ∀ c, c ≠ 30 → (sp S 30 0 g).1 c = S.1 c := fun c hc => by funext x; exact sp_k _ _ _ _ hc
    obtain ⟨g1, g2, g3, g4, g5, g6, g7, g8, g9, g10⟩ := hB
    refine ⟨⟨⟨g1, g2, g3, g4, g5, g6, g7, g8, ?_, g10⟩, hE, ⟨L, hT⟩, ?_, ?_⟩, hK.ext rfl rfl, hF1, hF2⟩
    · rw [sp_same]; exact c1
    · rw [P1_eq (S := S) (S' := sp S 30 0 g) rfl fun c hc => f c (by omega)]; exact h4
    · rw [Ph_eq (S := S) (S' := sp S 30 0 g) rfl fun c hc => f c (by omega)]; exact h5
  · rw [if_pos c1]; exact (h.th 0).th 1
theorem Inv2.cancel {S : Ms} (h : Inv2 S) (j : Int) : Inv2 (mCancel S j).2 := by
  unfold mCancel
  by_cases c1 : 0 ≤ j ∧ j < S.1 14 0
  · rw [if_neg (fun q => q c1)]
    by_cases c2 : S.1 9 j.toNat = 0
    · rw [if_neg (fun q => q c2)]
      have h := h.th 0
      have hj : ((j.toNat : Nat) : Int) < (sp S 0 0 0).1 14 0 := by show _ < S.1 14 0; omega
      show Inv2 (mEnd (sp S 0 0 0) j.toNat (-1))
      generalize sp S 0 0 0 = S at h hj ⊢
      obtain ⟨⟨hB, hE, ⟨L, hT⟩, h4, h5⟩, hK, hF1, hF2⟩ := h
      obtain ⟨⟨o1, o2, o3, o4, o5, o6⟩, e2⟩ := end_ok j.toNat (-1) hB hE hT (fun x hx => absurd hx (fun e => e))
      refine ⟨⟨o1, o2, o3, by rw [o6 14 (by simp)]; omega, by rw [o6 14 (by simp)]; omega⟩, hK.ext (o6 2 (by simp)) (by rw [e2]), ?_, by rw [o6 2 (by simp), o6 3 (by simp)]; exact hF2⟩
      intro x h1 h2
      rw [o6 14 (by simp)] at h1
      obtain ⟨a, b⟩ := mEnd_9 hB hE j.toNat (-1) x (by omega)
      rw [a, b]; exact hF1 x h1 h2
    · rw [if_pos c2]; exact (h.th 0).th 2
  · rw [if_pos c1]; exact (h.th 0).th 1
theorem Inv2.step {S : Ms} (h : Inv2 S) (n : Int) : Inv2 (mStep S n).2 := by
  unfold mStep
  by_cases c1 : 1 ≤ n ∧ n ≤ 60
  · rw [if_neg (fun q => q c1)]; exact stF_inv _ _ _ (h.th 0)
  · rw [if_pos c1]; exact (h.th 0).th 1
theorem Inv2.join {S : Ms} (h : Inv2 S) (j : Int) : Inv2 (mJoin S j).2 := by
  unfold mJoin
  by_cases c1 : 0 ≤ j ∧ j < S.1 14 0
  · rw [if_neg (fun q => q c1)]
    have := (jnF_ok (j := j.toNat) 1200 0 (sp S 0 0 0) (h.th 0) (by show _ < S.1 14 0; omega) (by rw [Ph_th]; have := h.1.ph; omega)).1
    split
    · exact this.th 2
    · exact this
  · rw [if_pos c1]; exact (h.th 0).th 1
theorem Inv2.begin {S : Ms} (h : Inv2 S) (k a i c d : Int) : Inv2 (mBegin S k a i c d).2 ∧ (mBegin S k a i c d).2.1 14 0 ≤ S.1 14 0 + 1 := by
  have hJ12 := h.1.1.2.2.1
  unfold mBegin
  by_cases c1 : (0 ≤ a ∧ a ≤ 3) ∧ 0 ≤ S.1 2 a.toNat
  · rw [if_neg (fun q => q c1)]
    by_cases c2 : (0 ≤ k ∧ k ≤ 5) ∧ (0 ≤ i ∧ i ≤ S.1 1 0 - 1) ∧ (-1000 ≤ c ∧ c ≤ 1000) ∧ (-1000 ≤ d ∧ d ≤ 1000)
    · rw [if_neg (fun q => q c2)]
      by_cases c3 : mBusy S a ∨ S.1 14 0 = 12
      · rw [if_pos c3]; exact ⟨(h.th 0).th 3, by show S.1 14 0 ≤ _; omega⟩
      · rw [if_neg c3]
        have nj : ¬ S.1 14 0 = 12 := fun q => c3 (Or.inr q)
        obtain ⟨a, rfl⟩ := Int.eq_ofNat_of_zero_le c1.1.1
        obtain ⟨i, rfl⟩ := Int.eq_ofNat_of_zero_le c2.2.1.1
        rw [Int.toNat_natCast] at c1
        rw [Int.toNat_natCast]
        have h := h.th 0
        have c1' : 0 ≤ (sp S 0 0 0).1 2 a := c1.2
        have c2' : (i : Int) ≤ (sp S 0 0 0).1 1 0 - 1 := c2.2.1.2
        have nj' : ¬ (sp S 0 0 0).1 14 0 = 12 := nj
        show Inv2 (mPut (mBg (sp S 0 0 0) ((sp S 0 0 0).1 14 0).toNat k a c d) i ((sp S 0 0 0).1 23 0)) ∧ (mPut (mBg (sp S 0 0 0) ((sp S 0 0 0).1 14 0).toNat k a c d) i ((sp S 0 0 0).1 23 0)).1 14 0 ≤ (sp S 0 0 0).1 14 0 + 1
        clear c3 nj hJ12
        generalize sp S 0 0 0 = S at h c1' c2' nj' ⊢
        have hql := h.1.ql i (by have := h.1.1.1.2; omega)
        have hnn := h.1.nn.1
        obtain ⟨⟨hB, hE, ⟨L, hT⟩, h4, h5⟩, hK, hF1, hF2⟩ := h
        have hW := hB.1
        have hJ := hB.2.2.1
        have hTn := hB.2.2.2.2.1
        obtain ⟨j, hj⟩ := Int.eq_ofNat_of_zero_le hJ.1
        obtain ⟨n0, hn⟩ := Int.eq_ofNat_of_zero_le hTn.1
        obtain ⟨y1, y2, y3, y4, y5⟩ := hB.2.1 a (by omega)
        have y6 := y5 c1'
        rw [hj, hn, Int.toNat_natCast]
        -- the job is written, then its first task
        have e23 : (mBj S j k a c d).1 23 0 = (n0 : Int) := by rw [mBj_k _ _ _ _ _ _ _ _ (by decide)]; exact hn
        obtain ⟨b1, b2, b3, b4, b5, b6⟩ := mNode_n (mBj S j k a c d) j 0 (S.1 3 a) (-1) e23
        have b23 := mNode_23 (mBj S j k a c d) j 0 (S.1 3 a) (-1)
        have bT : ∀ f x : Nat, x < n0 → f ≠ 23 → (mNode (mBj S j k a c d) j 0 (S.1 3 a) (-1)).1 f x = (mBj S j k a c d).1 f x := fun f x hx hf => mNode_c _ _ _ _ _ _ _ (by omega) hf
        have bJ : ∀ f x : Nat, _ → (mNode (mBj S j k a c d) j 0 (S.1 3 a) (-1)).1 f x = (mBj S j k a c d).1 f x := fun f x h => mNode_o (mBj S j k a c d) j 0 (S.1 3 a) (-1) f x h
        have gT : ∀ f x : Nat, x < n0 → f = 15 ∨ f = 16 ∨ f = 17 ∨ f = 18 ∨ f = 19 ∨ f = 20 → (mBg S j k a c d).1 f x = S.1 f x := fun f x hx hf => by
          unfold mBg; rw [sp_k _ _ _ _ (by omega), Int.toNat_natCast, bT f x hx (by omega), mBj_k _ _ _ _ _ _ _ _ (by omega)]
        have gJ : ∀ f x : Nat, x ≠ j → f ≠ 14 → f ≠ 23 → f ≠ 15 → f ≠ 16 → f ≠ 17 → f ≠ 18 → f ≠ 19 → f ≠ 20 → (mBg S j k a c d).1 f x = S.1 f x := fun f x hx h1 h2 h3 h4 h5 h6 h7 h8 => by
          unfold mBg
          rw [Int.toNat_natCast]
          have : (mNode (mBj S j k a c d) j 0 (S.1 3 a) (-1)).1 f x = S.1 f x := by rw [bJ f x ⟨h2, h3, h4, h5, h6, h7, h8⟩, mBj_o _ _ _ _ _ _ _ _ h1 hx]
          by_cases e : f = 12
          · subst e; rw [sp_j _ _ _ hx]; exact this
          · rw [sp_k _ _ _ _ e]; exact this
        have gK : ∀ f x : Nat, f ≠ 14 → f ≠ 5 → f ≠ 6 → f ≠ 7 → f ≠ 8 → f ≠ 10 → f ≠ 13 → f ≠ 12 → f ≠ 23 → f ≠ 15 → f ≠ 16 → f ≠ 17 → f ≠ 18 → f ≠ 19 → f ≠ 20 → (mBg S j k a c d).1 f x = S.1 f x := fun f x h1 h2 h3 h4 h5 h6 h7 h8 h9 h10 h11 h12 h13 h14 h15 => by
          unfold mBg
          rw [sp_k _ _ _ _ h8, Int.toNat_natCast, bJ f x ⟨h9, h10, h11, h12, h13, h14, h15⟩, mBj_k _ _ _ _ _ _ _ _ ⟨h1, h2, h3, h4, h5, h6, h7⟩]
        have gN : (mBg S j k a c d).1 15 n0 = (j : Int) ∧ (mBg S j k a c d).1 16 n0 = 0 ∧ (mBg S j k a c d).1 17 n0 = S.1 3 a ∧ (mBg S j k a c d).1 18 n0 = -1 ∧ (mBg S j k a c d).1 19 n0 = -1 ∧ (mBg S j k a c d).1 20 n0 = 0 := by
          unfold mBg
          rw [Int.toNat_natCast, sp_k _ _ _ _ (by decide), sp_k _ _ _ _ (by decide), sp_k _ _ _ _ (by decide), sp_k _ _ _ _ (by decide), sp_k _ _ _ _ (by decide), sp_k _ _ _ _ (by decide)]
          exact ⟨b1, b2, b3, b4, b5, b6⟩
        have g23 : (mBg S j k a c d).1 23 0 = ((n0 + 1 : Nat) : Int) := by unfold mBg; rw [sp_k _ _ _ _ (by decide), Int.toNat_natCast, b23, e23]; omega
        have g14 : (mBg S j k a c d).1 14 0 = ((j + 1 : Nat) : Int) := by
          unfold mBg
          rw [sp_k _ _ _ _ (by decide), Int.toNat_natCast, bJ 14 0 (by decide)]
          unfold mBj
          rw [sp_k _ _ _ _ (by decide), sp_k _ _ _ _ (by decide), sp_k _ _ _ _ (by decide), sp_k _ _ _ _ (by decide), sp_k _ _ _ _ (by decide), sp_k _ _ _ _ (by decide), sp_same, hj]; omega
        have g12 : (mBg S j k a c d).1 12 j = (n0 : Int) := by unfold mBg; rw [sp_same]; exact hn
        have gj : (mBg S j k a c d).1 5 j = k ∧ (mBg S j k a c d).1 6 j = (a : Int) ∧ (mBg S j k a c d).1 7 j = c ∧ (mBg S j k a c d).1 8 j = d ∧ (mBg S j k a c d).1 13 j = 1 := by
          unfold mBg
          rw [sp_k _ _ _ _ (by decide), sp_k _ _ _ _ (by decide), sp_k _ _ _ _ (by decide), sp_k _ _ _ _ (by decide), sp_k _ _ _ _ (by decide), Int.toNat_natCast, bJ 5 j (by decide), bJ 6 j (by decide), bJ 7 j (by decide), bJ 8 j (by decide), bJ 13 j (by decide)]
          unfold mBj
          refine ⟨?_, ?_, ?_, ?_, ?_⟩
          · rw [sp_k _ _ _ _ (by decide), sp_k _ _ _ _ (by decide), sp_k _ _ _ _ (by decide), sp_k _ _ _ _ (by decide), sp_k _ _ _ _ (by decide), sp_same]
          · rw [sp_k _ _ _ _ (by decide), sp_k _ _ _ _ (by decide), sp_k _ _ _ _ (by decide), sp_k _ _ _ _ (by decide), sp_same]
          · rw [sp_k _ _ _ _ (by decide), sp_k _ _ _ _ (by decide), sp_k _ _ _ _ (by decide), sp_same]
          · rw [sp_k _ _ _ _ (by decide), sp_k _ _ _ _ (by decide), sp_same]
          · rw [sp_same]
        have gd : (mBg S j k a c d).2 4 = S.2 4 ∧ (mBg S j k a c d).2 21 = S.2 21 := ⟨rfl, rfl⟩
        have g9 : (mBg S j k a c d).1 9 = S.1 9 := funext fun x => gK 9 x (by decide) (by decide) (by decide) (by decide) (by decide) (by decide) (by decide) (by decide) (by decide) (by decide) (by decide) (by decide) (by decide) (by decide) (by decide)
        have g11 : (mBg S j k a c d).1 11 = S.1 11 := funext fun x => gK 11 x (by decide) (by decide) (by decide) (by decide) (by decide) (by decide) (by decide) (by decide) (by decide) (by decide) (by decide) (by decide) (by decide) (by decide) (by decide)
        have g2 : (mBg S j k a c d).1 2 = S.1 2 := funext fun x => gK 2 x (by decide) (by decide) (by decide) (by decide) (by decide) (by decide) (by decide) (by decide) (by decide) (by decide) (by decide) (by decide) (by decide) (by decide) (by decide)
        have g3 : (mBg S j k a c d).1 3 = S.1 3 := funext fun x => gK 3 x (by decide) (by decide) (by decide) (by decide) (by decide) (by decide) (by decide) (by decide) (by decide) (by decide) (by decide) (by decide) (by decide) (by decide) (by decide)
        have g25 : (mBg S j k a c d).1 25 = S.1 25 := funext fun x => gK 25 x (by decide) (by decide) (by decide) (by decide) (by decide) (by decide) (by decide) (by decide) (by decide) (by decide) (by decide) (by decide) (by decide) (by decide) (by decide)
        have g24 : (mBg S j k a c d).1 24 = S.1 24 := funext fun x => gK 24 x (by decide) (by decide) (by decide) (by decide) (by decide) (by decide) (by decide) (by decide) (by decide) (by decide) (by decide) (by decide) (by decide) (by decide) (by decide)
        have g1 : (mBg S j k a c d).1 1 = S.1 1 := funext fun x => gK 1 x (by decide) (by decide) (by decide) (by decide) (by decide) (by decide) (by decide) (by decide) (by decide) (by decide) (by decide) (by decide) (by decide) (by decide) (by decide)
        have g29 : (mBg S j k a c d).1 29 = S.1 29 := funext fun x => gK 29 x (by decide) (by decide) (by decide) (by decide) (by decide) (by decide) (by decide) (by decide) (by decide) (by decide) (by decide) (by decide) (by decide) (by decide) (by decide)
        have g30 : (mBg S j k a c d).1 30 = S.1 30 := funext fun x => gK 30 x (by decide) (by decide) (by decide) (by decide) (by decide) (by decide) (by decide) (by decide) (by decide) (by decide) (by decide) (by decide) (by decide) (by decide) (by decide)
        have g32 : (mBg S j k a c d).1 32 = S.1 32 := funext fun x => gK 32 x (by decide) (by decide) (by decide) (by decide) (by decide) (by decide) (by decide) (by decide) (by decide) (by decide) (by decide) (by decide) (by decide) (by decide) (by decide)
        have q0 := hB.q0 i (by omega)
        generalize mBg S j k a c d = S' at *
        have hB' : Bi S' := by
          obtain ⟨o1, o2, o3, o4, o5, o6, o7, o8, o9, o10⟩ := hB
          refine ⟨by rw [g1]; exact o1, ?_, by rw [g14]; omega, ?_, by rw [g23]; omega, ?_, ?_, by rw [g1, g29]; exact o8, by rw [g30]; exact o9, by rw [g32, g1]; exact o10⟩
          · intro x hx; unfold BiA; rw [g2, g3]; exact o2 x hx
          · intro x hx
            rw [g14] at hx
            unfold BiJ
            rw [g2, g9, g23]
            by_cases e : x = j
            · subst e
              obtain ⟨p1, p2, p3, p4, p5⟩ := gj
              rw [p1, p2, p3, p4, p5, g12, Int.toNat_natCast, (hF1 x (by omega) (by omega)).1]
              omega
            · have G : ∀ f, f = 5 ∨ f = 6 ∨ f = 7 ∨ f = 8 ∨ f = 12 ∨ f = 13 → S'.1 f x = S.1 f x := fun f hf => gJ f x e (by omega) (by omega) (by omega) (by omega) (by omega) (by omega) (by omega) (by omega)
              rw [G 5 (by simp), G 6 (by simp), G 7 (by simp), G 8 (by simp), G 12 (by simp), G 13 (by simp)]
              obtain ⟨a1, a2, a3, a4, a5, a6, a7, a8, a9, a10, a11, a12⟩ := o4 x (by omega)
              exact ⟨a1, a2, a3, a4, a5, a6, a7, a8, a9, a10, by omega, a12⟩
          · intro x hx
            rw [g23] at hx
            unfold BiT
            rw [g14, g23]
            by_cases e : x = n0
            · subst e
              obtain ⟨p1, p2, p3, p4, p5, p6⟩ := gN
              rw [p1, p2, p3, p4, p5, p6]
              exact ⟨by omega, by omega, by omega, by omega, by omega, by omega, by omega, Or.inl rfl, by omega, by omega, fun z => by omega⟩
            · have hx' : x < n0 := by omega
              rw [gT 15 x hx' (by simp), gT 16 x hx' (by simp), gT 17 x hx' (by simp), gT 18 x hx' (by simp), gT 19 x hx' (by simp), gT 20 x hx' (by simp)]
              obtain ⟨a1, a2, a3, a4, a5, a6, a7, a8, a9, a10, a11⟩ := o6 x (by omega)
              refine ⟨a1, by omega, a3, a4, a5, a6, a7, by omega, a9, a10, fun z => ?_⟩
              rw [gT 19 _ (by omega) (by simp), gT 15 _ (by omega) (by simp)]
              exact a11 z
          · intro x hx; unfold BiQ; rw [g25, g24, g23]
            obtain ⟨a1, a2, a3⟩ := o7 x hx
            exact ⟨a1, a2, fun k hk => by have := a3 k hk; omega⟩
        have hq' : qA S' = qA S := qA_ext (fun i _ => by rw [g25]) (fun k => by rw [g24])
        have hP := qA_put (S := S') (i := i) (q := (S.1 25 i).toNat) (t := (n0 : Int)) (by omega) (by rw [g25]; omega) (by omega) (fun i' hi' => hB'.q6 i' hi')
        rw [hq', Int.toNat_natCast] at hP
        have hB'' := Bi_put (t := (n0 : Int)) hB' (show i < 4 by omega) (by rw [g25]; omega) ⟨by omega, by rw [g23]; omega⟩
        have gk : ∀ f, f ≠ 24 → f ≠ 25 → (mPut S' i n0).1 f = S'.1 f := fun f h1 h2 => by funext x; rw [mPut_c _ _ _ _ h1 h2]
        have gp : (mPut S' i n0).2 = S'.2 := rfl
        have g25' : ∀ x, x ≠ i → (mPut S' i n0).1 25 x = S.1 25 x := fun x hx => by rw [mPut_25, if_neg hx, g25]
        generalize mPut S' i n0 = S2 at *
        have s9 : S.1 9 j = 0 := (hF1 j (by omega) (by omega)).1
        have lN : lenT S2 n0 = S.1 3 a := by unfold lenT; rw [gk 17 (by decide) (by decide), gk 16 (by decide) (by decide), gN.2.1, gN.2.2.1]; omega
        have lO : ∀ x, x < n0 → lenT S2 x = lenT S x := fun x hx => by unfold lenT; rw [gk 17 (by decide) (by decide), gk 16 (by decide) (by decide), gT 17 x hx (by simp), gT 16 x hx (by simp)]
        have oO : ∀ x, x < n0 → mOf S2 x = mOf S x := fun x hx => by unfold mOf; rw [gk 15 (by decide) (by decide), gT 15 x hx (by simp)]
        have oN : mOf S2 n0 = j := by unfold mOf; rw [gk 15 (by decide) (by decide), gN.1]; rfl
        have qn : ∀ x, x ∈ qA S → x < n0 := fun x hx => by have := hB.qm hx; omega
        have r13 : ∀ x, x ≠ j → S2.1 13 x = S.1 13 x := fun x hx => by rw [gk 13 (by decide) (by decide), gJ 13 x hx (by decide) (by decide) (by decide) (by decide) (by decide) (by decide) (by decide) (by decide)]
        have s14 : S2.1 14 0 = ((j + 1 : Nat) : Int) := by rw [gk 14 (by decide) (by decide), g14]
        refine ⟨⟨⟨hB'', ?_, ⟨_, Tr.begin (n0 := n0) (j0 := j) hB hT hn (by rw [gk 23 (by decide) (by decide), g23]) hj s14 ?_ (by rw [gk 2 (by decide) (by decide), g2]) ?_ (by rw [gk 12 (by decide) (by decide), g12]) (by rw [gk 13 (by decide) (by decide), gj.2.2.2.2]) (by rw [gk 9 (by decide) (by decide), g9]; exact s9) (by rw [gk 15 (by decide) (by decide), gN.1]) (by rw [gk 18 (by decide) (by decide), gN.2.2.2.1]) (by rw [gk 19 (by decide) (by decide), gN.2.2.2.2.1]) hP (by rw [gp, gd.2])⟩, ?_, ?_⟩, hK.ext (by rw [gk 2 (by decide) (by decide), g2]) (by rw [gp, gd.1]), ?_, ?_⟩, by omega⟩
        · intro x h1 h2
          rw [gk 1 (by decide) (by decide), g1] at h2
          rw [g25' x (by omega)]
          exact hE x h1 h2
        · intro f hf x hx
          rw [gk f (by omega) (by omega)]
          by_cases e : f = 9
          · rw [e, g9]
          · exact gJ f x (by omega) (by omega) (by omega) (by omega) (by omega) (by omega) (by omega) (by omega) (by omega)
        · intro f hf x hx
          rw [gk f (by omega) (by omega), gT f x hx hf]
        · unfold P1 at h4 ⊢
          rw [sumI_perm _ hP, sumI_cons, gk 23 (by decide) (by decide), g23, s14]
          have a1 : w1 S2 n0 ≤ 46 := by unfold w1; rw [lN]; split <;> omega
          rw [sumI_congr (g := w1 S) fun x hx => by
            have h1 := qn x hx
            have h2 := (hB.job (t := x) (by omega)).1
            unfold w1; rw [oO x h1, lO x h1, r13 _ (by omega)]]
          omega
        · unfold Ph at h5 ⊢
          rw [sumI_perm _ hP, sumI_cons, s14]
          have a1 : w2 S2 n0 ≤ 47 := by unfold w2; rw [lN]; omega
          rw [sumI_congr (g := w2 S) fun x hx => by unfold w2; rw [lO x (qn x hx)]]
          have a2 : sc S2 (((j + 1 : Nat) : Int)).toNat ≤ sc S (S.1 14 0).toNat + 47 := by
            rw [Int.toNat_natCast, hj, Int.toNat_natCast]
            show sc S2 j + scw S2 j ≤ _
            have e1 := sc_congr (S := S) (S' := S2) j fun x hx => by
              unfold scw
              rw [gk 9 (by decide) (by decide), g9, gk 5 (by decide) (by decide), gJ 5 x (by omega) (by decide) (by decide) (by decide) (by decide) (by decide) (by decide) (by decide) (by decide), r13 x (by omega)]
            have e2 : scw S2 j ≤ 47 := by unfold scw; split <;> omega
            omega
          omega
        · intro x h1 h2
          rw [s14] at h1
          rw [gk 9 (by decide) (by decide), g9, gk 11 (by decide) (by decide), g11]
          exact hF1 x (by omega) h2
        · rw [gk 2 (by decide) (by decide), g2, gk 3 (by decide) (by decide), g3]; exact hF2
    · rw [if_pos c2]; exact ⟨(h.th 0).th 2, by show S.1 14 0 ≤ _; omega⟩
  · rw [if_pos c1]; exact ⟨(h.th 0).th 1, by show S.1 14 0 ≤ _; omega⟩

/-! A FORK -/
theorem mNode_n (S : Ms) (j lo hi ab : Int) {n0 : Nat} (hn : S.1 23 0 = (n0 : Int)) : (mNode S j lo hi ab).1 15 n0 = j ∧ (mNode S j lo hi ab).1 16 n0 = lo ∧ (mNode S j lo hi ab).1 17 n0 = hi ∧ (mNode S j lo hi ab).1 18 n0 = ab ∧ (mNode S j lo hi ab).1 19 n0 = -1 ∧ (mNode S j lo hi ab).1 20 n0 = 0 := by
  have e : mNode S j lo hi ab = sq (sp (sp (sp (sp (sp (sp (sp S 23 0 (S.1 23 0 + 1)) 15 n0 j) 16 n0 lo) 17 n0 hi) 18 n0 ab) 19 n0 (-1)) 20 n0 0) 22 n0 0 := by unfold mNode; rw [hn]; rfl
  rw [e]
  refine ⟨?_, ?_, ?_, ?_, ?_, ?_⟩
  · show (sp (sp (sp (sp (sp (sp (sp S 23 0 (S.1 23 0 + 1)) 15 n0 j) 16 n0 lo) 17 n0 hi) 18 n0 ab) 19 n0 (-1)) 20 n0 0).1 15 n0 = _
    rw [sp_k _ _ _ _ (by decide), sp_k _ _ _ _ (by decide), sp_k _ _ _ _ (by decide), sp_k _ _ _ _ (by decide), sp_k _ _ _ _ (by decide), sp_same]
  · show (sp (sp (sp (sp (sp (sp (sp S 23 0 (S.1 23 0 + 1)) 15 n0 j) 16 n0 lo) 17 n0 hi) 18 n0 ab) 19 n0 (-1)) 20 n0 0).1 16 n0 = _
    rw [sp_k _ _ _ _ (by decide), sp_k _ _ _ _ (by decide), sp_k _ _ _ _ (by decide), sp_k _ _ _ _ (by decide), sp_same]
  · show (sp (sp (sp (sp (sp (sp (sp S 23 0 (S.1 23 0 + 1)) 15 n0 j) 16 n0 lo) 17 n0 hi) 18 n0 ab) 19 n0 (-1)) 20 n0 0).1 17 n0 = _
    rw [sp_k _ _ _ _ (by decide), sp_k _ _ _ _ (by decide), sp_k _ _ _ _ (by decide), sp_same]
  · show (sp (sp (sp (sp (sp (sp (sp S 23 0 (S.1 23 0 + 1)) 15 n0 j) 16 n0 lo) 17 n0 hi) 18 n0 ab) 19 n0 (-1)) 20 n0 0).1 18 n0 = _
    rw [sp_k _ _ _ _ (by decide), sp_k _ _ _ _ (by decide), sp_same]
  · show (sp (sp (sp (sp (sp (sp (sp S 23 0 (S.1 23 0 + 1)) 15 n0 j) 16 n0 lo) 17 n0 hi) 18 n0 ab) 19 n0 (-1)) 20 n0 0).1 19 n0 = _
    rw [sp_k _ _ _ _ (by decide), sp_same]
  · show (sp (sp (sp (sp (sp (sp (sp S 23 0 (S.1 23 0 + 1)) 15 n0 j) 16 n0 lo) 17 n0 hi) 18 n0 ab) 19 n0 (-1)) 20 n0 0).1 20 n0 = _
    rw [sp_same]
/-- what the first round's fork makes, before the queue -/
def mFk (S : Ms) (t : Nat) : Ms := sp (mFork1 S t) 20 t 0
theorem mFork_eq (S : Ms) (t i : Nat) : mFork S t i = mPut (mPut (mFk S t) i ((mFk S t).1 19 t + 1)) i ((mFk S t).1 19 t) := rfl
theorem mFk_1 {S : Ms} {t n0 : Nat} (hr : S.1 13 (mOf S t) = 1) (hn : S.1 23 0 = (n0 : Int)) (ht : t < n0) :
    (mFk S t).1 23 0 = ((n0 + 2 : Nat) : Int) ∧ (∀ c, c ≠ 15 → c ≠ 16 → c ≠ 17 → c ≠ 18 → c ≠ 19 → c ≠ 20 → c ≠ 23 → (mFk S t).1 c = S.1 c) ∧ (∀ c, c = 15 ∨ c = 16 ∨ c = 17 ∨ c = 18 → ∀ x, x < n0 → (mFk S t).1 c x = S.1 c x) ∧ (∀ x, x < n0 → x ≠ t → (mFk S t).1 19 x = S.1 19 x) ∧ (mFk S t).1 19 t = (n0 : Int) ∧ (mFk S t).1 20 t = 0 ∧ (∀ x, x < n0 → x ≠ t → (mFk S t).1 20 x = S.1 20 x) ∧
    (∀ x, x = n0 ∨ x = n0 + 1 → (mFk S t).1 15 x = S.1 15 t ∧ (mFk S t).1 18 x = (t : Int) ∧ (mFk S t).1 19 x = -1 ∧ (mFk S t).1 20 x = 0) ∧ (mFk S t).1 16 n0 = S.1 16 t ∧ (mFk S t).1 17 n0 = mMid S t ∧ (mFk S t).1 16 (n0 + 1) = mMid S t ∧ (mFk S t).1 17 (n0 + 1) = S.1 17 t ∧ (mFk S t).2 21 = S.2 21 := by
  have e : mFk S t = sp (mNode (sp (mNode S (S.1 15 t) (S.1 16 t) (mMid S t) t) 19 t (S.1 23 0)) (S.1 15 t) (mMid S t) (S.1 17 t) t) 20 t 0 := by unfold mFk mFork1; rw [if_pos hr]
  rw [e, hn]
  obtain ⟨a1, a2, a3, a4, a5, a6⟩ := mNode_n S (S.1 15 t) (S.1 16 t) (mMid S t) t hn
  have a23 := mNode_23 S (S.1 15 t) (S.1 16 t) (mMid S t) t
  have aT : ∀ c x : Nat, x < n0 → c ≠ 23 → (mNode S (S.1 15 t) (S.1 16 t) (mMid S t) t).1 c x = S.1 c x := fun c x hx hc => mNode_c _ _ _ _ _ _ _ (by omega) hc
  have aJ : ∀ c x : Nat, _ → (mNode S (S.1 15 t) (S.1 16 t) (mMid S t) t).1 c x = S.1 c x := fun c x h => mNode_o S (S.1 15 t) (S.1 16 t) (mMid S t) t c x h
  have a2' : (mNode S (S.1 15 t) (S.1 16 t) (mMid S t) t).2 21 = S.2 21 := by funext x; exact sq_k _ _ _ _ (by decide)
  generalize mNode S (S.1 15 t) (S.1 16 t) (mMid S t) t = N1 at *
  have h23 : (sp N1 19 t n0).1 23 0 = ((n0 + 1 : Nat) : Int) := by rw [sp_k _ _ _ _ (by decide), a23]; omega
  obtain ⟨b1, b2, b3, b4, b5, b6⟩ := mNode_n (sp N1 19 t n0) (S.1 15 t) (mMid S t) (S.1 17 t) t h23
  have b23 := mNode_23 (sp N1 19 t n0) (S.1 15 t) (mMid S t) (S.1 17 t) t
  have bT : ∀ c x : Nat, x < n0 + 1 → c ≠ 23 → (mNode (sp N1 19 t n0) (S.1 15 t) (mMid S t) (S.1 17 t) t).1 c x = (sp N1 19 t n0).1 c x := fun c x hx hc => mNode_c _ _ _ _ _ _ _ (by omega) hc
  have bJ : ∀ c x : Nat, _ → (mNode (sp N1 19 t n0) (S.1 15 t) (mMid S t) (S.1 17 t) t).1 c x = (sp N1 19 t n0).1 c x := fun c x h => mNode_o (sp N1 19 t n0) (S.1 15 t) (mMid S t) (S.1 17 t) t c x h
  have b2' : (mNode (sp N1 19 t n0) (S.1 15 t) (mMid S t) (S.1 17 t) t).2 21 = N1.2 21 := by funext x; exact sq_k _ _ _ _ (by decide)
  generalize mNode (sp N1 19 t n0) (S.1 15 t) (mMid S t) (S.1 17 t) t = N3 at *
  refine ⟨?_, ?_, ?_, ?_, ?_, ?_, ?_, ?_, ?_, ?_, ?_, ?_, ?_⟩
  · rw [sp_k _ _ _ _ (by decide), b23, h23]; omega
  · intro c h1 h2 h3 h4 h5 h6 h7
    funext x
    rw [sp_k _ _ _ _ h6, bJ c x ⟨h7, h1, h2, h3, h4, h5, h6⟩, sp_k _ _ _ _ h5, aJ c x ⟨h7, h1, h2, h3, h4, h5, h6⟩]
  · intro c hc x hx
    rw [sp_k _ _ _ _ (by omega), bT c x (by omega) (by omega), sp_k _ _ _ _ (by omega), aT c x hx (by omega)]
  · intro x hx hxt
    rw [sp_k _ _ _ _ (by decide), bT 19 x (by omega) (by omega), sp_j _ _ _ hxt, aT 19 x hx (by omega)]
  · rw [sp_k _ _ _ _ (by decide), bT 19 t (by omega) (by omega), sp_same]
  · rw [sp_same]
  · intro x hx hxt
    rw [sp_j _ _ _ hxt, bT 20 x (by omega) (by omega), sp_k _ _ _ _ (by decide), aT 20 x hx (by omega)]
  · rintro x (rfl | rfl)
    · refine ⟨?_, ?_, ?_, ?_⟩
      · rw [sp_k _ _ _ _ (by decide), bT 15 _ (by omega) (by decide), sp_k _ _ _ _ (by decide), a1]
      · rw [sp_k _ _ _ _ (by decide), bT 18 _ (by omega) (by decide), sp_k _ _ _ _ (by decide), a4]
      · rw [sp_k _ _ _ _ (by decide), bT 19 _ (by omega) (by decide), sp_j _ _ _ (by omega), a5]
      · rw [sp_j _ _ _ (by omega), bT 20 _ (by omega) (by decide), sp_k _ _ _ _ (by decide), a6]
    · refine ⟨?_, ?_, ?_, ?_⟩
      · rw [sp_k _ _ _ _ (by decide), b1]
      · rw [sp_k _ _ _ _ (by decide), b4]
      · rw [sp_k _ _ _ _ (by decide), b5]
      · rw [sp_j _ _ _ (by omega), b6]
  · rw [sp_k _ _ _ _ (by decide), bT 16 _ (by omega) (by decide), sp_k _ _ _ _ (by decide), a2]
  · rw [sp_k _ _ _ _ (by decide), bT 17 _ (by omega) (by decide), sp_k _ _ _ _ (by decide), a3]
  · rw [sp_k _ _ _ _ (by decide), b2]
  · rw [sp_k _ _ _ _ (by decide), b3]
  · show N3.2 21 = S.2 21
    rw [b2', a2']
theorem put2 {S : Ms} {i : Nat} (a b : Nat) (hB : Bi S) (hi : i < 4) (hq : S.1 25 i + 2 ≤ 600) (ha : (a : Int) < S.1 23 0) (hb : (b : Int) < S.1 23 0) : Bi (mPut (mPut S i a) i b) ∧ (qA (mPut (mPut S i a) i b)).Perm (b :: a :: qA S) := by
  have q0 := hB.q0 i hi
  have hB1 := Bi_put (t := (a : Int)) hB hi (by omega) ⟨by omega, ha⟩
  have e25 : (mPut S i a).1 25 i = S.1 25 i + 1 := by rw [mPut_25, if_pos rfl]
  refine ⟨Bi_put hB1 hi (by rw [e25]; omega) ⟨by omega, hb⟩, ?_⟩
  have p1 := qA_put (S := S) (i := i) (q := (S.1 25 i).toNat) (t := (a : Int)) hi (by omega) (by omega) (fun i' hi' => hB.q6 i' hi')
  have p2 := qA_put (S := mPut S i a) (i := i) (q := (S.1 25 i).toNat + 1) (t := (b : Int)) hi (by rw [e25]; omega) (by omega) (fun i' hi' => hB1.q6 i' hi')
  exact p2.trans (p1.cons _)
theorem fork_ok {S : Ms} {L : Nat → Prop} {t i : Nat} (hB : Bi S) (hE : QE S) (hT : Tr S L (fun x => x = t)) (hi : (i : Int) < S.1 1 0) (hq : S.1 25 i + 2 ≤ 600) (hc1 : S.1 13 (mOf S t) = 1 → S.1 19 t = -1) (hf : mForks S t) (hr1 : S.1 13 (mOf S t) = 1 → S.1 23 0 + 2 ≤ 600) : Ok S (mFork S t i) (w1 S t) (w2 S t - 1) := by
  have hi4 : i < 4 := by have := hB.1.2; omega
  have x1 := (hT.2.2.2.2.1 t rfl).1
  have y1 := (hT.2.2.1 t x1).1
  have g1 := hB.2.2.2.2.2.2.2.2.1.1
  rw [mFork_eq]
  rcases hB.rd y1 with rd | rd
  · obtain ⟨n0, hn⟩ := Int.eq_ofNat_of_zero_le (show 0 ≤ S.1 23 0 by omega)
    obtain ⟨f1, f2, f3, f4, f5, f6, f7, f8, f9, f10, f11, f12, f13⟩ := mFk_1 (t := t) rd hn (by omega)
    unfold mForks at hf
    rw [if_pos rd] at hf
    have hlen := hB.len y1
    obtain ⟨b1, b2, b3, b4, b5, -⟩ := hB.2.2.2.2.2.1 t y1
    have mid : S.1 16 t < mMid S t ∧ mMid S t < S.1 17 t := by unfold mMid; omega
    rw [f5]
    have r6 := hr1 rd
    have hBk : Bi (mFk S t) := Bi_fork (n0 := n0) hB hn f1 (by omega) (by omega) (hc1 rd) f2 f3 f4 f5 f6 f7 (by
      intro x hx
      obtain ⟨c1, c2, c3, c4⟩ := f8 x hx
      refine ⟨c1, c2, c3, c4, ?_⟩
      rcases hx with e | e
      · rw [e, f9, f10]; omega
      · rw [e, f11, f12]; omega)
    have e25 : (mFk S t).1 25 = S.1 25 := f2 25 (by decide) (by decide) (by decide) (by decide) (by decide) (by decide) (by decide)
    have e24 : (mFk S t).1 24 = S.1 24 := f2 24 (by decide) (by decide) (by decide) (by decide) (by decide) (by decide) (by decide)
    have eq0 : qA (mFk S t) = qA S := qA_ext (fun i _ => by rw [e25]) (fun k => by rw [e24])
    obtain ⟨hB2, hP⟩ := put2 (S := mFk S t) (n0 + 1) n0 hBk hi4 (by rw [e25]; omega) (by rw [f1]; omega) (by rw [f1]; omega)
    rw [eq0] at hP
    rw [show ((n0 + 1 : Nat) : Int) = (n0 : Int) + 1 by omega] at hB2 hP
    have gk : ∀ c, c ≠ 24 → c ≠ 25 → (mPut (mPut (mFk S t) i ((n0 : Int) + 1)) i n0).1 c = (mFk S t).1 c := fun c h1 h2 => by funext x; rw [mPut_c _ _ _ _ h1 h2, mPut_c _ _ _ _ h1 h2]
    have g25 : ∀ x, x ≠ i → (mPut (mPut (mFk S t) i ((n0 : Int) + 1)) i n0).1 25 x = S.1 25 x := fun x hx => by rw [mPut_25, if_neg hx, mPut_25, if_neg hx, e25]
    have g2 : (mPut (mPut (mFk S t) i ((n0 : Int) + 1)) i n0).2 21 = S.2 21 := f13
    generalize mPut (mPut (mFk S t) i ((n0 : Int) + 1)) i n0 = S' at *
    have gJ : ∀ c, c ≠ 15 → c ≠ 16 → c ≠ 17 → c ≠ 18 → c ≠ 19 → c ≠ 20 → c ≠ 23 → c ≠ 24 → c ≠ 25 → S'.1 c = S.1 c := fun c h1 h2 h3 h4 h5 h6 h7 h8 h9 => by rw [gk c h8 h9, f2 c h1 h2 h3 h4 h5 h6 h7]
    have l0 : lenT S' n0 = mMid S t - S.1 16 t := by unfold lenT; rw [gk 17 (by decide) (by decide), gk 16 (by decide) (by decide), f9, f10]
    have l1 : lenT S' (n0 + 1) = S.1 17 t - mMid S t := by unfold lenT; rw [gk 17 (by decide) (by decide), gk 16 (by decide) (by decide), f11, f12]
    have oN : ∀ x, x = n0 ∨ x = n0 + 1 → mOf S' x = mOf S t := fun x hx => by unfold mOf; rw [gk 15 (by decide) (by decide), (f8 x hx).1]
    have oO : ∀ x, x < n0 → mOf S' x = mOf S x := fun x hx => by unfold mOf; rw [gk 15 (by decide) (by decide), f3 15 (by simp) x hx]
    have lO : ∀ x, x < n0 → lenT S' x = lenT S x := fun x hx => by unfold lenT; rw [gk 16 (by decide) (by decide), gk 17 (by decide) (by decide), f3 16 (by simp) x hx, f3 17 (by simp) x hx]
    have qn : ∀ x, x ∈ qA S → x < n0 := fun x hx => by have := hB.qm hx; omega
    have r13 : S'.1 13 = S.1 13 := gJ 13 (by decide) (by decide) (by decide) (by decide) (by decide) (by decide) (by decide) (by decide) (by decide)
    refine ⟨hB2, ?_, ⟨_, Tr.fork1 hB hT hn (by rw [gk 23 (by decide) (by decide), f1]) rd (fun c hc => gJ c (by omega) (by omega) (by omega) (by omega) (by omega) (by omega) (by omega) (by omega) (by omega)) (fun c hc x hx => by rw [gk c (by omega) (by omega), f3 c hc x hx]) (fun x hx h => by rw [gk 19 (by decide) (by decide), f4 x hx h]) (by rw [gk 19 (by decide) (by decide), f5]) (by rw [gk 20 (by decide) (by decide), f6]) (fun x hx h => by rw [gk 20 (by decide) (by decide), f7 x hx h]) (fun x hx => by rw [gk 15 (by decide) (by decide), gk 18 (by decide) (by decide), gk 19 (by decide) (by decide)]; exact ⟨(f8 x hx).1, (f8 x hx).2.1, (f8 x hx).2.2.1⟩) (by rw [l0, l1]; unfold lenT; omega) hP g2⟩, ?_, ?_, ?_⟩
    · intro i' h1 h2
      rw [gJ 1 (by decide) (by decide) (by decide) (by decide) (by decide) (by decide) (by decide) (by decide) (by decide)] at h2
      rw [g25 i' (by omega)]
      exact hE i' h1 h2
    · unfold P1
      rw [sumI_perm _ hP, sumI_cons, sumI_cons, gk 23 (by decide) (by decide), f1]
      have a0 : w1 S' n0 = 2 * (mMid S t - S.1 16 t) - 2 := by unfold w1; rw [oN n0 (Or.inl rfl), r13, if_pos rd, l0]
      have a1 : w1 S' (n0 + 1) = 2 * (S.1 17 t - mMid S t) - 2 := by unfold w1; rw [oN (n0 + 1) (Or.inr rfl), r13, if_pos rd, l1]
      have a2 : w1 S t = 2 * (S.1 17 t - S.1 16 t) - 2 := by unfold w1; rw [if_pos rd]; rfl
      rw [a0, a1, a2, sumI_congr (g := w1 S) fun x hx => by unfold w1; rw [oO x (qn x hx), lO x (qn x hx), r13]]
      omega
    · unfold Ph
      have r14 : S'.1 14 = S.1 14 := gJ 14 (by decide) (by decide) (by decide) (by decide) (by decide) (by decide) (by decide) (by decide) (by decide)
      rw [sumI_perm _ hP, sumI_cons, sumI_cons, r14]
      have a0 : w2 S' n0 = 2 * (mMid S t - S.1 16 t) - 1 := by unfold w2; rw [l0]
      have a1 : w2 S' (n0 + 1) = 2 * (S.1 17 t - mMid S t) - 1 := by unfold w2; rw [l1]
      have a2 : w2 S t = 2 * (S.1 17 t - S.1 16 t) - 1 := rfl
      rw [a0, a1, a2, sumI_congr (g := w2 S) fun x hx => by unfold w2; rw [lO x (qn x hx)], sc_congr (S := S) (S' := S') _ fun jj _ => by
        unfold scw
        rw [gJ 9 (by decide) (by decide) (by decide) (by decide) (by decide) (by decide) (by decide) (by decide) (by decide), gJ 5 (by decide) (by decide) (by decide) (by decide) (by decide) (by decide) (by decide) (by decide) (by decide), r13]]
      omega
    · intro c hc; exact gJ c (by omega) (by omega) (by omega) (by omega) (by omega) (by omega) (by omega) (by omega) (by omega)
  · unfold mForks at hf
    rw [if_neg (by omega)] at hf
    have eF : mFk S t = sp (sq (sq S 22 (S.1 19 t).toNat (S.2 22 t)) 22 ((S.1 19 t).toNat + 1) (joinF S (mOf S t) (S.2 22 t) (S.2 21 (S.1 19 t).toNat))) 20 t 0 := by unfold mFk mFork1; rw [if_neg (by omega)]
    have e1 : (mFk S t).1 = (sp S 20 t 0).1 := by rw [eF]; rfl
    have e2 : (mFk S t).2 21 = S.2 21 := by rw [eF]; rfl
    have hBk : Bi (mFk S t) := (Bi_over hB t 0 (by omega)).of1 e1
    have hch : S.1 19 t = ((chT S t : Nat) : Int) := by unfold chT; omega
    have e19 : (mFk S t).1 19 t = ((chT S t : Nat) : Int) := by rw [e1, sp_k _ _ _ _ (by decide)]; exact hch
    obtain ⟨-, -, -, -, -, -, -, b8, -⟩ := hB.2.2.2.2.2.1 t y1
    obtain ⟨c1, c2, c3, c4, c5⟩ := hT.2.1 t y1 hf
    rw [e19]
    have e23 : (mFk S t).1 23 = S.1 23 := by rw [e1]; funext x; exact sp_k _ _ _ _ (by decide)
    have e25 : (mFk S t).1 25 = S.1 25 := by rw [e1]; funext x; exact sp_k _ _ _ _ (by decide)
    have eq0 : qA (mFk S t) = qA S := by rw [of1_ e1]; rfl
    obtain ⟨hB2, hP⟩ := put2 (S := mFk S t) (chT S t + 1) (chT S t) hBk hi4 (by rw [e25]; omega) (by rw [e23]; omega) (by rw [e23]; omega)
    rw [eq0] at hP
    rw [show ((chT S t + 1 : Nat) : Int) = (chT S t : Int) + 1 by omega] at hB2 hP
    have gk : ∀ c, c ≠ 24 → c ≠ 25 → (mPut (mPut (mFk S t) i ((chT S t : Int) + 1)) i (chT S t)).1 c = (sp S 20 t 0).1 c := fun c h1 h2 => by funext x; rw [mPut_c _ _ _ _ h1 h2, mPut_c _ _ _ _ h1 h2, e1]
    have g25 : ∀ x, x ≠ i → (mPut (mPut (mFk S t) i ((chT S t : Int) + 1)) i (chT S t)).1 25 x = S.1 25 x := fun x hx => by rw [mPut_25, if_neg hx, mPut_25, if_neg hx, e25]
    have g2 : (mPut (mPut (mFk S t) i ((chT S t : Int) + 1)) i (chT S t)).2 21 = S.2 21 := e2
    generalize mPut (mPut (mFk S t) i ((chT S t : Int) + 1)) i (chT S t) = S' at *
    have gJ : ∀ c, c ≠ 20 → c ≠ 24 → c ≠ 25 → S'.1 c = S.1 c := fun c h1 h2 h3 => by rw [gk c h2 h3]; funext x; exact sp_k _ _ _ _ h1
    have A : AgT S S' := AgT.of fun c h1 h2 h3 _ _ _ _ _ _ _ _ _ _ x => by rw [gJ c h1 h2 h3]
    refine ⟨hB2, ?_, ⟨_, Tr.fork2 hB hT A hf rd (by rw [gk 20 (by decide) (by decide), sp_same]) (fun x hx => by rw [gk 20 (by decide) (by decide), sp_j _ _ _ hx]) hP g2⟩, ?_, ?_, ?_⟩
    · intro i' h1 h2
      rw [gJ 1 (by decide) (by decide) (by decide)] at h2
      rw [g25 i' (by omega)]
      exact hE i' h1 h2
    · unfold P1
      rw [sumI_perm _ hP, sumI_cons, sumI_cons, A.f23]
      have ew : w1 S' = w1 S := by funext x; unfold w1; rw [A.eO, A.eL, A.f13]
      have z : ∀ x, S.1 15 x = S.1 15 t → w1 S x = 0 := fun x hx => by unfold w1; rw [show mOf S x = mOf S t by unfold mOf; rw [hx], if_neg (by omega)]
      rw [ew, z _ c3, z _ c4, z t rfl]
      omega
    · unfold Ph
      have ew : w2 S' = w2 S := by funext x; unfold w2; rw [A.eL]
      rw [sumI_perm _ hP, sumI_cons, sumI_cons, A.f14, ew, sc_congr (S := S) (S' := S') _ fun jj _ => by unfold scw; rw [A.f9, A.f5, A.f13]]
      have : w2 S (chT S t) + w2 S (chT S t + 1) = w2 S t - 1 := by unfold w2; omega
      omega
    · intro c hc; exact gJ c (by omega) (by omega) (by omega)

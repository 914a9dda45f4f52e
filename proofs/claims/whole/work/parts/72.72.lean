/-! RESULTS AND BASES THAT NOBODY WROTE YET -/
def Zb (S : Ms) : Prop := (∀ x : Nat, S.1 23 0 ≤ (x : Int) → S.2 21 x = 0) ∧ ∀ t : Nat, (t : Int) < S.1 23 0 → S.1 13 (mOf S t) = 1 → S.2 22 t = 0
theorem Zb.ext {S S' : Ms} (h : Zb S) (h13 : S'.1 13 = S.1 13) (h15 : S'.1 15 = S.1 15) (h23 : S'.1 23 = S.1 23) (h21 : ∀ x : Nat, S.1 23 0 ≤ (x : Int) → S'.2 21 x = S.2 21 x) (h22 : S'.2 22 = S.2 22) : Zb S' := by
  have eO : mOf S' = mOf S := by funext t; unfold mOf; rw [h15]
  unfold Zb
  rw [h13, h23, h22, eO]
  exact ⟨fun x hx => by rw [h21 x hx]; exact h.1 x hx, h.2⟩
theorem mFk_22 {S : Ms} {t n0 : Nat} (hr : S.1 13 (mOf S t) = 1) (hn : S.1 23 0 = (n0 : Int)) : (∀ x, x < n0 → (mFk S t).2 22 x = S.2 22 x) ∧ (mFk S t).2 22 n0 = 0 ∧ (mFk S t).2 22 (n0 + 1) = 0 ∧ (mFk S t).2 4 = S.2 4 := by
  have e : mFk S t = sp (mNode (sp (mNode S (S.1 15 t) (S.1 16 t) (mMid S t) t) 19 t (S.1 23 0)) (S.1 15 t) (mMid S t) (S.1 17 t) t) 20 t 0 := by unfold mFk mFork1; rw [if_pos hr]
  have n2 : ∀ (T : Ms) (j lo hi ab : Int), (mNode T j lo hi ab).2 = (sq T 22 (T.1 23 0).toNat 0).2 := fun T j lo hi ab => rfl
  have h23 : (sp (mNode S (S.1 15 t) (S.1 16 t) (mMid S t) t) 19 t (S.1 23 0)).1 23 0 = ((n0 + 1 : Nat) : Int) := by rw [sp_k _ _ _ _ (by decide), mNode_23]; omega
  have e2 : (mFk S t).2 = (sq (sq S 22 n0 0) 22 (n0 + 1) 0).2 := by
    rw [e]
    show (mNode _ _ _ _ _).2 = _
    rw [n2, h23, Int.toNat_natCast]
    show (fun k j => if k = 22 then (if j = n0 + 1 then 0 else (mNode S (S.1 15 t) (S.1 16 t) (mMid S t) t).2 k j) else (mNode S (S.1 15 t) (S.1 16 t) (mMid S t) t).2 k j) = _
    rw [n2, hn, Int.toNat_natCast]
    rfl
  rw [e2]
  refine ⟨fun x hx => ?_, ?_, ?_, ?_⟩
  · rw [sq_j _ _ _ (by omega), sq_j _ _ _ (by omega)]
  · rw [sq_j _ _ _ (by omega), sq_same]
  · rw [sq_same]
  · funext x; rw [sq_k _ _ _ _ (by decide), sq_k _ _ _ _ (by decide)]
theorem Zb.fork {S : Ms} (h : Zb S) (hB : Bi S) {t i : Nat} (ht : (t : Int) < S.1 23 0) (hch : 0 ≤ S.1 19 t → S.1 15 (chT S t) = S.1 15 t ∧ S.1 15 (chT S t + 1) = S.1 15 t) (hf : mForks S t) : Zb (mFork S t i) := by
  have key : Zb (mFk S t) := by
    rcases hB.rd ht with rd | rd
    · obtain ⟨n0, hn⟩ := Int.eq_ofNat_of_zero_le (show 0 ≤ S.1 23 0 by omega)
      obtain ⟨f1, f2, f3, f4, f5, f6, f7, f8, f9, f10, f11, f12, f13⟩ := mFk_1 (t := t) rd hn (by omega)
      obtain ⟨g1, g2, g3, -⟩ := mFk_22 (t := t) rd hn
      have e13 := f2 13 (by decide) (by decide) (by decide) (by decide) (by decide) (by decide) (by decide)
      unfold Zb
      rw [f1, f13, e13]
      refine ⟨fun x hx => h.1 x (by omega), fun x hx hx2 => ?_⟩
      by_cases c : x < n0
      · rw [g1 x c]
        refine h.2 x (by omega) ?_
        have : mOf (mFk S t) x = mOf S x := by unfold mOf; rw [f3 15 (by simp) x c]
        rw [← this]; exact hx2
      · by_cases c2 : x = n0
        · rw [c2]; exact g2
        · rw [show x = n0 + 1 by omega]; exact g3
    · unfold mForks at hf
      rw [if_neg (by omega)] at hf
      obtain ⟨c1, c2⟩ := hch hf
      have eF : mFk S t = sp (sq (sq S 22 (chT S t) (S.2 22 t)) 22 (chT S t + 1) (joinF S (mOf S t) (S.2 22 t) (S.2 21 (chT S t)))) 20 t 0 := by unfold mFk mFork1; rw [if_neg (by omega)]; rfl
      rw [eF]
      refine ⟨fun x hx => h.1 x hx, fun x hx hx2 => ?_⟩
      have hx2' : S.1 13 (mOf S x) = 1 := hx2
      have n1 : x ≠ chT S t := fun e => by
        rw [e] at hx2'
        have : mOf S (chT S t) = mOf S t := by unfold mOf; rw [c1]
        rw [this] at hx2'; omega
      have n2 : x ≠ chT S t + 1 := fun e => by
        rw [e] at hx2'
        have : mOf S (chT S t + 1) = mOf S t := by unfold mOf; rw [c2]
        rw [this] at hx2'; omega
      show (sq (sq S 22 (chT S t) (S.2 22 t)) 22 (chT S t + 1) _).2 22 x = 0
      rw [sq_j _ _ _ n2, sq_j _ _ _ n1]
      exact h.2 x hx hx2'
  rw [mFork_eq]
  exact key.ext (by funext x; rw [mPut_c _ _ _ _ (by decide) (by decide), mPut_c _ _ _ _ (by decide) (by decide)]) (by funext x; rw [mPut_c _ _ _ _ (by decide) (by decide), mPut_c _ _ _ _ (by decide) (by decide)]) (by funext x; rw [mPut_c _ _ _ _ (by decide) (by decide), mPut_c _ _ _ _ (by decide) (by decide)]) (fun _ _ => rfl) rfl
theorem sprF_22 (j a : Nat) (n k : Nat) (v : Int64) (S : Ms) : (sprF j a k n v S).2 22 = S.2 22 := sprF_2 j a 22 (by decide) n k v S
theorem lfF_22 (j a : Nat) : ∀ (n k : Nat) (S : Ms), Bi S → QE S → Zb S → Zb (lfF j a k n S).2 := by
  intro n
  induction n with
  | zero => intro k S _ _ h; exact h
  | succ n ih =>
    intro k S hB hE h
    rw [lfF_succ]
    split
    · obtain ⟨-, -, q2, -, q4⟩ := mEnd_q hB hE j k
      exact h.ext (by funext x; rw [q4 13 x (by decide) (by decide), sp_k _ _ _ _ (by decide), sp_k _ _ _ _ (by decide)]) (by funext x; rw [q4 15 x (by decide) (by decide), sp_k _ _ _ _ (by decide), sp_k _ _ _ _ (by decide)]) (by funext x; rw [q4 23 x (by decide) (by decide), sp_k _ _ _ _ (by decide), sp_k _ _ _ _ (by decide)]) (fun _ _ => by show (mEnd S j k).2 21 _ = _; rw [q2]) (by show (mEnd S j k).2 22 = _; rw [q2])
    · exact ih (k + 1) _ hB hE (h.ext rfl rfl rfl (fun _ _ => sq_k _ _ _ _ (by decide)) (by funext x; exact sq_k _ _ _ _ (by decide)))
theorem Zb.leaf {S : Ms} (h : Zb S) (hB : Bi S) (hE : QE S) {t : Nat} (ht : (t : Int) < S.1 23 0) : Zb (mLeaf S t).2 := by
  unfold mLeaf
  simp only
  split
  · exact h.ext rfl rfl rfl (fun x hx => sq_j _ _ _ (by omega)) rfl
  · split
    · exact h.ext (by rw [mSpread_1]) (by rw [mSpread_1]) (by rw [mSpread_1]) (fun x _ => by show (mSpread S t).2 21 x = _; unfold mSpread; rw [sprF_2 _ _ _ (by decide)]) (by show (mSpread S t).2 22 = _; unfold mSpread; rw [sprF_2 _ _ _ (by decide)])
    · split
      · exact h.ext (by rw [mOrder_1]) (by rw [mOrder_1]) (by rw [mOrder_1]) (fun x _ => by show (mOrder S _ _ _).2 21 x = _; rw [mOrder_2 _ _ _ _ _ (by decide)]) (by show (mOrder S _ _ _).2 22 = _; rw [mOrder_2 _ _ _ _ _ (by decide)])
      · exact lfF_22 _ _ _ _ S hB hE h
theorem Zb.fin (i j : Nat) : ∀ (n k : Nat) (S : Ms), Zb S → (∀ x : Nat, (x : Int) < S.1 23 0 → S.1 18 x < x) → (k : Int) < S.1 23 0 → Zb (finF i j n k S) := by
  intro n
  induction n with
  | zero => intro k S h _ _; exact h
  | succ n ih =>
    intro k S h hx hk
    rw [finF_succ]
    split
    · unfold finE
      split
      · exact h.ext rfl rfl rfl (fun _ _ => rfl) rfl
      · refine ⟨fun x hx' => h.1 x hx', fun x hx' hx2 => ?_⟩
        have e13 : ∀ y, (mPut (sq (sp S 13 j 2) 22 k 0) i k).1 13 y = (sp S 13 j 2).1 13 y := fun y => mPut_c _ _ _ _ (by decide) (by decide)
        rw [e13] at hx2
        show (sq (sp S 13 j 2) 22 k 0).2 22 x = 0
        by_cases c : x = k
        · rw [c, sq_same]
        · rw [sq_j _ _ _ c]
          refine h.2 x hx' ?_
          have hx2' : (sp S 13 j 2).1 13 (mOf S x) = 1 := hx2
          by_cases c2 : mOf S x = j
          · rw [c2, sp_same] at hx2'; omega
          · rw [sp_j _ _ _ c2] at hx2'; exact hx2'
    · split
      · exact h.ext rfl rfl rfl (fun _ _ => rfl) rfl
      · have h9 := hx k hk
        have hp : (((S.1 18 k).toNat : Nat) : Int) < S.1 23 0 := by omega
        refine ih _ _ ?_ (by rw [finJ_1]; exact hx) (by rw [finJ_1]; exact hp)
        generalize (S.1 18 k).toNat = p at *
        refine h.ext (by rw [finJ_1]; rfl) (by rw [finJ_1]; rfl) (by rw [finJ_1]; rfl) (fun x hx' => ?_) ?_
        · unfold finJ
          simp only
          have key : ∀ T : Ms, T.2 21 x = S.2 21 x → (if (sp S 20 p (S.1 20 p + 1)).1 5 j = 3 then mOrder T (mAt (sp S 20 p (S.1 20 p + 1)) j) (mLo (sp S 20 p (S.1 20 p + 1)) p) (mHi (sp S 20 p (S.1 20 p + 1)) p) else T).2 21 x = S.2 21 x := by
            intro T e; split
            · rw [mOrder_2 _ _ _ _ _ (by decide)]; exact e
            · exact e
          refine key _ ?_
          split
          · exact sq_j _ _ _ (by omega)
          · rfl
        · unfold finJ
          simp only
          have key : ∀ T : Ms, T.2 22 = S.2 22 → (if (sp S 20 p (S.1 20 p + 1)).1 5 j = 3 then mOrder T (mAt (sp S 20 p (S.1 20 p + 1)) j) (mLo (sp S 20 p (S.1 20 p + 1)) p) (mHi (sp S 20 p (S.1 20 p + 1)) p) else T).2 22 = S.2 22 := by
            intro T e; split
            · rw [mOrder_2 _ _ _ _ _ (by decide)]; exact e
            · exact e
          refine key _ ?_
          split
          · rfl
          · rfl
theorem Zb.perform {S : Ms} (h : Zb S) (hB : Bi S) (hE : QE S) {t i : Nat} (ht : (t : Int) < S.1 23 0) (hch : 0 ≤ S.1 19 t → S.1 15 (chT S t) = S.1 15 t ∧ S.1 15 (chT S t + 1) = S.1 15 t) : Zb (mPerform S t i) := by
  unfold mPerform
  simp only
  generalize hS1 : sp (sp S 11 (mOf S t) (S.1 11 (mOf S t) + 1)) 26 i (S.1 26 i + 1) = S1
  have k1 : ∀ c, c ≠ 11 → c ≠ 26 → S1.1 c = S.1 c := fun c h1 h2 => by rw [← hS1]; funext jj; rw [sp_k _ _ _ _ h2, sp_k _ _ _ _ h1]
  have h1 : Zb S1 := h.ext (k1 13 (by decide) (by decide)) (k1 15 (by decide) (by decide)) (k1 23 (by decide) (by decide)) (fun _ _ => by rw [← hS1]; rfl) (by rw [← hS1]; rfl)
  have hB1 : Bi S1 := by rw [← hS1]; exact hB.mono (fun c jj _ _ _ h11 h26 _ _ _ _ => by rw [sp_k _ _ _ _ h26, sp_k _ _ _ _ h11]) hB.2.2.2.2.2.2.1
  have hE1 : QE S1 := by rw [← hS1]; exact hE
  have ht1 : (t : Int) < S1.1 23 0 := by rw [k1 23 (by decide) (by decide)]; exact ht
  have fk : mForks S1 t ↔ mForks S t := by unfold mForks mOf; rw [k1 13 (by decide) (by decide), k1 15 (by decide) (by decide), k1 30 (by decide) (by decide), k1 17 (by decide) (by decide), k1 16 (by decide) (by decide), k1 19 (by decide) (by decide)]
  by_cases hf : mForks S t
  · rw [if_pos hf]
    exact h1.fork hB1 ht1 (by unfold chT; rw [k1 19 (by decide) (by decide), k1 15 (by decide) (by decide)]; exact hch) (fk.mpr hf)
  · rw [if_neg hf]
    have hl := h1.leaf hB1 hE1 ht1
    cases hb : (mLeaf S1 t).1
    · rw [if_neg (by simp)]; exact hl
    · rw [if_pos rfl]
      have f1 := mLeaf_t hb
      refine Zb.fin _ _ _ _ _ hl ?_ (by rw [f1]; exact ht1)
      rw [f1]
      intro x hx
      obtain ⟨b1, b2, b3, b4, b5, b6, b7, -⟩ := hB1.2.2.2.2.2.1 x hx
      exact b7
def Inv3 (S : Ms) : Prop := Inv2 S ∧ Zb S
theorem Inv3.th {S : Ms} (h : Inv3 S) (x : Int) : Inv3 (sp S 0 0 x) := ⟨h.1.th x, h.2.ext rfl rfl rfl (fun _ _ => rfl) rfl⟩
theorem turns3 {S : Ms} (h : Inv3 S) : Inv3 (mTurns S).2 := by
  refine ⟨turns2 h.1, ?_⟩
  obtain ⟨⟨⟨hB, hE, ⟨L, hT⟩, -⟩, -⟩, hZ⟩ := h
  obtain ⟨i, W, hi, hW, hiW, hc⟩ := mTurns_cases hB hE
  rcases hc with ⟨S2, v, k, hB2, hv4, hk, k2, s2, e⟩ | ⟨S2, k2, s2, e⟩
  · rw [e]
    have hW4 := hB.1.2
    have d25 : S2.1 25 = S.1 25 := k2 25 (by decide) (by decide) (by decide) (by decide)
    have hqk : S2.1 25 v = (((S.1 25 v).toNat : Nat) : Int) := by rw [d25]; omega
    have hB3 := Bi_pull (i := v) (k := k) (q := (S.1 25 v).toNat) hB2 (by omega) hqk (by omega)
    have k3 : ∀ c, c ≠ 24 → c ≠ 25 → c ≠ 27 → c ≠ 29 → c ≠ 31 → c ≠ 32 → (mPull S2 v k).1 c = S.1 c := fun c z1 z2 a1 a2 a3 a4 => by funext x; rw [mPull_k c x z1 z2, k2 c a1 a2 a3 a4]
    have hE3 : QE (mPull S2 v k) := by
      intro i' h1 h2
      rw [k3 1 (by decide) (by decide) (by decide) (by decide) (by decide) (by decide)] at h2
      rw [mPull_25, if_neg (by omega), d25]
      exact hE i' h1 h2
    have hq := (hB.2.2.2.2.2.2.1 v (by omega)).2.2 k hk
    have htn : (((S.1 24 (600 * v + k)).toNat : Nat) : Int) < S.1 23 0 := by omega
    generalize (S.1 24 (600 * v + k)).toNat = t at *
    have c23 := k3 23 (by decide) (by decide) (by decide) (by decide) (by decide) (by decide)
    have c19 := k3 19 (by decide) (by decide) (by decide) (by decide) (by decide) (by decide)
    have c15 := k3 15 (by decide) (by decide) (by decide) (by decide) (by decide) (by decide)
    refine Zb.perform (hZ.ext (k3 13 (by decide) (by decide) (by decide) (by decide) (by decide) (by decide)) c15 c23 (fun _ _ => by rw [mPull_2, s2]) (by rw [mPull_2, s2])) hB3 hE3 (by rw [c23]; exact htn) ?_
    unfold chT
    rw [c19, c15]
    intro hc
    obtain ⟨-, -, q3, q4, -⟩ := hT.2.1 t htn hc
    exact ⟨q3, q4⟩
  · rw [e]
    exact hZ.ext (k2 13 (by decide) (by decide) (by decide)) (k2 15 (by decide) (by decide) (by decide)) (k2 23 (by decide) (by decide) (by decide)) (fun _ _ => by show S2.2 21 _ = _; rw [s2]) (by show S2.2 22 = _; rw [s2])

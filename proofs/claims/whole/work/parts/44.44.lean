/-! THE TREES OF TASKS. L: the tasks that aren't over yet; X: the one that a worker holds -/
def lenT (S : Ms) (t : Nat) : Int := S.1 17 t - S.1 16 t
def rootT (S : Ms) (j : Nat) : Nat := (S.1 12 j).toNat
def chT (S : Ms) (t : Nat) : Nat := (S.1 19 t).toNat
def paT (S : Ms) (t : Nat) : Nat := (S.1 18 t).toNat
def TrJb (S : Ms) (L : Nat → Prop) : Prop := ∀ j : Nat, (j : Int) < S.1 14 0 → mOf S (rootT S j) = j ∧ S.1 18 (rootT S j) = -1 ∧ (S.1 13 j = 2 → S.1 5 j = 2) ∧ (S.1 9 j = 0 → L (rootT S j))
def TrCh (S : Ms) : Prop := ∀ t : Nat, (t : Int) < S.1 23 0 → 0 ≤ S.1 19 t → S.1 18 (chT S t) = t ∧ S.1 18 (chT S t + 1) = t ∧ S.1 15 (chT S t) = S.1 15 t ∧ S.1 15 (chT S t + 1) = S.1 15 t ∧ lenT S (chT S t) + lenT S (chT S t + 1) = lenT S t
def TrLv (S : Ms) (L X : Nat → Prop) : Prop := ∀ t, L t → (t : Int) < S.1 23 0 ∧ S.1 9 (mOf S t) = 0 ∧ ((S.1 18 t = -1 ∧ t = rootT S (mOf S t)) ∨ (0 ≤ S.1 18 t ∧ L (paT S t) ∧ ¬ X (paT S t) ∧ ¬ paT S t ∈ qA S))
def TrOp (S : Ms) (L X : Nat → Prop) : Prop := ∀ t, L t → ¬ t ∈ qA S → ¬ X t → 0 ≤ S.1 19 t ∧ ((S.1 20 t = 0 ∧ L (chT S t) ∧ L (chT S t + 1)) ∨ (S.1 20 t = 1 ∧ (L (chT S t) ↔ ¬ L (chT S t + 1))))
def TrX (S : Ms) (L X : Nat → Prop) : Prop := ∀ t, X t → L t ∧ ¬ t ∈ qA S ∧ (0 ≤ S.1 19 t → ¬ L (chT S t) ∧ ¬ L (chT S t + 1))
def TrQu (S : Ms) (L : Nat → Prop) : Prop := (qA S).Nodup ∧ ∀ t ∈ qA S, L t ∧ (S.1 13 (mOf S t) = 1 → S.1 19 t = -1)
def TrRs (S : Ms) (L X : Nat → Prop) : Prop := ∀ t : Nat, (t : Int) < S.1 23 0 → S.1 9 (mOf S t) = 0 → 0 ≤ S.1 19 t → S.1 5 (mOf S t) < 3 → (S.1 13 (mOf S t) = 2 ∨ ¬ L t ∨ X t) → S.2 21 t = joinF S (mOf S t) (S.2 21 (chT S t)) (S.2 21 (chT S t + 1))
def Tr (S : Ms) (L X : Nat → Prop) : Prop := TrJb S L ∧ TrCh S ∧ TrLv S L X ∧ TrOp S L X ∧ TrX S L X ∧ TrQu S L ∧ TrRs S L X
def X0 : Nat → Prop := fun _ => False
/-- the numbers that make the trees are the same -/
def AgT (S S' : Ms) : Prop := ∀ c, c = 2 ∨ c = 5 ∨ c = 6 ∨ c = 9 ∨ c = 12 ∨ c = 13 ∨ c = 14 ∨ c = 15 ∨ c = 16 ∨ c = 17 ∨ c = 18 ∨ c = 19 ∨ c = 23 → S'.1 c = S.1 c
theorem AgT.of {S S' : Ms} (h : ∀ c, c ≠ 20 → c ≠ 24 → c ≠ 25 → c ≠ 10 → c ≠ 11 → c ≠ 26 → c ≠ 27 → c ≠ 28 → c ≠ 29 → c ≠ 30 → c ≠ 31 → c ≠ 32 → c ≠ 0 → ∀ j, S'.1 c j = S.1 c j) : AgT S S' :=
  fun c hc => funext fun j => h c (by omega) (by omega) (by omega) (by omega) (by omega) (by omega) (by omega) (by omega) (by omega) (by omega) (by omega) (by omega) (by omega) j
section AGT
variable {S S' : Ms}
theorem AgT.f2 (A : AgT S S') : S'.1 2 = S.1 2 := A 2 (by simp)
theorem AgT.f5 (A : AgT S S') : S'.1 5 = S.1 5 := A 5 (by simp)
theorem AgT.f6 (A : AgT S S') : S'.1 6 = S.1 6 := A 6 (by simp)
theorem AgT.f9 (A : AgT S S') : S'.1 9 = S.1 9 := A 9 (by simp)
theorem AgT.f13 (A : AgT S S') : S'.1 13 = S.1 13 := A 13 (by simp)
theorem AgT.f14 (A : AgT S S') : S'.1 14 = S.1 14 := A 14 (by simp)
theorem AgT.f15 (A : AgT S S') : S'.1 15 = S.1 15 := A 15 (by simp)
theorem AgT.f18 (A : AgT S S') : S'.1 18 = S.1 18 := A 18 (by simp)
theorem AgT.f19 (A : AgT S S') : S'.1 19 = S.1 19 := A 19 (by simp)
theorem AgT.f23 (A : AgT S S') : S'.1 23 = S.1 23 := A 23 (by simp)
theorem AgT.eO (A : AgT S S') : mOf S' = mOf S := by funext t; unfold mOf; rw [A.f15]
theorem AgT.eR (A : AgT S S') : rootT S' = rootT S := by funext t; unfold rootT; rw [A 12 (by simp)]
theorem AgT.eC (A : AgT S S') : chT S' = chT S := by funext t; unfold chT; rw [A.f19]
theorem AgT.eP (A : AgT S S') : paT S' = paT S := by funext t; unfold paT; rw [A.f18]
theorem AgT.eL (A : AgT S S') : lenT S' = lenT S := by funext t; unfold lenT; rw [A 16 (by simp), A 17 (by simp)]
theorem AgT.eJ (A : AgT S S') : joinF S' = joinF S := by funext j v u; unfold joinF mTy; rw [A.f5, A.f6, A.f2]
end AGT
theorem Tr.ext {S S' : Ms} {L X : Nat → Prop} (h : Tr S L X) (A : AgT S S') (h20 : S'.1 20 = S.1 20) (hq : qA S' = qA S) (hr : S'.2 21 = S.2 21) : Tr S' L X := by
  unfold Tr TrJb TrCh TrLv TrOp TrX TrQu TrRs at h ⊢
  simp only [A.f5, A.f9, A.f13, A.f14, A.f15, A.f18, A.f19, A.f23, A.eO, A.eR, A.eC, A.eP, A.eL, A.eJ, h20, hq, hr]
  exact h
theorem Bi.job {S : Ms} (hB : Bi S) {t : Nat} (ht : (t : Int) < S.1 23 0) : ((mOf S t : Nat) : Int) < S.1 14 0 ∧ BiJ S (mOf S t) ∧ S.1 15 t = ((mOf S t : Nat) : Int) := by
  obtain ⟨b1, b2, -⟩ := hB.2.2.2.2.2.1 t ht
  have e : S.1 15 t = ((mOf S t : Nat) : Int) := by unfold mOf; omega
  exact ⟨by omega, hB.2.2.2.1 _ (by omega), e⟩
theorem Bi.rd {S : Ms} (hB : Bi S) {t : Nat} (ht : (t : Int) < S.1 23 0) : S.1 13 (mOf S t) = 1 ∨ S.1 13 (mOf S t) = 2 := by
  obtain ⟨-, -, -, -, -, -, -, b8, b9, -⟩ := (hB.job ht).2.1
  omega
/-- a task is taken from a queue -/
theorem Tr.pull {S S' : Ms} {L : Nat → Prop} {t : Nat} (hB : Bi S) (h : Tr S L X0) (A : AgT S S') (h20 : S'.1 20 = S.1 20) (hq : (qA S).Perm (t :: qA S')) (hr : S'.2 21 = S.2 21) : Tr S' L (fun x => x = t) := by
  obtain ⟨t1, t2, t3, t4, t5, t6, t7⟩ := h
  have hm : ∀ x, x ∈ qA S ↔ x = t ∨ x ∈ qA S' := fun x => by rw [hq.mem_iff]; simp
  have hn : ¬ t ∈ qA S' ∧ (qA S').Nodup := by have := hq.nodup_iff.mp t6.1; simpa using this
  have hL : L t := (t6.2 t ((hm t).mpr (Or.inl rfl))).1
  unfold Tr TrJb TrCh TrLv TrOp TrX TrQu TrRs
  simp only [A.f5, A.f9, A.f13, A.f14, A.f15, A.f18, A.f19, A.f23, A.eO, A.eR, A.eC, A.eP, A.eL, A.eJ, h20, hr]
  refine ⟨t1, t2, ?_, ?_, ?_, ⟨hn.2, ?_⟩, ?_⟩
  · intro x hx
    obtain ⟨a1, a2, a3⟩ := t3 x hx
    refine ⟨a1, a2, a3.imp id ?_⟩
    rintro ⟨b1, b2, b3, b4⟩
    rw [hm] at b4
    exact ⟨b1, b2, fun e => b4 (Or.inl e), fun e => b4 (Or.inr e)⟩
  · intro x hx h1 h2
    exact t4 x hx (fun e => ((hm x).mp e).elim h2 h1) (fun e => e)
  · rintro x rfl
    refine ⟨hL, hn.1, fun hc => ?_⟩
    obtain ⟨b1, b2, -⟩ := t2 x (t3 x hL).1 hc
    have key : ∀ y, S.1 18 y = x → ¬ L y := fun y hy hl => by
      obtain ⟨-, -, a3⟩ := t3 y hl
      rcases a3 with ⟨a, -⟩ | ⟨-, -, -, a⟩
      · omega
      · exact a (by unfold paT; rw [hy]; exact (hm _).mpr (Or.inl rfl))
    exact ⟨key _ b1, key _ b2⟩
  · intro x hx
    exact t6.2 x ((hm x).mpr (Or.inr hx))
  · intro x h1 h2 h3 h4 h5
    refine t7 x h1 h2 h3 h4 ?_
    rcases h5 with h | h | h
    · exact Or.inl h
    · exact Or.inr (Or.inl h)
    · subst h
      have := (t6.2 x ((hm x).mpr (Or.inl rfl))).2
      have hB' : ¬ S.1 13 (mOf S x) = 1 := fun e => by have := this e; omega
      exact Or.inl ((hB.rd h1).resolve_left hB')

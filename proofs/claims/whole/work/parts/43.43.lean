/-! THE END OF A JOB, ON THE LISTS -/
def notOf (S : Ms) (j : Int) (t : Nat) : Bool := decide (¬ S.1 15 t = j)
theorem endW_q {i : Nat} (j : Int) (hi : i < 4) : ∀ (n k : Nat) (S : Ms), S.1 25 i = ((k + n : Nat) : Int) → k + n ≤ 600 → (∀ i', i' < 4 → S.1 25 i' ≤ 600) →
    qL (endW i j n k S) i = (qL S i).take k ++ ((qL S i).drop k).filter (notOf S j) ∧ (∀ i', i' < 4 → i ≠ i' → qL (endW i j n k S) i' = qL S i' ∧ (endW i j n k S).1 25 i' = S.1 25 i') ∧ (endW i j n k S).2 = S.2 ∧ 0 ≤ (endW i j n k S).1 25 i ∧ (endW i j n k S).1 25 i ≤ 600 := by
  intro n
  induction n with
  | zero =>
    intro k S h h6 h7
    have hl : (qL S i).length = k := by rw [qL_len, h]; omega
    refine ⟨?_, fun i' _ _ => ⟨rfl, rfl⟩, rfl, ?_, ?_⟩
    · show qL S i = _
      rw [List.take_of_length_le (by omega), List.drop_of_length_le (by omega)]; simp
    · show 0 ≤ S.1 25 i; omega
    · show S.1 25 i ≤ 600; omega
  | succ n ih =>
    intro k S h h6 h7
    have hl : (qL S i).length = k + (n + 1) := by rw [qL_len, h]; omega
    have hk : k < (qL S i).length := by omega
    have ed : (qL S i).drop k = (qL S i)[k] :: (qL S i).drop (k + 1) := List.drop_eq_getElem_cons hk
    rw [endW_succ]
    split
    · rename_i c
      have h5 : (mPull S i k).1 25 i = ((k + n : Nat) : Int) := by rw [mPull_25, if_pos rfl]; omega
      have h7' : ∀ i', i' < 4 → (mPull S i k).1 25 i' ≤ 600 := fun i' hi' => by
        have := h7 i' hi'
        rw [mPull_25]; split
        · rename_i z; subst z; omega
        · exact this
      obtain ⟨a1, a2, a3, a4⟩ := ih k (mPull S i k) h5 (by omega) h7'
      refine ⟨?_, ?_, a3.trans rfl, a4⟩
      · rw [a1, qL_pull h (by omega), ed, List.filter_cons_of_neg (by rw [qL_at]; unfold notOf; simp; exact c)]
        rw [List.eraseIdx_eq_take_drop_succ, List.take_append_of_le_length (by rw [List.length_take]; omega), List.take_take, Nat.min_self, List.drop_append_of_le_length (by rw [List.length_take]; omega), List.drop_of_length_le (by rw [List.length_take]; omega), List.nil_append]
        congr 2
      · intro i' h1 h2
        obtain ⟨q1, q2⟩ := a2 i' h1 h2
        exact ⟨q1.trans (qL_pull' h2 h (by omega) h6 (h7 i' h1)), q2.trans (by rw [mPull_25, if_neg (by omega)])⟩
    · rename_i c
      obtain ⟨a1, a2, a3, a4⟩ := ih (k + 1) S (by omega) (by omega) h7
      refine ⟨?_, a2, a3, a4⟩
      rw [a1, ed, List.filter_cons_of_pos (by rw [qL_at]; unfold notOf; simp; exact c), ← List.take_append_getElem hk, List.append_assoc]
      rfl
theorem endA_q (j : Int) : ∀ (n i : Nat) (S : Ms), i + n ≤ 4 → (∀ i', i' < 4 → 0 ≤ S.1 25 i' ∧ S.1 25 i' ≤ 600) → (∀ i', i' < 4 → qL (endA j n i S) i' = if i ≤ i' ∧ i' < i + n then (qL S i').filter (notOf S j) else qL S i') ∧ (endA j n i S).2 = S.2 := by
  intro n
  induction n with
  | zero => intro i S _ _; exact ⟨fun i' _ => (if_neg (by omega)).symm, rfl⟩
  | succ n ih =>
    intro i S hi h
    rw [endA_succ]
    have b := h i (by omega)
    obtain ⟨q1, q2, q3, q4, q5⟩ := endW_q j (i := i) (by omega) (S.1 25 i).toNat 0 S (by omega) (by omega) (fun i' hi' => (h i' hi').2)
    obtain ⟨r1, r2⟩ := ih (i + 1) (endW i j (S.1 25 i).toNat 0 S) (by omega) (fun i' hi' => by
      by_cases e : i = i'
      · subst e; exact ⟨q4, q5⟩
      · rw [(q2 i' hi' e).2]; exact h i' hi')
    refine ⟨fun i' hi' => ?_, r2.trans q3⟩
    rw [r1 i' hi']
    by_cases e : i = i'
    · subst e
      rw [if_neg (by omega), if_pos (by omega), q1]; simp
    · rw [(q2 i' hi' e).1]
      have en : notOf (endW i j (S.1 25 i).toNat 0 S) j = notOf S j := by
        funext t; unfold notOf
        have : ∀ (n k : Nat) (S : Ms), (endW i j n k S).1 15 t = S.1 15 t := by
          intro n
          induction n with
          | zero => intro k S; rfl
          | succ n ih => intro k S; rw [endW_succ]; split
                         · rw [ih, mPull_k 15 t (by decide) (by decide)]
                         · exact ih _ _
        rw [this]
      rw [en]
      by_cases c : i + 1 ≤ i' ∧ i' < i + 1 + n
      · rw [if_pos c, if_pos (by omega)]
      · rw [if_neg c, if_neg (by omega)]
/-- the queues of workers that aren't there are empty -/
def QE (S : Ms) : Prop := ∀ i : Nat, i < 4 → S.1 1 0 ≤ (i : Int) → S.1 25 i = 0
theorem qL_nil {S : Ms} {i : Nat} (h : S.1 25 i = 0) : qL S i = [] := by unfold qL; rw [h]; rfl
theorem mEnd_q {S : Ms} (hB : Bi S) (hE : QE S) (j : Nat) (x : Int) : (∀ i, i < 4 → qL (mEnd S j x) i = (qL S i).filter (notOf S j)) ∧ qA (mEnd S j x) = (qA S).filter (notOf S j) ∧ (mEnd S j x).2 = S.2 ∧ Bi (mEnd S j x) ∧ (∀ c jj, c ≠ 24 → c ≠ 25 → (mEnd S j x).1 c jj = (sp (sp S 9 j 2) 10 j x).1 c jj) := by
  obtain ⟨q1, q2⟩ := endA_q j (S.1 1 0).toNat 0 (sp (sp S 9 j 2) 10 j x) (by have := hB.1; omega) (fun i' hi' => ⟨(hB.2.2.2.2.2.2.1 i' hi').1, (hB.2.2.2.2.2.2.1 i' hi').2.1⟩)
  obtain ⟨q3, q4⟩ := endA_Bi j (S.1 1 0).toNat 0 (sp (sp S 9 j 2) 10 j x) (by have := hB.1; omega) (Bi_st hB j 2 x (by omega))
  have eq : ∀ i, i < 4 → qL (mEnd S j x) i = (qL S i).filter (notOf S j) := by
    intro i hi
    unfold mEnd
    rw [q1 i hi]
    have e1 : qL (sp (sp S 9 j 2) 10 j x) i = qL S i := rfl
    have e2 : notOf (sp (sp S 9 j 2) 10 j x) j = notOf S j := rfl
    rw [e1, e2]
    by_cases c : i < (S.1 1 0).toNat
    · rw [if_pos (by omega)]
    · rw [if_neg (by omega), qL_nil (hE i hi (by omega))]; rfl
  refine ⟨eq, ?_, q2, q3, q4⟩
  unfold qA
  rw [eq 0 (by decide), eq 1 (by decide), eq 2 (by decide), eq 3 (by decide)]
  simp only [List.filter_append]

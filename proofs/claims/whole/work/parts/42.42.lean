/-! THE QUEUES AS LISTS -/
def qL (S : Ms) (i : Nat) : List Nat := (List.range (S.1 25 i).toNat).map fun k => (S.1 24 (600 * i + k)).toNat
def qA (S : Ms) : List Nat := qL S 0 ++ (qL S 1 ++ (qL S 2 ++ qL S 3))
theorem qL_len (S : Ms) (i : Nat) : (qL S i).length = (S.1 25 i).toNat := by simp [qL]
theorem qL_at {S : Ms} {i k : Nat} (h : k < (qL S i).length) : (qL S i)[k] = (S.1 24 (600 * i + k)).toNat := by simp [qL]
theorem qL_ext {S S' : Ms} {i : Nat} (h5 : S'.1 25 i = S.1 25 i) (h4 : ∀ k : Nat, (k : Int) < S.1 25 i → S'.1 24 (600 * i + k) = S.1 24 (600 * i + k)) : qL S' i = qL S i := by
  unfold qL; rw [h5]
  refine List.map_congr_left fun k hk => ?_
  rw [List.mem_range] at hk
  rw [h4 k (by omega)]
theorem qL_put {S : Ms} {i q : Nat} {t : Int} (hi : i < 4) (hq : S.1 25 i = (q : Int)) : qL (mPut S i t) i = qL S i ++ [t.toNat] := by
  have e5 : (mPut S i t).1 25 i = ((q + 1 : Nat) : Int) := by unfold mPut; rw [sp_same, hq]; omega
  have e4 : ∀ k, (mPut S i t).1 24 k = if k = 600 * i + q then t else S.1 24 k := fun k => by
    unfold mPut; rw [sp_k _ _ _ _ (by decide), hq, Int.toNat_natCast]
    split
    · rename_i h; rw [h, sp_same]
    · rename_i h; exact sp_j _ _ _ h
  unfold qL
  rw [e5, hq, Int.toNat_natCast, Int.toNat_natCast, List.range_succ, List.map_append]
  congr 1
  · refine List.map_congr_left fun k hk => ?_
    rw [List.mem_range] at hk
    rw [e4, if_neg (by omega)]
  · show [((mPut S i t).1 24 (600 * i + q)).toNat] = [t.toNat]
    rw [e4, if_pos rfl]
theorem qL_put' {S : Ms} {i i' q : Nat} {t : Int} (hi : i ≠ i') (hq : S.1 25 i = (q : Int)) (hq6 : q < 600) (h6 : S.1 25 i' ≤ 600) : qL (mPut S i t) i' = qL S i' := by
  refine qL_ext ?_ fun k hk => ?_
  · unfold mPut; rw [sp_j _ _ _ (by omega), sp_k _ _ _ _ (by decide)]
  · unfold mPut; rw [sp_k _ _ _ _ (by decide), hq, Int.toNat_natCast, sp_j _ _ _ (by omega)]
theorem qL_pull {S : Ms} {i k q : Nat} (hq : S.1 25 i = (q : Int)) (hk : k < q) : qL (mPull S i k) i = (qL S i).eraseIdx k := by
  have hl : (qL S i).length = q := by rw [qL_len, hq, Int.toNat_natCast]
  refine List.ext_getElem ?_ fun n h1 h2 => ?_
  · rw [qL_len, mPull_25, if_pos rfl, List.length_eraseIdx_of_lt (by omega), hl]; omega
  · rw [List.length_eraseIdx_of_lt (by omega), hl] at h2
    rw [qL_at, List.getElem_eraseIdx, mPull_24 hq]
    by_cases h : n < k
    · rw [if_neg (by omega), dif_pos h, qL_at]
    · rw [if_pos (by omega), dif_neg h, qL_at, show 600 * i + n + 1 = 600 * i + (n + 1) by omega]
theorem qL_pull' {S : Ms} {i i' k q : Nat} (hi : i ≠ i') (hq : S.1 25 i = (q : Int)) (hk : k < q) (hq6 : q ≤ 600) (h6 : S.1 25 i' ≤ 600) : qL (mPull S i k) i' = qL S i' := by
  refine qL_ext ?_ fun n hn => ?_
  · rw [mPull_25, if_neg (by omega)]
  · rw [mPull_24 hq, if_neg (by omega)]
theorem qA_perm {S S' : Ms} {i : Nat} {l : List Nat} (hi : i < 4) (h : (qL S' i).Perm (l ++ qL S i)) (h' : ∀ i', i' < 4 → i ≠ i' → qL S' i' = qL S i') : (qA S').Perm (l ++ qA S) := by
  rw [List.perm_iff_count] at h ⊢
  intro a
  have e := h a
  unfold qA
  match i, hi with
  | 0, _ => rw [h' 1 (by decide) (by decide), h' 2 (by decide) (by decide), h' 3 (by decide) (by decide)]; simp only [List.count_append] at e ⊢; omega
  | 1, _ => rw [h' 0 (by decide) (by decide), h' 2 (by decide) (by decide), h' 3 (by decide) (by decide)]; simp only [List.count_append] at e ⊢; omega
  | 2, _ => rw [h' 0 (by decide) (by decide), h' 1 (by decide) (by decide), h' 3 (by decide) (by decide)]; simp only [List.count_append] at e ⊢; omega
  | 3, _ => rw [h' 0 (by decide) (by decide), h' 1 (by decide) (by decide), h' 2 (by decide) (by decide)]; simp only [List.count_append] at e ⊢; omega
theorem perm_at {l : List Nat} {k : Nat} (h : k < l.length) : l.Perm (l[k] :: l.eraseIdx k) := by
  rw [List.eraseIdx_eq_take_drop_succ]
  have e : l = l.take k ++ l[k] :: l.drop (k + 1) := by rw [← List.drop_eq_getElem_cons h, List.take_append_drop]
  exact (List.Perm.of_eq e).trans List.perm_middle
theorem qA_put {S : Ms} {i q : Nat} {t : Int} (hi : i < 4) (hq : S.1 25 i = (q : Int)) (hq6 : q < 600) (h6 : ∀ i', i' < 4 → S.1 25 i' ≤ 600) : (qA (mPut S i t)).Perm (t.toNat :: qA S) :=
  qA_perm (l := [t.toNat]) hi (by rw [qL_put hi hq]; exact List.perm_append_comm) fun i' h1 h2 => qL_put' h2 hq hq6 (h6 i' h1)
theorem qA_pull {S : Ms} {i k q : Nat} (hi : i < 4) (hq : S.1 25 i = (q : Int)) (hk : k < q) (h6 : ∀ i', i' < 4 → S.1 25 i' ≤ 600) : (qA S).Perm ((S.1 24 (600 * i + k)).toNat :: qA (mPull S i k)) := by
  refine qA_perm (l := [(S.1 24 (600 * i + k)).toNat]) hi ?_ fun i' h1 h2 => (qL_pull' h2 hq hk (by have := h6 i hi; omega) (h6 i' h1)).symm
  have hl : k < (qL S i).length := by rw [qL_len, hq, Int.toNat_natCast]; exact hk
  rw [qL_pull hq hk, ← qL_at hl]
  exact perm_at hl
theorem qA_ext {S S' : Ms} (h5 : ∀ i, i < 4 → S'.1 25 i = S.1 25 i) (h4 : ∀ k, S'.1 24 k = S.1 24 k) : qA S' = qA S := by
  unfold qA
  rw [qL_ext (h5 0 (by decide)) (fun k _ => h4 _), qL_ext (h5 1 (by decide)) (fun k _ => h4 _), qL_ext (h5 2 (by decide)) (fun k _ => h4 _), qL_ext (h5 3 (by decide)) (fun k _ => h4 _)]
theorem qA_mem {S : Ms} {t : Nat} : t ∈ qA S ↔ ∃ i, i < 4 ∧ t ∈ qL S i := by
  unfold qA
  simp only [List.mem_append]
  constructor
  · rintro (h | h | h | h)
    · exact ⟨0, by decide, h⟩
    · exact ⟨1, by decide, h⟩
    · exact ⟨2, by decide, h⟩
    · exact ⟨3, by decide, h⟩
  · rintro ⟨i, hi, h⟩
    match i, hi with
    | 0, _ => exact Or.inl h
    | 1, _ => exact Or.inr (Or.inl h)
    | 2, _ => exact Or.inr (Or.inr (Or.inl h))
    | 3, _ => exact Or.inr (Or.inr (Or.inr h))
theorem qL_mem {S : Ms} {i t : Nat} : t ∈ qL S i ↔ ∃ k : Nat, (k : Int) < S.1 25 i ∧ (S.1 24 (600 * i + k)).toNat = t := by
  unfold qL
  simp only [List.mem_map, List.mem_range]
  constructor
  · rintro ⟨k, h1, h2⟩; exact ⟨k, by omega, h2⟩
  · rintro ⟨k, h1, h2⟩; exact ⟨k, by omega, h2⟩
theorem nodup_len : ∀ (n : Nat) (l : List Nat), l.Nodup → (∀ x ∈ l, x < n) → l.length ≤ n := by
  intro n
  induction n with
  | zero =>
    intro l _ h
    cases l with
    | nil => simp
    | cons a l => exact absurd (h a (by simp)) (by omega)
  | succ n ih =>
    intro l h1 h2
    by_cases hn : n ∈ l
    · have := ih (l.erase n) (h1.erase n) (fun x hx => by
        rw [h1.mem_erase_iff] at hx
        have := h2 x hx.2
        omega)
      rw [List.length_erase_of_mem hn] at this
      omega
    · have := ih l h1 (fun x hx => by
        have := h2 x hx
        have : x ≠ n := fun e => hn (e ▸ hx)
        omega)
      omega

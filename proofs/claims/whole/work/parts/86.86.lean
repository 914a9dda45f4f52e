/-! WHAT EVERY CALL KEEPS; WHAT IT MAY COST -/
def Lam (S : Ms) : Int := Ph S + 94 * (12 - S.1 14 0)
theorem Lam.nn {S : Ms} (h : Inv3 S) : 0 ≤ Lam S ∧ Lam S ≤ 2256 := by
  have h1 := h.1.1.nn.2
  have h2 := h.1.1.1.2.2.1
  have h3 := h.1.1.ph
  unfold Lam; omega
def Gd (S S' : Ms) : Prop := Inv3 S' ∧ Lam S' ≤ Lam S ∧ Ph S - Ph S' ≤ Lam S - Lam S'
theorem Gd.of {S S' : Ms} (h : Inv3 S') (hp : Ph S' ≤ Ph S) (h14 : S'.1 14 0 = S.1 14 0) : Gd S S' := ⟨h, by unfold Lam; rw [h14]; omega, by unfold Lam; rw [h14]; omega⟩
theorem Gd.th {S : Ms} (h : Inv3 S) (x y : Int) : Gd S (sp (sp S 0 0 x) 0 0 y) := Gd.of ((h.th x).th y) (by rw [Ph_th, Ph_th]; exact Int.le_refl _) rfl
theorem Gd.th1 {S : Ms} (h : Inv3 S) (x : Int) : Gd S (sp S 0 0 x) := Gd.of (h.th x) (by rw [Ph_th]; exact Int.le_refl _) rfl
theorem gd_array {S : Ms} (h : Inv3 S) (a ty len : Int) : Gd S (mArray S a ty len).2 := by
  have h2 := h.1.array a ty len
  unfold mArray at h2 ⊢
  by_cases c1 : (0 ≤ a ∧ a ≤ 3) ∧ (0 ≤ ty ∧ ty ≤ 5) ∧ (1 ≤ len ∧ len ≤ 24)
  · rw [if_neg (fun q => q c1)] at h2 ⊢
    by_cases c2 : mBusy S a
    · rw [if_pos c2]; exact Gd.th h 0 2
    · rw [if_neg c2] at h2 ⊢
      obtain ⟨-, z1, z2, z3⟩ := zer_eq (a := a.toNat) 24 0 (sp (sp (sp S 0 0 0) 2 a.toNat ty) 3 a.toNat len) (by omega)
      have e : ∀ c, c ≠ 0 → c ≠ 2 → c ≠ 3 → (zerF a.toNat 0 24 (sp (sp (sp S 0 0 0) 2 a.toNat ty) 3 a.toNat len)).1 c = S.1 c := fun c n0 n1 n2 => by rw [z1, spf _ _ _ _ n2, spf _ _ _ _ n1, spf _ _ _ _ n0]
      refine Gd.of ⟨h2, h.2.ext (e 13 (by decide) (by decide) (by decide)) (e 15 (by decide) (by decide) (by decide)) (e 23 (by decide) (by decide) (by decide)) (fun x _ => by rw [z2 21 (by decide)]; rfl) (by rw [z2 22 (by decide)]; rfl)⟩ ?_ (by show (zerF a.toNat 0 24 (sp (sp (sp S 0 0 0) 2 a.toNat ty) 3 a.toNat len)).1 14 0 = _; rw [e 14 (by decide) (by decide) (by decide)])
      show Ph (zerF a.toNat 0 24 (sp (sp (sp S 0 0 0) 2 a.toNat ty) 3 a.toNat len)) ≤ Ph S
      rw [Ph_eq (S := S) (qA_ext (fun i _ => by rw [e 25 (by decide) (by decide) (by decide)]) (fun k => by rw [e 24 (by decide) (by decide) (by decide)])) (fun c hc => e c (by omega) (by omega) (by omega))]
      exact Int.le_refl _
  · rw [if_pos c1]; exact Gd.th h 0 1
theorem gd_set {S : Ms} (h : Inv3 S) (a i : Int) (v : Int64) : Gd S (mSet S a i v).2 := by
  have h2 := h.1.set a i v
  unfold mSet at h2 ⊢
  by_cases c1 : mNoEl S a i
  · rw [if_pos c1]; exact Gd.th h 0 1
  · rw [if_neg c1] at h2 ⊢
    by_cases c2 : mBusy S a
    · rw [if_pos c2]; exact Gd.th h 0 2
    · rw [if_neg c2] at h2 ⊢
      refine Gd.of ⟨h2, h.2.ext rfl rfl rfl (fun _ _ => rfl) rfl⟩ ?_ rfl
      show Ph (sq (sp S 0 0 0) 4 (24 * a.toNat + i.toNat) (keptF (S.1 2 a.toNat) v)) ≤ Ph S
      rw [Ph_of1 (S := sp S 0 0 0) (S' := sq (sp S 0 0 0) 4 (24 * a.toNat + i.toNat) (keptF (S.1 2 a.toNat) v)) rfl, Ph_th]
      exact Int.le_refl _
theorem gd_get {S : Ms} (h : Inv3 S) (a i : Int) : Gd S (mGet S a i).2 := by
  unfold mGet
  by_cases c1 : mNoEl S a i
  · rw [if_pos c1]; exact Gd.th h 0 1
  · rw [if_neg c1]; exact Gd.th1 h 0
theorem gd_begin {S : Ms} (h : Inv3 S) (k a i c d : Int) : Gd S (mBegin S k a i c d).2 := by
  have h2 := (h.1.begin k a i c d).1
  have hJ := h.1.1.1.2.2.1
  have hTn := h.1.1.1.2.2.2.2.1
  unfold mBegin at h2 ⊢
  by_cases c1 : (0 ≤ a ∧ a ≤ 3) ∧ 0 ≤ S.1 2 a.toNat
  · rw [if_neg (fun q => q c1)] at h2 ⊢
    by_cases c2 : (0 ≤ k ∧ k ≤ 5) ∧ (0 ≤ i ∧ i ≤ S.1 1 0 - 1) ∧ (-1000 ≤ c ∧ c ≤ 1000) ∧ (-1000 ≤ d ∧ d ≤ 1000)
    · rw [if_neg (fun q => q c2)] at h2 ⊢
      by_cases c3 : mBusy S a ∨ S.1 14 0 = 12
      · rw [if_pos c3]; exact Gd.th h 0 3
      · rw [if_neg c3] at h2 ⊢
        obtain ⟨j0, hj⟩ := Int.eq_ofNat_of_zero_le hJ.1
        obtain ⟨n0, hn⟩ := Int.eq_ofNat_of_zero_le hTn.1
        obtain ⟨a', ha'⟩ := Int.eq_ofNat_of_zero_le c1.1.1
        obtain ⟨i', hi'⟩ := Int.eq_ofNat_of_zero_le c2.2.1.1
        subst ha' hi'
        rw [hj, hn, Int.toNat_natCast, Int.toNat_natCast] at h2 ⊢
        obtain ⟨p1, p2⟩ := begin_ok (h.th 0) (j := j0) (n0 := n0) (a := a') (i := i') k c d hn hj (by omega) (by show (i' : Int) < S.1 1 0; omega)
        rw [Ph_th] at p1
        obtain ⟨-, -, -, -, -, g14, -⟩ := mBg_f (sp S 0 0 0) j0 n0 a' k c d hn hj
        have e14 : (mPut (mBg (sp S 0 0 0) j0 k a' c d) i' n0).1 14 0 = S.1 14 0 + 1 := by rw [mPut_c _ _ _ _ (by decide) (by decide), g14, hj]; omega
        refine ⟨⟨h2, p2⟩, ?_, ?_⟩
        · show Lam (mPut (mBg (sp S 0 0 0) j0 k a' c d) i' n0) ≤ Lam S
          unfold Lam; rw [e14]; omega
        · show Ph S - Ph (mPut (mBg (sp S 0 0 0) j0 k a' c d) i' n0) ≤ Lam S - Lam (mPut (mBg (sp S 0 0 0) j0 k a' c d) i' n0)
          unfold Lam; rw [e14]; omega
    · rw [if_pos c2]; exact Gd.th h 0 2
  · rw [if_pos c1]; exact Gd.th h 0 1
theorem stF_3 : ∀ (n b : Nat) (S : Ms), Inv3 S → Inv3 (stF n b S).2 ∧ Ph (stF n b S).2 ≤ Ph S ∧ (stF n b S).2.1 14 0 = S.1 14 0 := by
  intro n
  induction n with
  | zero => intro b S h; exact ⟨h, Int.le_refl _, rfl⟩
  | succ n ih =>
    intro b S h
    obtain ⟨a1, a2, a3⟩ := ih (b + (if (mTurns S).1 then 1 else 0)) (mTurns S).2 (turns3 h)
    obtain ⟨o1, o2, o3, o4⟩ := turns_ok h.1.1
    refine ⟨a1, ?_, ?_⟩
    · show Ph (stF n (b + (if (mTurns S).1 then 1 else 0)) (mTurns S).2).2 ≤ _
      cases hb : (mTurns S).1
      · have := (o4 hb).2.2; rw [hb] at a2; omega
      · have := o3 hb; rw [hb] at a2; omega
    · show (stF n (b + (if (mTurns S).1 then 1 else 0)) (mTurns S).2).2.1 14 0 = _
      rw [a3, o2 14 (by simp)]
theorem gd_step {S : Ms} (h : Inv3 S) (n : Int) : Gd S (mStep S n).2 := by
  unfold mStep
  by_cases c1 : 1 ≤ n ∧ n ≤ 60
  · rw [if_neg (fun q => q c1)]
    obtain ⟨a1, a2, a3⟩ := stF_3 n.toNat 0 (sp S 0 0 0) (h.th 0)
    rw [Ph_th] at a2
    exact Gd.of a1 a2 a3
  · rw [if_pos c1]; exact Gd.th h 0 1
theorem jnF_3 (j : Nat) : ∀ (f n : Nat) (S : Ms), Inv3 S → Inv3 (jnF j f n S).2 ∧ Ph (jnF j f n S).2 ≤ Ph S ∧ (jnF j f n S).2.1 14 0 = S.1 14 0 := by
  intro f
  induction f with
  | zero => intro b S h; exact ⟨h, Int.le_refl _, rfl⟩
  | succ f ih =>
    intro n S h
    rw [jnF]
    split
    · obtain ⟨a1, a2, a3⟩ := ih (n + 1) (mTurns S).2 (turns3 h)
      obtain ⟨o1, o2, o3, o4⟩ := turns_ok h.1.1
      refine ⟨a1, ?_, by rw [a3, o2 14 (by simp)]⟩
      cases hb : (mTurns S).1
      · have := (o4 hb).2.2; omega
      · have := o3 hb; omega
    · exact ⟨h, Int.le_refl _, rfl⟩
theorem gd_join {S : Ms} (h : Inv3 S) (j : Int) : Gd S (mJoin S j).2 := by
  unfold mJoin
  by_cases c1 : 0 ≤ j ∧ j < S.1 14 0
  · rw [if_neg (fun q => q c1)]
    obtain ⟨a1, a2, a3⟩ := jnF_3 j.toNat 1200 0 (sp S 0 0 0) (h.th 0)
    rw [Ph_th] at a2
    split
    · exact Gd.of (a1.th 2) (by show Ph (sp _ 0 0 2) ≤ _; rw [Ph_th]; exact a2) a3
    · exact Gd.of a1 a2 a3
  · rw [if_pos c1]; exact Gd.th h 0 1
theorem gd_result {S : Ms} (h : Inv3 S) (j : Int) : Gd S (mResult S j).2 := by
  unfold mResult
  split
  · exact Gd.th h 0 1
  · split
    · exact Gd.th h 0 2
    · split
      · exact Gd.th1 h 0
      · exact Gd.th h 0 3
theorem gd_cancel {S : Ms} (h : Inv3 S) (j : Int) : Gd S (mCancel S j).2 := by
  have h2 := h.1.cancel j
  unfold mCancel at h2 ⊢
  split at h2
  · rename_i c1
    rw [if_pos c1]; exact Gd.th h 0 1
  · rename_i c1
    rw [if_neg c1]
    split at h2
    · rename_i c2
      rw [if_pos c2]; exact Gd.th h 0 2
    · rename_i c2
      rw [if_neg c2]
      obtain ⟨⟨⟨hB, hE, ⟨L, hT⟩, -⟩, -⟩, hZ⟩ := h.th 0
      obtain ⟨⟨-, -, -, -, o5, o6⟩, e2⟩ := end_ok (S := sp S 0 0 0) (L := L) (X := X0) j.toNat (-1) hB hE hT (fun x hx => absurd hx (fun z => z))
      obtain ⟨-, -, q2, -, q4⟩ := mEnd_q (S := sp S 0 0 0) hB hE j.toNat (-1)
      have f : ∀ c, c ≠ 24 → c ≠ 25 → c ≠ 9 → c ≠ 10 → (mEnd (sp S 0 0 0) j.toNat (-1)).1 c = (sp S 0 0 0).1 c := fun c h1 h2 h3 h4 => by
        funext x; rw [q4 c x h1 h2, sp_k _ _ _ _ h4, sp_k _ _ _ _ h3]
      refine Gd.of ⟨h2, hZ.ext (f 13 (by decide) (by decide) (by decide) (by decide)) (f 15 (by decide) (by decide) (by decide) (by decide)) (f 23 (by decide) (by decide) (by decide) (by decide)) (fun _ _ => by show (mEnd (sp S 0 0 0) j.toNat (-1)).2 21 _ = _; rw [q2]) (by show (mEnd (sp S 0 0 0) j.toNat (-1)).2 22 = _; rw [q2])⟩ ?_ ?_
      · rw [Ph_th] at o5
        show Ph (mEnd (sp S 0 0 0) j.toNat (-1)) ≤ Ph S
        omega
      · show (mEnd (sp S 0 0 0) j.toNat (-1)).1 14 0 = _
        rw [f 14 (by decide) (by decide) (by decide) (by decide)]; rfl
theorem gd_job {S : Ms} (h : Inv3 S) (j q : Int) : Gd S (mJob S j q).2 := by
  unfold mJob
  repeat' split
  all_goals first | exact Gd.th1 h 0 | exact Gd.th h 0 1 | exact Gd.th h 0 2
theorem gd_task {S : Ms} (h : Inv3 S) (i k q : Int) : Gd S (mTask S i k q).2 := by
  unfold mTask
  repeat' split
  all_goals first | exact Gd.th1 h 0 | exact Gd.th h 0 1 | exact Gd.th h 0 2
theorem gd_worker {S : Ms} (h : Inv3 S) (i q : Int) : Gd S (mWorker S i q).2 := by
  unfold mWorker
  repeat' split
  all_goals first | exact Gd.th1 h 0 | exact Gd.th h 0 1 | exact Gd.th h 0 2
theorem gd_grain {S : Ms} (h : Inv3 S) (g : Int) : Gd S (mGrain S g).2 := by
  have h2 := h.1.grain g
  unfold mGrain at h2 ⊢
  split at h2
  · rename_i c
    rw [if_pos c]; exact Gd.th h 0 1
  · rename_i c
    rw [if_neg c]
    refine Gd.of ⟨h2, h.2.ext rfl rfl rfl (fun _ _ => rfl) rfl⟩ ?_ rfl
    show Ph (sp (sp S 0 0 0) 30 0 g) ≤ Ph S
    rw [Ph_eq (S := sp S 0 0 0) (S' := sp (sp S 0 0 0) 30 0 g) rfl fun c hc => by funext j; exact sp_k _ _ _ _ (by omega), Ph_th]
    exact Int.le_refl _
theorem gd_count {S : Ms} (h : Inv3 S) (q : Int) : Gd S (mCount S q).2 := by
  unfold mCount
  repeat' split
  all_goals first | exact Gd.th1 h 0 | exact Gd.th h 0 1

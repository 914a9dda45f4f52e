/-! A TASK IS OVER: all the way up -/
theorem mSwap_2 (S : Ms) (k c : Nat) (h : c ≠ 4) : (mSwap S k).2 c = S.2 c := by funext j; unfold mSwap; rw [sq_k _ _ _ _ h, sq_k _ _ _ _ h]
theorem insF_2 (lo c : Nat) (h : c ≠ 4) : ∀ (k : Nat) (S : Ms), (insF lo k S).2 c = S.2 c := by
  intro k
  induction k with
  | zero => intro S; rfl
  | succ k ih =>
    intro S; rw [insF]
    split
    · rw [ih, mSwap_2 _ _ _ h]
    · rfl
theorem ordF_2 (lo c : Nat) (h : c ≠ 4) : ∀ (n i : Nat) (S : Ms), (ordF lo i n S).2 c = S.2 c := by
  intro n
  induction n with
  | zero => intro i S; rfl
  | succ n ih => intro i S; show (ordF lo (i + 1) n (insF lo i S)).2 c = S.2 c; rw [ih, insF_2 _ _ h]
theorem mOrder_2 (S : Ms) (a lo hi c : Nat) (h : c ≠ 4) : (mOrder S a lo hi).2 c = S.2 c := ordF_2 _ _ h _ _ _
theorem of1_ {S S' : Ms} (e : S'.1 = S.1) : S' = (S.1, S'.2) := Prod.ext e rfl
theorem P1_of1 {S S' : Ms} (e : S'.1 = S.1) : P1 S' = P1 S := by rw [of1_ e]; rfl
theorem Ph_of1 {S S' : Ms} (e : S'.1 = S.1) : Ph S' = Ph S := by
  have h : ∀ n, sc (S.1, S'.2) n = sc S n := fun n => sc_congr n fun _ _ => rfl
  rw [of1_ e]
  show sumI (w2 S) (qA S) + sc (S.1, S'.2) (S.1 14 0).toNat = sumI (w2 S) (qA S) + sc S (S.1 14 0).toNat
  rw [h]
theorem QE.of1 {S S' : Ms} (h : QE S) (e : S'.1 = S.1) : QE S' := by rw [of1_ e]; exact h
/-- the numbers that a step leaves alone -/
def Kp (S S' : Ms) : Prop := ∀ c, c = 1 ∨ c = 2 ∨ c = 3 ∨ c = 5 ∨ c = 6 ∨ c = 7 ∨ c = 8 ∨ c = 12 ∨ c = 14 ∨ c = 30 → S'.1 c = S.1 c
theorem Kp.rf {S : Ms} : Kp S S := fun _ _ => rfl
theorem Kp.tr {S S' S'' : Ms} (h : Kp S S') (h' : Kp S' S'') : Kp S S'' := fun c hc => (h' c hc).trans (h c hc)
theorem Kp.of1 {S S' : Ms} (e : S'.1 = S.1) : Kp S S' := fun c _ => by rw [e]
def Ok (S S' : Ms) (a b : Int) : Prop := Bi S' ∧ QE S' ∧ (∃ L, Tr S' L X0) ∧ P1 S' ≤ P1 S + a ∧ Ph S' ≤ Ph S + b ∧ Kp S S'
theorem fin_ok (i j : Nat) : ∀ (n k : Nat) (S : Ms) (L : Nat → Prop), k < n → Bi S → QE S → Tr S L (fun x => x = k) → mOf S k = j → (i : Int) < S.1 1 0 → S.1 25 i < 600 → Ok S (finF i j n k S) 0 0 := by
  intro n
  induction n with
  | zero => intro k S L h; exact absurd h (by omega)
  | succ n ih =>
    intro k S L hkn hB hE hT hj hi hq
    have hi4 : i < 4 := by have := hB.1.2; omega
    rw [finF_succ]
    by_cases hp : S.1 18 k < 0
    · rw [if_pos hp]
      obtain ⟨r1, r2⟩ := hT.root hB hp
      obtain ⟨t1, t2, t3, t4, t5, t6, t7⟩ := id hT
      obtain ⟨x1, x2, x3⟩ := t5 k rfl
      obtain ⟨y1, y2, -⟩ := t3 k x1
      have nj : ∀ x ∈ qA S, mOf S x ≠ j := fun x hx e => by
        have := r2 x (t6.2 x hx).1 (by rw [e, hj])
        exact x2 (this ▸ hx)
      obtain ⟨hjn, -, hjo⟩ := hB.job y1
      rw [hj] at hjn y2 hjo
      unfold finE
      by_cases hc : ¬ S.1 5 j = 2 ∨ S.1 13 j = 2
      · rw [if_pos hc]
        refine ⟨Bi_state hB j 1 (by omega), hE, ⟨_, Tr.retire j hB hT (fun x hx => by rw [hx, hj]) ?_ ?_ ?_ ?_ rfl⟩, ?_, ?_, ?_⟩
        · intro c hc; funext x; exact sp_k _ _ _ _ (by omega)
        · intro jj hjj; exact sp_j _ _ _ hjj
        · rw [sp_same]; omega
        · show qA S = _
          refine (List.filter_eq_self.mpr fun x hx => ?_).symm
          unfold notOf
          have h1 := nj x hx
          have h2 := (hB.job (hB.qm hx)).2.2
          simp; omega
        · show P1 S ≤ P1 S + 0; omega
        · show sumI (w2 S) (qA S) + sc (sp S 9 j 1) (S.1 14 0).toNat ≤ sumI (w2 S) (qA S) + sc S (S.1 14 0).toNat + 0
          have := sc_le (S := S) (S' := sp S 9 j 1) (S.1 14 0).toNat fun jj _ => by
            unfold scw
            by_cases e : jj = j
            · subst e; rw [sp_same, if_neg (by omega)]; split <;> omega
            · rw [sp_j _ _ _ e, sp_k _ _ _ _ (by decide), sp_k _ _ _ _ (by decide)]; exact Int.le_refl _
          omega
        · intro c hc; funext x; exact sp_k _ _ _ _ (by omega)
      · rw [if_neg hc]
        have k2 : S.1 5 j = 2 := by omega
        have rd := hB.rd y1
        rw [hj] at rd
        have rd1 : S.1 13 j = 1 := by omega
        have hB2 : Bi (sq (sp S 13 j 2) 22 k 0) := Bi_round hB j 2 (by omega)
        have hqS : S.1 25 i = (((S.1 25 i).toNat : Nat) : Int) := by have := hB.q0 i hi4; omega
        have hqP : (qA (mPut (sq (sp S 13 j 2) 22 k 0) i k)).Perm (k :: qA S) := qA_put (S := sq (sp S 13 j 2) 22 k 0) (i := i) (q := (S.1 25 i).toNat) (t := (k : Int)) hi4 hqS (by omega) (fun i' hi' => hB.q6 i' hi')
        have eO : mOf (mPut (sq (sp S 13 j 2) 22 k 0) i k) = mOf S := rfl
        have e13 : ∀ jj, (mPut (sq (sp S 13 j 2) 22 k 0) i k).1 13 jj = (sp S 13 j 2).1 13 jj := fun jj => mPut_c _ _ _ _ (by decide) (by decide)
        have eL : lenT (mPut (sq (sp S 13 j 2) 22 k 0) i k) = lenT S := rfl
        refine ⟨Bi_put hB2 hi4 hq ⟨by omega, y1⟩, ?_, ⟨L, Tr.again hB hT hp ?_ ?_ ?_ ?_ hqP ?_⟩, ?_, ?_, ?_⟩
        · intro i' h1 h2
          rw [mPut_25]
          have h2' : S.1 1 0 ≤ (i' : Int) := h2
          rw [if_neg (by omega)]
          exact hE i' h1 h2'
        · intro c hc
          funext x
          rw [mPut_c _ _ _ _ (by omega) (by omega)]
          exact sp_k _ _ _ _ (by omega)
        · intro jj hjj
          rw [e13]; exact sp_j _ _ _ (by rw [← hj]; exact hjj)
        · rw [hj, e13]; exact sp_same _ _ _ _
        · rw [hj]; exact k2
        · rfl
        · show (S.1 23 0) + sumI _ _ ≤ S.1 23 0 + sumI (w1 S) (qA S) + 0
          rw [sumI_perm _ hqP, sumI_cons]
          have a1 : w1 (mPut (sq (sp S 13 j 2) 22 k 0) i k) k = 0 := by
            unfold w1
            rw [eO, hj, e13, sp_same, if_neg (by omega)]
          rw [a1, sumI_congr (g := w1 S) fun x hx => ?_]
          · omega
          · unfold w1; rw [eO, e13, sp_j _ _ _ (nj x hx), eL]
        · have hlen := (hB.len y1).2
          show sumI _ _ + sc _ (S.1 14 0).toNat ≤ sumI (w2 S) (qA S) + sc S (S.1 14 0).toNat + 0
          rw [sumI_perm _ hqP, sumI_cons]
          have a2 : w2 (mPut (sq (sp S 13 j 2) 22 k 0) i k) = w2 S := rfl
          rw [a2]
          have a3 : w2 S k ≤ 47 := by unfold w2; omega
          have := sc_at (S := S) (S' := mPut (sq (sp S 13 j 2) 22 k 0) i k) (j := j) (x := 47) (by
            unfold scw
            rw [e13, sp_same, if_neg (by omega), if_pos ⟨y2, k2, rd1⟩]; omega) (S.1 14 0).toNat (by omega) (fun jj _ hjj => by
            unfold scw; rw [e13, sp_j _ _ _ hjj]; rfl)
          omega
        · intro c hc
          funext x
          rw [mPut_c _ _ _ _ (by omega) (by omega)]
          exact sp_k _ _ _ _ (by omega)
    · rw [if_neg hp]
      obtain ⟨p1, p2, p3, p4, p5, p6, p7, p8, p9, p10, p11⟩ := hT.par hB (by omega)
      have hpa : (S.1 18 k).toNat = paT S k := rfl
      rw [hpa]
      by_cases h0 : S.1 20 (paT S k) = 0
      · rw [h0, if_pos (by decide)]
        refine ⟨Bi_over hB _ _ (by omega), hE, ⟨_, hT.up hB (by omega) h0 (AgT.of fun c h1 _ _ _ _ _ _ _ _ _ _ _ _ x => sp_k _ _ _ _ h1) (sp_same _ _ _ _) (fun t ht => sp_j _ _ _ ht) rfl rfl⟩, ?_, ?_, ?_⟩
        · show P1 S ≤ P1 S + 0; omega
        · have : Ph (sp S 20 (paT S k) (0 + 1)) = Ph S := by
            unfold Ph
            rw [sc_congr (S := S) (S' := sp S 20 (paT S k) (0 + 1)) _ fun _ _ => rfl]
            rfl
          omega
        · intro c hc; funext x; exact sp_k _ _ _ _ (by omega)
      · have h1 : S.1 20 (paT S k) = 1 := by
          rcases p11 with ⟨q, -⟩ | ⟨q, -⟩
          · exact absurd q h0
          · exact q
        rw [h1, if_neg (by decide)]
        have e1 : (finJ (sp S 20 (paT S k) (1 + 1)) j (paT S k)).1 = (sp S 20 (paT S k) (1 + 1)).1 := finJ_1 _ _ _
        have hB2 : Bi (finJ (sp S 20 (paT S k) (1 + 1)) j (paT S k)) := (Bi_over hB _ _ (by omega)).of1 e1
        have eR : ∀ x, (finJ (sp S 20 (paT S k) (1 + 1)) j (paT S k)).2 21 x = if x = paT S k ∧ S.1 13 j = 1 ∧ S.1 5 j < 3 then joinF S j (S.2 21 (chT S (paT S k))) (S.2 21 (chT S (paT S k) + 1)) else S.2 21 x := by
          intro x
          have inner : ∀ T : Ms, T.2 21 x = (if (sp S 20 (paT S k) (1 + 1)).1 13 j = 1 ∧ (sp S 20 (paT S k) (1 + 1)).1 5 j < 3 then sq (sp S 20 (paT S k) (1 + 1)) 21 (paT S k) (joinF (sp S 20 (paT S k) (1 + 1)) j ((sp S 20 (paT S k) (1 + 1)).2 21 ((sp S 20 (paT S k) (1 + 1)).1 19 (paT S k)).toNat) ((sp S 20 (paT S k) (1 + 1)).2 21 (((sp S 20 (paT S k) (1 + 1)).1 19 (paT S k)).toNat + 1))) else sp S 20 (paT S k) (1 + 1)).2 21 x → T.2 21 x = if x = paT S k ∧ S.1 13 j = 1 ∧ S.1 5 j < 3 then joinF S j (S.2 21 (chT S (paT S k))) (S.2 21 (chT S (paT S k) + 1)) else S.2 21 x := by
            intro T hT
            rw [hT]
            by_cases c : S.1 13 j = 1 ∧ S.1 5 j < 3
            · rw [if_pos (show (sp S 20 (paT S k) (1 + 1)).1 13 j = 1 ∧ (sp S 20 (paT S k) (1 + 1)).1 5 j < 3 from c)]
              by_cases e : x = paT S k
              · rw [e, sq_same, if_pos ⟨rfl, c⟩]; rfl
              · rw [sq_j _ _ _ e, if_neg (fun z => e z.1)]; rfl
            · rw [if_neg (show ¬ ((sp S 20 (paT S k) (1 + 1)).1 13 j = 1 ∧ (sp S 20 (paT S k) (1 + 1)).1 5 j < 3) from c), if_neg (fun z => c z.2)]; rfl
          unfold finJ
          simp only
          split
          · exact inner _ (by rw [mOrder_2 _ _ _ _ _ (by decide)])
          · exact inner _ rfl
        have hT2 := hT.up2 (S' := finJ (sp S 20 (paT S k) (1 + 1)) j (paT S k)) hB (by omega) h0 (fun c hc => by rw [e1]; funext x; exact sp_k _ _ _ _ (by omega)) (fun t ht => by rw [e1]; exact sp_j _ _ _ ht) (by rw [of1_ e1]; rfl) (fun t ht => by rw [eR, if_neg (fun z => ht z.1)]) (fun h2 => by funext x; rw [eR, if_neg (fun z => by rw [hj] at h2; omega)]) (fun h2 h3 => by rw [hj] at h2 h3 ⊢; rw [eR, if_pos ⟨rfl, h2, h3⟩])
        obtain ⟨o1, o2, o3, o4, o5, o6⟩ := ih (paT S k) (finJ (sp S 20 (paT S k) (1 + 1)) j (paT S k)) _ (by omega) hB2 (QE.of1 (S := sp S 20 (paT S k) (1 + 1)) hE e1) hT2 (by unfold mOf; rw [e1]; show mOf S (paT S k) = j; rw [p8, hj]) (by rw [e1]; exact hi) (by rw [e1]; exact hq)
        refine ⟨o1, o2, o3, ?_, ?_, ?_⟩
        · rw [P1_of1 e1] at o4; exact o4
        · rw [Ph_of1 e1] at o5
          have : Ph (sp S 20 (paT S k) (1 + 1)) = Ph S := by
            unfold Ph
            rw [sc_congr (S := S) (S' := sp S 20 (paT S k) (1 + 1)) _ fun _ _ => rfl]
            rfl
          omega
        · refine Kp.tr ?_ o6
          intro c hc
          rw [e1]
          funext x; exact sp_k _ _ _ _ (by omega)

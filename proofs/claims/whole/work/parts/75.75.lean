/-! THE POOL'S OWN METHODS, II -/
theorem fin_up {S : Ms} {L : Nat → Prop} {k j : Nat} (hB : Bi S) (hT : Tr S L (fun x => x = k)) (hp : 0 ≤ S.1 18 k) (hj : mOf S k = j) (h0 : ¬ S.1 20 (paT S k) = 0) : Tr (finJ (sp S 20 (paT S k) 2) j (paT S k)) (fun x => L x ∧ x ≠ k) (fun x => x = paT S k) := by
  have e1 : (finJ (sp S 20 (paT S k) 2) j (paT S k)).1 = (sp S 20 (paT S k) 2).1 := finJ_1 _ _ _
  have eR : ∀ x, (finJ (sp S 20 (paT S k) 2) j (paT S k)).2 21 x = if x = paT S k ∧ S.1 13 j = 1 ∧ S.1 5 j < 3 then joinF S j (S.2 21 (chT S (paT S k))) (S.2 21 (chT S (paT S k) + 1)) else S.2 21 x := by
    intro x
    have inner : ∀ T : Ms, T.2 21 x = (if (sp S 20 (paT S k) 2).1 13 j = 1 ∧ (sp S 20 (paT S k) 2).1 5 j < 3 then sq (sp S 20 (paT S k) 2) 21 (paT S k) (joinF (sp S 20 (paT S k) 2) j ((sp S 20 (paT S k) 2).2 21 ((sp S 20 (paT S k) 2).1 19 (paT S k)).toNat) ((sp S 20 (paT S k) 2).2 21 (((sp S 20 (paT S k) 2).1 19 (paT S k)).toNat + 1))) else sp S 20 (paT S k) 2).2 21 x → T.2 21 x = if x = paT S k ∧ S.1 13 j = 1 ∧ S.1 5 j < 3 then joinF S j (S.2 21 (chT S (paT S k))) (S.2 21 (chT S (paT S k) + 1)) else S.2 21 x := by
      intro T hT
      rw [hT]
      by_cases c : S.1 13 j = 1 ∧ S.1 5 j < 3
      · rw [if_pos (show (sp S 20 (paT S k) 2).1 13 j = 1 ∧ (sp S 20 (paT S k) 2).1 5 j < 3 from c)]
        by_cases e : x = paT S k
        · rw [e, sq_same, if_pos ⟨rfl, c⟩]; rfl
        · rw [sq_j _ _ _ e, if_neg (fun z => e z.1)]; rfl
      · rw [if_neg (show ¬ ((sp S 20 (paT S k) 2).1 13 j = 1 ∧ (sp S 20 (paT S k) 2).1 5 j < 3) from c), if_neg (fun z => c z.2)]; rfl
    unfold finJ
    simp only
    split
    · exact inner _ (by rw [mOrder_2 _ _ _ _ _ (by decide)])
    · exact inner _ rfl
  exact hT.up2 (S' := finJ (sp S 20 (paT S k) 2) j (paT S k)) hB hp h0 (fun c hc => by rw [e1]; funext x; exact sp_k _ _ _ _ (by omega)) (fun t ht => by rw [e1]; exact sp_j _ _ _ ht) (by rw [of1_ e1]; rfl) (fun t ht => by rw [eR, if_neg (fun z => ht z.1)]) (fun h2 => by funext x; rw [eR, if_neg (fun z => by rw [hj] at h2; omega)]) (fun h2 h3 => by rw [hj] at h2 h3 ⊢; rw [eR, if_pos ⟨rfl, h2, h3⟩])
theorem finJ_22 (S : Ms) (j p : Nat) : (finJ S j p).2 22 = S.2 22 := by
  unfold finJ
  simp only
  have key : ∀ T : Ms, T.2 22 = S.2 22 → (if S.1 5 j = 3 then mOrder T (mAt S j) (mLo S p) (mHi S p) else T).2 22 = S.2 22 := by
    intro T e; split
    · rw [mOrder_2 _ _ _ _ _ (by decide)]; exact e
    · exact e
  refine key _ ?_
  split
  · rfl
  · rfl
set_option maxRecDepth 20000 in
theorem m_endTask {G : fxG} (d : Nat) {A : Ad} {S : Ms} {w : fxW} {L : Nat → Prop} (h : Rc G A S w) (hB : Bi S) (hd1 : 9 ≤ d) {i j t : Nat} (hT : Tr S L (fun x => x = t)) (hi : (i : Int) < S.1 1 0) (hj : mOf S t = j) (hz : ∀ x : Nat, (x : Int) < S.1 23 0 → S.1 13 (mOf S x) = 1 → S.2 22 x = 0) (hq : S.1 25 i < 590) (t9 : fxt w + 1 ≤ fxmt G) (t8 : fxu w + 900 ≤ fxmu G) : fxM G d y_FP_endTask [.ref (A 0 0), .ref (A 4 t), .ref (A 5 i)] w (cRt G A S w none (finF i j (t + 1) t S) 1 900) := by
  refine fxM.of cc_FP_endTask 4 none [] (by decide +kernel) w_FP_endTask (Nat.le_of_ble_eq_true rfl) ?_
  intro x C ht hu
  generalize hQ : cRt G A S w none (finF i j (t + 1) t S) 1 900 = QQ
  have loop : ∀ (n k : Nat) (S1 : Ms) (w1 : fxW) (L1 : Nat → Prop), k < n → Rc G A S1 w1 → Bi S1 → Tr S1 L1 (fun x => x = k) → mOf S1 k = j → (∀ c, c ≠ 20 → S1.1 c = S.1 c) → (∀ x : Nat, (x : Int) < S1.1 23 0 → S1.1 13 (mOf S1 x) = 1 → S1.2 22 x = 0) → CF 0 0 w w1 → finF i j n k S1 = finF i j (t + 1) t S → fxR G 4 x (fxQ G x QQ) w1 2 [(3, .ref (A 4 k)), (0, .ref (A 0 0)), (1, .ref (A 4 t)), (2, .ref (A 5 i))] [] := by
    intro n
    induction n with
    | zero => intro k S1 w1 L1 hk; exact absurd hk (by omega)
    | succ n ih =>
      intro k S1 w1 L1 hk h1 hB1 hT1 hj1 e1 hz1 hC hE
      have x1 := (hT1.2.2.2.2.1 k rfl).1
      obtain ⟨y1, y2, -⟩ := hT1.2.2.1 k x1
      rw [hj1] at y2
      have T := h1.tk y1
      rw [finF_succ] at hE
      have hjr : ∀ j : Nat, (j : Int) < S1.1 14 0 → mOf S1 (rootT S1 j) = j := fun j hj => (hT1.1 j hj).1
      by_cases hp : S1.1 18 k < 0
      · rw [if_pos hp] at hE
        have f3 := T.2.2.1
        rw [if_pos hp] at f3
        obtain ⟨r1, -⟩ := hT1.root hB1 hp
        rw [hj1] at r1
        refine r_aload_n C d_FP_endTask_2 rfl rfl ?_
        refine g_FP_268 C d_FP_endTask_3 T.1 f3 ?_
        refine r_ifnullN (tgt := 43) C d_FP_endTask_6 (by decide) ?_
        have z9 := hC.2.1
        have z8 := hC.2.2.2.1
        refine r_aload_n C d_FP_endTask_43 rfl rfl ?_
        refine r_aload_n C d_FP_endTask_44 rfl rfl ?_
        refine r_aload_n C d_FP_endTask_45 rfl rfl ?_
        refine c_FP_277 C d_FP_endTask_46 h1.p0 (m_endRound 8 h1 hB1 (by omega) y1 (by rw [e1 1 (by decide)]; exact hi) hj1 y2 r1 (fun z => hz1 k y1 (by rw [hj1]; exact z)) (by rw [e1 25 (by decide)]; exact hq) (by omega) (by omega)) (by omega) (Nat.le_of_ble_eq_true rfl) (cRt.k1 fun w2 A2 g1 g2 g3 => ?_) cRt.k2
        rw [← hQ]
        refine r_return C d_FP_endTask_49 rfl ⟨rfl, A2, fun k x a b c d => g1 k x a b (fun e => by rw [e1 23 (by decide)]; exact c e) (fun e => by rw [e1 14 (by decide)]; exact d e), ?_, hC.tr0 g3⟩
        rw [← hE]; exact g2
      · rw [if_neg hp] at hE
        obtain ⟨p1, p2, p3, p4, p5, p6, p7, p8, p9, p10, p11⟩ := hT1.par hB1 (by omega)
        have f3 := T.2.2.1
        rw [if_neg hp] at f3
        rw [show (S1.1 18 k).toNat = paT S1 k from rfl] at hE
        have hpn : ((paT S1 k : Nat) : Int) < S1.1 23 0 := by omega
        have P := h1.tk hpn
        obtain ⟨o, o1, o2⟩ := P.2.2.2.2.2.2.2.1
        have o3 := o2 p9
        obtain ⟨b1, b2, b3, b4, b5, b6, b7, b8, b9, b10, -⟩ := hB1.2.2.2.2.2.1 _ hpn
        refine r_aload_n C d_FP_endTask_2 rfl rfl ?_
        refine g_FP_268 C d_FP_endTask_3 T.1 f3 ?_
        refine r_ifnull C d_FP_endTask_6 ?_
        refine r_aload_n C d_FP_endTask_9 rfl rfl ?_
        refine g_FP_268 C d_FP_endTask_10 T.1 f3 ?_
        refine r_astore_n (ls' := [(3, _), (0, _), (1, _), (2, _)]) C d_FP_endTask_13 rfl (by decide) rfl ?_
        refine r_aload_n C d_FP_endTask_14 rfl rfl ?_
        refine r_dup C d_FP_endTask_15 rfl ?_
        refine g_FP_271 C d_FP_endTask_16 P.1 o1 ?_
        refine r_iconst C d_FP_endTask_19 rfl ?_
        refine zr_isub C d_FP_endTask_20 ?_
        refine p_FP_271 C d_FP_endTask_21 rfl rfl P.1 ?_
        have f : ∀ g, g ≠ 198 → fxf (fx_put w1 198 (A 4 (paT S1 k)) (zi (o - 1))) g (A 4 (paT S1 k)) = fxf w1 g (A 4 (paT S1 k)) := fun g hg => fxf_putN _ _ (Or.inl hg)
        have h2 : Rc G A (sp S1 20 (paT S1 k) (S1.1 20 (paT S1 k) + 1)) (fx_put w1 198 (A 4 (paT S1 k)) (zi (o - 1))) := by
          obtain ⟨q1, q2, q3, q4, q5, q6, q7, q8, q9, q10⟩ := P
          refine h1.task _ (paT S1 k) 198 _ hpn (by omega) (fun c hc => spf _ _ _ _ hc) (fun x hx => sp_j _ _ _ hx) (fun k x hx => rfl) (Or.inl rfl) hB1 hjr ?_
          unfold TaskAt
          rw [f 192 (by decide), f 193 (by decide), f 194 (by decide), f 195 (by decide), f 196 (by decide), f 197 (by decide), f 199 (by decide), f 200 (by decide)]
          exact ⟨q1, q2, q3, q4, q5, q6, q7, ⟨o - 1, fxf_put _ _ _ _, fun _ => by rw [sp_same]; omega⟩, q9, q10⟩
        have hC2 : CF 0 0 w (fx_put w1 198 (A 4 (paT S1 k)) (zi (o - 1))) := hC.tr0 (CF_put P.1 (by decide))
        have P2 := h2.tk (t := paT S1 k) hpn
        have P3 : fxf (fx_put w1 198 (A 4 (paT S1 k)) (zi (o - 1))) 198 (A 4 (paT S1 k)) = zi (o - 1) := fxf_put _ _ _ _
        have P4 := P2.2.1
        rw [show mOf (sp S1 20 (paT S1 k) (S1.1 20 (paT S1 k) + 1)) (paT S1 k) = mOf S1 (paT S1 k) from rfl, p8, hj1] at P4
        generalize fx_put w1 198 (A 4 (paT S1 k)) (zi (o - 1)) = w2 at *
        refine r_aload_n C d_FP_endTask_24 rfl rfl ?_
        refine g_FP_271 C d_FP_endTask_25 P2.1 P3 ?_
        refine zr_if_le (tgt := 32) C d_FP_endTask_28 (by decide) (by unfold zok; omega) (fun c_28 => ?_) (fun c_28 => ?_)
        · have h1' : S1.1 20 (paT S1 k) = 1 := by
            rcases p11 with ⟨q, -⟩ | ⟨q, -⟩
            · omega
            · exact q
          rw [h1', if_neg (by decide), show (1 : Int) + 1 = 2 from rfl] at hE
          rw [h1', show (1 : Int) + 1 = 2 from rfl] at h2
          have hcc := hT1.2.1 _ hpn p9
          have J := h2.jb (j := j) (by have := (hB1.job y1).1; rw [hj1] at this; exact this)
          refine r_aload_n C d_FP_endTask_32 rfl rfl ?_
          refine g_FP_177 C d_FP_endTask_33 P2.1 P4 ?_
          refine r_aload_n C d_FP_endTask_36 rfl rfl ?_
          refine c_FP_274 C d_FP_endTask_37 J.1 (m_joinParts 2 h2 (Bi_over hB1 _ _ (by omega)) (by omega) hpn (by show mOf S1 (paT S1 k) = j; rw [p8, hj1]) p9 y2 hjr (fun a b => ?_) ⟨hcc.2.2.1, hcc.2.2.2.1⟩) (by omega) (Nat.le_of_ble_eq_true rfl) (cR0.k1 fun w3 g2 g3 => ?_) cR0.k2
          · have := hT1.2.2.2.2.2.2 _ hpn (by rw [p8]; exact p3) p9 (by rw [p8, hj1]; exact b) (Or.inl (by rw [p8, hj1]; exact a))
            rw [p8, hj1] at this
            exact this
          · refine r_goto (tgt := 2) C d_FP_endTask_40 (by decide) ?_
            have e3 : (finJ (sp S1 20 (paT S1 k) 2) j (paT S1 k)).1 = (sp S1 20 (paT S1 k) 2).1 := finJ_1 _ _ _
            refine ih (paT S1 k) _ w3 _ (by omega) g2 ((Bi_over hB1 _ _ (by omega)).of1 e3) (fin_up hB1 hT1 (by omega) hj1 (by omega)) (by unfold mOf; rw [e3]; show mOf S1 (paT S1 k) = j; rw [p8, hj1]) (fun c hc => by rw [e3, spf _ _ _ _ hc, e1 c hc]) ?_ (hC2.tr0 g3) hE
            intro y hy hy2
            rw [finJ_22]
            unfold mOf at hy2
            rw [e3] at hy hy2
            exact hz1 y hy hy2
        · have h1' : S1.1 20 (paT S1 k) = 0 := by omega
          rw [h1', if_pos (by decide)] at hE
          rw [h1'] at h2
          rw [← hQ]
          refine r_return C d_FP_endTask_31 rfl ⟨rfl, A, Ax.rf, ?_, hC2.wk (by omega) (by omega)⟩
          rw [← hE]; exact h2
  show fxR G 4 x _ w 0 [(0, .ref (A 0 0)), (1, .ref (A 4 t)), (2, .ref (A 5 i))] []
  refine r_aload_n C d_FP_endTask_0 rfl rfl ?_
  refine r_astore_n (ls' := [(3, _), (0, _), (1, _), (2, _)]) C d_FP_endTask_1 rfl (by decide) rfl ?_
  exact loop (t + 1) t S w L (by omega) h hB hT hj (fun _ _ => rfl) hz CF.rf rfl
theorem sp_comm (S : Ms) {k k' : Nat} (j j' : Nat) (v v' : Int) (h : k ≠ k') : sp (sp S k j v) k' j' v' = sp (sp S k' j' v') k j v := by
  refine Prod.ext ?_ rfl
  funext c y
  by_cases e : c = k
  · subst e
    rw [sp_k _ _ _ _ h]
    by_cases e2 : y = j
    · subst e2; rw [sp_same, sp_same]
    · rw [sp_j _ _ _ e2, sp_j _ _ _ e2, sp_k _ _ _ _ h]
  · rw [sp_k (sp S k' j' v') _ _ _ e]
    by_cases e3 : c = k'
    · subst e3
      by_cases e2 : y = j'
      · subst e2; rw [sp_same, sp_same]
      · rw [sp_j _ _ _ e2, sp_j _ _ _ e2, sp_k _ _ _ _ e]
    · rw [sp_k _ _ _ _ e3, sp_k _ _ _ _ e, sp_k _ _ _ _ e3]
/-- what a fork leaves for the queue -/
theorem mFk_q {S : Ms} {t : Nat} (hB : Bi S) (ht : (t : Int) < S.1 23 0) (hf : mForks S t) : 0 ≤ (mFk S t).1 19 t ∧ (mFk S t).1 19 t + 1 < (mFk S t).1 23 0 ∧ S.1 23 0 ≤ (mFk S t).1 23 0 ∧ ∀ c, c = 0 ∨ c = 1 ∨ c = 14 ∨ c = 24 ∨ c = 25 → (mFk S t).1 c = S.1 c := by
  obtain ⟨b1, b2, b3, b4, b5, b6, b7, b8, b9, b10, -⟩ := hB.2.2.2.2.2.1 t ht
  rcases hB.rd ht with rd | rd
  · obtain ⟨n0, hn⟩ := Int.eq_ofNat_of_zero_le (show 0 ≤ S.1 23 0 by omega)
    obtain ⟨f1, f2, f3, f4, f5, -⟩ := mFk_1 (t := t) rd hn (by omega)
    rw [f5, f1, hn]
    exact ⟨by omega, by omega, by omega, fun c hc => f2 c (by omega) (by omega) (by omega) (by omega) (by omega) (by omega) (by omega)⟩
  · unfold mForks at hf
    rw [if_neg (by omega)] at hf
    have eF : mFk S t = sp (sq (sq S 22 (S.1 19 t).toNat (S.2 22 t)) 22 ((S.1 19 t).toNat + 1) (joinF S (mOf S t) (S.2 22 t) (S.2 21 (S.1 19 t).toNat))) 20 t 0 := by unfold mFk mFork1; rw [if_neg (by omega)]
    have e1 : (mFk S t).1 = (sp S 20 t 0).1 := by rw [eF]; rfl
    rw [e1, sp_k _ _ _ _ (by decide), sp_k _ _ _ _ (by decide)]
    exact ⟨hf, by omega, by omega, fun c hc => spf _ _ _ _ (by omega)⟩
set_option maxRecDepth 20000 in
theorem m_FP_perform {G : fxG} (d : Nat) {A : Ad} {S : Ms} {w : fxW} {L : Nat → Prop} (h : Rc G A S w) (hB : Bi S) (hE : QE S) (hK : KF S) (hZ : Zb S) (hd1 : 10 ≤ d) {i t : Nat} (hT : Tr S L (fun x => x = t)) (hi : (i : Int) < S.1 1 0) (hc1 : S.1 13 (mOf S t) = 1 → S.1 19 t = -1) (hq : S.1 25 i < 580) (t9 : fxt w + 4 ≤ fxmt G) (t8 : fxu w + 1818 ≤ fxmu G) : fxM G d y_FP_perform [.ref (A 0 0), .ref (A 4 t), .ref (A 5 i)] w (cRt G A S w none (mPerform S t i) 4 1818) := by
  refine fxM.of cc_FP_perform 4 none [] (by decide +kernel) w_FP_perform (Nat.le_of_ble_eq_true rfl) ?_
  intro x C ht hu
  have hW4 := hB.1.2
  have x1 := (hT.2.2.2.2.1 t rfl).1
  obtain ⟨y1, y2, -⟩ := hT.2.2.1 t x1
  obtain ⟨hjn, hbj, hjo⟩ := hB.job y1
  have T := h.tk y1
  have J := h.jb hjn
  have Wk := h.wk hi
  show fxR G 4 x _ w 0 [(0, .ref (A 0 0)), (1, .ref (A 4 t)), (2, .ref (A 5 i))] []
  refine r_aload_n C d_FP_perform_0 rfl rfl ?_
  refine r_dup C d_FP_perform_1 rfl ?_
  refine g_FP_189 C d_FP_perform_2 Wk.1 Wk.2.2.1 ?_
  refine r_iconst C d_FP_perform_5 rfl ?_
  refine zr_iadd C d_FP_perform_6 ?_
  refine p_FP_189 C d_FP_perform_7 rfl rfl Wk.1 ?_
  have h1 : Rc G A (sp S 26 i (S.1 26 i + 1)) (fx_put w 257 (A 5 i) (zi (S.1 26 i + 1))) := h.wkr i 26 (S.1 26 i + 1) hi ⟨by decide, by decide⟩
  have T1 := h1.tk (t := t) y1
  have J1 := h1.jb (j := mOf S t) hjn
  have f11 : fxf (fx_put w 257 (A 5 i) (zi (S.1 26 i + 1))) 135 (A 3 (mOf S t)) = zi (S.1 11 (mOf S t)) := J1.2.2.2.2.2.2.2.2.1
  have f192 : fxf (fx_put w 257 (A 5 i) (zi (S.1 26 i + 1))) 192 (A 4 t) = .ref (A 3 (mOf S t)) := T1.2.1
  refine r_aload_n C d_FP_perform_10 rfl rfl ?_
  refine g_FP_177 C d_FP_perform_11 T1.1 f192 ?_
  refine r_dup C d_FP_perform_14 rfl ?_
  refine g_FP_155 C d_FP_perform_15 J1.1 f11 ?_
  refine r_iconst C d_FP_perform_18 rfl ?_
  refine zr_iadd C d_FP_perform_19 ?_
  refine p_FP_155 C d_FP_perform_20 rfl rfl J1.1 ?_
  have h2 : Rc G A (sp (sp S 26 i (S.1 26 i + 1)) 11 (mOf S t) (S.1 11 (mOf S t) + 1)) (fx_put (fx_put w 257 (A 5 i) (zi (S.1 26 i + 1))) 135 (A 3 (mOf S t)) (zi (S.1 11 (mOf S t) + 1))) := h1.jobN (mOf S t) 11 (S.1 11 (mOf S t) + 1) hjn ⟨by decide, by decide⟩ (fun z => by omega)
  have hC : CF 0 0 w (fx_put (fx_put w 257 (A 5 i) (zi (S.1 26 i + 1))) 135 (A 3 (mOf S t)) (zi (S.1 11 (mOf S t) + 1))) := (CF_put Wk.1 (by decide)).tr0 (CF_put J1.1 (by decide))
  rw [sp_comm S _ _ _ _ (show 26 ≠ 11 by decide)] at h2
  generalize fx_put (fx_put w 257 (A 5 i) (zi (S.1 26 i + 1))) 135 (A 3 (mOf S t)) (zi (S.1 11 (mOf S t) + 1)) = w2 at h2 hC ⊢
  have eP : mPerform S t i = @ite _ (mForks S t) (Classical.propDecidable _) (mFork (sp (sp S 11 (mOf S t) (S.1 11 (mOf S t) + 1)) 26 i (S.1 26 i + 1)) t i) (if (mLeaf (sp (sp S 11 (mOf S t) (S.1 11 (mOf S t) + 1)) 26 i (S.1 26 i + 1)) t).1 then mFinished (mLeaf (sp (sp S 11 (mOf S t) (S.1 11 (mOf S t) + 1)) 26 i (S.1 26 i + 1)) t).2 t i else (mLeaf (sp (sp S 11 (mOf S t) (S.1 11 (mOf S t) + 1)) 26 i (S.1 26 i + 1)) t).2) := rfl
  rw [eP]
  generalize hS1 : sp (sp S 11 (mOf S t) (S.1 11 (mOf S t) + 1)) 26 i (S.1 26 i + 1) = S1 at h2 ⊢
  have k1 : ∀ c, c ≠ 11 → c ≠ 26 → S1.1 c = S.1 c := fun c h1 h2 => by rw [← hS1]; funext jj; rw [sp_k _ _ _ _ h2, sp_k _ _ _ _ h1]
  have s1 : S1.2 = S.2 := by rw [← hS1]; rfl
  have hB1 : Bi S1 := by rw [← hS1]; exact hB.mono (fun c jj _ _ _ h11 h26 _ _ _ _ => by rw [sp_k _ _ _ _ h26, sp_k _ _ _ _ h11]) hB.2.2.2.2.2.2.1
  have hE1 : QE S1 := by rw [← hS1]; exact hE
  have hZ1 : Zb S1 := hZ.ext (k1 13 (by decide) (by decide)) (k1 15 (by decide) (by decide)) (k1 23 (by decide) (by decide)) (fun _ _ => by rw [s1]) (by rw [s1])
  have hK1 : KF S1 := by
    intro a ha h2 k hk
    rw [k1 2 (by decide) (by decide)] at h2 ⊢
    rw [s1]
    exact hK a ha h2 k hk
  have AG : AgT S S1 := fun c hc => k1 c (by omega) (by omega)
  have hT1 : Tr S1 L (fun x => x = t) := Tr.ext hT AG (k1 20 (by decide) (by decide)) (qA_ext (fun i _ => by rw [k1 25 (by decide) (by decide)]) (fun k => by rw [k1 24 (by decide) (by decide)])) (by rw [s1])
  have ht1 : (t : Int) < S1.1 23 0 := by rw [k1 23 (by decide) (by decide)]; exact y1
  have hi1 : (i : Int) < S1.1 1 0 := by rw [k1 1 (by decide) (by decide)]; exact hi
  have o1 : mOf S1 t = mOf S t := AG.eO ▸ rfl
  have fk : mForks S1 t ↔ mForks S t := by unfold mForks mOf; rw [k1 13 (by decide) (by decide), k1 15 (by decide) (by decide), k1 30 (by decide) (by decide), k1 17 (by decide) (by decide), k1 16 (by decide) (by decide), k1 19 (by decide) (by decide)]
  have AxS : ∀ A2 : Ad, Ax S1 A A2 → Ax S A A2 := fun A2 g k x a b c d => g k x a b (fun e => by rw [k1 23 (by decide) (by decide)]; exact c e) (fun e => by rw [k1 14 (by decide) (by decide)]; exact d e)
  have hjr : ∀ j : Nat, (j : Int) < S1.1 14 0 → mOf S1 (rootT S1 j) = j := fun j hj => (hT1.1 j hj).1
  have hq1 : S1.1 25 i < 580 := by rw [k1 25 (by decide) (by decide)]; exact hq
  have z9 := hC.2.1
  have z8 := hC.2.2.2.1
  refine r_aload_n C d_FP_perform_23 rfl rfl ?_
  refine r_aload_n C d_FP_perform_24 rfl rfl ?_
  refine c_FP_240 C d_FP_perform_25 h2.p0 (m_mustFork 1 h2 hB1 (by omega) ht1) (by omega) (Nat.le_of_ble_eq_true rfl) (fxPure.k1 ?_) fxPure.k2
  refine zr_if_eq (tgt := 52) C d_FP_perform_28 (by decide) (@zok_b _ (Classical.propDecidable _)) (fun c_28 => ?_) (fun c_28 => ?_)
  · have hf : ¬ mForks S1 t := fun z => by rw [@bI_t _ (Classical.propDecidable _) z] at c_28; exact absurd c_28 (by decide)
    rw [if_neg (fun z => hf (fk.mpr z))]
    have T2 := h2.tk ht1
    have J2 := h2.jb (hB1.job ht1).1
    have y2' : S1.1 9 (mOf S1 t) = 0 := by rw [o1, k1 9 (by decide) (by decide)]; exact y2
    refine r_aload_n C d_FP_perform_52 rfl rfl ?_
    refine g_FP_177 C d_FP_perform_53 T2.1 T2.2.1 ?_
    refine r_aload_n C d_FP_perform_56 rfl rfl ?_
    refine c_FP_254 C d_FP_perform_57 J2.1 (m_doLeaf 3 h2 hB1 hK1 (by omega) ht1 rfl y2' hjr) (by omega) (Nat.le_of_ble_eq_true rfl) ?_ ?_
    · rintro v' w3 ⟨cf, ⟨e9, hl, h3⟩ | ⟨S2, kk, e9, hk24, hl, q1, q2, h3⟩⟩
      · cases e9
        rw [hl, if_pos rfl]
        have e1 := mLeaf_t hl
        obtain ⟨r1, r2⟩ := mLeaf_r hl
        have rdk : S1.1 13 (mOf S1 t) = 2 → S1.1 5 (mOf S1 t) = 2 := (hT1.1 (mOf S1 t) (hB1.job ht1).1).2.2.1
        have hT2 : Tr (mLeaf S1 t).2 L (fun x => x = t) := Tr.res hB1 hT1 e1 r1 (fun h => r2 (rdk h) h) (by rw [o1, k1 13 (by decide) (by decide), k1 19 (by decide) (by decide)]; exact hc1)
        have hZ2 : Zb (mLeaf S1 t).2 := hZ1.leaf hB1 hE1 ht1
        have c9 := cf.2.1
        have c8 := cf.2.2.2.1
        show fxR G 4 x _ w3 60 _ [zi (-1)]
        refine r_istore_n (ls' := [(3, _), (0, _), (1, _), (2, _)]) C d_FP_perform_60 rfl (by decide) rfl ?_
        refine r_iload_n C d_FP_perform_61 rfl rfl ?_
        refine r_iconst C d_FP_perform_62 rfl ?_
        refine zr_icmp_ne (tgt := 75) C d_FP_perform_63 (by decide) (by unfold zok; omega) (by unfold zok; omega) (fun c_63 => ?_) (fun c_63 => ?_)
        · exact absurd rfl c_63
        · refine r_aload_n C d_FP_perform_66 rfl rfl ?_
          refine r_aload_n C d_FP_perform_67 rfl rfl ?_
          refine r_aload_n C d_FP_perform_68 rfl rfl ?_
          refine c_FP_258 C d_FP_perform_69 h3.p0 (m_endTask 9 h3 (hB1.of1 e1) (by omega) hT2 (by rw [e1]; exact hi1) rfl (fun y a b => hZ2.2 y a b) (by rw [e1]; omega) (by omega) (by omega)) (by omega) (Nat.le_of_ble_eq_true rfl) (cRt.k1 fun w4 A2 g1 g2 g3 => ?_) cRt.k2
          refine r_goto (tgt := 84) C d_FP_perform_72 (by decide) ?_
          exact r_return C d_FP_perform_84 rfl ⟨rfl, A2, AxS A2 (fun k x a b c d => g1 k x a b (fun e => by rw [e1]; exact c e) (fun e => by rw [e1]; exact d e)), g2, ((hC.tr0 cf).tr0 g3).wk (by omega) (by omega)⟩
      · cases e9
        rw [hl, if_neg (by simp)]
        have hjs : ((mOf S1 t : Nat) : Int) < S2.1 14 0 := by rw [q1]; exact (hB1.job ht1).1
        have T3 := h3.tk (t := t) (by rw [q1]; exact ht1)
        have T4 := T3.2.1
        rw [show mOf S2 t = mOf S1 t by unfold mOf; rw [q1]] at T4
        show fxR G 4 x _ w3 60 _ [zi (kk : Int)]
        refine r_istore_n (ls' := [(3, _), (0, _), (1, _), (2, _)]) C d_FP_perform_60 rfl (by decide) rfl ?_
        refine r_iload_n C d_FP_perform_61 rfl rfl ?_
        refine r_iconst C d_FP_perform_62 rfl ?_
        refine zr_icmp_ne (tgt := 75) C d_FP_perform_63 (by decide) (by unfold zok; omega) (by unfold zok; omega) (fun c_63 => ?_) (fun c_63 => ?_)
        · refine r_aload_n C d_FP_perform_75 rfl rfl ?_
          refine r_aload_n C d_FP_perform_76 rfl rfl ?_
          refine g_FP_177 C d_FP_perform_77 T3.1 T4 ?_
          refine r_iload_n C d_FP_perform_80 rfl rfl ?_
          refine c_FP_148 C d_FP_perform_81 h3.p0 (m_fail 4 h3 (hB1.of1 q1) (by omega) hjs (kk : Int)) (by omega) (Nat.le_of_ble_eq_true rfl) (cRt.k1 fun w4 A2 g1 g2 g3 => ?_) cRt.k2
          exact r_return C d_FP_perform_84 rfl ⟨rfl, A2, AxS A2 (fun k x a b c d => g1 k x a b (fun e => by rw [q1]; exact c e) (fun e => by rw [q1]; exact d e)), g2, ((hC.tr0 cf).tr0 g3).wk (by omega) (by omega)⟩
        · exact absurd c_63 (by omega)
    · rintro a w' ⟨-, ⟨e9, -⟩ | ⟨S2, kk, e9, -⟩⟩
      · cases e9
      · cases e9
  · have hf : mForks S1 t := Classical.byContradiction fun z => c_28 (@bI_f _ (Classical.propDecidable _) z)
    rw [if_pos (fk.mp hf)]
    have T2 := h2.tk ht1
    obtain ⟨m1, m2, m3, m4⟩ := mFk_q hB1 ht1 hf
    refine r_aload_n C d_FP_perform_31 rfl rfl ?_
    refine c_FP_244 C d_FP_perform_32 T2.1 (m_Task_fork 2 h2 hB1 hZ1 (by omega) ht1 hf (by rw [o1, k1 13 (by decide) (by decide), k1 19 (by decide) (by decide)]; exact hc1) (hT1.1 (mOf S1 t) (hB1.job ht1).1).2.2.1 hjr (fun hc => by obtain ⟨-, -, a, b, -⟩ := hT1.2.1 t ht1 hc; exact ⟨a, b⟩) (by omega) (by omega)) (by omega) (Nat.le_of_ble_eq_true rfl) ?_ ?_
    · rintro v' w3 ⟨e9, A3, g1, h3, cf3⟩
      cases e9
      have a9 := cf3.2.1
      have a8 := cf3.2.2.2.1
      have T3 := h3.tk (t := t) (by omega)
      have i3 : (i : Int) < (mFk S1 t).1 1 0 := by rw [m4 1 (by simp)]; exact hi1
      have cN : (mFk S1 t).1 19 t = ((chT (mFk S1 t) t : Nat) : Int) := by unfold chT; omega
      have s3 := T3.2.2.2.2.2.2.1
      rw [if_neg (by omega)] at s3
      have u4 : A3 4 t = A 4 t := g1 4 t (by decide) (by decide) (fun _ => ht1) (fun z => by cases z)
      have u5 : A3 5 i = A 5 i := g1 5 i (by decide) (by decide) (fun z => by cases z) (fun z => by cases z)
      have W3 := (h3.wk i3).1
      rw [← u4, ← u5]
      refine r_aload_n C d_FP_perform_35 rfl rfl ?_
      refine r_aload_n C d_FP_perform_36 rfl rfl ?_
      refine g_FP_247 C d_FP_perform_37 T3.1 s3 ?_
      refine c_FP_102 C d_FP_perform_40 W3 (m_putOnTop 7 h3 (by omega) i3 (by rw [m4 1 (by simp), k1 1 (by decide) (by decide)]; exact hW4) (t := chT (mFk S1 t) t + 1) (by omega) (by rw [m4 25 (by simp)]; exact hB1.q0 i (by omega)) (by rw [m4 25 (by simp)]; omega) (fun i' hi' => by rw [m4 25 (by simp)]; exact hB1.q6 i' hi') (by omega) (by omega)) (by omega) (Nat.le_of_ble_eq_true rfl) (cRt.k1 fun w4 A4 g4 h4 cf4 => ?_) cRt.k2
      have b9 := cf4.2.1
      have b8 := cf4.2.2.2.1
      have c23 : (mPut (mFk S1 t) i ((chT (mFk S1 t) t + 1 : Nat) : Int)).1 23 0 = (mFk S1 t).1 23 0 := mPut_c _ _ _ _ (by decide) (by decide)
      have c1 : (mPut (mFk S1 t) i ((chT (mFk S1 t) t + 1 : Nat) : Int)).1 1 0 = (mFk S1 t).1 1 0 := mPut_c _ _ _ _ (by decide) (by decide)
      have c19 : (mPut (mFk S1 t) i ((chT (mFk S1 t) t + 1 : Nat) : Int)).1 19 t = (mFk S1 t).1 19 t := mPut_c _ _ _ _ (by decide) (by decide)
      have T4 := h4.tk (t := t) (by rw [c23]; omega)
      have s4 := T4.2.2.2.2.2.1
      rw [if_neg (by omega), show chT (mPut (mFk S1 t) i ((chT (mFk S1 t) t + 1 : Nat) : Int)) t = chT (mFk S1 t) t from congrArg Int.toNat c19] at s4
      have v4 : A4 4 t = A3 4 t := g4 4 t (by decide) (by decide) (fun _ => by omega) (fun z => by cases z)
      have v5 : A4 5 i = A3 5 i := g4 5 i (by decide) (by decide) (fun z => by cases z) (fun z => by cases z)
      have W4 := (h4.wk (i := i) (by rw [c1]; exact i3)).1
      have q25 : ∀ y, (mPut (mFk S1 t) i ((chT (mFk S1 t) t + 1 : Nat) : Int)).1 25 y = if y = i then S1.1 25 i + 1 else S1.1 25 y := fun y => by rw [mPut_25, m4 25 (by simp)]
      show fxR G 4 x _ w4 43 _ _
      rw [← v4, ← v5]
      refine r_aload_n C d_FP_perform_43 rfl rfl ?_
      refine r_aload_n C d_FP_perform_44 rfl rfl ?_
      refine g_FP_251 C d_FP_perform_45 T4.1 s4 ?_
      refine c_FP_102 C d_FP_perform_48 W4 (m_putOnTop 7 h4 (by omega) (by rw [c1]; exact i3) (by rw [c1, m4 1 (by simp), k1 1 (by decide) (by decide)]; exact hW4) (t := chT (mFk S1 t) t) (by rw [c23]; omega) (by rw [q25, if_pos rfl]; have := hB1.q0 i (by omega); omega) (by rw [q25, if_pos rfl]; omega) (fun i' hi' => by rw [q25]; have := hB1.q6 i' hi'; split <;> omega) (by omega) (by omega)) (by omega) (Nat.le_of_ble_eq_true rfl) (cRt.k1 fun w5 A5 g5 h5 cf5 => ?_) cRt.k2
      refine r_return C d_FP_perform_51 rfl ⟨rfl, A5, AxS A5 (g1.tr (g4.tr g5 (by rw [c23]; omega) (by rw [mPut_c _ _ _ _ (by decide) (by decide)]; omega)) m3 (by rw [m4 14 (by simp)]; omega)), ?_, (((hC.tr0 cf3).tr cf4).tr cf5).wk (by omega) (by omega)⟩
      rw [mFork_eq, cN]
      exact h5
    · rintro a w' ⟨e9, -⟩
      cases e9

/-! TASKS AND JOBS: hasForked, joinParts, doLeaf -/
def cR0 (G : fxG) (A : Ad) (w : fxW) (v : Option Value) (S' : Ms) : Outcome → fxW → Prop := fun o w' => o = .returned v ∧ Rc G A S' w' ∧ CF 0 0 w w'
section CR0
variable {G : fxG} {nL : Nat} {x : fxX} {Q : State → Prop} {w : fxW} {pc : Nat} {ls : List (Nat × Value)} {st : List Value} {A : Ad} {S' : Ms} {v : Option Value}
theorem cR0.k1 (k : ∀ w', Rc G A S' w' → CF 0 0 w w' → fxR G nL x Q w' pc ls (v.toList ++ st)) : ∀ v' w', cR0 G A w v S' (.returned v') w' → fxR G nL x Q w' pc ls (v'.toList ++ st) := by
  rintro v' w' ⟨h, h2, h3⟩
  cases h
  exact k w' h2 h3
theorem cR0.k2 : ∀ a w', cR0 G A w v S' (.threw a) w' → fxRt G nL x Q w' pc ls st a := by
  rintro a w' ⟨h, -⟩
  cases h
end CR0
theorem CF.tr0 {c u : Nat} {w w' w'' : fxW} (h : CF 0 0 w w') (h' : CF c u w' w'') : CF c u w w'' := (h.tr h').wk (by omega) (by omega)
theorem CF.tr0' {c u : Nat} {w w' w'' : fxW} (h : CF c u w w') (h' : CF 0 0 w' w'') : CF c u w w'' := (h.tr h').wk (by omega) (by omega)
theorem ch_neg {S : Ms} {t : Nat} (h : 0 ≤ S.1 19 t) (v v' : Value) : (if S.1 19 t < 0 then v else v') = v' := if_neg (by omega)
set_option maxRecDepth 20000 in
theorem m_hasForked {G : fxG} (d : Nat) {A : Ad} {S : Ms} {w : fxW} {t : Nat} (T : TaskAt A S t w) : fxM G d y_Task_hasForked [.ref (A 4 t)] w (fxPure (zi (bI (0 ≤ S.1 19 t))) w) := by
  refine fxM.of cc_Task_hasForked 1 (some .boolean) [] (by decide +kernel) w_Task_hasForked (Nat.le_of_ble_eq_true rfl) ?_
  intro x C ht hu
  show fxR G 1 x _ w 0 [(0, .ref (A 4 t))] []
  obtain ⟨h1, -, -, -, -, h6, h7, -⟩ := T
  refine r_aload_n C d_Task_hasForked_0 rfl rfl ?_
  refine g_Task_24 C d_Task_hasForked_1 h1 h6 ?_
  by_cases c : S.1 19 t < 0
  · rw [if_pos c]
    refine r_ifnullN (tgt := 18) C d_Task_hasForked_4 (by decide) ?_
    refine r_iconst C d_Task_hasForked_18 rfl ?_
    exact zr_zreturn C (Or.inl rfl) d_Task_hasForked_19 ⟨by rw [bI_f (by omega)], rfl⟩
  · rw [if_neg c] at h6 h7 ⊢
    refine r_ifnull C d_Task_hasForked_4 ?_
    refine r_aload_n C d_Task_hasForked_7 rfl rfl ?_
    refine g_Task_27 C d_Task_hasForked_8 h1 h7 ?_
    refine r_ifnull C d_Task_hasForked_11 ?_
    refine r_iconst C d_Task_hasForked_14 rfl ?_
    refine r_goto (tgt := 19) C d_Task_hasForked_15 (by decide) ?_
    exact zr_zreturn C (Or.inr rfl) d_Task_hasForked_19 ⟨by rw [bI_t (by omega)], rfl⟩
/-- the row of a job -/
theorem Rc.jrow {G : fxG} {A : Ad} {S : Ms} {w : fxW} (h : Rc G A S w) (hB : Bi S) {j : Nat} (hj : (j : Int) < S.1 14 0) : ∃ o : Nat, o < 4 ∧ S.1 6 j = (o : Int) ∧ 0 ≤ S.1 2 o ∧ S.1 2 o ≤ 5 ∧ cty S o = S.1 2 o ∧ mTy S j = S.1 2 o ∧ zok (S.1 2 o) ∧ RowAt (A 1 o) (A 2 o) (S.1 2 o) (S.1 3 o) (rowG S o) w ∧ fxf w 130 (A 3 j) = .ref (A 1 o) := by
  obtain ⟨b1, b2, b3, b4, b5, -⟩ := hB.2.2.2.1 j hj
  obtain ⟨o, ho⟩ := Int.eq_ofNat_of_zero_le b3
  rw [ho] at b5
  have h5 := (hB.2.1 o (by omega)).2.1
  have e : cty S o = S.1 2 o := by unfold cty; rw [if_neg (by have : 0 ≤ S.1 2 o := b5; omega)]
  have hr := h.2.1.1 o (by omega)
  rw [e] at hr
  refine ⟨o, by omega, ho, b5, h5, e, by unfold mTy; rw [ho]; rfl, by have : 0 ≤ S.1 2 o := b5; unfold zok; omega, hr, ?_⟩
  have := (h.jb hj).2.2.2.1
  rw [ho] at this
  exact this
set_option maxRecDepth 20000 in
theorem m_joinParts {G : fxG} (d : Nat) {A : Ad} {S : Ms} {w : fxW} (h : Rc G A S w) (hB : Bi S) (hd1 : 2 ≤ d) {j p : Nat} (hp : (p : Int) < S.1 23 0) (hj : mOf S p = j) (hc : 0 ≤ S.1 19 p) (h9 : S.1 9 j = 0) (hjr : ∀ j : Nat, (j : Int) < S.1 14 0 → mOf S (rootT S j) = j) (hrs : S.1 13 j = 2 → S.1 5 j < 3 → S.2 21 p = joinF S j (S.2 21 (chT S p)) (S.2 21 (chT S p + 1))) (hch : S.1 15 (chT S p) = S.1 15 p ∧ S.1 15 (chT S p + 1) = S.1 15 p) : fxM G d y_Job_joinParts [.ref (A 3 j), .ref (A 4 p)] w (cR0 G A w none (finJ S j p)) := by
  refine fxM.of cc_Job_joinParts 6 none [] (by decide +kernel) w_Job_joinParts (Nat.le_of_ble_eq_true rfl) ?_
  intro x C ht hu
  obtain ⟨hjn, hbj, hjo⟩ := hB.job hp
  rw [hj] at hjn hbj hjo
  have J := h.jb hjn
  have T := h.tk hp
  obtain ⟨o, ho4, ho, ht0, ht5, ec, eT, hz, hw, hrw⟩ := h.jrow hB hjn
  obtain ⟨b1, b2, b3, b4, b5, b6, b7, b8, -⟩ := hB.2.2.2.2.2.1 p hp
  obtain ⟨k1, k2, -, -, -, -, -, r1, r2, -⟩ := hbj
  obtain ⟨lo, hlo⟩ := Int.eq_ofNat_of_zero_le b3
  obtain ⟨hi, hhi⟩ := Int.eq_ofNat_of_zero_le (show 0 ≤ S.1 17 p by omega)
  have eO : mAt S j = 24 * o := by unfold mAt; rw [ho]; rfl
  have eLo : mLo S p = lo := by unfold mLo; rw [hlo]; rfl
  have eHi : mHi S p = hi := by unfold mHi; rw [hhi]; rfl
  have eF : finJ S j p = (if S.1 5 j = 3 then mOrder (if S.1 13 j = 1 ∧ S.1 5 j < 3 then sq S 21 p (joinF S j (S.2 21 (chT S p)) (S.2 21 (chT S p + 1))) else S) (24 * o) lo hi else (if S.1 13 j = 1 ∧ S.1 5 j < 3 then sq S 21 p (joinF S j (S.2 21 (chT S p)) (S.2 21 (chT S p + 1))) else S)) := by
    unfold finJ; rw [eO, eLo, eHi]; rfl
  show fxR G 6 x _ w 0 [(0, .ref (A 3 j)), (1, .ref (A 4 p))] []
  refine r_aload_n C d_Job_joinParts_0 rfl rfl ?_
  refine g_Job_21 C d_Job_joinParts_1 J.1 J.2.2.1 ?_
  refine r_iconst C d_Job_joinParts_4 rfl ?_
  refine zr_icmp_ne (tgt := 26) C d_Job_joinParts_5 (by decide) (by unfold zok; omega) (by unfold zok; omega) (fun c_5 => ?_) (fun c_5 => ?_)
  · -- a result, joined
    rw [if_neg c_5] at eF
    have cc0 : (chT S p : Int) + 1 < S.1 23 0 := by unfold chT; omega
    have T1 := h.tk (t := chT S p) (by omega)
    have T2 := h.tk (t := chT S p + 1) (by omega)
    have f6 := T.2.2.2.2.2.1
    have f7 := T.2.2.2.2.2.2.1
    rw [ch_neg hc] at f6 f7
    obtain ⟨v1, g1, g1'⟩ := T1.2.2.2.2.2.2.2.2.1
    obtain ⟨v2, g2, g2'⟩ := T2.2.2.2.2.2.2.2.2.1
    have o1 : mOf S (chT S p) = j := by rw [← hj]; unfold mOf; rw [hch.1]
    have o2 : mOf S (chT S p + 1) = j := by rw [← hj]; unfold mOf; rw [hch.2]
    rw [o1] at g1'
    rw [o2] at g2'
    have fin : ∀ v : Int64, v = joinF S j v1 v2 → fxR G 6 x (fxQ G x (cR0 G A w none (finJ S j p))) w 79 [(4, .long v2), (2, .long v1), (0, .ref (A 3 j)), (1, .ref (A 4 p))] [.long v, .ref (A 4 p)] := by
      intro v hv
      refine p_Job_48 C d_Job_joinParts_79 rfl rfl T.1 ?_
      refine r_return C d_Job_joinParts_82 rfl ⟨rfl, ?_, CF_put T.1 (by decide)⟩
      rw [eF]
      have f : ∀ g, g ≠ 199 → fxf (fx_put w 199 (A 4 p) (.long v)) g (A 4 p) = fxf w g (A 4 p) := fun g hg => fxf_putN _ _ (Or.inl hg)
      obtain ⟨t1, t2, t3, t4, t5, t6, t7, t8, t9, t10⟩ := T
      by_cases c3 : S.1 13 j = 1 ∧ S.1 5 j < 3
      · rw [if_pos c3]
        rw [g1' c3.2, g2' c3.2] at hv
        refine h.task _ p 199 _ hp (by omega) (fun c _ => rfl) (fun _ _ => rfl) (fun c x hx => ?_) (Or.inr (by rw [hj]; exact h9)) hB hjr ?_
        · rcases hx with z | z
          · exact sq_k _ _ _ _ z.1
          · by_cases z2 : c = 21
            · subst z2; exact sq_j _ _ _ z
            · exact sq_k _ _ _ _ z2
        · unfold TaskAt
          rw [f 192 (by decide), f 193 (by decide), f 194 (by decide), f 195 (by decide), f 196 (by decide), f 197 (by decide), f 198 (by decide), f 200 (by decide)]
          exact ⟨t1, t2, t3, t4, t5, t6, t7, t8, ⟨v, fxf_put _ _ _ _, fun _ => by rw [sq_same]; exact hv⟩, t10⟩
      · rw [if_neg c3]
        refine h.task S p 199 _ hp (by omega) (fun c _ => rfl) (fun _ _ => rfl) (fun c x hx => rfl) (Or.inl rfl) hB hjr ?_
        unfold TaskAt
        rw [f 192 (by decide), f 193 (by decide), f 194 (by decide), f 195 (by decide), f 196 (by decide), f 197 (by decide), f 198 (by decide), f 200 (by decide)]
        refine ⟨t1, t2, t3, t4, t5, t6, t7, t8, ⟨v, fxf_put _ _ _ _, fun z => ?_⟩, t10⟩
        rw [hj] at z
        rw [hrs (by omega) z, hv, g1' z, g2' z]
    refine r_aload_n C d_Job_joinParts_26 rfl rfl ?_
    refine c_Job_78 C d_Job_joinParts_27 T.1 (m_hasForked 0 T) (by omega) (Nat.le_of_ble_eq_true rfl) (fxPure.k1 ?_) fxPure.k2
    refine zr_if_eq (tgt := 82) C d_Job_joinParts_30 (by decide) (zok_b _) (fun c_30 => ?_) (fun c_30 => ?_)
    · exact absurd c_30 (by rw [bI_t hc]; decide)
    · refine r_aload_n C d_Job_joinParts_33 rfl rfl ?_
      refine g_Job_82 C d_Job_joinParts_34 T.1 f6 ?_
      refine g_Job_48 C d_Job_joinParts_37 T1.1 g1 ?_
      refine r_lstore_n (ls' := [(2, _), (0, _), (1, _)]) C d_Job_joinParts_40 rfl (by decide) rfl ?_
      refine r_aload_n C d_Job_joinParts_41 rfl rfl ?_
      refine g_Job_86 C d_Job_joinParts_42 T.1 f7 ?_
      refine g_Job_48 C d_Job_joinParts_45 T2.1 g2 ?_
      refine r_lstore (ls' := [(4, _), (2, _), (0, _), (1, _)]) C d_Job_joinParts_48 (by decide) rfl ?_
      refine r_aload_n C d_Job_joinParts_50 rfl rfl ?_
      refine r_aload_n C d_Job_joinParts_51 rfl rfl ?_
      refine g_Job_21 C d_Job_joinParts_52 J.1 J.2.2.1 ?_
      refine r_iconst C d_Job_joinParts_55 rfl ?_
      refine zr_icmp_ne (tgt := 68) C d_Job_joinParts_56 (by decide) (by unfold zok; omega) (by unfold zok; omega) (fun c_56 => ?_) (fun c_56 => ?_)
      · refine r_aload_n C d_Job_joinParts_68 rfl rfl ?_
        refine g_Job_24 C d_Job_joinParts_69 J.1 hrw ?_
        refine r_lload_n C d_Job_joinParts_72 rfl rfl ?_
        refine r_lload C d_Job_joinParts_73 rfl ?_
        refine r_ladd C d_Job_joinParts_75 ?_
        refine c_Job_95 C d_Job_joinParts_76 hw.1 (m_Row_kept 1 w (A 1 o) 0 (S.1 2 o) _ (by omega) hw.1 hw.2.2.1 hz ht0) (by omega) (Nat.le_of_ble_eq_true rfl) (fxPure.k1 ?_) fxPure.k2
        exact fin _ (by unfold joinF; rw [if_neg c_56, eT])
      · refine r_lload_n C d_Job_joinParts_59 rfl rfl ?_
        refine r_lload C d_Job_joinParts_60 rfl ?_
        refine c_Job_89 C d_Job_joinParts_62 (m_maxL 0 w _ _) (by omega) (Nat.le_of_ble_eq_true rfl) (fxPure.k1 ?_) fxPure.k2
        refine r_goto (tgt := 79) C d_Job_joinParts_65 (by decide) ?_
        exact fin _ (by unfold joinF; rw [if_pos c_56, max_eq])
  · -- a sort
    have eF2 : finJ S j p = mOrder S (24 * o) lo hi := by rw [eF, if_pos c_5, if_neg (fun q => by omega)]
    refine r_aload_n C d_Job_joinParts_8 rfl rfl ?_
    refine g_Job_24 C d_Job_joinParts_9 J.1 hrw ?_
    refine r_aload_n C d_Job_joinParts_12 rfl rfl ?_
    refine g_Job_34 C d_Job_joinParts_13 T.1 T.2.2.2.1 ?_
    refine r_aload_n C d_Job_joinParts_16 rfl rfl ?_
    refine g_Job_39 C d_Job_joinParts_17 T.1 T.2.2.2.2.1 ?_
    rw [hlo, hhi]
    refine c_Job_66 C d_Job_joinParts_20 hw.1 (m_putInOrder 1 hw lo hi (by omega) (by omega)) (by omega) (Nat.le_of_ble_eq_true rfl) ?_ ?_
    · rintro v' w' ⟨e, q1, q2⟩
      cases e
      refine r_goto (tgt := 82) C d_Job_joinParts_23 (by decide) ?_
      obtain ⟨z1, z2⟩ := order_eq S o lo hi (by omega) (by omega)
      obtain ⟨y1, y2⟩ := h.oth o ho4 z2 q2 (by rw [z1, ec]; exact q1)
      exact r_return C d_Job_joinParts_82 rfl ⟨rfl, by rw [eF2]; exact y1, y2⟩
    · rintro a w' ⟨e, -⟩
      cases e
/-- how a leaf's work ends: done, or a 0 met -/
def cLf (G : fxG) (A : Ad) (w : fxW) (S : Ms) (t : Nat) : Outcome → fxW → Prop := fun o w' => CF 0 0 w w' ∧ ((o = .returned (some (zi (-1))) ∧ (mLeaf S t).1 = true ∧ Rc G A (mLeaf S t).2 w') ∨ (∃ (S2 : Ms) (k : Nat), o = .returned (some (zi (k : Int))) ∧ k < 24 ∧ mLeaf S t = (false, mEnd S2 (mOf S t) k) ∧ S2.1 = S.1 ∧ S2.2 21 = S.2 21 ∧ Rc G A S2 w'))
set_option maxRecDepth 20000 in
theorem m_doLeaf {G : fxG} (d : Nat) {A : Ad} {S : Ms} {w : fxW} (h : Rc G A S w) (hB : Bi S) (hK : KF S) (hd1 : 3 ≤ d) {j t : Nat} (ht9 : (t : Int) < S.1 23 0) (hj : mOf S t = j) (h9 : S.1 9 j = 0) (hjr : ∀ j : Nat, (j : Int) < S.1 14 0 → mOf S (rootT S j) = j) : fxM G d y_Job_doLeaf [.ref (A 3 j), .ref (A 4 t)] w (cLf G A w S t) := by
  refine fxM.of cc_Job_doLeaf 2 (some .int) [] (by decide +kernel) w_Job_doLeaf (Nat.le_of_ble_eq_true rfl) ?_
  intro x C ht hu
  obtain ⟨hjn, hbj, hjo⟩ := hB.job ht9
  rw [hj] at hjn hbj hjo
  have J := h.jb hjn
  have T := h.tk ht9
  obtain ⟨o, ho4, ho, ht0, ht5, ec, eT, hz, hw, hrw⟩ := h.jrow hB hjn
  obtain ⟨b1, b2, b3, b4, b5, b6, b7, b8, -⟩ := hB.2.2.2.2.2.1 t ht9
  obtain ⟨k1, k2, -, -, -, -, -, r1, r2, -⟩ := hbj
  obtain ⟨lo, hlo⟩ := Int.eq_ofNat_of_zero_le b3
  obtain ⟨hi, hhi⟩ := Int.eq_ofNat_of_zero_le (show 0 ≤ S.1 17 t by omega)
  have eO : mAt S j = 24 * o := by unfold mAt; rw [ho]; rfl
  have eLo : mLo S t = lo := by unfold mLo; rw [hlo]; rfl
  have eHi : mHi S t = hi := by unfold mHi; rw [hhi]; rfl
  have e : mLeaf S t = if S.1 5 j < 2 ∨ (S.1 5 j = 2 ∧ S.1 13 j = 1) then (true, sq S 21 t (mReduced S t)) else if S.1 5 j = 2 then (true, sprF j (24 * o) lo (hi - lo) (S.2 22 t) S) else if S.1 5 j = 3 then (true, mOrder S (24 * o) lo hi) else lfF j (24 * o) lo (hi - lo) S := by
    unfold mLeaf mSpread; simp only [hj, eO, eLo, eHi]
  have f4 := T.2.2.2.1
  have f5 := T.2.2.2.2.1
  rw [hlo] at f4
  rw [hhi] at f5
  -- a result is put
  have putR : ∀ v : Int64, Rc G A (sq S 21 t v) (fx_put w 199 (A 4 t) (.long v)) := by
    intro v
    have f : ∀ g, g ≠ 199 → fxf (fx_put w 199 (A 4 t) (.long v)) g (A 4 t) = fxf w g (A 4 t) := fun g hg => fxf_putN _ _ (Or.inl hg)
    obtain ⟨t1, t2, t3, t4, t5, t6, t7, t8, t9, t10⟩ := id T
    refine h.task _ t 199 _ ht9 (by omega) (fun c _ => rfl) (fun _ _ => rfl) (fun c x hx => ?_) (Or.inr (by rw [hj]; exact h9)) hB hjr ?_
    · rcases hx with z | z
      · exact sq_k _ _ _ _ z.1
      · by_cases z2 : c = 21
        · subst z2; exact sq_j _ _ _ z
        · exact sq_k _ _ _ _ z2
    · unfold TaskAt
      rw [f 192 (by decide), f 193 (by decide), f 194 (by decide), f 195 (by decide), f 196 (by decide), f 197 (by decide), f 198 (by decide), f 200 (by decide)]
      exact ⟨t1, t2, t3, t4, t5, t6, t7, t8, ⟨v, fxf_put _ _ _ _, fun _ => by rw [sq_same]⟩, t10⟩
  have rE : mReduced S t = redF (joinF S j) (rowG S o) (lo + 1) (hi - (lo + 1)) (rowG S o lo) := by
    unfold mReduced; rw [hj, eO, eLo, eHi]; rfl
  have sumE : ¬ S.1 5 j = 1 → redF (fun v u => keptF (S.1 2 o) (v + u)) (rowG S o) lo (hi - lo) 0 = mReduced S t := by
    intro hk
    rw [rE, show hi - lo = (hi - (lo + 1)) + 1 by omega, redF_eq, Int64.zero_add, show keptF (S.1 2 o) (rowG S o lo) = rowG S o lo from hK o ho4 ht0 lo (by omega)]
    exact redF_congr _ _ _ (fun v u => by unfold joinF; rw [if_neg hk, eT]) (fun _ _ _ => rfl)
  have lfE : 3 < S.1 5 j → mLeaf S t = lfF j (24 * o) lo (hi - lo) S := by
    intro hk; rw [e, if_neg (by omega), if_neg (by omega), if_neg (by omega)]
  show fxR G 2 x _ w 0 [(0, .ref (A 3 j)), (1, .ref (A 4 t))] []
  refine r_aload_n C d_Job_doLeaf_0 rfl rfl ?_
  refine g_Job_21 C d_Job_doLeaf_1 J.1 J.2.2.1 ?_
  by_cases c5 : 4 < S.1 5 j
  · have k5 : S.1 5 j = 5 := by omega
    refine zr_tableOut (tgt := 176) C d_Job_doLeaf_4 (by unfold zok; omega) (Or.inr c5) (by decide) ?_
    refine r_aload_n C d_Job_doLeaf_176 rfl rfl ?_
    refine g_Job_24 C d_Job_doLeaf_177 J.1 hrw ?_
    refine r_aload_n C d_Job_doLeaf_180 rfl rfl ?_
    refine g_Job_34 C d_Job_doLeaf_181 T.1 f4 ?_
    refine r_aload_n C d_Job_doLeaf_184 rfl rfl ?_
    refine g_Job_39 C d_Job_doLeaf_185 T.1 f5 ?_
    refine r_aload_n C d_Job_doLeaf_188 rfl rfl ?_
    refine g_Job_28 C d_Job_doLeaf_189 J.1 J.2.2.2.2.1 ?_
    refine r_i2l C d_Job_doLeaf_192 rfl ?_
    refine c_Job_74 C d_Job_doLeaf_193 hw.1 (m_shareAll 2 hw (by omega) hz ht0 lo hi _ (by omega) (by omega)) (by omega) (Nat.le_of_ble_eq_true rfl) ?_ ?_
    · rintro v' w' ⟨e9, q1, q2⟩
      cases e9
      obtain ⟨s1, s2⟩ := sha_eq (j := j) (a := o) (ty := S.1 2 o) (hi - lo) lo S (by omega) k5 eT
      cases hs : (shaG (S.1 2 o) (Int32.ofInt (S.1 7 j)).toInt64 lo (hi - lo) (rowG S o)).1 with
      | none =>
        obtain ⟨y1, y2, y3⟩ := s1 hs
        obtain ⟨u1, u2⟩ := h.oth o ho4 y3 q2 (by rw [y2, ec]; exact q1)
        exact r_ireturn C d_Job_doLeaf_196 rfl ⟨u2, Or.inl ⟨rfl, by rw [lfE (by omega)]; exact y1, by rw [lfE (by omega)]; exact u1⟩⟩
      | some kk =>
        obtain ⟨S2, y1, y2, y3⟩ := s2 kk hs
        obtain ⟨u1, u2⟩ := h.oth o ho4 y3 q2 (by rw [y2, ec]; exact q1)
        have hk24 : ∀ (n k : Nat) (g : Nat → Int64), k + n ≤ 24 → ∀ z, (shaG (S.1 2 o) (Int32.ofInt (S.1 7 j)).toInt64 k n g).1 = some z → z < 24 := by
          intro n
          induction n with
          | zero => intro k g _ z hz; cases hz
          | succ n ih =>
            intro k g hk z hz
            rw [shaG] at hz
            split at hz
            · cases hz; omega
            · exact ih (k + 1) _ (by omega) z hz
        exact r_ireturn C d_Job_doLeaf_196 rfl ⟨u2, Or.inr ⟨S2, kk, rfl, hk24 _ _ _ (by omega) kk hs, by rw [lfE (by omega), y1, hj], y3.1, y3.2.1 21 (by decide), u1⟩⟩
    · rintro a w' ⟨e9, -⟩
      cases e9
  · have hc : S.1 5 j = 0 ∨ S.1 5 j = 1 ∨ S.1 5 j = 2 ∨ S.1 5 j = 3 ∨ S.1 5 j = 4 := by omega
    rcases hc with k0 | k0 | k0 | k0 | k0
    · rw [k0]
      refine zr_tableIn (tgt := 40) (off := 36) C d_Job_doLeaf_4 (by unfold zok; omega) (by decide) (by decide) rfl (by decide) ?_
      refine r_aload_n C d_Job_doLeaf_40 rfl rfl ?_
      refine r_aload_n C d_Job_doLeaf_41 rfl rfl ?_
      refine g_Job_24 C d_Job_doLeaf_42 J.1 hrw ?_
      refine r_aload_n C d_Job_doLeaf_45 rfl rfl ?_
      refine g_Job_34 C d_Job_doLeaf_46 T.1 f4 ?_
      refine r_aload_n C d_Job_doLeaf_49 rfl rfl ?_
      refine g_Job_39 C d_Job_doLeaf_50 T.1 f5 ?_
      refine c_Job_42 C d_Job_doLeaf_53 hw.1 (m_sumOf 2 hw (by omega) hz ht0 lo hi (by omega) (by omega)) (by omega) (Nat.le_of_ble_eq_true rfl) (fxPure.k1 ?_) fxPure.k2
      refine p_Job_48 C d_Job_doLeaf_56 rfl rfl T.1 ?_
      rw [sumE (by omega)]
      refine r_iconst C d_Job_doLeaf_59 rfl ?_
      have eL : mLeaf S t = (true, sq S 21 t (mReduced S t)) := by rw [e, if_pos (by omega)]
      exact r_ireturn C d_Job_doLeaf_60 rfl ⟨CF_put T.1 (by decide), Or.inl ⟨rfl, by rw [eL], by rw [eL]; exact putR _⟩⟩
    · rw [k0]
      refine zr_tableIn (tgt := 61) (off := 57) C d_Job_doLeaf_4 (by unfold zok; omega) (by decide) (by decide) rfl (by decide) ?_
      refine r_aload_n C d_Job_doLeaf_61 rfl rfl ?_
      refine r_aload_n C d_Job_doLeaf_62 rfl rfl ?_
      refine g_Job_24 C d_Job_doLeaf_63 J.1 hrw ?_
      refine r_aload_n C d_Job_doLeaf_66 rfl rfl ?_
      refine g_Job_34 C d_Job_doLeaf_67 T.1 f4 ?_
      refine r_aload_n C d_Job_doLeaf_70 rfl rfl ?_
      refine g_Job_39 C d_Job_doLeaf_71 T.1 f5 ?_
      refine c_Job_52 C d_Job_doLeaf_74 hw.1 (m_greatestOf 2 hw (by omega) lo hi (by omega) (by omega)) (by omega) (Nat.le_of_ble_eq_true rfl) (fxPure.k1 ?_) fxPure.k2
      refine p_Job_48 C d_Job_doLeaf_77 rfl rfl T.1 ?_
      rw [show redF (fun v u => if v < u then u else v) (rowG S o) (lo + 1) (hi - (lo + 1)) (rowG S o lo) = mReduced S t by rw [rE]; exact (redF_congr _ _ _ (fun v u => by unfold joinF; rw [if_pos k0, max_eq]) (fun _ _ _ => rfl)).symm]
      refine r_iconst C d_Job_doLeaf_80 rfl ?_
      have eL : mLeaf S t = (true, sq S 21 t (mReduced S t)) := by rw [e, if_pos (by omega)]
      exact r_ireturn C d_Job_doLeaf_81 rfl ⟨CF_put T.1 (by decide), Or.inl ⟨rfl, by rw [eL], by rw [eL]; exact putR _⟩⟩
    · rw [k0]
      refine zr_tableIn (tgt := 82) (off := 78) C d_Job_doLeaf_4 (by unfold zok; omega) (by decide) (by decide) rfl (by decide) ?_
      refine r_aload_n C d_Job_doLeaf_82 rfl rfl ?_
      refine g_Job_55 C d_Job_doLeaf_83 J.1 J.2.2.2.2.2.2.2.2.2.1 ?_
      refine zr_if_eq (tgt := 111) C d_Job_doLeaf_86 (by decide) (by split <;> exact ⟨by decide, by decide⟩) (fun c_86 => ?_) (fun c_86 => ?_)
      · have rd : S.1 13 j = 1 := by
          by_cases z : S.1 13 j = 2
          · rw [if_pos z] at c_86; exact absurd c_86 (by decide)
          · omega
        refine r_aload_n C d_Job_doLeaf_111 rfl rfl ?_
        refine r_aload_n C d_Job_doLeaf_112 rfl rfl ?_
        refine g_Job_24 C d_Job_doLeaf_113 J.1 hrw ?_
        refine r_aload_n C d_Job_doLeaf_116 rfl rfl ?_
        refine g_Job_34 C d_Job_doLeaf_117 T.1 f4 ?_
        refine r_aload_n C d_Job_doLeaf_120 rfl rfl ?_
        refine g_Job_39 C d_Job_doLeaf_121 T.1 f5 ?_
        refine c_Job_42 C d_Job_doLeaf_124 hw.1 (m_sumOf 2 hw (by omega) hz ht0 lo hi (by omega) (by omega)) (by omega) (Nat.le_of_ble_eq_true rfl) (fxPure.k1 ?_) fxPure.k2
        refine p_Job_48 C d_Job_doLeaf_127 rfl rfl T.1 ?_
        rw [sumE (by omega)]
        refine r_iconst C d_Job_doLeaf_130 rfl ?_
        have eL : mLeaf S t = (true, sq S 21 t (mReduced S t)) := by rw [e, if_pos (by omega)]
        exact r_ireturn C d_Job_doLeaf_131 rfl ⟨CF_put T.1 (by decide), Or.inl ⟨rfl, by rw [eL], by rw [eL]; exact putR _⟩⟩
      · have rd : S.1 13 j = 2 := by
          by_cases z : S.1 13 j = 2
          · exact z
          · rw [if_neg z] at c_86; exact absurd rfl c_86
        refine r_aload_n C d_Job_doLeaf_89 rfl rfl ?_
        refine g_Job_24 C d_Job_doLeaf_90 J.1 hrw ?_
        refine r_aload_n C d_Job_doLeaf_93 rfl rfl ?_
        refine g_Job_34 C d_Job_doLeaf_94 T.1 f4 ?_
        refine r_aload_n C d_Job_doLeaf_97 rfl rfl ?_
        refine g_Job_39 C d_Job_doLeaf_98 T.1 f5 ?_
        refine r_aload_n C d_Job_doLeaf_101 rfl rfl ?_
        refine g_Job_59 C d_Job_doLeaf_102 T.1 T.2.2.2.2.2.2.2.2.2 ?_
        refine c_Job_62 C d_Job_doLeaf_105 hw.1 (m_addUp 2 hw (by omega) hz ht0 lo hi _ (by omega) (by omega)) (by omega) (Nat.le_of_ble_eq_true rfl) ?_ ?_
        · rintro v' w' ⟨e9, q1, q2⟩
          cases e9
          refine r_goto (tgt := 130) C d_Job_doLeaf_108 (by decide) ?_
          refine r_iconst C d_Job_doLeaf_130 rfl ?_
          obtain ⟨z1, z2⟩ := spr_eq (j := j) (a := o) (ty := S.1 2 o) (hi - lo) lo (S.2 22 t) S (by omega) (by omega) eT
          obtain ⟨y1, y2⟩ := h.oth o ho4 z2 q2 (by rw [z1, ec]; exact q1)
          have eL : mLeaf S t = (true, sprF j (24 * o) lo (hi - lo) (S.2 22 t) S) := by rw [e, if_neg (by omega), if_pos k0]
          exact r_ireturn C d_Job_doLeaf_131 rfl ⟨y2, Or.inl ⟨rfl, by rw [eL], by rw [eL]; exact y1⟩⟩
        · rintro a w' ⟨e9, -⟩
          cases e9
    · rw [k0]
      refine zr_tableIn (tgt := 132) (off := 128) C d_Job_doLeaf_4 (by unfold zok; omega) (by decide) (by decide) rfl (by decide) ?_
      refine r_aload_n C d_Job_doLeaf_132 rfl rfl ?_
      refine g_Job_24 C d_Job_doLeaf_133 J.1 hrw ?_
      refine r_aload_n C d_Job_doLeaf_136 rfl rfl ?_
      refine g_Job_34 C d_Job_doLeaf_137 T.1 f4 ?_
      refine r_aload_n C d_Job_doLeaf_140 rfl rfl ?_
      refine g_Job_39 C d_Job_doLeaf_141 T.1 f5 ?_
      refine c_Job_66 C d_Job_doLeaf_144 hw.1 (m_putInOrder 2 hw lo hi (by omega) (by omega)) (by omega) (Nat.le_of_ble_eq_true rfl) ?_ ?_
      · rintro v' w' ⟨e9, q1, q2⟩
        cases e9
        refine r_iconst C d_Job_doLeaf_147 rfl ?_
        obtain ⟨z1, z2⟩ := order_eq S o lo hi (by omega) (by omega)
        obtain ⟨y1, y2⟩ := h.oth o ho4 z2 q2 (by rw [z1, ec]; exact q1)
        have eL : mLeaf S t = (true, mOrder S (24 * o) lo hi) := by rw [e, if_neg (by omega), if_neg (by omega), if_pos k0]
        exact r_ireturn C d_Job_doLeaf_148 rfl ⟨y2, Or.inl ⟨rfl, by rw [eL], by rw [eL]; exact y1⟩⟩
      · rintro a w' ⟨e9, -⟩
        cases e9
    · rw [k0]
      refine zr_tableIn (tgt := 149) (off := 145) C d_Job_doLeaf_4 (by unfold zok; omega) (by decide) (by decide) rfl (by decide) ?_
      refine r_aload_n C d_Job_doLeaf_149 rfl rfl ?_
      refine g_Job_24 C d_Job_doLeaf_150 J.1 hrw ?_
      refine r_aload_n C d_Job_doLeaf_153 rfl rfl ?_
      refine g_Job_34 C d_Job_doLeaf_154 T.1 f4 ?_
      refine r_aload_n C d_Job_doLeaf_157 rfl rfl ?_
      refine g_Job_39 C d_Job_doLeaf_158 T.1 f5 ?_
      refine r_aload_n C d_Job_doLeaf_161 rfl rfl ?_
      refine g_Job_28 C d_Job_doLeaf_162 J.1 J.2.2.2.2.1 ?_
      refine r_i2l C d_Job_doLeaf_165 rfl ?_
      refine r_aload_n C d_Job_doLeaf_166 rfl rfl ?_
      refine g_Job_31 C d_Job_doLeaf_167 J.1 J.2.2.2.2.2.1 ?_
      refine r_i2l C d_Job_doLeaf_170 rfl ?_
      refine c_Job_70 C d_Job_doLeaf_171 hw.1 (m_mapAll 2 hw (by omega) hz ht0 lo hi _ _ (by omega) (by omega)) (by omega) (Nat.le_of_ble_eq_true rfl) ?_ ?_
      · rintro v' w' ⟨e9, q1, q2⟩
        cases e9
        refine r_iconst C d_Job_doLeaf_174 rfl ?_
        obtain ⟨z0, z1, z2⟩ := map_eq (j := j) (a := o) (ty := S.1 2 o) (hi - lo) lo S (by omega) k0 eT
        obtain ⟨y1, y2⟩ := h.oth o ho4 z2 q2 (by rw [z1, ec]; exact q1)
        exact r_ireturn C d_Job_doLeaf_175 rfl ⟨y2, Or.inl ⟨rfl, by rw [lfE (by omega)]; exact z0, by rw [lfE (by omega)]; exact y1⟩⟩
      · rintro a w' ⟨e9, -⟩
        cases e9

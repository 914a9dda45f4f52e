/-! THE WORKERS -/
/-- the addresses that were there stay -/
def Ax (S : Ms) (A A' : Ad) : Prop := ∀ k x : Nat, k ≠ 7 → k ≠ 9 → (k = 4 → (x : Int) < S.1 23 0) → (k = 3 → (x : Int) < S.1 14 0) → A' k x = A k x
theorem Ax.rf {S : Ms} {A : Ad} : Ax S A A := fun _ _ _ _ _ _ => rfl
theorem Ax.tr {S S' : Ms} {A A' A'' : Ad} (h : Ax S A A') (h' : Ax S' A' A'') (h1 : S.1 23 0 ≤ S'.1 23 0) (h2 : S.1 14 0 ≤ S'.1 14 0) : Ax S A A'' := fun k x a b c d => (h' k x a b (fun e => by have := c e; omega) (fun e => by have := d e; omega)).trans (h k x a b c d)
def cRt (G : fxG) (A : Ad) (S : Ms) (w : fxW) (v : Option Value) (S' : Ms) (c u : Nat) : Outcome → fxW → Prop := fun o w' => o = .returned v ∧ ∃ A', Ax S A A' ∧ Rc G A' S' w' ∧ CF c u w w'
section CRT
variable {G : fxG} {nL : Nat} {x : fxX} {Q : State → Prop} {w : fxW} {pc : Nat} {ls : List (Nat × Value)} {st : List Value} {A : Ad} {S S' : Ms} {v : Option Value} {c u : Nat}
theorem cRt.k1 (k : ∀ w' A', Ax S A A' → Rc G A' S' w' → CF c u w w' → fxR G nL x Q w' pc ls (v.toList ++ st)) : ∀ v' w', cRt G A S w v S' c u (.returned v') w' → fxR G nL x Q w' pc ls (v'.toList ++ st) := by
  rintro v' w' ⟨h, A', h1, h2, h3⟩
  cases h
  exact k w' A' h1 h2 h3
theorem cRt.k2 : ∀ a w', cRt G A S w v S' c u (.threw a) w' → fxRt G nL x Q w' pc ls st a := by
  rintro a w' ⟨h, -⟩
  cases h
end CRT
theorem CF.eq {c u : Nat} {w w' : fxW} (h : CF c u w w') (h1 : fxt w' = fxt w) (h2 : fxu w' = fxu w) : CF 0 0 w w' := ⟨h.1, by omega, h.2.2.1, by omega, h.2.2.2.2.1, h.2.2.2.2.2⟩
/-- the same lists -/
theorem Rc.sameq {G : fxG} {A : Ad} {S S' : Ms} {w : fxW} (h : Rc G A S w) (h1 : ∀ c, c ≠ 24 → c ≠ 25 → S'.1 c = S.1 c) (h2 : S'.2 = S.2) (hq : ∀ i : Nat, (i : Int) < S.1 1 0 → qL S' i = qL S i) : Rc G A S' w := by
  obtain ⟨hP, hR, hJ, hT, hW, hL⟩ := h
  have k0 : KM w w := fun _ _ h => h
  have f0 : ∀ c, FS c w w := fun _ _ _ _ _ _ => rfl
  have e0 : ∀ t, ES t w w := fun _ _ _ _ _ => rfl
  exact ⟨hP.ext k0 (f0 0) (fun t _ => e0 t) (fun c hc => h1 c (by omega) (by omega)), hR.ext k0 (f0 1) (e0 0) (h1 2 (by decide) (by decide)) (h1 3 (by decide) (by decide)) (fun _ _ _ _ => by rw [h2]), hJ.ext k0 (f0 2) (by rw [h1 14 (by decide) (by decide)]) (fun c hc => h1 c (by omega) (by omega)) (fun _ _ _ => by rw [h2]), hT.ext k0 (f0 3) (by rw [h1 23 (by decide) (by decide)]) (fun c hc => h1 c (by omega) (by omega)) (by rw [h2]) (by rw [h2]), hW.ext k0 (f0 4) (h1 1 (by decide) (by decide)) (fun c hc => h1 c (by omega) (by omega)), hL.ext k0 (f0 5) (e0 2) (h1 1 (by decide) (by decide)) hq⟩
theorem Rc.q {G : fxG} {A : Ad} {S : Ms} {w : fxW} (h : Rc G A S w) {i : Nat} (hi : (i : Int) < S.1 1 0) : fxk w (A 5 i) = some (4, 0) ∧ fxf w 256 (A 5 i) = .ref (A 6 i) ∧ AlAt G (A 6 i) (A 7 i) (A 9 i) ((qL S i).map (A 4)) w := ⟨(h.2.2.2.2.1.1 i hi).1, (h.2.2.2.2.1.1 i hi).2.1, h.2.2.2.2.2.1 i hi⟩
set_option maxRecDepth 20000 in
theorem m_queueLength {G : fxG} (d : Nat) {A : Ad} {S : Ms} {w : fxW} (h : Rc G A S w) (hd1 : 1 ≤ d) {i : Nat} (hi : (i : Int) < S.1 1 0) (hq : 0 ≤ S.1 25 i) : fxM G d y_Wk_queueLength [.ref (A 5 i)] w (fxPure (zi (S.1 25 i)) w) := by
  refine fxM.of cc_Wk_queueLength 1 (some .int) [] (by decide +kernel) w_Wk_queueLength (Nat.le_of_ble_eq_true rfl) ?_
  intro x C ht hu
  obtain ⟨h1, h2, h3⟩ := h.q hi
  show fxR G 1 x _ w 0 [(0, .ref (A 5 i))] []
  refine r_aload_n C d_Wk_queueLength_0 rfl rfl ?_
  refine g_Wk_10 C d_Wk_queueLength_1 h1 h2 ?_
  refine c_Wk_20 C d_Wk_queueLength_4 h3.1 (m_AL_size 0 h3) (by omega) (Nat.le_of_ble_eq_true rfl) (fxPure.k1 ?_) fxPure.k2
  exact r_ireturn C d_Wk_queueLength_7 rfl ⟨by rw [List.length_map, qL_len, Int.toNat_of_nonneg hq], rfl⟩
set_option maxRecDepth 20000 in
theorem m_putOnTop {G : fxG} (d : Nat) {A : Ad} {S : Ms} {w : fxW} (h : Rc G A S w) (hd1 : 7 ≤ d) {i t : Nat} (hi : (i : Int) < S.1 1 0) (hW4 : S.1 1 0 ≤ 4) (ht9 : (t : Int) < S.1 23 0) (hq0 : 0 ≤ S.1 25 i) (hq : S.1 25 i < 590) (hq6 : ∀ i', i' < 4 → S.1 25 i' ≤ 600) (h9 : fxt w + 1 ≤ fxmt G) (h8 : fxu w + 900 ≤ fxmu G) : fxM G d y_Wk_putOnTop [.ref (A 5 i), .ref (A 4 t)] w (cRt G A S w none (mPut S i t) 1 900) := by
  refine fxM.of cc_Wk_putOnTop 2 none [] (by decide +kernel) w_Wk_putOnTop (Nat.le_of_ble_eq_true rfl) ?_
  intro x C ht hu
  obtain ⟨h1, h2, h3⟩ := h.q hi
  show fxR G 2 x _ w 0 [(0, .ref (A 5 i)), (1, .ref (A 4 t))] []
  refine fx_dom (fun hdm => ?_)
  have hl : ((qL S i).map (A 4)).length = (S.1 25 i).toNat := by rw [List.length_map, qL_len]
  have htk := (h.2.2.2.1.1 t ht9).1
  have hqn : S.1 25 i = (((S.1 25 i).toNat : Nat) : Int) := by omega
  refine r_aload_n C d_Wk_putOnTop_0 rfl rfl ?_
  refine g_Wk_10 C d_Wk_putOnTop_1 h1 h2 ?_
  refine r_aload_n C d_Wk_putOnTop_4 rfl rfl ?_
  refine c_Wk_24 C d_Wk_putOnTop_5 h3.1 (m_add1 6 h3 (by omega) (by omega) h9 h8 (A 4 t) htk) (by omega) (Nat.le_of_ble_eq_true rfl) ?_ ?_
  · rintro v' w' ⟨e, ar', cap', q1, q2, q3, q4⟩
    cases e
    refine r_pop C d_Wk_putOnTop_8 rfl ?_
    obtain ⟨A', g1, g2, g3⟩ := Rc.list h hdm (mPut S i t) i hi hW4 q2 (by rw [qL_put (by omega) hqn, List.map_append]; exact q1) (q3.imp id fun z => ⟨z, by rw [z] at q4 ⊢; exact q4⟩) (fun c a b => funext fun x => mPut_c _ _ _ _ a b) rfl (fun i' a b => qL_put' (Ne.symm b) hqn (by omega) (hq6 i' a))
    exact r_return C d_Wk_putOnTop_9 rfl ⟨rfl, A', fun k x a b _ _ => g1 k x a b, g2, g3⟩
  · rintro a w' ⟨e, -⟩
    cases e
theorem map_getD (l : List Nat) (f : Nat → Nat) (k : Nat) (hk : k < l.length) : (l.map f).getD k 0 = f (l.getD k 0) := by
  rw [List.getD_eq_getElem?_getD, List.getD_eq_getElem?_getD, List.getElem?_map, List.getElem?_eq_getElem hk]; rfl
theorem qL_getD {S : Ms} {i k : Nat} (hk : (k : Int) < S.1 25 i) : (qL S i).getD k 0 = (S.1 24 (600 * i + k)).toNat := by
  have hl : k < (qL S i).length := by rw [qL_len]; omega
  rw [List.getD_eq_getElem?_getD, List.getElem?_eq_getElem hl, qL_at]; rfl
theorem map_erase (l : List Nat) (f : Nat → Nat) (k : Nat) : (l.map f).eraseIdx k = (l.eraseIdx k).map f := by
  induction l generalizing k with
  | nil => rfl
  | cons a l ih =>
    cases k with
    | zero => rfl
    | succ k => show f a :: (l.map f).eraseIdx k = f a :: (l.eraseIdx k).map f; rw [ih]
/-- a task is taken from a queue -/
theorem Rc.rem {G : fxG} {A : Ad} {S : Ms} {w w' : fxW} (h : Rc G A S w) (hdm : ∀ a c n, fxk w a = some (c, n) → a < fxt w) {i k : Nat} (hi : (i : Int) < S.1 1 0) (hW4 : S.1 1 0 ≤ 4) (hk : (k : Int) < S.1 25 i) (hq6 : ∀ i', i' < 4 → S.1 25 i' ≤ 600) (q1 : AlAt G (A 6 i) (A 7 i) (A 9 i) (((qL S i).map (A 4)).eraseIdx k) w') (q2 : LF (A 6 i) (A 7 i) w w') (q3 : fxt w' = fxt w) (q4 : fxu w' = fxu w) : ∃ A', Ax S A A' ∧ Rc G A' (mPull S i k) w' ∧ CF 0 0 w w' := by
  have hqn : S.1 25 i = (((S.1 25 i).toNat : Nat) : Int) := by omega
  obtain ⟨A', g1, g2, g3⟩ := Rc.list h hdm (mPull S i k) i hi hW4 q2 (by rw [qL_pull hqn (by omega), ← map_erase]; exact q1) (Or.inl rfl) (fun c a b => funext fun x => mPull_k _ _ a b) rfl (fun i' a b => qL_pull' (Ne.symm b) hqn (by omega) (by have := hq6 i (by omega); omega) (hq6 i' a))
  exact ⟨A', fun k x a b _ _ => g1 k x a b, g2, g3.eq q3 q4⟩
set_option maxRecDepth 20000 in
theorem m_takeTop {G : fxG} (d : Nat) {A : Ad} {S : Ms} {w : fxW} (h : Rc G A S w) (hd1 : 3 ≤ d) {i k : Nat} (hi : (i : Int) < S.1 1 0) (hW4 : S.1 1 0 ≤ 4) (hk : S.1 25 i = ((k + 1 : Nat) : Int)) (hq6 : ∀ i', i' < 4 → S.1 25 i' ≤ 600) : fxM G d y_Wk_takeTop [.ref (A 5 i)] w (cRt G A S w (some (.ref (A 4 (S.1 24 (600 * i + k)).toNat))) (mPull S i k) 0 0) := by
  refine fxM.of cc_Wk_takeTop 1 (some (.object "ForkPool$Task")) [] (by decide +kernel) w_Wk_takeTop (Nat.le_of_ble_eq_true rfl) ?_
  intro x C ht hu
  obtain ⟨h1, h2, h3⟩ := h.q hi
  show fxR G 1 x _ w 0 [(0, .ref (A 5 i))] []
  refine fx_dom (fun hdm => ?_)
  have hl : ((qL S i).map (A 4)).length = k + 1 := by rw [List.length_map, qL_len, hk]; rfl
  have eg : ((qL S i).map (A 4)).getD k 0 = A 4 (S.1 24 (600 * i + k)).toNat := by rw [map_getD _ _ _ (by rw [qL_len]; omega), qL_getD (by omega)]
  refine r_aload_n C d_Wk_takeTop_0 rfl rfl ?_
  refine g_Wk_10 C d_Wk_takeTop_1 h1 h2 ?_
  refine r_aload_n C d_Wk_takeTop_4 rfl rfl ?_
  refine g_Wk_10 C d_Wk_takeTop_5 h1 h2 ?_
  refine c_Wk_20 C d_Wk_takeTop_8 h3.1 (m_AL_size 0 h3) (by omega) (Nat.le_of_ble_eq_true rfl) (fxPure.k1 ?_) fxPure.k2
  refine r_iconst C d_Wk_takeTop_11 rfl ?_
  refine zr_isub C d_Wk_takeTop_12 ?_
  rw [hl, show ((k + 1 : Nat) : Int) - 1 = (k : Int) by omega]
  refine c_Wk_28 C d_Wk_takeTop_13 h3.1 (m_AL_remove 2 h3 (by omega) k (by omega)) (by omega) (Nat.le_of_ble_eq_true rfl) ?_ ?_
  · rintro v' w' ⟨e, q1, q2, q3, q4⟩
    cases e
    obtain ⟨A', g1, g2, g3⟩ := h.rem hdm hi hW4 (by omega) hq6 q1 q2 q3 q4
    have hty : fxk w' (((qL S i).map (A 4)).getD k 0) = some (3, 0) := g3.km _ _ (h3.2.2.2.2.2 _ (by rw [List.getD_eq_getElem?_getD, List.getElem?_eq_getElem (show k < ((qL S i).map (A 4)).length by omega)]; exact List.getElem_mem _))
    refine r_castT C d_Wk_takeTop_16 (fxTW_in 531 (by decide +kernel) rfl) hty ?_
    rw [eg]
    exact r_areturn C d_Wk_takeTop_19 rfl (Or.inl ⟨_, rfl⟩) (Or.inr ⟨_, rfl⟩) ⟨rfl, A', g1, g2, g3⟩
  · rintro a w' ⟨e, -⟩
    cases e
set_option maxRecDepth 20000 in
theorem m_takeBottom {G : fxG} (d : Nat) {A : Ad} {S : Ms} {w : fxW} (h : Rc G A S w) (hd1 : 3 ≤ d) {i : Nat} (hi : (i : Int) < S.1 1 0) (hW4 : S.1 1 0 ≤ 4) (hk : 0 < S.1 25 i) (hq6 : ∀ i', i' < 4 → S.1 25 i' ≤ 600) : fxM G d y_Wk_takeBottom [.ref (A 5 i)] w (cRt G A S w (some (.ref (A 4 (S.1 24 (600 * i + 0)).toNat))) (mPull S i 0) 0 0) := by
  refine fxM.of cc_Wk_takeBottom 1 (some (.object "ForkPool$Task")) [] (by decide +kernel) w_Wk_takeBottom (Nat.le_of_ble_eq_true rfl) ?_
  intro x C ht hu
  obtain ⟨h1, h2, h3⟩ := h.q hi
  show fxR G 1 x _ w 0 [(0, .ref (A 5 i))] []
  refine fx_dom (fun hdm => ?_)
  have hl : 0 < ((qL S i).map (A 4)).length := by rw [List.length_map, qL_len]; omega
  have eg : ((qL S i).map (A 4)).getD 0 0 = A 4 (S.1 24 (600 * i + 0)).toNat := by rw [map_getD _ _ _ (by rw [qL_len]; omega), qL_getD (by omega)]
  refine r_aload_n C d_Wk_takeBottom_0 rfl rfl ?_
  refine g_Wk_10 C d_Wk_takeBottom_1 h1 h2 ?_
  refine r_iconst C d_Wk_takeBottom_4 rfl ?_
  rw [show Value.int (Int32.ofInt 0) = zi ((0 : Nat) : Int) from rfl]
  refine c_Wk_28 C d_Wk_takeBottom_5 h3.1 (m_AL_remove 2 h3 (by omega) 0 hl) (by omega) (Nat.le_of_ble_eq_true rfl) ?_ ?_
  · rintro v' w' ⟨e, q1, q2, q3, q4⟩
    cases e
    obtain ⟨A', g1, g2, g3⟩ := h.rem hdm hi hW4 (by omega) hq6 q1 q2 q3 q4
    have hty : fxk w' (((qL S i).map (A 4)).getD 0 0) = some (3, 0) := g3.km _ _ (h3.2.2.2.2.2 _ (by rw [List.getD_eq_getElem?_getD, List.getElem?_eq_getElem hl]; exact List.getElem_mem _))
    refine r_castT C d_Wk_takeBottom_8 (fxTW_in 531 (by decide +kernel) rfl) hty ?_
    rw [eg]
    exact r_areturn C d_Wk_takeBottom_11 rfl (Or.inl ⟨_, rfl⟩) (Or.inr ⟨_, rfl⟩) ⟨rfl, A', g1, g2, g3⟩
  · rintro a w' ⟨e, -⟩
    cases e
set_option maxRecDepth 20000 in
theorem m_fromTop {G : fxG} (d : Nat) {A : Ad} {S : Ms} {w : fxW} (h : Rc G A S w) (hd1 : 3 ≤ d) {i k : Nat} (hi : (i : Int) < S.1 1 0) (hk : (k : Int) < S.1 25 i) (hq6 : S.1 25 i ≤ 600) : fxM G d y_Wk_fromTop [.ref (A 5 i), zi (k : Int)] w (fxPure (.ref (A 4 (topT S i k))) w) := by
  refine fxM.of cc_Wk_fromTop 2 (some (.object "ForkPool$Task")) [] (by decide +kernel) w_Wk_fromTop (Nat.le_of_ble_eq_true rfl) ?_
  intro x C ht hu
  obtain ⟨h1, h2, h3⟩ := h.q hi
  show fxR G 2 x _ w 0 [(0, .ref (A 5 i)), (1, zi (k : Int))] []
  have hl : ((qL S i).map (A 4)).length = (S.1 25 i).toNat := by rw [List.length_map, qL_len]
  have hlt : (S.1 25 i).toNat - 1 - k < ((qL S i).map (A 4)).length := by omega
  have eg : ((qL S i).map (A 4)).getD ((S.1 25 i).toNat - 1 - k) 0 = A 4 (topT S i k) := by rw [map_getD _ _ _ (by rw [qL_len]; omega), qL_getD (by omega)]; rfl
  refine r_aload_n C d_Wk_fromTop_0 rfl rfl ?_
  refine g_Wk_10 C d_Wk_fromTop_1 h1 h2 ?_
  refine r_aload_n C d_Wk_fromTop_4 rfl rfl ?_
  refine g_Wk_10 C d_Wk_fromTop_5 h1 h2 ?_
  refine c_Wk_20 C d_Wk_fromTop_8 h3.1 (m_AL_size 0 h3) (by omega) (Nat.le_of_ble_eq_true rfl) (fxPure.k1 ?_) fxPure.k2
  refine r_iconst C d_Wk_fromTop_11 rfl ?_
  refine zr_isub C d_Wk_fromTop_12 ?_
  refine r_iload_n C d_Wk_fromTop_13 rfl rfl ?_
  refine zr_isub C d_Wk_fromTop_14 ?_
  rw [hl, show (((S.1 25 i).toNat : Nat) : Int) - 1 - (k : Int) = (((S.1 25 i).toNat - 1 - k : Nat) : Int) by omega]
  refine c_Wk_34 C d_Wk_fromTop_15 h3.1 (m_AL_get 2 h3 (by omega) _ hlt) (by omega) (Nat.le_of_ble_eq_true rfl) (fxPure.k1 ?_) fxPure.k2
  have hty : fxk w (((qL S i).map (A 4)).getD ((S.1 25 i).toNat - 1 - k) 0) = some (3, 0) := h3.2.2.2.2.2 _ (by rw [List.getD_eq_getElem?_getD, List.getElem?_eq_getElem hlt]; exact List.getElem_mem _)
  refine r_castT C d_Wk_fromTop_18 (fxTW_in 531 (by decide +kernel) rfl) hty ?_
  rw [eg]
  exact r_areturn C d_Wk_fromTop_21 rfl (Or.inl ⟨_, rfl⟩) (Or.inr ⟨_, rfl⟩) ⟨rfl, rfl⟩

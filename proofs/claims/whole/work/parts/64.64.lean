/-! ArrayList grows -/
theorem fx_dom {G : fxG} {nL : Nat} {x : fxX} {Q : State → Prop} {w : fxW} {pc : Nat} {ls : List (Nat × Value)} {st : List Value} (k : (∀ a c n, fxk w a = some (c, n) → a < fxt w) → fxR G nL x Q w pc ls st) : fxR G nL x Q w pc ls st :=
  fun H locs sl cells slots h1 h2 h3 h4 h5 => k (fun _ _ _ h => h1.lt h) H locs sl cells slots h1 h2 h3 h4 h5
theorem fxk_newa (w : fxW) (t n : Nat) (z : Value) : fxk (fx_newa w t n z) (fxt w) = some (100 + t, n) := if_pos rfl
theorem fxk_newaN (w : fxW) (t n : Nat) (z : Value) {a : Nat} (h : a ≠ fxt w) : fxk (fx_newa w t n z) a = fxk w a := if_neg h
theorem fxe_newaN (w : fxW) (t n : Nat) (z : Value) {t' a j : Nat} (h : a ≠ fxt w) : fxe (fx_newa w t n z) t' a j = fxe w t' a j := if_neg h
theorem fxe_newa (w : fxW) (t n : Nat) (z : Value) (t' j : Nat) : fxe (fx_newa w t n z) t' (fxt w) j = z := if_pos rfl
def cpW (w : fxW) (ar n n' : Nat) : fxW := fx_sta (fx_newa w 2 n' .null) 2 (fxt w) (va_cpy (fun j => fxe w 2 ar j) (fun _ => .null) 0 0 n)
set_option maxRecDepth 20000 in
theorem m_copyOf3 {G : fxG} (d : Nat) {w : fxW} {ar n n' : Nat} (hd1 : 1 ≤ d) (ha : fxk w ar = some (102, n)) (hn : n ≤ n') (hn9 : n' ≤ 900) (hel : ∀ i, i < n → ∃ y, fxe w 2 ar i = .ref y ∧ fxk w y = some (3, 0)) (h9 : fxt w + 1 ≤ fxmt G) (h8 : fxu w + n' ≤ fxmu G) : fxM G d y_Ar_copyOf3 [.ref ar, zi (n' : Int), .ref (fxad G 1)] w (fun o w' => o = .returned (some (.ref (fxt w))) ∧ w' = cpW w ar n n') := by
  refine fxM.of cc_Ar_copyOf3 4 (some (.array (.object "java/lang/Object"))) [] (by decide +kernel) w_Ar_copyOf3 (Nat.le_of_ble_eq_true rfl) ?_
  intro x C ht hu
  show fxR G 4 x _ w 0 [(0, .ref ar), (1, zi (n' : Int)), (2, .ref (fxad G 1))] []
  refine fx_dom (fun hdm => ?_)
  have har := hdm _ _ _ ha
  refine r_aload_n C d_Ar_copyOf3_0 rfl rfl ?_
  refine r_ldcM C d_Ar_copyOf3_1 ?_
  refine r_acmp_ne (ra := some (fxad G 1)) (rb := some (fxad G 1)) (tgt := 13) C d_Ar_copyOf3_3 (by decide) (fun q => absurd rfl q) (fun _ => ?_)
  refine r_iload_n C d_Ar_copyOf3_6 rfl rfl ?_
  refine an_Ar_2 (N := n') C d_Ar_copyOf3_7 rfl (by omega) h9 h8 ?_
  refine r_goto (tgt := 24) C d_Ar_copyOf3_10 (by decide) ?_
  refine r_astore_n (ls' := [(3, _), (0, _), (1, _), (2, _)]) C d_Ar_copyOf3_24 rfl (by decide) rfl ?_
  refine r_aload_n C d_Ar_copyOf3_25 rfl rfl ?_
  refine r_iconst C d_Ar_copyOf3_26 rfl ?_
  refine r_aload_n C d_Ar_copyOf3_27 rfl rfl ?_
  refine r_iconst C d_Ar_copyOf3_28 rfl ?_
  refine r_aload_n C d_Ar_copyOf3_29 rfl rfl ?_
  refine zr_alen C d_Ar_copyOf3_30 (by decide) (t := 2) (Or.inl ((fxk_newaN w 2 n' .null (by omega)).trans ha)) ?_
  refine r_iload_n C d_Ar_copyOf3_31 rfl rfl ?_
  refine c_Ar_304 C d_Ar_copyOf3_32 (m_minI 0 _ _ _ (by unfold zok; omega) (by unfold zok; omega)) (by omega) (Nat.le_of_ble_eq_true rfl) (fxPure.k1 ?_) fxPure.k2
  rw [show (if (n' : Int) < (n : Int) then (n' : Int) else (n : Int)) = (n : Int) by split <;> omega]
  rw [show Value.int (Int32.ofInt 0) = zi ((0 : Nat) : Int) from rfl]
  refine r_copy C d_Ar_copyOf3_35 (fxTW_in 487 (by decide +kernel) rfl) (n0 := n) (n1 := n') ((fxk_newaN w 2 n' .null (by omega)).trans ha) (fxk_newa w 2 n' .null) (by omega) (by omega) (by omega) (by omega) (fun i hi => ?_) hd1 (Nat.le_of_ble_eq_true rfl) ?_
  · obtain ⟨y, q1, q2⟩ := hel i hi
    have hy := hdm _ _ _ q2
    refine Or.inr ⟨y, ?_, (fxk_newaN w 2 n' .null (by omega)).trans q2⟩
    rw [Nat.zero_add]
    exact (fxe_newaN w 2 n' .null (by omega)).trans q1
  refine r_aload_n C d_Ar_copyOf3_38 rfl rfl ?_
  refine r_areturn C d_Ar_copyOf3_39 rfl (Or.inr ⟨_, rfl⟩) (Or.inr ⟨_, rfl⟩) ⟨rfl, ?_⟩
  unfold cpW
  congr 1
  funext k
  unfold va_cpy
  by_cases q : 0 ≤ k ∧ k < 0 + n
  · rw [if_pos q, if_pos q]; exact fxe_newaN w 2 n' .null (by omega)
  · rw [if_neg q, if_neg q]; exact fxe_newa w 2 n' .null 2 k
set_option maxRecDepth 20000 in
theorem m_copyOf2 {G : fxG} (d : Nat) {w : fxW} {ar n n' : Nat} (hd1 : 2 ≤ d) (ha : fxk w ar = some (102, n)) (hn : n ≤ n') (hn9 : n' ≤ 900) (hel : ∀ i, i < n → ∃ y, fxe w 2 ar i = .ref y ∧ fxk w y = some (3, 0)) (h9 : fxt w + 1 ≤ fxmt G) (h8 : fxu w + n' ≤ fxmu G) : fxM G d y_Ar_copyOf2 [.ref ar, zi (n' : Int)] w (fun o w' => o = .returned (some (.ref (fxt w))) ∧ w' = cpW w ar n n') := by
  refine fxM.of cc_Ar_copyOf2 2 (some (.array (.object "java/lang/Object"))) [] (by decide +kernel) w_Ar_copyOf2 (Nat.le_of_ble_eq_true rfl) ?_
  intro x C ht hu
  show fxR G 2 x _ w 0 [(0, .ref ar), (1, zi (n' : Int))] []
  refine r_aload_n C d_Ar_copyOf2_0 rfl rfl ?_
  refine r_iload_n C d_Ar_copyOf2_1 rfl rfl ?_
  refine r_aload_n C d_Ar_copyOf2_2 rfl rfl ?_
  refine r_getC C d_Ar_copyOf2_3 ha (by omega) (Nat.le_of_ble_eq_true rfl) ?_
  refine c_Ar_300 C d_Ar_copyOf2_6 (m_copyOf3 1 (by omega) ha hn hn9 hel h9 h8) (by omega) (Nat.le_of_ble_eq_true rfl) ?_ ?_
  · rintro v' w' ⟨e, rfl⟩
    cases e
    exact r_areturn C d_Ar_copyOf2_9 rfl (Or.inr ⟨_, rfl⟩) (Or.inr ⟨_, rfl⟩) ⟨rfl, rfl⟩
  · rintro a w' ⟨e, -⟩
    cases e
/-- what growing gives -/
def lsGr (G : fxG) (l ar : Nat) (c : List Nat) (w : fxW) : Outcome → fxW → Prop := fun o w' => o = .returned (some (.ref (fxt w))) ∧ ∃ cap', AlAt G l (fxt w) cap' c w' ∧ c.length < cap' ∧ LF l ar w w' ∧ fxk w' (fxt w) = some (102, cap') ∧ ar ≠ fxt w
theorem LF.newa {l ar t n : Nat} {w : fxW} {z : Value} (hn : n ≤ 900) : LF l ar w (fx_newa w t n z) :=
  ⟨by show fxt w ≤ fxt w + 1; omega, by show fxt w + 1 ≤ fxt w + 1; omega, by show fxu w ≤ fxu w + n; omega, by show fxu w + n ≤ fxu w + 900; omega, fun a ha => fxk_newaN w t n z ha, fun _ _ _ => rfl, fun t' a j ha _ => fxe_newaN w t n z ha⟩
set_option maxRecDepth 20000 in
theorem m_grow1 {G : fxG} (d : Nat) {w : fxW} {l ar cap : Nat} {c : List Nat} (h : AlAt G l ar cap c w) (hd1 : 3 ≤ d) (hfull : c.length = cap) (hc : c.length ≤ 590) (h9 : fxt w + 1 ≤ fxmt G) (h8 : fxu w + 900 ≤ fxmu G) : fxM G d y_AL_grow1 [.ref l, zi ((c.length + 1 : Nat) : Int)] w (lsGr G l ar c w) := by
  refine fxM.of cc_AL_grow1 4 (some (.array (.object "java/lang/Object"))) [] (by decide +kernel) w_AL_grow1 (Nat.le_of_ble_eq_true rfl) ?_
  intro x C ht hu
  show fxR G 4 x _ w 0 [(0, .ref l), (1, zi ((c.length + 1 : Nat) : Int))] []
  refine fx_dom (fun hdm => ?_)
  obtain ⟨h1, h2, h3, ⟨mc, h4⟩, h5, h6⟩ := h
  have hl := hdm _ _ _ h1
  rcases h5 with ⟨p1, p2, p3, p4⟩ | ⟨p1, p2, p3, p4, p5⟩
  · subst p4
    have har := hdm _ _ _ p3
    refine r_aload_n C d_AL_grow1_0 rfl rfl ?_
    refine g_AL_9 C d_AL_grow1_1 h1 h2 ?_
    refine zr_alen C d_AL_grow1_4 (by decide) (t := 2) (Or.inr p3) ?_
    refine r_istore_n (ls' := [(2, _), (0, _), (1, _)]) C d_AL_grow1_5 rfl (by decide) rfl ?_
    refine r_iload_n C d_AL_grow1_6 rfl rfl ?_
    refine zr_if_gt (tgt := 20) C d_AL_grow1_7 (by decide) (by unfold zok; omega) (fun c_7 => ?_) (fun c_7 => ?_)
    · exact absurd c_7 (by omega)
    · refine r_aload_n C d_AL_grow1_10 rfl rfl ?_
      refine g_AL_9 C d_AL_grow1_11 h1 h2 ?_
      rw [p2]
      refine r_getsE C d_AL_grow1_14 ?_
      refine r_acmp_eq (ra := some (fxad G 0)) (rb := some (fxad G 0)) (tgt := 45) C d_AL_grow1_17 (by decide) (fun _ => ?_) (fun q => absurd rfl q)
      refine r_aload_n C d_AL_grow1_45 rfl rfl ?_
      refine r_bipush (v := Int32.ofInt 10) C d_AL_grow1_46 (by decide) ?_
      refine r_iload_n C d_AL_grow1_48 rfl rfl ?_
      refine c_AL_79 C d_AL_grow1_49 (m_maxI 0 w _ _ (by unfold zok; omega) (by unfold zok; omega)) (by omega) (Nat.le_of_ble_eq_true rfl) (fxPure.k1 ?_) fxPure.k2
      refine an_AL_7 (N := 10) C d_AL_grow1_52 (by simp) (by omega) h9 (by omega) ?_
      refine r_dup_x1 C d_AL_grow1_55 rfl rfl ?_
      refine p_AL_9 C d_AL_grow1_56 rfl rfl ((fxk_newaN w 2 10 .null (by omega)).trans h1) ?_
      refine r_areturn C d_AL_grow1_59 rfl (Or.inr ⟨_, rfl⟩) (Or.inr ⟨_, rfl⟩) ⟨rfl, 10, ⟨(fxk_newaN w 2 10 .null (by omega)).trans h1, fxf_put _ _ _ _, (fxf_putN _ _ (Or.inl (by decide))).trans h3, ⟨mc, (fxf_putN _ _ (Or.inl (by decide))).trans h4⟩, Or.inr ⟨fxk_newa w 2 10 .null, by simp, by omega, by omega, fun k hk => by simp at hk⟩, fun y hy => by cases hy⟩, by simp, (LF.newa (by omega)).put (by omega) (by omega), fxk_newa w 2 10 .null, by omega⟩
  · have har := hdm _ _ _ p1
    refine r_aload_n C d_AL_grow1_0 rfl rfl ?_
    refine g_AL_9 C d_AL_grow1_1 h1 h2 ?_
    refine zr_alen C d_AL_grow1_4 (by decide) (t := 2) (Or.inl p1) ?_
    refine r_istore_n (ls' := [(2, _), (0, _), (1, _)]) C d_AL_grow1_5 rfl (by decide) rfl ?_
    refine r_iload_n C d_AL_grow1_6 rfl rfl ?_
    refine zr_if_gt (tgt := 20) C d_AL_grow1_7 (by decide) (by unfold zok; omega) (fun c_7 => ?_) (fun c_7 => ?_)
    · refine r_iload_n C d_AL_grow1_20 rfl rfl ?_
      refine r_iload_n C d_AL_grow1_21 rfl rfl ?_
      refine r_iload_n C d_AL_grow1_22 rfl rfl ?_
      refine zr_isub C d_AL_grow1_23 ?_
      refine r_iload_n C d_AL_grow1_24 rfl rfl ?_
      refine r_iconst C d_AL_grow1_25 rfl ?_
      rw [show ((c.length + 1 : Nat) : Int) - (cap : Int) = 1 by omega]
      refine r_ishr1 C d_AL_grow1_26 (by omega) ?_
      refine c_AL_73 C d_AL_grow1_27 (m_newLength 1 w cap (by omega) (by omega) (by omega)) (by omega) (Nat.le_of_ble_eq_true rfl) (fxPure.k1 ?_) fxPure.k2
      refine r_istore_n (ls' := [(3, _), (2, _), (0, _), (1, _)]) C d_AL_grow1_30 rfl (by decide) rfl ?_
      refine r_aload_n C d_AL_grow1_31 rfl rfl ?_
      refine r_aload_n C d_AL_grow1_32 rfl rfl ?_
      refine g_AL_9 C d_AL_grow1_33 h1 h2 ?_
      refine r_iload_n C d_AL_grow1_36 rfl rfl ?_
      refine c_AL_66 C d_AL_grow1_37 (m_copyOf2 2 (by omega) p1 (by omega) (by omega) (fun i hi => ⟨_, p5 i (by omega), h6 _ ?_⟩) h9 (by omega)) (by omega) (Nat.le_of_ble_eq_true rfl) ?_ ?_
      · rw [List.getD_eq_getElem?_getD, List.getElem?_eq_getElem (show i < c.length by omega)]; exact List.getElem_mem _
      · rintro v' w' ⟨e, rfl⟩
        cases e
        have kN : ∀ a, a ≠ fxt w → fxk (cpW w ar cap (cap + cap / 2)) a = fxk w a := fun a ha => fxk_newaN w 2 _ .null ha
        refine r_dup_x1 C d_AL_grow1_40 rfl rfl ?_
        refine p_AL_9 C d_AL_grow1_41 rfl rfl ((kN l (by omega)).trans h1) ?_
        refine r_areturn C d_AL_grow1_44 rfl (Or.inr ⟨_, rfl⟩) (Or.inr ⟨_, rfl⟩) ⟨rfl, cap + cap / 2, ⟨(kN l (by omega)).trans h1, fxf_put _ _ _ _, (fxf_putN _ _ (Or.inl (by decide))).trans h3, ⟨mc, (fxf_putN _ _ (Or.inl (by decide))).trans h4⟩, Or.inr ⟨fxk_newa w 2 _ .null, by omega, by omega, by omega, fun k hk => ?_⟩, fun y hy => (kN y (by have := hdm _ _ _ (h6 y hy); omega)).trans (h6 y hy)⟩, by omega, ?_, fxk_newa w 2 _ .null, by omega⟩
        · show fxe (cpW w ar cap (cap + cap / 2)) 2 (fxt w) k = _
          unfold cpW
          rw [fxe_sta]
          unfold va_cpy
          rw [if_pos (by omega)]
          rw [show 0 + (k - 0) = k by omega]
          exact p5 k hk
        · refine LF.put ?_ (by omega) (by omega)
          obtain ⟨a1, a2, a3, a4, a5, a6, a7⟩ := LF.newa (l := l) (ar := ar) (t := 2) (n := cap + cap / 2) (w := w) (z := .null) (by omega)
          refine ⟨a1, a2, a3, a4, a5, a6, fun t a j q1 q2 => ?_⟩
          rw [← a7 t a j q1 q2]
          show (if t = 2 then (if a = fxt w then _ else _) else _) = _
          rw [if_neg q1]; split <;> rfl
      · rintro a w' ⟨e, -⟩
        cases e
    · exact absurd c_7 (by omega)
set_option maxRecDepth 20000 in
theorem m_grow0 {G : fxG} (d : Nat) {w : fxW} {l ar cap : Nat} {c : List Nat} (h : AlAt G l ar cap c w) (hd1 : 4 ≤ d) (hfull : c.length = cap) (hc : c.length ≤ 590) (h9 : fxt w + 1 ≤ fxmt G) (h8 : fxu w + 900 ≤ fxmu G) : fxM G d y_AL_grow0 [.ref l] w (lsGr G l ar c w) := by
  refine fxM.of cc_AL_grow0 1 (some (.array (.object "java/lang/Object"))) [] (by decide +kernel) w_AL_grow0 (Nat.le_of_ble_eq_true rfl) ?_
  intro x C ht hu
  show fxR G 1 x _ w 0 [(0, .ref l)] []
  refine r_aload_n C d_AL_grow0_0 rfl rfl ?_
  refine r_aload_n C d_AL_grow0_1 rfl rfl ?_
  refine g_AL_48 C d_AL_grow0_2 h.1 h.2.2.1 ?_
  refine r_iconst C d_AL_grow0_5 rfl ?_
  refine zr_iadd C d_AL_grow0_6 ?_
  rw [show (c.length : Int) + 1 = ((c.length + 1 : Nat) : Int) by omega]
  refine c_AL_69 C d_AL_grow0_7 h.1 (m_grow1 3 h (by omega) hfull hc h9 h8) (by omega) (Nat.le_of_ble_eq_true rfl) ?_ ?_
  · rintro v' w' ⟨e, q⟩
    cases e
    exact r_areturn C d_AL_grow0_10 rfl (Or.inr ⟨_, rfl⟩) (Or.inr ⟨_, rfl⟩) ⟨rfl, q⟩
  · rintro a w' ⟨e, -⟩
    cases e
def lsAd (G : fxG) (l ar : Nat) (c : List Nat) (o9 : Option Value) (w : fxW) : Outcome → fxW → Prop := fun o w' => o = .returned o9 ∧ ∃ ar' cap', AlAt G l ar' cap' c w' ∧ LF l ar w w' ∧ (ar' = ar ∨ ar' = fxt w) ∧ (fxk w' ar' = some (102, cap'))
set_option maxRecDepth 20000 in
theorem m_add3 {G : fxG} (d : Nat) {w : fxW} {l ar cap : Nat} {c : List Nat} (h : AlAt G l ar cap c w) (hd1 : 5 ≤ d) (hc : c.length ≤ 590) (h9 : fxt w + 1 ≤ fxmt G) (h8 : fxu w + 900 ≤ fxmu G) (y : Nat) (hy : fxk w y = some (3, 0)) : fxM G d y_AL_add3 [.ref l, .ref y, .ref ar, zi (c.length : Int)] w (lsAd G l ar (c ++ [y]) none w) := by
  refine fxM.of cc_AL_add3 4 none [] (by decide +kernel) w_AL_add3 (Nat.le_of_ble_eq_true rfl) ?_
  intro x C ht hu
  show fxR G 4 x _ w 0 [(0, .ref l), (1, .ref y), (2, .ref ar), (3, zi (c.length : Int))] []
  refine fx_dom (fun hdm => ?_)
  have hyd := hdm _ _ _ hy
  generalize hQ : lsAd G l ar (c ++ [y]) none w = QQ
  have fin : ∀ (w1 : fxW) (ar' cap' : Nat), AlAt G l ar' cap' c w1 → c.length < cap' → LF l ar w w1 → (ar' = ar ∨ ar' = fxt w) → fxk w1 ar' = some (102, cap') → fxk w1 y = some (3, 0) → fxR G 4 x (fxQ G x QQ) w1 11 [(2, .ref ar'), (0, .ref l), (1, .ref y), (3, zi (c.length : Int))] [] := by
    intro w1 ar' cap' f1 f2 f3 f4 f5 f6
    obtain ⟨h1, h2, h3, h4, h5, h6⟩ := f1
    refine r_aload_n C d_AL_add3_11 rfl rfl ?_
    refine r_iload_n C d_AL_add3_12 rfl rfl ?_
    refine r_aload_n C d_AL_add3_13 rfl rfl ?_
    refine zr_aastore (t := 2) (k := c.length) (ci := 3) C d_AL_add3_14 (by decide) rfl f5 f6 (by decide) rfl (Or.inr (fxTW_in 1016 (by decide +kernel) rfl)) rfl f2 (by have := (show cap' ≤ 900 by rcases h5 with ⟨q, -⟩ | ⟨-, -, -, q, -⟩ <;> omega); omega) ?_
    refine r_aload_n C d_AL_add3_15 rfl rfl ?_
    refine r_iload_n C d_AL_add3_16 rfl rfl ?_
    refine r_iconst C d_AL_add3_17 rfl ?_
    refine zr_iadd C d_AL_add3_18 ?_
    refine p_AL_48 C d_AL_add3_19 rfl rfl h1 ?_
    rw [show (c.length : Int) + 1 = (((c ++ [y]).length : Nat) : Int) by simp]
    rw [← hQ]
    have p5 : ∀ k, k < c.length → fxe w1 2 ar' k = .ref (c.getD k 0) := by
      rcases h5 with ⟨-, -, -, q⟩ | ⟨-, -, -, -, q⟩
      · intro k hk; rw [q] at hk; simp at hk
      · exact q
    have pc : 10 ≤ cap' ∧ cap' ≤ 900 := by rcases h5 with ⟨q, -⟩ | ⟨-, -, q, q', -⟩ <;> omega
    refine r_return C d_AL_add3_22 rfl ⟨rfl, ar', cap', ⟨h1, (fxf_putN _ _ (Or.inl (by decide))).trans h2, fxf_put _ _ _ _, ?_, Or.inr ⟨f5, by simp; omega, pc.1, pc.2, fun k hk => ?_⟩, fun z hz => ?_⟩, ?_, f4, f5⟩
    · obtain ⟨n, hn⟩ := h4
      exact ⟨n, (fxf_putN _ _ (Or.inl (by decide))).trans hn⟩
    · show fxe (fx_ast w1 2 ar' c.length (.ref y)) 2 ar' k = _
      simp at hk
      by_cases e : k = c.length
      · subst e
        rw [fxe_ast]
        simp
      · rw [fxe_astN _ _ (Or.inr (Or.inr e)), p5 k (by omega)]
        rw [List.getD_eq_getElem?_getD, List.getD_eq_getElem?_getD, List.getElem?_append_left (by omega)]
    · show fxk w1 z = _
      rcases List.mem_append.mp hz with q | q
      · exact h6 z q
      · rw [List.mem_singleton.mp q]; exact f6
    · refine LF.put ?_ (by omega) (by omega)
      rcases f4 with q | q
      · subst q; exact f3.ast
      · obtain ⟨a1, a2, a3, a4, a5, a6, a7⟩ := f3
        refine ⟨a1, a2, a3, a4, a5, a6, fun t a j q1 q2 => ?_⟩
        rw [fxe_astN _ _ (Or.inr (Or.inl (by omega)))]
        exact a7 t a j q1 q2
  have hka : fxk w ar = some (102, cap) ∨ fxk w ar = some (202, cap) := by
    rcases h.2.2.2.2.1 with ⟨q, -, q2, -⟩ | ⟨q, -⟩
    · rw [q]; exact Or.inr q2
    · exact Or.inl q
  have hlen := h.len
  have hcap : cap ≤ 900 := by rcases h.2.2.2.2.1 with ⟨q, -⟩ | ⟨-, -, -, q, -⟩ <;> omega
  refine r_iload_n C d_AL_add3_0 rfl rfl ?_
  refine r_aload_n C d_AL_add3_1 rfl rfl ?_
  refine zr_alen C d_AL_add3_2 (by decide) (t := 2) hka ?_
  refine zr_icmp_ne (tgt := 11) C d_AL_add3_3 (by decide) (by unfold zok; omega) (by unfold zok; omega) (fun c_3 => ?_) (fun c_3 => ?_)
  · rcases h.2.2.2.2.1 with ⟨q, -, -, q2⟩ | ⟨q, q2, -⟩
    · rw [q2] at c_3; simp at c_3; omega
    · exact fx_sub (ls' := [(2, .ref ar), (0, .ref l), (1, .ref y), (3, zi (c.length : Int))]) (by simp [fxL]) (fin w ar cap h (by omega) LF.rf (Or.inl rfl) q hy)
  · refine r_aload_n C d_AL_add3_6 rfl rfl ?_
    refine c_AL_129 C d_AL_add3_7 h.1 (m_grow0 4 h (by omega) (by omega) hc h9 h8) (by omega) (Nat.le_of_ble_eq_true rfl) ?_ ?_
    · rintro v' w' ⟨e, cap', q1, q2, q3, q4, q5⟩
      cases e
      refine r_astore_n (ls' := [(2, _), (0, _), (1, _), (3, _)]) C d_AL_add3_10 rfl (by decide) rfl ?_
      exact fin w' (fxt w) cap' q1 q2 q3 (Or.inr rfl) q4 (by rw [q3.2.2.2.2.1 y (by omega)]; exact hy)
    · rintro a w' ⟨e, -⟩
      cases e
set_option maxRecDepth 20000 in
theorem m_add1 {G : fxG} (d : Nat) {w : fxW} {l ar cap : Nat} {c : List Nat} (h : AlAt G l ar cap c w) (hd1 : 6 ≤ d) (hc : c.length ≤ 590) (h9 : fxt w + 1 ≤ fxmt G) (h8 : fxu w + 900 ≤ fxmu G) (y : Nat) (hy : fxk w y = some (3, 0)) : fxM G d y_AL_add1 [.ref l, .ref y] w (lsAd G l ar (c ++ [y]) (some (zi 1)) w) := by
  refine fxM.of cc_AL_add1 2 (some .boolean) [] (by decide +kernel) w_AL_add1 (Nat.le_of_ble_eq_true rfl) ?_
  intro x C ht hu
  show fxR G 2 x _ w 0 [(0, .ref l), (1, .ref y)] []
  obtain ⟨mc, h4⟩ := h.2.2.2.1
  refine r_aload_n C d_AL_add1_0 rfl rfl ?_
  refine r_dup C d_AL_add1_1 rfl ?_
  refine g_AL_63 C d_AL_add1_2 h.1 h4 ?_
  refine r_iconst C d_AL_add1_5 rfl ?_
  refine zr_iadd C d_AL_add1_6 ?_
  refine p_AL_63 C d_AL_add1_7 rfl rfl h.1 ?_
  have h' : AlAt G l ar cap c (fx_put w 322 l (zi (mc + 1))) := ⟨h.1, (fxf_putN _ _ (Or.inl (by decide))).trans h.2.1, (fxf_putN _ _ (Or.inl (by decide))).trans h.2.2.1, ⟨_, fxf_put _ _ _ _⟩, h.2.2.2.2.1, h.2.2.2.2.2⟩
  refine r_aload_n C d_AL_add1_10 rfl rfl ?_
  refine r_aload_n C d_AL_add1_11 rfl rfl ?_
  refine r_aload_n C d_AL_add1_12 rfl rfl ?_
  refine g_AL_9 C d_AL_add1_13 h'.1 h'.2.1 ?_
  refine r_aload_n C d_AL_add1_16 rfl rfl ?_
  refine g_AL_48 C d_AL_add1_17 h'.1 h'.2.2.1 ?_
  refine c_AL_131 C d_AL_add1_20 h'.1 (m_add3 5 h' (by omega) hc h9 h8 y hy) (by omega) (Nat.le_of_ble_eq_true rfl) ?_ ?_
  · rintro v' w' ⟨e, ar', cap', q1, q2, q3, q4⟩
    cases e
    refine r_iconst C d_AL_add1_23 rfl ?_
    refine zr_zreturn C (Or.inr rfl) d_AL_add1_24 ⟨rfl, ar', cap', q1, ?_, q3, q4⟩
    obtain ⟨a1, a2, a3, a4, a5, a6, a7⟩ := q2
    refine ⟨a1, a2, a3, a4, a5, fun g a q => (a6 g a q).trans (fxf_putN _ _ ?_), a7⟩
    rcases q with z | z | z
    · exact Or.inr z
    · exact Or.inl (by omega)
    · exact Or.inl (by omega)
  · rintro a w' ⟨e, -⟩
    cases e

/-! A JOB BEGINS -/
theorem Rc.beg {G : fxG} {A : Ad} {S S' : Ms} {w w' : fxW} (h : Rc G A S w) (hB : Bi S) (hdm : ∀ a c n, fxk w a = some (c, n) → a < fxt w) {n0 j0 : Nat} (hn : S.1 23 0 = (n0 : Int)) (hj : S.1 14 0 = (j0 : Int)) (hn' : S'.1 23 0 = ((n0 + 1 : Nat) : Int)) (hj' : S'.1 14 0 = ((j0 + 1 : Nat) : Int))
    (hJ : ∀ c, 5 ≤ c → c ≤ 13 → ∀ x, x < j0 → S'.1 c x = S.1 c x) (hC : ∀ c, c = 1 ∨ c = 2 ∨ c = 3 ∨ 24 ≤ c → S'.1 c = S.1 c) (hT : ∀ c, 15 ≤ c → c ≤ 20 → ∀ x, x < n0 → S'.1 c x = S.1 c x)
    (t15 : S'.1 15 n0 = (j0 : Int)) (t18 : S'.1 18 n0 = -1) (t19 : S'.1 19 n0 = -1) (b9 : S'.1 9 j0 = 0) (b11 : S'.1 11 j0 = 0) (b13 : S'.1 13 j0 = 1)
    (h21 : S'.2 21 = S.2 21) (h22 : ∀ x, x < n0 → S'.2 22 x = S.2 22 x) (h22n : S'.2 22 n0 = 0) (h4 : S'.2 4 = S.2 4) (hz : S.2 21 n0 = 0)
    (hk : ∀ b, b < fxt w → fxk w' b = fxk w b) (hk1 : fxk w' (fxt w) = some (2, 0)) (hk2 : fxk w' (fxt w + 1) = some (3, 0))
    (hf : ∀ g b, b < fxt w → (b ≠ A 0 0 ∨ g ≠ 3) → fxf w' g b = fxf w g b) (hf3 : fxf w' 3 (A 0 0) = zi ((j0 + 1 : Nat) : Int))
    (he : ∀ t b j, (t ≠ 5 ∨ b ≠ A 8 2 ∨ j ≠ j0) → fxe w' t b j = fxe w t b j) (he5 : fxe w' 5 (A 8 2) j0 = .ref (fxt w))
    (hjf : fxf w' 128 (fxt w) = zi (j0 : Int) ∧ fxf w' 129 (fxt w) = zi (S'.1 5 j0) ∧ fxf w' 130 (fxt w) = .ref (A 1 (S'.1 6 j0).toNat) ∧ fxf w' 131 (fxt w) = zi (S'.1 7 j0) ∧ fxf w' 132 (fxt w) = zi (S'.1 8 j0) ∧ fxf w' 133 (fxt w) = zi 0 ∧ fxf w' 134 (fxt w) = zi (S'.1 10 j0) ∧ fxf w' 135 (fxt w) = zi 0 ∧ fxf w' 136 (fxt w) = zi 0 ∧ fxf w' 137 (fxt w) = .long 0)
    (htf : fxf w' 192 (fxt w + 1) = .ref (fxt w) ∧ fxf w' 193 (fxt w + 1) = .null ∧ fxf w' 194 (fxt w + 1) = zi (S'.1 16 n0) ∧ fxf w' 195 (fxt w + 1) = zi (S'.1 17 n0) ∧ fxf w' 196 (fxt w + 1) = .null ∧ fxf w' 197 (fxt w + 1) = .null ∧ fxf w' 198 (fxt w + 1) = zi 0 ∧ fxf w' 199 (fxt w + 1) = .long 0 ∧ fxf w' 200 (fxt w + 1) = .long 0)
    (ht1 : fxt w' = fxt w + 2) (hu1 : fxu w' = fxu w + 19) : ∃ A', Ax S A A' ∧ Rc G A' S' w' ∧ CF 2 19 w w' ∧ A' 3 j0 = fxt w ∧ A' 4 n0 = fxt w + 1 := by
  obtain ⟨A', a1, a2, a3⟩ : ∃ A' : Ad, (∀ k x, (k ≠ 3 ∨ x ≠ j0) → (k ≠ 4 ∨ x ≠ n0) → A' k x = A k x) ∧ A' 3 j0 = fxt w ∧ A' 4 n0 = fxt w + 1 := by
    refine ⟨fun k x => if k = 3 ∧ x = j0 then fxt w else if k = 4 ∧ x = n0 then fxt w + 1 else A k x, fun k x h1 h2 => ?_, ?_, ?_⟩
    · show (if k = 3 ∧ x = j0 then fxt w else if k = 4 ∧ x = n0 then fxt w + 1 else A k x) = A k x
      rw [if_neg (by omega), if_neg (by omega)]
    · exact if_pos ⟨rfl, rfl⟩
    · show (if 4 = 3 ∧ n0 = j0 then fxt w else if 4 = 4 ∧ n0 = n0 then fxt w + 1 else A 4 n0) = _
      rw [if_neg (by omega), if_pos ⟨rfl, rfl⟩]
  have aO : ∀ k, k ≠ 3 → k ≠ 4 → A' k = A k := fun k h1 h2 => funext fun x => a1 k x (Or.inl h1) (Or.inl h2)
  have a3o : ∀ x, x ≠ j0 → A' 3 x = A 3 x := fun x hx => a1 3 x (Or.inr hx) (Or.inl (by decide))
  have a4o : ∀ x, x ≠ n0 → A' 4 x = A 4 x := fun x hx => a1 4 x (Or.inl (by decide)) (Or.inr hx)
  obtain ⟨hP, hR, hJb, hTt, hW, hL⟩ := h
  have k0 : KM w w' := fun b q hb => (hk b (hdm b q.1 q.2 hb)).trans hb
  have hp0 := hP.1
  have hp8 := hP.2.2.2.2.2.2.2.2.2.2.1
  have fs : ∀ c, c ≠ 0 → FS c w w' := fun c hc g b z1 z2 hb => hf g b (hdm b _ _ hb) (Or.inl fun z => by subst z; cases hb.symm.trans hp0; exact hc rfl)
  have es : ∀ t, t ≠ 5 → ES t w w' := fun t ht b n j hb => he t b j (Or.inl ht)
  have eq : ∀ i, qL S' i = qL S i := fun i => qL_ext (by rw [hC 25 (by omega)]) (fun k _ => by rw [hC 24 (by omega)])
  have tlt : ∀ x : Nat, x < n0 → A 4 x < fxt w := fun x hx => hdm _ _ _ (hTt.1 x (by omega)).1
  have jlt : ∀ x : Nat, x < j0 → A 3 x < fxt w := fun x hx => hdm _ _ _ (hJb.1 x (by omega)).1
  refine ⟨A', fun k x z1 z2 z3 z4 => a1 k x ?_ ?_, ⟨?_, ?_, ⟨fun x hx => ?_, fun x y hx hy hxy => ?_⟩, ⟨fun x hx => ?_, fun x y hx hy hxy => ?_⟩, ?_, ?_⟩, ?_, a2, a3⟩
  · by_cases c : k = 3
    · have := z4 c; exact Or.inr (by omega)
    · exact Or.inl c
  · by_cases c : k = 4
    · have := z3 c; exact Or.inr (by omega)
    · exact Or.inl c
  · obtain ⟨p1, p2, p3, p4, p5, p6, p7, p8, p9, p10, p11, p12, p13, p14⟩ := hP
    have f : ∀ g, g ≠ 3 → fxf w' g (A 0 0) = fxf w g (A 0 0) := fun g hg => hf g _ (hdm _ _ _ p1) (Or.inr hg)
    unfold RcP
    rw [aO 0 (by decide) (by decide), aO 8 (by decide) (by decide), aO 1 (by decide) (by decide), aO 5 (by decide) (by decide), hj', hC 1 (by omega), hC 30 (by omega), hC 31 (by omega), hC 32 (by omega)]
    refine ⟨k0 _ _ p1, (f 0 (by decide)).trans p2, (f 1 (by decide)).trans p3, (f 2 (by decide)).trans p4, hf3, (f 4 (by decide)).trans p6, (f 5 (by decide)).trans p7, (f 6 (by decide)).trans p8, k0 _ _ p9, k0 _ _ p10, k0 _ _ p11, fun a ha => ?_, fun i hi => ?_, fun x hx => ?_⟩
    · rw [he 3 _ _ (Or.inl (by decide))]; exact p12 a ha
    · rw [he 4 _ _ (Or.inl (by decide))]; exact p13 i hi
    · by_cases c : x = j0
      · subst c; rw [a2]; exact he5
      · rw [he 5 _ _ (Or.inr (Or.inr c)), a3o x c]; exact p14 x (by omega)
  · have := hR.ext (S' := S') k0 (fs 1 (by decide)) (es 0 (by decide)) (hC 2 (by omega)) (hC 3 (by omega)) (fun a k _ _ => by rw [h4])
    unfold RcR at this ⊢
    rw [aO 1 (by decide) (by decide), aO 2 (by decide) (by decide)]
    exact this
  · by_cases c : x = j0
    · subst c
      obtain ⟨q1, q2, q3, q4, q5, q6, q7, q8, q9, q10⟩ := hjf
      unfold JobAt
      rw [a2, aO 1 (by decide) (by decide), b9, b11, b13, if_neg (by decide)]
      exact ⟨hk1, q1, q2, q3, q4, q5, q6, q7, q8, q9, 0, q10, fun z => by omega⟩
    · have hxj : x < j0 := by omega
      have := (hJb.1 x (by omega)).ext (S' := S') k0 (fs 2 (by decide)) (fun c hc => hJ c (by omega) (by omega) x hxj) (fun _ => by rw [h21])
      unfold JobAt at this ⊢
      rw [a3o x c, aO 1 (by decide) (by decide)]
      exact this
  · have ad : ∀ z : Nat, z < j0 + 1 → (z < j0 ∧ A' 3 z = A 3 z ∧ A 3 z < fxt w) ∨ (z = j0 ∧ A' 3 z = fxt w) := fun z hz => by
      by_cases c : z = j0
      · subst c; exact Or.inr ⟨rfl, a2⟩
      · exact Or.inl ⟨by omega, a3o z c, jlt z (by omega)⟩
    rcases ad x (by omega) with ⟨q1, q2, q3⟩ | ⟨q1, q2⟩ <;> rcases ad y (by omega) with ⟨r1, r2, r3⟩ | ⟨r1, r2⟩ <;> rw [q2, r2]
    · exact hJb.2 x y (by omega) (by omega) hxy
    all_goals omega
  · by_cases c : x = n0
    · subst c
      obtain ⟨q1, q2, q3, q4, q5, q6, q7, q8, q9⟩ := htf
      have eO : mOf S' x = j0 := by unfold mOf; rw [t15]; rfl
      unfold TaskAt
      rw [a3, eO, a2, t18, t19, h21, h22n, hz, if_pos (by decide), if_pos (by decide), if_pos (by decide)]
      exact ⟨hk2, q1, q2, q3, q4, q5, q6, ⟨0, q7, fun z => by omega⟩, ⟨0, q8, fun _ => rfl⟩, q9⟩
    · have hxn : x < n0 := by omega
      have T := hTt.1 x (by omega)
      obtain ⟨-, -, -, -, -, -, b7, b8, -⟩ := hB.2.2.2.2.2.1 x (by omega)
      have hoj : mOf S x < j0 := by have := (hB.job (t := x) (by omega)).1; omega
      have := T.ext (S' := S') k0 (fun g z1 z2 => hf g _ (tlt x hxn) (Or.inr (by omega))) (fun c hc => hT c (by omega) (by omega) x hxn) (hJ 5 (by omega) (by omega) _ hoj) (by rw [h21]) (h22 x hxn)
      have eO : mOf S' x = mOf S x := by unfold mOf; rw [hT 15 (by omega) (by omega) x hxn]
      have par : (if S'.1 18 x < 0 then Value.null else .ref (A' 4 (paT S' x))) = (if S'.1 18 x < 0 then Value.null else .ref (A 4 (paT S' x))) := by
        by_cases c : S'.1 18 x < 0
        · rw [if_pos c, if_pos c]
        · rw [if_neg c, if_neg c, a4o _ (by unfold paT; rw [hT 18 (by omega) (by omega) x hxn]; omega)]
      have ch1 : (if S'.1 19 x < 0 then Value.null else .ref (A' 4 (chT S' x))) = (if S'.1 19 x < 0 then Value.null else .ref (A 4 (chT S' x))) := by
        by_cases c : S'.1 19 x < 0
        · rw [if_pos c, if_pos c]
        · have := hT 19 (by omega) (by omega) x hxn
          rw [if_neg c, if_neg c, a4o _ (by unfold chT; omega)]
      have ch2 : (if S'.1 19 x < 0 then Value.null else .ref (A' 4 (chT S' x + 1))) = (if S'.1 19 x < 0 then Value.null else .ref (A 4 (chT S' x + 1))) := by
        by_cases c : S'.1 19 x < 0
        · rw [if_pos c, if_pos c]
        · have := hT 19 (by omega) (by omega) x hxn
          rw [if_neg c, if_neg c, a4o _ (by unfold chT; omega)]
      unfold TaskAt at this ⊢
      rw [a4o x c, par, ch1, ch2, a3o _ (show mOf S' x ≠ j0 by rw [eO]; omega)]
      exact this
  · have ad : ∀ z : Nat, z < n0 + 1 → (z < n0 ∧ A' 4 z = A 4 z ∧ A 4 z < fxt w) ∨ (z = n0 ∧ A' 4 z = fxt w + 1) := fun z hz => by
      by_cases c : z = n0
      · subst c; exact Or.inr ⟨rfl, a3⟩
      · exact Or.inl ⟨by omega, a4o z c, tlt z (by omega)⟩
    rcases ad x (by omega) with ⟨q1, q2, q3⟩ | ⟨q1, q2⟩ <;> rcases ad y (by omega) with ⟨r1, r2, r3⟩ | ⟨r1, r2⟩ <;> rw [q2, r2]
    · exact hTt.2 x y (by omega) (by omega) hxy
    all_goals omega
  · have := hW.ext (S' := S') k0 (fs 4 (by decide)) (hC 1 (by omega)) (fun c hc => hC c (by omega))
    unfold RcW WkAt at this ⊢
    rw [aO 5 (by decide) (by decide), aO 6 (by decide) (by decide)]
    exact this
  · have hl := hL.ext (S' := S') k0 (fs 5 (by decide)) (es 2 (by decide)) (hC 1 (by omega)) (fun i _ => eq i)
    have hW4 := hB.1.2
    unfold RcL at hl ⊢
    rw [aO 6 (by decide) (by decide), aO 7 (by decide) (by decide), aO 9 (by decide) (by decide)]
    refine ⟨fun i hi => ?_, hl.2⟩
    have := hl.1 i hi
    rw [show (qL S' i).map (A' 4) = (qL S' i).map (A 4) from List.map_congr_left fun x hx => ?_]
    · exact this
    · rw [eq] at hx
      rw [hC 1 (by omega)] at hi
      have := hB.qm (qA_mem.mpr ⟨i, by omega, hx⟩)
      exact a4o x (by omega)
  · refine ⟨by omega, by omega, by omega, by omega, k0, fun b q hb hq => ⟨fun g => hf g b (hdm b q.1 q.2 hb) (Or.inl fun z => ?_), fun t j => he t b j (Or.inr (Or.inl fun z => ?_))⟩⟩
    · subst z
      cases hp0.symm.trans hb
      rcases hq with z | z | z | z
      · cases z
      · cases z
      · cases z
      · cases z.1
    · subst z
      cases hp8.symm.trans hb
      rcases hq with z | z | z | z
      · cases z
      · cases z
      · cases z
      · cases z.1
def jIn (w : fxW) (a ra : Nat) (j k c d : Int) : fxW := fx_put (fx_put (fx_put (fx_put (fx_put (fx_put (fx_put w 133 a (zi 0)) 134 a (zi (-1))) 128 a (zi j)) 129 a (zi k)) 130 a (.ref ra)) 131 a (zi c)) 132 a (zi d)
set_option maxRecDepth 20000 in
theorem m_Job_init {G : fxG} (d0 : Nat) {w : fxW} {a ra : Nat} (hd1 : 1 ≤ d0) (ha : fxk w a = some (2, 0)) (j k c d : Int) : fxM G d0 y_Job_init [.ref a, zi j, zi k, .ref ra, zi c, zi d] w (fun o w' => o = .returned none ∧ w' = jIn w a ra j k c d) := by
  refine fxM.of cc_Job_init 6 none [] (by decide +kernel) w_Job_init (Nat.le_of_ble_eq_true rfl) ?_
  intro x C ht hu
  show fxR G 6 x _ w 0 [(0, .ref a), (1, zi j), (2, zi k), (3, .ref ra), (4, zi c), (5, zi d)] []
  refine r_aload_n C d_Job_init_0 rfl rfl ?_
  refine o_Job_3 C d_Job_init_1 (by omega) (by decide) ?_
  refine r_aload_n C d_Job_init_4 rfl rfl ?_
  refine r_iconst C d_Job_init_5 rfl ?_
  refine p_Job_9 C d_Job_init_6 rfl rfl ha ?_
  refine r_aload_n C d_Job_init_9 rfl rfl ?_
  refine r_iconst C d_Job_init_10 rfl ?_
  refine p_Job_15 C d_Job_init_11 rfl rfl ha ?_
  refine r_aload_n C d_Job_init_14 rfl rfl ?_
  refine r_iload_n C d_Job_init_15 rfl rfl ?_
  refine p_Job_18F (nm := "") C d_Job_init_16 rfl rfl ha ?_
  refine r_aload_n C d_Job_init_19 rfl rfl ?_
  refine r_iload_n C d_Job_init_20 rfl rfl ?_
  refine p_Job_21F (nm := "") C d_Job_init_21 rfl rfl ha ?_
  refine r_aload_n C d_Job_init_24 rfl rfl ?_
  refine r_aload_n C d_Job_init_25 rfl rfl ?_
  refine p_Job_24F (nm := "") C d_Job_init_26 rfl rfl ha ?_
  refine r_aload_n C d_Job_init_29 rfl rfl ?_
  refine r_iload C d_Job_init_30 rfl ?_
  refine p_Job_28F (nm := "") C d_Job_init_32 rfl rfl ha ?_
  refine r_aload_n C d_Job_init_35 rfl rfl ?_
  refine r_iload C d_Job_init_36 rfl ?_
  refine p_Job_31F (nm := "") C d_Job_init_38 rfl rfl ha ?_
  exact r_return C d_Job_init_41 rfl ⟨rfl, rfl⟩
theorem jIn_f (w : fxW) (a ra : Nat) (j k c d : Int) : fxf (jIn w a ra j k c d) 128 a = zi j ∧ fxf (jIn w a ra j k c d) 129 a = zi k ∧ fxf (jIn w a ra j k c d) 130 a = .ref ra ∧ fxf (jIn w a ra j k c d) 131 a = zi c ∧ fxf (jIn w a ra j k c d) 132 a = zi d ∧ fxf (jIn w a ra j k c d) 133 a = zi 0 ∧ fxf (jIn w a ra j k c d) 134 a = zi (-1) ∧ (∀ g, 134 < g → fxf (jIn w a ra j k c d) g a = fxf w g a) ∧ ∀ g b, b ≠ a → fxf (jIn w a ra j k c d) g b = fxf w g b := by
  unfold jIn
  have n : ∀ {w : fxW} {g g' a : Nat} {v : Value}, g ≠ g' → fxf (fx_put w g' a v) g a = fxf w g a := fun h => fxf_putN _ _ (Or.inl h)
  refine ⟨?_, ?_, ?_, ?_, ?_, ?_, ?_, fun g hg => ?_, fun g b hb => ?_⟩
  · rw [n (by decide), n (by decide), n (by decide), n (by decide), fxf_put]
  · rw [n (by decide), n (by decide), n (by decide), fxf_put]
  · rw [n (by decide), n (by decide), fxf_put]
  · rw [n (by decide), fxf_put]
  · rw [fxf_put]
  · rw [n (by decide), n (by decide), n (by decide), n (by decide), n (by decide), n (by decide), fxf_put]
  · rw [n (by decide), n (by decide), n (by decide), n (by decide), n (by decide), fxf_put]
  · rw [n (by omega), n (by omega), n (by omega), n (by omega), n (by omega), n (by omega), n (by omega)]
  · rw [fxf_putN _ _ (Or.inr hb), fxf_putN _ _ (Or.inr hb), fxf_putN _ _ (Or.inr hb), fxf_putN _ _ (Or.inr hb), fxf_putN _ _ (Or.inr hb), fxf_putN _ _ (Or.inr hb), fxf_putN _ _ (Or.inr hb)]

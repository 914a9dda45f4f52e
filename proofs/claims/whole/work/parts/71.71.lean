/-! NEW TASKS OF THE POOL -/
def tIn (w : fxW) (a : Nat) (jv pv : Value) (lo hi : Int) : fxW := fx_put (fx_put (fx_put (fx_put w 192 a jv) 193 a pv) 194 a (zi lo)) 195 a (zi hi)
set_option maxRecDepth 20000 in
theorem m_Task_init {G : fxG} (d : Nat) {w : fxW} {a ja pa : Nat} (hd1 : 1 ≤ d) (ha : fxk w a = some (3, 0)) (lo hi : Int) : fxM G d y_Task_init [.ref a, .ref ja, .ref pa, zi lo, zi hi] w (fun o w' => o = .returned none ∧ w' = tIn w a (.ref ja) (.ref pa) lo hi) := by
  refine fxM.of cc_Task_init 5 none [] (by decide +kernel) w_Task_init (Nat.le_of_ble_eq_true rfl) ?_
  intro x C ht hu
  show fxR G 5 x _ w 0 [(0, .ref a), (1, .ref ja), (2, .ref pa), (3, zi lo), (4, zi hi)] []
  refine r_aload_n C d_Task_init_0 rfl rfl ?_
  refine o_Task_1 C d_Task_init_1 (by omega) (by decide) ?_
  refine r_aload_n C d_Task_init_4 rfl rfl ?_
  refine r_aload_n C d_Task_init_5 rfl rfl ?_
  refine p_Task_7F (nm := "") C d_Task_init_6 rfl rfl ha ?_
  refine r_aload_n C d_Task_init_9 rfl rfl ?_
  refine r_aload_n C d_Task_init_10 rfl rfl ?_
  refine p_Task_13F (nm := "") C d_Task_init_11 rfl rfl ha ?_
  refine r_aload_n C d_Task_init_14 rfl rfl ?_
  refine r_iload_n C d_Task_init_15 rfl rfl ?_
  refine p_Task_17F (nm := "") C d_Task_init_16 rfl rfl ha ?_
  refine r_aload_n C d_Task_init_19 rfl rfl ?_
  refine r_iload C d_Task_init_20 rfl ?_
  refine p_Task_21F (nm := "") C d_Task_init_22 rfl rfl ha ?_
  exact r_return C d_Task_init_25 rfl ⟨rfl, rfl⟩
set_option maxRecDepth 20000 in
theorem m_Task_initN {G : fxG} (d : Nat) {w : fxW} {a ja : Nat} (hd1 : 1 ≤ d) (ha : fxk w a = some (3, 0)) (lo hi : Int) : fxM G d y_Task_init [.ref a, .ref ja, .null, zi lo, zi hi] w (fun o w' => o = .returned none ∧ w' = tIn w a (.ref ja) .null lo hi) := by
  refine fxM.of cc_Task_init 5 none [] (by decide +kernel) w_Task_init (Nat.le_of_ble_eq_true rfl) ?_
  intro x C ht hu
  show fxR G 5 x _ w 0 [(0, .ref a), (1, .ref ja), (2, .null), (3, zi lo), (4, zi hi)] []
  refine r_aload_n C d_Task_init_0 rfl rfl ?_
  refine o_Task_1 C d_Task_init_1 (by omega) (by decide) ?_
  refine r_aload_n C d_Task_init_4 rfl rfl ?_
  refine r_aload_n C d_Task_init_5 rfl rfl ?_
  refine p_Task_7F (nm := "") C d_Task_init_6 rfl rfl ha ?_
  refine r_aload_n C d_Task_init_9 rfl rfl ?_
  refine r_aload_nN C d_Task_init_10 rfl rfl ?_
  refine p_Task_13F (nm := "") C d_Task_init_11 rfl rfl ha ?_
  refine r_aload_n C d_Task_init_14 rfl rfl ?_
  refine r_iload_n C d_Task_init_15 rfl rfl ?_
  refine p_Task_17F (nm := "") C d_Task_init_16 rfl rfl ha ?_
  refine r_aload_n C d_Task_init_19 rfl rfl ?_
  refine r_iload C d_Task_init_20 rfl ?_
  refine p_Task_21F (nm := "") C d_Task_init_22 rfl rfl ha ?_
  exact r_return C d_Task_init_25 rfl ⟨rfl, rfl⟩
theorem tIn_f (w : fxW) (a : Nat) (jv pv : Value) (lo hi : Int) : fxf (tIn w a jv pv lo hi) 192 a = jv ∧ fxf (tIn w a jv pv lo hi) 193 a = pv ∧ fxf (tIn w a jv pv lo hi) 194 a = zi lo ∧ fxf (tIn w a jv pv lo hi) 195 a = zi hi ∧ (∀ g, 195 < g → fxf (tIn w a jv pv lo hi) g a = fxf w g a) ∧ ∀ g b, b ≠ a → fxf (tIn w a jv pv lo hi) g b = fxf w g b := by
  unfold tIn
  refine ⟨?_, ?_, ?_, ?_, fun g hg => ?_, fun g b hb => ?_⟩
  · rw [fxf_putN _ _ (Or.inl (by decide)), fxf_putN _ _ (Or.inl (by decide)), fxf_putN _ _ (Or.inl (by decide)), fxf_put]
  · rw [fxf_putN _ _ (Or.inl (by decide)), fxf_putN _ _ (Or.inl (by decide)), fxf_put]
  · rw [fxf_putN _ _ (Or.inl (by decide)), fxf_put]
  · rw [fxf_put]
  · rw [fxf_putN _ _ (Or.inl (by omega)), fxf_putN _ _ (Or.inl (by omega)), fxf_putN _ _ (Or.inl (by omega)), fxf_putN _ _ (Or.inl (by omega))]
  · rw [fxf_putN _ _ (Or.inr hb), fxf_putN _ _ (Or.inr hb), fxf_putN _ _ (Or.inr hb), fxf_putN _ _ (Or.inr hb)]
theorem fxk_new (w : fxW) (c n : Nat) (z : Nat → Value) : fxk (fx_new w c n z) (fxt w) = some (c, 0) := if_pos rfl
theorem fxk_newN (w : fxW) (c n : Nat) (z : Nat → Value) {a : Nat} (h : a ≠ fxt w) : fxk (fx_new w c n z) a = fxk w a := if_neg h
theorem fxf_newN (w : fxW) (c n : Nat) (z : Nat → Value) {g a : Nat} (h : a ≠ fxt w) : fxf (fx_new w c n z) g a = fxf w g a := if_neg h
theorem fxf_new (w : fxW) (c n : Nat) (z : Nat → Value) {g : Nat} (h : 64 * c ≤ g) : fxf (fx_new w c n z) g (fxt w) = z (g - 64 * c) := by
  show (if fxt w = fxt w then (if 64 * c ≤ g then z (g - 64 * c) else w.2.1 g (fxt w)) else w.2.1 g (fxt w)) = _
  rw [if_pos rfl, if_pos h]
/-- two new tasks, children of t -/
theorem Rc.fork1 {G : fxG} {A : Ad} {S S' : Ms} {w w' : fxW} (h : Rc G A S w) (hB : Bi S) (hdm : ∀ a c n, fxk w a = some (c, n) → a < fxt w) {t n0 : Nat} (hn : S.1 23 0 = (n0 : Int)) (ht : t < n0) (hn' : S'.1 23 0 = ((n0 + 2 : Nat) : Int))
    (hJ : ∀ c, c ≠ 15 → c ≠ 16 → c ≠ 17 → c ≠ 18 → c ≠ 19 → c ≠ 20 → c ≠ 23 → S'.1 c = S.1 c) (hT : ∀ c, c = 15 ∨ c = 16 ∨ c = 17 ∨ c = 18 → ∀ x, x < n0 → S'.1 c x = S.1 c x) (h19 : ∀ x, x < n0 → x ≠ t → S'.1 19 x = S.1 19 x) (h19t : S'.1 19 t = (n0 : Int)) (h20 : S'.1 20 t = 0) (h20' : ∀ x, x < n0 → x ≠ t → S'.1 20 x = S.1 20 x)
    (hnew : ∀ x, x = n0 ∨ x = n0 + 1 → S'.1 15 x = S.1 15 t ∧ S'.1 18 x = (t : Int) ∧ S'.1 19 x = -1) (h21 : S'.2 21 = S.2 21) (h22 : ∀ x, x < n0 → S'.2 22 x = S.2 22 x) (h22n : S'.2 22 n0 = 0 ∧ S'.2 22 (n0 + 1) = 0) (h4 : S'.2 4 = S.2 4) (hz : S.2 21 n0 = 0 ∧ S.2 21 (n0 + 1) = 0)
    (hk : ∀ b, b < fxt w → fxk w' b = fxk w b) (hk1 : fxk w' (fxt w) = some (3, 0)) (hk2 : fxk w' (fxt w + 1) = some (3, 0)) (he : ∀ t b j, fxe w' t b j = fxe w t b j)
    (hf : ∀ g b, b < fxt w → (b ≠ A 4 t ∨ g < 196 ∨ 198 < g) → fxf w' g b = fxf w g b) (hft : fxf w' 196 (A 4 t) = .ref (fxt w) ∧ fxf w' 197 (A 4 t) = .ref (fxt w + 1) ∧ fxf w' 198 (A 4 t) = zi 2)
    (hnf : ∀ x a, (x = n0 ∧ a = fxt w) ∨ (x = n0 + 1 ∧ a = fxt w + 1) → fxf w' 192 a = .ref (A 3 (mOf S t)) ∧ fxf w' 193 a = .ref (A 4 t) ∧ fxf w' 194 a = zi (S'.1 16 x) ∧ fxf w' 195 a = zi (S'.1 17 x) ∧ fxf w' 196 a = .null ∧ fxf w' 197 a = .null ∧ fxf w' 198 a = zi 0 ∧ fxf w' 199 a = .long 0 ∧ fxf w' 200 a = .long 0)
    (ht1 : fxt w' = fxt w + 2) (hu1 : fxu w' = fxu w + 18) : ∃ A', Ax S A A' ∧ Rc G A' S' w' ∧ CF 2 18 w w' ∧ A' 4 n0 = fxt w ∧ A' 4 (n0 + 1) = fxt w + 1 := by
  obtain ⟨hP, hR, hJb, hTt, hW, hL⟩ := h
  have htn : (t : Int) < S.1 23 0 := by omega
  have k0 : KM w w' := fun b q hb => (hk b (hdm b q.1 q.2 hb)).trans hb
  have hat := (hTt.1 t htn).1
  have fs : ∀ c, c ≠ 3 → FS c w w' := fun c hc g b z1 z2 hb => hf g b (hdm b _ _ hb) (Or.inl fun z => by subst z; cases hb.symm.trans hat; exact hc rfl)
  have es : ∀ t, ES t w w' := fun t b n j hb => he t b j
  have j0 : ∀ c, c ≠ 15 → c ≠ 16 → c ≠ 17 → c ≠ 18 → c ≠ 19 → c ≠ 20 → c ≠ 23 → S'.1 c = S.1 c := hJ
  have eq : ∀ i, qL S' i = qL S i := fun i => qL_ext (by rw [hJ 25 (by decide) (by decide) (by decide) (by decide) (by decide) (by decide) (by decide)]) (fun k _ => by rw [hJ 24 (by decide) (by decide) (by decide) (by decide) (by decide) (by decide) (by decide)])
  have tlt : ∀ x : Nat, x < n0 → A 4 x < fxt w := fun x hx => hdm _ _ _ (hTt.1 x (by omega)).1
  refine ⟨fun k x => if k = 4 then (if x = n0 then fxt w else if x = n0 + 1 then fxt w + 1 else A 4 x) else A k x, ?_, ⟨?_, ?_, ?_, ?_, ?_, ?_⟩, ?_, ?_, ?_⟩
  · intro k x z1 z2 z3 z4
    show (if k = 4 then _ else _) = _
    by_cases c : k = 4
    · have := z3 c
      rw [if_pos c, if_neg (by omega), if_neg (by omega), c]
    · rw [if_neg c]
  · exact hP.ext (A := A) k0 (fs 0 (by decide)) (fun t _ => es t) (fun c hc => hJ c (by omega) (by omega) (by omega) (by omega) (by omega) (by omega) (by omega))
  · exact hR.ext (A := A) k0 (fs 1 (by decide)) (es 0) (hJ 2 (by decide) (by decide) (by decide) (by decide) (by decide) (by decide) (by decide)) (hJ 3 (by decide) (by decide) (by decide) (by decide) (by decide) (by decide) (by decide)) (fun a k _ _ => by rw [h4])
  · exact hJb.ext (A := A) k0 (fs 2 (by decide)) (by rw [hJ 14 (by decide) (by decide) (by decide) (by decide) (by decide) (by decide) (by decide)]) (fun c hc => hJ c (by omega) (by omega) (by omega) (by omega) (by omega) (by omega) (by omega)) (fun _ _ _ => by rw [h21])
  · have a4 : ∀ x, x < n0 → (fun k x => if k = 4 then (if x = n0 then fxt w else if x = n0 + 1 then fxt w + 1 else A 4 x) else A k x : Ad) 4 x = A 4 x := fun x hx => by
      show (if 4 = 4 then (if x = n0 then fxt w else if x = n0 + 1 then fxt w + 1 else A 4 x) else A 4 x) = A 4 x
      rw [if_pos rfl, if_neg (by omega), if_neg (by omega)]
    have a4n : (fun k x => if k = 4 then (if x = n0 then fxt w else if x = n0 + 1 then fxt w + 1 else A 4 x) else A k x : Ad) 4 n0 = fxt w := by
      show (if 4 = 4 then (if n0 = n0 then fxt w else _) else _) = fxt w
      rw [if_pos rfl, if_pos rfl]
    have a4m : (fun k x => if k = 4 then (if x = n0 then fxt w else if x = n0 + 1 then fxt w + 1 else A 4 x) else A k x : Ad) 4 (n0 + 1) = fxt w + 1 := by
      show (if 4 = 4 then (if n0 + 1 = n0 then fxt w else if n0 + 1 = n0 + 1 then fxt w + 1 else _) else _) = fxt w + 1
      rw [if_pos rfl, if_neg (by omega), if_pos rfl]
    have a3 : ∀ x, (fun k x => if k = 4 then (if x = n0 then fxt w else if x = n0 + 1 then fxt w + 1 else A 4 x) else A k x : Ad) 3 x = A 3 x := fun x => rfl
    generalize (fun k x => if k = 4 then (if x = n0 then fxt w else if x = n0 + 1 then fxt w + 1 else A 4 x) else A k x : Ad) = A' at *
    unfold RcT
    rw [hn']
    have e5 : S'.1 5 = S.1 5 := hJ 5 (by decide) (by decide) (by decide) (by decide) (by decide) (by decide) (by decide)
    refine ⟨fun x hx => ?_, fun x y hx hy hxy => ?_⟩
    · by_cases hxn : x < n0
      · obtain ⟨-, -, -, -, -, -, b7, b8, -⟩ := hB.2.2.2.2.2.1 x (by omega)
        obtain ⟨p1, p2, p3, p4, p5, p6, p7, ⟨o, p8, p8'⟩, ⟨v, p9, p9'⟩, p10⟩ := hTt.1 x (by omega)
        have eO : mOf S' x = mOf S x := by unfold mOf; rw [hT 15 (by simp) x hxn]
        have eP : paT S' x = paT S x := by unfold paT; rw [hT 18 (by simp) x hxn]
        have par : (if S'.1 18 x < 0 then Value.null else .ref (A' 4 (paT S' x))) = (if S.1 18 x < 0 then Value.null else .ref (A 4 (paT S x))) := by
          rw [hT 18 (by simp) x hxn, eP]
          by_cases c : S.1 18 x < 0
          · rw [if_pos c, if_pos c]
          · rw [if_neg c, if_neg c, a4 _ (by unfold paT; omega)]
        unfold TaskAt
        rw [a4 x hxn, eO, a3, par, hT 16 (by simp) x hxn, hT 17 (by simp) x hxn, e5, h21, h22 x hxn]
        have fo : ∀ g, (g < 196 ∨ 198 < g) → fxf w' g (A 4 x) = fxf w g (A 4 x) := fun g hg => hf g _ (tlt x hxn) (Or.inr hg)
        rw [fo 192 (by decide), fo 193 (by decide), fo 194 (by decide), fo 195 (by decide), fo 199 (by decide), fo 200 (by decide)]
        refine ⟨k0 _ _ p1, p2, p3, p4, p5, ?_, ?_, ?_, ⟨v, p9, p9'⟩, p10⟩
        · by_cases c : x = t
          · subst c
            rw [h19t, if_neg (by omega)]
            have ec : chT S' x = n0 := by unfold chT; rw [h19t]; rfl
            rw [ec, a4n]; exact hft.1
          · have hne := hTt.2 x t (by omega) htn c
            have ec : chT S' x = chT S x := by unfold chT; rw [h19 x hxn c]
            rw [hf 196 _ (tlt x hxn) (Or.inl hne), p6, h19 x hxn c, ec]
            by_cases c2 : S.1 19 x < 0
            · rw [if_pos c2, if_pos c2]
            · rw [if_neg c2, if_neg c2, a4 _ (by unfold chT; omega)]
        · by_cases c : x = t
          · subst c
            rw [h19t, if_neg (by omega)]
            have ec : chT S' x = n0 := by unfold chT; rw [h19t]; rfl
            rw [ec, a4m]; exact hft.2.1
          · have hne := hTt.2 x t (by omega) htn c
            have ec : chT S' x = chT S x := by unfold chT; rw [h19 x hxn c]
            rw [hf 197 _ (tlt x hxn) (Or.inl hne), p7, h19 x hxn c, ec]
            by_cases c2 : S.1 19 x < 0
            · rw [if_pos c2, if_pos c2]
            · rw [if_neg c2, if_neg c2, a4 _ (by unfold chT; omega)]
        · by_cases c : x = t
          · subst c
            exact ⟨2, hft.2.2, fun _ => by rw [h20]; rfl⟩
          · have hne := hTt.2 x t (by omega) htn c
            exact ⟨o, by rw [hf 198 _ (tlt x hxn) (Or.inl hne)]; exact p8, by rw [h19 x hxn c, h20' x hxn c]; exact p8'⟩
      · have hx2 : x = n0 ∨ x = n0 + 1 := by omega
        obtain ⟨m1, m2, m3⟩ := hnew x hx2
        have eO : mOf S' x = mOf S t := by unfold mOf; rw [m1]
        have eP : paT S' x = t := by unfold paT; rw [m2]; rfl
        have go : ∀ a, A' 4 x = a → fxk w' a = some (3, 0) → ((x = n0 ∧ a = fxt w) ∨ (x = n0 + 1 ∧ a = fxt w + 1)) → S'.2 22 x = 0 → S.2 21 x = 0 → TaskAt A' S' x w' := by
          intro a e1 e2 e3 e4 e5'
          obtain ⟨z1, z2, z3, z4, z5, z6, z7, z8, z9⟩ := hnf x a e3
          unfold TaskAt
          rw [e1, eO, eP, a3, m2, if_neg (by omega), m3, if_pos (by omega), if_pos (by omega), a4 t ht, h21, e4, e5']
          exact ⟨e2, z1, z2, z3, z4, z5, z6, ⟨0, z7, fun q => by omega⟩, ⟨0, z8, fun _ => rfl⟩, z9⟩
        rcases hx2 with c | c
        · subst c; exact go _ a4n hk1 (Or.inl ⟨rfl, rfl⟩) h22n.1 hz.1
        · subst c; exact go _ a4m hk2 (Or.inr ⟨rfl, rfl⟩) h22n.2 hz.2
    · have ad : ∀ z : Nat, z < n0 + 2 → (z < n0 ∧ A' 4 z = A 4 z ∧ A 4 z < fxt w) ∨ (z = n0 ∧ A' 4 z = fxt w) ∨ (z = n0 + 1 ∧ A' 4 z = fxt w + 1) := fun z hz => by
        by_cases c : z < n0
        · exact Or.inl ⟨c, a4 z c, tlt z c⟩
        · by_cases c2 : z = n0
          · subst c2; exact Or.inr (Or.inl ⟨rfl, a4n⟩)
          · have c3 : z = n0 + 1 := by omega
            subst c3; exact Or.inr (Or.inr ⟨rfl, a4m⟩)
      rcases ad x (by omega) with ⟨q1, q2, q3⟩ | ⟨q1, q2⟩ | ⟨q1, q2⟩ <;> rcases ad y (by omega) with ⟨r1, r2, r3⟩ | ⟨r1, r2⟩ | ⟨r1, r2⟩ <;> rw [q2, r2]
      · exact hTt.2 x y (by omega) (by omega) hxy
      all_goals omega
  · exact hW.ext (A := A) k0 (fs 4 (by decide)) (hJ 1 (by decide) (by decide) (by decide) (by decide) (by decide) (by decide) (by decide)) (fun c hc => hJ c (by omega) (by omega) (by omega) (by omega) (by omega) (by omega) (by omega))
  · have hl := hL.ext (S' := S') k0 (fs 5 (by decide)) (es 2) (hJ 1 (by decide) (by decide) (by decide) (by decide) (by decide) (by decide) (by decide)) (fun i _ => eq i)
    have hW4 := hB.1.2
    refine ⟨fun i hi => ?_, hl.2⟩
    have := hl.1 i hi
    rw [show (qL S' i).map (fun x => (if 4 = 4 then (if x = n0 then fxt w else if x = n0 + 1 then fxt w + 1 else A 4 x) else A 4 x)) = (qL S' i).map (A 4) from List.map_congr_left fun x hx => ?_]
    · exact this
    · rw [eq] at hx
      rw [hJ 1 (by decide) (by decide) (by decide) (by decide) (by decide) (by decide) (by decide)] at hi
      have := hB.qm (qA_mem.mpr ⟨i, by omega, hx⟩)
      rw [if_pos rfl, if_neg (by omega), if_neg (by omega)]
  · refine ⟨by omega, by omega, by omega, by omega, k0, fun b q hb hq => ⟨fun g => hf g b (hdm b q.1 q.2 hb) (Or.inl fun z => ?_), fun t j => he t b j⟩⟩
    subst z
    cases hat.symm.trans hb
    rcases hq with z | z | z | z
    · cases z
    · cases z
    · cases z
    · cases z.1
  · show (if 4 = 4 then (if n0 = n0 then fxt w else _) else _) = fxt w
    rw [if_pos rfl, if_pos rfl]
  · show (if 4 = 4 then (if n0 + 1 = n0 then fxt w else if n0 + 1 = n0 + 1 then fxt w + 1 else _) else _) = fxt w + 1
    rw [if_pos rfl, if_neg (by omega), if_pos rfl]

/-! THE POOL IS MADE, I -/
section ABL
variable {G : fxG} {d nL : Nat} {cc : ByteArray} {nm : String} {ret : Option FieldType} {hh : List (Nat × Nat × Nat × Nat)} {x : fxX} {Q : State → Prop} {w : fxW} {pc : Nat} {ls : List (Nat × Value)} {st : List Value}
theorem p_AbL_7 (C : fxC G d cc nL "java/util/AbstractList" nm ret hh x) {a n : Nat} {v : Value} (hd : decode cc pc = .ok (.putfield 7, 3)) (hn : narrow (tAL 2) v = v) (hfit : fits (tAL 2) v = true) (ha : fxk w a = some (5, n)) (k : fxR G nL x Q (fx_put w 322 a v) (pc + 3) ls st) : fxR G nL x Q w pc ls (v :: .ref a :: st) :=
  r_put (Cn := RAL) (T := FAL) (N := 3) (ci := 5) (k0 := 2) (ref := "java/util/AbstractList") C hd rfl (by decide) inAL tAL tyAL nmAL (by decide) (by decide +kernel) (Or.inl rfl) rfl (tyAL 2 (by decide)) hn hfit ha k
end ABL
set_option maxRecDepth 20000 in
theorem m_AbC_init {G : fxG} (d : Nat) {w : fxW} {a : Nat} (hd1 : 1 ≤ d) : fxM G d y_AbC_init [.ref a] w (fun o w' => o = .returned none ∧ w' = w) := by
  refine fxM.of cc_AbC_init 1 none [] (by decide +kernel) w_AbC_init (Nat.le_of_ble_eq_true rfl) ?_
  intro x C ht hu
  show fxR G 1 x _ w 0 [(0, .ref a)] []
  refine r_aload_n C d_AbC_init_0 rfl rfl ?_
  refine o_AbC_1 C d_AbC_init_1 (by omega) (by decide) ?_
  exact r_return C d_AbC_init_4 rfl ⟨rfl, rfl⟩
set_option maxRecDepth 20000 in
theorem m_AbL_init {G : fxG} (d : Nat) {w : fxW} {a : Nat} (hd1 : 2 ≤ d) (ha : fxk w a = some (5, 0)) : fxM G d y_AbL_init [.ref a] w (fun o w' => o = .returned none ∧ w' = fx_put w 322 a (zi 0)) := by
  refine fxM.of cc_AbL_init 1 none [] (by decide +kernel) w_AbL_init (Nat.le_of_ble_eq_true rfl) ?_
  intro x C ht hu
  show fxR G 1 x _ w 0 [(0, .ref a)] []
  refine r_aload_n C d_AbL_init_0 rfl rfl ?_
  refine c_AbL_1 C d_AbL_init_1 (m_AbC_init 1 (by omega)) (by omega) (Nat.le_of_ble_eq_true rfl) ?_ (fun a w' z => by cases z.1)
  rintro v' w1 ⟨e9, rfl⟩
  cases e9
  refine r_aload_n C d_AbL_init_4 rfl rfl ?_
  refine r_iconst C d_AbL_init_5 rfl ?_
  refine p_AbL_7 C d_AbL_init_6 rfl rfl ha ?_
  exact r_return C d_AbL_init_9 rfl ⟨rfl, rfl⟩
set_option maxRecDepth 20000 in
theorem m_AL_init {G : fxG} (d : Nat) {w : fxW} {a : Nat} (hd1 : 3 ≤ d) (ha : fxk w a = some (5, 0)) : fxM G d y_AL_init [.ref a] w (fun o w' => o = .returned none ∧ w' = fx_put (fx_put w 322 a (zi 0)) 320 a (.ref (fxad G 0))) := by
  refine fxM.of cc_AL_init 1 none [] (by decide +kernel) w_AL_init (Nat.le_of_ble_eq_true rfl) ?_
  intro x C ht hu
  show fxR G 1 x _ w 0 [(0, .ref a)] []
  refine r_aload_n C d_AL_init_0 rfl rfl ?_
  refine c_AL_1 C d_AL_init_1 (m_AbL_init 2 (by omega) ha) (by omega) (Nat.le_of_ble_eq_true rfl) ?_ (fun a w' z => by cases z.1)
  rintro v' w1 ⟨e9, rfl⟩
  cases e9
  refine r_aload_n C d_AL_init_4 rfl rfl ?_
  refine r_getsE C d_AL_init_5 ?_
  refine p_AL_9 C d_AL_init_8 rfl rfl ha ?_
  exact r_return C d_AL_init_11 rfl ⟨rfl, rfl⟩
set_option maxRecDepth 20000 in
theorem m_Row_init {G : fxG} (d : Nat) {w : fxW} {a : Nat} (hd1 : 1 ≤ d) (ha : fxk w a = some (1, 0)) (h9 : fxt w + 1 ≤ fxmt G) (h8 : fxu w + 24 ≤ fxmu G) : fxM G d y_Row_init [.ref a] w (fun o w' => o = .returned none ∧ w' = fx_put (fx_newa w 0 24 (.long 0)) 64 a (.ref (fxt w))) := by
  refine fxM.of cc_Row_init 1 none [] (by decide +kernel) w_Row_init (Nat.le_of_ble_eq_true rfl) ?_
  intro x C ht hu
  show fxR G 1 x _ w 0 [(0, .ref a)] []
  refine fx_dom (fun hdm => ?_)
  have := hdm _ _ _ ha
  refine r_aload_n C d_Row_init_0 rfl rfl ?_
  refine o_Row_3 C d_Row_init_1 (by omega) (by decide) ?_
  refine r_aload_n C d_Row_init_4 rfl rfl ?_
  refine r_bipush (v := Int32.ofInt 24) C d_Row_init_5 (by decide) ?_
  refine zn_long C d_Row_init_7 rfl (by decide) h9 h8 ?_
  refine p_Row_9F (nm := "") C d_Row_init_9 rfl rfl ((fxk_newaN _ _ _ _ (by omega)).trans ha) ?_
  exact r_return C d_Row_init_12 rfl ⟨rfl, rfl⟩
def wkW (G : fxG) (w : fxW) (a : Nat) (i : Int) : fxW := fx_put (fx_put (fx_put (fx_put (fx_new w 5 3 (fun k => defaultValue (tAL k))) 322 (fxt w) (zi 0)) 320 (fxt w) (.ref (fxad G 0))) 256 a (.ref (fxt w))) 260 a (zi i)
set_option maxRecDepth 20000 in
theorem m_Wk_init {G : fxG} (d : Nat) {w : fxW} {a : Nat} (hd1 : 4 ≤ d) (ha : fxk w a = some (4, 0)) (i : Int) (h9 : fxt w + 1 ≤ fxmt G) (h8 : fxu w + 3 ≤ fxmu G) : fxM G d y_Wk_init [.ref a, zi i] w (fun o w' => o = .returned none ∧ w' = wkW G w a i) := by
  refine fxM.of cc_Wk_init 2 none [] (by decide +kernel) w_Wk_init (Nat.le_of_ble_eq_true rfl) ?_
  intro x C ht hu
  show fxR G 2 x _ w 0 [(0, .ref a), (1, zi i)] []
  refine fx_dom (fun hdm => ?_)
  have := hdm _ _ _ ha
  refine r_aload_n C d_Wk_init_0 rfl rfl ?_
  refine o_Wk_1 C d_Wk_init_1 (by omega) (by decide) ?_
  refine r_aload_n C d_Wk_init_4 rfl rfl ?_
  refine n_Wk_7 C d_Wk_init_5 h9 h8 ?_
  refine r_dup C d_Wk_init_8 rfl ?_
  refine c_Wk_9 C d_Wk_init_9 (m_AL_init 3 (by omega) (fxk_new _ _ _ _)) (by omega) (Nat.le_of_ble_eq_true rfl) ?_ (fun a w' z => by cases z.1)
  rintro v' w1 ⟨e9, rfl⟩
  cases e9
  have hk : ∀ {w' : fxW} {g b : Nat} {v : Value}, fxk (fx_put w' g b v) a = fxk w' a := rfl
  have ka : fxk (fx_new w 5 3 (fun k => defaultValue (tAL k))) a = some (4, 0) := (fxk_newN _ _ _ _ (by omega)).trans ha
  show fxR G 2 x _ (fx_put (fx_put (fx_new w 5 3 (fun k => defaultValue (tAL k))) 322 (fxt w) (zi 0)) 320 (fxt w) (.ref (fxad G 0))) 12 [(0, .ref a), (1, zi i)] [.ref (fxt w), .ref a]
  refine p_Wk_10F (nm := "") C d_Wk_init_12 rfl rfl ka ?_
  refine r_aload_n C d_Wk_init_15 rfl rfl ?_
  refine r_iload_n C d_Wk_init_16 rfl rfl ?_
  refine p_Wk_16 C d_Wk_init_17 rfl rfl ka ?_
  exact r_return C d_Wk_init_20 rfl ⟨rfl, rfl⟩
/-! what stands below the new pool stays -/
def Fi (p t0 : Nat) (w0 w : fxW) : Prop := (∀ b, b < t0 → fxk w b = fxk w0 b) ∧ (∀ g b, b < t0 → (b ≠ p ∨ (g ≠ 0 ∧ g ≠ 1 ∧ g ≠ 2 ∧ g ≠ 6)) → fxf w g b = fxf w0 g b) ∧ ∀ t b j, b < t0 → fxe w t b j = fxe w0 t b j
theorem RowAt.pz {r e : Nat} {ty ln : Int} {g : Nat → Int64} {w w' : fxW} (h : RowAt r e ty ln g w) (k1 : fxk w' r = fxk w r) (k2 : fxk w' e = fxk w e) (hf : ∀ g, fxf w' g r = fxf w g r) (he : ∀ j, fxe w' 0 e j = fxe w 0 e j) : RowAt r e ty ln g w' :=
  ⟨k1.trans h.1, (hf _).trans h.2.1, (hf _).trans h.2.2.1, (hf _).trans h.2.2.2.1, k2.trans h.2.2.2.2.1, fun k hk => (he k).trans (h.2.2.2.2.2 k hk)⟩
def RwI (t0 a : Nat) (w : fxW) : Prop := RowAt (t0 + 1 + 2 * a) (t0 + 2 + 2 * a) 0 0 (fun _ => 0) w ∧ fxe w 3 t0 a = .ref (t0 + 1 + 2 * a)
def I1 (w0 : fxW) (p t0 i : Nat) (w : fxW) : Prop := fxt w = t0 + 1 + 2 * i ∧ fxu w = fxu w0 + 4 + 27 * i ∧ fxk w t0 = some (103, 4) ∧ (∀ a, a < i → RwI t0 a w) ∧ fxf w 0 p = .ref t0 ∧ Fi p t0 w0 w
theorem I1.step {w0 : fxW} {p t0 i : Nat} {w : fxW} (h : I1 w0 p t0 i w) (hp : p < t0) : I1 w0 p t0 (i + 1) (fx_ast (fx_put (fx_newa (fx_new w 1 3 (fun k => defaultValue (tRow k))) 0 24 (.long 0)) 64 (fxt w) (.ref (fxt w + 1))) 3 t0 i (.ref (fxt w))) := by
  obtain ⟨h1, h2, h3, h4, h5, h6, h7, h8⟩ := h
  generalize hw1 : fx_new w 1 3 (fun k => defaultValue (tRow k)) = w1
  have t1 : fxt w1 = fxt w + 1 := by rw [← hw1]; rfl
  have u1 : fxu w1 = fxu w + 3 := by rw [← hw1]; rfl
  have k1 : ∀ b, b ≠ fxt w → fxk w1 b = fxk w b := fun b hb => by rw [← hw1]; exact fxk_newN _ _ _ _ hb
  have k1n : fxk w1 (fxt w) = some (1, 0) := by rw [← hw1]; exact fxk_new _ _ _ _
  have f1 : ∀ g b, b ≠ fxt w → fxf w1 g b = fxf w g b := fun g b hb => by rw [← hw1]; exact fxf_newN _ _ _ _ hb
  have f1n : ∀ g, 64 ≤ g → fxf w1 g (fxt w) = defaultValue (tRow (g - 64)) := fun g hg => by rw [← hw1]; exact fxf_new _ _ _ _ hg
  have e1 : ∀ t b j, fxe w1 t b j = fxe w t b j := fun t b j => by rw [← hw1]; rfl
  generalize hw2 : fx_newa w1 0 24 (.long 0) = w2
  have t2 : fxt w2 = fxt w + 2 := by rw [← hw2]; show fxt w1 + 1 = _; omega
  have u2 : fxu w2 = fxu w + 27 := by rw [← hw2]; show fxu w1 + 24 = _; omega
  have k2 : ∀ b, b ≠ fxt w + 1 → fxk w2 b = fxk w1 b := fun b hb => by rw [← hw2]; exact fxk_newaN _ _ _ _ (by omega)
  have k2n : fxk w2 (fxt w + 1) = some (100, 24) := by rw [← hw2, ← t1]; exact fxk_newa _ _ _ _
  have f2 : ∀ g b, fxf w2 g b = fxf w1 g b := fun g b => by rw [← hw2]; rfl
  have e2 : ∀ t b j, b ≠ fxt w + 1 → fxe w2 t b j = fxe w t b j := fun t b j hb => by rw [← hw2, fxe_newaN _ _ _ _ (by omega)]; exact e1 t b j
  have e2n : ∀ t j, fxe w2 t (fxt w + 1) j = .long 0 := fun t j => by rw [← hw2, ← t1]; exact fxe_newa _ _ _ _ _ _
  generalize hw3 : fx_put w2 64 (fxt w) (.ref (fxt w + 1)) = w3
  have t3 : fxt w3 = fxt w + 2 := by rw [← hw3]; exact t2
  have u3 : fxu w3 = fxu w + 27 := by rw [← hw3]; exact u2
  have k3 : ∀ b, fxk w3 b = fxk w2 b := fun b => by rw [← hw3]; rfl
  have f3 : ∀ g b, (g ≠ 64 ∨ b ≠ fxt w) → fxf w3 g b = fxf w1 g b := fun g b hb => by rw [← hw3, fxf_putN _ _ hb]; exact f2 g b
  have f3n : fxf w3 64 (fxt w) = .ref (fxt w + 1) := by rw [← hw3]; exact fxf_put _ _ _ _
  have e3 : ∀ t b j, fxe w3 t b j = fxe w2 t b j := fun t b j => by rw [← hw3]; rfl
  have kk : ∀ b, b < fxt w → fxk (fx_ast w3 3 t0 i (.ref (fxt w))) b = fxk w b := fun b hb => (k3 b).trans ((k2 b (by omega)).trans (k1 b (by omega)))
  have ff : ∀ g b, b < fxt w → fxf (fx_ast w3 3 t0 i (.ref (fxt w))) g b = fxf w g b := fun g b hb => (f3 g b (Or.inr (by omega))).trans (f1 g b (by omega))
  have ee : ∀ t b j, b < fxt w → (t ≠ 3 ∨ b ≠ t0 ∨ j ≠ i) → fxe (fx_ast w3 3 t0 i (.ref (fxt w))) t b j = fxe w t b j := fun t b j hb hh => by rw [fxe_astN _ _ hh, e3]; exact e2 t b j (by omega)
  refine ⟨by show fxt w3 = _; omega, by show fxu w3 = _; omega, (kk _ (by omega)).trans h3, fun a ha => ?_, (ff _ _ (by omega)).trans h5, fun b hb => (kk b (by omega)).trans (h6 b hb), fun g b hb hg => (ff g b (by omega)).trans (h7 g b hb hg), fun t b j hb => (ee t b j (by omega) (Or.inr (Or.inl (by omega)))).trans (h8 t b j hb)⟩
  by_cases c : a = i
  · subst c
    have q1 : fxt w = t0 + 1 + 2 * a := h1
    have q2 : fxt w + 1 = t0 + 2 + 2 * a := by omega
    rw [q2] at k2n e2n f3n k2
    unfold RwI
    rw [← q1]
    refine ⟨⟨(k3 _).trans ((k2 _ (by omega)).trans k1n), f3n, (f3 _ _ (Or.inl (by decide))).trans (f1n 65 (by decide)), (f3 _ _ (Or.inl (by decide))).trans (f1n 66 (by decide)), (k3 _).trans k2n, fun k hk => ?_⟩, fxe_ast _ _ _ _ _⟩
    rw [fxe_astN _ _ (Or.inl (by decide)), e3]; exact e2n 0 k
  · obtain ⟨q1, q2⟩ := h4 a (by omega)
    refine ⟨q1.pz (kk _ (by omega)) (kk _ (by omega)) (fun g => ff g _ (by omega)) (fun j => ee 0 _ j (by omega) (Or.inl (by decide))), (ee 3 _ _ (by omega) (Or.inr (Or.inr c))).trans q2⟩
def WkI (G : fxG) (t0 k : Nat) (w : fxW) : Prop := fxk w (t0 + 10 + 2 * k) = some (4, 0) ∧ fxf w 256 (t0 + 10 + 2 * k) = .ref (t0 + 11 + 2 * k) ∧ fxf w 257 (t0 + 10 + 2 * k) = zi 0 ∧ fxf w 258 (t0 + 10 + 2 * k) = zi 0 ∧ fxf w 259 (t0 + 10 + 2 * k) = zi 0 ∧ fxf w 260 (t0 + 10 + 2 * k) = zi (k : Int) ∧ fxk w (t0 + 11 + 2 * k) = some (5, 0) ∧ fxf w 320 (t0 + 11 + 2 * k) = .ref (fxad G 0) ∧ fxf w 321 (t0 + 11 + 2 * k) = zi 0 ∧ fxf w 322 (t0 + 11 + 2 * k) = zi 0 ∧ fxe w 4 (t0 + 9) k = .ref (t0 + 10 + 2 * k)
def I2 (G : fxG) (w0 : fxW) (p t0 W i : Nat) (w : fxW) : Prop := fxt w = t0 + 10 + 2 * i ∧ fxu w = fxu w0 + 112 + W + 8 * i ∧ fxk w t0 = some (103, 4) ∧ (∀ a, a < 4 → RwI t0 a w) ∧ fxf w 0 p = .ref t0 ∧ Fi p t0 w0 w ∧ fxk w (t0 + 9) = some (104, W) ∧ fxf w 1 p = .ref (t0 + 9) ∧ ∀ k, k < i → WkI G t0 k w
theorem I2.step {G : fxG} {w0 : fxW} {p t0 W i : Nat} {w : fxW} (h : I2 G w0 p t0 W i w) (hp : p < t0) : I2 G w0 p t0 W (i + 1) (fx_ast (wkW G (fx_new w 4 5 (fun k => defaultValue (tWk k))) (fxt w) i) 4 (t0 + 9) i (.ref (fxt w))) := by
  obtain ⟨h1, h2, h3, h4, h5, ⟨h6, h7, h8⟩, h9, h10, h11⟩ := h
  generalize hw1 : fx_new w 4 5 (fun k => defaultValue (tWk k)) = w1
  have t1 : fxt w1 = fxt w + 1 := by rw [← hw1]; rfl
  have u1 : fxu w1 = fxu w + 5 := by rw [← hw1]; rfl
  have k1 : ∀ b, b ≠ fxt w → fxk w1 b = fxk w b := fun b hb => by rw [← hw1]; exact fxk_newN _ _ _ _ hb
  have k1n : fxk w1 (fxt w) = some (4, 0) := by rw [← hw1]; exact fxk_new _ _ _ _
  have f1 : ∀ g b, b ≠ fxt w → fxf w1 g b = fxf w g b := fun g b hb => by rw [← hw1]; exact fxf_newN _ _ _ _ hb
  have f1n : ∀ g, 256 ≤ g → fxf w1 g (fxt w) = defaultValue (tWk (g - 256)) := fun g hg => by rw [← hw1]; exact fxf_new _ _ _ _ hg
  have e1 : ∀ t b j, fxe w1 t b j = fxe w t b j := fun t b j => by rw [← hw1]; rfl
  unfold wkW
  rw [t1]
  generalize hw2 : fx_new w1 5 3 (fun k => defaultValue (tAL k)) = w2
  have t2 : fxt w2 = fxt w + 2 := by rw [← hw2]; show fxt w1 + 1 = _; omega
  have u2 : fxu w2 = fxu w + 8 := by rw [← hw2]; show fxu w1 + 3 = _; omega
  have k2 : ∀ b, b ≠ fxt w + 1 → fxk w2 b = fxk w1 b := fun b hb => by rw [← hw2]; exact fxk_newN _ _ _ _ (by omega)
  have k2n : fxk w2 (fxt w + 1) = some (5, 0) := by rw [← hw2, ← t1]; exact fxk_new _ _ _ _
  have f2 : ∀ g b, b ≠ fxt w + 1 → fxf w2 g b = fxf w1 g b := fun g b hb => by rw [← hw2]; exact fxf_newN _ _ _ _ (by omega)
  have f2n : ∀ g, 320 ≤ g → fxf w2 g (fxt w + 1) = defaultValue (tAL (g - 320)) := fun g hg => by rw [← hw2, ← t1]; exact fxf_new _ _ _ _ hg
  have e2 : ∀ t b j, fxe w2 t b j = fxe w t b j := fun t b j => by rw [← hw2]; exact e1 t b j
  generalize hw3 : fx_put (fx_put (fx_put (fx_put w2 322 (fxt w + 1) (zi 0)) 320 (fxt w + 1) (.ref (fxad G 0))) 256 (fxt w) (.ref (fxt w + 1))) 260 (fxt w) (zi (i : Int)) = w3
  have t3 : fxt w3 = fxt w + 2 := by rw [← hw3]; exact t2
  have u3 : fxu w3 = fxu w + 8 := by rw [← hw3]; exact u2
  have k3 : ∀ b, fxk w3 b = fxk w2 b := fun b => by rw [← hw3]; rfl
  have e3 : ∀ t b j, fxe w3 t b j = fxe w t b j := fun t b j => by rw [← hw3]; exact e2 t b j
  have n : ∀ {w : fxW} {g g' a a' : Nat} {v : Value}, (g ≠ g' ∨ a ≠ a') → fxf (fx_put w g' a' v) g a = fxf w g a := fun h => fxf_putN _ _ h
  have f3 : ∀ g b, b < fxt w → fxf w3 g b = fxf w g b := fun g b hb => by rw [← hw3, n (Or.inr (by omega)), n (Or.inr (by omega)), n (Or.inr (by omega)), n (Or.inr (by omega)), f2 g b (by omega), f1 g b (by omega)]
  have a1 : fxf w3 256 (fxt w) = .ref (fxt w + 1) := by rw [← hw3, n (Or.inl (by decide)), fxf_put]
  have a2 : ∀ g, 256 < g → g < 260 → fxf w3 g (fxt w) = defaultValue (tWk (g - 256)) := fun g g1 g2 => by rw [← hw3, n (Or.inl (by omega)), n (Or.inl (by omega)), n (Or.inl (by omega)), n (Or.inl (by omega)), f2 g _ (by omega), f1n g (by omega)]
  have a3 : fxf w3 260 (fxt w) = zi (i : Int) := by rw [← hw3, fxf_put]
  have b1 : fxf w3 320 (fxt w + 1) = .ref (fxad G 0) := by rw [← hw3, n (Or.inl (by decide)), n (Or.inl (by decide)), fxf_put]
  have b2 : fxf w3 321 (fxt w + 1) = zi 0 := by rw [← hw3, n (Or.inl (by decide)), n (Or.inl (by decide)), n (Or.inl (by decide)), n (Or.inl (by decide)), f2n 321 (by decide)]; rfl
  have b3 : fxf w3 322 (fxt w + 1) = zi 0 := by rw [← hw3, n (Or.inl (by decide)), n (Or.inl (by decide)), n (Or.inl (by decide)), fxf_put]
  have kk : ∀ b, b < fxt w → fxk (fx_ast w3 4 (t0 + 9) i (.ref (fxt w))) b = fxk w b := fun b hb => (k3 b).trans ((k2 b (by omega)).trans (k1 b (by omega)))
  have ff : ∀ g b, b < fxt w → fxf (fx_ast w3 4 (t0 + 9) i (.ref (fxt w))) g b = fxf w g b := fun g b hb => f3 g b hb
  have ee : ∀ t b j, (t ≠ 4 ∨ b ≠ t0 + 9 ∨ j ≠ i) → fxe (fx_ast w3 4 (t0 + 9) i (.ref (fxt w))) t b j = fxe w t b j := fun t b j hh => by rw [fxe_astN _ _ hh]; exact e3 t b j
  refine ⟨by show fxt w3 = _; omega, by show fxu w3 = _; omega, (kk _ (by omega)).trans h3, fun a ha => ?_, (ff _ _ (by omega)).trans h5, ⟨fun b hb => (kk b (by omega)).trans (h6 b hb), fun g b hb hg => (ff g b (by omega)).trans (h7 g b hb hg), fun t b j hb => (ee t b j (Or.inr (Or.inl (by omega)))).trans (h8 t b j hb)⟩, (kk _ (by omega)).trans h9, (ff _ _ (by omega)).trans h10, fun k hk => ?_⟩
  · obtain ⟨q1, q2⟩ := h4 a ha
    exact ⟨q1.pz (kk _ (by omega)) (kk _ (by omega)) (fun g => ff g _ (by omega)) (fun j => ee 0 _ j (Or.inl (by decide))), (ee 3 _ _ (Or.inl (by decide))).trans q2⟩
  · by_cases c : k = i
    · subst c
      have q1 : fxt w = t0 + 10 + 2 * k := h1
      have q2 : fxt w + 1 = t0 + 11 + 2 * k := by omega
      rw [q2] at k2n k2 a1 b1 b2 b3
      unfold WkI
      rw [← q1]
      exact ⟨(k3 _).trans ((k2 _ (by omega)).trans k1n), a1, a2 257 (by decide) (by decide), a2 258 (by decide) (by decide), a2 259 (by decide) (by decide), a3, (k3 _).trans k2n, b1, b2, b3, fxe_ast _ _ _ _ _⟩
    · obtain ⟨q1, q2, q3, q4, q5, q6, q7, q8, q9, q10, q11⟩ := h11 k (by omega)
      exact ⟨(kk _ (by omega)).trans q1, (ff _ _ (by omega)).trans q2, (ff _ _ (by omega)).trans q3, (ff _ _ (by omega)).trans q4, (ff _ _ (by omega)).trans q5, (ff _ _ (by omega)).trans q6, (kk _ (by omega)).trans q7, (ff _ _ (by omega)).trans q8, (ff _ _ (by omega)).trans q9, (ff _ _ (by omega)).trans q10, (ee 4 _ _ (Or.inr (Or.inr c))).trans q11⟩

/-! NEW ARRAYS; THE REFERENCE'S <init> -/
section FXN
variable {G : fxG} {d nL : Nat} {cc : ByteArray} {own nm : String} {ret : Option FieldType} {hh : List (Nat × Nat × Nat × Nat)} {x : fxX} {Q : State → Prop} {w : fxW} {pc : Nat} {ls : List (Nat × Value)} {st : List Value}
theorem zn_int (C : fxC G d cc nL own nm ret hh x) {N : Nat} {j : Int} (hd : decode cc pc = .ok (.newarray .int, 2)) (hj : j = (N : Int)) (hN : N ≤ 100000) (h9 : fxt w + 1 ≤ fxmt G) (h8 : fxu w + N ≤ fxmu G) (k : fxR G nL x Q (fx_newa w 1 N (zi 0)) (pc + 2) ls (.ref (fxt w) :: st)) : fxR G nL x Q w pc ls (zi j :: st) :=
  r_newarr (t := 1) (atype := .int) (z := zi 0) C hd (by decide) rfl (fxTW_in 855 (by decide +kernel) rfl) (by subst hj; rw [← z_nat]; exact nI_pos (by omega)) (by subst hj; rw [← z_nat]; exact nI_clamp (by omega)) (by show N * 4 ≤ _; omega) rfl h9 h8 k
theorem zn_long (C : fxC G d cc nL own nm ret hh x) {N : Nat} {j : Int} (hd : decode cc pc = .ok (.newarray .long, 2)) (hj : j = (N : Int)) (hN : N ≤ 100000) (h9 : fxt w + 1 ≤ fxmt G) (h8 : fxu w + N ≤ fxmu G) (k : fxR G nL x Q (fx_newa w 0 N (.long 0)) (pc + 2) ls (.ref (fxt w) :: st)) : fxR G nL x Q w pc ls (zi j :: st) :=
  r_newarr (t := 0) (atype := .long) (z := .long 0) C hd (by decide) rfl (fxTW_in 89 (by decide +kernel) rfl) (by subst hj; rw [← z_nat]; exact nI_pos (by omega)) (by subst hj; rw [← z_nat]; exact nI_clamp (by omega)) (by show N * 8 ≤ _; omega) rfl h9 h8 k
end FXN
/-- the slots of the first n arrays -/
def moU (n : Nat) : Nat := [0, 4, 8, 104, 116, 128, 140, 152, 164, 176, 188, 200, 212, 812, 1412, 2012, 2612, 3212, 3812, 4412, 5012, 7412, 7416, 7420, 7424, 7428, 7432].getD n 0
/-- the reference under way: na arrays are made, np are put -/
def MoP (w0 : fxW) (na np : Nat) (S : Ms) (m : Nat) (w : fxW) : Prop :=
  fxk w m = some (6, 0) ∧ fxt w = m + 1 + na ∧ fxu w = fxu w0 + moU na ∧ (∀ k, moK k = 0 → fxf w (384 + k) m = zi (S.1 k 0)) ∧
  (∀ k, moK k = 1 → moO k ≤ na → fxk w (m + moO k) = some (101, moL k) ∧ ∀ j, j < moL k → fxe w 1 (m + moO k) j = zi (S.1 k j)) ∧
  (∀ k, moK k = 2 → moO k ≤ na → fxk w (m + moO k) = some (100, moL k) ∧ ∀ j, j < moL k → fxe w 0 (m + moO k) j = .long (S.2 k j)) ∧
  (∀ k, moK k ≠ 0 → moK k < 9 → moO k ≤ np → fxf w (384 + k) m = .ref (m + moO k)) ∧
  (∀ a, a < m → fxk w a = fxk w0 a ∧ (∀ g, fxf w g a = fxf w0 g a) ∧ (∀ t j, fxe w t a j = fxe w0 t a j))
section MOP
variable {w0 w : fxW} {na np m : Nat} {S : Ms}
theorem MoP.newI (h : MoP w0 na np S m w) (k : Nat) (hk : moK k = 1) (ho : moO k = na + 1) (hz : ∀ j, S.1 k j = 0) (hu : moU (na + 1) = moU na + moL k) : MoP w0 (na + 1) np S m (fx_newa w 1 (moL k) (zi 0)) := by
  obtain ⟨h1, h2, h3, h4, h5, h6, h7, h8⟩ := h
  have ka : ∀ a, a ≠ fxt w → fxk (fx_newa w 1 (moL k) (zi 0)) a = fxk w a := fun a ha => if_neg ha
  have ea : ∀ t a j, a ≠ fxt w → fxe (fx_newa w 1 (moL k) (zi 0)) t a j = fxe w t a j := fun t a j ha => if_neg ha
  refine ⟨(ka m (by omega)).trans h1, by show fxt w + 1 = _; omega, by show fxu w + moL k = _; omega, h4, ?_, ?_, h7, fun a ha => ⟨(ka a (by omega)).trans (h8 a ha).1, (h8 a ha).2.1, fun t j => (ea t a j (by omega)).trans ((h8 a ha).2.2 t j)⟩⟩
  · intro k' hk' ho'
    by_cases e : k' = k
    · subst e
      have em : m + moO k' = fxt w := by omega
      rw [em]
      exact ⟨if_pos rfl, fun j _ => by show (if fxt w = fxt w then zi 0 else _) = _; rw [if_pos rfl, hz]⟩
    · have hne : moO k' ≠ na + 1 := fun q => e (moO_inj (by omega) (by omega) (by omega) (by omega) (by omega))
      obtain ⟨a1, a2⟩ := h5 k' hk' (by omega)
      exact ⟨(ka _ (by omega)).trans a1, fun j hj => (ea 1 _ j (by omega)).trans (a2 j hj)⟩
  · intro k' hk' ho'
    have hne : moO k' ≠ na + 1 := fun q => by
      have := moO_inj (k := k') (k' := k) (by omega) (by omega) (by omega) (by omega) (by omega)
      subst this; omega
    obtain ⟨a1, a2⟩ := h6 k' hk' (by omega)
    exact ⟨(ka _ (by omega)).trans a1, fun j hj => (ea 0 _ j (by omega)).trans (a2 j hj)⟩
theorem MoP.newL (h : MoP w0 na np S m w) (k : Nat) (hk : moK k = 2) (ho : moO k = na + 1) (hz : ∀ j, S.2 k j = 0) (hu : moU (na + 1) = moU na + moL k) : MoP w0 (na + 1) np S m (fx_newa w 0 (moL k) (.long 0)) := by
  obtain ⟨h1, h2, h3, h4, h5, h6, h7, h8⟩ := h
  have ka : ∀ a, a ≠ fxt w → fxk (fx_newa w 0 (moL k) (.long 0)) a = fxk w a := fun a ha => if_neg ha
  have ea : ∀ t a j, a ≠ fxt w → fxe (fx_newa w 0 (moL k) (.long 0)) t a j = fxe w t a j := fun t a j ha => if_neg ha
  refine ⟨(ka m (by omega)).trans h1, by show fxt w + 1 = _; omega, by show fxu w + moL k = _; omega, h4, ?_, ?_, h7, fun a ha => ⟨(ka a (by omega)).trans (h8 a ha).1, (h8 a ha).2.1, fun t j => (ea t a j (by omega)).trans ((h8 a ha).2.2 t j)⟩⟩
  · intro k' hk' ho'
    have hne : moO k' ≠ na + 1 := fun q => by
      have := moO_inj (k := k') (k' := k) (by omega) (by omega) (by omega) (by omega) (by omega)
      subst this; omega
    obtain ⟨a1, a2⟩ := h5 k' hk' (by omega)
    exact ⟨(ka _ (by omega)).trans a1, fun j hj => (ea 1 _ j (by omega)).trans (a2 j hj)⟩
  · intro k' hk' ho'
    by_cases e : k' = k
    · subst e
      have em : m + moO k' = fxt w := by omega
      rw [em]
      exact ⟨if_pos rfl, fun j _ => by show (if fxt w = fxt w then Value.long 0 else _) = _; rw [if_pos rfl, hz]⟩
    · have hne : moO k' ≠ na + 1 := fun q => e (moO_inj (by omega) (by omega) (by omega) (by omega) (by omega))
      obtain ⟨a1, a2⟩ := h6 k' hk' (by omega)
      exact ⟨(ka _ (by omega)).trans a1, fun j hj => (ea 0 _ j (by omega)).trans (a2 j hj)⟩
theorem MoP.put (h : MoP w0 na np S m w) (k : Nat) (hk : moK k ≠ 0) (hk9 : moK k < 9) (ho : moO k = np + 1) (a : Nat) (ha : a = m + moO k) : MoP w0 na (np + 1) S m (fx_put w (384 + k) m (.ref a)) := by
  subst ha
  obtain ⟨h1, h2, h3, h4, h5, h6, h7, h8⟩ := h
  have fa : ∀ g a', (g ≠ 384 + k ∨ a' ≠ m) → fxf (fx_put w (384 + k) m (.ref (m + moO k))) g a' = fxf w g a' := fun g a' hg => by
    show (if g = 384 + k then (if a' = m then _ else fxf w g a') else fxf w g a') = _
    rcases hg with q | q
    · rw [if_neg q]
    · rw [if_neg q]; split <;> rfl
  refine ⟨h1, h2, h3, fun k' hk' => (fa _ _ (Or.inl fun q => hk (by rw [show k = k' by omega]; exact hk'))).trans (h4 k' hk'), h5, h6, ?_, fun a' ha' => ⟨(h8 a' ha').1, fun g => (fa g a' (Or.inr (by omega))).trans ((h8 a' ha').2.1 g), (h8 a' ha').2.2⟩⟩
  intro k' hk' hk9' ho'
  by_cases e : k' = k
  · subst e
    show (if 384 + k' = 384 + k' then (if m = m then _ else _) else _) = _
    rw [if_pos rfl, if_pos rfl]
  · have hne : moO k' ≠ np + 1 := fun q => e (moO_inj hk9' hk9 hk' hk (by omega))
    exact (fa _ _ (Or.inl (by omega))).trans (h7 k' hk' hk9' (by omega))
theorem MoP.sc (h : MoP w0 na np S m w) (k : Nat) (hk : moK k = 0) (v : Int) : MoP w0 na np (sp S k 0 v) m (fx_put w (384 + k) m (zi v)) := by
  obtain ⟨h1, h2, h3, h4, h5, h6, h7, h8⟩ := h
  have fa : ∀ g a', (g ≠ 384 + k ∨ a' ≠ m) → fxf (fx_put w (384 + k) m (zi v)) g a' = fxf w g a' := fun g a' hg => by
    show (if g = 384 + k then (if a' = m then _ else fxf w g a') else fxf w g a') = _
    rcases hg with q | q
    · rw [if_neg q]
    · rw [if_neg q]; split <;> rfl
  refine ⟨h1, h2, h3, fun k' hk' => ?_, fun k' hk' ho' => ⟨(h5 k' hk' ho').1, fun j hj => ?_⟩, h6, fun k' hk' hk9 ho' => ?_, fun a' ha' => ⟨(h8 a' ha').1, fun g => (fa g a' (Or.inr (by omega))).trans ((h8 a' ha').2.1 g), (h8 a' ha').2.2⟩⟩
  · by_cases e : k' = k
    · subst e
      rw [sp_same]
      show (if 384 + k' = 384 + k' then (if m = m then _ else _) else _) = _
      rw [if_pos rfl, if_pos rfl]
    · rw [sp_k _ _ _ _ e]
      exact (fa _ _ (Or.inl (by omega))).trans (h4 k' hk')
  · rw [sp_k _ _ _ _ (fun q => by rw [q, hk] at hk'; cases hk')]
    exact (h5 k' hk' ho').2 j hj
  · exact (fa _ _ (Or.inl fun q => hk' (by rw [show k' = k by omega]; exact hk))).trans (h7 k' hk' hk9 ho')
theorem MoP.el (h : MoP w0 na np S m w) (k : Nat) (hk : moK k = 1) (ho : moO k ≤ na) (a : Nat) (ha : a = m + moO k) (j : Nat) (v : Int) : MoP w0 na np (sp S k j v) m (fx_ast w 1 a j (zi v)) := by
  subst ha
  obtain ⟨h1, h2, h3, h4, h5, h6, h7, h8⟩ := h
  have hp := moO_pos (k := k) (by omega) (by omega)
  have ea : ∀ t a' j', (t ≠ 1 ∨ a' ≠ m + moO k ∨ j' ≠ j) → fxe (fx_ast w 1 (m + moO k) j (zi v)) t a' j' = fxe w t a' j' := fun t a' j' hg => by
    show (if t = 1 then (if a' = m + moO k then (if j' = j then _ else fxe w t a' j') else fxe w t a' j') else fxe w t a' j') = _
    rcases hg with q | q | q
    · rw [if_neg q]
    · rw [if_neg q]; split <;> rfl
    · rw [if_neg q]; split <;> (try split) <;> rfl
  refine ⟨h1, h2, h3, fun k' hk' => ?_, fun k' hk' ho' => ⟨(h5 k' hk' ho').1, fun j' hj' => ?_⟩, fun k' hk' ho' => ⟨(h6 k' hk' ho').1, fun j' hj' => (ea 0 _ j' (Or.inl (by decide))).trans ((h6 k' hk' ho').2 j' hj')⟩, h7, fun a' ha' => ⟨(h8 a' ha').1, (h8 a' ha').2.1, fun t j' => (ea t a' j' (Or.inr (Or.inl (by omega)))).trans ((h8 a' ha').2.2 t j')⟩⟩
  · rw [sp_k _ _ _ _ (fun q => by rw [q, hk] at hk'; cases hk')]; exact h4 k' hk'
  · by_cases e : k' = k
    · subst e
      by_cases e2 : j' = j
      · subst e2
        rw [sp_same]
        show (if (1 : Nat) = 1 then (if m + moO k' = m + moO k' then (if j' = j' then zi v else fxe w 1 (m + moO k') j') else fxe w 1 (m + moO k') j') else fxe w 1 (m + moO k') j') = zi v
        simp
      · rw [sp_j _ _ _ e2]
        exact (ea 1 _ j' (Or.inr (Or.inr e2))).trans ((h5 k' hk' ho').2 j' hj')
    · rw [sp_k _ _ _ _ e]
      exact (ea 1 _ j' (Or.inr (Or.inl fun q => e (moO_inj (by omega) (by omega) (by omega) (by omega) (by omega))))).trans ((h5 k' hk' ho').2 j' hj')
theorem MoP.done (h : MoP w0 26 26 S m w) : MoR S m w := by
  obtain ⟨h1, h2, h3, h4, h5, h6, h7, h8⟩ := h
  refine ⟨h1, h4, fun k hk => ?_, fun k hk => ?_⟩
  · have hp := moO_pos (k := k) (by omega) (by omega)
    exact ⟨h7 k (by omega) (by omega) (by omega), (h5 k hk (by omega)).1, (h5 k hk (by omega)).2⟩
  · have hp := moO_pos (k := k) (by omega) (by omega)
    exact ⟨h7 k (by omega) (by omega) (by omega), (h6 k hk (by omega)).1, (h6 k hk (by omega)).2⟩
end MOP
/-- the beginning: all is 0 -/
def mZero : Ms := (fun _ _ => 0, fun _ _ => 0)
def mType : Ms := sp (sp (sp (sp mZero 2 0 (-1)) 2 1 (-1)) 2 2 (-1)) 2 3 (-1)
def mVict : Ms := sp (sp (sp (sp mType 29 0 0) 29 1 1) 29 2 2) 29 3 3
def mIni (n : Int) : Ms := sp (sp mVict 30 0 4) 1 0 (if n < 1 then 1 else if 4 < n then 4 else n)
def mo1 (m : Nat) (w : fxW) (S' : Ms) : Outcome → fxW → Prop := fun o w' => o = .returned none ∧ MoP w 26 26 S' m w'
theorem mo_gen {G : fxG} {nL : Nat} {x : fxX} {Q : State → Prop} {pc : Nat} {ls : List (Nat × Value)} {st : List Value} {w0 w : fxW} {na np m : Nat} {S : Ms} (h : MoP w0 na np S m w) (k : ∀ w, MoP w0 na np S m w → fxR G nL x Q w pc ls st) : fxR G nL x Q w pc ls st := k w h
set_option maxRecDepth 20000 in
theorem m_Mo_init {G : fxG} (d : Nat) {m : Nat} {w : fxW} (hd1 : 1 ≤ d) (n : Int) (hn : zok n) (hP : MoP w 0 0 mZero m w) (ht9 : m + 27 ≤ fxmt G) (hu9 : fxu w + 7432 ≤ fxmu G) : fxM G d y_Mo_init [.ref m, zi n] w (mo1 m w (mIni n)) := by
  refine fxM.of cc_Mo_init 2 none [] (by decide +kernel) w_Mo_init (Nat.le_of_ble_eq_true rfl) ?_
  intro x C ht hu
  generalize hQ : mo1 m w (mIni n) = QQ
  generalize hu0 : fxu w = u0 at hu9
  show fxR G 2 x _ w 0 [(0, .ref m), (1, zi n)] []
  refine r_aload_n C d_Mo_init_0 rfl rfl ?_
  refine o_Mo_1 C d_Mo_init_1 (by omega) (by decide) ?_
  refine r_aload_n C d_Mo_init_4 rfl rfl ?_
  refine r_iconst C d_Mo_init_5 rfl ?_
  refine zn_int (N := 4) C d_Mo_init_6 rfl (by decide) (by rw [hP.2.1]; omega) (by rw [hP.2.2.1, hu0]; show u0 + 0 + 4 ≤ fxmu G; omega) ?_
  rw [show fxt w = m + 1 by have := hP.2.1; omega]
  have hP := hP.newI 2 rfl rfl (fun _ => rfl) rfl
  refine mo_gen hP (fun w hP => ?_)
  refine r_dup C d_Mo_init_8 rfl ?_
  refine r_iconst C d_Mo_init_9 rfl ?_
  refine r_iconst C d_Mo_init_10 rfl ?_
  refine zr_iastore (t := 1) (k := 0) (n := 4) C d_Mo_init_11 (by decide) rfl (hP.2.2.2.2.1 2 rfl (by decide)).1 rfl (by decide) (by decide) ?_
  refine mo_gen (hP.el 2 rfl (by decide) _ rfl 0 (-1)) (fun w hP => ?_)
  refine r_dup C d_Mo_init_12 rfl ?_
  refine r_iconst C d_Mo_init_13 rfl ?_
  refine r_iconst C d_Mo_init_14 rfl ?_
  refine zr_iastore (t := 1) (k := 1) (n := 4) C d_Mo_init_15 (by decide) rfl (hP.2.2.2.2.1 2 rfl (by decide)).1 rfl (by decide) (by decide) ?_
  refine mo_gen (hP.el 2 rfl (by decide) _ rfl 1 (-1)) (fun w hP => ?_)
  refine r_dup C d_Mo_init_16 rfl ?_
  refine r_iconst C d_Mo_init_17 rfl ?_
  refine r_iconst C d_Mo_init_18 rfl ?_
  refine zr_iastore (t := 1) (k := 2) (n := 4) C d_Mo_init_19 (by decide) rfl (hP.2.2.2.2.1 2 rfl (by decide)).1 rfl (by decide) (by decide) ?_
  refine mo_gen (hP.el 2 rfl (by decide) _ rfl 2 (-1)) (fun w hP => ?_)
  refine r_dup C d_Mo_init_20 rfl ?_
  refine r_iconst C d_Mo_init_21 rfl ?_
  refine r_iconst C d_Mo_init_22 rfl ?_
  refine zr_iastore (t := 1) (k := 3) (n := 4) C d_Mo_init_23 (by decide) rfl (hP.2.2.2.2.1 2 rfl (by decide)).1 rfl (by decide) (by decide) ?_
  refine mo_gen (hP.el 2 rfl (by decide) _ rfl 3 (-1)) (fun w hP => ?_)
  refine p_Mo_7F (nm := "") C d_Mo_init_24 rfl rfl hP.1 ?_
  refine mo_gen (hP.put 2 (by decide) (by decide) rfl _ rfl) (fun w hP => ?_)
  refine r_aload_n C d_Mo_init_27 rfl rfl ?_
  refine r_iconst C d_Mo_init_28 rfl ?_
  refine zn_int (N := 4) C d_Mo_init_29 rfl (by decide) (by rw [hP.2.1]; omega) (by rw [hP.2.2.1, hu0]; show u0 + 4 + 4 ≤ fxmu G; omega) ?_
  rw [show fxt w = m + 2 by have := hP.2.1; omega]
  have hP := hP.newI 3 rfl rfl (fun _ => rfl) rfl
  refine mo_gen hP (fun w hP => ?_)
  refine p_Mo_13F (nm := "") C d_Mo_init_31 rfl rfl hP.1 ?_
  refine mo_gen (hP.put 3 (by decide) (by decide) rfl _ rfl) (fun w hP => ?_)
  refine r_aload_n C d_Mo_init_34 rfl rfl ?_
  refine r_bipush (v := Int32.ofInt 96) C d_Mo_init_35 (by decide) ?_
  refine zn_long (N := 96) C d_Mo_init_37 rfl (by decide) (by rw [hP.2.1]; omega) (by rw [hP.2.2.1, hu0]; show u0 + 8 + 96 ≤ fxmu G; omega) ?_
  rw [show fxt w = m + 3 by have := hP.2.1; omega]
  have hP := hP.newL 4 rfl rfl (fun _ => rfl) rfl
  refine mo_gen hP (fun w hP => ?_)
  refine p_Mo_16F (nm := "") C d_Mo_init_39 rfl rfl hP.1 ?_
  refine mo_gen (hP.put 4 (by decide) (by decide) rfl _ rfl) (fun w hP => ?_)
  refine r_aload_n C d_Mo_init_42 rfl rfl ?_
  refine r_bipush (v := Int32.ofInt 12) C d_Mo_init_43 (by decide) ?_
  refine zn_int (N := 12) C d_Mo_init_45 rfl (by decide) (by rw [hP.2.1]; omega) (by rw [hP.2.2.1, hu0]; show u0 + 104 + 12 ≤ fxmu G; omega) ?_
  rw [show fxt w = m + 4 by have := hP.2.1; omega]
  have hP := hP.newI 5 rfl rfl (fun _ => rfl) rfl
  refine mo_gen hP (fun w hP => ?_)
  refine p_Mo_20F (nm := "") C d_Mo_init_47 rfl rfl hP.1 ?_
  refine mo_gen (hP.put 5 (by decide) (by decide) rfl _ rfl) (fun w hP => ?_)
  refine r_aload_n C d_Mo_init_50 rfl rfl ?_
  refine r_bipush (v := Int32.ofInt 12) C d_Mo_init_51 (by decide) ?_
  refine zn_int (N := 12) C d_Mo_init_53 rfl (by decide) (by rw [hP.2.1]; omega) (by rw [hP.2.2.1, hu0]; show u0 + 116 + 12 ≤ fxmu G; omega) ?_
  rw [show fxt w = m + 5 by have := hP.2.1; omega]
  have hP := hP.newI 6 rfl rfl (fun _ => rfl) rfl
  refine mo_gen hP (fun w hP => ?_)
  refine p_Mo_23F (nm := "") C d_Mo_init_55 rfl rfl hP.1 ?_
  refine mo_gen (hP.put 6 (by decide) (by decide) rfl _ rfl) (fun w hP => ?_)
  refine r_aload_n C d_Mo_init_58 rfl rfl ?_
  refine r_bipush (v := Int32.ofInt 12) C d_Mo_init_59 (by decide) ?_
  refine zn_int (N := 12) C d_Mo_init_61 rfl (by decide) (by rw [hP.2.1]; omega) (by rw [hP.2.2.1, hu0]; show u0 + 128 + 12 ≤ fxmu G; omega) ?_
  rw [show fxt w = m + 6 by have := hP.2.1; omega]
  have hP := hP.newI 7 rfl rfl (fun _ => rfl) rfl
  refine mo_gen hP (fun w hP => ?_)
  refine p_Mo_26F (nm := "") C d_Mo_init_63 rfl rfl hP.1 ?_
  refine mo_gen (hP.put 7 (by decide) (by decide) rfl _ rfl) (fun w hP => ?_)
  refine r_aload_n C d_Mo_init_66 rfl rfl ?_
  refine r_bipush (v := Int32.ofInt 12) C d_Mo_init_67 (by decide) ?_
  refine zn_int (N := 12) C d_Mo_init_69 rfl (by decide) (by rw [hP.2.1]; omega) (by rw [hP.2.2.1, hu0]; show u0 + 140 + 12 ≤ fxmu G; omega) ?_
  rw [show fxt w = m + 7 by have := hP.2.1; omega]
  have hP := hP.newI 8 rfl rfl (fun _ => rfl) rfl
  refine mo_gen hP (fun w hP => ?_)
  refine p_Mo_29F (nm := "") C d_Mo_init_71 rfl rfl hP.1 ?_
  refine mo_gen (hP.put 8 (by decide) (by decide) rfl _ rfl) (fun w hP => ?_)
  refine r_aload_n C d_Mo_init_74 rfl rfl ?_
  refine r_bipush (v := Int32.ofInt 12) C d_Mo_init_75 (by decide) ?_
  refine zn_int (N := 12) C d_Mo_init_77 rfl (by decide) (by rw [hP.2.1]; omega) (by rw [hP.2.2.1, hu0]; show u0 + 152 + 12 ≤ fxmu G; omega) ?_
  rw [show fxt w = m + 8 by have := hP.2.1; omega]
  have hP := hP.newI 9 rfl rfl (fun _ => rfl) rfl
  refine mo_gen hP (fun w hP => ?_)
  refine p_Mo_32F (nm := "") C d_Mo_init_79 rfl rfl hP.1 ?_
  refine mo_gen (hP.put 9 (by decide) (by decide) rfl _ rfl) (fun w hP => ?_)
  refine r_aload_n C d_Mo_init_82 rfl rfl ?_
  refine r_bipush (v := Int32.ofInt 12) C d_Mo_init_83 (by decide) ?_
  refine zn_int (N := 12) C d_Mo_init_85 rfl (by decide) (by rw [hP.2.1]; omega) (by rw [hP.2.2.1, hu0]; show u0 + 164 + 12 ≤ fxmu G; omega) ?_
  rw [show fxt w = m + 9 by have := hP.2.1; omega]
  have hP := hP.newI 10 rfl rfl (fun _ => rfl) rfl
  refine mo_gen hP (fun w hP => ?_)
  refine p_Mo_35F (nm := "") C d_Mo_init_87 rfl rfl hP.1 ?_
  refine mo_gen (hP.put 10 (by decide) (by decide) rfl _ rfl) (fun w hP => ?_)
  refine r_aload_n C d_Mo_init_90 rfl rfl ?_
  refine r_bipush (v := Int32.ofInt 12) C d_Mo_init_91 (by decide) ?_
  refine zn_int (N := 12) C d_Mo_init_93 rfl (by decide) (by rw [hP.2.1]; omega) (by rw [hP.2.2.1, hu0]; show u0 + 176 + 12 ≤ fxmu G; omega) ?_
  rw [show fxt w = m + 10 by have := hP.2.1; omega]
  have hP := hP.newI 11 rfl rfl (fun _ => rfl) rfl
  refine mo_gen hP (fun w hP => ?_)
  refine p_Mo_38F (nm := "") C d_Mo_init_95 rfl rfl hP.1 ?_
  refine mo_gen (hP.put 11 (by decide) (by decide) rfl _ rfl) (fun w hP => ?_)
  refine r_aload_n C d_Mo_init_98 rfl rfl ?_
  refine r_bipush (v := Int32.ofInt 12) C d_Mo_init_99 (by decide) ?_
  refine zn_int (N := 12) C d_Mo_init_101 rfl (by decide) (by rw [hP.2.1]; omega) (by rw [hP.2.2.1, hu0]; show u0 + 188 + 12 ≤ fxmu G; omega) ?_
  rw [show fxt w = m + 11 by have := hP.2.1; omega]
  have hP := hP.newI 12 rfl rfl (fun _ => rfl) rfl
  refine mo_gen hP (fun w hP => ?_)
  refine p_Mo_41F (nm := "") C d_Mo_init_103 rfl rfl hP.1 ?_
  refine mo_gen (hP.put 12 (by decide) (by decide) rfl _ rfl) (fun w hP => ?_)
  refine r_aload_n C d_Mo_init_106 rfl rfl ?_
  refine r_bipush (v := Int32.ofInt 12) C d_Mo_init_107 (by decide) ?_
  refine zn_int (N := 12) C d_Mo_init_109 rfl (by decide) (by rw [hP.2.1]; omega) (by rw [hP.2.2.1, hu0]; show u0 + 200 + 12 ≤ fxmu G; omega) ?_
  rw [show fxt w = m + 12 by have := hP.2.1; omega]
  have hP := hP.newI 13 rfl rfl (fun _ => rfl) rfl
  refine mo_gen hP (fun w hP => ?_)
  refine p_Mo_44F (nm := "") C d_Mo_init_111 rfl rfl hP.1 ?_
  refine mo_gen (hP.put 13 (by decide) (by decide) rfl _ rfl) (fun w hP => ?_)
  refine r_aload_n C d_Mo_init_114 rfl rfl ?_
  refine r_sipush (v := Int32.ofInt 600) C d_Mo_init_115 (by decide) ?_
  refine zn_int (N := 600) C d_Mo_init_118 rfl (by decide) (by rw [hP.2.1]; omega) (by rw [hP.2.2.1, hu0]; show u0 + 212 + 600 ≤ fxmu G; omega) ?_
  rw [show fxt w = m + 13 by have := hP.2.1; omega]
  have hP := hP.newI 15 rfl rfl (fun _ => rfl) rfl
  refine mo_gen hP (fun w hP => ?_)
  refine p_Mo_47F (nm := "") C d_Mo_init_120 rfl rfl hP.1 ?_
  refine mo_gen (hP.put 15 (by decide) (by decide) rfl _ rfl) (fun w hP => ?_)
  refine r_aload_n C d_Mo_init_123 rfl rfl ?_
  refine r_sipush (v := Int32.ofInt 600) C d_Mo_init_124 (by decide) ?_
  refine zn_int (N := 600) C d_Mo_init_127 rfl (by decide) (by rw [hP.2.1]; omega) (by rw [hP.2.2.1, hu0]; show u0 + 812 + 600 ≤ fxmu G; omega) ?_
  rw [show fxt w = m + 14 by have := hP.2.1; omega]
  have hP := hP.newI 16 rfl rfl (fun _ => rfl) rfl
  refine mo_gen hP (fun w hP => ?_)
  refine p_Mo_50F (nm := "") C d_Mo_init_129 rfl rfl hP.1 ?_
  refine mo_gen (hP.put 16 (by decide) (by decide) rfl _ rfl) (fun w hP => ?_)
  refine r_aload_n C d_Mo_init_132 rfl rfl ?_
  refine r_sipush (v := Int32.ofInt 600) C d_Mo_init_133 (by decide) ?_
  refine zn_int (N := 600) C d_Mo_init_136 rfl (by decide) (by rw [hP.2.1]; omega) (by rw [hP.2.2.1, hu0]; show u0 + 1412 + 600 ≤ fxmu G; omega) ?_
  rw [show fxt w = m + 15 by have := hP.2.1; omega]
  have hP := hP.newI 17 rfl rfl (fun _ => rfl) rfl
  refine mo_gen hP (fun w hP => ?_)
  refine p_Mo_53F (nm := "") C d_Mo_init_138 rfl rfl hP.1 ?_
  refine mo_gen (hP.put 17 (by decide) (by decide) rfl _ rfl) (fun w hP => ?_)
  refine r_aload_n C d_Mo_init_141 rfl rfl ?_
  refine r_sipush (v := Int32.ofInt 600) C d_Mo_init_142 (by decide) ?_
  refine zn_int (N := 600) C d_Mo_init_145 rfl (by decide) (by rw [hP.2.1]; omega) (by rw [hP.2.2.1, hu0]; show u0 + 2012 + 600 ≤ fxmu G; omega) ?_
  rw [show fxt w = m + 16 by have := hP.2.1; omega]
  have hP := hP.newI 18 rfl rfl (fun _ => rfl) rfl
  refine mo_gen hP (fun w hP => ?_)
  refine p_Mo_56F (nm := "") C d_Mo_init_147 rfl rfl hP.1 ?_
  refine mo_gen (hP.put 18 (by decide) (by decide) rfl _ rfl) (fun w hP => ?_)
  refine r_aload_n C d_Mo_init_150 rfl rfl ?_
  refine r_sipush (v := Int32.ofInt 600) C d_Mo_init_151 (by decide) ?_
  refine zn_int (N := 600) C d_Mo_init_154 rfl (by decide) (by rw [hP.2.1]; omega) (by rw [hP.2.2.1, hu0]; show u0 + 2612 + 600 ≤ fxmu G; omega) ?_
  rw [show fxt w = m + 17 by have := hP.2.1; omega]
  have hP := hP.newI 19 rfl rfl (fun _ => rfl) rfl
  refine mo_gen hP (fun w hP => ?_)
  refine p_Mo_59F (nm := "") C d_Mo_init_156 rfl rfl hP.1 ?_
  refine mo_gen (hP.put 19 (by decide) (by decide) rfl _ rfl) (fun w hP => ?_)
  refine r_aload_n C d_Mo_init_159 rfl rfl ?_
  refine r_sipush (v := Int32.ofInt 600) C d_Mo_init_160 (by decide) ?_
  refine zn_int (N := 600) C d_Mo_init_163 rfl (by decide) (by rw [hP.2.1]; omega) (by rw [hP.2.2.1, hu0]; show u0 + 3212 + 600 ≤ fxmu G; omega) ?_
  rw [show fxt w = m + 18 by have := hP.2.1; omega]
  have hP := hP.newI 20 rfl rfl (fun _ => rfl) rfl
  refine mo_gen hP (fun w hP => ?_)
  refine p_Mo_62F (nm := "") C d_Mo_init_165 rfl rfl hP.1 ?_
  refine mo_gen (hP.put 20 (by decide) (by decide) rfl _ rfl) (fun w hP => ?_)
  refine r_aload_n C d_Mo_init_168 rfl rfl ?_
  refine r_sipush (v := Int32.ofInt 600) C d_Mo_init_169 (by decide) ?_
  refine zn_long (N := 600) C d_Mo_init_172 rfl (by decide) (by rw [hP.2.1]; omega) (by rw [hP.2.2.1, hu0]; show u0 + 3812 + 600 ≤ fxmu G; omega) ?_
  rw [show fxt w = m + 19 by have := hP.2.1; omega]
  have hP := hP.newL 21 rfl rfl (fun _ => rfl) rfl
  refine mo_gen hP (fun w hP => ?_)
  refine p_Mo_65F (nm := "") C d_Mo_init_174 rfl rfl hP.1 ?_
  refine mo_gen (hP.put 21 (by decide) (by decide) rfl _ rfl) (fun w hP => ?_)
  refine r_aload_n C d_Mo_init_177 rfl rfl ?_
  refine r_sipush (v := Int32.ofInt 600) C d_Mo_init_178 (by decide) ?_
  refine zn_long (N := 600) C d_Mo_init_181 rfl (by decide) (by rw [hP.2.1]; omega) (by rw [hP.2.2.1, hu0]; show u0 + 4412 + 600 ≤ fxmu G; omega) ?_
  rw [show fxt w = m + 20 by have := hP.2.1; omega]
  have hP := hP.newL 22 rfl rfl (fun _ => rfl) rfl
  refine mo_gen hP (fun w hP => ?_)
  refine p_Mo_68F (nm := "") C d_Mo_init_183 rfl rfl hP.1 ?_
  refine mo_gen (hP.put 22 (by decide) (by decide) rfl _ rfl) (fun w hP => ?_)
  refine r_aload_n C d_Mo_init_186 rfl rfl ?_
  refine r_sipush (v := Int32.ofInt 2400) C d_Mo_init_187 (by decide) ?_
  refine zn_int (N := 2400) C d_Mo_init_190 rfl (by decide) (by rw [hP.2.1]; omega) (by rw [hP.2.2.1, hu0]; show u0 + 5012 + 2400 ≤ fxmu G; omega) ?_
  rw [show fxt w = m + 21 by have := hP.2.1; omega]
  have hP := hP.newI 24 rfl rfl (fun _ => rfl) rfl
  refine mo_gen hP (fun w hP => ?_)
  refine p_Mo_71F (nm := "") C d_Mo_init_192 rfl rfl hP.1 ?_
  refine mo_gen (hP.put 24 (by decide) (by decide) rfl _ rfl) (fun w hP => ?_)
  refine r_aload_n C d_Mo_init_195 rfl rfl ?_
  refine r_iconst C d_Mo_init_196 rfl ?_
  refine zn_int (N := 4) C d_Mo_init_197 rfl (by decide) (by rw [hP.2.1]; omega) (by rw [hP.2.2.1, hu0]; show u0 + 7412 + 4 ≤ fxmu G; omega) ?_
  rw [show fxt w = m + 22 by have := hP.2.1; omega]
  have hP := hP.newI 25 rfl rfl (fun _ => rfl) rfl
  refine mo_gen hP (fun w hP => ?_)
  refine p_Mo_74F (nm := "") C d_Mo_init_199 rfl rfl hP.1 ?_
  refine mo_gen (hP.put 25 (by decide) (by decide) rfl _ rfl) (fun w hP => ?_)
  refine r_aload_n C d_Mo_init_202 rfl rfl ?_
  refine r_iconst C d_Mo_init_203 rfl ?_
  refine zn_int (N := 4) C d_Mo_init_204 rfl (by decide) (by rw [hP.2.1]; omega) (by rw [hP.2.2.1, hu0]; show u0 + 7416 + 4 ≤ fxmu G; omega) ?_
  rw [show fxt w = m + 23 by have := hP.2.1; omega]
  have hP := hP.newI 26 rfl rfl (fun _ => rfl) rfl
  refine mo_gen hP (fun w hP => ?_)
  refine p_Mo_77F (nm := "") C d_Mo_init_206 rfl rfl hP.1 ?_
  refine mo_gen (hP.put 26 (by decide) (by decide) rfl _ rfl) (fun w hP => ?_)
  refine r_aload_n C d_Mo_init_209 rfl rfl ?_
  refine r_iconst C d_Mo_init_210 rfl ?_
  refine zn_int (N := 4) C d_Mo_init_211 rfl (by decide) (by rw [hP.2.1]; omega) (by rw [hP.2.2.1, hu0]; show u0 + 7420 + 4 ≤ fxmu G; omega) ?_
  rw [show fxt w = m + 24 by have := hP.2.1; omega]
  have hP := hP.newI 27 rfl rfl (fun _ => rfl) rfl
  refine mo_gen hP (fun w hP => ?_)
  refine p_Mo_80F (nm := "") C d_Mo_init_213 rfl rfl hP.1 ?_
  refine mo_gen (hP.put 27 (by decide) (by decide) rfl _ rfl) (fun w hP => ?_)
  refine r_aload_n C d_Mo_init_216 rfl rfl ?_
  refine r_iconst C d_Mo_init_217 rfl ?_
  refine zn_int (N := 4) C d_Mo_init_218 rfl (by decide) (by rw [hP.2.1]; omega) (by rw [hP.2.2.1, hu0]; show u0 + 7424 + 4 ≤ fxmu G; omega) ?_
  rw [show fxt w = m + 25 by have := hP.2.1; omega]
  have hP := hP.newI 28 rfl rfl (fun _ => rfl) rfl
  refine mo_gen hP (fun w hP => ?_)
  refine p_Mo_83F (nm := "") C d_Mo_init_220 rfl rfl hP.1 ?_
  refine mo_gen (hP.put 28 (by decide) (by decide) rfl _ rfl) (fun w hP => ?_)
  refine r_aload_n C d_Mo_init_223 rfl rfl ?_
  refine r_iconst C d_Mo_init_224 rfl ?_
  refine zn_int (N := 4) C d_Mo_init_225 rfl (by decide) (by rw [hP.2.1]; omega) (by rw [hP.2.2.1, hu0]; show u0 + 7428 + 4 ≤ fxmu G; omega) ?_
  rw [show fxt w = m + 26 by have := hP.2.1; omega]
  have hP := hP.newI 29 rfl rfl (fun _ => rfl) rfl
  refine mo_gen hP (fun w hP => ?_)
  refine r_dup C d_Mo_init_227 rfl ?_
  refine r_iconst C d_Mo_init_228 rfl ?_
  refine r_iconst C d_Mo_init_229 rfl ?_
  refine zr_iastore (t := 1) (k := 0) (n := 4) C d_Mo_init_230 (by decide) rfl (hP.2.2.2.2.1 29 rfl (by decide)).1 rfl (by decide) (by decide) ?_
  refine mo_gen (hP.el 29 rfl (by decide) _ rfl 0 (0)) (fun w hP => ?_)
  refine r_dup C d_Mo_init_231 rfl ?_
  refine r_iconst C d_Mo_init_232 rfl ?_
  refine r_iconst C d_Mo_init_233 rfl ?_
  refine zr_iastore (t := 1) (k := 1) (n := 4) C d_Mo_init_234 (by decide) rfl (hP.2.2.2.2.1 29 rfl (by decide)).1 rfl (by decide) (by decide) ?_
  refine mo_gen (hP.el 29 rfl (by decide) _ rfl 1 (1)) (fun w hP => ?_)
  refine r_dup C d_Mo_init_235 rfl ?_
  refine r_iconst C d_Mo_init_236 rfl ?_
  refine r_iconst C d_Mo_init_237 rfl ?_
  refine zr_iastore (t := 1) (k := 2) (n := 4) C d_Mo_init_238 (by decide) rfl (hP.2.2.2.2.1 29 rfl (by decide)).1 rfl (by decide) (by decide) ?_
  refine mo_gen (hP.el 29 rfl (by decide) _ rfl 2 (2)) (fun w hP => ?_)
  refine r_dup C d_Mo_init_239 rfl ?_
  refine r_iconst C d_Mo_init_240 rfl ?_
  refine r_iconst C d_Mo_init_241 rfl ?_
  refine zr_iastore (t := 1) (k := 3) (n := 4) C d_Mo_init_242 (by decide) rfl (hP.2.2.2.2.1 29 rfl (by decide)).1 rfl (by decide) (by decide) ?_
  refine mo_gen (hP.el 29 rfl (by decide) _ rfl 3 (3)) (fun w hP => ?_)
  refine p_Mo_86F (nm := "") C d_Mo_init_243 rfl rfl hP.1 ?_
  refine mo_gen (hP.put 29 (by decide) (by decide) rfl _ rfl) (fun w hP => ?_)
  refine r_aload_n C d_Mo_init_246 rfl rfl ?_
  refine r_iconst C d_Mo_init_247 rfl ?_
  refine p_Mo_89 C d_Mo_init_248 rfl rfl hP.1 ?_
  refine mo_gen (hP.sc 30 rfl 4) (fun w hP => ?_)
  refine r_aload_n C d_Mo_init_251 rfl rfl ?_
  have fin : ∀ v : Int, v = (if n < 1 then 1 else if 4 < n then 4 else n) → fxR G 2 x (fxQ G x QQ) w 271 [(0, .ref m), (1, zi n)] [zi v, .ref m] := by
    intro v hv
    refine p_Mo_93F (nm := "") C d_Mo_init_271 rfl rfl hP.1 ?_
    refine mo_gen (hP.sc 1 rfl v) (fun w hP => ?_)
    rw [← hQ]
    exact r_return C d_Mo_init_274 rfl ⟨rfl, by unfold mIni; rw [← hv]; exact hP⟩
  refine r_iload_n C d_Mo_init_252 rfl rfl ?_
  refine r_iconst C d_Mo_init_253 rfl ?_
  refine zr_icmp_ge (tgt := 261) C d_Mo_init_254 (by decide) hn (by unfold zok; omega) (fun c_254 => ?_) (fun c_254 => ?_)
  · refine r_iload_n C d_Mo_init_261 rfl rfl ?_
    refine r_iconst C d_Mo_init_262 rfl ?_
    refine zr_icmp_le (tgt := 270) C d_Mo_init_263 (by decide) hn (by unfold zok; omega) (fun c_263 => ?_) (fun c_263 => ?_)
    · refine r_iload_n C d_Mo_init_270 rfl rfl ?_
      exact fin n (by rw [if_neg (by omega), if_neg (by omega)])
    · refine r_iconst C d_Mo_init_266 rfl ?_
      refine r_goto (tgt := 271) C d_Mo_init_267 (by decide) ?_
      exact fin 4 (by rw [if_neg (by omega), if_pos (by omega)])
  · refine r_iconst C d_Mo_init_257 rfl ?_
    refine r_goto (tgt := 271) C d_Mo_init_258 (by decide) ?_
    exact fin 1 (by rw [if_pos (by omega)])

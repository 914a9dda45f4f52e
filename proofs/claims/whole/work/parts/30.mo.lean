/-! THE REFERENCE'S STATE: ints by field and place, longs by field and place (the fields' numbers are the file's) -/
abbrev Ms : Type := (Nat → Nat → Int) × (Nat → Nat → Int64)
def sp (S : Ms) (k j : Nat) (v : Int) : Ms := (fun k' j' => if k' = k then (if j' = j then v else S.1 k' j') else S.1 k' j', S.2)
def sq (S : Ms) (k j : Nat) (v : Int64) : Ms := (S.1, fun k' j' => if k' = k then (if j' = j then v else S.2 k' j') else S.2 k' j')
/-- 0 a number, 1 an array of ints, 2 an array of longs -/
def moK (k : Nat) : Nat := [0, 0, 1, 1, 2, 1, 1, 1, 1, 1, 1, 1, 1, 1, 0, 1, 1, 1, 1, 1, 1, 2, 2, 0, 1, 1, 1, 1, 1, 1, 0, 0, 0].getD k 9
def moL (k : Nat) : Nat := [0, 0, 4, 4, 96, 12, 12, 12, 12, 12, 12, 12, 12, 12, 0, 600, 600, 600, 600, 600, 600, 600, 600, 0, 2400, 4, 4, 4, 4, 4, 0, 0, 0].getD k 0
def moO (k : Nat) : Nat := [0, 0, 1, 2, 3, 4, 5, 6, 7, 8, 9, 10, 11, 12, 0, 13, 14, 15, 16, 17, 18, 19, 20, 0, 21, 22, 23, 24, 25, 26, 0, 0, 0].getD k 0
theorem moK_lt {k : Nat} (h : moK k < 9) : k < 33 := by
  rcases Nat.lt_or_ge k 33 with q | q
  · exact q
  · unfold moK at h; rw [List.getD_eq_getElem?_getD, List.getElem?_eq_none (by simpa using q)] at h; simp at h
theorem moO_inj0 : ∀ k, k < 33 → ∀ k', k' < 33 → moK k ≠ 0 → moK k' ≠ 0 → moO k = moO k' → k = k' := by decide +kernel
theorem moO_inj {k k' : Nat} (h : moK k < 9) (h' : moK k' < 9) (h0 : moK k ≠ 0) (h0' : moK k' ≠ 0) (e : moO k = moO k') : k = k' := moO_inj0 k (moK_lt h) k' (moK_lt h') h0 h0' e
theorem moO_pos0 : ∀ k, k < 33 → moK k ≠ 0 → 0 < moO k ∧ moO k < 27 := by decide +kernel
theorem moO_pos {k : Nat} (h : moK k < 9) (h0 : moK k ≠ 0) : 0 < moO k ∧ moO k < 27 := moO_pos0 k (moK_lt h) h0
/-- the reference at m holds S -/
def MoR (S : Ms) (m : Nat) (w : fxW) : Prop :=
  fxk w m = some (6, 0) ∧ (∀ k, moK k = 0 → fxf w (384 + k) m = zi (S.1 k 0)) ∧
  (∀ k, moK k = 1 → fxf w (384 + k) m = .ref (m + moO k) ∧ fxk w (m + moO k) = some (101, moL k) ∧ ∀ j, j < moL k → fxe w 1 (m + moO k) j = zi (S.1 k j)) ∧
  (∀ k, moK k = 2 → fxf w (384 + k) m = .ref (m + moO k) ∧ fxk w (m + moO k) = some (100, moL k) ∧ ∀ j, j < moL k → fxe w 0 (m + moO k) j = .long (S.2 k j))
section MO
variable {S : Ms} {m : Nat} {w : fxW}
theorem MoR.sc (h : MoR S m w) (k : Nat) (hk : moK k = 0) : fxf w (384 + k) m = zi (S.1 k 0) := h.2.1 k hk
theorem MoR.ar (h : MoR S m w) (k : Nat) (hk : moK k = 1) : fxf w (384 + k) m = .ref (m + moO k) := (h.2.2.1 k hk).1
theorem MoR.kd (h : MoR S m w) (k : Nat) (hk : moK k = 1) : fxk w (m + moO k) = some (101, moL k) := (h.2.2.1 k hk).2.1
theorem MoR.el (h : MoR S m w) (k : Nat) (hk : moK k = 1) {j : Nat} (hj : j < moL k) : fxe w 1 (m + moO k) j = zi (S.1 k j) := (h.2.2.1 k hk).2.2 j hj
theorem MoR.arL (h : MoR S m w) (k : Nat) (hk : moK k = 2) : fxf w (384 + k) m = .ref (m + moO k) := (h.2.2.2 k hk).1
theorem MoR.kdL (h : MoR S m w) (k : Nat) (hk : moK k = 2) : fxk w (m + moO k) = some (100, moL k) := (h.2.2.2 k hk).2.1
theorem MoR.elL (h : MoR S m w) (k : Nat) (hk : moK k = 2) {j : Nat} (hj : j < moL k) : fxe w 0 (m + moO k) j = .long (S.2 k j) := (h.2.2.2 k hk).2.2 j hj
theorem MoR.putI (h : MoR S m w) (k : Nat) (hk : moK k = 1) (j : Nat) (v : Int) : MoR (sp S k j v) m (fx_ast w 1 (m + moO k) j (zi v)) := by
  refine ⟨h.1, fun k' hk' => ?_, fun k' hk' => ⟨(h.2.2.1 k' hk').1, (h.2.2.1 k' hk').2.1, fun j' hj' => ?_⟩, fun k' hk' => ⟨(h.2.2.2 k' hk').1, (h.2.2.2 k' hk').2.1, fun j' hj' => ?_⟩⟩
  · have e : k' ≠ k := fun e => by rw [e, hk] at hk'; cases hk'
    show fxf w (384 + k') m = zi (if k' = k then _ else S.1 k' 0)
    rw [if_neg e]; exact h.2.1 k' hk'
  · show (if 1 = 1 then (if m + moO k' = m + moO k then (if j' = j then zi v else fxe w 1 (m + moO k') j') else fxe w 1 (m + moO k') j') else fxe w 1 (m + moO k') j') = zi (if k' = k then (if j' = j then v else S.1 k' j') else S.1 k' j')
    rw [if_pos rfl]
    by_cases e : k' = k
    · subst e
      rw [if_pos rfl, if_pos rfl]
      by_cases e2 : j' = j
      · rw [if_pos e2, if_pos e2]
      · rw [if_neg e2, if_neg e2]; exact (h.2.2.1 k' hk').2.2 j' hj'
    · rw [if_neg e, if_neg (fun q => e (moO_inj (by omega) (by omega) (by omega) (by omega) (by omega)))]
      exact (h.2.2.1 k' hk').2.2 j' hj'
  · exact (h.2.2.2 k' hk').2.2 j' hj'
theorem MoR.putL (h : MoR S m w) (k : Nat) (hk : moK k = 2) (j : Nat) (v : Int64) : MoR (sq S k j v) m (fx_ast w 0 (m + moO k) j (.long v)) := by
  refine ⟨h.1, h.2.1, fun k' hk' => ⟨(h.2.2.1 k' hk').1, (h.2.2.1 k' hk').2.1, fun j' hj' => ?_⟩, fun k' hk' => ⟨(h.2.2.2 k' hk').1, (h.2.2.2 k' hk').2.1, fun j' hj' => ?_⟩⟩
  · exact (h.2.2.1 k' hk').2.2 j' hj'
  · show (if 0 = 0 then (if m + moO k' = m + moO k then (if j' = j then Value.long v else fxe w 0 (m + moO k') j') else fxe w 0 (m + moO k') j') else fxe w 0 (m + moO k') j') = .long (if k' = k then (if j' = j then v else S.2 k' j') else S.2 k' j')
    rw [if_pos rfl]
    by_cases e : k' = k
    · subst e
      rw [if_pos rfl, if_pos rfl]
      by_cases e2 : j' = j
      · rw [if_pos e2, if_pos e2]
      · rw [if_neg e2, if_neg e2]; exact (h.2.2.2 k' hk').2.2 j' hj'
    · rw [if_neg e, if_neg (fun q => e (moO_inj (by omega) (by omega) (by omega) (by omega) (by omega)))]
      exact (h.2.2.2 k' hk').2.2 j' hj'
theorem MoR.putS (h : MoR S m w) (k : Nat) (hk : moK k = 0) (v : Int) : MoR (sp S k 0 v) m (fx_put w (384 + k) m (zi v)) := by
  have h1 : ∀ k', moK k' ≠ 0 → fxf (fx_put w (384 + k) m (zi v)) (384 + k') m = fxf w (384 + k') m := fun k' hk' => by
    show (if 384 + k' = 384 + k then _ else fxf w (384 + k') m) = _
    rw [if_neg (fun q => hk' (by rw [show k' = k by omega]; exact hk))]
  refine ⟨h.1, fun k' hk' => ?_, fun k' hk' => ⟨(h1 k' (by omega)).trans (h.2.2.1 k' hk').1, (h.2.2.1 k' hk').2.1, fun j' hj' => ?_⟩, fun k' hk' => ⟨(h1 k' (by omega)).trans (h.2.2.2 k' hk').1, (h.2.2.2 k' hk').2.1, (h.2.2.2 k' hk').2.2⟩⟩
  · show (if 384 + k' = 384 + k then (if m = m then zi v else fxf w (384 + k') m) else fxf w (384 + k') m) = zi (if k' = k then (if 0 = 0 then v else S.1 k' 0) else S.1 k' 0)
    by_cases e : k' = k
    · subst e; simp
    · rw [if_neg (by omega), if_neg e]; exact h.2.1 k' hk'
  · have e : k' ≠ k := fun e => by rw [e, hk] at hk'; cases hk'
    show fxe w 1 (m + moO k') j' = zi (if k' = k then _ else S.1 k' j')
    rw [if_neg e]; exact (h.2.2.1 k' hk').2.2 j' hj'
end MO
/-- all the other cells (and all else outside the reference) stay -/
def MoF (m : Nat) (w w' : fxW) : Prop := fxt w' = fxt w ∧ fxu w' = fxu w ∧ (∀ a, fxk w' a = fxk w a) ∧ (∀ g a, ¬ (m ≤ a ∧ a < m + 27) → fxf w' g a = fxf w g a) ∧ (∀ t a j, ¬ (m ≤ a ∧ a < m + 27) → fxe w' t a j = fxe w t a j)
theorem MoF.rf {m : Nat} {w : fxW} : MoF m w w := ⟨rfl, rfl, fun _ => rfl, fun _ _ _ => rfl, fun _ _ _ _ => rfl⟩
theorem MoF.tr {m : Nat} {w w' w'' : fxW} (h : MoF m w w') (h' : MoF m w' w'') : MoF m w w'' :=
  ⟨h'.1.trans h.1, h'.2.1.trans h.2.1, fun a => (h'.2.2.1 a).trans (h.2.2.1 a), fun g a q => (h'.2.2.2.1 g a q).trans (h.2.2.2.1 g a q), fun t a j q => (h'.2.2.2.2 t a j q).trans (h.2.2.2.2 t a j q)⟩
theorem MoF.ast {m : Nat} {w : fxW} (t k j : Nat) (hk : moK k < 9) (h0 : moK k ≠ 0) (v : Value) : MoF m w (fx_ast w t (m + moO k) j v) := by
  obtain ⟨p1, p2⟩ := moO_pos hk h0
  refine ⟨rfl, rfl, fun _ => rfl, fun _ _ _ => rfl, fun t' a j' q => ?_⟩
  show (if t' = t then (if a = m + moO k then _ else fxe w t' a j') else fxe w t' a j') = fxe w t' a j'
  rw [if_neg (c := a = m + moO k) (by omega)]; split <;> rfl
theorem MoF.put {m : Nat} {w : fxW} (g : Nat) (v : Value) : MoF m w (fx_put w g m v) := by
  refine ⟨rfl, rfl, fun _ => rfl, fun g' a q => ?_, fun _ _ _ _ => rfl⟩
  show (if g' = g then (if a = m then v else fxf w g' a) else fxf w g' a) = fxf w g' a
  rw [if_neg (c := a = m) (by omega)]; split <;> rfl

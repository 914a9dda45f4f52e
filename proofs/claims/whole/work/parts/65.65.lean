/-! THE POOL AND THE REFERENCE'S NUMBERS. A: 0 the pool, 1 rows, 2 their elements, 3 jobs, 4 tasks, 5 workers, 6 lists, 7 their arrays, 8 the pool's three arrays, 9 the lists' places -/
abbrev Ad : Type := Nat → Nat → Nat
/-- cells that were there stay of their kind -/
def KM (w w' : fxW) : Prop := ∀ a q, fxk w a = some q → fxk w' a = some q
/-- the fields of the objects of the kind c stay -/
def FS (c : Nat) (w w' : fxW) : Prop := ∀ g a, 64 * c ≤ g → g < 64 * c + 64 → fxk w a = some (c, 0) → fxf w' g a = fxf w g a
/-- the elements of the arrays of the type t stay -/
def ES (t : Nat) (w w' : fxW) : Prop := ∀ a n j, fxk w a = some (100 + t, n) → fxe w' t a j = fxe w t a j
def cty (S : Ms) (a : Nat) : Int := if S.1 2 a < 0 then 0 else S.1 2 a
def rowG (S : Ms) (a : Nat) : Nat → Int64 := fun k => S.2 4 (24 * a + k)
def RcP (A : Ad) (S : Ms) (w : fxW) : Prop :=
  fxk w (A 0 0) = some (0, 0) ∧ fxf w 0 (A 0 0) = .ref (A 8 0) ∧ fxf w 1 (A 0 0) = .ref (A 8 1) ∧ fxf w 2 (A 0 0) = .ref (A 8 2) ∧ fxf w 3 (A 0 0) = zi (S.1 14 0) ∧ fxf w 4 (A 0 0) = zi (S.1 31 0) ∧ fxf w 5 (A 0 0) = zi (S.1 32 0) ∧ fxf w 6 (A 0 0) = zi (S.1 30 0) ∧
  fxk w (A 8 0) = some (103, 4) ∧ fxk w (A 8 1) = some (104, (S.1 1 0).toNat) ∧ fxk w (A 8 2) = some (105, 12) ∧ (∀ a, a < 4 → fxe w 3 (A 8 0) a = .ref (A 1 a)) ∧ (∀ i : Nat, (i : Int) < S.1 1 0 → fxe w 4 (A 8 1) i = .ref (A 5 i)) ∧ (∀ j : Nat, (j : Int) < S.1 14 0 → fxe w 5 (A 8 2) j = .ref (A 3 j))
def RcR (A : Ad) (S : Ms) (w : fxW) : Prop := (∀ a, a < 4 → RowAt (A 1 a) (A 2 a) (cty S a) (S.1 3 a) (rowG S a) w) ∧ ∀ a b, a < 4 → b < 4 → a ≠ b → A 1 a ≠ A 1 b ∧ A 2 a ≠ A 2 b
def JobAt (A : Ad) (S : Ms) (j : Nat) (w : fxW) : Prop :=
  fxk w (A 3 j) = some (2, 0) ∧ fxf w 128 (A 3 j) = zi (j : Int) ∧ fxf w 129 (A 3 j) = zi (S.1 5 j) ∧ fxf w 130 (A 3 j) = .ref (A 1 (S.1 6 j).toNat) ∧ fxf w 131 (A 3 j) = zi (S.1 7 j) ∧ fxf w 132 (A 3 j) = zi (S.1 8 j) ∧ fxf w 133 (A 3 j) = zi (S.1 9 j) ∧ fxf w 134 (A 3 j) = zi (S.1 10 j) ∧ fxf w 135 (A 3 j) = zi (S.1 11 j) ∧ fxf w 136 (A 3 j) = zi (if S.1 13 j = 2 then 1 else 0) ∧ ∃ v, fxf w 137 (A 3 j) = .long v ∧ (S.1 9 j = 1 → S.1 5 j < 2 → v = S.2 21 (rootT S j))
def RcJ (A : Ad) (S : Ms) (w : fxW) : Prop := (∀ j : Nat, (j : Int) < S.1 14 0 → JobAt A S j w) ∧ ∀ i j : Nat, (i : Int) < S.1 14 0 → (j : Int) < S.1 14 0 → i ≠ j → A 3 i ≠ A 3 j
def TaskAt (A : Ad) (S : Ms) (t : Nat) (w : fxW) : Prop :=
  fxk w (A 4 t) = some (3, 0) ∧ fxf w 192 (A 4 t) = .ref (A 3 (mOf S t)) ∧ fxf w 193 (A 4 t) = (if S.1 18 t < 0 then .null else .ref (A 4 (paT S t))) ∧ fxf w 194 (A 4 t) = zi (S.1 16 t) ∧ fxf w 195 (A 4 t) = zi (S.1 17 t) ∧
  fxf w 196 (A 4 t) = (if S.1 19 t < 0 then .null else .ref (A 4 (chT S t))) ∧ fxf w 197 (A 4 t) = (if S.1 19 t < 0 then .null else .ref (A 4 (chT S t + 1))) ∧ (∃ o : Int, fxf w 198 (A 4 t) = zi o ∧ (0 ≤ S.1 19 t → o = 2 - S.1 20 t)) ∧ (∃ v, fxf w 199 (A 4 t) = .long v ∧ (S.1 5 (mOf S t) < 3 → v = S.2 21 t)) ∧ fxf w 200 (A 4 t) = .long (S.2 22 t)
def RcT (A : Ad) (S : Ms) (w : fxW) : Prop := (∀ t : Nat, (t : Int) < S.1 23 0 → TaskAt A S t w) ∧ ∀ s t : Nat, (s : Int) < S.1 23 0 → (t : Int) < S.1 23 0 → s ≠ t → A 4 s ≠ A 4 t
def WkAt (A : Ad) (S : Ms) (i : Nat) (w : fxW) : Prop :=
  fxk w (A 5 i) = some (4, 0) ∧ fxf w 256 (A 5 i) = .ref (A 6 i) ∧ fxf w 257 (A 5 i) = zi (S.1 26 i) ∧ fxf w 258 (A 5 i) = zi (S.1 27 i) ∧ fxf w 259 (A 5 i) = zi (S.1 28 i) ∧ fxf w 260 (A 5 i) = zi (S.1 29 i)
def RcW (A : Ad) (S : Ms) (w : fxW) : Prop := (∀ i : Nat, (i : Int) < S.1 1 0 → WkAt A S i w) ∧ ∀ i j : Nat, (i : Int) < S.1 1 0 → (j : Int) < S.1 1 0 → i ≠ j → A 5 i ≠ A 5 j
def RcL (G : fxG) (A : Ad) (S : Ms) (w : fxW) : Prop := (∀ i : Nat, (i : Int) < S.1 1 0 → AlAt G (A 6 i) (A 7 i) (A 9 i) ((qL S i).map (A 4)) w) ∧ ∀ i j : Nat, (i : Int) < S.1 1 0 → (j : Int) < S.1 1 0 → i ≠ j → A 6 i ≠ A 6 j ∧ (∀ n, fxk w (A 7 i) = some (102, n) → A 7 i ≠ A 7 j)
def Rc (G : fxG) (A : Ad) (S : Ms) (w : fxW) : Prop := RcP A S w ∧ RcR A S w ∧ RcJ A S w ∧ RcT A S w ∧ RcW A S w ∧ RcL G A S w
/-! what the parts rest on -/
theorem RowAt.ext {r e : Nat} {ty ln : Int} {g g' : Nat → Int64} {w w' : fxW} (h : RowAt r e ty ln g w) (hk : KM w w') (hf : FS 1 w w') (he : ES 0 w w') (hg : ∀ k, k < 24 → g' k = g k) : RowAt r e ty ln g' w' := by
  obtain ⟨h1, h2, h3, h4, h5, h6⟩ := h
  exact ⟨hk _ _ h1, (hf 64 r (by decide) (by decide) h1).trans h2, (hf 65 r (by decide) (by decide) h1).trans h3, (hf 66 r (by decide) (by decide) h1).trans h4, hk _ _ h5, fun k hk => by rw [he e 24 k h5, hg k hk]; exact h6 k hk⟩
theorem RcR.ext {A : Ad} {S S' : Ms} {w w' : fxW} (h : RcR A S w) (hk : KM w w') (hf : FS 1 w w') (he : ES 0 w w') (h2 : S'.1 2 = S.1 2) (h3 : S'.1 3 = S.1 3) (h4 : ∀ a k, a < 4 → k < 24 → S'.2 4 (24 * a + k) = S.2 4 (24 * a + k)) : RcR A S' w' := by
  refine ⟨fun a ha => ?_, h.2⟩
  have e : cty S' a = cty S a := by unfold cty; rw [h2]
  rw [e, h3]
  exact (h.1 a ha).ext hk hf he (fun k hk => h4 a k ha hk)
theorem JobAt.ext {A : Ad} {S S' : Ms} {j : Nat} {w w' : fxW} (h : JobAt A S j w) (hk : KM w w') (hf : FS 2 w w') (hS : ∀ c, c = 5 ∨ c = 6 ∨ c = 7 ∨ c = 8 ∨ c = 9 ∨ c = 10 ∨ c = 11 ∨ c = 12 ∨ c = 13 → S'.1 c j = S.1 c j) (hr : S.1 9 j = 1 → S'.2 21 (rootT S j) = S.2 21 (rootT S j)) : JobAt A S' j w' := by
  obtain ⟨h1, h2, h3, h4, h5, h6, h7, h8, h9, h10, v, h11, h12⟩ := h
  have f : ∀ g, 128 ≤ g → g < 192 → fxf w' g (A 3 j) = fxf w g (A 3 j) := fun g a b => hf g _ (by omega) (by omega) h1
  have er : rootT S' j = rootT S j := by unfold rootT; rw [hS 12 (by simp)]
  refine ⟨hk _ _ h1, (f 128 (by decide) (by decide)).trans h2, ?_, ?_, ?_, ?_, ?_, ?_, ?_, ?_, v, (f 137 (by decide) (by decide)).trans h11, fun q1 q2 => ?_⟩
  · rw [f 129 (by decide) (by decide), hS 5 (by simp)]; exact h3
  · rw [f 130 (by decide) (by decide), hS 6 (by simp)]; exact h4
  · rw [f 131 (by decide) (by decide), hS 7 (by simp)]; exact h5
  · rw [f 132 (by decide) (by decide), hS 8 (by simp)]; exact h6
  · rw [f 133 (by decide) (by decide), hS 9 (by simp)]; exact h7
  · rw [f 134 (by decide) (by decide), hS 10 (by simp)]; exact h8
  · rw [f 135 (by decide) (by decide), hS 11 (by simp)]; exact h9
  · rw [f 136 (by decide) (by decide), hS 13 (by simp)]; exact h10
  · rw [hS 9 (by simp)] at q1
    rw [hS 5 (by simp)] at q2
    rw [er, hr q1]; exact h12 q1 q2
theorem RcJ.ext {A : Ad} {S S' : Ms} {w w' : fxW} (h : RcJ A S w) (hk : KM w w') (hf : FS 2 w w') (h14 : S'.1 14 0 = S.1 14 0) (hS : ∀ c, c = 5 ∨ c = 6 ∨ c = 7 ∨ c = 8 ∨ c = 9 ∨ c = 10 ∨ c = 11 ∨ c = 12 ∨ c = 13 → S'.1 c = S.1 c) (hr : ∀ j : Nat, (j : Int) < S.1 14 0 → S.1 9 j = 1 → S'.2 21 (rootT S j) = S.2 21 (rootT S j)) : RcJ A S' w' := by
  unfold RcJ; rw [h14]
  exact ⟨fun j hj => (h.1 j hj).ext hk hf (fun c hc => by rw [hS c hc]) (hr j hj), h.2⟩
theorem TaskAt.ext {A : Ad} {S S' : Ms} {t : Nat} {w w' : fxW} (h : TaskAt A S t w) (hk : KM w w') (f : ∀ g, 192 ≤ g → g < 256 → fxf w' g (A 4 t) = fxf w g (A 4 t)) (hS : ∀ c, c = 15 ∨ c = 16 ∨ c = 17 ∨ c = 18 ∨ c = 19 ∨ c = 20 → S'.1 c t = S.1 c t) (h5 : S'.1 5 (mOf S t) = S.1 5 (mOf S t)) (h21 : S'.2 21 t = S.2 21 t) (h22 : S'.2 22 t = S.2 22 t) : TaskAt A S' t w' := by
  obtain ⟨h1, h2, h3, h4, g5, h6, h7, ⟨o, h8, h8'⟩, ⟨v, h9, h9'⟩, h10⟩ := h
  have eO : mOf S' t = mOf S t := by unfold mOf; rw [hS 15 (by simp)]
  have eP : paT S' t = paT S t := by unfold paT; rw [hS 18 (by simp)]
  have eC : chT S' t = chT S t := by unfold chT; rw [hS 19 (by simp)]
  refine ⟨hk _ _ h1, ?_, ?_, ?_, ?_, ?_, ?_, ⟨o, ?_, ?_⟩, ⟨v, ?_, ?_⟩, ?_⟩
  · rw [f 192 (by decide) (by decide), eO]; exact h2
  · rw [f 193 (by decide) (by decide), eP, hS 18 (by simp)]; exact h3
  · rw [f 194 (by decide) (by decide), hS 16 (by simp)]; exact h4
  · rw [f 195 (by decide) (by decide), hS 17 (by simp)]; exact g5
  · rw [f 196 (by decide) (by decide), eC, hS 19 (by simp)]; exact h6
  · rw [f 197 (by decide) (by decide), eC, hS 19 (by simp)]; exact h7
  · rw [f 198 (by decide) (by decide)]; exact h8
  · rw [hS 19 (by simp), hS 20 (by simp)]; exact h8'
  · rw [f 199 (by decide) (by decide)]; exact h9
  · rw [eO, h5, h21]; exact h9'
  · rw [f 200 (by decide) (by decide), h22]; exact h10
theorem RcT.ext {A : Ad} {S S' : Ms} {w w' : fxW} (h : RcT A S w) (hk : KM w w') (hf : FS 3 w w') (h23 : S'.1 23 0 = S.1 23 0) (hS : ∀ c, c = 5 ∨ c = 15 ∨ c = 16 ∨ c = 17 ∨ c = 18 ∨ c = 19 ∨ c = 20 → S'.1 c = S.1 c) (h21 : S'.2 21 = S.2 21) (h22 : S'.2 22 = S.2 22) : RcT A S' w' := by
  unfold RcT; rw [h23]
  exact ⟨fun t ht => (h.1 t ht).ext hk (fun g a b => hf g _ (by omega) (by omega) (h.1 t ht).1) (fun c hc => by rw [hS c (by omega)]) (by rw [hS 5 (by simp)]) (by rw [h21]) (by rw [h22]), h.2⟩
theorem WkAt.ext {A : Ad} {S S' : Ms} {i : Nat} {w w' : fxW} (h : WkAt A S i w) (hk : KM w w') (hf : FS 4 w w') (hS : ∀ c, c = 26 ∨ c = 27 ∨ c = 28 ∨ c = 29 → S'.1 c i = S.1 c i) : WkAt A S' i w' := by
  obtain ⟨h1, h2, h3, h4, h5, h6⟩ := h
  have f : ∀ g, 256 ≤ g → g < 320 → fxf w' g (A 5 i) = fxf w g (A 5 i) := fun g a b => hf g _ (by omega) (by omega) h1
  refine ⟨hk _ _ h1, (f 256 (by decide) (by decide)).trans h2, ?_, ?_, ?_, ?_⟩
  · rw [f 257 (by decide) (by decide), hS 26 (by simp)]; exact h3
  · rw [f 258 (by decide) (by decide), hS 27 (by simp)]; exact h4
  · rw [f 259 (by decide) (by decide), hS 28 (by simp)]; exact h5
  · rw [f 260 (by decide) (by decide), hS 29 (by simp)]; exact h6
theorem RcW.ext {A : Ad} {S S' : Ms} {w w' : fxW} (h : RcW A S w) (hk : KM w w') (hf : FS 4 w w') (h1 : S'.1 1 = S.1 1) (hS : ∀ c, c = 26 ∨ c = 27 ∨ c = 28 ∨ c = 29 → S'.1 c = S.1 c) : RcW A S' w' := by
  unfold RcW; rw [h1]
  exact ⟨fun i hi => (h.1 i hi).ext hk hf (fun c hc => by rw [hS c hc]), h.2⟩
theorem AlAt.ext {G : fxG} {l ar cap : Nat} {c : List Nat} {w w' : fxW} (h : AlAt G l ar cap c w) (hk : KM w w') (hf : ∀ g, 320 ≤ g → g < 384 → fxf w' g l = fxf w g l) (he : ∀ n j, fxk w ar = some (102, n) → fxe w' 2 ar j = fxe w 2 ar j) : AlAt G l ar cap c w' := by
  obtain ⟨h1, h2, h3, ⟨n, h4⟩, h5, h6⟩ := h
  refine ⟨hk _ _ h1, (hf 320 (by decide) (by decide)).trans h2, (hf 321 (by decide) (by decide)).trans h3, ⟨n, (hf 322 (by decide) (by decide)).trans h4⟩, ?_, fun y hy => hk _ _ (h6 y hy)⟩
  rcases h5 with ⟨p1, p2, p3, p4⟩ | ⟨p1, p2, p3, p4, p5⟩
  · exact Or.inl ⟨p1, p2, hk _ _ p3, p4⟩
  · exact Or.inr ⟨hk _ _ p1, p2, p3, p4, fun k hk => by rw [he cap k p1]; exact p5 k hk⟩
theorem RcL.ext {G : fxG} {A : Ad} {S S' : Ms} {w w' : fxW} (h : RcL G A S w) (hk : KM w w') (hf : FS 5 w w') (he : ES 2 w w') (h1 : S'.1 1 = S.1 1) (hq : ∀ i : Nat, (i : Int) < S.1 1 0 → qL S' i = qL S i) : RcL G A S' w' := by
  unfold RcL; rw [h1]
  refine ⟨fun i hi => ?_, fun i j hi hj hij => ⟨(h.2 i j hi hj hij).1, fun n hn => ?_⟩⟩
  · rw [hq i hi]
    have h0 := h.1 i hi
    exact h0.ext hk (fun g a b => hf g _ (by omega) (by omega) h0.1) (fun n j hn => he _ n j hn)
  · have h0 := (h.1 i hi).2.2.2.2.1
    rcases h0 with ⟨p1, p2, p3, p4⟩ | ⟨p1, -⟩
    · have := (hk _ _ p3).symm.trans hn
      cases this
    · exact (h.2 i j hi hj hij).2 _ p1
theorem RcP.ext {A : Ad} {S S' : Ms} {w w' : fxW} (h : RcP A S w) (hk : KM w w') (hf : FS 0 w w') (he : ∀ t, t = 3 ∨ t = 4 ∨ t = 5 → ES t w w') (hS : ∀ c, c = 1 ∨ c = 14 ∨ c = 30 ∨ c = 31 ∨ c = 32 → S'.1 c = S.1 c) : RcP A S' w' := by
  obtain ⟨h1, h2, h3, h4, h5, h6, h7, h8, h9, h10, h11, h12, h13, h14⟩ := h
  have f : ∀ g, g < 64 → fxf w' g (A 0 0) = fxf w g (A 0 0) := fun g a => hf g _ (by omega) (by omega) h1
  refine ⟨hk _ _ h1, (f 0 (by decide)).trans h2, (f 1 (by decide)).trans h3, (f 2 (by decide)).trans h4, ?_, ?_, ?_, ?_, hk _ _ h9, ?_, hk _ _ h11, ?_, ?_, ?_⟩
  · rw [f 3 (by decide), hS 14 (by simp)]; exact h5
  · rw [f 4 (by decide), hS 31 (by simp)]; exact h6
  · rw [f 5 (by decide), hS 32 (by simp)]; exact h7
  · rw [f 6 (by decide), hS 30 (by simp)]; exact h8
  · rw [hS 1 (by simp)]; exact hk _ _ h10
  · intro a ha; rw [he 3 (by simp) _ _ _ h9]; exact h12 a ha
  · intro i hi; rw [hS 1 (by simp)] at hi; rw [he 4 (by simp) _ _ _ h10]; exact h13 i hi
  · intro j hj; rw [hS 14 (by simp)] at hj; rw [he 5 (by simp) _ _ _ h11]; exact h14 j hj

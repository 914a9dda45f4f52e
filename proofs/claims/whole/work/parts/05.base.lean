/-! THE WORLD AS MAPS. kind of a cell (kind number, or 100 + number of the array type, length), fields by number (64 * kind + place), elements by array type, the next address, the slots laid so far. -/
abbrev fxW : Type := (Nat → Option (Nat × Nat)) × (Nat → Nat → Value) × (Nat → Nat → Nat → Value) × Nat × Nat
def fxk (w : fxW) : Nat → Option (Nat × Nat) := w.1
def fxf (w : fxW) : Nat → Nat → Value := w.2.1
def fxe (w : fxW) : Nat → Nat → Nat → Value := w.2.2.1
def fxt (w : fxW) : Nat := w.2.2.2.1
def fxu (w : fxW) : Nat := w.2.2.2.2
/-- a field is put -/
def fx_put (w : fxW) (g a : Nat) (v : Value) : fxW := (w.1, fun g' a' => if g' = g then (if a' = a then v else w.2.1 g' a') else w.2.1 g' a', w.2.2)
/-- an element is put -/
def fx_ast (w : fxW) (t a j : Nat) (v : Value) : fxW := (w.1, w.2.1, fun t' a' j' => if t' = t then (if a' = a then (if j' = j then v else w.2.2.1 t' a' j') else w.2.2.1 t' a' j') else w.2.2.1 t' a' j', w.2.2.2)
/-- an object of the kind c with n slots is made, its fields by z -/
def fx_new (w : fxW) (c n : Nat) (z : Nat → Value) : fxW := (fun a => if a = w.2.2.2.1 then some (c, 0) else w.1 a, fun g a => if a = w.2.2.2.1 then (if 64 * c ≤ g then z (g - 64 * c) else w.2.1 g a) else w.2.1 g a, w.2.2.1, w.2.2.2.1 + 1, w.2.2.2.2 + n)
/-- an array of the type t and the length n is made, its elements z -/
def fx_newa (w : fxW) (t n : Nat) (z : Value) : fxW := (fun a => if a = w.2.2.2.1 then some (100 + t, n) else w.1 a, w.2.1, fun t' a j => if a = w.2.2.2.1 then z else w.2.2.1 t' a j, w.2.2.2.1 + 1, w.2.2.2.2 + n)
/-- the fixed things: the launch, the classes' numbers and slots, the array classes, the first address that may be written, the heap that was there, the most cells, the most slots, the old addresses -/
abbrev fxG : Type := Launch × va_G × (Nat → ClassId) × Nat × Heap × Nat × Nat × (Nat → Nat)
def fxl (G : fxG) : Launch := G.1
def fxD (G : fxG) : va_G := G.2.1
def fxA (G : fxG) : Nat → ClassId := G.2.2.1
def fxb (G : fxG) : Nat := G.2.2.2.1
def fxHb (G : fxG) : Heap := G.2.2.2.2.1
def fxmt (G : fxG) : Nat := G.2.2.2.2.2.1
def fxmu (G : fxG) : Nat := G.2.2.2.2.2.2.1
def fxad (G : fxG) : Nat → Nat := G.2.2.2.2.2.2.2
/-- an array: made here, or one that was there (only what it holds is known) -/
def fxCe (c t : Nat) (oc : Option Cell) (cA : ClassId) (n : Nat) (f : Nat → Value) : Prop := (c = 100 + t ∧ oc = some (arrV cA n f)) ∨ (c = 200 + t ∧ ∃ cell : Cell, oc = some cell ∧ cell.slots.size = n ∧ ∀ j, j < n → cell.slots[j]? = some (f j))
theorem fxCe.to {c t : Nat} {oc oc' : Option Cell} {cA : ClassId} {n : Nat} {f f' : Nat → Value} (h : fxCe c t oc cA n f) (ho : oc' = oc) (hf : f' = f) : fxCe c t oc' cA n f' := by subst ho; subst hf; exact h
/-- the heap holds the world -/
def fxH (G : fxG) (w : fxW) (H : Heap) : Prop :=
  H.size = fxt w ∧ (∀ q : Nat, q < fxb G → H[q]? = (fxHb G)[q]?) ∧ fxb G ≤ fxt w ∧ fxt w ≤ fxmt G ∧ fxu w ≤ fxmu G ∧
  ∀ a c n : Nat, fxk w a = some (c, n) →
    (c < 100 ∧ fxb G ≤ a ∧ ∃ r : vw_C, fxCl[c]? = some r ∧ t_OB a ((fxD G).1 c) r.2.2 ((fxD G).2 c) H (fun k => fxf w (64 * c + k) a)) ∨
    (∃ (t : Nat) (ty : FieldType), t < 100 ∧ ((c = 100 + t ∧ fxb G ≤ a) ∨ (c = 200 + t ∧ a < fxb G ∧ (a, ty) ∈ fxBs (fxad G))) ∧ fxAr[t]? = some ty ∧ fxCe c t H[a]? (fxA G t) n (fun j => fxe w t a j))
def fxT (G : fxG) : List (ClassId × FieldType) := (List.range fxAr.length).map fun t => (fxA G t, fxAr.getD t .int)
/-- what the tables say, at a state -/
def fxV (G : fxG) (U : State) : Prop := va_K (fxD G) fxCl (fxT G) U ∧ fxO (fxl G) (fxb G) (fxHb G) (fxad G) U
def fxI (G : fxG) (w : fxW) (U : State) : Prop := fxH G w U.heap ∧ fxV G U
theorem fxV.moved {G : fxG} {u U : State} (hW : u.WarmedH U.vm) (h : fxV G u) : fxV G U := ⟨va_K.moved hW.alike h.1, fxO_moved hW h.2⟩
theorem fxT_at {G : fxG} {t : Nat} {ty : FieldType} (h : fxAr[t]? = some ty) : (fxT G)[t]? = some (fxA G t, ty) := by
  have hl : t < fxAr.length := (List.getElem?_eq_some_iff.mp h).1
  simp [fxT, hl, List.getElem?_map, List.getElem?_range, h]
  exact (List.getElem?_eq_some_iff.mp h).2

/-- the machine's own things: program, environment, room, state at the entry, method, arguments, frames below, method, code, cells and slots at the entry -/
abbrev fxX : Type := Program × Env × Room × State × MethodId × Array Value × List Frame × Method × Code × Nat × Nat
def fxRm (G : fxG) (d : Nat) (w : fxW) : Room := { frames := d, cells := fxmt G - fxt w, slots := fxmu G - fxu w, locals := 38 * d + 20 }
/-- how a method ends -/
def fxE (G : fxG) (t0 u0 : Nat) (P : Outcome → fxW → Prop) (s : State) (o : Outcome) (t : State) : Prop :=
  ∃ w' : fxW, P o w' ∧ fxI G w' t ∧ ∃ (L : List Loc) (k n : Nat), s.WarmedH t.vm ∧ s.sameButNew ({ t with vm := s.vm } : State) L k n ∧ (∀ q ∈ L, fxb G ≤ q.base) ∧ t0 + k = fxt w' ∧ u0 + n = fxu w'
/-- THE CONTRACT: method y with the arguments as, from the world w, ends, and 'P outcome world' -/
def fxM (G : fxG) (d : Nat) (y : MethodName) (as : List Value) (w : fxW) (P : Outcome → fxW → Prop) : Prop :=
  MetFree (fxl G) y (headSpec fxTW (fxRm G d w)) (fun a s => a = as.toArray ∧ fxI G w s) (fun _ _ _ _ _ => True) (fun _ s o t => fxE G (fxt w) (fxu w) P s o t)
/-- what is known inside a method -/
def fxC (G : fxG) (d : Nat) (cc : ByteArray) (nL : Nat) (own nm : String) (ret : Option FieldType) (hh : List (Nat × Nat × Nat × Nat)) (x : fxX) : Prop :=
  match x with
  | (p, e, R, s, m, args, _, meth, c, t0, u0) => p.tables.exec = Jvm.exec ∧ c.code = cc ∧ c.maxLocals = nL ∧ s.vm.findClass own = some m.cls ∧ (∀ w ∈ fxTW, w.before args s = true) ∧ fxV G s ∧ meth.sig.returnType = ret ∧ meth.locks = false ∧ meth.name = nm ∧
    s.heap.size = t0 ∧ t0 + R.cells = fxmt G ∧ u0 + R.slots = fxmu G ∧ d ≤ R.frames ∧ 38 * d + 20 ≤ R.locals ∧ fxb G ≤ t0 ∧ c.exceptionTable.toList.map (fun x => (x.startPc, x.endPc, x.handlerPc, x.catchType)) = hh ∧ (fxl G).admits e
def fxWk (G : fxG) (x : fxX) (H : Heap) (locs : List Loc) (cells slots : Nat) (Q : State → Prop) (pc : Nat) (sl : Array Slot) (st : List Value) : Prop :=
  match x with
  | (p, e, R, s, m, args, below, meth, c, _, _) => W p (fxl G) e R s m args below meth c H locs cells slots Q (F0 m pc sl st)
def fxt0 (x : fxX) : Nat := x.2.2.2.2.2.2.2.2.2.1
def fxu0 (x : fxX) : Nat := x.2.2.2.2.2.2.2.2.2.2
/-- THE WALK: at pc, with the locals ls, the stack st, in the world w -/
def fxR (G : fxG) (nL : Nat) (x : fxX) (Q : State → Prop) (w : fxW) (pc : Nat) (ls : List (Nat × Value)) (st : List Value) : Prop :=
  ∀ (H : Heap) (locs : List Loc) (sl : Array Slot) (cells slots : Nat), fxH G w H → (∀ q ∈ locs, fxb G ≤ q.base) → lv_has sl nL ls → fxt0 x + cells = fxt w → fxu0 x + slots = fxu w → fxWk G x H locs cells slots Q pc sl st
/-- a place -/
def fxL (ls : List (Nat × Value)) (i : Nat) : Option Value := (ls.find? (fun q => q.1 == i)).map (fun q => q.2)
def fxS1 (i : Nat) (v : Value) (ls : List (Nat × Value)) : List (Nat × Value) := (i, v) :: ls.filter (fun q => !(q.1 == i) && !(q.1 + 1 == i && q.2.category == 2))
def fxS2 (i : Nat) (v : Value) (ls : List (Nat × Value)) : List (Nat × Value) := (i, v) :: ls.filter (fun q => !(q.1 == i) && (!(q.1 == i + 1) && !(q.1 + 1 == i && q.2.category == 2)))
theorem fxL_at {sl : Array Slot} {nL : Nat} {ls : List (Nat × Value)} {i : Nat} {v : Value} (h : lv_has sl nL ls) (hl : fxL ls i = some v) : sl[i]? = some (.val v) := by
  unfold fxL at hl
  cases hf : ls.find? (fun q => q.1 == i) with
  | none => rw [hf] at hl; cases hl
  | some q =>
    rw [hf] at hl
    have h1 := List.find?_some hf
    have h2 := List.mem_of_find?_eq_some hf
    have h3 := h.2.2 q h2
    simp at h1 hl
    rw [← h1, ← hl]
    exact h3
theorem fxL_mem {ls : List (Nat × Value)} {i : Nat} {v : Value} (hl : fxL ls i = some v) : (i, v) ∈ ls := by
  unfold fxL at hl
  cases hf : ls.find? (fun q => q.1 == i) with
  | none => rw [hf] at hl; cases hl
  | some q =>
    rw [hf] at hl
    have h1 := List.find?_some hf
    have h2 := List.mem_of_find?_eq_some hf
    simp at h1 hl
    rw [← h1, ← hl]
    exact h2
section FX
variable {G : fxG} {d nL : Nat} {cc : ByteArray} {own nm : String} {ret : Option FieldType} {hh : List (Nat × Nat × Nat × Nat)} {x : fxX} {Q : State → Prop} {w : fxW} {pc : Nat} {ls : List (Nat × Value)} {st : List Value}
/-- fewer locals -/
theorem fx_sub {ls' : List (Nat × Value)} (h : ∀ q ∈ ls', fxL ls q.1 = some q.2) (k : fxR G nL x Q w pc ls' st) : fxR G nL x Q w pc ls st :=
  fun H locs sl cells slots h1 h2 h3 h4 h5 => k H locs sl cells slots h1 h2 ⟨h3.1, h3.2.1, fun q hq => fxL_at h3 (h q hq)⟩ h4 h5
/-- another writing of the same world, stack, place -/
theorem fx_eq {w' : fxW} {st' : List Value} (hw : w = w') (hs : st = st') (k : fxR G nL x Q w' pc ls st') : fxR G nL x Q w pc ls st := by
  subst hw; subst hs; exact k
theorem fx_lift {pc' : Nat} {st' : List Value} (h : ∀ (H : Heap) (locs : List Loc) (sl : Array Slot) (cells slots : Nat), lv_has sl nL ls → fxWk G x H locs cells slots Q pc' sl st' → fxWk G x H locs cells slots Q pc sl st) (k : fxR G nL x Q w pc' ls st') : fxR G nL x Q w pc ls st :=
  fun H locs sl cells slots h1 h2 h3 h4 h5 => h H locs sl cells slots h3 (k H locs sl cells slots h1 h2 h3 h4 h5)
theorem fx_lift2 {A B : Prop} {pc1 pc2 : Nat} {st1 st2 : List Value} (h : ∀ (H : Heap) (locs : List Loc) (sl : Array Slot) (cells slots : Nat), (A → fxWk G x H locs cells slots Q pc1 sl st1) → (B → fxWk G x H locs cells slots Q pc2 sl st2) → fxWk G x H locs cells slots Q pc sl st) (k1 : A → fxR G nL x Q w pc1 ls st1) (k2 : B → fxR G nL x Q w pc2 ls st2) : fxR G nL x Q w pc ls st :=
  fun H locs sl cells slots h1 h2 h3 h4 h5 => h H locs sl cells slots (fun a => k1 a H locs sl cells slots h1 h2 h3 h4 h5) (fun b => k2 b H locs sl cells slots h1 h2 h3 h4 h5)
theorem fx_liftS {ls' : List (Nat × Value)} {pc' : Nat} {st' : List Value} (h : ∀ (H : Heap) (locs : List Loc) (sl : Array Slot) (cells slots : Nat), lv_has sl nL ls → (∀ sl' : Array Slot, lv_has sl' nL ls' → fxWk G x H locs cells slots Q pc' sl' st') → fxWk G x H locs cells slots Q pc sl st) (k : fxR G nL x Q w pc' ls' st') : fxR G nL x Q w pc ls st :=
  fun H locs sl cells slots h1 h2 h3 h4 h5 => h H locs sl cells slots h3 (fun sl' h3' => k H locs sl' cells slots h1 h2 h3' h4 h5)

theorem r_iconst (C : fxC G d cc nL own nm ret hh x) {n : Int} {v : Int32} (hd : decode cc pc = .ok (.iconst n, 1)) (hv : Int32.ofInt n = v) (k : fxR G nL x Q w (pc + 1) ls (.int v :: st)) : fxR G nL x Q w pc ls (st) := by
  obtain ⟨p, e, R, s, m, args, below, meth, c, t0, u0⟩ := x
  obtain ⟨hx, hb, C2⟩ := C
  exact fx_lift (fun H locs sl cells slots h3 kk => lv_iconst hx hb hd hv kk) k
theorem r_bipush (C : fxC G d cc nL own nm ret hh x) {n : Int} {v : Int32} (hd : decode cc pc = .ok (.bipush n, 2)) (hv : (Int8.ofInt n).toInt32 = v) (k : fxR G nL x Q w (pc + 2) ls (.int v :: st)) : fxR G nL x Q w pc ls (st) := by
  obtain ⟨p, e, R, s, m, args, below, meth, c, t0, u0⟩ := x
  obtain ⟨hx, hb, C2⟩ := C
  exact fx_lift (fun H locs sl cells slots h3 kk => lv_bipush hx hb hd hv kk) k
theorem r_sipush (C : fxC G d cc nL own nm ret hh x) {n : Int} {v : Int32} (hd : decode cc pc = .ok (.sipush n, 3)) (hv : (Int16.ofInt n).toInt32 = v) (k : fxR G nL x Q w (pc + 3) ls (.int v :: st)) : fxR G nL x Q w pc ls (st) := by
  obtain ⟨p, e, R, s, m, args, below, meth, c, t0, u0⟩ := x
  obtain ⟨hx, hb, C2⟩ := C
  exact fx_lift (fun H locs sl cells slots h3 kk => lv_sipush hx hb hd hv kk) k
theorem r_lconst (C : fxC G d cc nL own nm ret hh x) {n : Fin 2} {v : Int64} (hd : decode cc pc = .ok (.lconst n, 1)) (hv : Int64.ofNat (n : Nat) = v) (k : fxR G nL x Q w (pc + 1) ls (.long v :: st)) : fxR G nL x Q w pc ls (st) := by
  obtain ⟨p, e, R, s, m, args, below, meth, c, t0, u0⟩ := x
  obtain ⟨hx, hb, C2⟩ := C
  exact fx_lift (fun H locs sl cells slots h3 kk => lv_lconst hx hb hd hv kk) k
theorem r_null (C : fxC G d cc nL own nm ret hh x) (hd : decode cc pc = .ok (.aconst_null, 1)) (k : fxR G nL x Q w (pc + 1) ls (.null :: st)) : fxR G nL x Q w pc ls (st) := by
  obtain ⟨p, e, R, s, m, args, below, meth, c, t0, u0⟩ := x
  obtain ⟨hx, hb, C2⟩ := C
  exact fx_lift (fun H locs sl cells slots h3 kk => lv_null hx hb hd kk) k
theorem r_iload_n (C : fxC G d cc nL own nm ret hh x) {k0 : Fin 4} {i : Nat} {v : Int32} (hd : decode cc pc = .ok (.iload_n k0, 1)) (hi : (k0 : Nat) = i) (hl : fxL ls i = some (.int v)) (k : fxR G nL x Q w (pc + 1) ls (.int v :: st)) : fxR G nL x Q w pc ls (st) := by
  obtain ⟨p, e, R, s, m, args, below, meth, c, t0, u0⟩ := x
  obtain ⟨hx, hb, C2⟩ := C
  exact fx_lift (fun H locs sl cells slots h3 kk => lv_iload_n hx hb hd hi (fxL_at h3 hl) kk) k
theorem r_iload (C : fxC G d cc nL own nm ret hh x) {i : Nat} {v : Int32} (hd : decode cc pc = .ok (.iload i, 2)) (hl : fxL ls i = some (.int v)) (k : fxR G nL x Q w (pc + 2) ls (.int v :: st)) : fxR G nL x Q w pc ls (st) := by
  obtain ⟨p, e, R, s, m, args, below, meth, c, t0, u0⟩ := x
  obtain ⟨hx, hb, C2⟩ := C
  exact fx_lift (fun H locs sl cells slots h3 kk => lv_iload hx hb hd (fxL_at h3 hl) kk) k
theorem r_lload_n (C : fxC G d cc nL own nm ret hh x) {k0 : Fin 4} {i : Nat} {v : Int64} (hd : decode cc pc = .ok (.lload_n k0, 1)) (hi : (k0 : Nat) = i) (hl : fxL ls i = some (.long v)) (k : fxR G nL x Q w (pc + 1) ls (.long v :: st)) : fxR G nL x Q w pc ls (st) := by
  obtain ⟨p, e, R, s, m, args, below, meth, c, t0, u0⟩ := x
  obtain ⟨hx, hb, C2⟩ := C
  exact fx_lift (fun H locs sl cells slots h3 kk => lv_lload_n hx hb hd hi (fxL_at h3 hl) kk) k
theorem r_lload (C : fxC G d cc nL own nm ret hh x) {i : Nat} {v : Int64} (hd : decode cc pc = .ok (.lload i, 2)) (hl : fxL ls i = some (.long v)) (k : fxR G nL x Q w (pc + 2) ls (.long v :: st)) : fxR G nL x Q w pc ls (st) := by
  obtain ⟨p, e, R, s, m, args, below, meth, c, t0, u0⟩ := x
  obtain ⟨hx, hb, C2⟩ := C
  exact fx_lift (fun H locs sl cells slots h3 kk => lv_lload hx hb hd (fxL_at h3 hl) kk) k
theorem r_aload_n (C : fxC G d cc nL own nm ret hh x) {k0 : Fin 4} {i : Nat} {v : Nat} (hd : decode cc pc = .ok (.aload_n k0, 1)) (hi : (k0 : Nat) = i) (hl : fxL ls i = some (.ref v)) (k : fxR G nL x Q w (pc + 1) ls (.ref v :: st)) : fxR G nL x Q w pc ls (st) := by
  obtain ⟨p, e, R, s, m, args, below, meth, c, t0, u0⟩ := x
  obtain ⟨hx, hb, C2⟩ := C
  exact fx_lift (fun H locs sl cells slots h3 kk => lv_aload_n hx hb hd hi (fxL_at h3 hl) kk) k
theorem r_aload (C : fxC G d cc nL own nm ret hh x) {i : Nat} {v : Nat} (hd : decode cc pc = .ok (.aload i, 2)) (hl : fxL ls i = some (.ref v)) (k : fxR G nL x Q w (pc + 2) ls (.ref v :: st)) : fxR G nL x Q w pc ls (st) := by
  obtain ⟨p, e, R, s, m, args, below, meth, c, t0, u0⟩ := x
  obtain ⟨hx, hb, C2⟩ := C
  exact fx_lift (fun H locs sl cells slots h3 kk => lv_aload hx hb hd (fxL_at h3 hl) kk) k
theorem r_aload_nN (C : fxC G d cc nL own nm ret hh x) {k0 : Fin 4} {i : Nat} (hd : decode cc pc = .ok (.aload_n k0, 1)) (hi : (k0 : Nat) = i) (hl : fxL ls i = some .null) (k : fxR G nL x Q w (pc + 1) ls (.null :: st)) : fxR G nL x Q w pc ls (st) := by
  obtain ⟨p, e, R, s, m, args, below, meth, c, t0, u0⟩ := x
  obtain ⟨hx, hb, C2⟩ := C
  exact fx_lift (fun H locs sl cells slots h3 kk => lv_aload_nN hx hb hd hi (fxL_at h3 hl) kk) k
theorem r_aloadN (C : fxC G d cc nL own nm ret hh x) {i : Nat} (hd : decode cc pc = .ok (.aload i, 2)) (hl : fxL ls i = some .null) (k : fxR G nL x Q w (pc + 2) ls (.null :: st)) : fxR G nL x Q w pc ls (st) := by
  obtain ⟨p, e, R, s, m, args, below, meth, c, t0, u0⟩ := x
  obtain ⟨hx, hb, C2⟩ := C
  exact fx_lift (fun H locs sl cells slots h3 kk => lv_aloadN hx hb hd (fxL_at h3 hl) kk) k
theorem r_istore_n (C : fxC G d cc nL own nm ret hh x) {k0 : Fin 4} {i : Nat} {v : Int32} {ls' : List (Nat × Value)} (hd : decode cc pc = .ok (.istore_n k0, 1)) (hi : (k0 : Nat) = i) (hn : i < nL) (hl : fxS1 i (.int v) ls = ls') (k : fxR G nL x Q w (pc + 1) ls' st) : fxR G nL x Q w pc ls (.int v :: st) := by
  obtain ⟨p, e, R, s, m, args, below, meth, c, t0, u0⟩ := x
  obtain ⟨hx, hb, C2⟩ := C
  exact fx_liftS (fun H locs sl cells slots h3 kk => lv_istore_n hx hb hd hi h3 hn hl kk) k
theorem r_istore (C : fxC G d cc nL own nm ret hh x) {i : Nat} {v : Int32} {ls' : List (Nat × Value)} (hd : decode cc pc = .ok (.istore i, 2)) (hn : i < nL) (hl : fxS1 i (.int v) ls = ls') (k : fxR G nL x Q w (pc + 2) ls' st) : fxR G nL x Q w pc ls (.int v :: st) := by
  obtain ⟨p, e, R, s, m, args, below, meth, c, t0, u0⟩ := x
  obtain ⟨hx, hb, C2⟩ := C
  exact fx_liftS (fun H locs sl cells slots h3 kk => lv_istore hx hb hd h3 hn hl kk) k
theorem r_lstore_n (C : fxC G d cc nL own nm ret hh x) {k0 : Fin 4} {i : Nat} {v : Int64} {ls' : List (Nat × Value)} (hd : decode cc pc = .ok (.lstore_n k0, 1)) (hi : (k0 : Nat) = i) (hn : i + 1 < nL) (hl : fxS2 i (.long v) ls = ls') (k : fxR G nL x Q w (pc + 1) ls' st) : fxR G nL x Q w pc ls (.long v :: st) := by
  obtain ⟨p, e, R, s, m, args, below, meth, c, t0, u0⟩ := x
  obtain ⟨hx, hb, C2⟩ := C
  exact fx_liftS (fun H locs sl cells slots h3 kk => lv_lstore_n hx hb hd hi h3 hn hl kk) k
theorem r_lstore (C : fxC G d cc nL own nm ret hh x) {i : Nat} {v : Int64} {ls' : List (Nat × Value)} (hd : decode cc pc = .ok (.lstore i, 2)) (hn : i + 1 < nL) (hl : fxS2 i (.long v) ls = ls') (k : fxR G nL x Q w (pc + 2) ls' st) : fxR G nL x Q w pc ls (.long v :: st) := by
  obtain ⟨p, e, R, s, m, args, below, meth, c, t0, u0⟩ := x
  obtain ⟨hx, hb, C2⟩ := C
  exact fx_liftS (fun H locs sl cells slots h3 kk => lv_lstore hx hb hd h3 hn hl kk) k
theorem r_astore_n (C : fxC G d cc nL own nm ret hh x) {k0 : Fin 4} {i : Nat} {v : Nat} {ls' : List (Nat × Value)} (hd : decode cc pc = .ok (.astore_n k0, 1)) (hi : (k0 : Nat) = i) (hn : i < nL) (hl : fxS1 i (.ref v) ls = ls') (k : fxR G nL x Q w (pc + 1) ls' st) : fxR G nL x Q w pc ls (.ref v :: st) := by
  obtain ⟨p, e, R, s, m, args, below, meth, c, t0, u0⟩ := x
  obtain ⟨hx, hb, C2⟩ := C
  exact fx_liftS (fun H locs sl cells slots h3 kk => lv_astore_n hx hb hd hi h3 hn hl kk) k
theorem r_astore (C : fxC G d cc nL own nm ret hh x) {i : Nat} {v : Nat} {ls' : List (Nat × Value)} (hd : decode cc pc = .ok (.astore i, 2)) (hn : i < nL) (hl : fxS1 i (.ref v) ls = ls') (k : fxR G nL x Q w (pc + 2) ls' st) : fxR G nL x Q w pc ls (.ref v :: st) := by
  obtain ⟨p, e, R, s, m, args, below, meth, c, t0, u0⟩ := x
  obtain ⟨hx, hb, C2⟩ := C
  exact fx_liftS (fun H locs sl cells slots h3 kk => lv_astore hx hb hd h3 hn hl kk) k
theorem r_astore_nN (C : fxC G d cc nL own nm ret hh x) {k0 : Fin 4} {i : Nat} {ls' : List (Nat × Value)} (hd : decode cc pc = .ok (.astore_n k0, 1)) (hi : (k0 : Nat) = i) (hn : i < nL) (hl : fxS1 i .null ls = ls') (k : fxR G nL x Q w (pc + 1) ls' st) : fxR G nL x Q w pc ls (.null :: st) := by
  obtain ⟨p, e, R, s, m, args, below, meth, c, t0, u0⟩ := x
  obtain ⟨hx, hb, C2⟩ := C
  exact fx_liftS (fun H locs sl cells slots h3 kk => lv_astore_nN hx hb hd hi h3 hn hl kk) k
theorem r_astoreN (C : fxC G d cc nL own nm ret hh x) {i : Nat} {ls' : List (Nat × Value)} (hd : decode cc pc = .ok (.astore i, 2)) (hn : i < nL) (hl : fxS1 i .null ls = ls') (k : fxR G nL x Q w (pc + 2) ls' st) : fxR G nL x Q w pc ls (.null :: st) := by
  obtain ⟨p, e, R, s, m, args, below, meth, c, t0, u0⟩ := x
  obtain ⟨hx, hb, C2⟩ := C
  exact fx_liftS (fun H locs sl cells slots h3 kk => lv_astoreN hx hb hd h3 hn hl kk) k
theorem r_iinc (C : fxC G d cc nL own nm ret hh x) {i : Nat} {n : Int} {y v : Int32} {ls' : List (Nat × Value)} (hd : decode cc pc = .ok (.iinc i n, 3)) (hy : fxL ls i = some (.int y)) (hv : y + Int32.ofInt n = v) (hn : i < nL) (hl : fxS1 i (.int v) ls = ls') (k : fxR G nL x Q w (pc + 3) ls' st) : fxR G nL x Q w pc ls st := by
  obtain ⟨p, e, R, s, m, args, below, meth, c, t0, u0⟩ := x
  obtain ⟨hx, hb, C2⟩ := C
  obtain ⟨k9, hk9⟩ := List.getElem?_of_mem (fxL_mem hy)
  exact fx_liftS (fun H locs sl cells slots h3 kk => lv_iinc hx hb hd h3 hk9 hv hn hl kk) k
theorem r_iadd (C : fxC G d cc nL own nm ret hh x) {a b : Int32} (hd : decode cc pc = .ok (.iadd, 1)) (k : fxR G nL x Q w (pc + 1) ls (.int (a + b) :: st)) : fxR G nL x Q w pc ls (.int b :: .int a :: st) := by
  obtain ⟨p, e, R, s, m, args, below, meth, c, t0, u0⟩ := x
  obtain ⟨hx, hb, C2⟩ := C
  exact fx_lift (fun H locs sl cells slots h3 kk => lv_iadd hx hb hd kk) k
theorem r_ladd (C : fxC G d cc nL own nm ret hh x) {a b : Int64} (hd : decode cc pc = .ok (.ladd, 1)) (k : fxR G nL x Q w (pc + 1) ls (.long (a + b) :: st)) : fxR G nL x Q w pc ls (.long b :: .long a :: st) := by
  obtain ⟨p, e, R, s, m, args, below, meth, c, t0, u0⟩ := x
  obtain ⟨hx, hb, C2⟩ := C
  exact fx_lift (fun H locs sl cells slots h3 kk => lv_ladd hx hb hd kk) k
theorem r_isub (C : fxC G d cc nL own nm ret hh x) {a b : Int32} (hd : decode cc pc = .ok (.isub, 1)) (k : fxR G nL x Q w (pc + 1) ls (.int (a - b) :: st)) : fxR G nL x Q w pc ls (.int b :: .int a :: st) := by
  obtain ⟨p, e, R, s, m, args, below, meth, c, t0, u0⟩ := x
  obtain ⟨hx, hb, C2⟩ := C
  exact fx_lift (fun H locs sl cells slots h3 kk => lv_isub hx hb hd kk) k
theorem r_lsub (C : fxC G d cc nL own nm ret hh x) {a b : Int64} (hd : decode cc pc = .ok (.lsub, 1)) (k : fxR G nL x Q w (pc + 1) ls (.long (a - b) :: st)) : fxR G nL x Q w pc ls (.long b :: .long a :: st) := by
  obtain ⟨p, e, R, s, m, args, below, meth, c, t0, u0⟩ := x
  obtain ⟨hx, hb, C2⟩ := C
  exact fx_lift (fun H locs sl cells slots h3 kk => lv_lsub hx hb hd kk) k
theorem r_imul (C : fxC G d cc nL own nm ret hh x) {a b : Int32} (hd : decode cc pc = .ok (.imul, 1)) (k : fxR G nL x Q w (pc + 1) ls (.int (a * b) :: st)) : fxR G nL x Q w pc ls (.int b :: .int a :: st) := by
  obtain ⟨p, e, R, s, m, args, below, meth, c, t0, u0⟩ := x
  obtain ⟨hx, hb, C2⟩ := C
  exact fx_lift (fun H locs sl cells slots h3 kk => lv_imul hx hb hd kk) k
theorem r_lmul (C : fxC G d cc nL own nm ret hh x) {a b : Int64} (hd : decode cc pc = .ok (.lmul, 1)) (k : fxR G nL x Q w (pc + 1) ls (.long (a * b) :: st)) : fxR G nL x Q w pc ls (.long b :: .long a :: st) := by
  obtain ⟨p, e, R, s, m, args, below, meth, c, t0, u0⟩ := x
  obtain ⟨hx, hb, C2⟩ := C
  exact fx_lift (fun H locs sl cells slots h3 kk => lv_lmul hx hb hd kk) k
theorem r_iand (C : fxC G d cc nL own nm ret hh x) {a b : Int32} (hd : decode cc pc = .ok (.iand, 1)) (k : fxR G nL x Q w (pc + 1) ls (.int (a &&& b) :: st)) : fxR G nL x Q w pc ls (.int b :: .int a :: st) := by
  obtain ⟨p, e, R, s, m, args, below, meth, c, t0, u0⟩ := x
  obtain ⟨hx, hb, C2⟩ := C
  exact fx_lift (fun H locs sl cells slots h3 kk => lv_iand hx hb hd kk) k
theorem r_land (C : fxC G d cc nL own nm ret hh x) {a b : Int64} (hd : decode cc pc = .ok (.land, 1)) (k : fxR G nL x Q w (pc + 1) ls (.long (a &&& b) :: st)) : fxR G nL x Q w pc ls (.long b :: .long a :: st) := by
  obtain ⟨p, e, R, s, m, args, below, meth, c, t0, u0⟩ := x
  obtain ⟨hx, hb, C2⟩ := C
  exact fx_lift (fun H locs sl cells slots h3 kk => lv_land hx hb hd kk) k
theorem r_ior (C : fxC G d cc nL own nm ret hh x) {a b : Int32} (hd : decode cc pc = .ok (.ior, 1)) (k : fxR G nL x Q w (pc + 1) ls (.int (a ||| b) :: st)) : fxR G nL x Q w pc ls (.int b :: .int a :: st) := by
  obtain ⟨p, e, R, s, m, args, below, meth, c, t0, u0⟩ := x
  obtain ⟨hx, hb, C2⟩ := C
  exact fx_lift (fun H locs sl cells slots h3 kk => lv_ior hx hb hd kk) k
theorem r_lor (C : fxC G d cc nL own nm ret hh x) {a b : Int64} (hd : decode cc pc = .ok (.lor, 1)) (k : fxR G nL x Q w (pc + 1) ls (.long (a ||| b) :: st)) : fxR G nL x Q w pc ls (.long b :: .long a :: st) := by
  obtain ⟨p, e, R, s, m, args, below, meth, c, t0, u0⟩ := x
  obtain ⟨hx, hb, C2⟩ := C
  exact fx_lift (fun H locs sl cells slots h3 kk => lv_lor hx hb hd kk) k
theorem r_ixor (C : fxC G d cc nL own nm ret hh x) {a b : Int32} (hd : decode cc pc = .ok (.ixor, 1)) (k : fxR G nL x Q w (pc + 1) ls (.int (a ^^^ b) :: st)) : fxR G nL x Q w pc ls (.int b :: .int a :: st) := by
  obtain ⟨p, e, R, s, m, args, below, meth, c, t0, u0⟩ := x
  obtain ⟨hx, hb, C2⟩ := C
  exact fx_lift (fun H locs sl cells slots h3 kk => lv_ixor hx hb hd kk) k
theorem r_lxor (C : fxC G d cc nL own nm ret hh x) {a b : Int64} (hd : decode cc pc = .ok (.lxor, 1)) (k : fxR G nL x Q w (pc + 1) ls (.long (a ^^^ b) :: st)) : fxR G nL x Q w pc ls (.long b :: .long a :: st) := by
  obtain ⟨p, e, R, s, m, args, below, meth, c, t0, u0⟩ := x
  obtain ⟨hx, hb, C2⟩ := C
  exact fx_lift (fun H locs sl cells slots h3 kk => lv_lxor hx hb hd kk) k
theorem r_idiv (C : fxC G d cc nL own nm ret hh x) {a b : Int32} (hd : decode cc pc = .ok (.idiv, 1)) (hne : ¬ b = 0) (k : fxR G nL x Q w (pc + 1) ls (.int (a / b) :: st)) : fxR G nL x Q w pc ls (.int b :: .int a :: st) := by
  obtain ⟨p, e, R, s, m, args, below, meth, c, t0, u0⟩ := x
  obtain ⟨hx, hb, C2⟩ := C
  exact fx_lift (fun H locs sl cells slots h3 kk => lv_idiv hx hb hd hne kk) k
theorem r_irem (C : fxC G d cc nL own nm ret hh x) {a b : Int32} (hd : decode cc pc = .ok (.irem, 1)) (hne : ¬ b = 0) (k : fxR G nL x Q w (pc + 1) ls (.int (a - a / b * b) :: st)) : fxR G nL x Q w pc ls (.int b :: .int a :: st) := by
  obtain ⟨p, e, R, s, m, args, below, meth, c, t0, u0⟩ := x
  obtain ⟨hx, hb, C2⟩ := C
  exact fx_lift (fun H locs sl cells slots h3 kk => lv_irem hx hb hd hne kk) k
theorem r_ldiv (C : fxC G d cc nL own nm ret hh x) {a b : Int64} (hd : decode cc pc = .ok (.ldiv, 1)) (hne : ¬ b = 0) (k : fxR G nL x Q w (pc + 1) ls (.long (a / b) :: st)) : fxR G nL x Q w pc ls (.long b :: .long a :: st) := by
  obtain ⟨p, e, R, s, m, args, below, meth, c, t0, u0⟩ := x
  obtain ⟨hx, hb, C2⟩ := C
  exact fx_lift (fun H locs sl cells slots h3 kk => lv_ldiv hx hb hd hne kk) k
theorem r_lrem (C : fxC G d cc nL own nm ret hh x) {a b : Int64} (hd : decode cc pc = .ok (.lrem, 1)) (hne : ¬ b = 0) (k : fxR G nL x Q w (pc + 1) ls (.long (a - a / b * b) :: st)) : fxR G nL x Q w pc ls (.long b :: .long a :: st) := by
  obtain ⟨p, e, R, s, m, args, below, meth, c, t0, u0⟩ := x
  obtain ⟨hx, hb, C2⟩ := C
  exact fx_lift (fun H locs sl cells slots h3 kk => lv_lrem hx hb hd hne kk) k
theorem r_i2l (C : fxC G d cc nL own nm ret hh x) {a : Int32} {v : Int64} (hd : decode cc pc = .ok (.i2l, 1)) (hv : a.toInt64 = v) (k : fxR G nL x Q w (pc + 1) ls (.long v :: st)) : fxR G nL x Q w pc ls (.int a :: st) := by
  obtain ⟨p, e, R, s, m, args, below, meth, c, t0, u0⟩ := x
  obtain ⟨hx, hb, C2⟩ := C
  exact fx_lift (fun H locs sl cells slots h3 kk => lv_i2l hx hb hd hv kk) k
theorem r_l2i (C : fxC G d cc nL own nm ret hh x) {a : Int64} {v : Int32} (hd : decode cc pc = .ok (.l2i, 1)) (hv : a.toInt32 = v) (k : fxR G nL x Q w (pc + 1) ls (.int v :: st)) : fxR G nL x Q w pc ls (.long a :: st) := by
  obtain ⟨p, e, R, s, m, args, below, meth, c, t0, u0⟩ := x
  obtain ⟨hx, hb, C2⟩ := C
  exact fx_lift (fun H locs sl cells slots h3 kk => lv_l2i hx hb hd hv kk) k
theorem r_i2b (C : fxC G d cc nL own nm ret hh x) {a : Int32} {v : Int32} (hd : decode cc pc = .ok (.i2b, 1)) (hv : a.toInt8.toInt32 = v) (k : fxR G nL x Q w (pc + 1) ls (.int v :: st)) : fxR G nL x Q w pc ls (.int a :: st) := by
  obtain ⟨p, e, R, s, m, args, below, meth, c, t0, u0⟩ := x
  obtain ⟨hx, hb, C2⟩ := C
  exact fx_lift (fun H locs sl cells slots h3 kk => lv_i2b hx hb hd hv kk) k
theorem r_i2s (C : fxC G d cc nL own nm ret hh x) {a : Int32} {v : Int32} (hd : decode cc pc = .ok (.i2s, 1)) (hv : a.toInt16.toInt32 = v) (k : fxR G nL x Q w (pc + 1) ls (.int v :: st)) : fxR G nL x Q w pc ls (.int a :: st) := by
  obtain ⟨p, e, R, s, m, args, below, meth, c, t0, u0⟩ := x
  obtain ⟨hx, hb, C2⟩ := C
  exact fx_lift (fun H locs sl cells slots h3 kk => lv_i2s hx hb hd hv kk) k
theorem r_dup (C : fxC G d cc nL own nm ret hh x) {a : Value} (hd : decode cc pc = .ok (.dup, 1)) (ha : a.category = 1) (k : fxR G nL x Q w (pc + 1) ls (a :: a :: st)) : fxR G nL x Q w pc ls (a :: st) := by
  obtain ⟨p, e, R, s, m, args, below, meth, c, t0, u0⟩ := x
  obtain ⟨hx, hb, C2⟩ := C
  exact fx_lift (fun H locs sl cells slots h3 kk => lv_dup hx hb hd ha kk) k
theorem r_lcmp (C : fxC G d cc nL own nm ret hh x) {a b : Int64} (hd : decode cc pc = .ok (.lcmp, 1)) (k : fxR G nL x Q w (pc + 1) ls (.int (lg_cmp a b) :: st)) : fxR G nL x Q w pc ls (.long b :: .long a :: st) := by
  obtain ⟨p, e, R, s, m, args, below, meth, c, t0, u0⟩ := x
  obtain ⟨hx, hb, C2⟩ := C
  exact fx_lift (fun H locs sl cells slots h3 kk => W.lcmp hx hb hd kk) k
theorem r_if_eq (C : fxC G d cc nL own nm ret hh x) {a : Int32} {off : Int} {tgt : Nat} (hd : decode cc pc = .ok (.ifCond .eq off, 3)) (ht : (pc : Int) + off = (tgt : Int)) (k1 : a = 0 → fxR G nL x Q w tgt ls st) (k2 : ¬ a = 0 → fxR G nL x Q w (pc + 3) ls st) : fxR G nL x Q w pc ls (.int a :: st) := by
  obtain ⟨p, e, R, s, m, args, below, meth, c, t0, u0⟩ := x
  obtain ⟨hx, hb, C2⟩ := C
  exact fx_lift2 (fun H locs sl cells slots q1 q2 => lv_if_eq hx hb hd ht q1 q2) k1 k2
theorem r_icmp_eq (C : fxC G d cc nL own nm ret hh x) {a b : Int32} {off : Int} {tgt : Nat} (hd : decode cc pc = .ok (.if_icmp .eq off, 3)) (ht : (pc : Int) + off = (tgt : Int)) (k1 : a = b → fxR G nL x Q w tgt ls st) (k2 : ¬ a = b → fxR G nL x Q w (pc + 3) ls st) : fxR G nL x Q w pc ls (.int b :: .int a :: st) := by
  obtain ⟨p, e, R, s, m, args, below, meth, c, t0, u0⟩ := x
  obtain ⟨hx, hb, C2⟩ := C
  exact fx_lift2 (fun H locs sl cells slots q1 q2 => lv_icmp_eq hx hb hd ht q1 q2) k1 k2
theorem r_if_ne (C : fxC G d cc nL own nm ret hh x) {a : Int32} {off : Int} {tgt : Nat} (hd : decode cc pc = .ok (.ifCond .ne off, 3)) (ht : (pc : Int) + off = (tgt : Int)) (k1 : ¬ a = 0 → fxR G nL x Q w tgt ls st) (k2 : a = 0 → fxR G nL x Q w (pc + 3) ls st) : fxR G nL x Q w pc ls (.int a :: st) := by
  obtain ⟨p, e, R, s, m, args, below, meth, c, t0, u0⟩ := x
  obtain ⟨hx, hb, C2⟩ := C
  exact fx_lift2 (fun H locs sl cells slots q1 q2 => lv_if_ne hx hb hd ht q1 q2) k1 k2
theorem r_icmp_ne (C : fxC G d cc nL own nm ret hh x) {a b : Int32} {off : Int} {tgt : Nat} (hd : decode cc pc = .ok (.if_icmp .ne off, 3)) (ht : (pc : Int) + off = (tgt : Int)) (k1 : ¬ a = b → fxR G nL x Q w tgt ls st) (k2 : a = b → fxR G nL x Q w (pc + 3) ls st) : fxR G nL x Q w pc ls (.int b :: .int a :: st) := by
  obtain ⟨p, e, R, s, m, args, below, meth, c, t0, u0⟩ := x
  obtain ⟨hx, hb, C2⟩ := C
  exact fx_lift2 (fun H locs sl cells slots q1 q2 => lv_icmp_ne hx hb hd ht q1 q2) k1 k2
theorem r_if_lt (C : fxC G d cc nL own nm ret hh x) {a : Int32} {off : Int} {tgt : Nat} (hd : decode cc pc = .ok (.ifCond .lt off, 3)) (ht : (pc : Int) + off = (tgt : Int)) (k1 : a < 0 → fxR G nL x Q w tgt ls st) (k2 : ¬ a < 0 → fxR G nL x Q w (pc + 3) ls st) : fxR G nL x Q w pc ls (.int a :: st) := by
  obtain ⟨p, e, R, s, m, args, below, meth, c, t0, u0⟩ := x
  obtain ⟨hx, hb, C2⟩ := C
  exact fx_lift2 (fun H locs sl cells slots q1 q2 => lv_if_lt hx hb hd ht q1 q2) k1 k2
theorem r_icmp_lt (C : fxC G d cc nL own nm ret hh x) {a b : Int32} {off : Int} {tgt : Nat} (hd : decode cc pc = .ok (.if_icmp .lt off, 3)) (ht : (pc : Int) + off = (tgt : Int)) (k1 : a < b → fxR G nL x Q w tgt ls st) (k2 : ¬ a < b → fxR G nL x Q w (pc + 3) ls st) : fxR G nL x Q w pc ls (.int b :: .int a :: st) := by
  obtain ⟨p, e, R, s, m, args, below, meth, c, t0, u0⟩ := x
  obtain ⟨hx, hb, C2⟩ := C
  exact fx_lift2 (fun H locs sl cells slots q1 q2 => lv_icmp_lt hx hb hd ht q1 q2) k1 k2
theorem r_if_ge (C : fxC G d cc nL own nm ret hh x) {a : Int32} {off : Int} {tgt : Nat} (hd : decode cc pc = .ok (.ifCond .ge off, 3)) (ht : (pc : Int) + off = (tgt : Int)) (k1 : 0 ≤ a → fxR G nL x Q w tgt ls st) (k2 : ¬ 0 ≤ a → fxR G nL x Q w (pc + 3) ls st) : fxR G nL x Q w pc ls (.int a :: st) := by
  obtain ⟨p, e, R, s, m, args, below, meth, c, t0, u0⟩ := x
  obtain ⟨hx, hb, C2⟩ := C
  exact fx_lift2 (fun H locs sl cells slots q1 q2 => lv_if_ge hx hb hd ht q1 q2) k1 k2
theorem r_icmp_ge (C : fxC G d cc nL own nm ret hh x) {a b : Int32} {off : Int} {tgt : Nat} (hd : decode cc pc = .ok (.if_icmp .ge off, 3)) (ht : (pc : Int) + off = (tgt : Int)) (k1 : b ≤ a → fxR G nL x Q w tgt ls st) (k2 : ¬ b ≤ a → fxR G nL x Q w (pc + 3) ls st) : fxR G nL x Q w pc ls (.int b :: .int a :: st) := by
  obtain ⟨p, e, R, s, m, args, below, meth, c, t0, u0⟩ := x
  obtain ⟨hx, hb, C2⟩ := C
  exact fx_lift2 (fun H locs sl cells slots q1 q2 => lv_icmp_ge hx hb hd ht q1 q2) k1 k2
theorem r_if_gt (C : fxC G d cc nL own nm ret hh x) {a : Int32} {off : Int} {tgt : Nat} (hd : decode cc pc = .ok (.ifCond .gt off, 3)) (ht : (pc : Int) + off = (tgt : Int)) (k1 : 0 < a → fxR G nL x Q w tgt ls st) (k2 : ¬ 0 < a → fxR G nL x Q w (pc + 3) ls st) : fxR G nL x Q w pc ls (.int a :: st) := by
  obtain ⟨p, e, R, s, m, args, below, meth, c, t0, u0⟩ := x
  obtain ⟨hx, hb, C2⟩ := C
  exact fx_lift2 (fun H locs sl cells slots q1 q2 => lv_if_gt hx hb hd ht q1 q2) k1 k2
theorem r_icmp_gt (C : fxC G d cc nL own nm ret hh x) {a b : Int32} {off : Int} {tgt : Nat} (hd : decode cc pc = .ok (.if_icmp .gt off, 3)) (ht : (pc : Int) + off = (tgt : Int)) (k1 : b < a → fxR G nL x Q w tgt ls st) (k2 : ¬ b < a → fxR G nL x Q w (pc + 3) ls st) : fxR G nL x Q w pc ls (.int b :: .int a :: st) := by
  obtain ⟨p, e, R, s, m, args, below, meth, c, t0, u0⟩ := x
  obtain ⟨hx, hb, C2⟩ := C
  exact fx_lift2 (fun H locs sl cells slots q1 q2 => lv_icmp_gt hx hb hd ht q1 q2) k1 k2
theorem r_if_le (C : fxC G d cc nL own nm ret hh x) {a : Int32} {off : Int} {tgt : Nat} (hd : decode cc pc = .ok (.ifCond .le off, 3)) (ht : (pc : Int) + off = (tgt : Int)) (k1 : a ≤ 0 → fxR G nL x Q w tgt ls st) (k2 : ¬ a ≤ 0 → fxR G nL x Q w (pc + 3) ls st) : fxR G nL x Q w pc ls (.int a :: st) := by
  obtain ⟨p, e, R, s, m, args, below, meth, c, t0, u0⟩ := x
  obtain ⟨hx, hb, C2⟩ := C
  exact fx_lift2 (fun H locs sl cells slots q1 q2 => lv_if_le hx hb hd ht q1 q2) k1 k2
theorem r_icmp_le (C : fxC G d cc nL own nm ret hh x) {a b : Int32} {off : Int} {tgt : Nat} (hd : decode cc pc = .ok (.if_icmp .le off, 3)) (ht : (pc : Int) + off = (tgt : Int)) (k1 : a ≤ b → fxR G nL x Q w tgt ls st) (k2 : ¬ a ≤ b → fxR G nL x Q w (pc + 3) ls st) : fxR G nL x Q w pc ls (.int b :: .int a :: st) := by
  obtain ⟨p, e, R, s, m, args, below, meth, c, t0, u0⟩ := x
  obtain ⟨hx, hb, C2⟩ := C
  exact fx_lift2 (fun H locs sl cells slots q1 q2 => lv_icmp_le hx hb hd ht q1 q2) k1 k2
theorem r_acmp_eq (C : fxC G d cc nL own nm ret hh x) {ra rb : Option Nat} {off : Int} {tgt : Nat} (hd : decode cc pc = .ok (.if_acmp .eq off, 3)) (ht : (pc : Int) + off = (tgt : Int)) (k1 : ra = rb → fxR G nL x Q w tgt ls st) (k2 : ¬ ra = rb → fxR G nL x Q w (pc + 3) ls st) : fxR G nL x Q w pc ls (va_rf rb :: va_rf ra :: st) := by
  obtain ⟨p, e, R, s, m, args, below, meth, c, t0, u0⟩ := x
  obtain ⟨hx, hb, C2⟩ := C
  exact fx_lift2 (fun H locs sl cells slots q1 q2 => lv_acmp_eq hx hb hd ht q1 q2) k1 k2
theorem r_acmp_ne (C : fxC G d cc nL own nm ret hh x) {ra rb : Option Nat} {off : Int} {tgt : Nat} (hd : decode cc pc = .ok (.if_acmp .ne off, 3)) (ht : (pc : Int) + off = (tgt : Int)) (k1 : ¬ ra = rb → fxR G nL x Q w tgt ls st) (k2 : ra = rb → fxR G nL x Q w (pc + 3) ls st) : fxR G nL x Q w pc ls (va_rf rb :: va_rf ra :: st) := by
  obtain ⟨p, e, R, s, m, args, below, meth, c, t0, u0⟩ := x
  obtain ⟨hx, hb, C2⟩ := C
  exact fx_lift2 (fun H locs sl cells slots q1 q2 => lv_acmp_ne hx hb hd ht q1 q2) k1 k2
theorem r_goto (C : fxC G d cc nL own nm ret hh x) {off : Int} {tgt : Nat} (hd : decode cc pc = .ok (.goto off, 3)) (ht : (pc : Int) + off = (tgt : Int)) (k : fxR G nL x Q w tgt ls st) : fxR G nL x Q w pc ls st := by
  obtain ⟨p, e, R, s, m, args, below, meth, c, t0, u0⟩ := x
  obtain ⟨hx, hb, C2⟩ := C
  exact fx_lift (fun H locs sl cells slots h3 kk => lv_goto hx hb hd ht kk) k
theorem r_ifnonnull (C : fxC G d cc nL own nm ret hh x) {a : Nat} {off : Int} {tgt : Nat} (hd : decode cc pc = .ok (.ifnonnull off, 3)) (ht : (pc : Int) + off = (tgt : Int)) (k : fxR G nL x Q w tgt ls st) : fxR G nL x Q w pc ls (.ref a :: st) := by
  obtain ⟨p, e, R, s, m, args, below, meth, c, t0, u0⟩ := x
  obtain ⟨hx, hb, C2⟩ := C
  exact fx_lift (fun H locs sl cells slots h3 kk => lv_ifnonnull hx hb hd ht kk) k
theorem r_ifnonnullN (C : fxC G d cc nL own nm ret hh x) {off : Int} (hd : decode cc pc = .ok (.ifnonnull off, 3)) (k : fxR G nL x Q w (pc + 3) ls st) : fxR G nL x Q w pc ls (.null :: st) := by
  obtain ⟨p, e, R, s, m, args, below, meth, c, t0, u0⟩ := x
  obtain ⟨hx, hb, C2⟩ := C
  exact fx_lift (fun H locs sl cells slots h3 kk => lv_ifnonnullN hx hb hd kk) k
theorem r_ifnull (C : fxC G d cc nL own nm ret hh x) {a : Nat} {off : Int} (hd : decode cc pc = .ok (.ifnull off, 3)) (k : fxR G nL x Q w (pc + 3) ls st) : fxR G nL x Q w pc ls (.ref a :: st) := by
  obtain ⟨p, e, R, s, m, args, below, meth, c, t0, u0⟩ := x
  obtain ⟨hx, hb, C2⟩ := C
  exact fx_lift (fun H locs sl cells slots h3 kk => lv_ifnull hx hb hd kk) k
theorem r_ifnullN (C : fxC G d cc nL own nm ret hh x) {off : Int} {tgt : Nat} (hd : decode cc pc = .ok (.ifnull off, 3)) (ht : (pc : Int) + off = (tgt : Int)) (k : fxR G nL x Q w tgt ls st) : fxR G nL x Q w pc ls (.null :: st) := by
  obtain ⟨p, e, R, s, m, args, below, meth, c, t0, u0⟩ := x
  obtain ⟨hx, hb, C2⟩ := C
  exact fx_lift (fun H locs sl cells slots h3 kk => lv_ifnullN hx hb hd ht kk) k
theorem r_tableOut (C : fxC G d cc nL own nm ret hh x) {dflt lo hi : Int} {offs : Array Int} {len : Nat} {a : Int32} {tgt : Nat} (hd : decode cc pc = .ok (.tableswitch dflt lo hi offs, len)) (h : a.toInt < lo ∨ hi < a.toInt) (ht : (pc : Int) + dflt = (tgt : Int)) (k : fxR G nL x Q w tgt ls st) : fxR G nL x Q w pc ls (.int a :: st) := by
  obtain ⟨p, e, R, s, m, args, below, meth, c, t0, u0⟩ := x
  obtain ⟨hx, hb, C2⟩ := C
  exact fx_lift (fun H locs sl cells slots h3 kk => lv_tableOut hx hb hd h ht kk) k
theorem r_tableIn (C : fxC G d cc nL own nm ret hh x) {dflt lo hi : Int} {offs : Array Int} {len : Nat} {a : Int32} {off : Int} {tgt : Nat} (hd : decode cc pc = .ok (.tableswitch dflt lo hi offs, len)) (h1 : ¬ a.toInt < lo) (h2 : ¬ hi < a.toInt) (ho : offs[(a.toInt - lo).toNat]? = some off) (ht : (pc : Int) + off = (tgt : Int)) (k : fxR G nL x Q w tgt ls st) : fxR G nL x Q w pc ls (.int a :: st) := by
  obtain ⟨p, e, R, s, m, args, below, meth, c, t0, u0⟩ := x
  obtain ⟨hx, hb, C2⟩ := C
  exact fx_lift (fun H locs sl cells slots h3 kk => lv_tableIn hx hb hd h1 h2 ho ht kk) k
theorem r_lookup (C : fxC G d cc nL own nm ret hh x) {dflt : Int} {ps : Array (Int × Int)} {len : Nat} {a : Int32} {off : Int} {tgt : Nat} (hd : decode cc pc = .ok (.lookupswitch dflt ps, len)) (hp : (ps.toList.zip (ps.toList.drop 1)).all (fun (a, next) => a.1 < next.1) = true) (ho : Op.lookupswitch.offset ps.toList dflt a.toInt = off) (ht : (pc : Int) + off = (tgt : Int)) (k : fxR G nL x Q w tgt ls st) : fxR G nL x Q w pc ls (.int a :: st) := by
  obtain ⟨p, e, R, s, m, args, below, meth, c, t0, u0⟩ := x
  obtain ⟨hx, hb, C2⟩ := C
  exact fx_lift (fun H locs sl cells slots h3 kk => lv_lookup hx hb hd hp ho ht kk) k
end FX

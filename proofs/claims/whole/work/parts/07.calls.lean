/-! CONTRACTS: entry, calls, throws -/
/-- the code word of a method: with no handlers, or with them -/
def fxcode (y : MethodName) (cc : ByteArray) (nL : Nat) (ret : Option FieldType) (hh : List (Nat × Nat × Nat × Nat)) : Cond := match hh with
  | [] => .code y cc nL ret
  | q :: r => .codeWith y cc nL ret (q :: r)
theorem fxcode_spec {y : MethodName} {cc : ByteArray} {nL : Nat} {ret : Option FieldType} {hh : List (Nat × Nat × Nat × Nat)} {args : Array Value} {s : State} {m : MethodId} (hn : s.methodNamed? y = some m) (h : (fxcode y cc nL ret hh).before args s = true) :
    ∃ meth c, s.vm.method? m = some meth ∧ meth.code = some c ∧ c.code = cc ∧ c.maxLocals = nL ∧ meth.sig.returnType = ret ∧ meth.locks = false ∧ c.exceptionTable.toList.map (fun x => (x.startPc, x.endPc, x.handlerPc, x.catchType)) = hh ∧ parseMethodDescriptor y.desc = some meth.sig := by
  cases hh with
  | nil =>
    obtain ⟨meth, c, h1, h2, h3, h4, h5, h6, h7, h8⟩ := Cond.code_spec hn h
    refine ⟨meth, c, h1, h2, h3, h4, h5, h6, ?_, h8⟩
    have h0 : c.exceptionTable.size = 0 := by simpa [Array.isEmpty] using h7
    have h1 : c.exceptionTable.toList = [] := List.eq_nil_of_length_eq_zero (by simpa using h0)
    rw [h1]; rfl
  | cons q r =>
    obtain ⟨m', meth, c, h0, h1, h2, h3, h4, h5, h6, h7, h8⟩ := Cond.codeWith_spec h
    cases hn.symm.trans h0
    exact ⟨meth, c, h1, h2, h3, h4, h6, h7, h5, h8⟩
theorem fxV.calling {G : fxG} {T : State} (h : fxV G T) (g : JFrame) (mk : MethodId) (a : Array Value) : fxV G (T.calling g mk a) := h.moved (u := T) (U := T.calling g mk a) (State.WarmedH.refl T)
theorem fxcode_named {y : MethodName} {cc : ByteArray} {nL : Nat} {ret : Option FieldType} {hh : List (Nat × Nat × Nat × Nat)} {args : Array Value} {s : State} (h : (fxcode y cc nL ret hh).before args s = true) : ∃ m, s.methodNamed? y = some m := by
  cases hh with
  | nil => exact Cond.code_named h
  | cons q r =>
    obtain ⟨m', meth, c, h0, -⟩ := Cond.codeWith_spec h
    exact ⟨m', h0⟩
/-- ENTRY: a contract out of the walk of the body -/
theorem fxM.of {G : fxG} {d : Nat} {y : MethodName} {as : List Value} {w : fxW} {P : Outcome → fxW → Prop} (cc : ByteArray) (nL : Nat) (ret : Option FieldType) (hh : List (Nat × Nat × Nat × Nat)) (hy : plainFor y = true) (hcw : fxcode y cc nL ret hh ∈ fxTW) (hnl : (lg_sl as).length ≤ nL)
    (body : ∀ x : fxX, fxC G d cc nL y.cls y.name ret hh x → fxt0 x = fxt w → fxu0 x = fxu w → fxR G nL x (fxQ G x P) w 0 (lv_args 0 as) []) : fxM G d y as w P := by
  refine MetFree.of_bodySF (code := cc) (maxLocals := nL) (ret := ret) hy ?_ ?_
  · intro args s m h hn
    obtain ⟨meth, c, h1, h2, h3, h4, h5, h6, -, -⟩ := fxcode_spec hn (atoms_spec (ws := fxTW) h _ hcw)
    exact ⟨meth, c, h1, h2, h3, h4, h5, h6⟩
  · intro p e s m args below meth c s₁ B hml hP _
    obtain ⟨rfl, hH, hV⟩ := hP
    have hts := atoms_spec (ws := fxTW) B.pre
    have hown : s.vm.findClass y.cls = some m.cls := findClass_of_methodNamed B.named
    have X := Stand.of_body B
    obtain ⟨meth', c', h1, h2, h3, h4, h5, h6, h7, h8⟩ := fxcode_spec B.named (hts _ hcw)
    cases B.method.symm.trans h1
    cases X.code.symm.trans h2
    have hh0 : s₁.heap = s.heap := by rw [B.state]; rfl
    have hl := lv_entry as (n := nL) hnl
    have k := body (p, e, fxRm G d w, s, m, as.toArray, below, meth, c, fxt w, fxu w) ⟨B.exec, B.bytes, hml, hown, hts, hV, B.returns, B.notSynchronized, (name_of_methodNamed B.named B.method).1, hH.1, by show fxt w + (fxmt G - fxt w) = fxmt G; have := hH.2.2.2.1; omega, by show fxu w + (fxmu G - fxu w) = fxmu G; have := hH.2.2.2.2.1; omega, Nat.le_refl _, Nat.le_refl _, hH.2.2.1, h7, B.admits⟩ rfl rfl
    obtain ⟨t, a1, o, b1, b2, b3⟩ := k s.heap [] _ 0 0 hH (fun _ h => by cases h) hl rfl rfl s₁ hh0 X
    rw [← lg_entry_eq] at a1
    exact ⟨t, o, a1, b1, b2, b3⟩
/-- A CALL COMES BACK, by the callee's contract: it has returned, or thrown -/
theorem fx_back {G : fxG} {p : Program} {e : Env} {R : Room} {s : State} {m : MethodId} {args : Array Value} {below : List Frame} {meth : Method} {c : Code} {T : State} {locs : List Loc} {cells slots : Nat} (X : Stand p (fxl G) e R s m args below meth c T locs cells slots)
    {d maxL : Nat} {y : MethodName} {as : List Value} {w : fxW} {P : Outcome → fxW → Prop} (hM : fxM G d y as w P) (hH : fxH G w T.heap) (hV : fxV G T) (hts : ∀ q ∈ fxTW, q.before args s = true) {mk : MethodId} (hn : T.methodNamed? y = some mk)
    (hcode : ∃ (methY : Method) (cY : Code), T.vm.method? mk = some methY ∧ methY.code = some cY ∧ cY.maxLocals = maxL) (hini : Cond.initialized y.cls ∈ fxTW) (hfr : d + 1 ≤ R.frames) (hlo : 8 + (maxL + 11) + (38 * d + 20) ≤ R.locals) (hc : cells + (fxmt G - fxt w) ≤ R.cells) (hs : slots + (fxmu G - fxu w) ≤ R.slots)
    {g : JFrame} (hg : g.method = m) (hsize : g.locals.size = c.maxLocals) (hW : 2 * g.monitorRoom + (g.stack.map fun v => v.category).sum ≤ 8) {ig : Instr} {len : Nat} (hdg : decode c.code g.pc = .ok (ig, len)) :
    ∃ (o : Outcome) (w' : fxW) (T' : State) (L : List Loc) (k n : Nat), P o w' ∧ fxH G w' T'.heap ∧ Stand p (fxl G) e R s m args below meth c T' (locs ++ L) (cells + k) (slots + n) ∧ (∀ q ∈ L, fxb G ≤ q.base) ∧ fxt w + k = fxt w' ∧ fxu w + n = fxu w' ∧
      (∀ v, o = .returned v → Steps p.tables e below (doInvoke e (T.setTop g) [] mk as.toArray).1 (T'.setTop { g with pc := g.pc + len, stack := v.toList ++ g.stack })) ∧
      (∀ a, o = .threw a → Steps p.tables e below (doInvoke e (T.setTop g) [] mk as.toArray).1 ((T'.setTop g).pushFrame (.throwing a))) := by
  obtain ⟨methY, cY, hmY, hcY, hlY⟩ := hcode
  obtain ⟨kY, hkY, -⟩ := className_of_methodNamed hn
  have hwords : ∀ q ∈ fxTW, q.before as.toArray T = true := fun q hq => fxTW_at hq X.warmed (hts q hq)
  have hinitY : kY.init = .initialized := Cond.initialized_spec (findClass_of_methodNamed hn) hkY (hwords _ hini)
  have h : At T g.method c below := by rw [hg]; exact X.here
  have happ : (headSpec fxTW (fxRm G d w)).appliesLoose y e.platform (T.calling g mk as.toArray) = true :=
    Spec.appliesLoose_calling (g := g) h hdg hn hkY hinitY (X.room_calling (g := g) (R' := fxRm G d w) hsize hmY hcY hfr (by rw [hlY]; show _ + _ + (maxL + 11) + (38 * d + 20) ≤ R.locals; omega) hc hs) (atoms_intro hwords)
  obtain ⟨mid, hmid⟩ := h.above
  have hfr' : (T.setTop g).frames = (.java g :: mid) ++ below := by rw [State.frames_setTop' g h.top, hmid]; rfl
  obtain ⟨o, s₂, hsteps, -, hend, hq⟩ := Steps.callFree hM p X.admits X.cas X.clock (acts := []) hfr' happ ⟨rfl, hH, hV.calling g mk as.toArray⟩ trivial
  rw [State.frames_setTop' g h.top] at hend
  obtain ⟨w', hP, ⟨hH', -⟩, L, k, n, hW₂, hsm, hL, hk, hn'⟩ := hq
  have hsm' : (T.calling g mk as.toArray).sameButNew ({ s₂ with vm := (T.calling g mk as.toArray).vm } : State) L k n := hsm
  obtain ⟨e2, q2, q3, q4, q5, q6⟩ := hsm'
  have e3 : s₂ = ({ (T.calling g mk as.toArray).setFrames s₂.frames with heap := s₂.heap, slotsUsed := s₂.slotsUsed } : State).setVm s₂.vm := by
    have e4 : s₂ = ({ s₂ with vm := (T.calling g mk as.toArray).vm } : State).setVm s₂.vm := rfl
    rw [e2] at e4
    exact e4
  have hW' : T.WarmedH s₂.vm := hW₂
  obtain ⟨g₀, hg0⟩ := Option.isSome_iff_exists.mp h.top
  obtain ⟨r, hr⟩ := State.topJava?_eq_some.mp hg0
  have hr' : (({ T with heap := s₂.heap, slotsUsed := s₂.slotsUsed } : State).setVm s₂.vm).frames = .java g₀ :: r := hr
  have hsame : T.sameButNew ({ T with heap := s₂.heap, slotsUsed := s₂.slotsUsed } : State) L k n := by
    refine ⟨?_, q2, q3, q4, q5, q6⟩
    obtain ⟨t, ht, -⟩ := State.frames_cons hr
    show ({ T with heap := s₂.heap, slotsUsed := s₂.slotsUsed } : State) = { T.setFrames T.frames with heap := s₂.heap, slotsUsed := s₂.slotsUsed }
    rw [State.setFrames_self ht]
  refine ⟨o, w', ({ T with heap := s₂.heap, slotsUsed := s₂.slotsUsed } : State).setVm s₂.vm, L, k, n, hP, hH', ⟨X.admits, X.cas, X.clock, X.frames, X.room, X.hears, X.method, X.code, (X.here.setHeapUsed s₂.heap s₂.slotsUsed).setVm hW'.alike, X.tail, State.WarmedH.trans X.warmed hW', X.limits, X.bytes, X.same.trans (hsame.setVm s.vm)⟩, hL, hk, hn', ?_, ?_⟩
  · intro v hv
    subst hv
    obtain ⟨c₂, i₂, len₂, hc₂, hd₂, hf₂⟩ := hend
    have hcc : c₂ = c := by
      have h1 : s₂.code? g.method = T.code? g.method := by
        rw [State.code?_eq, State.code?_eq, hW'.alike.method?]
      exact Option.some.inj (hc₂.symm.trans (h1.trans h.code))
    subst hcc
    have hlen : len₂ = len := by rw [hdg] at hd₂; cases hd₂; rfl
    subst hlen
    have hs₂ : s₂ = (({ T with heap := s₂.heap, slotsUsed := s₂.slotsUsed } : State).setVm s₂.vm).setTop { g with pc := g.pc + len₂, stack := v.toList ++ g.stack } := by
      refine e3.trans ?_
      rw [hf₂, State.calling_eq h.top, State.setFrames_setFrames, State.setTop_of_frames _ hr', hr]
      rfl
    rw [← hs₂]
    exact hsteps
  · intro a ha
    subst ha
    have hf₂ : s₂.frames = .throwing a :: .java g :: T.frames.tail := hend
    have hs₂ : s₂ = ((({ T with heap := s₂.heap, slotsUsed := s₂.slotsUsed } : State).setVm s₂.vm).setTop g).pushFrame (.throwing a) := by
      refine e3.trans ?_
      rw [hf₂, State.calling_eq h.top, State.setFrames_setFrames, State.pushFrame, State.frames_setTop _ hr', State.setTop_of_frames _ hr', State.setFrames_setFrames, hr]
      rfl
    rw [← hs₂]
    exact hsteps
/-- THE WALK WHILE a IS THROWN, over the frame at pc -/
def fxWt (G : fxG) (x : fxX) (H : Heap) (locs : List Loc) (cells slots : Nat) (Q : State → Prop) (pc : Nat) (sl : Array Slot) (st : List Value) (a : Nat) : Prop :=
  match x with
  | (p, e, R, s, m, args, below, meth, c, _, _) => ∀ T : State, T.heap = H → Stand p (fxl G) e R s m args below meth c T locs cells slots → ∃ t, Steps p.tables e below ((T.setTop (F0 m pc sl st)).pushFrame (.throwing a)) t ∧ Q t
def fxRt (G : fxG) (nL : Nat) (x : fxX) (Q : State → Prop) (w : fxW) (pc : Nat) (ls : List (Nat × Value)) (st : List Value) (a : Nat) : Prop :=
  ∀ (H : Heap) (locs : List Loc) (sl : Array Slot) (cells slots : Nat), fxH G w H → (∀ q ∈ locs, fxb G ≤ q.base) → lv_has sl nL ls → fxt0 x + cells = fxt w → fxu0 x + slots = fxu w → fxWt G x H locs cells slots Q pc sl st a
section FXC
variable {G : fxG} {d nL : Nat} {cc : ByteArray} {own nm : String} {ret : Option FieldType} {hh : List (Nat × Nat × Nat × Nat)} {x : fxX} {Q : State → Prop} {w : fxW} {pc : Nat} {ls : List (Nat × Value)} {st : List Value}
theorem r_athrow (C : fxC G d cc nL own nm ret hh x) {a : Nat} (hd : decode cc pc = .ok (.athrow, 1)) (k : fxRt G nL x Q w pc ls st a) : fxR G nL x Q w pc ls (.ref a :: st) := by
  obtain ⟨p, e, R, s, m, args, below, meth, c, t0, u0⟩ := x
  obtain ⟨hx, hb, C2⟩ := C
  intro H locs sl cells slots h1 h2 h3 h4 h5 T hT X
  obtain ⟨t, a1, b1⟩ := k H locs sl cells slots h1 h2 h3 h4 h5 T hT X
  refine ⟨t, ?_, b1⟩
  subst hb
  jvm_step X.here [hx, hd, Op.athrow.wp_sem]
  exact a1
/-- out of the method -/
theorem rt_out (C : fxC G d cc nL own nm ret hh x) {P : Outcome → fxW → Prop} {a : Nat} (hh0 : hh.all (fun q => !(decide (q.1 ≤ pc) && decide (pc < q.2.1))) = true) (k : P (.threw a) w) : fxRt G nL x (fxQ G x P) w pc ls st a := by
  obtain ⟨p, e, R, s, m, args, below, meth, c, t0, u0⟩ := x
  obtain ⟨hx, hb, hml, hown, hts, hV, hrt, hlk, hnmn, hsz, hRc, hRs, hfr, hlo, hbt, hex, hadm⟩ := C
  intro H locs sl cells slots h1 h2 h3 h4 h5 T hT X
  obtain ⟨a1, a2, a3, a4, a5⟩ := X.leaveThrown a (g := F0 m pc sl st) rfl rfl rfl (fun y hy => by
    have h9 := List.all_eq_true.mp hh0 (y.startPc, y.endPc, y.handlerPc, y.catchType) (by rw [← hex]; exact List.mem_map.mpr ⟨y, hy, rfl⟩)
    simp only [Bool.not_eq_true'] at h9
    exact h9) hlk
  exact ⟨_, a1, _, a2, a3, w, k, ⟨by show fxH G w T.heap; rw [hT]; exact h1, hV.moved a4⟩, locs, cells, slots, a4, a5, h2, h4, h5⟩
theorem fx_room {t0 u0 cells slots : Nat} {R : Room} (h1 : t0 + R.cells = fxmt G) (h2 : u0 + R.slots = fxmu G) (h3 : t0 + cells = fxt w) (h4 : u0 + slots = fxu w) (h5 : fxt w ≤ fxmt G) (h6 : fxu w ≤ fxmu G) : cells + (fxmt G - fxt w) ≤ R.cells ∧ slots + (fxmu G - fxu w) ≤ R.slots := by
  constructor <;> omega
/-- behind any invoke that has been linked -/
theorem fx_call {p : Program} {e : Env} {R : Room} {s : State} {m : MethodId} {args : Array Value} {below : List Frame} {meth : Method} {c : Code} {t0 u0 : Nat} (C : fxC G d cc nL own nm ret hh (p, e, R, s, m, args, below, meth, c, t0, u0)) {d' maxL : Nat} {y : MethodName} {as : List Value} {P : Outcome → fxW → Prop} (hM : fxM G d' y as w P) (hdd : d' < d) (hml0 : maxL ≤ 19) (hini : Cond.initialized y.cls ∈ fxTW) {ig : Instr} {len : Nat} (hd : decode cc pc = .ok (ig, len)) {rest : List Value} (hst : (rest.map fun v => v.category).sum ≤ 8)
    (k1 : ∀ v w', P (.returned v) w' → fxR G nL (p, e, R, s, m, args, below, meth, c, t0, u0) Q w' (pc + len) ls (v.toList ++ rest)) (k2 : ∀ a w', P (.threw a) w' → fxRt G nL (p, e, R, s, m, args, below, meth, c, t0, u0) Q w' pc ls rest a)
    {H : Heap} {locs : List Loc} {sl : Array Slot} {cells slots : Nat} (h1 : fxH G w H) (h2 : ∀ q ∈ locs, fxb G ≤ q.base) (h3 : lv_has sl nL ls) (h4 : t0 + cells = fxt w) (h5 : u0 + slots = fxu w) {T : State} (hT : T.heap = H) (X : Stand p (fxl G) e R s m args below meth c T locs cells slots) {mk : MethodId} (hn : s.methodNamed? y = some mk) (hcode : ∃ (methY : Method) (cY : Code), s.vm.method? mk = some methY ∧ methY.code = some cY ∧ cY.maxLocals = maxL) :
    ∃ t, Steps p.tables e below (doInvoke e (T.setTop (F0 m pc sl rest)) [] mk as.toArray).1 t ∧ Q t := by
  obtain ⟨hx, hb, hml, hown, hts, hV, hrt, hlk, hnmn, hsz, hRc, hRs, hfr, hlo, hbt, hex, hadm⟩ := C
  subst hb
  subst hT
  obtain ⟨r1, r2⟩ := fx_room hRc hRs h4 h5 h1.2.2.2.1 h1.2.2.2.2.1
  obtain ⟨methY, cY, hm1, hm2, hm3⟩ := hcode
  obtain ⟨o, w', T', L, k, n, hP, hH', X', hL, hk, hn', s1, s2⟩ := fx_back X hM h1 (hV.moved X.warmed) hts (X.named hn) ⟨methY, cY, by rw [X.warmed.alike.method?]; exact hm1, hm2, hm3⟩ hini (by omega) (by omega) r1 r2 (g := F0 m pc sl rest) rfl (by rw [hml]; exact h3.1) (by show 2 * 0 + (rest.map fun v => v.category).sum ≤ 8; omega) hd
  have hL' : ∀ q ∈ locs ++ L, fxb G ≤ q.base := fun q hq => by
    rcases List.mem_append.mp hq with h | h
    · exact h2 q h
    · exact hL q h
  cases o with
  | returned v =>
    obtain ⟨t, a1, b1⟩ := k1 v w' hP T'.heap (locs ++ L) sl (cells + k) (slots + n) hH' hL' h3 (by show t0 + (cells + k) = _; omega) (by show u0 + (slots + n) = _; omega) T' rfl X'
    exact ⟨t, (s1 v rfl).trans a1, b1⟩
  | threw a =>
    obtain ⟨t, a1, b1⟩ := k2 a w' hP T'.heap (locs ++ L) sl (cells + k) (slots + n) hH' hL' h3 (by show t0 + (cells + k) = _; omega) (by show u0 + (slots + n) = _; omega) T' rfl X'
    exact ⟨t, (s2 a rfl).trans a1, b1⟩

theorem r_callV (C : fxC G d cc nL own nm ret hh x) {y : MethodName} {ccy : ByteArray} {rety : Option FieldType} {hhy : List (Nat × Nat × Nat × Nat)} {T0 : u_T} {N0 idx b ci n0 d' maxL : Nat} {Cn : String} {As rest : List Value} {P : Outcome → fxW → Prop} (hd : decode cc pc = .ok (.invokevirtual idx, 3)) (hl : Cond.methodLink own idx y ∈ fxTW) (hin : Cond.instanceMethod y ∈ fxTW) (hse : Cond.selects Cn y y ∈ fxTW) (hcd : fxcode y ccy maxL rety hhy ∈ fxTW) (hini : Cond.initialized y.cls ∈ fxTW) (hy : y.cls ≠ "java/lang/invoke/MethodHandle" ∧ y.cls ≠ "java/lang/invoke/VarHandle") (hnp : (parseMethodDescriptor y.desc).map (fun q => q.parameters.length) = some As.length) (hml0 : maxL ≤ 19) (hci : ci < 100) (hc : fxCl[ci]? = some (Cn, T0, N0)) (hb9 : fxk w b = some (ci, n0)) (hM : fxM G d' y (.ref b :: As) w P) (hdd : d' < d) (hst : (rest.map fun v => v.category).sum ≤ 8) (hstk : st = As.reverse ++ .ref b :: rest) (k1 : ∀ v w', P (.returned v) w' → fxR G nL x Q w' (pc + 3) ls (v.toList ++ rest)) (k2 : ∀ a w', P (.threw a) w' → fxRt G nL x Q w' pc ls rest a) : fxR G nL x Q w pc ls st := by
  obtain ⟨p, e, R, s, m, args, below, meth, c, t0, u0⟩ := x
  have C' := C
  obtain ⟨hx, hb, hml, hown, hts, hV, C2⟩ := C
  subst hstk
  have hlen : ∀ sig, parseMethodDescriptor y.desc = some sig → As.length = sig.parameters.length := fun sig h => by
    rw [h] at hnp; exact (Option.some.inj hnp).symm
  intro H locs sl cells slots h1 h2 h3 h4 h5 T hT X
  obtain ⟨-, r, hr, cell, q1, q2, q3, q4⟩ := h1.obj hb9 hci
  cases hr.symm.trans hc
  have hcls : s.vm.findClass Cn = some cell.cls := by rw [q2]; exact (hV.1.1 ci _ hc).2.1
  obtain ⟨mk, methM, hnamed, hmethM, hstM, habM⟩ := Cond.instanceMethod_spec (hts _ hin)
  obtain ⟨methM', cM, hmethM', hcM, -, hmL, -, -, -, hsigM⟩ := fxcode_spec hnamed (hts _ hcd)
  cases hmethM.symm.trans hmethM'
  obtain ⟨c2, r2, m2, g1, g2, g3, g4, kP, hkP, hkPi⟩ := Cond.selects_spec (hts _ hse)
  cases hcls.symm.trans g1
  cases (State.methodFound?_of_named hnamed hy).symm.trans g2
  cases hnamed.symm.trans g3
  have hselP : selectMethod e.platform s.vm cell.cls mk = .method mk := by rw [Launch.admits_selectMethod X.admits]; exact g4
  obtain ⟨vm₁, X₁, hstep₁⟩ := X.invokevirtual hx hown (hts _ hl) hnamed hmethM hstM hkP hkPi hy (a := b) (cell := cell) (by rw [hT]; exact q1)
    (fun z h => by rw [q3] at h; cases h) hselP hmethM habM hkP hkPi (g := F0 m pc sl (As.reverse ++ .ref b :: rest)) rfl (argsL := As) (rest := rest) (hlen _ hsigM) rfl (by rw [hb]; exact hd)
  obtain ⟨t, a1, b1⟩ := fx_call C' hM hdd hml0 hini hd hst k1 k2 h1 h2 h3 h4 h5 (T := T.setVm vm₁) hT X₁ hnamed ⟨methM, cM, hmethM, hcM, hmL⟩
  exact ⟨t, hstep₁ _ fun acts => by rw [doInvoke_state]; exact a1, b1⟩
theorem r_callS (C : fxC G d cc nL own nm ret hh x) {y : MethodName} {ccy : ByteArray} {rety : Option FieldType} {hhy : List (Nat × Nat × Nat × Nat)} {idx d' maxL : Nat} {As rest : List Value} {P : Outcome → fxW → Prop} (hd : decode cc pc = .ok (.invokestatic idx, 3)) (hl : Cond.methodLink own idx y ∈ fxTW) (hst0 : Cond.static y ∈ fxTW) (hcd : fxcode y ccy maxL rety hhy ∈ fxTW) (hini : Cond.initialized y.cls ∈ fxTW) (hy : y.cls ≠ "java/lang/invoke/MethodHandle" ∧ y.cls ≠ "java/lang/invoke/VarHandle") (hnp : (parseMethodDescriptor y.desc).map (fun q => q.parameters.length) = some As.length) (hml0 : maxL ≤ 19) (hM : fxM G d' y As w P) (hdd : d' < d) (hst : (rest.map fun v => v.category).sum ≤ 8) (hstk : st = As.reverse ++ rest) (k1 : ∀ v w', P (.returned v) w' → fxR G nL x Q w' (pc + 3) ls (v.toList ++ rest)) (k2 : ∀ a w', P (.threw a) w' → fxRt G nL x Q w' pc ls rest a) : fxR G nL x Q w pc ls st := by
  obtain ⟨p, e, R, s, m, args, below, meth, c, t0, u0⟩ := x
  have C' := C
  obtain ⟨hx, hb, hml, hown, hts, hV, C2⟩ := C
  subst hstk
  have hlen : ∀ sig, parseMethodDescriptor y.desc = some sig → As.length = sig.parameters.length := fun sig h => by
    rw [h] at hnp; exact (Option.some.inj hnp).symm
  intro H locs sl cells slots h1 h2 h3 h4 h5 T hT X
  obtain ⟨mk, hnamed⟩ := fxcode_named (hts _ hcd)
  obtain ⟨methM, cM, hmethM, hcM, -, hmL, -, -, -, hsigM⟩ := fxcode_spec hnamed (hts _ hcd)
  have hstatic : methM.isStatic = true := Cond.static_spec hnamed hmethM (hts _ hst0)
  obtain ⟨kP, hkP, -⟩ := className_of_methodNamed hnamed
  have hinitP : kP.init = .initialized := Cond.initialized_spec (findClass_of_methodNamed hnamed) hkP (hts _ hini)
  obtain ⟨vm₁, X₁, hstep₁⟩ := X.invokestatic hx hown (hts _ hl) hnamed hmethM hstatic hkP hinitP hy (g := F0 m pc sl (As.reverse ++ rest)) rfl (argsL := As) (rest := rest) (hlen _ hsigM) rfl (by rw [hb]; exact hd)
  obtain ⟨t, a1, b1⟩ := fx_call C' hM hdd hml0 hini hd hst k1 k2 h1 h2 h3 h4 h5 (T := T.setVm vm₁) hT X₁ hnamed ⟨methM, cM, hmethM, hcM, hmL⟩
  exact ⟨t, hstep₁ _ fun acts => by rw [doInvoke_state]; exact a1, b1⟩
theorem r_callI (C : fxC G d cc nL own nm ret hh x) {y : MethodName} {ccy : ByteArray} {idx b d' maxL : Nat} {As rest : List Value} {P : Outcome → fxW → Prop} (hd : decode cc pc = .ok (.invokespecial idx, 3)) (hl : Cond.methodLink own idx y ∈ fxTW) (hy1 : y.name = "<init>") (hin : Cond.instanceMethod y ∈ fxTW) (hcd : Cond.code y ccy maxL none ∈ fxTW) (hini : Cond.initialized y.cls ∈ fxTW) (hy : y.cls ≠ "java/lang/invoke/MethodHandle" ∧ y.cls ≠ "java/lang/invoke/VarHandle") (hnp : (parseMethodDescriptor y.desc).map (fun q => q.parameters.length) = some As.length) (hml0 : maxL ≤ 19) (hM : fxM G d' y (.ref b :: As) w P) (hdd : d' < d) (hst : (rest.map fun v => v.category).sum ≤ 8) (hstk : st = As.reverse ++ .ref b :: rest) (k1 : ∀ v w', P (.returned v) w' → fxR G nL x Q w' (pc + 3) ls (v.toList ++ rest)) (k2 : ∀ a w', P (.threw a) w' → fxRt G nL x Q w' pc ls rest a) : fxR G nL x Q w pc ls st := by
  obtain ⟨p, e, R, s, m, args, below, meth, c, t0, u0⟩ := x
  have C' := C
  obtain ⟨hx, hb, hml, hown, hts, hV, C2⟩ := C
  subst hstk
  have hlen : ∀ sig, parseMethodDescriptor y.desc = some sig → As.length = sig.parameters.length := fun sig h => by
    rw [h] at hnp; exact (Option.some.inj hnp).symm
  intro H locs sl cells slots h1 h2 h3 h4 h5 T hT X
  have hpl : e.platform.magicAccessors = ({} : Platform).magicAccessors := by rw [X.admits.platform]
  obtain ⟨mk, methM, cM, kP, vm₁, hnamed, hmethM, hcodeM, -, hlocalsM, -, hkP, -, hW₁, hstep₁⟩ := Steps.initColdArgs (e := e) X.here hx X.warmed hpl hown hy1 hy (hts _ hl) (hts _ hin) (hts _ hcd) (f := F0 m pc sl (As.reverse ++ .ref b :: rest)) rfl hlen rfl (by rw [hb]; exact hd)
  have X₁ := X.noted hW₁
  obtain ⟨t, a1, b1⟩ := fx_call C' hM hdd hml0 hini hd hst k1 k2 h1 h2 h3 h4 h5 (T := T.setVm vm₁) hT X₁ hnamed ⟨methM, cM, hmethM, hcodeM, hlocalsM⟩
  exact ⟨t, hstep₁ _ fun acts => by rw [doInvoke_state]; exact a1, b1⟩
theorem r_callVN (C : fxC G d cc nL own nm ret hh x) {y : MethodName} {ccy : ByteArray} {rety : Option FieldType} {hhy : List (Nat × Nat × Nat × Nat)} {host : String} {T0 : u_T} {N0 idx b ci n0 d' maxL : Nat} {Cn : String} {As rest : List Value} {P : Outcome → fxW → Prop} (hd : decode cc pc = .ok (.invokevirtual idx, 3)) (hl : Cond.methodLinkNest own idx y host ∈ fxTW) (hin : Cond.instanceMethod y ∈ fxTW) (hse : Cond.selects Cn y y ∈ fxTW) (hcd : fxcode y ccy maxL rety hhy ∈ fxTW) (hini : Cond.initialized y.cls ∈ fxTW) (hy : y.cls ≠ "java/lang/invoke/MethodHandle" ∧ y.cls ≠ "java/lang/invoke/VarHandle") (hnp : (parseMethodDescriptor y.desc).map (fun q => q.parameters.length) = some As.length) (hml0 : maxL ≤ 19) (hci : ci < 100) (hc : fxCl[ci]? = some (Cn, T0, N0)) (hb9 : fxk w b = some (ci, n0)) (hM : fxM G d' y (.ref b :: As) w P) (hdd : d' < d) (hst : (rest.map fun v => v.category).sum ≤ 8) (hstk : st = As.reverse ++ .ref b :: rest) (k1 : ∀ v w', P (.returned v) w' → fxR G nL x Q w' (pc + 3) ls (v.toList ++ rest)) (k2 : ∀ a w', P (.threw a) w' → fxRt G nL x Q w' pc ls rest a) : fxR G nL x Q w pc ls st := by
  obtain ⟨p, e, R, s, m, args, below, meth, c, t0, u0⟩ := x
  have C' := C
  obtain ⟨hx, hb, hml, hown, hts, hV, C2⟩ := C
  subst hstk
  have hlen : ∀ sig, parseMethodDescriptor y.desc = some sig → As.length = sig.parameters.length := fun sig h => by
    rw [h] at hnp; exact (Option.some.inj hnp).symm
  intro H locs sl cells slots h1 h2 h3 h4 h5 T hT X
  obtain ⟨-, r, hr, cell, q1, q2, q3, q4⟩ := h1.obj hb9 hci
  cases hr.symm.trans hc
  have hcls : s.vm.findClass Cn = some cell.cls := by rw [q2]; exact (hV.1.1 ci _ hc).2.1
  obtain ⟨mk, methM, hnamed, hmethM, hstM, habM⟩ := Cond.instanceMethod_spec (hts _ hin)
  obtain ⟨methM', cM, hmethM', hcM, -, hmL, -, -, -, hsigM⟩ := fxcode_spec hnamed (hts _ hcd)
  cases hmethM.symm.trans hmethM'
  obtain ⟨c2, r2, m2, g1, g2, g3, g4, kP, hkP, hkPi⟩ := Cond.selects_spec (hts _ hse)
  cases hcls.symm.trans g1
  cases (State.methodFound?_of_named hnamed hy).symm.trans g2
  cases hnamed.symm.trans g3
  have hselP : selectMethod e.platform s.vm cell.cls mk = .method mk := by rw [Launch.admits_selectMethod X.admits]; exact g4
  obtain ⟨vm₁, X₁, hstep₁⟩ := X.invokevirtualNest hx hown (hts _ hl) hnamed hmethM hstM hkP hkPi hy (a := b) (cell := cell) (by rw [hT]; exact q1)
    (fun z h => by rw [q3] at h; cases h) hselP hmethM habM hkP hkPi (g := F0 m pc sl (As.reverse ++ .ref b :: rest)) rfl (argsL := As) (rest := rest) (hlen _ hsigM) rfl (by rw [hb]; exact hd)
  obtain ⟨t, a1, b1⟩ := fx_call C' hM hdd hml0 hini hd hst k1 k2 h1 h2 h3 h4 h5 (T := T.setVm vm₁) hT X₁ hnamed ⟨methM, cM, hmethM, hcM, hmL⟩
  exact ⟨t, hstep₁ _ fun acts => by rw [doInvoke_state]; exact a1, b1⟩
theorem r_callSN (C : fxC G d cc nL own nm ret hh x) {y : MethodName} {ccy : ByteArray} {rety : Option FieldType} {hhy : List (Nat × Nat × Nat × Nat)} {host : String} {idx d' maxL : Nat} {As rest : List Value} {P : Outcome → fxW → Prop} (hd : decode cc pc = .ok (.invokestatic idx, 3)) (hl : Cond.methodLinkNest own idx y host ∈ fxTW) (hst0 : Cond.static y ∈ fxTW) (hcd : fxcode y ccy maxL rety hhy ∈ fxTW) (hini : Cond.initialized y.cls ∈ fxTW) (hy : y.cls ≠ "java/lang/invoke/MethodHandle" ∧ y.cls ≠ "java/lang/invoke/VarHandle") (hnp : (parseMethodDescriptor y.desc).map (fun q => q.parameters.length) = some As.length) (hml0 : maxL ≤ 19) (hM : fxM G d' y As w P) (hdd : d' < d) (hst : (rest.map fun v => v.category).sum ≤ 8) (hstk : st = As.reverse ++ rest) (k1 : ∀ v w', P (.returned v) w' → fxR G nL x Q w' (pc + 3) ls (v.toList ++ rest)) (k2 : ∀ a w', P (.threw a) w' → fxRt G nL x Q w' pc ls rest a) : fxR G nL x Q w pc ls st := by
  obtain ⟨p, e, R, s, m, args, below, meth, c, t0, u0⟩ := x
  have C' := C
  obtain ⟨hx, hb, hml, hown, hts, hV, C2⟩ := C
  subst hstk
  have hlen : ∀ sig, parseMethodDescriptor y.desc = some sig → As.length = sig.parameters.length := fun sig h => by
    rw [h] at hnp; exact (Option.some.inj hnp).symm
  intro H locs sl cells slots h1 h2 h3 h4 h5 T hT X
  obtain ⟨mk, hnamed⟩ := fxcode_named (hts _ hcd)
  obtain ⟨methM, cM, hmethM, hcM, -, hmL, -, -, -, hsigM⟩ := fxcode_spec hnamed (hts _ hcd)
  have hstatic : methM.isStatic = true := Cond.static_spec hnamed hmethM (hts _ hst0)
  obtain ⟨kP, hkP, -⟩ := className_of_methodNamed hnamed
  have hinitP : kP.init = .initialized := Cond.initialized_spec (findClass_of_methodNamed hnamed) hkP (hts _ hini)
  obtain ⟨vm₁, X₁, hstep₁⟩ := X.invokestaticNest hx hown (hts _ hl) hnamed hmethM hstatic hkP hinitP hy (g := F0 m pc sl (As.reverse ++ rest)) rfl (argsL := As) (rest := rest) (hlen _ hsigM) rfl (by rw [hb]; exact hd)
  obtain ⟨t, a1, b1⟩ := fx_call C' hM hdd hml0 hini hd hst k1 k2 h1 h2 h3 h4 h5 (T := T.setVm vm₁) hT X₁ hnamed ⟨methM, cM, hmethM, hcM, hmL⟩
  exact ⟨t, hstep₁ _ fun acts => by rw [doInvoke_state]; exact a1, b1⟩
theorem r_callIN (C : fxC G d cc nL own nm ret hh x) {y : MethodName} {ccy : ByteArray} {host : String} {idx b d' maxL : Nat} {As rest : List Value} {P : Outcome → fxW → Prop} (hd : decode cc pc = .ok (.invokespecial idx, 3)) (hl : Cond.methodLinkNest own idx y host ∈ fxTW) (hy1 : y.name = "<init>") (hin : Cond.instanceMethod y ∈ fxTW) (hcd : Cond.code y ccy maxL none ∈ fxTW) (hini : Cond.initialized y.cls ∈ fxTW) (hy : y.cls ≠ "java/lang/invoke/MethodHandle" ∧ y.cls ≠ "java/lang/invoke/VarHandle") (hnp : (parseMethodDescriptor y.desc).map (fun q => q.parameters.length) = some As.length) (hml0 : maxL ≤ 19) (hM : fxM G d' y (.ref b :: As) w P) (hdd : d' < d) (hst : (rest.map fun v => v.category).sum ≤ 8) (hstk : st = As.reverse ++ .ref b :: rest) (k1 : ∀ v w', P (.returned v) w' → fxR G nL x Q w' (pc + 3) ls (v.toList ++ rest)) (k2 : ∀ a w', P (.threw a) w' → fxRt G nL x Q w' pc ls rest a) : fxR G nL x Q w pc ls st := by
  obtain ⟨p, e, R, s, m, args, below, meth, c, t0, u0⟩ := x
  have C' := C
  obtain ⟨hx, hb, hml, hown, hts, hV, C2⟩ := C
  subst hstk
  have hlen : ∀ sig, parseMethodDescriptor y.desc = some sig → As.length = sig.parameters.length := fun sig h => by
    rw [h] at hnp; exact (Option.some.inj hnp).symm
  intro H locs sl cells slots h1 h2 h3 h4 h5 T hT X
  have hpl : e.platform.magicAccessors = ({} : Platform).magicAccessors := by rw [X.admits.platform]
  obtain ⟨mk, methM, cM, kP, vm₁, hnamed, hmethM, hcodeM, -, hlocalsM, -, hkP, -, hW₁, hstep₁⟩ := Steps.initColdArgsNest (e := e) X.here hx X.warmed hpl hown hy1 hy (hts _ hl) (hts _ hin) (hts _ hcd) (f := F0 m pc sl (As.reverse ++ .ref b :: rest)) rfl hlen rfl (by rw [hb]; exact hd)
  have X₁ := X.noted hW₁
  obtain ⟨t, a1, b1⟩ := fx_call C' hM hdd hml0 hini hd hst k1 k2 h1 h2 h3 h4 h5 (T := T.setVm vm₁) hT X₁ hnamed ⟨methM, cM, hmethM, hcodeM, hlocalsM⟩
  exact ⟨t, hstep₁ _ fun acts => by rw [doInvoke_state]; exact a1, b1⟩
theorem r_objInit (C : fxC G d cc nL own nm ret hh x) {idx b : Nat} (hd : decode cc pc = .ok (.invokespecial idx, 3)) (hl : Cond.methodLink own idx Lib.objectInit ∈ fxTW) (hin : Cond.instanceMethod Lib.objectInit ∈ fxTW) (hcd : Cond.code Lib.objectInit ⟨#[0xb1]⟩ 1 none ∈ fxTW) (h1 : 1 ≤ d) (hst : (st.map fun v => v.category).sum ≤ 8) (k : fxR G nL x Q w (pc + 3) ls st) : fxR G nL x Q w pc ls (.ref b :: st) := by
  obtain ⟨p, e, R, s, m, args, below, meth, c, t0, u0⟩ := x
  obtain ⟨hx, hb, hml, hown, hts, hV, hrt, hlk, hnmn, hsz, hRc, hRs, hfr, hlo, C2⟩ := C
  intro H locs sl cells slots h1' h2 h3 h4 h5
  exact W.objInit hx hb hown (hts _ hl) (hts _ hin) (hts _ hcd) rfl (by rw [hml]; exact h3.1) rfl hd (by omega) (by show 2 * 0 + (st.map fun v => v.category).sum + 12 ≤ R.locals; omega) (k H locs sl cells slots h1' h2 h3 h4 h5)
theorem r_ldc2 (C : fxC G d cc nL own nm ret hh x) {idx : Nat} {v : Int64} (hd : decode cc pc = .ok (.ldc2_w idx, 3)) (hl : Cond.constantLong own idx v ∈ fxTW) (k : fxR G nL x Q w (pc + 3) ls (.long v :: st)) : fxR G nL x Q w pc ls st := by
  obtain ⟨p, e, R, s, m, args, below, meth, c, t0, u0⟩ := x
  obtain ⟨hx, hb, hml, hown, hts, C2⟩ := C
  intro H locs sl cells slots h1 h2 h3 h4 h5
  exact lv_ldc2 hx hb hown (hts _ hl) hd (k H locs sl cells slots h1 h2 h3 h4 h5)
theorem r_ldc (C : fxC G d cc nL own nm ret hh x) {idx : Nat} {v : Int32} (hd : decode cc pc = .ok (.ldc idx, 2)) (hl : Cond.constant own idx v ∈ fxTW) (k : fxR G nL x Q w (pc + 2) ls (.int v :: st)) : fxR G nL x Q w pc ls st := by
  obtain ⟨p, e, R, s, m, args, below, meth, c, t0, u0⟩ := x
  obtain ⟨hx, hb, hml, hown, hts, C2⟩ := C
  intro H locs sl cells slots h1 h2 h3 h4 h5
  exact lv_ldc hx hb hown (hts _ hl) hd (k H locs sl cells slots h1 h2 h3 h4 h5)
/-- a contract's end may be weakened -/
theorem fxM.mono {y : MethodName} {as : List Value} {P P' : Outcome → fxW → Prop} (h : fxM G d y as w P) (hp : ∀ o w', P o w' → P' o w') : fxM G d y as w P' := by
  intro p e ha hc hk s m args below hf happ hP hK
  obtain ⟨n, o, a1, a2, a3, w', b1, b2⟩ := h p e ha hc hk s m args below hf happ hP hK
  exact ⟨n, o, a1, a2, a3, w', hp _ _ b1, b2⟩
end FXC

/-! A HANDLER TAKES AN EXCEPTION -/
theorem map_split {α β : Type} (f : α → β) : ∀ (l : List α) (p : List β) (r : β) (s : List β), l.map f = p ++ r :: s → ∃ (p' : List α) (x : α) (s' : List α), l = p' ++ x :: s' ∧ p'.map f = p ∧ f x = r := by
  intro l
  induction l with
  | nil => intro p r s h; cases p <;> cases h
  | cons a l ih =>
    intro p r s h
    cases p with
    | nil =>
      have h1 : f a = r ∧ l.map f = s := by simpa using h
      exact ⟨[], a, l, rfl, rfl, h1.1⟩
    | cons b p =>
      have h1 : f a = b ∧ l.map f = p ++ r :: s := by simpa using h
      obtain ⟨p', x, s', e1, e2, e3⟩ := ih p r s h1.2
      exact ⟨a :: p', x, s', by rw [e1]; rfl, by rw [List.map_cons, e2, h1.1], e3⟩
/-- one row of a method's table, its class not yet looked up: it takes the object, or the search goes on; the tables have noted the class -/
theorem fx_row {Q : Handler → Pre} {E : CtlPost} {e : Env} {d : Bool} {acts : List Action} {s : State} {f : JFrame} {a : Addr} {y : ExceptionTableEntry} {t : List ExceptionTableEntry} {c : ClassId} {cell : Cell} (hcv : covers y f.pc = true) (h0 : y.catchType ≠ 0) (hl : s.vm.ClassLinks e.platform f.method.cls y.catchType c) (hcell : s.heap[a]? = some cell) (hobj : ∀ k, cell.vm ≠ .statics k) (hk : ∃ k, s.vm.classes[cell.cls]? = some k) (hc : ∃ k, s.vm.classes[c]? = some k) :
    wp (findHandler.go f a (y :: t)) Q E e d acts s ↔ (if s.vm.assignable cell.cls c = true then Q (.found y.handlerPc) d acts (s.setVm (s.vm.noted f.method.cls y.catchType (.cls c))) else wp (findHandler.go f a t) Q E e d acts (s.setVm (s.vm.noted f.method.cls y.catchType (.cls c)))) := by
  have hal : s.vm.Alike (s.vm.noted f.method.cls y.catchType (.cls c)) := (Vm.Alike.refl s.vm).noted _ _ _
  obtain ⟨k1, e1⟩ := hk
  obtain ⟨k2, e2⟩ := hc
  obtain ⟨k1', e1', -⟩ := hal.2.2 _ _ e1
  obtain ⟨k2', e2', -⟩ := hal.2.2 _ _ e2
  have g := (resolveClass_links e.toSetting hl).op (op := VmOp.resolveClass f.method.cls y.catchType) rfl
  have eas : (s.vm.noted f.method.cls y.catchType (.cls c)).assignable cell.cls c = s.vm.assignable cell.cls c := hal.assignable _ _
  rw [← eas]
  simp only [covers] at hcv
  cases q : (s.vm.noted f.method.cls y.catchType (.cls c)).assignable cell.cls c <;> simp [findHandler.go, hcv, h0, g.1, g.2, hcell, hobj, e1', e2', q, VmOp.dirties, VmOp.acts]
/-- the search through the table: rows whose class the object isn't of, then one whose class it is -/
theorem fx_seek {e : Env} {s0 : State} {f : JFrame} {a : Addr} {cell : Cell} (hobj : ∀ k, cell.vm ≠ .statics k) (hk0 : ∃ k, s0.vm.classes[cell.cls]? = some k) (y : ExceptionTableEntry) (rest : List ExceptionTableEntry) (hcv : covers y f.pc = true) (hy : y.catchType ≠ 0 ∧ ∃ c, s0.vm.ClassLinks e.platform f.method.cls y.catchType c ∧ s0.vm.assignable cell.cls c = true) :
    ∀ (pre : List ExceptionTableEntry) (S : State), (∀ z ∈ pre, covers z f.pc = true ∧ z.catchType ≠ 0 ∧ ∃ c, s0.vm.ClassLinks e.platform f.method.cls z.catchType c ∧ s0.vm.assignable cell.cls c = false) → s0.WarmedH S.vm → S.heap[a]? = some cell →
      ∃ vm', s0.WarmedH vm' ∧ ∀ (Q : Handler → Pre) (E : CtlPost) (d : Bool) (acts : List Action), wp (findHandler.go f a (pre ++ y :: rest)) Q E e d acts S ↔ Q (.found y.handlerPc) d acts (S.setVm vm') := by
  have one : ∀ (z : ExceptionTableEntry) (c : ClassId) (S : State), s0.vm.ClassLinks e.platform f.method.cls z.catchType c → s0.WarmedH S.vm → s0.WarmedH (S.vm.noted f.method.cls z.catchType (.cls c)) ∧ S.vm.ClassLinks e.platform f.method.cls z.catchType c ∧ (∃ k, S.vm.classes[cell.cls]? = some k) ∧ (∃ k, S.vm.classes[c]? = some k) ∧ S.vm.assignable cell.cls c = s0.vm.assignable cell.cls c := by
    intro z c S hl hW
    obtain ⟨k0, hk0⟩ := hk0
    obtain ⟨k0', hk0', -⟩ := hW.alike.2.2 _ _ hk0
    obtain ⟨dk, -, -, kt, h1, -, -, -, -, h2, -, h3⟩ := hl.here
    obtain ⟨kt', hkt', -⟩ := hW.alike.2.2 _ _ h2
    exact ⟨hW.noted h1 h3 (State.rightAt_cls hl), hW.classLinks hl, ⟨k0', hk0'⟩, ⟨kt', hkt'⟩, hW.alike.assignable _ _⟩
  intro pre
  induction pre with
  | nil =>
    intro S _ hW hcell
    obtain ⟨h0, c, hl, hfit⟩ := hy
    obtain ⟨w1, w2, w3, w4, w5⟩ := one y c S hl hW
    refine ⟨_, w1, fun Q E d acts => ?_⟩
    show wp (findHandler.go f a (y :: rest)) Q E e d acts S ↔ _
    rw [fx_row hcv h0 w2 hcell hobj w3 w4, if_pos (w5.trans hfit)]
  | cons z zs ih =>
    intro S hp hW hcell
    obtain ⟨hz, h0, c, hl, hno⟩ := hp z List.mem_cons_self
    obtain ⟨w1, w2, w3, w4, w5⟩ := one z c S hl hW
    obtain ⟨vm', v1, v2⟩ := ih (S.setVm (S.vm.noted f.method.cls z.catchType (.cls c))) (fun q hq => hp q (List.mem_cons_of_mem _ hq)) w1 hcell
    refine ⟨vm', v1, fun Q E d acts => ?_⟩
    show wp (findHandler.go f a (z :: (zs ++ y :: rest))) Q E e d acts S ↔ _
    rw [fx_row hz h0 w2 hcell hobj w3 w4, if_neg (by rw [w5, hno]; decide)]
    exact v2 Q E d acts
/-- into the handler -/
theorem fx_caught {tb : Tables} {e : Env} {s target : State} {g : JFrame} {c : Code} {below : List Frame} {a : Addr} (h : At s g.method c below) {pc : Nat} {vm' : Vm} (hf : ∀ (Q : Handler → Pre) (E : CtlPost) (d : Bool) (acts : List Action), wp (findHandler g a) Q E e d acts ((s.setTop g).pushFrame (.throwing a)) ↔ Q (.found pc) d acts (((s.setTop g).pushFrame (.throwing a)).setVm vm'))
    (hrest : Steps tb e below ((s.setVm vm').setTop { g with pc := pc, stack := [.ref a] }) target) : Steps tb e below ((s.setTop g).pushFrame (.throwing a)) target := by
  obtain ⟨h1, h2⟩ := h.throwing a
  have key : ∀ (S : State) (r : List Frame), (∀ (Q : Handler → Pre) (E : CtlPost) (d : Bool) (acts : List Action), wp (findHandler g a) Q E e d acts S ↔ Q (.found pc) d acts (S.setVm vm')) → (stepThrowing e S a (.java g :: r)).Is ((S.setVm vm').setFrames (.java { g with pc := pc, stack := [.ref a] } :: r)) [] := by
    intro S r hS
    simp only [stepThrowing, searchFrame, vmDo]
    generalize hr : Sem.go _ e false [] S = res
    obtain ⟨as, rfl, ha⟩ := Sem.eq_ok_of hr (a := Handler.found pc) (s' := S.setVm vm') (acts' := []) (by simp [hS _ _ _ _])
    exact ⟨rfl, ha⟩
  refine Steps.head h1 h2 ?_
  obtain ⟨g0, hg⟩ := Option.isSome_iff_exists.mp h.top
  obtain ⟨r, hr⟩ := State.topJava?_eq_some.mp hg
  rw [stepThread_throwing (frames_entered h.top _), (key _ _ hf).1]
  have e1 : (s.setVm vm').frames = .java g0 :: r := hr
  rw [State.setTop_of_frames _ e1] at hrest
  have sw : ∀ (u : State) (F K : List Frame), ((u.setFrames F).setVm vm').setFrames K = (u.setVm vm').setFrames K := fun u F K => State.setFrames_setFrames (u.setVm vm') F K
  rw [State.pushFrame, sw, State.setTop_of_frames _ hr, sw, hr]
  exact hrest
section FXK
variable {G : fxG} {d nL : Nat} {cc : ByteArray} {own nm : String} {ret : Option FieldType} {hh : List (Nat × Nat × Nat × Nat)} {x : fxX} {Q : State → Prop} {w : fxW} {pc : Nat} {ls : List (Nat × Value)} {st : List Value}
theorem rt_catch (C : fxC G d cc nL own nm ret hh x) {a ci N : Nat} {cX : String} {F : u_T} (pre : List (Nat × Nat × Nat × Nat)) (row : Nat × Nat × Nat × Nat) (rest : List (Nat × Nat × Nat × Nat)) (hsp : hh = pre ++ row :: rest) (ha : fxk w a = some (ci, 0)) (hci : ci < 100) (hc : fxCl[ci]? = some (cX, F, N))
    (hcov : row.1 ≤ pc ∧ pc < row.2.1) (h0 : row.2.2.2 ≠ 0) (hl : Cond.classLink own row.2.2.2 cX ∈ fxTW) (hself : Cond.castable cX cX ∈ fxTW) (hpass : ∀ q ∈ pre, (q.1 ≤ pc ∧ pc < q.2.1) ∧ q.2.2.2 ≠ 0 ∧ ∃ T, Cond.classLink own q.2.2.2 T ∈ fxTW ∧ (cX, T) ∈ fxNc)
    (k : fxR G nL x Q w row.2.2.1 ls [.ref a]) : fxRt G nL x Q w pc ls st a := by
  obtain ⟨p, e, R, s, m, args, below, meth, c, t0, u0⟩ := x
  obtain ⟨hx, hb, hml, hown, hts, hV, hrt, hlk, hnmn, hsz, hRc, hRs, hfr, hlo, hbt, hex, hadm⟩ := C
  intro H locs sl cells slots h1 h2 h3 h4 h5 T hT X
  obtain ⟨-, r, hr, cell, q1, q2, q3, q4⟩ := h1.obj ha hci
  cases hr.symm.trans hc
  obtain ⟨hS, hfc, kC, hkC, hkind⟩ := hV.1.1 ci _ hc
  have hpl : e.platform.magicAccessors = ({} : Platform).magicAccessors := by rw [X.admits.platform]
  obtain ⟨pre', y, rest', s1, s2, s3⟩ := map_split _ _ _ _ _ (hex.trans hsp)
  subst s3
  have hcl : s.vm.findClass cX = some cell.cls := by rw [q2]; exact hfc
  obtain ⟨c0, t1, f1, f2, f3⟩ := Cond.castable_spec (hts _ hself)
  cases f1.symm.trans hcl
  cases f2.symm.trans hcl
  obtain ⟨cy, hy1, hy2⟩ := Cond.classLink_spec hown (hts _ hl) e.platform hpl
  cases hy1.symm.trans hcl
  have hcv : ∀ z : ExceptionTableEntry, z.startPc ≤ pc ∧ pc < z.endPc → covers z pc = true := fun z hz => by
    show (decide (z.startPc ≤ pc) && decide (pc < z.endPc)) = true
    simp only [Bool.and_eq_true, decide_eq_true_eq]
    exact hz
  obtain ⟨vm', hW', hq⟩ := fx_seek (e := e) (s0 := s) (f := F0 m pc sl st) (a := a) (cell := cell) (fun k z => by rw [q3] at z; cases z) ⟨kC, by rw [q2]; exact hkC⟩ y rest' (hcv y hcov) ⟨h0, _, hy2, f3⟩ pre' ((T.setTop (F0 m pc sl st)).pushFrame (.throwing a)) (fun z hz => by
    have hz' : (z.startPc, z.endPc, z.handlerPc, z.catchType) ∈ pre := by rw [← s2]; exact List.mem_map.mpr ⟨z, hz, rfl⟩
    obtain ⟨gc, g0, Tn, g1, g2⟩ := hpass _ hz'
    obtain ⟨c', hc', hcl'⟩ := Cond.classLink_spec hown (hts _ g1) e.platform hpl
    obtain ⟨cc1, tt1, n1, n2, n3⟩ := hV.2.2.2.2.2.2.2.1 _ g2
    have e1 : cc1 = cell.cls := Option.some.inj (n1.symm.trans hcl)
    have e2 : tt1 = c' := Option.some.inj (n2.symm.trans hc')
    exact ⟨hcv z gc, g0, c', hcl', by rw [← e1, ← e2]; exact n3⟩) X.warmed (by show T.heap[a]? = some cell; rw [hT]; exact q1)
  obtain ⟨t, a1, b1⟩ := k H locs sl cells slots h1 h2 h3 h4 h5 (T.setVm vm') hT (X.noted hW')
  refine ⟨t, fx_caught (g := F0 m pc sl st) (pc := y.handlerPc) (vm' := vm') X.here (fun Q' E d acts => ?_) a1, b1⟩
  rw [W.findHandler_eq X.method' X.code, s1]
  exact hq Q' E d acts
end FXK
/-! THE LAW'S OWN ARRAY; THE REFERENCE BESIDE THE POOL -/
/-- the pool's frame, but for the law's own array o -/
def CFo (o c u : Nat) (w w' : fxW) : Prop := fxt w ≤ fxt w' ∧ fxt w' ≤ fxt w + c ∧ fxu w ≤ fxu w' ∧ fxu w' ≤ fxu w + u ∧ KM w w' ∧ ∀ a q, fxk w a = some q → Fg q → a ≠ o → (∀ g, fxf w' g a = fxf w g a) ∧ ∀ t j, fxe w' t a j = fxe w t a j
theorem CF.o {o c u : Nat} {w w' : fxW} (h : CF c u w w') : CFo o c u w w' := ⟨h.1, h.2.1, h.2.2.1, h.2.2.2.1, h.2.2.2.2.1, fun a q h1 h2 _ => h.2.2.2.2.2 a q h1 h2⟩
theorem CFo.ast {o c u : Nat} {w w' : fxW} (h : CFo o c u w w') (j : Nat) (v : Value) : CFo o c u w (fx_ast w' 0 o j v) :=
  ⟨h.1, h.2.1, h.2.2.1, h.2.2.2.1, h.2.2.2.2.1, fun a q h1 h2 h3 => ⟨(h.2.2.2.2.2 a q h1 h2 h3).1, fun t k => by rw [fxe_astN _ _ (Or.inr (Or.inl h3))]; exact (h.2.2.2.2.2 a q h1 h2 h3).2 t k⟩⟩
/-- what isn't of the rows may change -/
theorem Rc.els {G : fxG} {A : Ad} {S : Ms} {w w' : fxW} (h : Rc G A S w) (hk : ∀ a, fxk w' a = fxk w a) (hf : ∀ g a c, c < 6 → fxk w a = some (c, 0) → fxf w' g a = fxf w g a) (he : ∀ t a n j, t < 6 → (t = 0 → n = 24) → t ≠ 1 → fxk w a = some (100 + t, n) → fxe w' t a j = fxe w t a j) : Rc G A S w' := by
  obtain ⟨hP, hR, hJ, hT, hW, hL⟩ := h
  have k0 : KM w w' := fun a q hq => (hk a).trans hq
  have f0 : ∀ c, c < 6 → FS c w w' := fun c hc g a _ _ h => hf g a c hc h
  have e0 : ∀ t, t < 6 → t ≠ 0 → t ≠ 1 → ES t w w' := fun t h6 h0 h1 a n j h => he t a n j h6 (fun z => absurd z h0) h1 h
  refine ⟨hP.ext k0 (f0 0 (by decide)) (fun t ht => e0 t (by omega) (by omega) (by omega)) (fun c hc => rfl), ⟨fun a ha => ?_, hR.2⟩, hJ.ext k0 (f0 2 (by decide)) rfl (fun c hc => rfl) (fun _ _ _ => rfl), hT.ext k0 (f0 3 (by decide)) rfl (fun c hc => rfl) rfl rfl, hW.ext k0 (f0 4 (by decide)) rfl (fun c hc => rfl), hL.ext k0 (f0 5 (by decide)) (e0 2 (by decide) (by decide) (by decide)) rfl (fun i _ => rfl)⟩
  have R := hR.1 a ha
  exact R.pz (hk _) (hk _) (fun g => hf g _ 1 (by decide) R.1) (fun j => he 0 _ 24 j (by decide) (fun _ => rfl) (by decide) R.2.2.2.2.1)
theorem Rc.ast {G : fxG} {A : Ad} {S : Ms} {w : fxW} (h : Rc G A S w) {o : Nat} (ho : fxk w o = some (100, 1)) (j : Nat) (v : Value) : Rc G A S (fx_ast w 0 o j v) := by
  refine h.els (fun _ => rfl) (fun _ _ _ _ _ => rfl) (fun t a n k _ hn _ ha => fxe_astN _ _ ?_)
  by_cases c : t = 0
  · refine Or.inr (Or.inl fun z => ?_)
    subst c; subst z
    cases ho.symm.trans ha
    exact absurd (hn rfl) (by decide)
  · exact Or.inl c
def moI (i : Nat) : Nat := [2, 3, 4, 5, 6, 7, 8, 9, 10, 11, 12, 13, 15, 16, 17, 18, 19, 20, 21, 22, 24, 25, 26, 27, 28, 29].getD i 0
theorem mo_cover : ∀ i, i < 26 → moO (moI i) = i + 1 ∧ ((moK (moI i) = 1) ∨ (moK (moI i) = 2 ∧ moL (moI i) ≠ 24 ∧ moL (moI i) ≠ 1)) := by decide +kernel
theorem MoR.fg {S : Ms} {m : Nat} {w : fxW} (h : MoR S m w) {a : Nat} (h1 : m ≤ a) (h2 : a < m + 27) : ∃ q, fxk w a = some q ∧ Fg q ∧ q ≠ (100, 1) ∧ q.1 ≠ 201 := by
  by_cases c : a = m
  · subst c; exact ⟨_, h.1, Or.inl rfl, by decide, by decide⟩
  · obtain ⟨e1, e2⟩ := mo_cover (a - m - 1) (by omega)
    generalize moI (a - m - 1) = k at e1 e2
    have e : a = m + moO k := by omega
    rcases e2 with e2 | ⟨e2, e3, e4⟩
    · exact ⟨_, by rw [e]; exact h.kd k e2, Or.inr (Or.inl rfl), by simp, by show 101 ≠ 201; decide⟩
    · exact ⟨_, by rw [e]; exact h.kdL k e2, Or.inr (Or.inr (Or.inr ⟨rfl, e3⟩)), by simp; exact e4, by show 100 ≠ 201; decide⟩
/-- the reference works: the pool stays -/
theorem Rc.mof {G : fxG} {A : Ad} {S S0 : Ms} {m : Nat} {w w' : fxW} (h : Rc G A S w) (hm : MoR S0 m w) (hF : MoF m w w') : Rc G A S w' := by
  obtain ⟨f1, f2, f3, f4, f5⟩ := hF
  refine h.els f3 (fun g a c hc ha => f4 g a fun q => ?_) (fun t a n j h6 hn h1 ha => f5 t a j fun q => ?_)
  · obtain ⟨q', e1, e2, -⟩ := hm.fg q.1 q.2
    cases e1.symm.trans ha
    rcases e2 with z | z | z | z
    · exact absurd z (by show ¬ c = 6; omega)
    · exact absurd z (by show ¬ c = 101; omega)
    · exact absurd z (by show ¬ c = 201; omega)
    · exact absurd z.1 (by show ¬ c = 100; omega)
  · obtain ⟨q', e1, e2, -⟩ := hm.fg q.1 q.2
    cases e1.symm.trans ha
    rcases e2 with z | z | z | z
    · exact absurd z (by show ¬ 100 + t = 6; omega)
    · exact h1 (by have : 100 + t = 101 := z; omega)
    · exact absurd z (by show ¬ 100 + t = 201; omega)
    · have z1 : 100 + t = 100 := z.1
      exact z.2 (hn (by omega))
/-- the pool works: the reference stays -/
theorem MoR.cfo {S : Ms} {m o c u : Nat} {w w' : fxW} (h : MoR S m w) (hF : CFo o c u w w') (ho : fxk w o = some (100, 1)) : MoR S m w' := by
  have key : ∀ a, m ≤ a → a < m + 27 → fxk w' a = fxk w a ∧ (∀ g, fxf w' g a = fxf w g a) ∧ ∀ t j, fxe w' t a j = fxe w t a j := fun a h1 h2 => by
    obtain ⟨q, e1, e2, e3, -⟩ := h.fg h1 h2
    obtain ⟨g1, g2⟩ := hF.2.2.2.2.2 a q e1 e2 (fun z => by subst z; exact e3 (Option.some.inj (e1.symm.trans ho)))
    exact ⟨(hF.2.2.2.2.1 a q e1).trans e1.symm, g1, g2⟩
  have hp : ∀ k, moK k < 9 → moK k ≠ 0 → 1 ≤ moO k ∧ moO k ≤ 26 := fun k h1 h2 => by have := moO_pos h1 h2; omega
  refine ⟨(key m (by omega) (by omega)).1.trans h.1, fun k hk => ((key m (by omega) (by omega)).2.1 _).trans (h.2.1 k hk), fun k hk => ?_, fun k hk => ?_⟩
  · have := hp k (by omega) (by omega)
    obtain ⟨a1, a2, a3⟩ := h.2.2.1 k hk
    obtain ⟨b1, b2, b3⟩ := key (m + moO k) (by omega) (by omega)
    exact ⟨((key m (by omega) (by omega)).2.1 _).trans a1, b1.trans a2, fun j hj => (b3 _ _).trans (a3 j hj)⟩
  · have := hp k (by omega) (by omega)
    obtain ⟨a1, a2, a3⟩ := h.2.2.2 k hk
    obtain ⟨b1, b2, b3⟩ := key (m + moO k) (by omega) (by omega)
    exact ⟨((key m (by omega) (by omega)).2.1 _).trans a1, b1.trans a2, fun j hj => (b3 _ _).trans (a3 j hj)⟩
/-- how a helper of the law ends -/
def cH (G : fxG) (A : Ad) (S : Ms) (w : fxW) (o : Nat) (v : Int64) (S' : Ms) : Outcome → fxW → Prop := fun oc w' => oc = .returned (some (zi (S'.1 0 0))) ∧ (0 ≤ S'.1 0 0 ∧ S'.1 0 0 ≤ 3) ∧ ∃ A', Ax S A A' ∧ Rc G A' S' w' ∧ CFo o (4 * (Lam S - Lam S').toNat + 3) (1818 * (Lam S - Lam S').toNat + 919) w w' ∧ (S'.1 0 0 = 0 → fxe w' 0 o 0 = .long v)
theorem CFo.wk {o c u c' u' : Nat} {w w' : fxW} (h : CFo o c u w w') (h1 : c ≤ c') (h2 : u ≤ u') : CFo o c' u' w w' := ⟨h.1, by have := h.2.1; omega, h.2.2.1, by have := h.2.2.2.1; omega, h.2.2.2.2.1, h.2.2.2.2.2⟩
theorem cH.ok {G : fxG} {A A1 : Ad} {S S' : Ms} {w w1 : fxW} {o c u : Nat} {v : Int64} (g1 : Ax S A A1) (g2 : Rc G A1 S' w1) (g3 : CF c u w w1) (hc : c ≤ 4 * (Lam S - Lam S').toNat + 3) (hu : u ≤ 1818 * (Lam S - Lam S').toNat + 919) (g4 : S'.1 0 0 = 0) (ho : fxk w1 o = some (100, 1)) : cH G A S w o v S' (.returned (some (zi 0))) (fx_ast w1 0 o 0 (.long v)) :=
  ⟨by rw [g4], by omega, A1, g1, g2.ast ho 0 _, (g3.o.ast 0 _).wk hc hu, fun _ => fxe_ast _ _ _ _ _⟩
theorem cH.er {G : fxG} {A A1 : Ad} {S S' : Ms} {w w1 : fxW} {o c u : Nat} {v : Int64} (g1 : Ax S A A1) (g2 : Rc G A1 S' w1) (g3 : CF c u w w1) (hc : c ≤ 4 * (Lam S - Lam S').toNat + 3) (hu : u ≤ 1818 * (Lam S - Lam S').toNat + 919) {q : Int} (g4 : S'.1 0 0 = q) (hq : 0 < q ∧ q ≤ 3) : cH G A S w o v S' (.returned (some (zi q))) w1 :=
  ⟨by rw [g4], by omega, A1, g1, g2, g3.o.wk hc hu, fun z => by omega⟩

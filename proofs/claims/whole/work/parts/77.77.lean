/-! AN EXCEPTION IS MADE -/
def fx4 : List Cond := [.laysStatic Bundle.tN "UNASSIGNED_STACK" Bundle.steD, .laysStatic Bundle.tN "SUPPRESSED_SENTINEL" Bundle.listD, .isRef (.static Bundle.tN "UNASSIGNED_STACK" Bundle.steD), .isRef (.static Bundle.tN "SUPPRESSED_SENTINEL" Bundle.listD)]
/-- the words that the making of an exception of the kind X asks: X's constructor calls RuntimeException's by its constant ix -/
def fxAt (own : String) (ic : Nat) (X : String) (ix : Nat) (rx : ByteArray) : List Cond :=
  (Bundle.throwableAtoms ++ Bundle.throwableSAtoms) ++ ((Bundle.passSAtoms X "java/lang/RuntimeException" ix rx ++ Bundle.chainSAtoms "java/lang/RuntimeException" ["java/lang/Exception"]) ++
  [.methodLink own ic (Bundle.initS X), .instantiable X 6, .selects X Bundle.tFill0 Bundle.tFill0, .selects X Bundle.tFill Bundle.tFill, .lays X Bundle.tN "cause" "Ljava/lang/Throwable;", .lays X Bundle.tN "stackTrace" Bundle.steD, .lays X Bundle.tN "suppressedExceptions" Bundle.listD, .lays X Bundle.tN "detailMessage" "Ljava/lang/String;", .lays X Bundle.tN "backtrace" "Ljava/lang/Object;",
   .isRef (.static Bundle.tN "UNASSIGNED_STACK" Bundle.steD), .isRef (.static Bundle.tN "SUPPRESSED_SENTINEL" Bundle.listD), .fieldLink Bundle.tN 198 Bundle.tN "backtrace" "Ljava/lang/Object;", .lays Bundle.tN Bundle.tN "backtrace" "Ljava/lang/Object;"])
/-- the constructors, one calling the next: X, RuntimeException, Exception, Throwable -/
theorem fx_chain {args : Array Value} {s : State} {pl : Platform} (hpl : pl.magicAccessors = ({} : Platform).magicAccessors) {top : MethodId} (htop : s.methodNamed? (Bundle.initS Bundle.tN) = some top) {X : String} {ix : Nat} {rx : ByteArray} (x0 : decode rx 0 = .ok (.aload_n 0, 1)) (x1 : decode rx 1 = .ok (.aload_n 1, 1)) (x2 : decode rx 2 = .ok (.invokespecial ix, 3)) (x5 : decode rx 5 = .ok (.return_, 1)) (hX : Bundle.fit X = true)
    (h1 : ∀ y ∈ Bundle.passSAtoms X "java/lang/RuntimeException" ix rx, y.before args s = true) (h2 : ∀ y ∈ Bundle.chainSAtoms "java/lang/RuntimeException" ["java/lang/Exception"], y.before args s = true) :
    ∃ (P1 : PassC) (Ps : List PassC), Ps.length = 2 ∧ (∀ P, P ∈ P1 :: Ps → P.LinksS pl s) ∧ s.methodNamed? (Bundle.initS X) = some P1.m ∧ PassesOn top ((P1 :: Ps).map (·.toPassT)) := by
  obtain ⟨P, l1, m1, m2⟩ := PassC.ofS_atoms (args := args) (s := s) hpl (X := X) (Y := "java/lang/RuntimeException") (Bundle.fit_spec hX).1 (by decide) x0 x1 x2 x5 h1
  obtain ⟨P2, Ps, n1, l2, l3, m3, m4, m5⟩ := Bundle.chainS (args := args) hpl htop ["java/lang/Exception"] "java/lang/RuntimeException" (by decide +kernel) (by decide +kernel) h2
  have e : P.sup = P2.m := Option.some.inj (m2.symm.trans m3)
  refine ⟨P, P2 :: Ps, ?_, ?_, m1, ⟨e, m4, m5⟩⟩
  · rw [List.length_cons, n1]; rfl
  · intro Z hZ
    rcases List.mem_cons.mp hZ with z | z
    · rw [z]; exact l1
    · rcases List.mem_cons.mp z with z | z
      · rw [z]; exact l2
      · exact l3 Z z
theorem fxZ.lays {C n d : String} {b : Nat} {s : State} {Hb : Heap} {args : Array Value} (h : fxZ C n d b s Hb) (hs : ∀ q : Nat, q < b → s.heap[q]? = Hb[q]?) : (Cond.laysStatic C n d).before args s = true ∧ (Cond.isRef (.static C n d)).before args s = true ∧ ∃ (c : ClassId) (k : Class) (i : Nat) (f : Field) (a : Nat), s.fieldFound? C n d = some (c, k, i, f) ∧ k.statics = some a ∧ a < b := by
  obtain ⟨c, k, i, f, a, cell, v, h1, h2, h3, h4, h5, h6, h7, h8, h9, h10, h11, h12⟩ := h
  have h5' : s.heap[a]? = some cell := (hs a h12).trans h5
  refine ⟨Cond.laysStatic_of h1 h2 h3 h4 h5' h6 h7 h8 h9, ?_, c, k, i, f, a, h2, h4, h12⟩
  have : (Term.static C n d).eval args s none [] s = some v := by simp [Term.eval, State.fieldNamed?, h2, h3, h4, h5', h6, h10]
  show (Cond.isRef (.static C n d)).holds args s none s [] = true
  simp [Cond.holds, Cond.value, this]
  cases v <;> first | rfl | exact absurd h11 (by decide) | exact absurd h11 (by simp [Value.isRef])
section FXE
variable {G : fxG} {d nL : Nat} {cc : ByteArray} {own nm : String} {ret : Option FieldType} {hh : List (Nat × Nat × Nat × Nat)} {x : fxX} {Q : State → Prop} {w : fxW} {pc : Nat} {ls : List (Nat × Value)} {st : List Value}
/-- what lies below the pool's own cells is as it was -/
theorem fx_base {p : Program} {e : Env} {R : Room} {s : State} {m : MethodId} {args : Array Value} {below : List Frame} {meth : Method} {c : Code} {T : State} {locs : List Loc} {cells slots : Nat} (X : Stand p (fxl G) e R s m args below meth c T locs cells slots) (h2 : ∀ q ∈ locs, fxb G ≤ q.base) (hT : ∀ q : Nat, q < fxb G → T.heap[q]? = (fxHb G)[q]?) (hsz : fxb G ≤ s.heap.size) : ∀ q : Nat, q < fxb G → s.heap[q]? = (fxHb G)[q]? := by
  intro q hq
  have hlt : q < s.heap.size := by omega
  obtain ⟨c', a1, a2, a3, a4⟩ := X.same.2.2.2.2.2 q s.heap[q] (Array.getElem?_eq_getElem hlt)
  have a1' : T.heap[q]? = some c' := a1
  rw [← hT q hq, a1', Array.getElem?_eq_getElem hlt, a2]
  congr 1
  have : c'.slots = s.heap[q].slots := by
    apply Array.ext_getElem?
    intro i
    exact a4 i fun hm => by have := h2 _ hm; simp at this; omega
  rw [this]
set_option maxHeartbeats 1000000 in
theorem r_exc (C : fxC G d cc nL own nm ret hh x) {cX tx : String} {F : u_T} {ci idx si ic ix : Nat} {rx : ByteArray} {z : Nat → Value} (x0 : decode rx 0 = .ok (.aload_n 0, 1)) (x1 : decode rx 1 = .ok (.aload_n 1, 1)) (x2 : decode rx 2 = .ok (.invokespecial ix, 3)) (x5 : decode rx 5 = .ok (.return_, 1))
    (hd0 : decode cc pc = .ok (.new idx, 3)) (hd3 : decode cc (pc + 3) = .ok (.dup, 1)) (hd4 : decode cc (pc + 4) = .ok (.ldc si, 2)) (hd6 : decode cc (pc + 6) = .ok (.invokespecial ic, 3))
    (hc : fxCl[ci]? = some (cX, F, 0)) (hci : ci < 100) (hl : Cond.classLink own idx cX ∈ fxTW) (hi : Cond.instantiable cX 6 ∈ fxTW) (hini : Cond.initialized cX ∈ fxTW) (hat : ∀ a ∈ fxAt own ic cX ix rx, a ∈ fxTW ∨ a ∈ fx4) (hfit : Bundle.fit cX = true) (hstr : (own, si, tx) ∈ fxStr)
    (h6 : 6 ≤ d) (hst : (st.map fun v => v.category).sum ≤ 8) (h9 : fxt w + 1 ≤ fxmt G) (h8 : fxu w + 6 ≤ fxmu G) (k : fxR G nL x Q (fx_new w ci 6 z) (pc + 9) ls (.ref (fxt w) :: st)) : fxR G nL x Q w pc ls st := by
  obtain ⟨p, e, R, s, m, args, below, meth, c, t0, u0⟩ := x
  obtain ⟨hx, hb, hml, hown, hts, hV, hrt, hlk, hnmn, hsz, hRc, hRs, hfr, hlo, hbt, hex, hadm⟩ := C
  intro H locs sl cells slots h1 h2 h3 h4 h5
  have h4' : t0 + cells = fxt w := h4
  have h5' : u0 + slots = fxu w := h5
  have hKn := hV.1.1 ci _ hc
  refine W.newcK hx hb hown (hts _ hl) (hts _ hi) (hts _ hini) rfl hd0 (by omega) (by omega) hKn.2.1 h1.1 fun H1 kC hkC e1 z1 o1 => ?_
  refine lv_dup hx hb hd3 rfl ?_
  intro T hT X
  have hpl : e.platform.magicAccessors = ({} : Platform).magicAccessors := by rw [X.admits.platform]
  have howns : e.platform.frameOwnsMonitors = true := by rw [X.admits.platform]
  have hfin : e.platform.finalization = false := by rw [X.admits.platform]
  have htr : e.platform.stackTraces = false := Launch.traces_off hV.2.2.2.2.2.2.1 hadm
  have hbase : ∀ q : Nat, q < fxb G → s.heap[q]? = (fxHb G)[q]? := fx_base X h2 (fun q hq => by
    have := h1.2.2.1
    rw [hT, o1 q (by omega)]; exact h1.2.1 q hq) (by omega)
  obtain ⟨w1, w2, cU, kU, iU, fU, aU, w3, w4, w5⟩ := (hV.2.2.2.1).lays (args := args) hbase
  obtain ⟨v1, v2, -⟩ := (hV.2.2.2.2.1).lays (args := args) hbase
  have h : ∀ a ∈ fxAt own ic cX ix rx, a.before args s = true := by
    intro a ha
    rcases hat a ha with q | q
    · exact hts a q
    · simp only [fx4, List.mem_cons, List.not_mem_nil, or_false] at q
      rcases q with rfl | rfl | rfl | rfl
      · exact w1
      · exact v1
      · exact w2
      · exact v2
  obtain ⟨sa, hs1, hs2⟩ := hV.2.2.1 _ hstr
  have a' : ∀ y, y ∈ fxAt own ic cX ix rx → y.holds args s none s [] = true := fun y hy => h y hy
  obtain ⟨T0, Z0, L, -, Y⟩ := ThrowableC.of_atoms (args := args) howns hfin hpl (fun y hy => h y (by simp [fxAt, hy]))
  obtain ⟨Z, M, LZ, LM, hnZ⟩ := Init0T.ofS_atoms (args := args) hpl L Y (fun y hy => h y (by simp [fxAt, hy]))
  obtain ⟨P1, Ps, hlen, hL, hP1m, hlink⟩ := fx_chain (args := args) hpl hnZ x0 x1 x2 x5 hfit (fun y hy => h y (by simp [fxAt, hy])) (fun y hy => h y (by simp [fxAt, hy]))
  have hfound : s.vm.findClass cX = some P1.m.cls := findClass_of_methodNamed hP1m
  have ecC : (fxD G).1 ci = P1.m.cls := Option.some.inj (hKn.2.1.symm.trans hfound)
  rw [ecC] at e1 hkC
  obtain ⟨c1, kX', hc1, hk, hord, -, -, hn6⟩ := Cond.instantiable_spec (a' (.instantiable cX 6) (by simp [fxAt]))
  cases Option.some.inj (hc1.symm.trans hfound)
  cases Option.some.inj (hkC.symm.trans hk)
  have hsel0 : selectMethod e.platform s.vm P1.m.cls T0.fill0 = .method T0.fill0 := by
    obtain ⟨c2, r2, m2, q1, q2, q3, q4, -⟩ := Cond.selects_spec (a' (.selects cX Bundle.tFill0 Bundle.tFill0) (by simp [fxAt]))
    cases Option.some.inj (q1.symm.trans hfound)
    cases Option.some.inj (q2.symm.trans (State.methodFound?_of_named Y.fill0 (by decide)))
    cases Option.some.inj (q3.symm.trans Y.fill0)
    rw [Launch.admits_selectMethod X.admits]; exact q4
  have hselF : selectMethod e.platform s.vm P1.m.cls T0.fill = .method T0.fill := by
    obtain ⟨c2, r2, m2, q1, q2, q3, q4, -⟩ := Cond.selects_spec (a' (.selects cX Bundle.tFill Bundle.tFill) (by simp [fxAt]))
    cases Option.some.inj (q1.symm.trans hfound)
    cases Option.some.inj (q2.symm.trans (State.methodFound?_of_named Y.fill (by decide)))
    cases Option.some.inj (q3.symm.trans Y.fill)
    rw [Launch.admits_selectMethod X.admits]; exact q4
  obtain ⟨cellS0, hcS0, hiss⟩ := Y.statics
  obtain ⟨r0, hr0⟩ := Cond.staticRefV Y.unassigned L.unassignedStatic L.statics hcS0 hiss (a' (.isRef (.static Bundle.tN "UNASSIGNED_STACK" Bundle.steD)) (by simp [fxAt]))
  obtain ⟨sen, hsen⟩ := Cond.staticRefV Y.sentinel L.sentinelStatic L.statics hcS0 hiss (a' (.isRef (.static Bundle.tN "SUPPRESSED_SENTINEL" Bundle.listD)) (by simp [fxAt]))
  obtain ⟨ci198, i198, fB, hk198, hg198, ha198, hsB, -, hnB, htB, hffB⟩ := Cond.ownField (t := .object "java/lang/Object") Y.found L.cls (by decide +kernel) (a' (.fieldLink Bundle.tN 198 Bundle.tN "backtrace" "Ljava/lang/Object;") (by simp [fxAt])) (a' (.lays Bundle.tN Bundle.tN "backtrace" "Ljava/lang/Object;") (by simp [fxAt])) e.platform hpl
  have eaS : T0.aS = aU := by
    have q := Y.unassigned.symm.trans w3
    simp only [Option.some.injEq, Prod.mk.injEq] at q
    obtain ⟨-, q2, -⟩ := q
    have q3 := L.statics
    rw [q2, w4] at q3
    exact (Option.some.inj q3).symm
  have eaB : @LT.lt Nat _ T0.aS (fxb G) := by rw [eaS]; exact w5
  obtain ⟨cellS, hcS', heS, -, hkeep⟩ := X.same.2.2.2.2.2 T0.aS cellS0 hcS0
  have hcellS : T.heap[T0.aS]? = some cellS := hcS'
  have hout' : ∀ i, (⟨T0.aS, i⟩ : Loc) ∉ locs := fun i hmem => by
    have := h2 _ hmem
    simp at this
    omega
  have hknownS : cellS.vm ≠ .unknown := by
    rw [heS]; intro hu
    rw [show cellS0.vm = .unknown from hu] at hiss
    cases hiss
  have hneS : T0.aS ≠ fxt w := fun q => by
    have q2 := h1.2.2.1
    have q3 : @LT.lt Nat _ (fxt w) (fxb G) := q ▸ eaB
    omega
  obtain ⟨iM, hffM⟩ := Y.msg
  obtain ⟨tyC, dC, hdC, hdnC⟩ := Cond.laysAt hfound hk Y.cause (a' (.lays cX Bundle.tN "cause" "Ljava/lang/Throwable;") (by simp [fxAt]))
  obtain ⟨tyS, dS, hdS, hdnS⟩ := Cond.laysAt hfound hk Y.stack (a' (.lays cX Bundle.tN "stackTrace" Bundle.steD) (by simp [fxAt]))
  obtain ⟨tyP, dP, hdP, hdnP⟩ := Cond.laysAt hfound hk Y.supp (a' (.lays cX Bundle.tN "suppressedExceptions" Bundle.listD) (by simp [fxAt]))
  obtain ⟨tyM, dM, hdM, hdnM⟩ := Cond.laysAt hfound hk hffM (a' (.lays cX Bundle.tN "detailMessage" "Ljava/lang/String;") (by simp [fxAt]))
  obtain ⟨tyB, dB, hdB, hdnB⟩ := Cond.laysAt hfound hk hffB (a' (.lays cX Bundle.tN "backtrace" "Ljava/lang/Object;") (by simp [fxAt]))
  have bC := Cond.laysApart hdB hdC hdnB hdnC (by rw [hnB, Y.causeName]; decide)
  have bS := Cond.laysApart hdB hdS hdnB hdnS (by rw [hnB, Y.stackName]; decide)
  have bP := Cond.laysApart hdB hdP hdnB hdnP (by rw [hnB, Y.suppName]; decide)
  have hskip : SkipFacts T0 e.platform s (fun u => u) r0 ((preparedCellV T0.toThrowableT (freshCell P1.m.cls kC) (fxt w) r0 sen).withEntry T.cur) :=
    ⟨{ ci198 := ci198, i198 := i198, fBack := fB }, ⟨hk198, hg198, ha198, hsB⟩, by
      have := fresh_default (c := P1.m.cls) tyB
      rw [htB] at this
      simpa [preparedCellV, Cell.setSlot, Cell.withEntry, Array.getElem?_setIfInBounds, bC, bS, bP, bC.symm, bS.symm, bP.symm, defaultValue] using this, fun _ _ => rfl⟩
  obtain ⟨tm, methC, cdC, kC', vm₁, hnC, -, -, -, -, -, -, -, hW₁, st1⟩ := Steps.initColdS (tb := p.tables) (e := e) (below := below) (s := s) (U := T) X.here hx X.warmed hpl hown (t := Bundle.initS cX) rfl rfl (Bundle.fit_spec hfit).2
    (a' (.methodLink own ic (Bundle.initS cX)) (by simp [fxAt])) (h (.instanceMethod (Bundle.initS cX)) (by simp [fxAt, Bundle.passSAtoms])) (bytes := rx) (maxL := 2) (h (.code (Bundle.initS cX) rx 2 none) (by simp [fxAt, Bundle.passSAtoms]))
    (f := F0 m (pc + 6) sl (.ref sa :: .ref (fxt w) :: .ref (fxt w) :: st)) rfl (a := fxt w) (msg := .ref sa) (rest := .ref (fxt w) :: st) rfl (by rw [hb]; exact hd6)
  cases Option.some.inj (hnC.symm.trans hP1m)
  have X₁ := X.noted hW₁
  have e1' : T.heap[fxt w]? = some (freshCell P1.m.cls kC) := by rw [hT]; exact e1
  obtain ⟨vm₂, X₂, st2⟩ := X₁.ctorMessageOffV hx (g := F0 m (pc + 6) sl (.ref (fxt w) :: st)) rfl (by rw [hml]; exact h3.1) T0 L Z LZ M LM (P1 :: Ps)
    hL hlink (u0 := r0) (sen := sen) (self := fxt w) (msg := .ref sa) rfl (cell := freshCell P1.m.cls kC) (cellS := cellS)
    e1' (fun _ => by simp) (by simp) rfl rfl hsel0 hselF hcellS hneS hknownS (by rw [hkeep _ (hout' _)]; exact hr0) (by rw [hkeep _ (hout' _)]; exact hsen)
    (Takes.of_laid hk hord tyC (by rw [Y.causeType]; rfl)) (Takes.of_laid hk hord tyS (by rw [Y.stackType]; exact fits_refV_array _ r0)) (Takes.of_laid hk hord tyP (by rw [Y.suppType]; exact fits_refV_object _ sen))
    (Takes.of_laid hk hord tyM (by rw [Y.msgType]; exact fits_refV_object _ ⟨.ref sa, rfl⟩)) Y.objLocals hskip htr [] (by rw [hb]; exact hd6)
    (by simp only [List.length_cons, hlen]; show 2 + 1 + 2 < R.frames; omega) (by
      simp only [List.length_cons, hlen]
      show 2 * 0 + (1 + (st.map fun v => v.category).sum) + (13 * (2 + 1) + 42) ≤ R.locals
      omega)
  have hlt : fxt w < ((T.setVm vm₁).setVm vm₂).heap.size := (Array.getElem?_eq_some_iff.mp e1').1
  have hU := heapAt_setCell_self (s := (T.setVm vm₁).setVm vm₂) (plainBareV T0.toThrowableT (freshCell P1.m.cls kC) (fxt w) r0 sen (.ref sa)) hlt
  have hN := fun b (hb : fxt w ≠ b) => heapAt_setCell_ne (s := (T.setVm vm₁).setVm vm₂) (plainBareV T0.toThrowableT (freshCell P1.m.cls kC) (fxt w) r0 sen (.ref sa)) hb
  have hZs : (((T.setVm vm₁).setVm vm₂).setCell (fxt w) (plainBareV T0.toThrowableT (freshCell P1.m.cls kC) (fxt w) r0 sen (.ref sa))).heap.size = fxt w + 1 := by
    show (T.heap.setIfInBounds _ _).size = _
    rw [Array.size_setIfInBounds, hT]; exact z1
  obtain ⟨t, a1, b1⟩ := k _ _ sl (cells + 1) (slots + 6) (h1.new (z := z) (n := 6) hci hZs (fun q hq => by
      rw [hN q (by omega)]
      show T.heap[q]? = H[q]?
      rw [hT]; exact o1 q hq) h9 h8 ⟨_, hc, _, hU, ecC.symm, rfl, fun k hk => absurd hk (by show ¬ k < 0; omega)⟩) (fun q hq => by
      rcases List.mem_append.mp hq with q1 | q1
      · exact h2 q q1
      · have hb9 : q.base = fxt w := by
          simp only [List.mem_cons, List.not_mem_nil, or_false] at q1
          rcases q1 with rfl | rfl | rfl | rfl | rfl <;> rfl
        rw [hb9]; exact h1.2.2.1) h3 (by show t0 + (cells + 1) = fxt w + 1; omega) (by show u0 + (slots + 6) = fxu w + 6; omega) _ rfl X₂
  refine ⟨t, ?_, b1⟩
  refine X.ldcString hx (own := own) (index := si) (a := sa) hown hs1 hs2 (g := F0 m (pc + 4) sl (.ref (fxt w) :: .ref (fxt w) :: st)) rfl (by rw [hb]; exact hd4) t ?_
  refine st1 t (fun acts => ?_)
  rw [doInvoke_state]
  exact st2 t a1
end FXE
/-! the five of the pool -/
section FXE2
variable {G : fxG} {d nL : Nat} {cc : ByteArray} {nm : String} {ret : Option FieldType} {hh : List (Nat × Nat × Nat × Nat)} {x : fxX} {Q : State → Prop} {w : fxW} {pc : Nat} {ls : List (Nat × Value)} {st : List Value}
/-- the world behind an exception of the kind ci -/
def fx_ex (w : fxW) (ci : Nat) : fxW := fx_new w ci 6 (fun _ => .null)
def fx13 : ByteArray := ⟨#[0x2a, 0x2b, 0xb7, 0x00, 0x0d, 0xb1]⟩
theorem xa_7 : ∀ a ∈ fxAt "ForkPool" 52 "java/lang/IllegalArgumentException" 7 Bundle.six, a ∈ fxTW ∨ a ∈ fx4 := by decide +kernel
theorem x_7 (C : fxC G d cc nL "ForkPool" nm ret hh x) {si : Nat} {tx : String} (hstr : ("ForkPool", si, tx) ∈ fxStr) (hd0 : decode cc pc = .ok (.new 48, 3)) (hd3 : decode cc (pc + 3) = .ok (.dup, 1)) (hd4 : decode cc (pc + 4) = .ok (.ldc si, 2)) (hd6 : decode cc (pc + 6) = .ok (.invokespecial 52, 3)) (hd9 : decode cc (pc + 9) = .ok (.athrow, 1)) (h6 : 6 ≤ d) (hst : (st.map fun v => v.category).sum ≤ 8) (h9 : fxt w + 1 ≤ fxmt G) (h8 : fxu w + 6 ≤ fxmu G) (k : fxRt G nL x Q (fx_ex w 7) (pc + 9) ls st (fxt w)) : fxR G nL x Q w pc ls st :=
  r_exc (cX := REIA) (F := FEIA) (ci := 7) (ix := 7) (rx := Bundle.six) (z := fun _ => .null) C (by decide +kernel) (by decide +kernel) (by decide +kernel) (by decide +kernel) hd0 hd3 hd4 hd6 rfl (by decide) lc_FP_48 (by decide +kernel) (by decide +kernel) xa_7 (by decide +kernel) hstr h6 hst h9 h8 (r_athrow C hd9 k)
theorem xa_8 : ∀ a ∈ fxAt "ForkPool" 90 "java/lang/IllegalStateException" 7 Bundle.six, a ∈ fxTW ∨ a ∈ fx4 := by decide +kernel
theorem x_8 (C : fxC G d cc nL "ForkPool" nm ret hh x) {si : Nat} {tx : String} (hstr : ("ForkPool", si, tx) ∈ fxStr) (hd0 : decode cc pc = .ok (.new 86, 3)) (hd3 : decode cc (pc + 3) = .ok (.dup, 1)) (hd4 : decode cc (pc + 4) = .ok (.ldc si, 2)) (hd6 : decode cc (pc + 6) = .ok (.invokespecial 90, 3)) (hd9 : decode cc (pc + 9) = .ok (.athrow, 1)) (h6 : 6 ≤ d) (hst : (st.map fun v => v.category).sum ≤ 8) (h9 : fxt w + 1 ≤ fxmt G) (h8 : fxu w + 6 ≤ fxmu G) (k : fxRt G nL x Q (fx_ex w 8) (pc + 9) ls st (fxt w)) : fxR G nL x Q w pc ls st :=
  r_exc (cX := REIS) (F := FEIS) (ci := 8) (ix := 7) (rx := Bundle.six) (z := fun _ => .null) C (by decide +kernel) (by decide +kernel) (by decide +kernel) (by decide +kernel) hd0 hd3 hd4 hd6 rfl (by decide) lc_FP_86 (by decide +kernel) (by decide +kernel) xa_8 (by decide +kernel) hstr h6 hst h9 h8 (r_athrow C hd9 k)
theorem xa_9 : ∀ a ∈ fxAt "ForkPool" 172 "java/util/NoSuchElementException" 13 fx13, a ∈ fxTW ∨ a ∈ fx4 := by decide +kernel
theorem x_9 (C : fxC G d cc nL "ForkPool" nm ret hh x) {si : Nat} {tx : String} (hstr : ("ForkPool", si, tx) ∈ fxStr) (hd0 : decode cc pc = .ok (.new 168, 3)) (hd3 : decode cc (pc + 3) = .ok (.dup, 1)) (hd4 : decode cc (pc + 4) = .ok (.ldc si, 2)) (hd6 : decode cc (pc + 6) = .ok (.invokespecial 172, 3)) (hd9 : decode cc (pc + 9) = .ok (.athrow, 1)) (h6 : 6 ≤ d) (hst : (st.map fun v => v.category).sum ≤ 8) (h9 : fxt w + 1 ≤ fxmt G) (h8 : fxu w + 6 ≤ fxmu G) (k : fxRt G nL x Q (fx_ex w 9) (pc + 9) ls st (fxt w)) : fxR G nL x Q w pc ls st :=
  r_exc (cX := RENS) (F := FENS) (ci := 9) (ix := 13) (rx := fx13) (z := fun _ => .null) C (by decide +kernel) (by decide +kernel) (by decide +kernel) (by decide +kernel) hd0 hd3 hd4 hd6 rfl (by decide) lc_FP_168 (by decide +kernel) (by decide +kernel) xa_9 (by decide +kernel) hstr h6 hst h9 h8 (r_athrow C hd9 k)
theorem xa_10 : ∀ a ∈ fxAt "ForkPool" 127 "java/lang/ArithmeticException" 7 Bundle.six, a ∈ fxTW ∨ a ∈ fx4 := by decide +kernel
theorem x_10 (C : fxC G d cc nL "ForkPool" nm ret hh x) {si : Nat} {tx : String} (hstr : ("ForkPool", si, tx) ∈ fxStr) (hd0 : decode cc pc = .ok (.new 123, 3)) (hd3 : decode cc (pc + 3) = .ok (.dup, 1)) (hd4 : decode cc (pc + 4) = .ok (.ldc si, 2)) (hd6 : decode cc (pc + 6) = .ok (.invokespecial 127, 3)) (hd9 : decode cc (pc + 9) = .ok (.athrow, 1)) (h6 : 6 ≤ d) (hst : (st.map fun v => v.category).sum ≤ 8) (h9 : fxt w + 1 ≤ fxmt G) (h8 : fxu w + 6 ≤ fxmu G) (k : fxRt G nL x Q (fx_ex w 10) (pc + 9) ls st (fxt w)) : fxR G nL x Q w pc ls st :=
  r_exc (cX := REAr) (F := FEAr) (ci := 10) (ix := 7) (rx := Bundle.six) (z := fun _ => .null) C (by decide +kernel) (by decide +kernel) (by decide +kernel) (by decide +kernel) hd0 hd3 hd4 hd6 rfl (by decide) lc_FP_123 (by decide +kernel) (by decide +kernel) xa_10 (by decide +kernel) hstr h6 hst h9 h8 (r_athrow C hd9 k)
theorem xa_11 : ∀ a ∈ fxAt "ForkPool" 135 "java/lang/UnsupportedOperationException" 7 Bundle.six, a ∈ fxTW ∨ a ∈ fx4 := by decide +kernel
theorem x_11 (C : fxC G d cc nL "ForkPool" nm ret hh x) {si : Nat} {tx : String} (hstr : ("ForkPool", si, tx) ∈ fxStr) (hd0 : decode cc pc = .ok (.new 131, 3)) (hd3 : decode cc (pc + 3) = .ok (.dup, 1)) (hd4 : decode cc (pc + 4) = .ok (.ldc si, 2)) (hd6 : decode cc (pc + 6) = .ok (.invokespecial 135, 3)) (hd9 : decode cc (pc + 9) = .ok (.athrow, 1)) (h6 : 6 ≤ d) (hst : (st.map fun v => v.category).sum ≤ 8) (h9 : fxt w + 1 ≤ fxmt G) (h8 : fxu w + 6 ≤ fxmu G) (k : fxRt G nL x Q (fx_ex w 11) (pc + 9) ls st (fxt w)) : fxR G nL x Q w pc ls st :=
  r_exc (cX := REUn) (F := FEUn) (ci := 11) (ix := 7) (rx := Bundle.six) (z := fun _ => .null) C (by decide +kernel) (by decide +kernel) (by decide +kernel) (by decide +kernel) hd0 hd3 hd4 hd6 rfl (by decide) lc_FP_131 (by decide +kernel) (by decide +kernel) xa_11 (by decide +kernel) hstr h6 hst h9 h8 (r_athrow C hd9 k)
end FXE2

/-! THE START -/
theorem str_in : ∀ q ∈ fxStr, Cond.stringRef q.1 q.2.1 q.2.2 ∈ lw_tbl := by decide +kernel
theorem str_own : ∀ q ∈ fxStr, q.1 = "ForkPool" := by decide +kernel
theorem nc_in : ∀ q ∈ fxNc, Cond.not (.castable q.1 q.2) ∈ flatC (Jvm.Cond.and given_1 narrow_1) := by decide +kernel
theorem len0 {args : Array Value} {s : State} {t : Term} {a : Addr} {cell : Cell} (h : (Cond.eq (.length t) (.int 0)).before args s = true) (ht : t.eval args s none [] s = some (.ref a)) (hc : s.heap[a]? = some cell) : cell.slots.size = 0 := by
  have hv := va_eqt h
  obtain ⟨a', cell', h1, h2, h3⟩ := Term.length_spec hv
  cases ht.symm.trans h1
  obtain ⟨h4, -⟩ := State.arrayAt?_spec h2
  cases hc.symm.trans h4
  simp only [Term.eval, ht, Option.bind_eq_bind, Option.bind_some, h2] at hv
  split at hv
  · rename_i hlt
    have e : Int32.ofNat cell.slots.size = 0 := by
      have := Value.int.inj (Option.some.inj hv)
      exact this
    rw [z_nat] at e
    have := congrArg Int32.toInt e
    rw [zok_toInt (by unfold zok; omega)] at this
    have h0 : (0 : Int32).toInt = 0 := rfl
    omega
  · cases hv
theorem fxZ_of {args : Array Value} {s : State} {C n d : String} (hl : (Cond.laysStatic C n d).before args s = true) (hr : (Cond.isRef (.static C n d)).before args s = true) : fxZ C n d s.heap.size s s.heap := by
  obtain ⟨c, k, i, f, a, cell, h1, h2, h3, h4, h5, h6, h7, h8, h9⟩ := Cond.laysStatic_spec hl
  have hs : cell.slots[f.slot]? = some cell.slots[f.slot] := Array.getElem?_eq_getElem h8
  have hv : (Term.static C n d).eval args s none [] s = some cell.slots[f.slot] := by simp [Term.eval, State.fieldNamed?, h2, h3, h4, h5, h6, hs]
  refine ⟨c, k, i, f, a, cell, _, h1, h2, h3, h4, h5, h6, h7, h8, h9, hs, ?_, (Array.getElem?_eq_some_iff.mp h5).1⟩
  have hr' : (Cond.isRef (.static C n d)).holds args s none s [] = true := hr
  simp only [Cond.holds, Cond.value, hv] at hr'
  generalize cell.slots[f.slot] = v at hr'
  cases v <;> first | rfl | (simp at hr')
theorem fx_lawret {G : fxG} {p : Program} {e : Env} {s : State} {m : MethodId} {below : List Frame} {meth : Method} {c : Code} {b t0 : Nat} {w : fxW} {ls : List (Nat × Value)} (hx : p.tables.exec = Jvm.exec) (hb : c.code = code) (hr : meth.sig.returnType = ret) (hlocks : meth.locks = false) (hb0 : fxb G = s.heap.size) (h9 : fxmt G = t0 + room_1.cells) (h8 : fxmu G = room_1.slots) : fxR G 8 (p, e, room_1, s, m, #[Value.ref b], below, meth, c, t0, 0) (lw_Z below #[Value.ref b] s) w 1036 ls [zi 1] := by
  intro H locs sl cells slots h1 h2 h3 h4 h5 T hT X
  have q1 := h1.2.2.2.1
  have q2 := h1.2.2.2.2.1
  have h4' : t0 + cells = fxt w := h4
  have h5' : 0 + slots = fxu w := h5
  have X' : Stand p (fxl G) e room_1 s m #[Value.ref b] below meth c T [] room_1.cells room_1.slots := { X with same := X.same.weaken (fun y hy hlt => absurd hlt (Nat.not_lt.mpr (by rw [← hb0]; exact h2 y hy))) (by omega) (by omega) }
  exact lw_ret (l := fxl G) hx hb hr hlocks d_Lw_law_1036 T hT X'
set_option maxHeartbeats 4000000 in
/-- from the entry, for every script of at most 3073 ints, the law comes to its end with true -/
theorem whole_start {p : Program} {e : Env} {s : State} {m : MethodId} {below : List Frame} {meth : Method} {c : Code} (l : Launch) (hfl : l.flags = flags0) {b L : Nat} {xs : Nat → Int32} (hL : L ≤ 3073) (C0 : lw_At p s m meth c b L xs) : W p l e room_1 s m #[Value.ref b] below meth c s.heap [] 0 0 (lw_Z below #[Value.ref b] s) (entryFrame m ([Value.ref b] : List Value).toArray 8) := by
  obtain ⟨hx, hb, hr, hml, hown, hts, hX, hbl, hlocks, hgv⟩ := C0
  have hN := flat_of_before _ hgv
  have htw : ∀ w ∈ fxTW, w.before #[Value.ref b] s = true := fun w hw => hts w (List.mem_filter.mp hw).1
  -- the classes
  obtain ⟨c0, i0, n0⟩ := u_known (C := RFP) (T := FFP) (N := 7) (n := 7) htw inFP (htw (.instantiable RFP 7) (by decide +kernel))
  obtain ⟨c1, i1, n1⟩ := u_known (C := RRow) (T := FRow) (N := 3) (n := 3) htw inRow (htw (.instantiable RRow 3) (by decide +kernel))
  obtain ⟨c2, i2, n2⟩ := u_known (C := RJob) (T := FJob) (N := 10) (n := 10) htw inJob (htw (.instantiable RJob 10) (by decide +kernel))
  obtain ⟨c3, i3, n3⟩ := u_known (C := RTask) (T := FTask) (N := 9) (n := 9) htw inTask (htw (.instantiable RTask 9) (by decide +kernel))
  obtain ⟨c4, i4, n4⟩ := u_known (C := RWk) (T := FWk) (N := 5) (n := 5) htw inWk (htw (.instantiable RWk 5) (by decide +kernel))
  obtain ⟨c5, i5, n5⟩ := u_known (C := RAL) (T := FAL) (N := 3) (n := 3) htw inAL (htw (.instantiable RAL 3) (by decide +kernel))
  obtain ⟨c6, i6, n6⟩ := u_known (C := RMo) (T := FMo) (N := 33) (n := 33) htw inMo (htw (.instantiable RMo 33) (by decide +kernel))
  obtain ⟨c7, i7, n7⟩ := u_known (C := REIA) (T := FEIA) (N := 0) (n := 6) htw (fun w hw => by cases hw) (htw (.instantiable REIA 6) (by decide +kernel))
  obtain ⟨c8, i8, n8⟩ := u_known (C := REIS) (T := FEIS) (N := 0) (n := 6) htw (fun w hw => by cases hw) (htw (.instantiable REIS 6) (by decide +kernel))
  obtain ⟨c9, i9, n9⟩ := u_known (C := RENS) (T := FENS) (N := 0) (n := 6) htw (fun w hw => by cases hw) (htw (.instantiable RENS 6) (by decide +kernel))
  obtain ⟨c10, i10, n10⟩ := u_known (C := REAr) (T := FEAr) (N := 0) (n := 6) htw (fun w hw => by cases hw) (htw (.instantiable REAr 6) (by decide +kernel))
  obtain ⟨c11, i11, n11⟩ := u_known (C := REUn) (T := FEUn) (N := 0) (n := 6) htw (fun w hw => by cases hw) (htw (.instantiable REUn 6) (by decide +kernel))
  obtain ⟨dC, dI, hKc⟩ : ∃ (dC : Nat → ClassId) (dI : Nat → Nat → Nat), ∀ (k : Nat) (q : vw_C), fxCl[k]? = some q → u_Kn s q.1 q.2.1 q.2.2 (dC k) (dI k) := by
    refine ⟨fun k => [c0, c1, c2, c3, c4, c5, c6, c7, c8, c9, c10, c11].getD k c0, fun k => [i0, i1, i2, i3, i4, i5, i6, i7, i8, i9, i10, i11].getD k i0, ?_⟩
    intro k q hq
    match k, hq with
    | 0, hq => cases hq; exact n0
    | 1, hq => cases hq; exact n1
    | 2, hq => cases hq; exact n2
    | 3, hq => cases hq; exact n3
    | 4, hq => cases hq; exact n4
    | 5, hq => cases hq; exact n5
    | 6, hq => cases hq; exact n6
    | 7, hq => cases hq; exact n7
    | 8, hq => cases hq; exact n8
    | 9, hq => cases hq; exact n9
    | 10, hq => cases hq; exact n10
    | 11, hq => cases hq; exact n11
    | k + 12, hq => simp [fxCl] at hq
  -- the array types
  obtain ⟨a0, k0, m0, q01, q02, q03⟩ := Cond.arrayClass_spec (htw (.arrayClass .long) (by decide +kernel))
  obtain ⟨a1, k1, m1, q11, q12, q13⟩ := Cond.arrayClass_spec (htw (.arrayClass .int) (by decide +kernel))
  have ob : ∀ C, Cond.arrayOver (.object C) ∈ fxTW → ∃ cA, ArrOfT s cA (.object C) ∧ va_RA s cA (.object C) := fun C hC => by
    obtain ⟨comp, a2, k2, r1, -, r2, r3, r4⟩ := Cond.arrayOver_spec (htw _ hC)
    exact ⟨a2, fun n z => ⟨(fun k h => by cases h), k2, r2, comp, r3⟩, k2, comp, r2, r3, r1, r4⟩
  obtain ⟨a2, r2⟩ := ob "java/lang/Object" (by decide +kernel)
  obtain ⟨a3, r3⟩ := ob "ForkPool$Row" (by decide +kernel)
  obtain ⟨a4, r4⟩ := ob "ForkPool$Worker" (by decide +kernel)
  obtain ⟨a5, r5⟩ := ob "ForkPool$Job" (by decide +kernel)
  obtain ⟨dA, hA⟩ : ∃ dA : Nat → ClassId, ∀ (t : Nat) (ty : FieldType), fxAr[t]? = some ty → ArrOfT s (dA t) ty ∧ va_RA s (dA t) ty := by
    refine ⟨fun t => [a0, a1, a2, a3, a4, a5].getD t a0, ?_⟩
    intro t ty hty
    match t, hty with
    | 0, hty => cases hty; exact ⟨fun n z => ⟨(fun k h => by cases h), k0, q02, m0, q03⟩, q01⟩
    | 1, hty => cases hty; exact ⟨fun n z => ⟨(fun k h => by cases h), k1, q12, m1, q13⟩, q11⟩
    | 2, hty => cases hty; exact r2
    | 3, hty => cases hty; exact r3
    | 4, hty => cases hty; exact r4
    | 5, hty => cases hty; exact r5
    | t + 6, hty => simp [fxAr] at hty
  -- what was there
  obtain ⟨e0, cE, cellE, kE, v1, v2, v3, v4, v5, v6, -⟩ := Cond.exactly_spec (hN (Cond.exactly (.static "java/util/ArrayList" "DEFAULTCAPACITY_EMPTY_ELEMENTDATA" "[Ljava/lang/Object;") "[Ljava/lang/Object;") (by decide +kernel))
  obtain ⟨g1, g2⟩ := Cond.arrayOf_spec (hN (Cond.arrayOf (.static "java/util/ArrayList" "DEFAULTCAPACITY_EMPTY_ELEMENTDATA" "[Ljava/lang/Object;") (.object "java/lang/Object")) (by decide +kernel)) v1 v3
  have g3 : cellE.slots.size = 0 := len0 (hN (Cond.eq (.length (.static "java/util/ArrayList" "DEFAULTCAPACITY_EMPTY_ELEMENTDATA" "[Ljava/lang/Object;")) (.int 0)) (by decide +kernel)) v1 v3
  obtain ⟨mi, hmi⟩ := va_Mi.of (hN (Cond.isRef (.mirror "[Ljava/lang/Object;")) (by decide +kernel))
  obtain ⟨scr, x1, x2, x3, x4, x5⟩ := hX
  have e0lt : e0 < s.heap.size := (Array.getElem?_eq_some_iff.mp v3).1
  have hbe : b ≠ e0 := fun z => by
    subst z
    cases x1.symm.trans v3
    obtain ⟨-, ka, kb, comp, kc⟩ := x2
    obtain ⟨-, ka', kb', comp', kc'⟩ := g1
    cases kb.symm.trans kb'
    rw [kc] at kc'
    cases kc'
  obtain ⟨ad, ad0, ad1, ad2⟩ : ∃ ad : Nat → Nat, ad 0 = e0 ∧ ad 1 = mi ∧ ad 2 = b := ⟨fun k => if k = 0 then e0 else if k = 1 then mi else b, rfl, rfl, rfl⟩
  obtain ⟨G, eG⟩ : ∃ G : fxG, G = (l, (dC, dI), dA, s.heap.size, s.heap, s.heap.size + room_1.cells, room_1.slots, ad) := ⟨_, rfl⟩
  have Gl : fxl G = l := by rw [eG]; rfl
  have Gb : fxb G = s.heap.size := by rw [eG]; rfl
  have GH : fxHb G = s.heap := by rw [eG]; rfl
  have Gt : fxmt G = s.heap.size + room_1.cells := by rw [eG]; rfl
  have Gu : fxmu G = room_1.slots := by rw [eG]; rfl
  -- the room is measured by each TURN anew: only that it is enough is used of it
  have rC : 20000 ≤ room_1.cells := Nat.le_of_ble_eq_true rfl
  have rS : 4700000 ≤ room_1.slots := Nat.le_of_ble_eq_true rfl
  have Ga : fxad G = ad := by rw [eG]; rfl
  have GD : fxD G = (dC, dI) := by rw [eG]; rfl
  have GA : fxA G = dA := by rw [eG]; rfl
  have hK : va_K (fxD G) fxCl (fxT G) s := by
    refine ⟨by rw [GD]; exact hKc, fun k q hk => ?_⟩
    unfold fxT at hk
    rw [List.getElem?_map] at hk
    rcases Nat.lt_or_ge k fxAr.length with hlt | hge
    · rw [List.getElem?_range hlt] at hk
      cases hk
      have hty : fxAr[k]? = some (fxAr.getD k .int) := by rw [List.getD_eq_getElem?_getD, List.getElem?_eq_getElem hlt]; rfl
      rw [GA]
      exact hA k _ hty
    · rw [List.getElem?_eq_none (by simpa using hge)] at hk
      cases hk
  have hO : fxO (fxl G) (fxb G) (fxHb G) (fxad G) s := by
    rw [Gl, Gb, GH, Ga]
    refine ⟨?_, fun q hq => ?_, ?_, ?_, by rw [ad1]; exact hmi, hfl, fun q hq => ?_, fun q hq => ?_⟩
    · rw [ad0]
      exact va_Zof (hts (.laysStatic "java/util/ArrayList" "DEFAULTCAPACITY_EMPTY_ELEMENTDATA" "[Ljava/lang/Object;") (by decide +kernel)) (htw (.initialized "java/util/ArrayList") (by decide +kernel)) v1 (fun a ha hq => by omega)
    · have hw : Cond.stringRef q.1 q.2.1 q.2.2 ∈ lw_tbl := str_in q hq
      have h1 := hts _ hw
      have hcur : s.vm.findClass q.1 = some c0 := by rw [str_own q hq]; exact n0.2.1
      obtain ⟨k, cf, i, a, -, -, -, -, -, hev⟩ := Cond.stringRef_spec hcur h1
      exact ⟨a, vk_R.of h1 hev⟩
    · exact fxZ_of (hts (.laysStatic "java/lang/Throwable" "UNASSIGNED_STACK" "[Ljava/lang/StackTraceElement;") (by decide +kernel)) (hN (Cond.isRef (.static "java/lang/Throwable" "UNASSIGNED_STACK" "[Ljava/lang/StackTraceElement;")) (by decide +kernel))
    · exact fxZ_of (hts (.laysStatic "java/lang/Throwable" "SUPPRESSED_SENTINEL" "Ljava/util/List;") (by decide +kernel)) (hN (Cond.isRef (.static "java/lang/Throwable" "SUPPRESSED_SENTINEL" "Ljava/util/List;")) (by decide +kernel))
    · have hw : Cond.not (.castable q.1 q.2) ∈ flatC (Jvm.Cond.and given_1 narrow_1) := nc_in q hq
      exact va_Nc.of (hN _ hw)
    · simp only [fxBs, List.mem_cons, List.not_mem_nil, or_false] at hq
      rcases hq with rfl | rfl
      · exact ⟨cellE, by rw [ad0]; exact v3, g1, g2⟩
      · exact ⟨scr, by rw [ad2]; exact x1, x2, x3⟩
  have hV : fxV G s := ⟨hK, hO⟩
  -- the world
  obtain ⟨w, ew⟩ : ∃ w : fxW, w = (fun a => if a = b then some (201, L) else if a = e0 then some (202, 0) else none, fun _ _ => .null, fun _ a j => if a = b then zi ((xs j).toInt) else .null, s.heap.size, 0) := ⟨_, rfl⟩
  have wt : fxt w = s.heap.size := by rw [ew]; rfl
  have wu : fxu w = 0 := by rw [ew]; rfl
  have wb : fxk w b = some (201, L) := by rw [ew]; exact if_pos rfl
  have we : fxk w e0 = some (202, 0) := by rw [ew]; exact (if_neg (Ne.symm hbe)).trans (if_pos rfl)
  have wk : ∀ a q, fxk w a = some q → (a = b ∧ q = (201, L)) ∨ (a = e0 ∧ q = (202, 0)) := fun a q h => by
    rw [ew] at h
    have h' : (if a = b then some (201, L) else if a = e0 then some (202, 0) else none) = some q := h
    by_cases c1 : a = b
    · rw [if_pos c1] at h'; exact Or.inl ⟨c1, (Option.some.inj h').symm⟩
    · rw [if_neg c1] at h'
      by_cases c2 : a = e0
      · rw [if_pos c2] at h'; exact Or.inr ⟨c2, (Option.some.inj h').symm⟩
      · rw [if_neg c2] at h'; cases h'
  have wx : ∀ j, fxe w 1 b j = zi ((xs j).toInt) := fun j => by rw [ew]; exact if_pos rfl
  have hH : fxH G w s.heap := by
    refine ⟨by rw [wt], fun q hq => by rw [GH], by rw [Gb, wt]; exact Nat.le_refl _, by rw [wt, Gt]; omega, by rw [wu]; omega, fun a cc n hk => ?_⟩
    rcases wk a _ hk with ⟨ea, eq⟩ | ⟨ea, eq⟩
    · cases eq
      subst ea
      refine Or.inr ⟨1, .int, by decide, Or.inr ⟨rfl, by rw [Gb]; exact hbl, by rw [Ga]; unfold fxBs; rw [ad2]; simp⟩, rfl, Or.inr ⟨rfl, scr, x1, x4, fun j hj => ?_⟩⟩
      rw [x5 j hj]
      show some (Value.int (xs j)) = some (fxe w 1 _ j)
      rw [wx j]
      exact congrArg (fun z => some (Value.int z)) (zi_all (xs j))
    · cases eq
      subst ea
      exact Or.inr ⟨2, .object "java/lang/Object", by decide, Or.inr ⟨rfl, by rw [Gb]; exact e0lt, by rw [Ga]; unfold fxBs; rw [ad0]; simp⟩, rfl, Or.inr ⟨rfl, cellE, v3, g3, fun j hj => by omega⟩⟩
  intro T hT X
  have C : fxC G 16 cc_Lw_law 8 "ForkPoolLaw" meth.name ret (c.exceptionTable.toList.map (fun x => (x.startPc, x.endPc, x.handlerPc, x.catchType))) (p, e, room_1, s, m, #[Value.ref b], below, meth, c, s.heap.size, 0) :=
    ⟨hx, hb, hml, hown, htw, hV, hr, hlocks, rfl, rfl, by rw [Gt], by rw [Gu]; exact Nat.zero_add _, Nat.le_refl _, Nat.le_of_ble_eq_true rfl, by rw [Gb]; exact Nat.le_refl _, rfl, by rw [Gl]; exact X.admits⟩
  have all := law_all (Q := lw_Z below #[Value.ref b] s) C (b := b) (L := L) (ys := fun j => (xs j).toInt) (w := w) hL (fun j => zok_all _) wb (fun j _ => wx j) (by rw [Ga, ad0]; exact we) (by rw [wt, Gt]; omega) (by rw [wu, Gu]; omega) (fun w' ls => fx_lawret hx hb hr hlocks Gb Gt Gu)
  have hl := lv_entry ([.ref b]) (n := 8) (Nat.le_of_ble_eq_true rfl)
  rw [lg_entry_eq]
  have X' : Stand p (fxl G) e room_1 s m #[Value.ref b] below meth c T [] 0 0 := by rw [Gl]; exact X
  exact all s.heap [] _ 0 0 hH (fun _ h => by cases h) hl (by rw [wt]; rfl) (by rw [wu]; rfl) T hT X'

/-! ROWS FOR ArrayList: a stretch of an array, getClass, a mirror, a static, a cast -/
/-- all the elements of an array are put -/
def fx_sta (w : fxW) (t a : Nat) (g : Nat → Value) : fxW := (w.1, w.2.1, fun t' a' j' => if t' = t then (if a' = a then g j' else w.2.2.1 t' a' j') else w.2.2.1 t' a' j', w.2.2.2)
theorem fxH.sta {G : fxG} {w : fxW} {H H' : Heap} {a t n : Nat} {g : Nat → Value} (h : fxH G w H) (ht : t < 100) (hk : fxk w a = some (100 + t, n)) (hz : H'.size = H.size) (ho : ∀ q : Nat, q ≠ a → H'[q]? = H[q]?)
    (hn : H'[a]? = some (arrV (fxA G t) n g)) : fxH G (fx_sta w t a g) H' := by
  obtain ⟨hba, ty, hty, -⟩ := h.arr ht hk
  refine ⟨hz.trans h.1, fun q hq => (ho q (by omega)).trans (h.2.1 q hq), h.2.2.1, h.2.2.2.1, h.2.2.2.2.1, fun b c' n' hb => ?_⟩
  have hb' : fxk w b = some (c', n') := hb
  by_cases hab : b = a
  · subst hab
    cases hb'.symm.trans hk
    refine Or.inr ⟨t, ty, ht, Or.inl ⟨rfl, hba⟩, hty, Or.inl ⟨rfl, hn.trans ?_⟩⟩
    congr 2
    funext i
    show g i = (if t = t then (if b = b then g i else w.2.2.1 t b i) else w.2.2.1 t b i)
    simp
  · rcases h.2.2.2.2.2 b c' n' hb' with ⟨h1, h2, r', h3, h4⟩ | ⟨t', ty', h1, h2, h3, h4⟩
    · exact Or.inl ⟨h1, h2, r', h3, h4.kept (ho b hab)⟩
    · refine Or.inr ⟨t', ty', h1, h2, h3, h4.to (ho b hab) ?_⟩
      funext i
      show (if t' = t then (if b = a then g i else w.2.2.1 t' b i) else w.2.2.1 t' b i) = w.2.2.1 t' b i
      simp [hab]
section FXA
variable {G : fxG} {d nL : Nat} {cc : ByteArray} {own nm : String} {ret : Option FieldType} {hh : List (Nat × Nat × Nat × Nat)} {x : fxX} {Q : State → Prop} {w : fxW} {pc : Nat} {ls : List (Nat × Value)} {st : List Value}
theorem r_dup_x1 (C : fxC G d cc nL own nm ret hh x) {a b : Value} (hd : decode cc pc = .ok (.dup_x1, 1)) (ha : a.category = 1) (hb : b.category = 1) (k : fxR G nL x Q w (pc + 1) ls (a :: b :: a :: st)) : fxR G nL x Q w pc ls (a :: b :: st) := by
  obtain ⟨p, e, R, s, m, args, below, meth, c, t0, u0⟩ := x
  obtain ⟨hx, hb', C2⟩ := C
  exact fx_lift (fun H locs sl cells slots h3 kk => lv_dup_x1 hx hb' hd ha hb kk) k
theorem r_ishr1 (C : fxC G d cc nL own nm ret hh x) {n : Nat} (hd : decode cc pc = .ok (.ishr, 1)) (hn : n < 1000000) (k : fxR G nL x Q w (pc + 1) ls (zi ((n / 2 : Nat) : Int) :: st)) : fxR G nL x Q w pc ls (zi 1 :: zi (n : Int) :: st) := by
  obtain ⟨p, e, R, s, m, args, below, meth, c, t0, u0⟩ := x
  obtain ⟨hx, hb', C2⟩ := C
  refine fx_lift (fun H locs sl cells slots h3 kk => lv_ishr hx hb' hd ?_) k
  have e : Int32.ofInt (n : Int) >>> (Int32.ofInt 1 &&& 31) = Int32.ofInt ((n / 2 : Nat) : Int) := by
    have k := pk_shrN (n := n) (by omega) (Int32.ofInt 1 &&& 31) 1 (by decide)
    rw [Nat.pow_one] at k
    rw [← z_nat, ← z_nat]
    exact k
  rw [e]; exact kk
theorem r_castT (C : fxC G d cc nL own nm ret hh x) {a idx : Nat} (hd : decode cc pc = .ok (.checkcast idx, 3)) (hl : Cond.classLink own idx "ForkPool$Task" ∈ fxTW) (ha : fxk w a = some (3, 0)) (k : fxR G nL x Q w (pc + 3) ls (.ref a :: st)) : fxR G nL x Q w pc ls (.ref a :: st) := by
  obtain ⟨p, e, R, s, m, args, below, meth, c, t0, u0⟩ := x
  obtain ⟨hx, hb, hml, hown, hts, hV, C2⟩ := C
  intro H locs sl cells slots h1 h2 h3 h4 h5
  obtain ⟨-, r, hr, cell, q1, q2, q3, q4⟩ := h1.obj ha (by decide)
  obtain ⟨hS, hfc, kC, hkC, hkind⟩ := hV.1.1 3 r hr
  have hr2 : fxCl[3]? = some (RTask, FTask, 9) := rfl
  cases hr.symm.trans hr2
  obtain ⟨c0, t1, f1, f2, f3⟩ := Cond.castable_spec (hts (Cond.castable "ForkPool$Task" "ForkPool$Task") (fxTW_in 1007 (by decide +kernel) rfl))
  have e1 : c0 = cell.cls := by
    have := f1.symm.trans hfc
    rw [q2]; exact Option.some.inj this
  subst e1
  intro T hT X
  obtain ⟨vm', X', stp⟩ := X.checkcastYes hx hown (hts _ hl) (by rw [hT]; exact q1) (by rw [q3]; rfl) f2 f3 (g := F0 m pc sl (.ref a :: st)) rfl rfl (by rw [hb]; exact hd)
  obtain ⟨t, a1, b1⟩ := k H locs sl cells slots h1 h2 h3 h4 h5 (T.setVm vm') hT X'
  exact ⟨t, stp t a1, b1⟩
theorem r_getsE (C : fxC G d cc nL "java/util/ArrayList" nm ret hh x) (hd : decode cc pc = .ok (.getstatic 39, 3)) (k : fxR G nL x Q w (pc + 3) ls (.ref (fxad G 0) :: st)) : fxR G nL x Q w pc ls st := by
  obtain ⟨p, e, R, s, m, args, below, meth, c, t0, u0⟩ := x
  obtain ⟨hx, hb, hml, hown, hts, hV, C2⟩ := C
  intro H locs sl cells slots h1 h2 h3 h4 h5
  obtain ⟨cf, kf, fi, f, a, cell, z1, z2, z3, z4, z5, z6, z7, z8⟩ := hV.2.1
  exact W.gets hx hb hown (hts (Cond.fieldLink "java/util/ArrayList" 39 "java/util/ArrayList" "DEFAULTCAPACITY_EMPTY_ELEMENTDATA" "[Ljava/lang/Object;") (fxTW_in 115 (by decide +kernel) rfl)) z1 z2 z3 z4 (by rw [h1.2.1 a (by omega)]; exact z5) (fun q => by rw [q] at z6; cases z6) z7 rfl hd (k H locs sl cells slots h1 h2 h3 h4 h5)
theorem r_ldcM (C : fxC G d cc nL "java/util/Arrays" nm ret hh x) (hd : decode cc pc = .ok (.ldc 110, 2)) (k : fxR G nL x Q w (pc + 2) ls (.ref (fxad G 1) :: st)) : fxR G nL x Q w pc ls st := by
  obtain ⟨p, e, R, s, m, args, below, meth, c, t0, u0⟩ := x
  obtain ⟨hx, hb, hml, hown, hts, hV, C2⟩ := C
  intro H locs sl cells slots h1 h2 h3 h4 h5
  exact va_ldcM hx hb hown (hts (Cond.classLink "java/util/Arrays" 110 "[Ljava/lang/Object;") (fxTW_in 483 (by decide +kernel) rfl)) hV.2.2.2.2.2.1 hd (k H locs sl cells slots h1 h2 h3 h4 h5)
theorem r_getC (C : fxC G d cc nL "java/util/Arrays" nm ret hh x) {a n : Nat} (hd : decode cc pc = .ok (.invokevirtual 86, 3)) (ha : fxk w a = some (102, n)) (h1d : 1 ≤ d) (hst : (st.map fun v => v.category).sum ≤ 8) (k : fxR G nL x Q w (pc + 3) ls (.ref (fxad G 1) :: st)) : fxR G nL x Q w pc ls (.ref a :: st) := by
  obtain ⟨p, e, R, s, m, args, below, meth, c, t0, u0⟩ := x
  obtain ⟨hx, hb, hml, hown, hts, hV, hrt, hlk, hnmn, hsz, hRc, hRs, hfr, hlo, C2⟩ := C
  intro H locs sl cells slots h1 h2 h3 h4 h5
  obtain ⟨hba, ty', hty', q1⟩ := h1.arr (t := 2) (by decide) ha
  have hty : fxAr[2]? = some (.object "java/lang/Object") := rfl
  cases hty'.symm.trans hty
  refine va_getC (C := "[Ljava/lang/Object;") hx hb (by rw [hml]; exact h3.1.symm) hown (hts _ (fxTW_in 464 (by decide +kernel) rfl)) (hts _ (fxTW_in 1010 (by decide +kernel) rfl)) (hts _ (fxTW_in 1009 (by decide +kernel) rfl)) (hts _ (fxTW_in 465 (by decide +kernel) rfl)) (hts _ (fxTW_in 479 (by decide +kernel) rfl)) hV.2.2.2.2.2.1 ⟨_, q1, rfl, va_nmO (hV.1.2 2 _ (fxT_at hty)).2 rfl⟩ (by omega) (by omega) hd (k H locs sl cells slots h1 h2 h3 h4 h5)
theorem r_copy (C : fxC G d cc nL own nm ret hh x) {idx a0 a n0 n1 sp dp n : Nat} (hd : decode cc pc = .ok (.invokestatic idx, 3)) (hl : Cond.methodLink own idx arraycopyName ∈ fxTW) (ha0 : fxk w a0 = some (102, n0)) (ha1 : fxk w a = some (102, n1)) (g1 : sp + n ≤ n0) (g2 : dp + n ≤ n1) (g3 : n0 < 1000000) (g4 : n1 < 1000000)
    (hel : ∀ i, i < n → fxe w 2 a0 (sp + i) = .null ∨ ∃ y, fxe w 2 a0 (sp + i) = .ref y ∧ fxk w y = some (3, 0)) (h1d : 1 ≤ d) (hst : (st.map fun v => v.category).sum ≤ 8)
    (k : fxR G nL x Q (fx_sta w 2 a (va_cpy (fun j => fxe w 2 a0 j) (fun j => fxe w 2 a j) sp dp n)) (pc + 3) ls st) : fxR G nL x Q w pc ls (zi (n : Int) :: zi (dp : Int) :: .ref a :: zi (sp : Int) :: .ref a0 :: st) := by
  obtain ⟨p, e, R, s, m, args, below, meth, c, t0, u0⟩ := x
  obtain ⟨hx, hb, hml, hown, hts, hV, hrt, hlk, hnmn, hsz, hRc, hRs, hfr, hlo, C2⟩ := C
  intro H locs sl cells slots h1 h2 h3 h4 h5
  obtain ⟨hba0, ty0, hty0, q0⟩ := h1.arr (t := 2) (by decide) ha0
  obtain ⟨hba, ty', hty', q1⟩ := h1.arr (t := 2) (by decide) ha1
  have hty : fxAr[2]? = some (.object "java/lang/Object") := rfl
  cases hty0.symm.trans hty
  cases hty'.symm.trans hty
  have cl : ∀ z : Nat, z < 1000000 → ¬ Int32.ofInt (z : Int) < 0 ∧ (Int32.ofInt (z : Int)).toNatClampNeg = z ∧ (Int32.ofInt (z : Int)).toInt = (z : Int) := fun z hz => by
    refine ⟨?_, ?_, zok_toInt (by unfold zok; omega)⟩
    · rw [← z_nat]; exact nI_pos (by omega)
    · rw [← z_nat]; exact nI_clamp (by omega)
  obtain ⟨c1, c2, c3⟩ := cl n (by omega)
  obtain ⟨d1, d2, d3⟩ := cl dp (by omega)
  obtain ⟨s1, s2, s3⟩ := cl sp (by omega)
  obtain ⟨-, k0, hk0, cm0, hkk0⟩ := (hV.1.2 2 _ (fxT_at hty)).1 n0 (fun j => fxe w 2 a0 j)
  obtain ⟨-, k1, hk1, cm1, hkk1⟩ := (hV.1.2 2 _ (fxT_at hty)).1 n1 (fun j => fxe w 2 a j)
  have e1 : copied (arrV (fxA G 2) n0 (fun j => fxe w 2 a0 j)) (arrV (fxA G 2) n1 (fun j => fxe w 2 a j)) (Int32.ofInt (sp : Int)) (Int32.ofInt (dp : Int)) (Int32.ofInt (n : Int)) = arrV (fxA G 2) n1 (va_cpy (fun j => fxe w 2 a0 j) (fun j => fxe w 2 a j) sp dp n) := by
    have := va_copied (fun z : Value => z) (fxA G 2) (fxA G 2) (n0 := n0) (n1 := n1) (sp := sp) (dp := dp) (n := n) (fun j => fxe w 2 a0 j) (fun j => fxe w 2 a j) g1
    unfold copied
    rw [s2, d2, c2]
    exact this
  intro T hT X
  obtain ⟨vm', X', step⟩ := X.arraycopy hx hown (hts _ hl) (hts _ (fxTW_in 489 (by decide +kernel) rfl)) (hts _ (fxTW_in 488 (by decide +kernel) rfl)) (hts _ (fxTW_in 57 (by decide +kernel) rfl)) (src := a0) (dst := a) (cs := arrV (fxA G 2) n0 (fun j => fxe w 2 a0 j)) (cd := arrV (fxA G 2) n1 (fun j => fxe w 2 a j)) (srcPos := Int32.ofInt (sp : Int)) (destPos := Int32.ofInt (dp : Int)) (n := Int32.ofInt (n : Int)) (by rw [hT]; exact q0) (by rw [hT]; exact q1)
    (fun _ h => by cases h) (fun _ h => by cases h) (fun h => by cases h) (fun h => by cases h) hk0 hk1 hkk0 hkk1 rfl s1 d1 c1
    (by rw [s3, c3, arrV_size]; omega)
    (by rw [d3, c3, arrV_size]; omega)
    (fun vm₁ hal i hi => by
      rw [c2] at hi
      have e : (arrV (fxA G 2) n0 (fun j => fxe w 2 a0 j)).slots.getD ((Int32.ofInt (sp : Int)).toNatClampNeg + i) .null = fxe w 2 a0 (sp + i) := by
        rw [s2, Array.getD_eq_getD_getElem?, arrV_read _ _ (by omega)]
        rfl
      rw [e]
      rcases hel i hi with h | ⟨y, h, hy⟩
      · rw [h]; exact ⟨rfl, trivial⟩
      · rw [h]
        obtain ⟨-, r, hr, cell, y1, y2, y3, y4⟩ := h1.obj hy (by decide)
        obtain ⟨hS, hfc, kC, hkC, hkind⟩ := hV.1.1 3 r hr
        have hr2 : fxCl[3]? = some (RTask, FTask, 9) := rfl
        cases hr.symm.trans hr2
        obtain ⟨c0, t1, f1, f2, f3⟩ := Cond.castable_spec (hts (Cond.castable "ForkPool$Task" "java/lang/Object") (fxTW_in 1016 (by decide +kernel) rfl))
        have ec : c0 = cell.cls := by
          have := f1.symm.trans hfc
          rw [y2]; exact Option.some.inj this
        subst ec
        obtain ⟨kA, comp, r1, r2, r3, -⟩ := (hV.1.2 2 _ (fxT_at hty)).2
        cases hk1.symm.trans r1
        cases hkk1.symm.trans r2
        cases r3.symm.trans f2
        obtain ⟨kC2, hkC2, -⟩ := Vm.findClass_spec f1
        obtain ⟨kE, hkE, -⟩ := Vm.findClass_spec r3
        obtain ⟨kC', hkC', -⟩ := hal.2.2 _ _ hkC2
        obtain ⟨kE', hkE', -⟩ := hal.2.2 _ _ hkE
        refine ⟨rfl, cell, (show T.heap[y]? = some cell by rw [hT]; exact y1), (fun q h => by rw [y3] at h; cases h), ⟨kC', hkC'⟩, ⟨kE', hkE'⟩, ?_⟩
        show vm₁.assignable _ _ = true
        rw [hal.assignable]
        exact f3)
    (g := F0 m pc sl (zi (n : Int) :: zi (dp : Int) :: .ref a :: zi (sp : Int) :: .ref a0 :: st)) rfl (by rw [hml]; exact h3.1) (rest := st) rfl (by rw [hb]; exact hd) (by omega) (by show 2 * 0 + _ + _ ≤ _; have hw : nativeFrameWords "java/lang/System" "arraycopy" 5 ≤ 20 := (by decide); omega)
  rw [e1] at X' step
  have hlt : a < H.size := (Array.getElem?_eq_some_iff.mp q1).1
  have hheap : ((T.setVm vm').setCell a (arrV (fxA G 2) n1 (va_cpy (fun j => fxe w 2 a0 j) (fun j => fxe w 2 a j) sp dp n))).heap = H.setIfInBounds a (arrV (fxA G 2) n1 (va_cpy (fun j => fxe w 2 a0 j) (fun j => fxe w 2 a j) sp dp n)) := by rw [← hT]; rfl
  have oq : ∀ q : Nat, q ≠ a → (H.setIfInBounds a (arrV (fxA G 2) n1 (va_cpy (fun j => fxe w 2 a0 j) (fun j => fxe w 2 a j) sp dp n)))[q]? = H[q]? := fun q hq => by simp [Array.getElem?_setIfInBounds, Ne.symm hq]
  obtain ⟨t, a1, b1⟩ := k _ _ sl cells slots (h1.sta (by decide) ha1 (by simp) oq (by simp [Array.getElem?_setIfInBounds, hlt])) (fun q hq => by
      rcases List.mem_append.mp hq with h | h
      · exact h2 q h
      · obtain ⟨z, -, hz⟩ := List.mem_map.mp h
        rw [← hz]
        exact hba) h3 h4 h5 _ hheap X'
  exact ⟨t, step t a1, b1⟩
end FXA

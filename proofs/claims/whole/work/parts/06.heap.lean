/-! ROWS OVER THE HEAP -/
def fxQ (G : fxG) (x : fxX) (P : Outcome → fxW → Prop) : State → Prop :=
  match x with
  | (_, _, _, s, _, _, below, _, _, t0, u0) => fun t => ∃ o, t.status = .running ∧ Ended t below o ∧ fxE G t0 u0 P s o t
theorem fxH.obj {G : fxG} {w : fxW} {H : Heap} {a c n : Nat} (h : fxH G w H) (hk : fxk w a = some (c, n)) (hc : c < 100) : fxb G ≤ a ∧ ∃ r : vw_C, fxCl[c]? = some r ∧ t_OB a ((fxD G).1 c) r.2.2 ((fxD G).2 c) H (fun k => fxf w (64 * c + k) a) := by
  rcases h.2.2.2.2.2 a c n hk with ⟨-, h1, h2⟩ | ⟨t, ty, -, h1, -⟩
  · exact ⟨h1, h2⟩
  · omega
theorem fxH.arr {G : fxG} {w : fxW} {H : Heap} {a t n : Nat} (h : fxH G w H) (ht : t < 100) (hk : fxk w a = some (100 + t, n)) : fxb G ≤ a ∧ ∃ ty : FieldType, fxAr[t]? = some ty ∧ H[a]? = some (arrV (fxA G t) n (fun j => fxe w t a j)) := by
  rcases h.2.2.2.2.2 a _ n hk with ⟨h0, -⟩ | ⟨t', ty, h0, h1, h2, h3⟩
  · omega
  · rcases h1 with ⟨h1, h4⟩ | ⟨h1, -⟩
    · have e : t = t' := by omega
      subst e
      rcases h3 with ⟨-, h3⟩ | ⟨h3, -⟩
      · exact ⟨h4, ty, h2, h3⟩
      · omega
    · omega
theorem fxH.rarr {G : fxG} {w : fxW} {H : Heap} {s : State} {a t n : Nat} (h : fxH G w H) (hV : fxV G s) (ht : t < 100) (hk : fxk w a = some (100 + t, n) ∨ fxk w a = some (200 + t, n)) : ∃ (ty : FieldType) (cell : Cell), fxAr[t]? = some ty ∧ H[a]? = some cell ∧ s.isArrayOf cell ty ∧ cell.vm ≠ .unknown ∧ cell.slots.size = n ∧ ∀ j, j < n → cell.slots[j]? = some (fxe w t a j) := by
  rcases hk with hk | hk
  · obtain ⟨-, ty, h2, h3⟩ := h.arr ht hk
    exact ⟨ty, _, h2, h3, (hV.1.2 t _ (fxT_at h2)).1 n _, (fun q => by cases q), arrV_size _ _ _, fun j hj => arrV_read _ _ hj⟩
  · rcases h.2.2.2.2.2 a _ n hk with ⟨h0, -⟩ | ⟨t', ty, h0, h1, h2, h3⟩
    · omega
    · rcases h1 with ⟨h1, h4⟩ | ⟨h1, h4, h5⟩
      · omega
      · have e : t = t' := by omega
        subst e
        rcases h3 with ⟨h3, -⟩ | ⟨-, cell, h6, h7, h8⟩
        · omega
        · obtain ⟨cell', g1, g2, g3⟩ := hV.2.2.2.2.2.2.2.2 _ h5
          have e2 : cell' = cell := Option.some.inj (g1.symm.trans ((h.2.1 a h4).symm.trans h6))
          subst e2
          exact ⟨ty, cell', h2, h6, g2, g3, h7, h8⟩
theorem fxH.lt {G : fxG} {w : fxW} {H : Heap} {a : Nat} {q : Nat × Nat} (h : fxH G w H) (hk : fxk w a = some q) : a < fxt w := by
  obtain ⟨c, n⟩ := q
  rw [← h.1]
  rcases h.2.2.2.2.2 a c n hk with ⟨-, -, r, -, cell, h1, -⟩ | ⟨t, ty, -, -, -, ⟨-, h1⟩ | ⟨-, cell, h1, -⟩⟩
  · exact (Array.getElem?_eq_some_iff.mp h1).1
  · exact (Array.getElem?_eq_some_iff.mp h1).1
  · exact (Array.getElem?_eq_some_iff.mp h1).1
theorem fxH.put {G : fxG} {w : fxW} {H H' : Heap} {a c n k0 : Nat} {v : Value} (h : fxH G w H) (hk : fxk w a = some (c, n)) (hc : c < 100) (hz : H'.size = H.size) (ho : ∀ q : Nat, q ≠ a → H'[q]? = H[q]?)
    (hn : ∀ r : vw_C, fxCl[c]? = some r → t_OB a ((fxD G).1 c) r.2.2 ((fxD G).2 c) H' (updV (fun k => fxf w (64 * c + k) a) k0 v)) : fxH G (fx_put w (64 * c + k0) a v) H' := by
  obtain ⟨hba, r, hr, -⟩ := h.obj hk hc
  refine ⟨hz.trans h.1, fun q hq => (ho q (by omega)).trans (h.2.1 q hq), h.2.2.1, h.2.2.2.1, h.2.2.2.2.1, fun b c' n' hb => ?_⟩
  have hb' : fxk w b = some (c', n') := hb
  by_cases hab : b = a
  · subst hab
    cases hb'.symm.trans hk
    refine Or.inl ⟨hc, hba, r, hr, (hn r hr).to fun k _ => ?_⟩
    show updV _ k0 v k = (if 64 * c + k = 64 * c + k0 then (if b = b then v else w.2.1 (64 * c + k) b) else w.2.1 (64 * c + k) b)
    by_cases hkk : k = k0
    · subst hkk; simp [updV]
    · rw [if_neg (by omega)]; simp [updV, hkk]; rfl
  · rcases h.2.2.2.2.2 b c' n' hb' with ⟨h1, h2, r', h3, h4⟩ | ⟨t, ty, h1, h2, h3, h4⟩
    · refine Or.inl ⟨h1, h2, r', h3, (h4.kept (ho b hab)).to fun k _ => ?_⟩
      show w.2.1 (64 * c' + k) b = (if 64 * c' + k = 64 * c + k0 then (if b = a then v else w.2.1 (64 * c' + k) b) else w.2.1 (64 * c' + k) b)
      simp [hab]
    · exact Or.inr ⟨t, ty, h1, h2, h3, h4.to (ho b hab) rfl⟩
theorem fxH.ast {G : fxG} {w : fxW} {H H' : Heap} {a t n j : Nat} {v : Value} (h : fxH G w H) (ht : t < 100) (hk : fxk w a = some (100 + t, n)) (hz : H'.size = H.size) (ho : ∀ q : Nat, q ≠ a → H'[q]? = H[q]?)
    (hn : H'[a]? = some (arrV (fxA G t) n (updV (fun j => fxe w t a j) j v))) : fxH G (fx_ast w t a j v) H' := by
  obtain ⟨hba, ty, hty, -⟩ := h.arr ht hk
  refine ⟨hz.trans h.1, fun q hq => (ho q (by omega)).trans (h.2.1 q hq), h.2.2.1, h.2.2.2.1, h.2.2.2.2.1, fun b c' n' hb => ?_⟩
  have hb' : fxk w b = some (c', n') := hb
  by_cases hab : b = a
  · subst hab
    cases hb'.symm.trans hk
    refine Or.inr ⟨t, ty, ht, Or.inl ⟨rfl, hba⟩, hty, Or.inl ⟨rfl, hn.trans ?_⟩⟩
    congr 2
    funext i
    show updV _ j v i = (if t = t then (if b = b then (if i = j then v else w.2.2.1 t b i) else w.2.2.1 t b i) else w.2.2.1 t b i)
    by_cases hij : i = j
    · subst hij; simp [updV]
    · simp [updV, hij]; rfl
  · rcases h.2.2.2.2.2 b c' n' hb' with ⟨h1, h2, r', h3, h4⟩ | ⟨t', ty', h1, h2, h3, h4⟩
    · exact Or.inl ⟨h1, h2, r', h3, h4.kept (ho b hab)⟩
    · refine Or.inr ⟨t', ty', h1, h2, h3, h4.to (ho b hab) ?_⟩
      funext i
      show (if t' = t then (if b = a then (if i = j then v else w.2.2.1 t' b i) else w.2.2.1 t' b i) else w.2.2.1 t' b i) = w.2.2.1 t' b i
      simp [hab]
theorem fxH.new {G : fxG} {w : fxW} {H H' : Heap} {c n : Nat} {z : Nat → Value} (h : fxH G w H) (hc : c < 100) (hz : H'.size = fxt w + 1) (ho : ∀ q : Nat, q < fxt w → H'[q]? = H[q]?) (h1 : fxt w + 1 ≤ fxmt G) (h2 : fxu w + n ≤ fxmu G)
    (hn : ∃ r : vw_C, fxCl[c]? = some r ∧ t_OB (fxt w) ((fxD G).1 c) r.2.2 ((fxD G).2 c) H' z) : fxH G (fx_new w c n z) H' := by
  obtain ⟨r, hr, hob⟩ := hn
  have hbt := h.2.2.1
  refine ⟨hz, fun q hq => (ho q (by omega)).trans (h.2.1 q hq), by show fxb G ≤ fxt w + 1; omega, h1, h2, fun b c' n' hb => ?_⟩
  have hb' : (if b = fxt w then some (c, 0) else fxk w b) = some (c', n') := hb
  by_cases hab : b = fxt w
  · rw [if_pos hab] at hb'
    cases hb'
    subst hab
    refine Or.inl ⟨hc, hbt, r, hr, hob.to fun k _ => ?_⟩
    show z k = (if fxt w = fxt w then (if 64 * c ≤ 64 * c + k then z (64 * c + k - 64 * c) else _) else _)
    simp
  · rw [if_neg hab] at hb'
    have hlt := h.lt hb'
    rcases h.2.2.2.2.2 b c' n' hb' with ⟨h1, h2, r', h3, h4⟩ | ⟨t', ty', h1, h2, h3, h4⟩
    · refine Or.inl ⟨h1, h2, r', h3, (h4.kept (ho b hlt)).to fun k _ => ?_⟩
      show w.2.1 (64 * c' + k) b = (if b = fxt w then _ else w.2.1 (64 * c' + k) b)
      rw [if_neg hab]
    · exact Or.inr ⟨t', ty', h1, h2, h3, h4.to (ho b hlt) rfl⟩
theorem fxH.newa {G : fxG} {w : fxW} {H H' : Heap} {t n : Nat} {z : Value} {ty : FieldType} (h : fxH G w H) (ht : t < 100) (hty : fxAr[t]? = some ty) (hz : H'.size = fxt w + 1) (ho : ∀ q : Nat, q < fxt w → H'[q]? = H[q]?) (h1 : fxt w + 1 ≤ fxmt G) (h2 : fxu w + n ≤ fxmu G)
    (hn : H'[fxt w]? = some (arrV (fxA G t) n (fun _ => z))) : fxH G (fx_newa w t n z) H' := by
  have hbt := h.2.2.1
  refine ⟨hz, fun q hq => (ho q (by omega)).trans (h.2.1 q hq), by show fxb G ≤ fxt w + 1; omega, h1, h2, fun b c' n' hb => ?_⟩
  have hb' : (if b = fxt w then some (100 + t, n) else fxk w b) = some (c', n') := hb
  by_cases hab : b = fxt w
  · rw [if_pos hab] at hb'
    cases hb'
    subst hab
    refine Or.inr ⟨t, ty, ht, Or.inl ⟨rfl, hbt⟩, hty, Or.inl ⟨rfl, hn.trans ?_⟩⟩
    congr 2
    funext i
    show z = (if fxt w = fxt w then z else _)
    simp
  · rw [if_neg hab] at hb'
    have hlt := h.lt hb'
    rcases h.2.2.2.2.2 b c' n' hb' with ⟨h1, h2, r', h3, h4⟩ | ⟨t', ty', h1, h2, h3, h4⟩
    · exact Or.inl ⟨h1, h2, r', h3, h4.kept (ho b hlt)⟩
    · refine Or.inr ⟨t', ty', h1, h2, h3, h4.to (ho b hlt) ?_⟩
      funext i
      show (if b = fxt w then z else w.2.2.1 t' b i) = w.2.2.1 t' b i
      rw [if_neg hab]
section FXH
variable {G : fxG} {d nL : Nat} {cc : ByteArray} {own nm : String} {ret : Option FieldType} {hh : List (Nat × Nat × Nat × Nat)} {x : fxX} {Q : State → Prop} {w : fxW} {pc : Nat} {ls : List (Nat × Value)} {st : List Value}
/-- what the tables say of a field reference: its owner is the declarer, or the two names are of one field -/
def fxSame (ref decl name desc : String) : Prop := ref = decl ∨ Cond.sameField ref decl name desc ∈ fxTW
theorem fxSame.use {ref decl name desc : String} (h : fxSame ref decl name desc) {args : Array Value} {s : State} (hts : ∀ w ∈ fxTW, w.before args s = true) : ∀ y, s.fieldFound? decl name desc = some y → s.fieldFound? ref name desc = some y := by
  intro y hy
  rcases h with rfl | h
  · exact hy
  · exact u_same (hts _ h) y hy
theorem r_get (C : fxC G d cc nL own nm ret hh x) {Cn ref : String} {T : u_T} {N ci idx k0 a n : Nat} {v : Value} (hd : decode cc pc = .ok (.getfield idx, 3)) (hc : fxCl[ci]? = some (Cn, T, N)) (hci : ci < 100) (hws : ∀ w ∈ u_ws Cn T N, w ∈ fxTW) (hk : k0 < N) (hl : Cond.fieldLink own idx ref (T k0).2.1 (T k0).2.2.1 ∈ fxTW) (hs : fxSame ref (T k0).1 (T k0).2.1 (T k0).2.2.1)
    (ha : fxk w a = some (ci, n)) (hv : fxf w (64 * ci + k0) a = v) (k : fxR G nL x Q w (pc + 3) ls (v :: st)) : fxR G nL x Q w pc ls (.ref a :: st) := by
  obtain ⟨p, e, R, s, m, args, below, meth, c, t0, u0⟩ := x
  obtain ⟨hx, hb, hml, hown, hts, hV, C2⟩ := C
  intro H locs sl cells slots h1 h2 h3 h4 h5
  obtain ⟨-, r, hr, cell, q1, q2, q3, q4⟩ := h1.obj ha hci
  cases hr.symm.trans hc
  obtain ⟨hS, hfc, kC, hkC, hkind⟩ := hV.1.1 ci _ hc
  obtain ⟨cf, kf, fi, f, hi, hsl⟩ := hS k0 hk
  exact W.getf hx hb hown (hts _ hl) (hs.use hts _ hi) (u_facts hfc hkC (u_lays hts hws hk) hi).1 q1 (by rw [q3]; exact fun h => by cases h) (v := v) (by rw [hsl, q4 k0 hk]; exact congrArg some hv) rfl rfl hd (k H locs sl cells slots h1 h2 h3 h4 h5)
theorem r_getN (C : fxC G d cc nL own nm ret hh x) {Cn ref host : String} {T : u_T} {N ci idx k0 a n : Nat} {v : Value} (hd : decode cc pc = .ok (.getfield idx, 3)) (hc : fxCl[ci]? = some (Cn, T, N)) (hci : ci < 100) (hws : ∀ w ∈ u_ws Cn T N, w ∈ fxTW) (hk : k0 < N) (hl : Cond.fieldLinkNest own idx ref (T k0).2.1 (T k0).2.2.1 host ∈ fxTW) (hs : fxSame ref (T k0).1 (T k0).2.1 (T k0).2.2.1)
    (ha : fxk w a = some (ci, n)) (hv : fxf w (64 * ci + k0) a = v) (k : fxR G nL x Q w (pc + 3) ls (v :: st)) : fxR G nL x Q w pc ls (.ref a :: st) := by
  obtain ⟨p, e, R, s, m, args, below, meth, c, t0, u0⟩ := x
  obtain ⟨hx, hb, hml, hown, hts, hV, C2⟩ := C
  intro H locs sl cells slots h1 h2 h3 h4 h5
  obtain ⟨-, r, hr, cell, q1, q2, q3, q4⟩ := h1.obj ha hci
  cases hr.symm.trans hc
  obtain ⟨hS, hfc, kC, hkC, hkind⟩ := hV.1.1 ci _ hc
  obtain ⟨cf, kf, fi, f, hi, hsl⟩ := hS k0 hk
  exact va_Wgetf hx hb hown (hts _ hl) (hs.use hts _ hi) (u_facts hfc hkC (u_lays hts hws hk) hi).1 q1 (by rw [q3]; exact fun h => by cases h) (v := v) (by rw [hsl, q4 k0 hk]; exact congrArg some hv) rfl rfl hd (k H locs sl cells slots h1 h2 h3 h4 h5)
theorem fx_locs {G : fxG} {locs : List Loc} {a i : Nat} (h : ∀ q ∈ locs, fxb G ≤ q.base) (ha : fxb G ≤ a) : ∀ q ∈ locs ++ [⟨a, i⟩], fxb G ≤ q.base := by
  intro q hq
  rcases List.mem_append.mp hq with h1 | h1
  · exact h q h1
  · rw [List.mem_singleton.mp h1]; exact ha
theorem r_put (C : fxC G d cc nL own nm ret hh x) {Cn ref : String} {T : u_T} {N ci idx k0 a n : Nat} {ty : FieldType} {v : Value} (hd : decode cc pc = .ok (.putfield idx, 3)) (hc : fxCl[ci]? = some (Cn, T, N)) (hci : ci < 100) (hws : ∀ w ∈ u_ws Cn T N, w ∈ fxTW) (tys : Nat → FieldType) (hty : ∀ k, k < N → parseFieldDescriptor (T k).2.2.1 = some (tys k)) (hnm : ∀ a, a < N → ∀ b, b < N → a ≠ b → (T a).2.1 ≠ (T b).2.1) (hk : k0 < N) (hl : Cond.fieldLink own idx ref (T k0).2.1 (T k0).2.2.1 ∈ fxTW) (hs : fxSame ref (T k0).1 (T k0).2.1 (T k0).2.2.1) (hfin : (T k0).2.2.2 = false)
    (hpd : parseFieldDescriptor (T k0).2.2.1 = some ty) (hn : narrow ty v = v) (hfit : fits ty v = true) (ha : fxk w a = some (ci, n)) (k : fxR G nL x Q (fx_put w (64 * ci + k0) a v) (pc + 3) ls st) : fxR G nL x Q w pc ls (v :: .ref a :: st) := by
  obtain ⟨p, e, R, s, m, args, below, meth, c, t0, u0⟩ := x
  obtain ⟨hx, hb, hml, hown, hts, hV, C2⟩ := C
  intro H locs sl cells slots h1 h2 h3 h4 h5
  have hap := va_apart (own := own) hts hws tys hty hnm hV.1 hc
  obtain ⟨hba, r, hr, cell, q1, q2, q3, q4⟩ := h1.obj ha hci
  cases hr.symm.trans hc
  obtain ⟨hS, hfc, kC, hkC, hkind⟩ := hV.1.1 ci _ hc
  obtain ⟨cf, kf, fi, f, hi, hsl⟩ := hS k0 hk
  have hlay := hts _ (hws _ (u_in_lay hk))
  unfold u_lay at hlay
  rw [if_neg (by rw [hfin]; decide)] at hlay
  have hst := (u_facts hfc hkC (u_lays hts hws hk) hi).1
  have h6 := u_store hfc hkC hkind hlay hi hpd hn hfit
  refine W.putK hx hb (f := f) ⟨hown, hts _ hl, ⟨_, _, _, hs.use hts _ hi⟩, hst⟩ (by rw [q2]; exact h6) q1 q3 (by rw [hsl]; exact k2_hasslot (q4 k0 hk)) rfl rfl hd fun H' e1 e2 e3 => ?_
  rw [hsl] at e1 ⊢
  exact k H' _ sl cells slots (h1.put ha hci e2 e3 fun r' hr' => by cases hr'.symm.trans hc; exact ⟨_, e1, q2, q3, t_set q4 hap hk v⟩) (fx_locs h2 hba) h3 h4 h5
theorem r_putN (C : fxC G d cc nL own nm ret hh x) {Cn ref host : String} {T : u_T} {N ci idx k0 a n : Nat} {ty : FieldType} {v : Value} (hd : decode cc pc = .ok (.putfield idx, 3)) (hc : fxCl[ci]? = some (Cn, T, N)) (hci : ci < 100) (hws : ∀ w ∈ u_ws Cn T N, w ∈ fxTW) (tys : Nat → FieldType) (hty : ∀ k, k < N → parseFieldDescriptor (T k).2.2.1 = some (tys k)) (hnm : ∀ a, a < N → ∀ b, b < N → a ≠ b → (T a).2.1 ≠ (T b).2.1) (hk : k0 < N) (hl : Cond.fieldLinkNest own idx ref (T k0).2.1 (T k0).2.2.1 host ∈ fxTW) (hs : fxSame ref (T k0).1 (T k0).2.1 (T k0).2.2.1) (hfin : (T k0).2.2.2 = false)
    (hpd : parseFieldDescriptor (T k0).2.2.1 = some ty) (hn : narrow ty v = v) (hfit : fits ty v = true) (ha : fxk w a = some (ci, n)) (k : fxR G nL x Q (fx_put w (64 * ci + k0) a v) (pc + 3) ls st) : fxR G nL x Q w pc ls (v :: .ref a :: st) := by
  obtain ⟨p, e, R, s, m, args, below, meth, c, t0, u0⟩ := x
  obtain ⟨hx, hb, hml, hown, hts, hV, C2⟩ := C
  intro H locs sl cells slots h1 h2 h3 h4 h5
  have hap := va_apart (own := own) hts hws tys hty hnm hV.1 hc
  obtain ⟨hba, r, hr, cell, q1, q2, q3, q4⟩ := h1.obj ha hci
  cases hr.symm.trans hc
  obtain ⟨hS, hfc, kC, hkC, hkind⟩ := hV.1.1 ci _ hc
  obtain ⟨cf, kf, fi, f, hi, hsl⟩ := hS k0 hk
  have hlay := hts _ (hws _ (u_in_lay hk))
  unfold u_lay at hlay
  rw [if_neg (by rw [hfin]; decide)] at hlay
  have hst := (u_facts hfc hkC (u_lays hts hws hk) hi).1
  have h6 := u_store hfc hkC hkind hlay hi hpd hn hfit
  refine va_WputK hx hb (f := f) hown (hts _ hl) (hs.use hts _ hi) hst (by rw [q2]; exact h6) q1 q3 (by rw [hsl]; exact k2_hasslot (q4 k0 hk)) rfl rfl hd fun H' e1 e2 e3 => ?_
  rw [hsl] at e1 ⊢
  exact k H' _ sl cells slots (h1.put ha hci e2 e3 fun r' hr' => by cases hr'.symm.trans hc; exact ⟨_, e1, q2, q3, t_set q4 hap hk v⟩) (fx_locs h2 hba) h3 h4 h5
theorem r_putF (C : fxC G d cc nL own "<init>" ret hh x) {Cn ref : String} {T : u_T} {N ci idx k0 a n : Nat} {ty : FieldType} {v : Value} (hd : decode cc pc = .ok (.putfield idx, 3)) (hc : fxCl[ci]? = some (Cn, T, N)) (hci : ci < 100) (hws : ∀ w ∈ u_ws Cn T N, w ∈ fxTW) (tys : Nat → FieldType) (hty : ∀ k, k < N → parseFieldDescriptor (T k).2.2.1 = some (tys k)) (hnm : ∀ a, a < N → ∀ b, b < N → a ≠ b → (T a).2.1 ≠ (T b).2.1) (hk : k0 < N) (hl : Cond.fieldLink own idx ref (T k0).2.1 (T k0).2.2.1 ∈ fxTW) (hs : fxSame ref (T k0).1 (T k0).2.1 (T k0).2.2.1) (hfin : (T k0).2.2.2 = true) (hdecl : (T k0).1 = own)
    (hpd : parseFieldDescriptor (T k0).2.2.1 = some ty) (hn : narrow ty v = v) (hfit : fits ty v = true) (ha : fxk w a = some (ci, n)) (k : fxR G nL x Q (fx_put w (64 * ci + k0) a v) (pc + 3) ls st) : fxR G nL x Q w pc ls (v :: .ref a :: st) := by
  obtain ⟨p, e, R, s, m, args, below, meth, c, t0, u0⟩ := x
  obtain ⟨hx, hb, hml, hown, hts, hV, hrt, hlk, hnmn, C2⟩ := C
  intro H locs sl cells slots h1 h2 h3 h4 h5
  have hap := va_apart (own := own) hts hws tys hty hnm hV.1 hc
  obtain ⟨hba, r, hr, cell, q1, q2, q3, q4⟩ := h1.obj ha hci
  cases hr.symm.trans hc
  obtain ⟨hS, hfc, kC, hkC, hkind⟩ := hV.1.1 ci _ hc
  obtain ⟨cf, kf, fi, f, hi, hsl⟩ := hS k0 hk
  have hlay := hts _ (hws _ (u_in_lay hk))
  unfold u_lay at hlay
  rw [if_pos hfin] at hlay
  have hst := (u_facts hfc hkC (u_lays hts hws hk) hi).1
  have hcf : m.cls = cf := by
    obtain ⟨_, _, c', _, _, _, -, -, hf', -, -, -, hown2, -⟩ := Cond.laysFinal_spec hlay
    have e1 : c' = cf := by have := hi.symm.trans hf'; simp at this; exact this.1.symm
    rw [hdecl] at hown2
    rw [← e1]; exact Option.some.inj (hown.symm.trans hown2)
  have h6 := u_fits hfc hkC hkind (Or.inr hlay) hi hpd hn hfit
  refine W.putFinK hx hb hown (hts _ hl) (hs.use hts _ hi) hst hcf hnmn (by rw [q2]; exact h6) q1 q3 (by rw [hsl]; exact k2_hasslot (q4 k0 hk)) rfl rfl hd fun H' e1 e2 e3 => ?_
  rw [hsl] at e1 ⊢
  exact k H' _ sl cells slots (h1.put ha hci e2 e3 fun r' hr' => by cases hr'.symm.trans hc; exact ⟨_, e1, q2, q3, t_set q4 hap hk v⟩) (fx_locs h2 hba) h3 h4 h5
/-- a new object: its address is fxt w -/
theorem r_new (C : fxC G d cc nL own nm ret hh x) {Cn : String} {T : u_T} {N ci idx sz : Nat} {z : Nat → Value} (hd : decode cc pc = .ok (.new idx, 3)) (hc : fxCl[ci]? = some (Cn, T, N)) (hci : ci < 100) (hws : ∀ w ∈ u_ws Cn T N, w ∈ fxTW) (tys : Nat → FieldType) (hty : ∀ k, k < N → parseFieldDescriptor (T k).2.2.1 = some (tys k)) (hl : Cond.classLink own idx Cn ∈ fxTW) (hi : Cond.instantiable Cn sz ∈ fxTW) (hini : Cond.initialized Cn ∈ fxTW) (hz : ∀ j, j < N → defaultValue (tys j) = z j)
    (h9 : fxt w + 1 ≤ fxmt G) (h8 : fxu w + sz ≤ fxmu G) (k : fxR G nL x Q (fx_new w ci sz z) (pc + 3) ls (.ref (fxt w) :: st)) : fxR G nL x Q w pc ls st := by
  obtain ⟨p, e, R, s, m, args, below, meth, c, t0, u0⟩ := x
  obtain ⟨hx, hb, hml, hown, hts, hV, hrt, hlk, hnmn, hsz, hRc, hRs, C2⟩ := C
  intro H locs sl cells slots h1 h2 h3 h4 h5
  have h4' : t0 + cells = fxt w := h4
  have h5' : u0 + slots = fxu w := h5
  have hKn := hV.1.1 ci _ hc
  refine W.newcK hx hb hown (hts _ hl) (hts _ hi) (hts _ hini) rfl hd (by omega) (by omega) hKn.2.1 h1.1 fun H1 kC hkC e1 z1 o1 => ?_
  exact k H1 locs sl (cells + 1) (slots + sz) (h1.new hci z1 (fun q hq => o1 q hq) h9 h8 ⟨_, hc, (u_born tys hts hws hKn hkC e1 hty).to hz⟩) h2 h3 (by show t0 + (cells + 1) = fxt w + 1; omega) (by show u0 + (slots + sz) = fxu w + sz; omega)
/-- arrays: a place, the length -/
theorem r_alen (C : fxC G d cc nL own nm ret hh x) {a t n : Nat} {v : Int32} (hd : decode cc pc = .ok (.arraylength, 1)) (ht : t < 100) (ha : fxk w a = some (100 + t, n) ∨ fxk w a = some (200 + t, n)) (hv : Int32.ofNat n = v) (k : fxR G nL x Q w (pc + 1) ls (.int v :: st)) : fxR G nL x Q w pc ls (.ref a :: st) := by
  obtain ⟨p, e, R, s, m, args, below, meth, c, t0, u0⟩ := x
  obtain ⟨hx, hb, hml, hown, hts, hV, C2⟩ := C
  intro H locs sl cells slots h1 h2 h3 h4 h5
  obtain ⟨ty, cell, hty, q1, q2, q3, q4, q5⟩ := h1.rarr hV ht ha
  exact W.alen (n := v) hx hb q1 q2 (by rw [q4]; exact hv) rfl rfl hd (k H locs sl cells slots h1 h2 h3 h4 h5)

theorem r_iaload (C : fxC G d cc nL own nm ret hh x) {a t n : Nat} {i : Int32} {v : Value} (hd : decode cc pc = .ok (.iaload, 1)) (ht : t < 100) (hty : fxAr[t]? = some .int) (ha : fxk w a = some (100 + t, n) ∨ fxk w a = some (200 + t, n)) (hi : vp_in i n) (hv : fxe w t a i.toNatClampNeg = v) (k : fxR G nL x Q w (pc + 1) ls (v :: st)) : fxR G nL x Q w pc ls (.int i :: .ref a :: st) := by
  obtain ⟨p, e, R, s, m, args, below, meth, c, t0, u0⟩ := x
  obtain ⟨hx, hb, hml, hown, hts, hV, C2⟩ := C
  intro H locs sl cells slots h1 h2 h3 h4 h5
  obtain ⟨ty, cell, hty', q1, q2, q3, q4, q5⟩ := h1.rarr hV ht ha
  cases hty'.symm.trans hty
  have hlt : i.toNatClampNeg < n := Nat.not_le.mp fun q => hi (Or.inr q)
  exact W.iald (v := v) hx hb q1 q2 q3 (by rw [q4]; exact hi) (by rw [q5 _ hlt]; exact congrArg some hv) rfl rfl hd (k H locs sl cells slots h1 h2 h3 h4 h5)
theorem r_laload (C : fxC G d cc nL own nm ret hh x) {a t n : Nat} {i : Int32} {v : Value} (hd : decode cc pc = .ok (.laload, 1)) (ht : t < 100) (hty : fxAr[t]? = some .long) (ha : fxk w a = some (100 + t, n) ∨ fxk w a = some (200 + t, n)) (hi : vp_in i n) (hv : fxe w t a i.toNatClampNeg = v) (k : fxR G nL x Q w (pc + 1) ls (v :: st)) : fxR G nL x Q w pc ls (.int i :: .ref a :: st) := by
  obtain ⟨p, e, R, s, m, args, below, meth, c, t0, u0⟩ := x
  obtain ⟨hx, hb, hml, hown, hts, hV, C2⟩ := C
  intro H locs sl cells slots h1 h2 h3 h4 h5
  obtain ⟨ty, cell, hty', q1, q2, q3, q4, q5⟩ := h1.rarr hV ht ha
  cases hty'.symm.trans hty
  have hlt : i.toNatClampNeg < n := Nat.not_le.mp fun q => hi (Or.inr q)
  exact W.lald (v := v) hx hb q1 q2 q3 (by rw [q4]; exact hi) (by rw [q5 _ hlt]; exact congrArg some hv) rfl rfl hd (k H locs sl cells slots h1 h2 h3 h4 h5)
theorem r_baload (C : fxC G d cc nL own nm ret hh x) {a t n : Nat} {i : Int32} {v : Value} (hd : decode cc pc = .ok (.baload, 1)) (ht : t < 100) (hty : fxAr[t]? = some .byte) (ha : fxk w a = some (100 + t, n) ∨ fxk w a = some (200 + t, n)) (hi : vp_in i n) (hv : fxe w t a i.toNatClampNeg = v) (k : fxR G nL x Q w (pc + 1) ls (v :: st)) : fxR G nL x Q w pc ls (.int i :: .ref a :: st) := by
  obtain ⟨p, e, R, s, m, args, below, meth, c, t0, u0⟩ := x
  obtain ⟨hx, hb, hml, hown, hts, hV, C2⟩ := C
  intro H locs sl cells slots h1 h2 h3 h4 h5
  obtain ⟨ty, cell, hty', q1, q2, q3, q4, q5⟩ := h1.rarr hV ht ha
  cases hty'.symm.trans hty
  have hlt : i.toNatClampNeg < n := Nat.not_le.mp fun q => hi (Or.inr q)
  exact W.bald (v := v) hx hb q1 q2 q3 (by rw [q4]; exact hi) (by rw [q5 _ hlt]; exact congrArg some hv) rfl rfl hd (k H locs sl cells slots h1 h2 h3 h4 h5)
theorem r_saload (C : fxC G d cc nL own nm ret hh x) {a t n : Nat} {i : Int32} {v : Value} (hd : decode cc pc = .ok (.saload, 1)) (ht : t < 100) (hty : fxAr[t]? = some .short) (ha : fxk w a = some (100 + t, n) ∨ fxk w a = some (200 + t, n)) (hi : vp_in i n) (hv : fxe w t a i.toNatClampNeg = v) (k : fxR G nL x Q w (pc + 1) ls (v :: st)) : fxR G nL x Q w pc ls (.int i :: .ref a :: st) := by
  obtain ⟨p, e, R, s, m, args, below, meth, c, t0, u0⟩ := x
  obtain ⟨hx, hb, hml, hown, hts, hV, C2⟩ := C
  intro H locs sl cells slots h1 h2 h3 h4 h5
  obtain ⟨ty, cell, hty', q1, q2, q3, q4, q5⟩ := h1.rarr hV ht ha
  cases hty'.symm.trans hty
  have hlt : i.toNatClampNeg < n := Nat.not_le.mp fun q => hi (Or.inr q)
  exact W.sald (v := v) hx hb q1 q2 q3 (by rw [q4]; exact hi) (by rw [q5 _ hlt]; exact congrArg some hv) rfl rfl hd (k H locs sl cells slots h1 h2 h3 h4 h5)
theorem r_aaload (C : fxC G d cc nL own nm ret hh x) {a t n : Nat} {i : Int32} {v : Value} {ty : FieldType} (hd : decode cc pc = .ok (.aaload, 1)) (ht : t < 100) (hty : fxAr[t]? = some ty) (href : ty.isReference = true) (ha : fxk w a = some (100 + t, n) ∨ fxk w a = some (200 + t, n)) (hi : vp_in i n) (hv : fxe w t a i.toNatClampNeg = v) (k : fxR G nL x Q w (pc + 1) ls (v :: st)) : fxR G nL x Q w pc ls (.int i :: .ref a :: st) := by
  obtain ⟨p, e, R, s, m, args, below, meth, c, t0, u0⟩ := x
  obtain ⟨hx, hb, hml, hown, hts, hV, C2⟩ := C
  intro H locs sl cells slots h1 h2 h3 h4 h5
  obtain ⟨ty', cell, hty', q1, q2, q3, q4, q5⟩ := h1.rarr hV ht ha
  cases hty'.symm.trans hty
  have hlt : i.toNatClampNeg < n := Nat.not_le.mp fun q => hi (Or.inr q)
  exact W.aald (v := v) (ty := ty) hx hb q1 q2 href q3 (by rw [q4]; exact hi) (by rw [q5 _ hlt]; exact congrArg some hv) rfl rfl hd (k H locs sl cells slots h1 h2 h3 h4 h5)
theorem r_iastore (C : fxC G d cc nL own nm ret hh x) {a t n : Nat} {i : Int32} {v : Int32} (hd : decode cc pc = .ok (.iastore, 1)) (ht : t < 100) (hty : fxAr[t]? = some .int) (ha : fxk w a = some (100 + t, n)) (hi : vp_in i n) (k : fxR G nL x Q (fx_ast w t a i.toNatClampNeg (.int v)) (pc + 1) ls st) : fxR G nL x Q w pc ls (.int v :: .int i :: .ref a :: st) := by
  obtain ⟨p, e, R, s, m, args, below, meth, c, t0, u0⟩ := x
  obtain ⟨hx, hb, hml, hown, hts, hV, C2⟩ := C
  intro H locs sl cells slots h1 h2 h3 h4 h5
  obtain ⟨hba, ty', hty', q1⟩ := h1.arr ht ha
  cases hty'.symm.trans hty
  refine W.iast hx hb q1 ((hV.1.2 t _ (fxT_at hty)).1 n _) (fun q => by cases q) (by rw [arrV_size]; exact hi) rfl rfl hd fun H1 e1 z oq => ?_
  exact k H1 _ sl cells slots (h1.ast ht ha z oq (by rw [e1, arrV_store])) (fx_locs h2 hba) h3 h4 h5
theorem r_lastore (C : fxC G d cc nL own nm ret hh x) {a t n : Nat} {i : Int32} {v : Int64} (hd : decode cc pc = .ok (.lastore, 1)) (ht : t < 100) (hty : fxAr[t]? = some .long) (ha : fxk w a = some (100 + t, n)) (hi : vp_in i n) (k : fxR G nL x Q (fx_ast w t a i.toNatClampNeg (.long v)) (pc + 1) ls st) : fxR G nL x Q w pc ls (.long v :: .int i :: .ref a :: st) := by
  obtain ⟨p, e, R, s, m, args, below, meth, c, t0, u0⟩ := x
  obtain ⟨hx, hb, hml, hown, hts, hV, C2⟩ := C
  intro H locs sl cells slots h1 h2 h3 h4 h5
  obtain ⟨hba, ty', hty', q1⟩ := h1.arr ht ha
  cases hty'.symm.trans hty
  refine W.last hx hb q1 ((hV.1.2 t _ (fxT_at hty)).1 n _) (fun q => by cases q) (by rw [arrV_size]; exact hi) rfl rfl hd fun H1 e1 z oq => ?_
  exact k H1 _ sl cells slots (h1.ast ht ha z oq (by rw [e1, arrV_store])) (fx_locs h2 hba) h3 h4 h5
/-- a reference into an array: an object of the kind ci, castable to the component -/
theorem r_aastore (C : fxC G d cc nL own nm ret hh x) {a b t n n' ci : Nat} {i : Int32} {r : vw_C} {E : String} (hd : decode cc pc = .ok (.aastore, 1)) (ht : t < 100) (hty : fxAr[t]? = some (.object E)) (ha : fxk w a = some (100 + t, n)) (hb9 : fxk w b = some (ci, n')) (hci : ci < 100) (hc : fxCl[ci]? = some r) (hca : r.1 = E ∨ Cond.castable r.1 E ∈ fxTW) (hi : vp_in i n) (k : fxR G nL x Q (fx_ast w t a i.toNatClampNeg (.ref b)) (pc + 1) ls st) : fxR G nL x Q w pc ls (.ref b :: .int i :: .ref a :: st) := by
  obtain ⟨p, e, R, s, m, args, below, meth, c, t0, u0⟩ := x
  obtain ⟨hx, hb, hml, hown, hts, hV, C2⟩ := C
  intro H locs sl cells slots h1 h2 h3 h4 h5
  obtain ⟨hba, ty', hty', q1⟩ := h1.arr ht ha
  cases hty'.symm.trans hty
  have hlt : i.toNatClampNeg < n := Nat.not_le.mp fun q => hi (Or.inr q)
  have h0 : ¬ i < 0 := fun q => hi (Or.inl q)
  obtain ⟨-, r', hr', cellV, g1, g2, g3, -⟩ := h1.obj hb9 hci
  have hcls := (hV.1.1 ci r hc).2
  obtain ⟨kA, comp, k1, k2, k3, -⟩ := (hV.1.2 t _ (fxT_at hty)).2
  obtain ⟨kE, hkE, -⟩ := Vm.findClass_spec k3
  obtain ⟨kC, hkC, -⟩ := hcls.2
  have hasg : s.vm.assignable ((fxD G).1 ci) comp = true := by
    rcases hca with h | h
    · subst h
      cases hcls.1.symm.trans k3
      exact va_assign hcls
    · obtain ⟨c0, t1, f1, f2, f3⟩ := Cond.castable_spec (hts _ h)
      cases hcls.1.symm.trans f1
      cases k3.symm.trans f2
      exact f3
  refine W.aast hx hb q1 (fun q h => by cases h) (fun h => by cases h) k1 k2 rfl hkE ⟨h0, by rw [arrV_size]; exact hlt⟩ g1 (fun q h => by rw [g3] at h; cases h) (by rw [g2]; exact hkC) (by rw [g2]; exact hasg) rfl rfl hd fun H1 e1 z oq => ?_
  exact k H1 _ sl cells slots (h1.ast ht ha z oq (by rw [e1, arrV_store])) (fx_locs h2 hba) h3 h4 h5
theorem r_aastoreN (C : fxC G d cc nL own nm ret hh x) {a t n : Nat} {i : Int32} {E : String} (hd : decode cc pc = .ok (.aastore, 1)) (ht : t < 100) (hty : fxAr[t]? = some (.object E)) (ha : fxk w a = some (100 + t, n)) (hi : vp_in i n) (k : fxR G nL x Q (fx_ast w t a i.toNatClampNeg .null) (pc + 1) ls st) : fxR G nL x Q w pc ls (.null :: .int i :: .ref a :: st) := by
  obtain ⟨p, e, R, s, m, args, below, meth, c, t0, u0⟩ := x
  obtain ⟨hx, hb, hml, hown, hts, hV, C2⟩ := C
  intro H locs sl cells slots h1 h2 h3 h4 h5
  obtain ⟨hba, ty', hty', q1⟩ := h1.arr ht ha
  cases hty'.symm.trans hty
  refine va_WaastN (C := E) hx hb q1 ((hV.1.2 t _ (fxT_at hty)).1 n _) (fun q => by cases q) (by rw [arrV_size]; exact hi) rfl rfl hd fun H1 e1 z oq => ?_
  exact k H1 _ sl cells slots (h1.ast ht ha z oq (by rw [e1, arrV_store])) (fx_locs h2 hba) h3 h4 h5
theorem r_newarr (C : fxC G d cc nL own nm ret hh x) {t N : Nat} {atype : ArrayType} {i : Int32} {z : Value} (hd : decode cc pc = .ok (.newarray atype, 2)) (ht : t < 100) (hty : fxAr[t]? = some (newarray.typeOf atype)) (hw : Cond.arrayClass (newarray.typeOf atype) ∈ fxTW) (hn : ¬ i < 0) (hN : i.toNatClampNeg = N) (hby : N * componentBytes (newarray.typeOf atype) ≤ 536870912) (hz : defaultValue (newarray.typeOf atype) = z) (h9 : fxt w + 1 ≤ fxmt G) (h8 : fxu w + N ≤ fxmu G) (k : fxR G nL x Q (fx_newa w t N z) (pc + 2) ls (.ref (fxt w) :: st)) : fxR G nL x Q w pc ls (.int i :: st) := by
  obtain ⟨p, e, R, s, m, args, below, meth, c, t0, u0⟩ := x
  obtain ⟨hx, hb, hml, hown, hts, hV, hrt, hlk, hnmn, hsz, hRc, hRs, C2⟩ := C
  intro H locs sl cells slots h1 h2 h3 h4 h5
  have h4' : t0 + cells = fxt w := h4
  have h5' : u0 + slots = fxu w := h5
  subst hz
  refine va_newaK hx hb (hts _ hw) rfl hd rfl hn hN hby (by omega) (by omega) h1.1 fun H1 cA e1 z1 o1 hAr hNm => ?_
  have hcA : cA = fxA G t := by
    have h7 := (hV.1.2 t _ (fxT_at hty)).2
    cases atype <;> exact Option.some.inj (hNm.symm.trans h7)
  subst hcA
  exact k H1 locs sl (cells + 1) (slots + N) (h1.newa ht hty z1 (fun q hq => o1 q hq) h9 h8 e1) h2 h3 (by show t0 + (cells + 1) = fxt w + 1; omega) (by show u0 + (slots + N) = fxu w + N; omega)
theorem r_anew (C : fxC G d cc nL own nm ret hh x) {t N idx : Nat} {i : Int32} {E : String} (hd : decode cc pc = .ok (.anewarray idx, 3)) (ht : t < 100) (hty : fxAr[t]? = some (.object E)) (hcl : Cond.classLink own idx E ∈ fxTW) (hov : Cond.arrayOver (.object E) ∈ fxTW) (hn : ¬ i < 0) (hN : i.toNatClampNeg = N) (hby : N * 4 ≤ 536870912) (h9 : fxt w + 1 ≤ fxmt G) (h8 : fxu w + N ≤ fxmu G) (k : fxR G nL x Q (fx_newa w t N .null) (pc + 3) ls (.ref (fxt w) :: st)) : fxR G nL x Q w pc ls (.int i :: st) := by
  obtain ⟨p, e, R, s, m, args, below, meth, c, t0, u0⟩ := x
  obtain ⟨hx, hb, hml, hown, hts, hV, hrt, hlk, hnmn, hsz, hRc, hRs, C2⟩ := C
  intro H locs sl cells slots h1 h2 h3 h4 h5
  have h4' : t0 + cells = fxt w := h4
  have h5' : u0 + slots = fxu w := h5
  subst hN
  refine W.anew hx hb hown (hts _ hcl) (hts _ hov) rfl hd rfl hn hby (by omega) (by omega) fun cA kA comp f1 f2 f3 f4 => ?_
  have hcA : cA = fxA G t := by
    obtain ⟨_, _, _, _, _, h7⟩ := (hV.1.2 t _ (fxT_at hty)).2
    exact Option.some.inj (f1.symm.trans h7)
  subst hcA
  have hHs : H.size = fxt w := h1.1
  refine cast ?_ (k (H.push ({ cls := fxA G t, slots := Array.replicate i.toNatClampNeg .null, vm := .none } : Cell)) locs sl (cells + 1) (slots + i.toNatClampNeg) (h1.newa ht hty (by rw [Array.size_push, hHs]) (fun q hq => by rw [Array.getElem?_push, if_neg (by omega)]) h9 h8 (by rw [← hHs, Array.getElem?_push_size, ← arrV_new])) h2 h3 (by show t0 + (cells + 1) = fxt w + 1; omega) (by show u0 + (slots + i.toNatClampNeg) = fxu w + i.toNatClampNeg; omega))
  rw [← hHs]
  rfl
theorem fx_mono {p : Program} {l : Launch} {e : Env} {R : Room} {s : State} {m : MethodId} {args : Array Value} {below : List Frame} {meth : Method} {c : Code} {H : Heap} {locs : List Loc} {cells slots : Nat} {Q Q' : State → Prop} {g : JFrame} (h : W p l e R s m args below meth c H locs cells slots Q g) (hq : ∀ t, Q t → Q' t) : W p l e R s m args below meth c H locs cells slots Q' g := fun T hT X => by
  obtain ⟨t, a, b⟩ := h T hT X
  exact ⟨t, a, hq t b⟩
theorem r_ireturn (C : fxC G d cc nL own nm ret hh x) {P : Outcome → fxW → Prop} {v : Int32} (hd : decode cc pc = .ok (.ireturn, 1)) (hr : ret = some .int) (k : P (.returned (some (.int v))) w) : fxR G nL x (fxQ G x P) w pc ls [.int v] := by
  obtain ⟨p, e, R, s, m, args, below, meth, c, t0, u0⟩ := x
  obtain ⟨hx, hb, hml, hown, hts, hV, hrt, hlk, C2⟩ := C
  intro H locs sl cells slots h1 h2 h3 h4 h5
  refine fx_mono (W.iret (v := v) hx hb (hrt.trans hr) (Qc := fun _ s' o t => o = .returned (some (.int v)) ∧ fxI G w t) (free := fun a => fxb G ≤ a) (fun t ht hW => ⟨rfl, by rw [fxI, ht]; exact ⟨h1, hV.moved hW⟩⟩) h2 hd hlk) ?_
  rintro t ⟨o, b1, b2, ⟨rfl, b3⟩, L, b4, b5⟩
  exact ⟨_, b1, b2, w, k, b3, L, cells, slots, b4.2.1, b4.2.2, b5, h4, h5⟩
theorem r_zreturn (C : fxC G d cc nL own nm ret hh x) {P : Outcome → fxW → Prop} {v : Int32} (hd : decode cc pc = .ok (.ireturn, 1)) {ty : FieldType} (hr : ret = some ty) (hn : narrow ty (.int v) = .int v) (k : P (.returned (some (.int v))) w) : fxR G nL x (fxQ G x P) w pc ls [.int v] := by
  obtain ⟨p, e, R, s, m, args, below, meth, c, t0, u0⟩ := x
  obtain ⟨hx, hb, hml, hown, hts, hV, hrt, hlk, C2⟩ := C
  intro H locs sl cells slots h1 h2 h3 h4 h5
  refine fx_mono (W.zret (v := v) hx hb (hrt.trans hr) hn (Qc := fun _ s' o t => o = .returned (some (.int v)) ∧ fxI G w t) (free := fun a => fxb G ≤ a) (fun t ht hW => ⟨rfl, by rw [fxI, ht]; exact ⟨h1, hV.moved hW⟩⟩) h2 hd hlk) ?_
  rintro t ⟨o, b1, b2, ⟨rfl, b3⟩, L, b4, b5⟩
  exact ⟨_, b1, b2, w, k, b3, L, cells, slots, b4.2.1, b4.2.2, b5, h4, h5⟩
theorem r_lreturn (C : fxC G d cc nL own nm ret hh x) {P : Outcome → fxW → Prop} {v : Int64} (hd : decode cc pc = .ok (.lreturn, 1)) (hr : ret = some .long) (k : P (.returned (some (.long v))) w) : fxR G nL x (fxQ G x P) w pc ls [.long v] := by
  obtain ⟨p, e, R, s, m, args, below, meth, c, t0, u0⟩ := x
  obtain ⟨hx, hb, hml, hown, hts, hV, hrt, hlk, C2⟩ := C
  intro H locs sl cells slots h1 h2 h3 h4 h5
  refine fx_mono (W.lret (v := v) hx hb (hrt.trans hr) (Qc := fun _ s' o t => o = .returned (some (.long v)) ∧ fxI G w t) (free := fun a => fxb G ≤ a) (fun t ht hW => ⟨rfl, by rw [fxI, ht]; exact ⟨h1, hV.moved hW⟩⟩) h2 hd hlk) ?_
  rintro t ⟨o, b1, b2, ⟨rfl, b3⟩, L, b4, b5⟩
  exact ⟨_, b1, b2, w, k, b3, L, cells, slots, b4.2.1, b4.2.2, b5, h4, h5⟩
theorem r_areturn (C : fxC G d cc nL own nm ret hh x) {P : Outcome → fxW → Prop} {v : Value} (hd : decode cc pc = .ok (.areturn, 1)) {ty : FieldType} (hr : ret = some ty) (hn : (∃ n, ty = .object n) ∨ ∃ t, ty = .array t) (hv : v = .null ∨ ∃ a, v = .ref a) (k : P (.returned (some v)) w) : fxR G nL x (fxQ G x P) w pc ls [v] := by
  obtain ⟨p, e, R, s, m, args, below, meth, c, t0, u0⟩ := x
  obtain ⟨hx, hb, hml, hown, hts, hV, hrt, hlk, C2⟩ := C
  intro H locs sl cells slots h1 h2 h3 h4 h5
  refine fx_mono (W.aret (v := v) hx hb (hrt.trans hr) hn hv (Qc := fun _ s' o t => o = .returned (some v) ∧ fxI G w t) (free := fun a => fxb G ≤ a) (fun t ht hW => ⟨rfl, by rw [fxI, ht]; exact ⟨h1, hV.moved hW⟩⟩) h2 hd hlk) ?_
  rintro t ⟨o, b1, b2, ⟨rfl, b3⟩, L, b4, b5⟩
  exact ⟨_, b1, b2, w, k, b3, L, cells, slots, b4.2.1, b4.2.2, b5, h4, h5⟩
theorem r_return (C : fxC G d cc nL own nm ret hh x) {P : Outcome → fxW → Prop} (hd : decode cc pc = .ok (.return_, 1)) (hr : ret = none) (k : P (.returned (none)) w) : fxR G nL x (fxQ G x P) w pc ls [] := by
  obtain ⟨p, e, R, s, m, args, below, meth, c, t0, u0⟩ := x
  obtain ⟨hx, hb, hml, hown, hts, hV, hrt, hlk, C2⟩ := C
  intro H locs sl cells slots h1 h2 h3 h4 h5
  refine fx_mono (W.vret hx hb (hrt.trans hr) (Qc := fun _ s' o t => o = .returned (none) ∧ fxI G w t) (free := fun a => fxb G ≤ a) (fun t ht hW => ⟨rfl, by rw [fxI, ht]; exact ⟨h1, hV.moved hW⟩⟩) h2 hd hlk) ?_
  rintro t ⟨o, b1, b2, ⟨rfl, b3⟩, L, b4, b5⟩
  exact ⟨_, b1, b2, w, k, b3, L, cells, slots, b4.2.1, b4.2.2, b5, h4, h5⟩
end FXH

/-! MORE ROWS: a compare of longs and its branch; ends of contracts -/
section FXM
variable {G : fxG} {d nL : Nat} {cc : ByteArray} {own nm : String} {ret : Option FieldType} {hh : List (Nat × Nat × Nat × Nat)} {x : fxX} {Q : State → Prop} {w : fxW} {pc : Nat} {ls : List (Nat × Value)} {st : List Value}
theorem zr_lif_eq (C : fxC G d cc nL own nm ret hh x) {a b : Int64} {off : Int} {tgt : Nat} (hd1 : decode cc pc = .ok (.lcmp, 1)) (hd2 : decode cc (pc + 1) = .ok (.ifCond .eq off, 3)) (ht : ((pc + 1 : Nat) : Int) + off = (tgt : Int)) (k1 : a = b → fxR G nL x Q w tgt ls st) (k2 : ¬ a = b → fxR G nL x Q w (pc + 4) ls st) : fxR G nL x Q w pc ls (.long b :: .long a :: st) := r_lcmp C hd1 (r_if_eq C hd2 ht (fun h => k1 ((lg_cmp_eq a b).mp h)) (fun h => k2 (fun q => h ((lg_cmp_eq a b).mpr q))))
theorem zr_lif_ne (C : fxC G d cc nL own nm ret hh x) {a b : Int64} {off : Int} {tgt : Nat} (hd1 : decode cc pc = .ok (.lcmp, 1)) (hd2 : decode cc (pc + 1) = .ok (.ifCond .ne off, 3)) (ht : ((pc + 1 : Nat) : Int) + off = (tgt : Int)) (k1 : ¬ a = b → fxR G nL x Q w tgt ls st) (k2 : a = b → fxR G nL x Q w (pc + 4) ls st) : fxR G nL x Q w pc ls (.long b :: .long a :: st) := r_lcmp C hd1 (r_if_ne C hd2 ht (fun h => k1 ((not_congr (lg_cmp_eq a b)).mp h)) (fun h => k2 ((lg_cmp_eq a b).mp h)))
theorem zr_lif_lt (C : fxC G d cc nL own nm ret hh x) {a b : Int64} {off : Int} {tgt : Nat} (hd1 : decode cc pc = .ok (.lcmp, 1)) (hd2 : decode cc (pc + 1) = .ok (.ifCond .lt off, 3)) (ht : ((pc + 1 : Nat) : Int) + off = (tgt : Int)) (k1 : a < b → fxR G nL x Q w tgt ls st) (k2 : ¬ a < b → fxR G nL x Q w (pc + 4) ls st) : fxR G nL x Q w pc ls (.long b :: .long a :: st) := r_lcmp C hd1 (r_if_lt C hd2 ht (fun h => k1 ((lg_cmp_lt a b).mp h)) (fun h => k2 (fun q => h ((lg_cmp_lt a b).mpr q))))
theorem zr_lif_ge (C : fxC G d cc nL own nm ret hh x) {a b : Int64} {off : Int} {tgt : Nat} (hd1 : decode cc pc = .ok (.lcmp, 1)) (hd2 : decode cc (pc + 1) = .ok (.ifCond .ge off, 3)) (ht : ((pc + 1 : Nat) : Int) + off = (tgt : Int)) (k1 : b ≤ a → fxR G nL x Q w tgt ls st) (k2 : ¬ b ≤ a → fxR G nL x Q w (pc + 4) ls st) : fxR G nL x Q w pc ls (.long b :: .long a :: st) := r_lcmp C hd1 (r_if_ge C hd2 ht (fun h => k1 ((lg_cmp_ge a b).mp h)) (fun h => k2 (fun q => h ((lg_cmp_ge a b).mpr q))))
theorem zr_lif_gt (C : fxC G d cc nL own nm ret hh x) {a b : Int64} {off : Int} {tgt : Nat} (hd1 : decode cc pc = .ok (.lcmp, 1)) (hd2 : decode cc (pc + 1) = .ok (.ifCond .gt off, 3)) (ht : ((pc + 1 : Nat) : Int) + off = (tgt : Int)) (k1 : b < a → fxR G nL x Q w tgt ls st) (k2 : ¬ b < a → fxR G nL x Q w (pc + 4) ls st) : fxR G nL x Q w pc ls (.long b :: .long a :: st) := r_lcmp C hd1 (r_if_gt C hd2 ht (fun h => k1 ((lg_cmp_gt a b).mp h)) (fun h => k2 (fun q => h ((lg_cmp_gt a b).mpr q))))
theorem zr_lif_le (C : fxC G d cc nL own nm ret hh x) {a b : Int64} {off : Int} {tgt : Nat} (hd1 : decode cc pc = .ok (.lcmp, 1)) (hd2 : decode cc (pc + 1) = .ok (.ifCond .le off, 3)) (ht : ((pc + 1 : Nat) : Int) + off = (tgt : Int)) (k1 : a ≤ b → fxR G nL x Q w tgt ls st) (k2 : ¬ a ≤ b → fxR G nL x Q w (pc + 4) ls st) : fxR G nL x Q w pc ls (.long b :: .long a :: st) := r_lcmp C hd1 (r_if_le C hd2 ht (fun h => k1 ((lg_cmp_le a b).mp h)) (fun h => k2 (fun q => h ((lg_cmp_le a b).mpr q))))
theorem r_dup2 (C : fxC G d cc nL own nm ret hh x) {a b : Value} (hd : decode cc pc = .ok (.dup2, 1)) (ha : a.category = 1) (hb : b.category = 1) (k : fxR G nL x Q w (pc + 1) ls (a :: b :: a :: b :: st)) : fxR G nL x Q w pc ls (a :: b :: st) := by
  obtain ⟨p, e, R, s, m, args, below, meth, c, t0, u0⟩ := x
  obtain ⟨hx, hb', C2⟩ := C
  exact fx_lift (fun H locs sl cells slots h3 kk => lv_dup2_11 hx hb' hd ha hb kk) k
/-- the answer v, and nothing else -/
def fxPure (v : Value) (w : fxW) : Outcome → fxW → Prop := fun o w' => o = .returned (some v) ∧ w' = w
def fxRet (S : Value → fxW → Prop) : Outcome → fxW → Prop := fun o w' => ∃ v, o = .returned (some v) ∧ S v w'
def fxVoid (S : fxW → Prop) : Outcome → fxW → Prop := fun o w' => o = .returned none ∧ S w'
theorem fxPure.k1 {v : Value} (k : fxR G nL x Q w pc ls (v :: st)) : ∀ v' w', fxPure v w (.returned v') w' → fxR G nL x Q w' pc ls (v'.toList ++ st) := by
  rintro v' w' ⟨h, rfl⟩
  cases h
  exact k
theorem fxPure.k2 {v : Value} {w0 : fxW} : ∀ a w', fxPure v w0 (.threw a) w' → fxRt G nL x Q w' pc ls st a := by
  rintro a w' ⟨h, -⟩
  cases h
theorem fxRet.k1 {S : Value → fxW → Prop} (k : ∀ v w', S v w' → fxR G nL x Q w' pc ls (v :: st)) : ∀ v' w', fxRet S (.returned v') w' → fxR G nL x Q w' pc ls (v'.toList ++ st) := by
  rintro v' w' ⟨v, h, hS⟩
  cases h
  exact k v w' hS
theorem fxRet.k2 {S : Value → fxW → Prop} : ∀ a w', fxRet S (.threw a) w' → fxRt G nL x Q w' pc ls st a := by
  rintro a w' ⟨v, h, -⟩
  cases h
theorem fxVoid.k1 {S : fxW → Prop} (k : ∀ w', S w' → fxR G nL x Q w' pc ls st) : ∀ v' w', fxVoid S (.returned v') w' → fxR G nL x Q w' pc ls (v'.toList ++ st) := by
  rintro v' w' ⟨h, hS⟩
  cases h
  exact k w' hS
theorem fxVoid.k2 {S : fxW → Prop} : ∀ a w', fxVoid S (.threw a) w' → fxRt G nL x Q w' pc ls st a := by
  rintro a w' ⟨h, -⟩
  cases h
/-- a boolean's answer -/
theorem zr_zreturn (C : fxC G d cc nL own nm (some .boolean) hh x) {P : Outcome → fxW → Prop} {v : Int} (hv : v = 0 ∨ v = 1) (hd : decode cc pc = .ok (.ireturn, 1)) (k : P (.returned (some (zi v))) w) : fxR G nL x (fxQ G x P) w pc ls [zi v] := by
  rcases hv with rfl | rfl
  · exact r_zreturn C hd rfl (by decide) k
  · exact r_zreturn C hd rfl (by decide) k
end FXM
/-- what an element of the type ty keeps of v -/
def keptF (ty : Int) (v : Int64) : Int64 := if ty = 0 then v.toInt32.toInt8.toInt32.toInt64 else if ty = 1 then v.toInt32.toInt16.toInt32.toInt64 else if ty = 2 then v.toInt32.toInt64 else if ty = 3 then v else if v < -524288 then -524288 else if 524288 < v then 524288 else v
def bI (p : Prop) [Decidable p] : Int := if p then 1 else 0
theorem bI_01 (p : Prop) [Decidable p] : bI p = 0 ∨ bI p = 1 := by unfold bI; split <;> simp
theorem bI_t {p : Prop} [Decidable p] (h : p) : bI p = 1 := if_pos h
theorem bI_f {p : Prop} [Decidable p] (h : ¬ p) : bI p = 0 := if_neg h

/-! INTS AS INTEGERS: zi e is the Java int of the Int e; within bounds compares are those of the integers -/
abbrev zi (e : Int) : Value := .int (Int32.ofInt e)
def zok (a : Int) : Prop := -2147483648 ≤ a ∧ a < 2147483648
theorem zok_toInt {a : Int} (h : zok a) : (Int32.ofInt a).toInt = a := by
  rw [Int32.toInt_ofInt, show Int32.size = 4294967296 from rfl]
  obtain ⟨h1, h2⟩ := h
  exact Int.bmod_eq_of_le (by omega) (by omega)
theorem zi_all (x : Int32) : x = Int32.ofInt x.toInt := by simp
theorem zok_all (x : Int32) : zok x.toInt := ⟨by have := Int32.le_toInt x; simpa using this, by have := Int32.toInt_lt x; simpa using this⟩
theorem z_add (a b : Int) : Int32.ofInt a + Int32.ofInt b = Int32.ofInt (a + b) := (Int32.ofInt_add a b).symm
theorem z_sub (a b : Int) : Int32.ofInt a - Int32.ofInt b = Int32.ofInt (a - b) := (Int32.ofInt_sub a b).symm
theorem z_mul (a b : Int) : Int32.ofInt a * Int32.ofInt b = Int32.ofInt (a * b) := (Int32.ofInt_mul a b).symm
theorem z_lt {a b : Int} (ha : zok a) (hb : zok b) : Int32.ofInt a < Int32.ofInt b ↔ a < b := by rw [Int32.lt_iff_toInt_lt, zok_toInt ha, zok_toInt hb]
theorem z_le {a b : Int} (ha : zok a) (hb : zok b) : Int32.ofInt a ≤ Int32.ofInt b ↔ a ≤ b := by rw [Int32.le_iff_toInt_le, zok_toInt ha, zok_toInt hb]
theorem z_eq {a b : Int} (ha : zok a) (hb : zok b) : Int32.ofInt a = Int32.ofInt b ↔ a = b := by
  constructor
  · intro h
    rw [← zok_toInt ha, ← zok_toInt hb, h]
  · intro h; rw [h]
theorem z_0 : (0 : Int32) = Int32.ofInt 0 := rfl
theorem z_nat (n : Nat) : Int32.ofNat n = Int32.ofInt (n : Int) := by
  apply Int32.toInt_inj.mp
  rw [Int32.toInt_ofNat', Int32.toInt_ofInt]
theorem z_in {j : Int} {k n : Nat} (hj : j = (k : Int)) (hk : k < n) (hn : n < 2147483648) : vp_in (Int32.ofInt j) n ∧ (Int32.ofInt j).toNatClampNeg = k := by
  subst hj
  rw [← z_nat]
  exact ⟨vp_in_nI hk hn, nI_clamp (by omega)⟩
theorem z_l {a : Int} (h : zok a) : (Int32.ofInt a).toInt64 = Int64.ofInt a := by
  apply Int64.toInt_inj.mp
  obtain ⟨h1, h2⟩ := h
  rw [Int32.toInt_toInt64, zok_toInt ⟨h1, h2⟩, Int64.toInt_ofInt, show Int64.size = 18446744073709551616 from rfl]
  exact (Int.bmod_eq_of_le (by omega) (by omega)).symm
section FXZ
variable {G : fxG} {d nL : Nat} {cc : ByteArray} {own nm : String} {ret : Option FieldType} {hh : List (Nat × Nat × Nat × Nat)} {x : fxX} {Q : State → Prop} {w : fxW} {pc : Nat} {ls : List (Nat × Value)} {st : List Value}

theorem zr_iadd (C : fxC G d cc nL own nm ret hh x) {a b : Int} (hd : decode cc pc = .ok (.iadd, 1)) (k : fxR G nL x Q w (pc + 1) ls (zi (a + b) :: st)) : fxR G nL x Q w pc ls (zi b :: zi a :: st) := r_iadd C hd (by rw [z_add]; exact k)
theorem zr_isub (C : fxC G d cc nL own nm ret hh x) {a b : Int} (hd : decode cc pc = .ok (.isub, 1)) (k : fxR G nL x Q w (pc + 1) ls (zi (a - b) :: st)) : fxR G nL x Q w pc ls (zi b :: zi a :: st) := r_isub C hd (by rw [z_sub]; exact k)
theorem zr_imul (C : fxC G d cc nL own nm ret hh x) {a b : Int} (hd : decode cc pc = .ok (.imul, 1)) (k : fxR G nL x Q w (pc + 1) ls (zi (a * b) :: st)) : fxR G nL x Q w pc ls (zi b :: zi a :: st) := r_imul C hd (by rw [z_mul]; exact k)
theorem zr_iinc (C : fxC G d cc nL own nm ret hh x) {i : Nat} {n y : Int} {ls' : List (Nat × Value)} (hd : decode cc pc = .ok (.iinc i n, 3)) (hy : fxL ls i = some (zi y)) (hn : i < nL) (hl : fxS1 i (zi (y + n)) ls = ls') (k : fxR G nL x Q w (pc + 3) ls' st) : fxR G nL x Q w pc ls st := r_iinc C hd hy (z_add y n) hn hl k
theorem zr_icmp_eq (C : fxC G d cc nL own nm ret hh x) {a b : Int} {off : Int} {tgt : Nat} (hd : decode cc pc = .ok (.if_icmp .eq off, 3)) (ht : (pc : Int) + off = (tgt : Int)) (ha : zok a) (hb : zok b) (k1 : a = b → fxR G nL x Q w tgt ls st) (k2 : ¬ a = b → fxR G nL x Q w (pc + 3) ls st) : fxR G nL x Q w pc ls (zi b :: zi a :: st) := r_icmp_eq C hd ht (fun h => k1 ((z_eq ha hb).mp h)) (fun h => k2 (fun q => h ((z_eq ha hb).mpr q)))
theorem zr_if_eq (C : fxC G d cc nL own nm ret hh x) {a : Int} {off : Int} {tgt : Nat} (hd : decode cc pc = .ok (.ifCond .eq off, 3)) (ht : (pc : Int) + off = (tgt : Int)) (ha : zok a) (k1 : a = 0 → fxR G nL x Q w tgt ls st) (k2 : ¬ a = 0 → fxR G nL x Q w (pc + 3) ls st) : fxR G nL x Q w pc ls (zi a :: st) := by
  have hb : zok 0 := ⟨by decide, by decide⟩
  exact r_if_eq C hd ht (fun h => k1 ((z_eq ha hb).mp h)) (fun h => k2 (fun q => h ((z_eq ha hb).mpr q)))
theorem zr_icmp_ne (C : fxC G d cc nL own nm ret hh x) {a b : Int} {off : Int} {tgt : Nat} (hd : decode cc pc = .ok (.if_icmp .ne off, 3)) (ht : (pc : Int) + off = (tgt : Int)) (ha : zok a) (hb : zok b) (k1 : ¬ a = b → fxR G nL x Q w tgt ls st) (k2 : a = b → fxR G nL x Q w (pc + 3) ls st) : fxR G nL x Q w pc ls (zi b :: zi a :: st) := r_icmp_ne C hd ht (fun h => k1 ((not_congr (z_eq ha hb)).mp h)) (fun h => k2 ((z_eq ha hb).mp h))
theorem zr_if_ne (C : fxC G d cc nL own nm ret hh x) {a : Int} {off : Int} {tgt : Nat} (hd : decode cc pc = .ok (.ifCond .ne off, 3)) (ht : (pc : Int) + off = (tgt : Int)) (ha : zok a) (k1 : ¬ a = 0 → fxR G nL x Q w tgt ls st) (k2 : a = 0 → fxR G nL x Q w (pc + 3) ls st) : fxR G nL x Q w pc ls (zi a :: st) := by
  have hb : zok 0 := ⟨by decide, by decide⟩
  exact r_if_ne C hd ht (fun h => k1 ((not_congr (z_eq ha hb)).mp h)) (fun h => k2 ((z_eq ha hb).mp h))
theorem zr_icmp_lt (C : fxC G d cc nL own nm ret hh x) {a b : Int} {off : Int} {tgt : Nat} (hd : decode cc pc = .ok (.if_icmp .lt off, 3)) (ht : (pc : Int) + off = (tgt : Int)) (ha : zok a) (hb : zok b) (k1 : a < b → fxR G nL x Q w tgt ls st) (k2 : ¬ a < b → fxR G nL x Q w (pc + 3) ls st) : fxR G nL x Q w pc ls (zi b :: zi a :: st) := r_icmp_lt C hd ht (fun h => k1 ((z_lt ha hb).mp h)) (fun h => k2 (fun q => h ((z_lt ha hb).mpr q)))
theorem zr_if_lt (C : fxC G d cc nL own nm ret hh x) {a : Int} {off : Int} {tgt : Nat} (hd : decode cc pc = .ok (.ifCond .lt off, 3)) (ht : (pc : Int) + off = (tgt : Int)) (ha : zok a) (k1 : a < 0 → fxR G nL x Q w tgt ls st) (k2 : ¬ a < 0 → fxR G nL x Q w (pc + 3) ls st) : fxR G nL x Q w pc ls (zi a :: st) := by
  have hb : zok 0 := ⟨by decide, by decide⟩
  exact r_if_lt C hd ht (fun h => k1 ((z_lt ha hb).mp h)) (fun h => k2 (fun q => h ((z_lt ha hb).mpr q)))
theorem zr_icmp_ge (C : fxC G d cc nL own nm ret hh x) {a b : Int} {off : Int} {tgt : Nat} (hd : decode cc pc = .ok (.if_icmp .ge off, 3)) (ht : (pc : Int) + off = (tgt : Int)) (ha : zok a) (hb : zok b) (k1 : b ≤ a → fxR G nL x Q w tgt ls st) (k2 : ¬ b ≤ a → fxR G nL x Q w (pc + 3) ls st) : fxR G nL x Q w pc ls (zi b :: zi a :: st) := r_icmp_ge C hd ht (fun h => k1 ((z_le hb ha).mp h)) (fun h => k2 (fun q => h ((z_le hb ha).mpr q)))
theorem zr_if_ge (C : fxC G d cc nL own nm ret hh x) {a : Int} {off : Int} {tgt : Nat} (hd : decode cc pc = .ok (.ifCond .ge off, 3)) (ht : (pc : Int) + off = (tgt : Int)) (ha : zok a) (k1 : 0 ≤ a → fxR G nL x Q w tgt ls st) (k2 : ¬ 0 ≤ a → fxR G nL x Q w (pc + 3) ls st) : fxR G nL x Q w pc ls (zi a :: st) := by
  have hb : zok 0 := ⟨by decide, by decide⟩
  exact r_if_ge C hd ht (fun h => k1 ((z_le hb ha).mp h)) (fun h => k2 (fun q => h ((z_le hb ha).mpr q)))
theorem zr_icmp_gt (C : fxC G d cc nL own nm ret hh x) {a b : Int} {off : Int} {tgt : Nat} (hd : decode cc pc = .ok (.if_icmp .gt off, 3)) (ht : (pc : Int) + off = (tgt : Int)) (ha : zok a) (hb : zok b) (k1 : b < a → fxR G nL x Q w tgt ls st) (k2 : ¬ b < a → fxR G nL x Q w (pc + 3) ls st) : fxR G nL x Q w pc ls (zi b :: zi a :: st) := r_icmp_gt C hd ht (fun h => k1 ((z_lt hb ha).mp h)) (fun h => k2 (fun q => h ((z_lt hb ha).mpr q)))
theorem zr_if_gt (C : fxC G d cc nL own nm ret hh x) {a : Int} {off : Int} {tgt : Nat} (hd : decode cc pc = .ok (.ifCond .gt off, 3)) (ht : (pc : Int) + off = (tgt : Int)) (ha : zok a) (k1 : 0 < a → fxR G nL x Q w tgt ls st) (k2 : ¬ 0 < a → fxR G nL x Q w (pc + 3) ls st) : fxR G nL x Q w pc ls (zi a :: st) := by
  have hb : zok 0 := ⟨by decide, by decide⟩
  exact r_if_gt C hd ht (fun h => k1 ((z_lt hb ha).mp h)) (fun h => k2 (fun q => h ((z_lt hb ha).mpr q)))
theorem zr_icmp_le (C : fxC G d cc nL own nm ret hh x) {a b : Int} {off : Int} {tgt : Nat} (hd : decode cc pc = .ok (.if_icmp .le off, 3)) (ht : (pc : Int) + off = (tgt : Int)) (ha : zok a) (hb : zok b) (k1 : a ≤ b → fxR G nL x Q w tgt ls st) (k2 : ¬ a ≤ b → fxR G nL x Q w (pc + 3) ls st) : fxR G nL x Q w pc ls (zi b :: zi a :: st) := r_icmp_le C hd ht (fun h => k1 ((z_le ha hb).mp h)) (fun h => k2 (fun q => h ((z_le ha hb).mpr q)))
theorem zr_if_le (C : fxC G d cc nL own nm ret hh x) {a : Int} {off : Int} {tgt : Nat} (hd : decode cc pc = .ok (.ifCond .le off, 3)) (ht : (pc : Int) + off = (tgt : Int)) (ha : zok a) (k1 : a ≤ 0 → fxR G nL x Q w tgt ls st) (k2 : ¬ a ≤ 0 → fxR G nL x Q w (pc + 3) ls st) : fxR G nL x Q w pc ls (zi a :: st) := by
  have hb : zok 0 := ⟨by decide, by decide⟩
  exact r_if_le C hd ht (fun h => k1 ((z_le ha hb).mp h)) (fun h => k2 (fun q => h ((z_le ha hb).mpr q)))
theorem zr_iaload (C : fxC G d cc nL own nm ret hh x) {a t n k : Nat} {j : Int} {v : Value} (hd : decode cc pc = .ok (.iaload, 1)) (ht : t < 100) (hty : fxAr[t]? = some .int) (ha : fxk w a = some (100 + t, n) ∨ fxk w a = some (200 + t, n)) (hj : j = (k : Int)) (hk : k < n) (hn : n < 2147483648) (hv : fxe w t a k = v) (kk : fxR G nL x Q w (pc + 1) ls (v :: st)) : fxR G nL x Q w pc ls (zi j :: .ref a :: st) := r_iaload C hd ht hty ha (z_in hj hk hn).1 (by rw [(z_in hj hk hn).2]; exact hv) kk
theorem zr_laload (C : fxC G d cc nL own nm ret hh x) {a t n k : Nat} {j : Int} {v : Value} (hd : decode cc pc = .ok (.laload, 1)) (ht : t < 100) (hty : fxAr[t]? = some .long) (ha : fxk w a = some (100 + t, n) ∨ fxk w a = some (200 + t, n)) (hj : j = (k : Int)) (hk : k < n) (hn : n < 2147483648) (hv : fxe w t a k = v) (kk : fxR G nL x Q w (pc + 1) ls (v :: st)) : fxR G nL x Q w pc ls (zi j :: .ref a :: st) := r_laload C hd ht hty ha (z_in hj hk hn).1 (by rw [(z_in hj hk hn).2]; exact hv) kk
theorem zr_aaload (C : fxC G d cc nL own nm ret hh x) {a t n k : Nat} {j : Int} {v : Value} {ty : FieldType} (hd : decode cc pc = .ok (.aaload, 1)) (ht : t < 100) (hty : fxAr[t]? = some ty) (href : ty.isReference = true) (ha : fxk w a = some (100 + t, n) ∨ fxk w a = some (200 + t, n)) (hj : j = (k : Int)) (hk : k < n) (hn : n < 2147483648) (hv : fxe w t a k = v) (kk : fxR G nL x Q w (pc + 1) ls (v :: st)) : fxR G nL x Q w pc ls (zi j :: .ref a :: st) := r_aaload C hd ht hty href ha (z_in hj hk hn).1 (by rw [(z_in hj hk hn).2]; exact hv) kk
theorem zr_iastore (C : fxC G d cc nL own nm ret hh x) {a t n k : Nat} {j : Int} {v : Int32} (hd : decode cc pc = .ok (.iastore, 1)) (ht : t < 100) (hty : fxAr[t]? = some .int) (ha : fxk w a = some (100 + t, n)) (hj : j = (k : Int)) (hk : k < n) (hn : n < 2147483648) (kk : fxR G nL x Q (fx_ast w t a k (.int v)) (pc + 1) ls st) : fxR G nL x Q w pc ls (.int v :: zi j :: .ref a :: st) := r_iastore C hd ht hty ha (z_in hj hk hn).1 (by rw [(z_in hj hk hn).2]; exact kk)
theorem zr_lastore (C : fxC G d cc nL own nm ret hh x) {a t n k : Nat} {j : Int} {v : Int64} (hd : decode cc pc = .ok (.lastore, 1)) (ht : t < 100) (hty : fxAr[t]? = some .long) (ha : fxk w a = some (100 + t, n)) (hj : j = (k : Int)) (hk : k < n) (hn : n < 2147483648) (kk : fxR G nL x Q (fx_ast w t a k (.long v)) (pc + 1) ls st) : fxR G nL x Q w pc ls (.long v :: zi j :: .ref a :: st) := r_lastore C hd ht hty ha (z_in hj hk hn).1 (by rw [(z_in hj hk hn).2]; exact kk)
theorem zr_aastore (C : fxC G d cc nL own nm ret hh x) {a b t n n' ci k : Nat} {j : Int} {r : vw_C} {E : String} (hd : decode cc pc = .ok (.aastore, 1)) (ht : t < 100) (hty : fxAr[t]? = some (.object E)) (ha : fxk w a = some (100 + t, n)) (hb9 : fxk w b = some (ci, n')) (hci : ci < 100) (hc : fxCl[ci]? = some r) (hca : r.1 = E ∨ Cond.castable r.1 E ∈ fxTW) (hj : j = (k : Int)) (hk : k < n) (hn : n < 2147483648) (kk : fxR G nL x Q (fx_ast w t a k (.ref b)) (pc + 1) ls st) : fxR G nL x Q w pc ls (.ref b :: zi j :: .ref a :: st) := r_aastore C hd ht hty ha hb9 hci hc hca (z_in hj hk hn).1 (by rw [(z_in hj hk hn).2]; exact kk)
theorem zr_aastoreN (C : fxC G d cc nL own nm ret hh x) {a t n k : Nat} {j : Int} {E : String} (hd : decode cc pc = .ok (.aastore, 1)) (ht : t < 100) (hty : fxAr[t]? = some (.object E)) (ha : fxk w a = some (100 + t, n)) (hj : j = (k : Int)) (hk : k < n) (hn : n < 2147483648) (kk : fxR G nL x Q (fx_ast w t a k .null) (pc + 1) ls st) : fxR G nL x Q w pc ls (.null :: zi j :: .ref a :: st) := r_aastoreN C hd ht hty ha (z_in hj hk hn).1 (by rw [(z_in hj hk hn).2]; exact kk)
theorem zr_alen (C : fxC G d cc nL own nm ret hh x) {a t n : Nat} (hd : decode cc pc = .ok (.arraylength, 1)) (ht : t < 100) (ha : fxk w a = some (100 + t, n) ∨ fxk w a = some (200 + t, n)) (k : fxR G nL x Q w (pc + 1) ls (zi (n : Int) :: st)) : fxR G nL x Q w pc ls (.ref a :: st) := r_alen C hd ht ha (z_nat n) k
theorem zr_tableIn (C : fxC G d cc nL own nm ret hh x) {dflt lo hi : Int} {offs : Array Int} {len : Nat} {a : Int} {off : Int} {tgt : Nat} (hd : decode cc pc = .ok (.tableswitch dflt lo hi offs, len)) (ha : zok a) (h1 : lo ≤ a) (h2 : a ≤ hi) (ho : offs[(a - lo).toNat]? = some off) (ht : (pc : Int) + off = (tgt : Int)) (k : fxR G nL x Q w tgt ls st) : fxR G nL x Q w pc ls (zi a :: st) := r_tableIn C hd (by rw [zok_toInt ha]; omega) (by rw [zok_toInt ha]; omega) (by rw [zok_toInt ha]; exact ho) ht k
theorem zr_tableOut (C : fxC G d cc nL own nm ret hh x) {dflt lo hi : Int} {offs : Array Int} {len : Nat} {a : Int} {tgt : Nat} (hd : decode cc pc = .ok (.tableswitch dflt lo hi offs, len)) (ha : zok a) (h1 : a < lo ∨ hi < a) (ht : (pc : Int) + dflt = (tgt : Int)) (k : fxR G nL x Q w tgt ls st) : fxR G nL x Q w pc ls (zi a :: st) := r_tableOut C hd (by rw [zok_toInt ha]; exact h1) ht k
end FXZ

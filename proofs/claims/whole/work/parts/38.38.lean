/-! A DIVISION OF NUMBERS THAT AREN'T NEGATIVE -/
theorem z_div {a b : Int} (ha : 0 ≤ a) (ha2 : zok a) (hb : 0 < b) (hb2 : zok b) : Int32.ofInt a / Int32.ofInt b = Int32.ofInt (a / b) := by
  obtain ⟨a1, a2⟩ := ha2
  obtain ⟨b1, b2⟩ := hb2
  rw [← Int.tdiv_eq_ediv_of_nonneg ha]
  refine (Int32.ofInt_tdiv ?_ ?_ ?_ ?_).symm
  · exact a1
  · show a ≤ 2147483647; omega
  · exact b1
  · show b ≤ 2147483647; omega
theorem z_ne0 {b : Int} (hb : 0 < b) (hb2 : zok b) : ¬ Int32.ofInt b = 0 := by
  rw [z_0, z_eq hb2 ⟨by decide, by decide⟩]; omega
section FXD
variable {G : fxG} {d nL : Nat} {cc : ByteArray} {own nm : String} {ret : Option FieldType} {hh : List (Nat × Nat × Nat × Nat)} {x : fxX} {Q : State → Prop} {w : fxW} {pc : Nat} {ls : List (Nat × Value)} {st : List Value}
theorem zr_idiv (C : fxC G d cc nL own nm ret hh x) {a b : Int} (hd : decode cc pc = .ok (.idiv, 1)) (ha : 0 ≤ a) (ha2 : zok a) (hb : 0 < b) (hb2 : zok b) (k : fxR G nL x Q w (pc + 1) ls (zi (a / b) :: st)) : fxR G nL x Q w pc ls (zi b :: zi a :: st) :=
  r_idiv C hd (z_ne0 hb hb2) (by rw [z_div ha ha2 hb hb2]; exact k)
theorem zr_irem (C : fxC G d cc nL own nm ret hh x) {a b : Int} (hd : decode cc pc = .ok (.irem, 1)) (ha : 0 ≤ a) (ha2 : zok a) (hb : 0 < b) (hb2 : zok b) (k : fxR G nL x Q w (pc + 1) ls (zi (a % b) :: st)) : fxR G nL x Q w pc ls (zi b :: zi a :: st) :=
  r_irem C hd (z_ne0 hb hb2) (by rw [z_div ha ha2 hb hb2, z_mul, z_sub, show a - a / b * b = a % b by rw [Int.emod_def, Int.mul_comm]]; exact k)
end FXD

/-! WHAT THE ROWS AND THE REFERENCE DO ALIKE -/
theorem rowG_sq (S : Ms) (a k : Nat) (v : Int64) : rowG (sq S 4 (24 * a + k) v) a = gU (rowG S a) k v := by
  funext x
  show (sq S 4 (24 * a + k) v).2 4 (24 * a + x) = (if x = k then v else S.2 4 (24 * a + x))
  by_cases e : x = k
  · subst e; rw [sq_same, if_pos rfl]
  · rw [sq_j _ _ _ (by omega), if_neg e]
/-- only the row a changes -/
def Oth (a : Nat) (S S' : Ms) : Prop := S'.1 = S.1 ∧ (∀ c, c ≠ 4 → S'.2 c = S.2 c) ∧ ∀ b k, b ≠ a → k < 24 → S'.2 4 (24 * b + k) = S.2 4 (24 * b + k)
theorem Oth.rf {a : Nat} {S : Ms} : Oth a S S := ⟨rfl, fun _ _ => rfl, fun _ _ _ _ => rfl⟩
theorem Oth.tr {a : Nat} {S S' S'' : Ms} (h : Oth a S S') (h' : Oth a S' S'') : Oth a S S'' := ⟨h'.1.trans h.1, fun c hc => (h'.2.1 c hc).trans (h.2.1 c hc), fun b k hb hk => (h'.2.2 b k hb hk).trans (h.2.2 b k hb hk)⟩
theorem Oth.sq {a k : Nat} {S : Ms} (hk : k < 24) (v : Int64) : Oth a S (sq S 4 (24 * a + k) v) := ⟨rfl, fun c hc => funext fun x => sq_k _ _ _ _ hc, fun b x hb hx => sq_j _ _ _ (by omega)⟩
theorem spr_eq {j a : Nat} {ty : Int} : ∀ (n k : Nat) (s : Int64) (S : Ms), k + n ≤ 24 → ¬ S.1 5 j = 1 → mTy S j = ty → rowG (sprF j (24 * a) k n s S) a = sprG ty k n s (rowG S a) ∧ Oth a S (sprF j (24 * a) k n s S) := by
  intro n
  induction n with
  | zero => intro k s S _ _ _; exact ⟨rfl, Oth.rf⟩
  | succ n ih =>
    intro k s S h1 h2 h3
    have ej : joinF S j s (S.2 4 (24 * a + k)) = keptF ty (s + rowG S a k) := by unfold joinF; rw [if_neg h2, h3]; rfl
    have := ih (k + 1) (joinF S j s (S.2 4 (24 * a + k))) (sq S 4 (24 * a + k) (joinF S j s (S.2 4 (24 * a + k)))) (by omega) h2 h3
    refine ⟨?_, (Oth.sq (by omega) _).tr this.2⟩
    show rowG (sprF j (24 * a) (k + 1) n _ _) a = sprG ty (k + 1) n _ _
    rw [this.1, rowG_sq, ej]
theorem swap_eq (S : Ms) (a k : Nat) : rowG (mSwap S (24 * a + k)) a = swG (rowG S a) k := by
  unfold mSwap swG
  rw [show 24 * a + k + 1 = 24 * a + (k + 1) by omega, rowG_sq, rowG_sq]
  rfl
theorem ins_eq {a lo : Nat} : ∀ (k : Nat) (S : Ms), k < 24 → rowG (insF (24 * a + lo) (24 * a + k) S) a = insG lo k (rowG S a) ∧ Oth a S (insF (24 * a + lo) (24 * a + k) S) := by
  intro k
  induction k with
  | zero =>
    intro S _
    cases hz : 24 * a + 0 with
    | zero => exact ⟨rfl, Oth.rf⟩
    | succ x => rw [insF, if_neg (by omega)]; exact ⟨rfl, Oth.rf⟩
  | succ k ih =>
    intro S hk
    rw [show 24 * a + (k + 1) = (24 * a + k) + 1 by omega, insF, insG]
    have e1 : S.2 4 (24 * a + k + 1) = rowG S a (k + 1) := by rw [show 24 * a + k + 1 = 24 * a + (k + 1) by omega]; rfl
    have e2 : S.2 4 (24 * a + k) = rowG S a k := rfl
    rw [e1, e2]
    by_cases c : lo < k + 1 ∧ rowG S a (k + 1) < rowG S a k
    · rw [if_pos c, if_pos ⟨by omega, c.2⟩]
      obtain ⟨q1, q2⟩ := ih (mSwap S (24 * a + k)) (by omega)
      refine ⟨by rw [q1, swap_eq], Oth.tr ?_ q2⟩
      unfold mSwap
      rw [show 24 * a + k + 1 = 24 * a + (k + 1) by omega]
      exact (Oth.sq (by omega) _).tr (Oth.sq (by omega) _)
    · rw [if_neg c, if_neg (fun q => c ⟨by omega, q.2⟩)]
      exact ⟨rfl, Oth.rf⟩
theorem ord_eq {a lo : Nat} : ∀ (n i : Nat) (S : Ms), i + n ≤ 24 → rowG (ordF (24 * a + lo) (24 * a + i) n S) a = ordG lo i n (rowG S a) ∧ Oth a S (ordF (24 * a + lo) (24 * a + i) n S) := by
  intro n
  induction n with
  | zero => intro i S _; exact ⟨rfl, Oth.rf⟩
  | succ n ih =>
    intro i S hi
    obtain ⟨q1, q2⟩ := ins_eq (a := a) (lo := lo) i S (by omega)
    obtain ⟨r1, r2⟩ := ih (i + 1) (insF (24 * a + lo) (24 * a + i) S) (by omega)
    refine ⟨?_, q2.tr r2⟩
    show rowG (ordF (24 * a + lo) (24 * a + (i + 1)) n (insF (24 * a + lo) (24 * a + i) S)) a = ordG lo (i + 1) n (insG lo i (rowG S a))
    rw [r1, q1]
theorem order_eq (S : Ms) (a lo hi : Nat) (h1 : lo < hi) (h2 : hi ≤ 24) : rowG (mOrder S (24 * a) lo hi) a = ordG lo (lo + 1) (hi - (lo + 1)) (rowG S a) ∧ Oth a S (mOrder S (24 * a) lo hi) := by
  unfold mOrder
  rw [show 24 * a + lo + 1 = 24 * a + (lo + 1) by omega]
  exact ord_eq _ _ S (by omega)
theorem Int64_xor (a b : Int64) : (0 : Int64) ≤ a ^^^ b ↔ ((a < 0) ↔ (b < 0)) := by
  have ms : ∀ x : Int64, x < 0 ↔ x.toBitVec.msb = true := fun x => by
    rw [Int64.lt_iff_toInt_lt, BitVec.msb_eq_toInt]
    show x.toInt < 0 ↔ _
    simp
  rw [← Int64.not_lt, ms, ms a, ms b, Int64.toBitVec_xor, BitVec.msb_xor]
  cases a.toBitVec.msb <;> cases b.toBitVec.msb <;> simp
theorem down_fdiv (a b : Int64) : downF a b = fdivF a b := by
  unfold downF fdivF
  have z : a - a / b * b = 0 ↔ a / b * b = a := by
    constructor
    · intro h; have e := Int64.sub_add_cancel a (a / b * b); rw [h, Int64.zero_add] at e; exact e
    · intro h; rw [h]; exact Int64.sub_self a
  by_cases c1 : (0 : Int64) ≤ a ^^^ b
  · rw [if_pos c1, if_neg (fun q => q.2 ((Int64_xor a b).mp c1))]; simp
  · rw [if_neg c1]
    by_cases c2 : a / b * b = a
    · rw [if_pos c2, if_neg (fun q => q.1 (z.mpr c2))]; simp
    · rw [if_neg c2, if_pos ⟨fun q => c2 (z.mp q), fun q => c1 ((Int64_xor a b).mpr q)⟩]
theorem max_eq (v u : Int64) : (if u < v then v else u) = (if v < u then u else v) := by
  by_cases h1 : u < v
  · rw [if_pos h1, if_neg (Int64.not_lt.mpr (Int64.le_of_lt h1))]
  · by_cases h2 : v < u
    · rw [if_neg h1, if_pos h2]
    · rw [if_neg h1, if_neg h2]; exact Int64.le_antisymm (Int64.not_lt.mp h2) (Int64.not_lt.mp h1) |>.symm |> fun e => by rw [e]
theorem redF_congr {f f' : Int64 → Int64 → Int64} {g g' : Nat → Int64} : ∀ (n k : Nat) (v : Int64), (∀ v u, f v u = f' v u) → (∀ x, k ≤ x → x < k + n → g x = g' x) → redF f g k n v = redF f' g' k n v := by
  intro n
  induction n with
  | zero => intro k v _ _; rfl
  | succ n ih => intro k v h1 h2; rw [redF_eq, redF_eq, h1, h2 k (by omega) (by omega)]; exact ih (k + 1) _ h1 (fun x a b => h2 x (by omega) (by omega))
theorem map_eq {j a : Nat} {ty : Int} : ∀ (n k : Nat) (S : Ms), k + n ≤ 24 → S.1 5 j = 4 → mTy S j = ty → (lfF j (24 * a) k n S).1 = true ∧ rowG (lfF j (24 * a) k n S).2 a = mapG ty (Int32.ofInt (S.1 7 j)).toInt64 (if 4 ≤ ty then (Int32.ofInt (S.1 8 j)).toInt64 * 8 else (Int32.ofInt (S.1 8 j)).toInt64) k n (rowG S a) ∧ Oth a S (lfF j (24 * a) k n S).2 := by
  intro n
  induction n with
  | zero => intro k S _ _ _; exact ⟨rfl, rfl, Oth.rf⟩
  | succ n ih =>
    intro k S h1 h2 h3
    rw [lfF_succ, if_neg (by omega), if_pos h2]
    obtain ⟨q0, q1, q2⟩ := ih (k + 1) (sq S 4 (24 * a + k) (mapF S j (S.2 4 (24 * a + k)))) (by omega) h2 h3
    refine ⟨q0, ?_, (Oth.sq (by omega) _).tr q2⟩
    rw [q1, rowG_sq]
    show mapG ty _ _ (k + 1) n (gU (rowG S a) k (mapF S j (S.2 4 (24 * a + k)))) = mapG ty _ _ (k + 1) n (gU (rowG S a) k (keptF ty _))
    congr 2
    unfold mapF
    rw [h3]
    congr 2
    by_cases c : 4 ≤ ty
    · rw [if_neg (by omega), if_pos c, Int64.mul_comm]
    · rw [if_pos (by omega), if_neg c]
theorem sha_eq {j a : Nat} {ty : Int} : ∀ (n k : Nat) (S : Ms), k + n ≤ 24 → S.1 5 j = 5 → mTy S j = ty → ((shaG ty (Int32.ofInt (S.1 7 j)).toInt64 k n (rowG S a)).1 = none → (lfF j (24 * a) k n S).1 = true ∧ rowG (lfF j (24 * a) k n S).2 a = (shaG ty (Int32.ofInt (S.1 7 j)).toInt64 k n (rowG S a)).2 ∧ Oth a S (lfF j (24 * a) k n S).2) ∧ (∀ x, (shaG ty (Int32.ofInt (S.1 7 j)).toInt64 k n (rowG S a)).1 = some x → ∃ S2, lfF j (24 * a) k n S = (false, mEnd S2 j x) ∧ rowG S2 a = (shaG ty (Int32.ofInt (S.1 7 j)).toInt64 k n (rowG S a)).2 ∧ Oth a S S2) := by
  intro n
  induction n with
  | zero => intro k S _ _ _; exact ⟨fun _ => ⟨rfl, rfl, Oth.rf⟩, fun x h => by cases h⟩
  | succ n ih =>
    intro k S h1 h2 h3
    generalize hc : (Int32.ofInt (S.1 7 j)).toInt64 = cc
    by_cases c : rowG S a k = 0
    · have e1 : lfF j (24 * a) k (n + 1) S = (false, mEnd S j k) := by rw [lfF_succ]; exact if_pos ⟨h2, c⟩
      have e3 : shaG ty cc k (n + 1) (rowG S a) = (some k, rowG S a) := by rw [shaG]; exact if_pos c
      rw [e1, e3]
      refine ⟨fun h => (by cases h), fun x h => ?_⟩
      cases h
      exact ⟨S, rfl, rfl, Oth.rf⟩
    · obtain ⟨V, hV⟩ : ∃ V, V = keptF ty (if 4 ≤ ty then fdivF (cc * 8 * 8) (rowG S a k) else cc / rowG S a k) := ⟨_, rfl⟩
      have ev : shaF S j (S.2 4 (24 * a + k)) = V := by
        rw [hV]
        unfold shaF
        rw [h3, hc]
        congr 1
        by_cases q : 4 ≤ ty
        · rw [if_neg (by omega), if_pos q, down_fdiv, Int64.mul_assoc, Int64.mul_comm]; rfl
        · rw [if_pos (by omega), if_neg q]; rfl
      have e1 : lfF j (24 * a) k (n + 1) S = lfF j (24 * a) (k + 1) n (sq S 4 (24 * a + k) V) := by
        rw [lfF_succ, if_neg (show ¬ (S.1 5 j = 5 ∧ S.2 4 (24 * a + k) = 0) from fun q => c q.2), if_neg (show ¬ S.1 5 j = 4 by omega), ev]
      have e3 : shaG ty cc k (n + 1) (rowG S a) = shaG ty cc (k + 1) n (gU (rowG S a) k V) := by rw [shaG, if_neg c, hV]
      have ih' := ih (k + 1) (sq S 4 (24 * a + k) V) (by omega) h2 h3
      rw [rowG_sq, show (sq S 4 (24 * a + k) V).1 7 j = S.1 7 j from rfl, hc] at ih'
      rw [e1, e3]
      obtain ⟨q1, q2⟩ := ih'
      refine ⟨fun h => ?_, fun x h => ?_⟩
      · obtain ⟨r1, r2, r3⟩ := q1 h
        exact ⟨r1, r2, (Oth.sq (by omega) _).tr r3⟩
      · obtain ⟨S2, r1, r2, r3⟩ := q2 x h
        exact ⟨S2, r1, r2, (Oth.sq (by omega) _).tr r3⟩
theorem Rc.oth {G : fxG} {A : Ad} {S S' : Ms} {w w' : fxW} (h : Rc G A S w) (a : Nat) (ha : a < 4) (hO : Oth a S S') (hE : EF (A 2 a) w w') (hw : RowAt (A 1 a) (A 2 a) (cty S a) (S.1 3 a) (rowG S' a) w') : Rc G A S' w' ∧ CF 0 0 w w' :=
  h.row S' a ha hE hw hO.1 (fun _ _ => rfl) (fun b k hb hne hk => hO.2.2 b k hne hk) hO.2.1

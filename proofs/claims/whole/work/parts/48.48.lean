/-! WEIGHTS -/
def sumI (f : Nat → Int) : List Nat → Int
  | [] => 0
  | a :: l => f a + sumI f l
theorem sumI_cons (f : Nat → Int) (a : Nat) (l : List Nat) : sumI f (a :: l) = f a + sumI f l := rfl
theorem sumI_perm (f : Nat → Int) {l l' : List Nat} (h : l.Perm l') : sumI f l = sumI f l' := by
  induction h with
  | nil => rfl
  | cons x _ ih => rw [sumI_cons, sumI_cons, ih]
  | swap x y l => rw [sumI_cons, sumI_cons, sumI_cons, sumI_cons]; omega
  | trans _ _ h1 h2 => exact h1.trans h2
theorem sumI_congr {f g : Nat → Int} : ∀ {l : List Nat}, (∀ x ∈ l, f x = g x) → sumI f l = sumI g l := by
  intro l
  induction l with
  | nil => intro _; rfl
  | cons a l ih => intro h; rw [sumI_cons, sumI_cons, h a (by simp), ih fun x hx => h x (by simp [hx])]
theorem sumI_filter {f : Nat → Int} (p : Nat → Bool) : ∀ {l : List Nat}, (∀ x ∈ l, 0 ≤ f x) → sumI f (l.filter p) ≤ sumI f l := by
  intro l
  induction l with
  | nil => intro _; exact Int.le_refl _
  | cons a l ih =>
    intro h
    have h1 := ih fun x hx => h x (by simp [hx])
    have h2 := h a (by simp)
    by_cases e : p a = true
    · rw [List.filter_cons_of_pos e, sumI_cons, sumI_cons]; omega
    · rw [List.filter_cons_of_neg e, sumI_cons]; omega
theorem sumI_nn {f : Nat → Int} : ∀ {l : List Nat}, (∀ x ∈ l, 0 ≤ f x) → 0 ≤ sumI f l := by
  intro l
  induction l with
  | nil => intro _; exact Int.le_refl _
  | cons a l ih => intro h; have h1 := ih fun x hx => h x (by simp [hx]); have h2 := h a (by simp); rw [sumI_cons]; omega
theorem sumI_mem {f : Nat → Int} {x : Nat} : ∀ {l : List Nat}, (∀ x ∈ l, 0 ≤ f x) → x ∈ l → f x ≤ sumI f l := by
  intro l
  induction l with
  | nil => intro _ h; cases h
  | cons a l ih =>
    intro h hx
    have h2 := h a (by simp)
    rw [sumI_cons]
    rcases List.mem_cons.mp hx with e | e
    · subst e; have := sumI_nn fun x hx => h x (List.mem_cons_of_mem _ hx); omega
    · have h1 := ih (fun x hx => h x (by simp [hx])) e; omega
def w1 (S : Ms) (t : Nat) : Int := if S.1 13 (mOf S t) = 1 then 2 * lenT S t - 2 else 0
def w2 (S : Ms) (t : Nat) : Int := 2 * lenT S t - 1
def scw (S : Ms) (j : Nat) : Int := if S.1 9 j = 0 ∧ S.1 5 j = 2 ∧ S.1 13 j = 1 then 47 else 0
def sc (S : Ms) : Nat → Int
  | 0 => 0
  | j + 1 => sc S j + scw S j
def P1 (S : Ms) : Int := S.1 23 0 + sumI (w1 S) (qA S)
def Ph (S : Ms) : Int := sumI (w2 S) (qA S) + sc S (S.1 14 0).toNat
theorem sc_congr {S S' : Ms} : ∀ n, (∀ j, j < n → scw S' j = scw S j) → sc S' n = sc S n := by
  intro n
  induction n with
  | zero => intro _; rfl
  | succ n ih => intro h; show sc S' n + scw S' n = sc S n + scw S n; rw [ih fun j hj => h j (by omega), h n (by omega)]
theorem sc_le {S S' : Ms} : ∀ n, (∀ j, j < n → scw S' j ≤ scw S j) → sc S' n ≤ sc S n := by
  intro n
  induction n with
  | zero => intro _; exact Int.le_refl _
  | succ n ih => intro h; show sc S' n + scw S' n ≤ sc S n + scw S n; have := ih fun j hj => h j (by omega); have := h n (by omega); omega
theorem sc_at {S S' : Ms} {j : Nat} {x : Int} (hx : scw S' j + x ≤ scw S j) : ∀ n, j < n → (∀ jj, jj < n → jj ≠ j → scw S' jj = scw S jj) → sc S' n + x ≤ sc S n := by
  intro n
  induction n with
  | zero => intro h; exact absurd h (by omega)
  | succ n ih =>
    intro h h'
    show sc S' n + scw S' n + x ≤ sc S n + scw S n
    by_cases e : j = n
    · subst e
      rw [sc_congr j fun jj hj => h' jj (by omega) (by omega)]; omega
    · have := ih (by omega) fun jj a b => h' jj (by omega) b
      rw [h' n (by omega) (by omega)]; omega
theorem sc_nn (S : Ms) : ∀ n, 0 ≤ sc S n := by
  intro n
  induction n with
  | zero => exact Int.le_refl _
  | succ n ih => show 0 ≤ sc S n + scw S n; unfold scw; split <;> omega
/-! THE NUMBERS STAY WITHIN BOUNDS -/
theorem Bi.len {S : Ms} (hB : Bi S) {t : Nat} (ht : (t : Int) < S.1 23 0) : 1 ≤ lenT S t ∧ lenT S t ≤ 24 := by
  obtain ⟨-, -, b3, b4, b5, -⟩ := hB.2.2.2.2.2.1 t ht
  unfold lenT; omega
theorem Bi.qm {S : Ms} (hB : Bi S) {t : Nat} (ht : t ∈ qA S) : (t : Int) < S.1 23 0 := by
  obtain ⟨i, hi, h⟩ := qA_mem.mp ht
  obtain ⟨k, hk, e⟩ := qL_mem.mp h
  have := (hB.2.2.2.2.2.2.1 i hi).2.2 k hk
  omega
theorem Bi.q6 {S : Ms} (hB : Bi S) (i : Nat) (hi : i < 4) : S.1 25 i ≤ 600 := (hB.2.2.2.2.2.2.1 i hi).2.1
theorem Bi.q0 {S : Ms} (hB : Bi S) (i : Nat) (hi : i < 4) : 0 ≤ S.1 25 i := (hB.2.2.2.2.2.2.1 i hi).1
theorem mPut_c (S : Ms) (i : Nat) (t : Int) {c : Nat} (j : Nat) (h4 : c ≠ 24) (h5 : c ≠ 25) : (mPut S i t).1 c j = S.1 c j := by
  unfold mPut; rw [sp_k _ _ _ _ h5, sp_k _ _ _ _ h4]
theorem mPut_25 (S : Ms) (i : Nat) (t : Int) (j : Nat) : (mPut S i t).1 25 j = if j = i then S.1 25 i + 1 else S.1 25 j := by
  unfold mPut
  split
  · rename_i e; rw [e, sp_same]
  · rename_i e; rw [sp_j _ _ _ e, sp_k _ _ _ _ (by decide)]
theorem Bi_put {S : Ms} {i : Nat} {t : Int} (h : Bi S) (hi : i < 4) (hq : S.1 25 i < 600) (ht : 0 ≤ t ∧ t < S.1 23 0) : Bi (mPut S i t) := by
  refine h.mono (fun c j h4 h5 _ _ _ _ _ _ _ => mPut_c S i t j h4 h5) (fun i' hi' => ?_)
  obtain ⟨a1, a2, a3⟩ := h.2.2.2.2.2.2.1 i' hi'
  have a0 := h.q0 i hi
  have e4 : ∀ k, (mPut S i t).1 24 k = if k = 600 * i + (S.1 25 i).toNat then t else S.1 24 k := fun k => by
    unfold mPut; rw [sp_k _ _ _ _ (by decide)]
    split
    · rename_i h; rw [h, sp_same]
    · rename_i h; exact sp_j _ _ _ h
  unfold BiQ
  rw [mPut_25]
  by_cases e : i' = i
  · subst e
    rw [if_pos rfl]
    refine ⟨by omega, by omega, fun k hk => ?_⟩
    rw [e4, mPut_c S i' t 0 (by decide) (by decide)]
    by_cases c : 600 * i' + k = 600 * i' + (S.1 25 i').toNat
    · rw [if_pos c]; exact ht
    · rw [if_neg c]; exact a3 k (by omega)
  · rw [if_neg e]
    refine ⟨a1, a2, fun k hk => ?_⟩
    rw [e4, mPut_c S i t 0 (by decide) (by decide), if_neg (by omega)]
    exact a3 k hk
theorem Bi_over {S : Ms} (h : Bi S) (p : Nat) (v : Int) (hv : 0 ≤ v ∧ v ≤ 2) : Bi (sp S 20 p v) := by
  obtain ⟨h1, h2, h3, h4, h5, h6, h7, h8, h9, h10⟩ := h
  refine ⟨h1, h2, h3, h4, h5, fun t ht => ?_, h7, h8, h9, h10⟩
  obtain ⟨a1, a2, a3, a4, a5, a6, a7, a8, a9, a10, a11⟩ := h6 t ht
  have : 0 ≤ (sp S 20 p v).1 20 t ∧ (sp S 20 p v).1 20 t ≤ 2 := by
    by_cases e : t = p
    · subst e; rw [sp_same]; exact hv
    · rw [sp_j _ _ _ e]; exact ⟨a9, a10⟩
  exact ⟨a1, a2, a3, a4, a5, a6, a7, a8, this.1, this.2, a11⟩
theorem Bi_state {S : Ms} (h : Bi S) (j : Nat) (s : Int) (hs : 0 ≤ s ∧ s ≤ 2) : Bi (sp S 9 j s) := by
  obtain ⟨h1, h2, h3, h4, h5, h6, h7, h8, h9, h10⟩ := h
  refine ⟨h1, h2, h3, fun j' hj' => ?_, h5, h6, h7, h8, h9, h10⟩
  obtain ⟨a1, a2, a3, a4, a5, a6, a7, a8⟩ := h4 j' hj'
  have : 0 ≤ (sp S 9 j s).1 9 j' ∧ (sp S 9 j s).1 9 j' ≤ 2 := by
    by_cases e : j' = j
    · subst e; rw [sp_same]; exact hs
    · rw [sp_j _ _ _ e]; exact ⟨a6, a7⟩
  exact ⟨a1, a2, a3, a4, a5, this.1, this.2, a8⟩
theorem Bi_round {S : Ms} (h : Bi S) (j : Nat) (s : Int) (hs : 1 ≤ s ∧ s ≤ 2) : Bi (sp S 13 j s) := by
  obtain ⟨h1, h2, h3, h4, h5, h6, h7, h8, h9, h10⟩ := h
  refine ⟨h1, h2, h3, fun j' hj' => ?_, h5, h6, h7, h8, h9, h10⟩
  obtain ⟨a1, a2, a3, a4, a5, a6, a7, a8, a9, a10⟩ := h4 j' hj'
  have : 1 ≤ (sp S 13 j s).1 13 j' ∧ (sp S 13 j s).1 13 j' ≤ 2 := by
    by_cases e : j' = j
    · subst e; rw [sp_same]; exact hs
    · rw [sp_j _ _ _ e]; exact ⟨a8, a9⟩
  exact ⟨a1, a2, a3, a4, a5, a6, a7, this.1, this.2, a10⟩
theorem Bi_fork {S S' : Ms} {t n0 : Nat} (hB : Bi S) (hn : S.1 23 0 = (n0 : Int)) (hn' : S'.1 23 0 = ((n0 + 2 : Nat) : Int)) (h6 : n0 + 2 ≤ 600) (ht : t < n0) (h19o : S.1 19 t = -1)
    (hJ : ∀ c, c ≠ 15 → c ≠ 16 → c ≠ 17 → c ≠ 18 → c ≠ 19 → c ≠ 20 → c ≠ 23 → S'.1 c = S.1 c) (hT : ∀ c, c = 15 ∨ c = 16 ∨ c = 17 ∨ c = 18 → ∀ x, x < n0 → S'.1 c x = S.1 c x)
    (h19 : ∀ x, x < n0 → x ≠ t → S'.1 19 x = S.1 19 x) (h19t : S'.1 19 t = (n0 : Int)) (h20 : S'.1 20 t = 0) (h20' : ∀ x, x < n0 → x ≠ t → S'.1 20 x = S.1 20 x)
    (hnew : ∀ x, x = n0 ∨ x = n0 + 1 → S'.1 15 x = S.1 15 t ∧ S'.1 18 x = (t : Int) ∧ S'.1 19 x = -1 ∧ S'.1 20 x = 0 ∧ 0 ≤ S'.1 16 x ∧ S'.1 16 x < S'.1 17 x ∧ S'.1 17 x ≤ 24) : Bi S' := by
  obtain ⟨g1, g2, g3, g4, g5, g6, g7, g8, g9, g10⟩ := hB
  have j : ∀ c, c ≠ 15 → c ≠ 16 → c ≠ 17 → c ≠ 18 → c ≠ 19 → c ≠ 20 → c ≠ 23 → S'.1 c = S.1 c := hJ
  refine ⟨?_, ?_, ?_, ?_, ?_, ?_, ?_, ?_, ?_, ?_⟩
  · rw [hJ 1 (by decide) (by decide) (by decide) (by decide) (by decide) (by decide) (by decide)]; exact g1
  · intro a ha; unfold BiA
    rw [hJ 2 (by decide) (by decide) (by decide) (by decide) (by decide) (by decide) (by decide), hJ 3 (by decide) (by decide) (by decide) (by decide) (by decide) (by decide) (by decide)]; exact g2 a ha
  · rw [hJ 14 (by decide) (by decide) (by decide) (by decide) (by decide) (by decide) (by decide)]; exact g3
  · intro jj hj
    rw [hJ 14 (by decide) (by decide) (by decide) (by decide) (by decide) (by decide) (by decide)] at hj
    obtain ⟨a1, a2, a3, a4, a5, a6, a7, a8, a9, a10, a11, a12⟩ := g4 jj hj
    unfold BiJ
    rw [hn', hJ 5 (by decide) (by decide) (by decide) (by decide) (by decide) (by decide) (by decide), hJ 6 (by decide) (by decide) (by decide) (by decide) (by decide) (by decide) (by decide), hJ 2 (by decide) (by decide) (by decide) (by decide) (by decide) (by decide) (by decide), hJ 9 (by decide) (by decide) (by decide) (by decide) (by decide) (by decide) (by decide), hJ 13 (by decide) (by decide) (by decide) (by decide) (by decide) (by decide) (by decide), hJ 12 (by decide) (by decide) (by decide) (by decide) (by decide) (by decide) (by decide), hJ 7 (by decide) (by decide) (by decide) (by decide) (by decide) (by decide) (by decide), hJ 8 (by decide) (by decide) (by decide) (by decide) (by decide) (by decide) (by decide)]
    exact ⟨a1, a2, a3, a4, a5, a6, a7, a8, a9, a10, by omega, a12⟩
  · omega
  · intro x hx
    obtain ⟨b1, b2, -⟩ := g6 t (by omega)
    unfold BiT
    rw [hJ 14 (by decide) (by decide) (by decide) (by decide) (by decide) (by decide) (by decide), hn']
    by_cases e : x = n0 ∨ x = n0 + 1
    · obtain ⟨e1, e2, e3, e4, e5, e6, e7⟩ := hnew x e
      rw [e1, e2, e3, e4, Int.toNat_natCast, h19t, hT 15 (by simp) t ht]
      exact ⟨b1, b2, e5, e6, e7, by omega, by omega, Or.inl rfl, by omega, by omega, fun _ => ⟨by omega, rfl⟩⟩
    · have hxn : x < n0 := by omega
      obtain ⟨a1, a2, a3, a4, a5, a6, a7, a8, a9, a10, a11⟩ := g6 x (by omega)
      rw [hT 15 (by simp) x hxn, hT 16 (by simp) x hxn, hT 17 (by simp) x hxn, hT 18 (by simp) x hxn]
      refine ⟨a1, a2, a3, a4, a5, a6, a7, ?_, ?_, ?_, fun hp => ?_⟩
      · by_cases e2 : x = t
        · subst e2; rw [h19t]; omega
        · rw [h19 x hxn e2]; omega
      · by_cases e2 : x = t
        · subst e2; rw [h20]; omega
        · rw [h20' x hxn e2]; omega
      · by_cases e2 : x = t
        · subst e2; rw [h20]; omega
        · rw [h20' x hxn e2]; omega
      · obtain ⟨c1, c2⟩ := a11 hp
        have hpt : (S.1 18 x).toNat ≠ t := fun e => by rw [e, h19o] at c1; omega
        rw [h19 _ (by omega) hpt, hT 15 (by simp) _ (by omega)]
        exact ⟨c1, c2⟩
  · intro i hi
    unfold BiQ
    rw [hJ 25 (by decide) (by decide) (by decide) (by decide) (by decide) (by decide) (by decide), hJ 24 (by decide) (by decide) (by decide) (by decide) (by decide) (by decide) (by decide), hn']
    obtain ⟨a1, a2, a3⟩ := g7 i hi
    exact ⟨a1, a2, fun k hk => by have := a3 k hk; omega⟩
  · rw [hJ 1 (by decide) (by decide) (by decide) (by decide) (by decide) (by decide) (by decide), hJ 29 (by decide) (by decide) (by decide) (by decide) (by decide) (by decide) (by decide)]; exact g8
  · rw [hJ 30 (by decide) (by decide) (by decide) (by decide) (by decide) (by decide) (by decide)]; exact g9
  · rw [hJ 1 (by decide) (by decide) (by decide) (by decide) (by decide) (by decide) (by decide), hJ 32 (by decide) (by decide) (by decide) (by decide) (by decide) (by decide) (by decide)]; exact g10

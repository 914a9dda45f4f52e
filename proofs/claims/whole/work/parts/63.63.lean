/-! ArrayList -/
theorem fxf_put (w : fxW) (g a : Nat) (v : Value) : fxf (fx_put w g a v) g a = v := by
  show (if g = g then (if a = a then v else fxf w g a) else fxf w g a) = v
  rw [if_pos rfl, if_pos rfl]
theorem fxf_putN (w : fxW) {g a g' a' : Nat} (v : Value) (h : g' ≠ g ∨ a' ≠ a) : fxf (fx_put w g a v) g' a' = fxf w g' a' := by
  show (if g' = g then (if a' = a then v else fxf w g' a') else fxf w g' a') = _
  rcases h with q | q
  · rw [if_neg q]
  · rw [if_neg q]; split <;> rfl
theorem fxe_ast (w : fxW) (t a j : Nat) (v : Value) : fxe (fx_ast w t a j v) t a j = v := by
  show (if t = t then (if a = a then (if j = j then v else fxe w t a j) else fxe w t a j) else fxe w t a j) = v
  rw [if_pos rfl, if_pos rfl, if_pos rfl]
theorem fxe_astN (w : fxW) {t a j t' a' j' : Nat} (v : Value) (h : t' ≠ t ∨ a' ≠ a ∨ j' ≠ j) : fxe (fx_ast w t a j v) t' a' j' = fxe w t' a' j' := by
  show (if t' = t then (if a' = a then (if j' = j then v else fxe w t' a' j') else fxe w t' a' j') else fxe w t' a' j') = _
  rcases h with q | q | q
  · rw [if_neg q]
  · rw [if_neg q]; split <;> rfl
  · rw [if_neg q]; split <;> (try split) <;> rfl
theorem fxe_sta (w : fxW) (t a j : Nat) (g : Nat → Value) : fxe (fx_sta w t a g) t a j = g j := by
  show (if t = t then (if a = a then g j else fxe w t a j) else fxe w t a j) = g j
  rw [if_pos rfl, if_pos rfl]
/-- the list at l, its array at ar with cap places, its elements c (addresses of tasks) -/
def AlAt (G : fxG) (l ar cap : Nat) (c : List Nat) (w : fxW) : Prop :=
  fxk w l = some (5, 0) ∧ fxf w 320 l = .ref ar ∧ fxf w 321 l = zi (c.length : Int) ∧ (∃ n : Int, fxf w 322 l = zi n) ∧
  ((cap = 0 ∧ ar = fxad G 0 ∧ fxk w ar = some (202, 0) ∧ c = []) ∨ (fxk w ar = some (102, cap) ∧ c.length ≤ cap ∧ 10 ≤ cap ∧ cap ≤ 900 ∧ ∀ k, k < c.length → fxe w 2 ar k = .ref (c.getD k 0))) ∧ (∀ y ∈ c, fxk w y = some (3, 0))
/-- what a list's method may change -/
def LF (l ar : Nat) (w w' : fxW) : Prop := fxt w ≤ fxt w' ∧ fxt w' ≤ fxt w + 1 ∧ fxu w ≤ fxu w' ∧ fxu w' ≤ fxu w + 900 ∧ (∀ a, a ≠ fxt w → fxk w' a = fxk w a) ∧ (∀ g a, (a ≠ l ∨ g < 320 ∨ 322 < g) → fxf w' g a = fxf w g a) ∧ (∀ t a j, a ≠ fxt w → ¬ (t = 2 ∧ a = ar) → fxe w' t a j = fxe w t a j)
theorem LF.rf {l ar : Nat} {w : fxW} : LF l ar w w := ⟨Nat.le_refl _, by omega, Nat.le_refl _, by omega, fun _ _ => rfl, fun _ _ _ => rfl, fun _ _ _ _ _ => rfl⟩
theorem LF.put {l ar g : Nat} {w w' : fxW} {v : Value} (h : LF l ar w w') (h1 : 320 ≤ g) (h2 : g ≤ 322) : LF l ar w (fx_put w' g l v) := by
  obtain ⟨a1, a2, a3, a4, a5, a6, a7⟩ := h
  refine ⟨a1, a2, a3, a4, a5, fun g' a q => ?_, a7⟩
  show (if g' = g then (if a = l then v else fxf w' g' a) else fxf w' g' a) = fxf w g' a
  rw [← a6 g' a q]
  by_cases e : g' = g
  · rw [if_pos e, if_neg (by omega)]
  · rw [if_neg e]
theorem LF.ast {l ar k : Nat} {w w' : fxW} {v : Value} (h : LF l ar w w') : LF l ar w (fx_ast w' 2 ar k v) := by
  obtain ⟨a1, a2, a3, a4, a5, a6, a7⟩ := h
  refine ⟨a1, a2, a3, a4, a5, a6, fun t a j q1 q2 => ?_⟩
  show (if t = 2 then (if a = ar then (if j = k then v else fxe w' t a j) else fxe w' t a j) else fxe w' t a j) = fxe w t a j
  rw [← a7 t a j q1 q2]
  by_cases e : t = 2
  · rw [if_pos e, if_neg (fun z => q2 ⟨e, z⟩)]
  · rw [if_neg e]
theorem LF.sta {l ar : Nat} {w w' : fxW} {g : Nat → Value} (h : LF l ar w w') : LF l ar w (fx_sta w' 2 ar g) := by
  obtain ⟨a1, a2, a3, a4, a5, a6, a7⟩ := h
  refine ⟨a1, a2, a3, a4, a5, a6, fun t a j q1 q2 => ?_⟩
  show (if t = 2 then (if a = ar then g j else fxe w' t a j) else fxe w' t a j) = fxe w t a j
  rw [← a7 t a j q1 q2]
  by_cases e : t = 2
  · rw [if_pos e, if_neg (fun z => q2 ⟨e, z⟩)]
  · rw [if_neg e]
set_option maxRecDepth 20000 in
theorem m_AL_size {G : fxG} (d : Nat) {w : fxW} {l ar cap : Nat} {c : List Nat} (h : AlAt G l ar cap c w) : fxM G d y_AL_size [.ref l] w (fxPure (zi (c.length : Int)) w) := by
  refine fxM.of cc_AL_size 1 (some .int) [] (by decide +kernel) w_AL_size (Nat.le_of_ble_eq_true rfl) ?_
  intro x C ht hu
  show fxR G 1 x _ w 0 [(0, .ref l)] []
  refine r_aload_n C d_AL_size_0 rfl rfl ?_
  refine g_AL_48 C d_AL_size_1 h.1 h.2.2.1 ?_
  exact r_ireturn C d_AL_size_4 rfl ⟨rfl, rfl⟩
set_option maxRecDepth 20000 in
theorem m_Pc {G : fxG} (d : Nat) (w : fxW) (i n : Nat) (hi : i < n) (hn : n < 1000000) : fxM G d y_Pc_checkIndex [zi (i : Int), zi (n : Int), .null] w (fxPure (zi (i : Int)) w) := by
  refine fxM.of cc_Pc_checkIndex 3 (some .int) [] (by decide +kernel) w_Pc_checkIndex (Nat.le_of_ble_eq_true rfl) ?_
  intro x C ht hu
  show fxR G 3 x _ w 0 [(0, zi (i : Int)), (1, zi (n : Int)), (2, .null)] []
  refine r_iload_n C d_Pc_checkIndex_0 rfl rfl ?_
  refine zr_if_lt (tgt := 9) C d_Pc_checkIndex_1 (by decide) (by unfold zok; omega) (fun c_1 => ?_) (fun c_1 => ?_)
  · exact absurd c_1 (by omega)
  · refine r_iload_n C d_Pc_checkIndex_4 rfl rfl ?_
    refine r_iload_n C d_Pc_checkIndex_5 rfl rfl ?_
    refine zr_icmp_lt (tgt := 16) C d_Pc_checkIndex_6 (by decide) (by unfold zok; omega) (by unfold zok; omega) (fun c_6 => ?_) (fun c_6 => ?_)
    · refine r_iload_n C d_Pc_checkIndex_16 rfl rfl ?_
      exact r_ireturn C d_Pc_checkIndex_17 rfl ⟨rfl, rfl⟩
    · exact absurd c_6 (by omega)
set_option maxRecDepth 20000 in
theorem m_Ob {G : fxG} (d : Nat) (w : fxW) (i n : Nat) (hd1 : 1 ≤ d) (hi : i < n) (hn : n < 1000000) : fxM G d y_Ob_checkIndex [zi (i : Int), zi (n : Int)] w (fxPure (zi (i : Int)) w) := by
  refine fxM.of cc_Ob_checkIndex 2 (some .int) [] (by decide +kernel) w_Ob_checkIndex (Nat.le_of_ble_eq_true rfl) ?_
  intro x C ht hu
  show fxR G 2 x _ w 0 [(0, zi (i : Int)), (1, zi (n : Int))] []
  refine r_iload_n C d_Ob_checkIndex_0 rfl rfl ?_
  refine r_iload_n C d_Ob_checkIndex_1 rfl rfl ?_
  refine r_null C d_Ob_checkIndex_2 ?_
  refine c_Ob_105 C d_Ob_checkIndex_3 (m_Pc 0 w i n hi hn) (by omega) (Nat.le_of_ble_eq_true rfl) (fxPure.k1 ?_) fxPure.k2
  exact r_ireturn C d_Ob_checkIndex_6 rfl ⟨rfl, rfl⟩
theorem AlAt.len {G : fxG} {w : fxW} {l ar cap : Nat} {c : List Nat} (h : AlAt G l ar cap c w) : c.length ≤ 900 := by
  rcases h.2.2.2.2.1 with ⟨-, -, -, e⟩ | ⟨-, h2, -, h4, -⟩
  · rw [e]; simp
  · omega
theorem AlAt.arr9 {G : fxG} {w : fxW} {l ar cap : Nat} {c : List Nat} (h : AlAt G l ar cap c w) {k : Nat} (hk : k < c.length) : fxk w ar = some (102, cap) ∧ c.length ≤ cap ∧ 10 ≤ cap ∧ cap ≤ 900 ∧ ∀ k, k < c.length → fxe w 2 ar k = .ref (c.getD k 0) := by
  rcases h.2.2.2.2.1 with ⟨-, -, -, e⟩ | h2
  · rw [e] at hk; simp at hk
  · exact h2
set_option maxRecDepth 20000 in
theorem m_elementData {G : fxG} (d : Nat) {w : fxW} {l ar cap : Nat} {c : List Nat} (h : AlAt G l ar cap c w) (i : Nat) (hi : i < c.length) : fxM G d y_AL_elementData [.ref l, zi (i : Int)] w (fxPure (.ref (c.getD i 0)) w) := by
  refine fxM.of cc_AL_elementData 2 (some (.object "java/lang/Object")) [] (by decide +kernel) w_AL_elementData (Nat.le_of_ble_eq_true rfl) ?_
  intro x C ht hu
  obtain ⟨k1, k2, k3, k4, k5⟩ := h.arr9 hi
  show fxR G 2 x _ w 0 [(0, .ref l), (1, zi (i : Int))] []
  refine r_aload_n C d_AL_elementData_0 rfl rfl ?_
  refine g_AL_9 C d_AL_elementData_1 h.1 h.2.1 ?_
  refine r_iload_n C d_AL_elementData_4 rfl rfl ?_
  refine zr_aaload C d_AL_elementData_5 (by decide) rfl rfl (t := 2) (k := i) (Or.inl k1) rfl (by omega) (by omega) (k5 i hi) ?_
  exact r_areturn C d_AL_elementData_6 rfl (Or.inl ⟨_, rfl⟩) (Or.inr ⟨_, rfl⟩) ⟨rfl, rfl⟩
set_option maxRecDepth 20000 in
theorem m_AL_get {G : fxG} (d : Nat) {w : fxW} {l ar cap : Nat} {c : List Nat} (h : AlAt G l ar cap c w) (hd1 : 2 ≤ d) (i : Nat) (hi : i < c.length) : fxM G d y_AL_get [.ref l, zi (i : Int)] w (fxPure (.ref (c.getD i 0)) w) := by
  refine fxM.of cc_AL_get 2 (some (.object "java/lang/Object")) [] (by decide +kernel) w_AL_get (Nat.le_of_ble_eq_true rfl) ?_
  intro x C ht hu
  have hl := h.len
  show fxR G 2 x _ w 0 [(0, .ref l), (1, zi (i : Int))] []
  refine r_iload_n C d_AL_get_0 rfl rfl ?_
  refine r_aload_n C d_AL_get_1 rfl rfl ?_
  refine g_AL_48 C d_AL_get_2 h.1 h.2.2.1 ?_
  refine c_AL_118 C d_AL_get_5 (m_Ob 1 w i c.length (by omega) hi (by omega)) (by omega) (Nat.le_of_ble_eq_true rfl) (fxPure.k1 ?_) fxPure.k2
  refine r_pop C d_AL_get_8 rfl ?_
  refine r_aload_n C d_AL_get_9 rfl rfl ?_
  refine r_iload_n C d_AL_get_10 rfl rfl ?_
  refine c_AL_123 C d_AL_get_11 h.1 (m_elementData 0 h i hi) (by omega) (Nat.le_of_ble_eq_true rfl) (fxPure.k1 ?_) fxPure.k2
  exact r_areturn C d_AL_get_14 rfl (Or.inl ⟨_, rfl⟩) (Or.inr ⟨_, rfl⟩) ⟨rfl, rfl⟩
def lsVd (G : fxG) (l ar cap : Nat) (c : List Nat) (w : fxW) : Outcome → fxW → Prop := fun o w' => o = .returned none ∧ AlAt G l ar cap c w' ∧ LF l ar w w' ∧ fxt w' = fxt w ∧ fxu w' = fxu w
def lsRt (G : fxG) (l ar cap : Nat) (c : List Nat) (v : Value) (w : fxW) : Outcome → fxW → Prop := fun o w' => o = .returned (some v) ∧ AlAt G l ar cap c w' ∧ LF l ar w w' ∧ fxt w' = fxt w ∧ fxu w' = fxu w
theorem erase_getD (c : List Nat) (i k : Nat) (hi : i < c.length) (hk : k < c.length - 1) : (c.eraseIdx i).getD k 0 = if k < i then c.getD k 0 else c.getD (k + 1) 0 := by
  have hl : (c.eraseIdx i).length = c.length - 1 := List.length_eraseIdx_of_lt hi
  rw [List.getD_eq_getElem?_getD, List.getElem?_eraseIdx]
  split
  · rw [List.getD_eq_getElem?_getD]
  · rw [List.getD_eq_getElem?_getD]
set_option maxRecDepth 20000 in
theorem m_fastRemove {G : fxG} (d : Nat) {w : fxW} {l ar cap : Nat} {c : List Nat} (h : AlAt G l ar cap c w) (hd1 : 1 ≤ d) (i : Nat) (hi : i < c.length) : fxM G d y_AL_fastRemove [.ref l, .ref ar, zi (i : Int)] w (lsVd G l ar cap (c.eraseIdx i) w) := by
  refine fxM.of cc_AL_fastRemove 4 none [] (by decide +kernel) w_AL_fastRemove (Nat.le_of_ble_eq_true rfl) ?_
  intro x C ht hu
  obtain ⟨k1, k2, k3, k4, k5⟩ := h.arr9 hi
  obtain ⟨h1, h2, h3, ⟨mc, h4⟩, h5, h6⟩ := h
  have hl : (c.eraseIdx i).length = c.length - 1 := List.length_eraseIdx_of_lt hi
  generalize hQ : lsVd G l ar cap (c.eraseIdx i) w = QQ
  -- the end: the size goes down, the last place is emptied
  have fin : ∀ (w1 : fxW), LF l ar w w1 → fxt w1 = fxt w → fxu w1 = fxu w → (∀ a, fxk w1 a = fxk w a) → fxf w1 320 l = .ref ar → fxf w1 321 l = zi (c.length : Int) → (∃ n : Int, fxf w1 322 l = zi n) → (∀ k, k < c.length - 1 → fxe w1 2 ar k = .ref ((c.eraseIdx i).getD k 0)) → fxR G 4 x (fxQ G x QQ) w1 34 [(3, zi ((c.length - 1 : Nat) : Int)), (0, .ref l), (1, .ref ar), (2, zi (i : Int))] [] := by
    intro w1 f1 f2 f3 f4 f5 f6 f7 f8
    refine r_aload_n C d_AL_fastRemove_34 rfl rfl ?_
    refine r_aload_n C d_AL_fastRemove_35 rfl rfl ?_
    refine r_iload_n C d_AL_fastRemove_36 rfl rfl ?_
    refine r_dup_x1 C d_AL_fastRemove_37 rfl rfl ?_
    refine p_AL_48 C d_AL_fastRemove_38 rfl rfl (by rw [f4]; exact h1) ?_
    refine r_null C d_AL_fastRemove_41 ?_
    refine zr_aastoreN (t := 2) (k := c.length - 1) C d_AL_fastRemove_42 (by decide) rfl (show fxk w1 ar = _ by rw [f4]; exact k1) rfl (by omega) (by omega) ?_
    rw [← hQ]
    refine r_return C d_AL_fastRemove_43 rfl ⟨rfl, ⟨by show fxk w1 l = _; rw [f4]; exact h1, f5, ?_, f7, Or.inr ⟨by show fxk w1 ar = _; rw [f4]; exact k1, by omega, k3, k4, fun k hk => ?_⟩, fun y hy => ?_⟩, (f1.put (by omega) (by omega)).ast, f2, f3⟩
    · rw [hl]
      exact fxf_put w1 321 l _
    · rw [hl] at hk
      rw [fxe_astN _ _ (Or.inr (Or.inr (by omega)))]
      exact f8 k hk
    · show fxk w1 y = _
      rw [f4]; exact h6 y (List.mem_of_mem_eraseIdx hy)
  show fxR G 4 x _ w 0 [(0, .ref l), (1, .ref ar), (2, zi (i : Int))] []
  refine r_aload_n C d_AL_fastRemove_0 rfl rfl ?_
  refine r_dup C d_AL_fastRemove_1 rfl ?_
  refine g_AL_63 C d_AL_fastRemove_2 h1 h4 ?_
  refine r_iconst C d_AL_fastRemove_5 rfl ?_
  refine zr_iadd C d_AL_fastRemove_6 ?_
  refine p_AL_63 C d_AL_fastRemove_7 rfl rfl h1 ?_
  refine r_aload_n C d_AL_fastRemove_10 rfl rfl ?_
  refine g_AL_48 C d_AL_fastRemove_11 h1 h3 ?_
  refine r_iconst C d_AL_fastRemove_14 rfl ?_
  refine zr_isub C d_AL_fastRemove_15 ?_
  rw [show (c.length : Int) - 1 = ((c.length - 1 : Nat) : Int) by omega]
  refine r_dup C d_AL_fastRemove_16 rfl ?_
  refine r_istore_n (ls' := [(3, _), (0, _), (1, _), (2, _)]) C d_AL_fastRemove_17 rfl (by decide) rfl ?_
  refine r_iload_n C d_AL_fastRemove_18 rfl rfl ?_
  refine zr_icmp_le (tgt := 34) C d_AL_fastRemove_19 (by decide) (by unfold zok; omega) (by unfold zok; omega) (fun c_19 => ?_) (fun c_19 => ?_)
  · have ei : i = c.length - 1 := by omega
    refine fin _ (LF.rf.put (by omega) (by omega)) rfl rfl (fun _ => rfl) h2 h3 ⟨mc + 1, ?_⟩ (fun k hk => ?_)
    · exact fxf_put _ _ _ _
    · rw [erase_getD c i k hi hk, if_pos (by omega)]; exact k5 k (by omega)
  · refine r_aload_n C d_AL_fastRemove_22 rfl rfl ?_
    refine r_iload_n C d_AL_fastRemove_23 rfl rfl ?_
    refine r_iconst C d_AL_fastRemove_24 rfl ?_
    refine zr_iadd C d_AL_fastRemove_25 ?_
    refine r_aload_n C d_AL_fastRemove_26 rfl rfl ?_
    refine r_iload_n C d_AL_fastRemove_27 rfl rfl ?_
    refine r_iload_n C d_AL_fastRemove_28 rfl rfl ?_
    refine r_iload_n C d_AL_fastRemove_29 rfl rfl ?_
    refine zr_isub C d_AL_fastRemove_30 ?_
    rw [show (i : Int) + 1 = ((i + 1 : Nat) : Int) by omega, show ((c.length - 1 : Nat) : Int) - (i : Int) = ((c.length - 1 - i : Nat) : Int) by omega]
    refine r_copy C d_AL_fastRemove_31 (fxTW_in 530 (by decide +kernel) rfl) (n0 := cap) (n1 := cap) k1 k1 (by omega) (by omega) (by omega) (by omega) (fun j hj => Or.inr ⟨_, k5 _ (by omega), h6 _ ?_⟩) hd1 (Nat.le_of_ble_eq_true rfl) ?_
    · rw [List.getD_eq_getElem?_getD, List.getElem?_eq_getElem (show i + 1 + j < c.length by omega)]; exact List.getElem_mem _
    refine fin _ (LF.rf.put (by omega) (by omega)).sta rfl rfl (fun _ => rfl) h2 h3 ⟨mc + 1, ?_⟩ (fun k hk => ?_)
    · exact fxf_put w 322 l _
    · rw [fxe_sta, erase_getD c i k hi hk]
      unfold va_cpy
      by_cases q : k < i
      · rw [if_neg (by omega), if_pos q]; exact k5 k (by omega)
      · rw [if_pos (by omega), if_neg q, show i + 1 + (k - i) = k + 1 by omega]; exact k5 (k + 1) (by omega)
set_option maxRecDepth 20000 in
theorem m_AL_remove {G : fxG} (d : Nat) {w : fxW} {l ar cap : Nat} {c : List Nat} (h : AlAt G l ar cap c w) (hd1 : 2 ≤ d) (i : Nat) (hi : i < c.length) : fxM G d y_AL_remove [.ref l, zi (i : Int)] w (lsRt G l ar cap (c.eraseIdx i) (.ref (c.getD i 0)) w) := by
  refine fxM.of cc_AL_remove 4 (some (.object "java/lang/Object")) [] (by decide +kernel) w_AL_remove (Nat.le_of_ble_eq_true rfl) ?_
  intro x C ht hu
  have hl := h.len
  obtain ⟨k1, k2, k3, k4, k5⟩ := h.arr9 hi
  show fxR G 4 x _ w 0 [(0, .ref l), (1, zi (i : Int))] []
  refine r_iload_n C d_AL_remove_0 rfl rfl ?_
  refine r_aload_n C d_AL_remove_1 rfl rfl ?_
  refine g_AL_48 C d_AL_remove_2 h.1 h.2.2.1 ?_
  refine c_AL_118 C d_AL_remove_5 (m_Ob 1 w i c.length (by omega) hi (by omega)) (by omega) (Nat.le_of_ble_eq_true rfl) (fxPure.k1 ?_) fxPure.k2
  refine r_pop C d_AL_remove_8 rfl ?_
  refine r_aload_n C d_AL_remove_9 rfl rfl ?_
  refine g_AL_9 C d_AL_remove_10 h.1 h.2.1 ?_
  refine r_astore_n (ls' := [(2, _), (0, _), (1, _)]) C d_AL_remove_13 rfl (by decide) rfl ?_
  refine r_aload_n C d_AL_remove_14 rfl rfl ?_
  refine r_iload_n C d_AL_remove_15 rfl rfl ?_
  refine zr_aaload C d_AL_remove_16 (by decide) rfl rfl (t := 2) (k := i) (Or.inl k1) rfl (by omega) (by omega) (k5 i hi) ?_
  refine r_astore_n (ls' := [(3, _), (2, _), (0, _), (1, _)]) C d_AL_remove_17 rfl (by decide) rfl ?_
  refine r_aload_n C d_AL_remove_18 rfl rfl ?_
  refine r_aload_n C d_AL_remove_19 rfl rfl ?_
  refine r_iload_n C d_AL_remove_20 rfl rfl ?_
  refine c_AL_144 C d_AL_remove_21 h.1 (m_fastRemove 1 h (by omega) i hi) (by omega) (Nat.le_of_ble_eq_true rfl) ?_ ?_
  · rintro v' w' ⟨e, q1, q2, q3, q4⟩
    cases e
    refine r_aload_n C d_AL_remove_24 rfl rfl ?_
    exact r_areturn C d_AL_remove_25 rfl (Or.inl ⟨_, rfl⟩) (Or.inr ⟨_, rfl⟩) ⟨rfl, q1, q2, q3, q4⟩
  · rintro a w' ⟨e, -⟩
    cases e
/-! ArrayList grows -/
set_option maxRecDepth 20000 in
theorem m_newLength {G : fxG} (d : Nat) (w : fxW) (n : Nat) (hd1 : 1 ≤ d) (hn : 2 ≤ n) (hn9 : n ≤ 900) : fxM G d y_As_newLength [zi (n : Int), zi 1, zi ((n / 2 : Nat) : Int)] w (fxPure (zi ((n + n / 2 : Nat) : Int)) w) := by
  refine fxM.of cc_As_newLength 4 (some .int) [] (by decide +kernel) w_As_newLength (Nat.le_of_ble_eq_true rfl) ?_
  intro x C ht hu
  show fxR G 4 x _ w 0 [(0, zi (n : Int)), (1, zi 1), (2, zi ((n / 2 : Nat) : Int))] []
  have e : (if (1 : Int) < ((n / 2 : Nat) : Int) then ((n / 2 : Nat) : Int) else 1) = ((n / 2 : Nat) : Int) := by split <;> omega
  refine r_iload_n C d_As_newLength_0 rfl rfl ?_
  refine r_iload_n C d_As_newLength_1 rfl rfl ?_
  refine r_iload_n C d_As_newLength_2 rfl rfl ?_
  refine c_As_194 C d_As_newLength_3 (m_maxI 0 w _ _ (by unfold zok; omega) (by unfold zok; omega)) (by omega) (Nat.le_of_ble_eq_true rfl) (fxPure.k1 ?_) fxPure.k2
  rw [e]
  refine zr_iadd C d_As_newLength_6 ?_
  rw [show (n : Int) + ((n / 2 : Nat) : Int) = ((n + n / 2 : Nat) : Int) by omega]
  refine r_istore_n (ls' := [(3, _), (0, _), (1, _), (2, _)]) C d_As_newLength_7 rfl (by decide) rfl ?_
  refine r_iconst C d_As_newLength_8 rfl ?_
  refine r_iload_n C d_As_newLength_9 rfl rfl ?_
  refine zr_icmp_ge (tgt := 21) C d_As_newLength_10 (by decide) (by unfold zok; omega) (by unfold zok; omega) (fun c_10 => ?_) (fun c_10 => ?_)
  · exact absurd c_10 (by omega)
  · refine r_iload_n C d_As_newLength_13 rfl rfl ?_
    refine r_ldc (v := 2147483639) C d_As_newLength_14 (fxTW_in 457 (by decide +kernel) rfl) ?_
    rw [show Value.int 2147483639 = zi 2147483639 from rfl]
    refine zr_icmp_gt (tgt := 21) C d_As_newLength_16 (by decide) (by unfold zok; omega) (by unfold zok; omega) (fun c_16 => ?_) (fun c_16 => ?_)
    · exact absurd c_16 (by omega)
    · refine r_iload_n C d_As_newLength_19 rfl rfl ?_
      exact r_ireturn C d_As_newLength_20 rfl ⟨rfl, rfl⟩

/-! ONE PUT AT A TIME -/
/-- what isn't the pool's: the reference's cells, the script, the law's own array -/
def Fg (q : Nat × Nat) : Prop := q.1 = 6 ∨ q.1 = 101 ∨ q.1 = 201 ∨ (q.1 = 100 ∧ q.2 ≠ 24)
def CF (c u : Nat) (w w' : fxW) : Prop := fxt w ≤ fxt w' ∧ fxt w' ≤ fxt w + c ∧ fxu w ≤ fxu w' ∧ fxu w' ≤ fxu w + u ∧ KM w w' ∧ ∀ a q, fxk w a = some q → Fg q → (∀ g, fxf w' g a = fxf w g a) ∧ ∀ t j, fxe w' t a j = fxe w t a j
theorem CF.rf {w : fxW} : CF 0 0 w w := ⟨Nat.le_refl _, Nat.le_refl _, Nat.le_refl _, Nat.le_refl _, fun _ _ h => h, fun _ _ _ _ => ⟨fun _ => rfl, fun _ _ => rfl⟩⟩
theorem CF.tr {c u c' u' : Nat} {w w' w'' : fxW} (h : CF c u w w') (h' : CF c' u' w' w'') : CF (c + c') (u + u') w w'' := by
  obtain ⟨a1, a2, a3, a4, a5, a6⟩ := h
  obtain ⟨b1, b2, b3, b4, b5, b6⟩ := h'
  refine ⟨by omega, by omega, by omega, by omega, fun a q z => b5 a q (a5 a q z), fun a q z f => ⟨fun g => ?_, fun t j => ?_⟩⟩
  · exact ((b6 a q (a5 a q z) f).1 g).trans ((a6 a q z f).1 g)
  · exact ((b6 a q (a5 a q z) f).2 t j).trans ((a6 a q z f).2 t j)
theorem CF.wk {c u c' u' : Nat} {w w' : fxW} (h : CF c u w w') (h1 : c ≤ c') (h2 : u ≤ u') : CF c' u' w w' := ⟨h.1, by have := h.2.1; omega, h.2.2.1, by have := h.2.2.2.1; omega, h.2.2.2.2.1, h.2.2.2.2.2⟩
theorem CF.km {c u : Nat} {w w' : fxW} (h : CF c u w w') : KM w w' := h.2.2.2.2.1
section PUT
variable {w : fxW} {g a ci : Nat} {v : Value}
theorem KM_put : KM w (fx_put w g a v) := fun _ _ h => h
theorem FS_put {c : Nat} (h : ¬ (64 * c ≤ g ∧ g < 64 * c + 64)) : FS c w (fx_put w g a v) := fun _ _ h1 h2 _ => fxf_putN _ _ (Or.inl (by omega))
theorem ES_put {t : Nat} : ES t w (fx_put w g a v) := fun _ _ _ _ => rfl
theorem CF_put (ha : fxk w a = some (ci, 0)) (hc : ci < 6) : CF 0 0 w (fx_put w g a v) := by
  refine ⟨Nat.le_refl _, Nat.le_refl _, Nat.le_refl _, Nat.le_refl _, KM_put, fun b q hb hq => ⟨fun g' => fxf_putN _ _ (Or.inr fun e => ?_), fun _ _ => rfl⟩⟩
  subst e
  cases ha.symm.trans hb
  rcases hq with z | z | z | z
  · exact absurd z (by show ¬ ci = 6; omega)
  · exact absurd z (by show ¬ ci = 101; omega)
  · exact absurd z (by show ¬ ci = 201; omega)
  · exact absurd z.1 (by show ¬ ci = 100; omega)
end PUT
section RCP
variable {G : fxG} {A : Ad} {S : Ms} {w : fxW}
theorem spf (S : Ms) (k j : Nat) (v : Int) {c : Nat} (h : c ≠ k) : (sp S k j v).1 c = S.1 c := funext fun x => sp_k _ _ _ _ h
/-- a number of the pool -/
theorem Rc.pool (h : Rc G A S w) (g k : Nat) (v : Int) (hg : (g = 4 ∧ k = 31) ∨ (g = 5 ∧ k = 32) ∨ (g = 6 ∧ k = 30)) : Rc G A (sp S k 0 v) (fx_put w g (A 0 0) (zi v)) := by
  obtain ⟨hP, hR, hJ, hT, hW, hL⟩ := h
  have e : ∀ c, c ≠ 30 → c ≠ 31 → c ≠ 32 → (sp S k 0 v).1 c = S.1 c := fun c h1 h2 h3 => spf _ _ _ _ (by omega)
  refine ⟨?_, hR.ext KM_put (FS_put (by omega)) ES_put (e 2 (by decide) (by decide) (by decide)) (e 3 (by decide) (by decide) (by decide)) (fun _ _ _ _ => rfl), hJ.ext KM_put (FS_put (by omega)) (by rw [e 14 (by decide) (by decide) (by decide)]) (fun c hc => e c (by omega) (by omega) (by omega)) (fun _ _ _ => rfl), hT.ext KM_put (FS_put (by omega)) (by rw [e 23 (by decide) (by decide) (by decide)]) (fun c hc => e c (by omega) (by omega) (by omega)) rfl rfl, hW.ext KM_put (FS_put (by omega)) (e 1 (by decide) (by decide) (by decide)) (fun c hc => e c (by omega) (by omega) (by omega)), hL.ext KM_put (FS_put (by omega)) ES_put (e 1 (by decide) (by decide) (by decide)) (fun i _ => qL_ext (by rw [e 25 (by decide) (by decide) (by decide)]) (fun x _ => by rw [e 24 (by decide) (by decide) (by decide)]))⟩
  obtain ⟨h1, h2, h3, h4, h5, h6, h7, h8, h9, h10, h11, h12, h13, h14⟩ := hP
  have e1 := e 1 (by decide) (by decide) (by decide)
  have e14 := e 14 (by decide) (by decide) (by decide)
  have gg : g = 4 ∨ g = 5 ∨ g = 6 := by omega
  refine ⟨h1, (fxf_putN _ _ (Or.inl (by omega))).trans h2, (fxf_putN _ _ (Or.inl (by omega))).trans h3, (fxf_putN _ _ (Or.inl (by omega))).trans h4, ?_, ?_, ?_, ?_, h9, by rw [e1]; exact h10, h11, h12, by rw [e1]; exact h13, by rw [e14]; exact h14⟩
  · rw [e14]; exact (fxf_putN _ _ (Or.inl (by omega))).trans h5
  · rcases hg with ⟨q1, q2⟩ | ⟨q1, q2⟩ | ⟨q1, q2⟩ <;> subst q1 <;> subst q2
    · rw [sp_same]; exact fxf_put _ _ _ _
    · rw [sp_k _ _ _ _ (by decide)]; exact (fxf_putN _ _ (Or.inl (by decide))).trans h6
    · rw [sp_k _ _ _ _ (by decide)]; exact (fxf_putN _ _ (Or.inl (by decide))).trans h6
  · rcases hg with ⟨q1, q2⟩ | ⟨q1, q2⟩ | ⟨q1, q2⟩ <;> subst q1 <;> subst q2
    · rw [sp_k _ _ _ _ (by decide)]; exact (fxf_putN _ _ (Or.inl (by decide))).trans h7
    · rw [sp_same]; exact fxf_put _ _ _ _
    · rw [sp_k _ _ _ _ (by decide)]; exact (fxf_putN _ _ (Or.inl (by decide))).trans h7
  · rcases hg with ⟨q1, q2⟩ | ⟨q1, q2⟩ | ⟨q1, q2⟩ <;> subst q1 <;> subst q2
    · rw [sp_k _ _ _ _ (by decide)]; exact (fxf_putN _ _ (Or.inl (by decide))).trans h8
    · rw [sp_k _ _ _ _ (by decide)]; exact (fxf_putN _ _ (Or.inl (by decide))).trans h8
    · rw [sp_same]; exact fxf_put _ _ _ _
/-- a number of a worker -/
theorem Rc.wkr (h : Rc G A S w) (i k : Nat) (v : Int) (hi : (i : Int) < S.1 1 0) (hk : 26 ≤ k ∧ k ≤ 29) : Rc G A (sp S k i v) (fx_put w (231 + k) (A 5 i) (zi v)) := by
  obtain ⟨hP, hR, hJ, hT, hW, hL⟩ := h
  have e : ∀ c, c < 26 ∨ 29 < c → (sp S k i v).1 c = S.1 c := fun c h1 => spf _ _ _ _ (by omega)
  refine ⟨hP.ext KM_put (FS_put (by omega)) (fun _ _ => ES_put) (fun c hc => e c (by omega)), hR.ext KM_put (FS_put (by omega)) ES_put (e 2 (by decide)) (e 3 (by decide)) (fun _ _ _ _ => rfl), hJ.ext KM_put (FS_put (by omega)) (by rw [e 14 (by decide)]) (fun c hc => e c (by omega)) (fun _ _ _ => rfl), hT.ext KM_put (FS_put (by omega)) (by rw [e 23 (by decide)]) (fun c hc => e c (by omega)) rfl rfl, ?_, hL.ext KM_put (FS_put (by omega)) ES_put (e 1 (by decide)) (fun i _ => qL_ext (by rw [e 25 (by decide)]) (fun x _ => by rw [e 24 (by decide)]))⟩
  refine ⟨fun i' hi' => ?_, by rw [e 1 (by decide)]; exact hW.2⟩
  rw [e 1 (by decide)] at hi'
  obtain ⟨h1, h2, h3, h4, h5, h6⟩ := hW.1 i' hi'
  by_cases q : i' = i
  · subst q
    have f : ∀ g, g ≠ 231 + k → fxf (fx_put w (231 + k) (A 5 i') (zi v)) g (A 5 i') = fxf w g (A 5 i') := fun g hg => fxf_putN _ _ (Or.inl hg)
    have u : ∀ c, 26 ≤ c → c ≤ 29 → fxf w (231 + c) (A 5 i') = zi (S.1 c i') → fxf (fx_put w (231 + k) (A 5 i') (zi v)) (231 + c) (A 5 i') = zi ((sp S k i' v).1 c i') := fun c c1 c2 hc => by
      by_cases z : c = k
      · subst z; rw [sp_same]; exact fxf_put _ _ _ _
      · rw [sp_k _ _ _ _ z, f _ (by omega)]; exact hc
    exact ⟨h1, (f 256 (by omega)).trans h2, u 26 (by decide) (by decide) h3, u 27 (by decide) (by decide) h4, u 28 (by decide) (by decide) h5, u 29 (by decide) (by decide) h6⟩
  · have hne := hW.2 i' i hi' hi q
    have f : ∀ g, fxf (fx_put w (231 + k) (A 5 i) (zi v)) g (A 5 i') = fxf w g (A 5 i') := fun g => fxf_putN _ _ (Or.inr hne)
    have u : ∀ c, (sp S k i v).1 c i' = S.1 c i' := fun c => by
      by_cases z : c = k
      · subst z; exact sp_j _ _ _ q
      · exact sp_k _ _ _ _ z
    unfold WkAt
    rw [f, f, f, f, f, u, u, u, u]
    exact ⟨h1, h2, h3, h4, h5, h6⟩
/-- a number of a job: state, failedAt, tasksDone -/
theorem Rc.jobN (h : Rc G A S w) (j k : Nat) (v : Int) (hj : (j : Int) < S.1 14 0) (hk : 9 ≤ k ∧ k ≤ 11) (h9 : k = 9 → v = 1 → S.1 5 j < 2 → fxf w 137 (A 3 j) = .long (S.2 21 (rootT S j))) : Rc G A (sp S k j v) (fx_put w (124 + k) (A 3 j) (zi v)) := by
  obtain ⟨hP, hR, hJ, hT, hW, hL⟩ := h
  have e : ∀ c, c < 9 ∨ 11 < c → (sp S k j v).1 c = S.1 c := fun c h1 => spf _ _ _ _ (by omega)
  refine ⟨hP.ext KM_put (FS_put (by omega)) (fun _ _ => ES_put) (fun c hc => e c (by omega)), hR.ext KM_put (FS_put (by omega)) ES_put (e 2 (by decide)) (e 3 (by decide)) (fun _ _ _ _ => rfl), ?_, hT.ext KM_put (FS_put (by omega)) (by rw [e 23 (by decide)]) (fun c hc => e c (by omega)) rfl rfl, hW.ext KM_put (FS_put (by omega)) (e 1 (by decide)) (fun c hc => e c (by omega)), hL.ext KM_put (FS_put (by omega)) ES_put (e 1 (by decide)) (fun i _ => qL_ext (by rw [e 25 (by decide)]) (fun x _ => by rw [e 24 (by decide)]))⟩
  refine ⟨fun j' hj' => ?_, by rw [e 14 (by decide)]; exact hJ.2⟩
  rw [e 14 (by decide)] at hj'
  obtain ⟨h1, h2, h3, h4, h5, h6, h7, h8, g9, h10, r, h11, h12⟩ := hJ.1 j' hj'
  have e5 := e 5 (by decide)
  have er : rootT (sp S k j v) j' = rootT S j' := by unfold rootT; rw [e 12 (by decide)]
  by_cases q : j' = j
  · subst q
    have f : ∀ g, g ≠ 124 + k → fxf (fx_put w (124 + k) (A 3 j') (zi v)) g (A 3 j') = fxf w g (A 3 j') := fun g hg => fxf_putN _ _ (Or.inl hg)
    have u : ∀ c, 9 ≤ c → c ≤ 11 → fxf w (124 + c) (A 3 j') = zi (S.1 c j') → fxf (fx_put w (124 + k) (A 3 j') (zi v)) (124 + c) (A 3 j') = zi ((sp S k j' v).1 c j') := fun c c1 c2 hc => by
      by_cases z : c = k
      · subst z; rw [sp_same]; exact fxf_put _ _ _ _
      · rw [sp_k _ _ _ _ z, f _ (by omega)]; exact hc
    refine ⟨h1, (f 128 (by omega)).trans h2, ?_, ?_, ?_, ?_, u 9 (by decide) (by decide) h7, u 10 (by decide) (by decide) h8, u 11 (by decide) (by decide) g9, ?_, r, (f 137 (by omega)).trans h11, fun z1 z2 => ?_⟩
    · rw [f 129 (by omega), e5]; exact h3
    · rw [f 130 (by omega), e 6 (by decide)]; exact h4
    · rw [f 131 (by omega), e 7 (by decide)]; exact h5
    · rw [f 132 (by omega), e 8 (by decide)]; exact h6
    · rw [f 136 (by omega), e 13 (by decide)]; exact h10
    · rw [er]
      rw [e5] at z2
      show r = S.2 21 (rootT S j')
      by_cases z : k = 9
      · subst z
        rw [sp_same] at z1
        have := (h11.symm.trans (h9 rfl z1 z2))
        cases this; rfl
      · rw [sp_k _ _ _ _ (by omega)] at z1
        exact h12 z1 z2
  · have hne := hJ.2 j' j hj' hj q
    have f : ∀ g, fxf (fx_put w (124 + k) (A 3 j) (zi v)) g (A 3 j') = fxf w g (A 3 j') := fun g => fxf_putN _ _ (Or.inr hne)
    have u : ∀ c, (sp S k j v).1 c j' = S.1 c j' := fun c => by
      by_cases z : c = k
      · subst z; exact sp_j _ _ _ q
      · exact sp_k _ _ _ _ z
    unfold JobAt
    rw [f, f, f, f, f, f, f, f, f, f, u, u, u, u, u, u, u, u, er]
    exact ⟨h1, h2, h3, h4, h5, h6, h7, h8, g9, h10, r, h11, h12⟩
/-- the second round of a job -/
theorem Rc.job2 (h : Rc G A S w) (j : Nat) (hj : (j : Int) < S.1 14 0) : Rc G A (sp S 13 j 2) (fx_put w 136 (A 3 j) (zi 1)) := by
  obtain ⟨hP, hR, hJ, hT, hW, hL⟩ := h
  have e : ∀ c, c ≠ 13 → (sp S 13 j 2).1 c = S.1 c := fun c h1 => spf _ _ _ _ h1
  refine ⟨hP.ext KM_put (FS_put (by omega)) (fun _ _ => ES_put) (fun c hc => e c (by omega)), hR.ext KM_put (FS_put (by omega)) ES_put (e 2 (by decide)) (e 3 (by decide)) (fun _ _ _ _ => rfl), ?_, hT.ext KM_put (FS_put (by omega)) (by rw [e 23 (by decide)]) (fun c hc => e c (by omega)) rfl rfl, hW.ext KM_put (FS_put (by omega)) (e 1 (by decide)) (fun c hc => e c (by omega)), hL.ext KM_put (FS_put (by omega)) ES_put (e 1 (by decide)) (fun i _ => qL_ext (by rw [e 25 (by decide)]) (fun x _ => by rw [e 24 (by decide)]))⟩
  refine ⟨fun j' hj' => ?_, by rw [e 14 (by decide)]; exact hJ.2⟩
  rw [e 14 (by decide)] at hj'
  obtain ⟨h1, h2, h3, h4, h5, h6, h7, h8, g9, h10, r, h11, h12⟩ := hJ.1 j' hj'
  have er : rootT (sp S 13 j 2) j' = rootT S j' := by unfold rootT; rw [e 12 (by decide)]
  unfold JobAt
  rw [e 5 (by decide), e 6 (by decide), e 7 (by decide), e 8 (by decide), e 9 (by decide), e 10 (by decide), e 11 (by decide), er]
  by_cases q : j' = j
  · subst q
    have f : ∀ g, g ≠ 136 → fxf (fx_put w 136 (A 3 j') (zi 1)) g (A 3 j') = fxf w g (A 3 j') := fun g hg => fxf_putN _ _ (Or.inl hg)
    rw [f 128 (by decide), f 129 (by decide), f 130 (by decide), f 131 (by decide), f 132 (by decide), f 133 (by decide), f 134 (by decide), f 135 (by decide), f 137 (by decide)]
    exact ⟨h1, h2, h3, h4, h5, h6, h7, h8, g9, by rw [sp_same, if_pos rfl]; exact fxf_put _ _ _ _, r, h11, h12⟩
  · have hne := hJ.2 j' j hj' hj q
    have f : ∀ g, fxf (fx_put w 136 (A 3 j) (zi 1)) g (A 3 j') = fxf w g (A 3 j') := fun g => fxf_putN _ _ (Or.inr hne)
    rw [f, f, f, f, f, f, f, f, f, f, sp_j _ _ _ q]
    exact ⟨h1, h2, h3, h4, h5, h6, h7, h8, g9, h10, r, h11, h12⟩
/-- the result of a job that isn't done -/
theorem Rc.jobR (h : Rc G A S w) (j : Nat) (v : Int64) (hj : (j : Int) < S.1 14 0) (h9 : S.1 9 j = 0) : Rc G A S (fx_put w 137 (A 3 j) (.long v)) := by
  obtain ⟨hP, hR, hJ, hT, hW, hL⟩ := h
  refine ⟨hP.ext KM_put (FS_put (by omega)) (fun _ _ => ES_put) (fun c hc => rfl), hR.ext KM_put (FS_put (by omega)) ES_put rfl rfl (fun _ _ _ _ => rfl), ⟨fun j' hj' => ?_, hJ.2⟩, hT.ext KM_put (FS_put (by omega)) rfl (fun c hc => rfl) rfl rfl, hW.ext KM_put (FS_put (by omega)) rfl (fun c hc => rfl), hL.ext KM_put (FS_put (by omega)) ES_put rfl (fun i _ => rfl)⟩
  obtain ⟨h1, h2, h3, h4, h5, h6, h7, h8, g9, h10, r, h11, h12⟩ := hJ.1 j' hj'
  unfold JobAt
  by_cases q : j' = j
  · subst q
    have f : ∀ g, g ≠ 137 → fxf (fx_put w 137 (A 3 j') (.long v)) g (A 3 j') = fxf w g (A 3 j') := fun g hg => fxf_putN _ _ (Or.inl hg)
    rw [f 128 (by decide), f 129 (by decide), f 130 (by decide), f 131 (by decide), f 132 (by decide), f 133 (by decide), f 134 (by decide), f 135 (by decide), f 136 (by decide)]
    exact ⟨h1, h2, h3, h4, h5, h6, h7, h8, g9, h10, v, fxf_put _ _ _ _, fun z => by omega⟩
  · have hne := hJ.2 j' j hj' hj q
    have f : ∀ g, fxf (fx_put w 137 (A 3 j) (.long v)) g (A 3 j') = fxf w g (A 3 j') := fun g => fxf_putN _ _ (Or.inr hne)
    rw [f, f, f, f, f, f, f, f, f, f]
    exact ⟨h1, h2, h3, h4, h5, h6, h7, h8, g9, h10, r, h11, h12⟩
/-- a field of the task t: what must hold of it -/
theorem Rc.task (h : Rc G A S w) (S' : Ms) (t g : Nat) (v : Value) (ht : (t : Int) < S.1 23 0) (hg : 192 ≤ g ∧ g < 256) (h1 : ∀ c, c ≠ 20 → S'.1 c = S.1 c) (h20 : ∀ x, x ≠ t → S'.1 20 x = S.1 20 x) (h2 : ∀ c x, (c ≠ 21 ∧ c ≠ 22) ∨ x ≠ t → S'.2 c x = S.2 c x) (hr : S'.2 21 t = S.2 21 t ∨ S.1 9 (mOf S t) = 0) (hB : Bi S) (hjr : ∀ j : Nat, (j : Int) < S.1 14 0 → mOf S (rootT S j) = j) (hN : TaskAt A S' t (fx_put w g (A 4 t) v)) : Rc G A S' (fx_put w g (A 4 t) v) := by
  obtain ⟨hP, hR, hJ, hT, hW, hL⟩ := h
  refine ⟨hP.ext KM_put (FS_put (by omega)) (fun _ _ => ES_put) (fun c hc => h1 c (by omega)), hR.ext KM_put (FS_put (by omega)) ES_put (h1 2 (by decide)) (h1 3 (by decide)) (fun a k _ _ => h2 4 _ (Or.inl (by decide))), hJ.ext KM_put (FS_put (by omega)) (by rw [h1 14 (by decide)]) (fun c hc => h1 c (by omega)) (fun j hj h9 => ?_), ⟨fun x hx => ?_, by rw [h1 23 (by decide)]; exact hT.2⟩, hW.ext KM_put (FS_put (by omega)) (h1 1 (by decide)) (fun c hc => h1 c (by omega)), hL.ext KM_put (FS_put (by omega)) ES_put (h1 1 (by decide)) (fun i _ => qL_ext (by rw [h1 25 (by decide)]) (fun x _ => by rw [h1 24 (by decide)]))⟩
  · rcases hr with q | q
    · by_cases z : rootT S j = t
      · rw [z]; exact q
      · exact h2 21 _ (Or.inr z)
    · refine h2 21 _ (Or.inr fun z => ?_)
      rw [← z, hjr j hj] at q
      omega
  · rw [h1 23 (by decide)] at hx
    by_cases q : x = t
    · subst q; exact hN
    · have hne := hT.2 x t hx ht q
      refine (hT.1 x hx).ext KM_put (fun g' z1 z2 => fxf_putN _ _ (Or.inr hne)) (fun c hc => ?_) (by rw [h1 5 (by decide)]) (h2 21 x (Or.inr q)) (h2 22 x (Or.inr q))
      by_cases z : c = 20
      · subst z; exact h20 x q
      · rw [h1 c z]
/-- the elements of a row -/
theorem Rc.row {w' : fxW} (h : Rc G A S w) (S' : Ms) (a : Nat) (ha : a < 4) {g' : Nat → Int64} (hE : EF (A 2 a) w w') (hw : RowAt (A 1 a) (A 2 a) (cty S a) (S.1 3 a) g' w') (e1 : S'.1 = S.1) (h4 : ∀ k, k < 24 → S'.2 4 (24 * a + k) = g' k) (h4' : ∀ b k, b < 4 → b ≠ a → k < 24 → S'.2 4 (24 * b + k) = S.2 4 (24 * b + k)) (h2 : ∀ c, c ≠ 4 → S'.2 c = S.2 c) : Rc G A S' w' ∧ CF 0 0 w w' := by
  obtain ⟨hP, hR, hJ, hT, hW, hL⟩ := h
  obtain ⟨q1, q2, q3, q4, q5⟩ := hE
  have k0 : KM w w' := fun b q hb => (q3 b).trans hb
  have f0 : ∀ c, FS c w w' := fun c g b _ _ _ => q4 g b
  have s0 : ∀ t, t ≠ 0 → ES t w w' := fun t ht b n j _ => q5 t b j (fun z => ht z.1)
  have eq : ∀ i, qL S' i = qL S i := fun i => qL_ext (by rw [e1]) (fun k _ => by rw [e1])
  refine ⟨⟨hP.ext k0 (f0 0) (fun t ht => s0 t (by omega)) (fun c _ => by rw [e1]), ⟨fun b hb => ?_, hR.2⟩, hJ.ext k0 (f0 2) (by rw [e1]) (fun c _ => by rw [e1]) (fun _ _ _ => by rw [h2 21 (by decide)]), hT.ext k0 (f0 3) (by rw [e1]) (fun c _ => by rw [e1]) (h2 21 (by decide)) (h2 22 (by decide)), hW.ext k0 (f0 4) (by rw [e1]) (fun c _ => by rw [e1]), hL.ext k0 (f0 5) (s0 2 (by decide)) (by rw [e1]) (fun i _ => eq i)⟩, ?_⟩
  · have ec : cty S' b = cty S b := by unfold cty; rw [e1]
    rw [ec, e1]
    by_cases z : b = a
    · subst z
      obtain ⟨r1, r2, r3, r4, r5, r6⟩ := hw
      exact ⟨r1, r2, r3, r4, r5, fun k hk => by rw [r6 k hk]; show _ = Value.long (S'.2 4 (24 * b + k)); rw [h4 k hk]⟩
    · obtain ⟨r1, r2, r3, r4, r5, r6⟩ := hR.1 b hb
      refine ⟨k0 _ _ r1, (q4 _ _).trans r2, (q4 _ _).trans r3, (q4 _ _).trans r4, k0 _ _ r5, fun k hk => ?_⟩
      rw [q5 0 (A 2 b) k (fun z2 => (hR.2 b a hb ha z).2 z2.2), r6 k hk]
      show Value.long (S.2 4 (24 * b + k)) = Value.long (S'.2 4 (24 * b + k))
      rw [h4' b k hb z hk]
  · refine ⟨by omega, by omega, by omega, by omega, k0, fun b q hb hq => ⟨fun g => q4 g b, fun t j => q5 t b j fun z => ?_⟩⟩
    have r5 := (hR.1 a ha).2.2.2.2.1
    rw [← z.2] at r5
    cases r5.symm.trans hb
    rcases hq with z | z | z | z
    · cases z
    · cases z
    · cases z
    · exact z.2 rfl
/-- the queue of a worker -/
theorem Rc.list {w' : fxW} (h : Rc G A S w) (hdm : ∀ a c n, fxk w a = some (c, n) → a < fxt w) (S' : Ms) (i : Nat) (hi : (i : Int) < S.1 1 0) (hW4 : S.1 1 0 ≤ 4) {ar' cap' : Nat} (hF : LF (A 6 i) (A 7 i) w w') (hl : AlAt G (A 6 i) ar' cap' ((qL S' i).map (A 4)) w') (har : ar' = A 7 i ∨ (ar' = fxt w ∧ fxk w' ar' = some (102, cap'))) (h1 : ∀ c, c ≠ 24 → c ≠ 25 → S'.1 c = S.1 c) (h2 : S'.2 = S.2) (hq : ∀ i', i' < 4 → i' ≠ i → qL S' i' = qL S i') : ∃ A' : Ad, (∀ k x, k ≠ 7 → k ≠ 9 → A' k x = A k x) ∧ Rc G A' S' w' ∧ CF 1 900 w w' := by
  obtain ⟨hP, hR, hJ, hT, hW, hL⟩ := h
  obtain ⟨f1, f2, f3, f4, f5, f6, f7⟩ := hF
  have k0 : KM w w' := fun b q hb => (f5 b (by have := hdm b q.1 q.2 hb; omega)).trans hb
  have hli := hL.1 i hi
  have fs : ∀ c, c ≠ 5 → FS c w w' := fun c hc g b z1 z2 hb => f6 g b (Or.inl fun z => by subst z; cases hb.symm.trans hli.1; exact hc rfl)
  have es : ∀ t, t ≠ 2 → ES t w w' := fun t ht b n j hb => f7 t b j (by have := hdm b _ _ hb; omega) (fun z => ht z.1)
  refine ⟨fun k x => if k = 7 then (if x = i then ar' else A 7 x) else if k = 9 then (if x = i then cap' else A 9 x) else A k x, fun k x z1 z2 => (if_neg z1).trans (if_neg z2), ?_, ⟨f1, f2, f3, f4, k0, fun b q hb hq => ⟨fun g => f6 g b (Or.inl fun z => ?_), fun t j => f7 t b j (by have := hdm b q.1 q.2 hb; omega) fun z => ?_⟩⟩⟩
  · refine ⟨?_, ?_, ?_, ?_, ?_, ?_⟩
    · exact hP.ext (A := A) k0 (fs 0 (by decide)) (fun t ht => es t (by omega)) (fun c hc => h1 c (by omega) (by omega))
    · exact hR.ext (A := A) k0 (fs 1 (by decide)) (es 0 (by decide)) (h1 2 (by decide) (by decide)) (h1 3 (by decide) (by decide)) (fun a k _ _ => by rw [h2])
    · exact hJ.ext (A := A) k0 (fs 2 (by decide)) (by rw [h1 14 (by decide) (by decide)]) (fun c hc => h1 c (by omega) (by omega)) (fun _ _ _ => by rw [h2])
    · exact hT.ext (A := A) k0 (fs 3 (by decide)) (by rw [h1 23 (by decide) (by decide)]) (fun c hc => h1 c (by omega) (by omega)) (by rw [h2]) (by rw [h2])
    · exact hW.ext (A := A) k0 (fs 4 (by decide)) (h1 1 (by decide) (by decide)) (fun c hc => h1 c (by omega) (by omega))
    · unfold RcL
      rw [h1 1 (by decide) (by decide)]
      have hne : ∀ x : Nat, (x : Int) < S.1 1 0 → x ≠ i → A 7 x ≠ fxt w := fun x hx hxi => by
        have := (hL.1 x hx).2.2.2.2.1
        rcases this with ⟨-, -, z, -⟩ | ⟨z, -⟩
        · have := hdm _ _ _ z; omega
        · have := hdm _ _ _ z; omega
      refine ⟨fun x hx => ?_, fun x y hx hy hxy => ⟨(hL.2 x y hx hy hxy).1, fun n hn => ?_⟩⟩
      · show AlAt G (A 6 x) (if x = i then ar' else A 7 x) (if x = i then cap' else A 9 x) ((qL S' x).map (A 4)) w'
        by_cases z : x = i
        · subst z; rw [if_pos rfl, if_pos rfl]; exact hl
        · rw [if_neg z, if_neg z, hq x (by omega) z]
          have h0 := hL.1 x hx
          refine h0.ext k0 (fun g z1 z2 => f6 g _ (Or.inl (hL.2 x i hx hi z).1)) (fun n j hn => f7 2 _ j (hne x hx z) fun z2 => ?_)
          exact (hL.2 x i hx hi z).2 n hn z2.2
      · have hn' : fxk w' (if x = i then ar' else A 7 x) = some (102, n) := hn
        show (if x = i then ar' else A 7 x) ≠ (if y = i then ar' else A 7 y)
        by_cases zx : x = i
        · subst zx
          rw [if_pos rfl, if_neg (Ne.symm hxy)]
          rw [if_pos rfl] at hn'
          rcases har with z | ⟨z, -⟩
          · rw [z] at hn' ⊢
            rcases hli.2.2.2.2.1 with ⟨-, -, p3, -⟩ | ⟨p1, -⟩
            · have := (k0 _ _ p3).symm.trans hn'; cases this
            · exact (hL.2 x y hx hy hxy).2 _ p1
          · rw [z]; exact (hne y hy (Ne.symm hxy)).symm
        · rw [if_neg zx] at hn' ⊢
          have p1 : ∃ n', fxk w (A 7 x) = some (102, n') := by
            rcases (hL.1 x hx).2.2.2.2.1 with ⟨-, -, p3, -⟩ | ⟨p1, -⟩
            · have := (k0 _ _ p3).symm.trans hn'; cases this
            · exact ⟨_, p1⟩
          obtain ⟨n', p1⟩ := p1
          by_cases zy : y = i
          · subst zy
            rw [if_pos rfl]
            rcases har with z | ⟨z, -⟩
            · rw [z]; exact (hL.2 x y hx hy hxy).2 _ p1
            · rw [z]; exact hne x hx zx
          · rw [if_neg zy]; exact (hL.2 x y hx hy hxy).2 _ p1
  · subst z
    cases hli.1.symm.trans hb
    rcases hq with z | z | z | z
    · cases z
    · cases z
    · cases z
    · cases z.1
  · rcases hli.2.2.2.2.1 with ⟨-, -, p3, -⟩ | ⟨p1, -⟩
    · rw [← z.2] at p3
      cases p3.symm.trans hb
      rcases hq with z | z | z | z
      · cases z
      · cases z
      · cases z
      · cases z.1
    · rw [← z.2] at p1
      cases p1.symm.trans hb
      rcases hq with z | z | z | z
      · cases z
      · cases z
      · cases z
      · cases z.1
end RCP

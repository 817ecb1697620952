-- copies: of a printer, of a row into a row
section CP
variable {m m' w er fl me p pr w2 er2 fl2 me2 p2 pr2 ps mv im ik asd : Nat → Int32}
theorem PR.congr (h : PR w er fl me p pr m) (e : ∀ i, i < 131 → m' i = m i) : PR w er fl me p pr m' := by
  obtain ⟨⟨f1, f2, f3, f4, f5⟩, hp, p0, p1, p2, p3, hm⟩ := h
  refine ⟨⟨fun i hi => (f1 i hi).trans (e i (by omega)).symm, fun i hi => (f2 i hi).trans (e _ (by omega)).symm, f3.trans (e _ (by decide)).symm, f4.trans (e _ (by decide)).symm, by rw [e _ (by decide)]; exact f5⟩, fun i hi => (hp i hi).trans (e _ (by omega)).symm, p0.trans (e _ (by decide)).symm, p1.trans (e _ (by decide)).symm, p2.trans (e _ (by decide)).symm, p3.trans (e _ (by decide)).symm, fun on => ?_⟩
  rw [e _ (by decide)] at on
  rw [e _ (by decide), e _ (by decide), e _ (by decide), e _ (by decide), e _ (by decide), e _ (by decide)]
  exact hm on
theorem IV.congr (h : IV m) (e : ∀ i, i < 131 → m' i = m i) : IV m' := by
  obtain ⟨⟨B, S, k, hI, hm⟩, h2, h3, h4⟩ := h
  refine ⟨⟨B, S, k, hI.congr (fun i hi => e i (by omega)), fun on => ?_⟩, by rw [e _ (by decide)]; exact h2, fun i hi => by rw [e _ (by omega)]; exact h3 i hi, by rw [e _ (by decide)]; exact h4⟩
  rw [e _ (by decide)] at on
  rw [e _ (by decide), e _ (by decide), e _ (by decide), e _ (by decide), e _ (by decide), e _ (by decide), nxp_low hI.1 (fun i hi => e i (by omega)), rp_low hI.1 (fun i hi => e i (by omega))]
  exact hm on
/-- a printer and a row of the reference: alike, and in order -/
def PI (w er fl me p pr m : Nat → Int32) : Prop := PR w er fl me p pr m ∧ IV m
theorem PI.congr (h : PI w er fl me p pr m) (e : ∀ i, i < 131 → m' i = m i) : PI w er fl me p pr m' := ⟨h.1.congr e, h.2.congr e⟩
theorem cpF (h : PI w2 er2 fl2 me2 p2 pr2 m) (w er fl me p pr : Nat → Int32) : ∃ w' er' fl' me' p' pr', g_X5_copyFrom w er fl me p pr w2 er2 fl2 me2 p2 pr2 = some (w', er', fl', me', p', pr') ∧ PI w' er' fl' me' p' pr' m ∧ w' = w2 ∧ p' = p2 ∧ pr' 0 = pr2 0 ∧ fl' 0 = fl2 0 := by
  obtain ⟨⟨⟨f1, f2, f3, f4, f5⟩, hp, q0, q1, q2, q3, hm⟩, hV⟩ := h
  have hg : ¬ ¬ (pr2 0 = 0 ∨ pr2 0 = 1) := by rw [q0]; exact not_not_intro hV.2.1
  refine ⟨w2, er2, upd (upd fl 0 (fl2 0)) 1 (fl2 1), upd (upd (upd (upd (upd (upd me 0 (me2 0)) 1 (me2 1)) 2 (me2 2)) 3 (me2 3)) 4 (me2 4)) 5 (me2 5), p2, upd (upd (upd (upd pr 0 (pr2 0)) 1 (pr2 1)) 2 (pr2 2)) 3 (pr2 3), ?_, ⟨⟨⟨f1, f2, ?_, ?_, f5⟩, hp, ?_, ?_, ?_, ?_, fun on => ?_⟩, hV⟩, rfl, rfl, ?_, ?_⟩
  · unfold g_X5_copyFrom g_X0_copyFrom g_X3_copyFrom
    simp only [Option.bind_some]
    rw [if_neg hg]
  · simp [upd, f3]
  · simp [upd, f4]
  · simp [upd, q0]
  · simp [upd, q1]
  · simp [upd, q2]
  · simp [upd, q3]
  · obtain ⟨a0, a1, a2, a3, a4, a5⟩ := hm on
    simp [upd, a0, a1, a2, a3, a4, a5]
  · simp [upd]
  · simp [upd]
end CP

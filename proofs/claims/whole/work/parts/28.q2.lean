-- the past: the class's ring, the reference's row of eight
section PS
variable {m m' w er fl me p pr ps mv pv : Nat → Int32} {W8 E8 F8 M8 P8 R8 : Nat → Nat → Int32}
def PA (pv : Nat → Int32) (W8 E8 F8 M8 P8 R8 : Nat → Nat → Int32) (ps mv : Nat → Int32) : Prop := ∃ O N : Nat, O < 8 ∧ N ≤ 8 ∧ pv 0 = nI O ∧ pv 1 = nI N ∧ mv 0 = nI N ∧ ∀ j, j < N → PI (W8 ((O + j) % 8)) (E8 ((O + j) % 8)) (F8 ((O + j) % 8)) (M8 ((O + j) % 8)) (P8 ((O + j) % 8)) (R8 ((O + j) % 8)) (fun k => ps (131 * j + k))
theorem PA.cgm (h : PA pv W8 E8 F8 M8 P8 R8 ps mv) {mv' : Nat → Int32} (e : mv' 0 = mv 0) : PA pv W8 E8 F8 M8 P8 R8 ps mv' := by
  obtain ⟨O, N, h1, h2, h3, h4, h5, h6⟩ := h
  exact ⟨O, N, h1, h2, h3, h4, e.trans h5, h6⟩
theorem sta {x : Nat} (hx : x < 1000) : g_X4_stateAt (nI x) = some (some (x % 8)) := by
  have h8 : x % 8 < 8 := Nat.mod_lt _ (by decide)
  unfold g_X4_stateAt g_X4_stateAt_27
  rw [show (8 : Int32) = nI 8 from rfl, jrem_nI (by omega) (by decide) (by decide)]
  generalize x % 8 = y at h8
  rcases (show y = 0 ∨ y = 1 ∨ y = 2 ∨ y = 3 ∨ y = 4 ∨ y = 5 ∨ y = 6 ∨ y = 7 by omega) with rfl | rfl | rfl | rfl | rfl | rfl | rfl | rfl <;> decide
theorem r32F {x : Nat} (hx : x < 1000) (e : pv 0 + pv 1 = nI x) {o : (Nat → Int32) × (Nat → Int32) × (Nat → Int32) × (Nat → Int32) × (Nat → Int32) × (Nat → Int32)} (hc : g_X5_copyFrom (W8 (x % 8)) (E8 (x % 8)) (F8 (x % 8)) (M8 (x % 8)) (P8 (x % 8)) (R8 (x % 8)) w er fl me p pr = some o) : g_X4_remember_32 w er fl me p pr pv W8 E8 F8 M8 P8 R8 = some (upd pv 1 (pv 1 + 1), va_up W8 (x % 8) o.1, va_up E8 (x % 8) o.2.1, va_up F8 (x % 8) o.2.2.1, va_up M8 (x % 8) o.2.2.2.1, va_up P8 (x % 8) o.2.2.2.2.1, va_up R8 (x % 8) o.2.2.2.2.2) := by
  have h8 : x % 8 < 8 := Nat.mod_lt _ (by decide)
  unfold g_X4_remember_32
  rw [e, sta hx, Option.bind_some]
  generalize x % 8 = y at h8 hc
  rcases (show y = 0 ∨ y = 1 ∨ y = 2 ∨ y = 3 ∨ y = 4 ∨ y = 5 ∨ y = 6 ∨ y = 7 by omega) with rfl | rfl | rfl | rfl | rfl | rfl | rfl | rfl <;> simp [hc]
theorem vup_s {α : Type} (f : Nat → α) (k : Nat) (x : α) : va_up f k x k = x := by simp [va_up]
theorem vup_n {α : Type} (f : Nat → α) {k j : Nat} (x : α) (h : j ≠ k) : va_up f k x j = f j := by simp [va_up, h]
theorem rem1 {O N : Nat} (hO : O < 8) (hN : N < 8) (h3 : pv 0 = nI O) (h4 : pv 1 = nI N) (h5 : mv 0 = nI N) (h6 : ∀ j, j < N → PI (W8 ((O + j) % 8)) (E8 ((O + j) % 8)) (F8 ((O + j) % 8)) (M8 ((O + j) % 8)) (P8 ((O + j) % 8)) (R8 ((O + j) % 8)) (fun k => ps (131 * j + k))) (h : PI w er fl me p pr m) :
    ∃ (pv' : Nat → Int32) (W' E' F' M' P' R' : Nat → Nat → Int32) (ps' mv' : Nat → Int32), g_X4_remember_32 w er fl me p pr pv W8 E8 F8 M8 P8 R8 = some (pv', W', E', F', M', P', R') ∧ g_X7_keep_50 m ps mv = some (ps', mv') ∧ PA pv' W' E' F' M' P' R' ps' mv' := by
  obtain ⟨ps', k1, k2, k3⟩ := kepF (m := m) (ps := ps) hN h5
  obtain ⟨w', er', fl', me', p', pr', c1, c2, -⟩ := cpF h (W8 ((O + N) % 8)) (E8 ((O + N) % 8)) (F8 ((O + N) % 8)) (M8 ((O + N) % 8)) (P8 ((O + N) % 8)) (R8 ((O + N) % 8))
  refine ⟨_, _, _, _, _, _, _, ps', _, r32F (x := O + N) (by omega) (by rw [h3, h4, nI_add]) c1, k1, O, N + 1, hO, by omega, ?_, ?_, ?_, fun j hj => ?_⟩
  · simp [upd, h3]
  · simp [upd, h4, nI_s]
  · simp [upd]
  · by_cases hjN : j = N
    · subst hjN
      rw [vup_s, vup_s, vup_s, vup_s, vup_s, vup_s]
      exact c2.congr (fun i hi => k2 i hi)
    · have hne : (O + j) % 8 ≠ (O + N) % 8 := by omega
      rw [vup_n _ _ hne, vup_n _ _ hne, vup_n _ _ hne, vup_n _ _ hne, vup_n _ _ hne, vup_n _ _ hne]
      exact (h6 j (by omega)).congr (fun i hi => k3 _ (by omega))
theorem remF (hA : PA pv W8 E8 F8 M8 P8 R8 ps mv) (h : PI w er fl me p pr m) :
    ∃ (pv' : Nat → Int32) (W' E' F' M' P' R' : Nat → Nat → Int32) (ps' mv' : Nat → Int32), g_X4_remember pv W8 E8 F8 M8 P8 R8 w er fl me p pr = some (pv', W', E', F', M', P', R') ∧ g_X7_keep m ps mv = some (ps', mv') ∧ PA pv' W' E' F' M' P' R' ps' mv' := by
  obtain ⟨O, N, h1, h2, h3, h4, h5, h6⟩ := hA
  unfold g_X4_remember g_X7_keep
  by_cases hN : N = 8
  · subst hN
    rw [if_pos (show pv 1 = 8 from h4), if_pos (show mv 0 = 8 from h5)]
    obtain ⟨ps1, k1, k2⟩ := shfF (m := m) (ps := ps) h5
    rw [k1]
    refine rem1 (O := (O + 1) % 8) (N := 7) (Nat.mod_lt _ (by decide)) (by decide) ?_ ?_ ?_ (fun j hj => ?_) h
    · rw [h3, nI_s, show (8 : Int32) = nI 8 from rfl, jrem_nI (by omega) (by decide) (by decide)]; simp [upd]
    · rw [h4]; simp [upd]; rfl
    · simp [upd]
    · have e := h6 (j + 1) (by omega)
      rw [show (O + (j + 1)) % 8 = ((O + 1) % 8 + j) % 8 by omega] at e
      exact e.congr (fun i hi => by
        show ps1 (131 * j + i) = ps (131 * (j + 1) + i)
        exact (k2 (131 * j + i) (by omega)).trans (congrArg ps (by omega)))
  · have hne : ∀ x : Int32, x = nI N → ¬ x = 8 := by
      intro x hx e
      exact hN ((nI_inj (b := 8) (by omega) (by decide)).mp (hx.symm.trans e))
    rw [if_neg (hne _ h4), if_neg (hne _ h5)]
    exact rem1 h1 (by omega) h3 h4 h5 h6 h
theorem resF {O N : Nat} (hO : O < 8) (hN : N < 8) (h3 : pv 0 = nI O) (h4 : pv 1 = nI (N + 1)) {o : (Nat → Int32) × (Nat → Int32) × (Nat → Int32) × (Nat → Int32) × (Nat → Int32) × (Nat → Int32)} (hc : g_X5_copyFrom w er fl me p pr (W8 ((O + N) % 8)) (E8 ((O + N) % 8)) (F8 ((O + N) % 8)) (M8 ((O + N) % 8)) (P8 ((O + N) % 8)) (R8 ((O + N) % 8)) = some o) : g_X4_restore w er fl me p pr pv W8 E8 F8 M8 P8 R8 = some (o.1, o.2.1, o.2.2.1, o.2.2.2.1, o.2.2.2.2.1, o.2.2.2.2.2, upd pv 1 (nI N)) := by
  have h8 : (O + N) % 8 < 8 := Nat.mod_lt _ (by decide)
  unfold g_X4_restore
  rw [h3, h4, if_neg (show ¬ nI (N + 1) ≤ 0 from nI_ge (a := 0) (b := N + 1) (by omega) (by omega)), nI_add, show O + (N + 1) = O + N + 1 by omega, nI_sub1, nI_sub1, sta (by omega), Option.bind_some]
  generalize (O + N) % 8 = y at h8 hc
  rcases (show y = 0 ∨ y = 1 ∨ y = 2 ∨ y = 3 ∨ y = 4 ∨ y = 5 ∨ y = 6 ∨ y = 7 by omega) with rfl | rfl | rfl | rfl | rfl | rfl | rfl | rfl <;> simp [hc]
theorem undoF (hA : PA pv W8 E8 F8 M8 P8 R8 ps mv) (h : PI w er fl me p pr m) :
    ∃ (r : Int32) (w' er' fl' me' p' pr' pv' m' mv' : Nat → Int32), g_X6_undo w er fl me p pr pv W8 E8 F8 M8 P8 R8 = some (r, w', er', fl', me', p', pr', pv') ∧ g_X7_undo m ps mv = some (r, m', mv') ∧ PI w' er' fl' me' p' pr' m' ∧ PA pv' W8 E8 F8 M8 P8 R8 ps mv' := by
  obtain ⟨O, N, h1, h2, h3, h4, h5, h6⟩ := hA
  unfold g_X6_undo g_X7_undo
  cases N with
  | zero =>
    rw [if_pos (show pv 1 = 0 from h4), if_pos (show mv 0 = 0 from h5)]
    exact ⟨_, _, _, _, _, _, _, _, _, _, rfl, rfl, h, O, 0, h1, by decide, h3, h4, h5, h6⟩
  | succ N =>
    have hne : ∀ x : Int32, x = nI (N + 1) → ¬ x = 0 := by
      intro x hx e
      have := (nI_inj (b := 0) (by omega) (by decide)).mp (hx.symm.trans e)
      omega
    rw [if_neg (hne _ h4), if_neg (hne _ h5)]
    obtain ⟨w', er', fl', me', p', pr', c1, c2, -⟩ := cpF (h6 N (by omega)) w er fl me p pr
    obtain ⟨m', k1, k2⟩ := undF (m := m) (ps := ps) (mv := upd mv 0 (mv 0 - 1)) (M := N) (by omega) (by rw [h5, nI_sub1]; simp [upd])
    rw [resF h1 (by omega) h3 h4 c1, k1]
    refine ⟨nI N, w', er', fl', me', p', pr', upd pv 1 (nI N), m', upd mv 0 (mv 0 - 1), ?_, rfl, c2.congr k2, O, N, h1, by omega, ?_, ?_, ?_, fun j hj => h6 j (by omega)⟩
    · simp [upd]
    · simp [upd, h3]
    · simp [upd]
    · rw [h5, nI_sub1]; simp [upd]
end PS

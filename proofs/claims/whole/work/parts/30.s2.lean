-- the face: prices, cuts, power, images
section FC2
variable {m w er fl me p pr ps mv pv im ik : Nat → Int32} {W8 E8 F8 M8 P8 R8 fi W2 E2 F2 M2 P2 R2 : Nat → Nat → Int32}
theorem set127 (h : PI w er fl me p pr m) {s c : Nat} (hs : s < 4) (h1 : 1 ≤ c) (h2 : c ≤ 999) : PI w er fl me (upd p s (nI c)) pr (upd m (127 + s) (nI c)) := by
  obtain ⟨⟨⟨f1, f2, f3, f4, f5⟩, hp, p0, p1, p2, p3, hm⟩, hV⟩ := h
  have e : ∀ i, i < 127 → (upd m (127 + s) (nI c)) i = m i := fun i hi => by simp [upd, show ¬ i = 127 + s by omega]
  refine ⟨⟨⟨fun i hi => (f1 i hi).trans (e i (by omega)).symm, fun i hi => (f2 i hi).trans (e _ (by omega)).symm, f3.trans (e _ (by decide)).symm, f4.trans (e _ (by decide)).symm, by rw [e _ (by decide)]; exact f5⟩, fun i hi => ?_, p0.trans (e _ (by decide)).symm, p1.trans (e _ (by decide)).symm, p2.trans (e _ (by decide)).symm, p3.trans (e _ (by decide)).symm, fun on => ?_⟩, IV_low hV (fun i hi => e i (by omega)) (fun i hi => ?_) (by rw [e _ (by decide)]; exact hV.2.2.2)⟩
  · by_cases hi2 : i = s
    · subst hi2; simp [upd]
    · simp [upd, hi2, hp i hi]
  · rw [e _ (by decide)] at on
    rw [e _ (by decide), e _ (by decide), e _ (by decide), e _ (by decide), e _ (by decide), e _ (by decide)]
    exact hm on
  · by_cases hi2 : i = s
    · subst hi2; exact ⟨c, h1, h2, by simp [upd]⟩
    · obtain ⟨c', z⟩ := hV.2.2.1 i hi
      exact ⟨c', by simpa [upd, hi2] using z⟩
theorem set126 (h : PI w er fl me p pr m) {t : Int32} (ht : LV t) : PI w er (upd fl 1 t) me p pr (upd m 126 t) := by
  obtain ⟨⟨⟨f1, f2, f3, f4, f5⟩, hp, p0, p1, p2, p3, hm⟩, hV⟩ := h
  have e : ∀ i, i ≠ 126 → (upd m 126 t) i = m i := fun i hi => by simp [upd, hi]
  refine ⟨⟨⟨fun i hi => (f1 i hi).trans (e i (by omega)).symm, fun i hi => (f2 i hi).trans (e _ (by omega)).symm, by simp [upd, f3], by simp [upd], by simp only [upd, if_true]; exact ht⟩, fun i hi => (hp i hi).trans (e _ (by omega)).symm, p0.trans (e _ (by decide)).symm, p1.trans (e _ (by decide)).symm, p2.trans (e _ (by decide)).symm, p3.trans (e _ (by decide)).symm, fun on => ?_⟩, IV_low hV (fun i hi => e i (by omega)) (fun i hi => by rw [e _ (by omega)]; exact hV.2.2.1 i hi) (by rw [e _ (by decide)]; exact hV.2.2.2)⟩
  rw [e _ (by decide)] at on
  rw [e _ (by decide), e _ (by decide), e _ (by decide), e _ (by decide), e _ (by decide), e _ (by decide)]
  exact hm on
theorem inI_lo {n hi : Int32} (h : inI n 1 hi = true) : inI n 0 hi = true := by
  unfold inI at h ⊢
  simp only [Bool.and_eq_true, Bool.not_eq_true', decide_eq_false_iff_not] at h ⊢
  exact ⟨fun z => h.1 (Int32.lt_trans z (by decide)), h.2⟩
theorem inI_1 {n : Int32} {M : Int32} {h : Nat} (hM : M.toInt = h) (e : inI n 1 M = true) : ∃ j : Nat, 1 ≤ j ∧ j ≤ h ∧ n = nI j := by
  obtain ⟨j, hj, rfl⟩ := inI_nI hM (inI_lo e)
  refine ⟨j, ?_, hj, rfl⟩
  rcases Nat.eq_zero_or_pos j with rfl | h0
  · unfold inI at e
    rw [show decide (nI 0 < 1) = true by decide] at e
    exact absurd e (by simp)
  · exact h0
theorem priceF (hA : PA pv W8 E8 F8 M8 P8 R8 ps mv) (h : PI w er fl me p pr m) (n1 n2 : Int32) :
    ∃ (r : Int32) (p' pv' : Nat → Int32) (W' E' F' M' P' R' : Nat → Nat → Int32) (m' ps' mv' : Nat → Int32), g_X6_setPrice w er fl me p pr pv W8 E8 F8 M8 P8 R8 n1 n2 = some (r, p', pv', W', E', F', M', P', R') ∧ g_X7_setPrice m ps mv n1 n2 = some (r, m', ps', mv') ∧ PI w er fl me p' pr m' ∧ PA pv' W' E' F' M' P' R' ps' mv' := by
  unfold g_X6_setPrice g_X7_setPrice g_X6_setPrice_18 g_X7_setPrice_18
  rw [iw0, iw7, is0, is7]
  simp only [Option.bind_some]
  cases h1 : inI n1 0 3
  · rw [bF rfl, if_pos rfl, if_pos rfl]
    exact ⟨_, _, _, _, _, _, _, _, _, _, _, _, rfl, rfl, h, hA⟩
  · rw [bT rfl, if_neg i1ne, if_neg i1ne]
    cases h2 : inI n2 1 999
    · rw [bF rfl, if_pos rfl, if_pos rfl]
      exact ⟨_, _, _, _, _, _, _, _, _, _, _, _, rfl, rfl, h, hA⟩
    · rw [bT rfl, if_neg i1ne, if_neg i1ne]
      obtain ⟨s, hs, rfl⟩ := inI_nI (h := 3) (by decide) h1
      obtain ⟨c, hc1, hc2, rfl⟩ := inI_1 (h := 999) (by decide) h2
      obtain ⟨pv', W', E', F', M', P', R', ps', mv', k1, k2, k3⟩ := remF hA h
      have hcp : g_X5_changePrice p (nI s) (nI c) = some (upd p s (nI c)) := by
        unfold g_X5_changePrice
        rw [if_neg (nI_neg (by omega)), if_neg (n4_le (by omega)), if_neg (cond_nI (N := 4) (by omega) (by decide)), nI_clamp (by omega)]
      rw [k1, k2, Option.bind_some, Option.bind_some, prc0 (by omega), Option.bind_some, hcp, Option.bind_some, prc7, if_neg (cond_nI (by omega) (by decide)), if_neg (cond_nI (by omega) (by decide)), nI_clamp (by omega), h.1.2.1 s (by omega)]
      exact ⟨_, _, _, _, _, _, _, _, _, _, _, _, rfl, rfl, set127 h (by omega) hc1 hc2, k3⟩
theorem cutF (hA : PA pv W8 E8 F8 M8 P8 R8 ps mv) (h : PI w er fl me p pr m) (n1 : Int32) :
    ∃ (r : Int32) (fl' pv' : Nat → Int32) (W' E' F' M' P' R' : Nat → Nat → Int32) (m' ps' mv' : Nat → Int32), g_X6_cut w er fl me p pr pv W8 E8 F8 M8 P8 R8 n1 = some (r, fl', pv', W', E', F', M', P', R') ∧ g_X7_cut m ps mv n1 = some (r, m', ps', mv') ∧ PI w er fl' me p pr m' ∧ PA pv' W' E' F' M' P' R' ps' mv' := by
  unfold g_X6_cut g_X7_cut g_X6_cut_51 g_X7_cut_40
  rw [iw0, iw7]
  simp only [Option.bind_some]
  have g126 : ¬ ((126 : Int32) < 0 ∨ 131 ≤ (126 : Int32).toNatClampNeg) := by decide
  have t126 : (126 : Int32).toNatClampNeg = 126 := by decide
  cases h1 : inI n1 (-1) 100
  · rw [bF rfl, if_pos rfl, if_pos rfl]
    exact ⟨_, _, _, _, _, _, _, _, _, _, _, _, rfl, rfl, h, hA⟩
  · rw [bT rfl, if_neg i1ne, if_neg i1ne]
    obtain ⟨pv', W', E', F', M', P', R', ps', mv', k1, k2, k3⟩ := remF hA h
    rw [k1, k2, Option.bind_some, Option.bind_some, if_neg g126, if_neg g126, t126, h.1.1.2.2.2.1]
    by_cases h0 : (0 : Int32) ≤ n1
    · have h2 : inI n1 0 100 = true := by
        unfold inI at h1 ⊢
        simp only [Bool.and_eq_true, Bool.not_eq_true', decide_eq_false_iff_not] at h1 ⊢
        exact ⟨Int32.not_lt.mpr h0, h1.2⟩
      obtain ⟨c, hc, rfl⟩ := inI_nI (h := 100) (by decide) h2
      rw [if_pos h0, if_pos h0]
      exact ⟨_, _, _, _, _, _, _, _, _, _, _, _, rfl, rfl, set126 h (Or.inr ⟨c, hc, rfl⟩), k3⟩
    · rw [if_neg h0, if_neg h0]
      exact ⟨_, _, _, _, _, _, _, _, _, _, _, _, rfl, rfl, set126 h (Or.inl rfl), k3⟩
theorem powF (hA : PA pv W8 E8 F8 M8 P8 R8 ps mv) (h : PI w er fl me p pr m) :
    ∃ (r : Int32) (me' pr' pv' : Nat → Int32) (W' E' F' M' P' R' : Nat → Nat → Int32) (m' ps' mv' : Nat → Int32), g_X6_off w er fl me p pr pv W8 E8 F8 M8 P8 R8 = some (r, me', pr', pv', W', E', F', M', P', R') ∧ g_X7_off m ps mv = some (r, m', ps', mv') ∧ PI w er fl me' p pr' m' ∧ PA pv' W' E' F' M' P' R' ps' mv' := by
  unfold g_X6_off g_X7_off
  rw [h.1.2.2.1]
  by_cases on : m 115 = 0
  · rw [if_pos on, if_pos on]
    exact ⟨_, _, _, _, _, _, _, _, _, _, _, _, _, rfl, rfl, h, hA⟩
  · rw [if_neg on, if_neg on]
    obtain ⟨pv', W', E', F', M', P', R', ps', mv', k1, k2, k3⟩ := remF hA h
    obtain ⟨me', a1, a2, a3⟩ := offF h.1 h.2
    rw [k1, k2, Option.bind_some, Option.bind_some, a1, Option.bind_some, tal1 a2.1.1, co7, Option.bind_some, Option.bind_some]
    exact ⟨_, _, _, _, _, _, _, _, _, _, _, _, _, rfl, rfl, ⟨a2, a3⟩, k3⟩
theorem startF (hA : PA pv W8 E8 F8 M8 P8 R8 ps mv) (h : PI w er fl me p pr m) :
    ∃ (r : Int32) (me' pr' pv' : Nat → Int32) (W' E' F' M' P' R' : Nat → Nat → Int32) (m' ps' mv' : Nat → Int32), g_X6_start w er fl me p pr pv W8 E8 F8 M8 P8 R8 = some (r, me', pr', pv', W', E', F', M', P', R') ∧ g_X7_start m ps mv = some (r, m', ps', mv') ∧ PI w er fl me' p pr' m' ∧ PA pv' W' E' F' M' P' R' ps' mv' := by
  unfold g_X6_start g_X7_start
  rw [h.1.2.2.1]
  by_cases on : m 115 = 0
  · rw [if_pos on, if_neg (show ¬ m 115 = 1 by rw [on]; decide)]
    obtain ⟨pv', W', E', F', M', P', R', ps', mv', k1, k2, k3⟩ := remF hA h
    obtain ⟨me', m', a1, a2, a3, a4, a5, a6⟩ := wakF h.1 h.2
    rw [k1, k2, Option.bind_some, Option.bind_some, a1, a2, Option.bind_some, Option.bind_some]
    have e2 : me' 2 = m' 118 := (a3.2.2.2.2.2.2 a5).2.2.1
    exact ⟨_, _, _, _, _, _, _, _, _, _, _, _, _, rfl, by show _ = some (me' 2, m', ps', mv'); rw [e2], ⟨a3, a4⟩, k3⟩
  · rw [if_neg on, if_pos (h.2.2.1.resolve_left on)]
    exact ⟨_, _, _, _, _, _, _, _, _, _, _, _, _, rfl, rfl, h, hA⟩
-- images
def IM (fi W2 E2 F2 M2 P2 R2 : Nat → Nat → Int32) (im ik : Nat → Int32) : Prop := ∀ i, i < 2 → fi i 0 = ik i ∧ (ik i = 0 ∨ ik i = 1) ∧ (ik i = 1 → PI (W2 i) (E2 i) (F2 i) (M2 i) (P2 i) (R2 i) (fun k => im (131 * i + k)))
theorem ii0 (n : Int32) : g_X6_isImage n = some (b2i (inI n 0 1)) := by
  cases h : inI n 0 1
  · unfold g_X6_isImage g_X6_isImage_26
    by_cases h0 : n < 0
    · rw [if_pos h0]; rfl
    · rw [if_neg h0]
      by_cases h1 : (2 : Int32) ≤ n
      · rw [if_pos h1]; rfl
      · exfalso
        unfold inI at h
        rw [Bool.and_eq_false_iff] at h
        rcases h with z | z
        · simp only [Bool.not_eq_false', decide_eq_true_eq] at z
          exact h0 z
        · simp only [Bool.not_eq_false', decide_eq_true_eq] at z
          refine h1 ?_
          rw [Int32.lt_iff_toInt_lt] at z
          rw [Int32.le_iff_toInt_le]
          have a1 : (1 : Int32).toInt = 1 := by decide
          have a2 : (2 : Int32).toInt = 2 := by decide
          omega
  · obtain ⟨j, hj, rfl⟩ := inI_nI (h := 1) (by decide) h
    rcases (show j = 0 ∨ j = 1 by omega) with rfl | rfl <;> decide
theorem keepF (hI : IM fi W2 E2 F2 M2 P2 R2 im ik) (h : PI w er fl me p pr m) (n1 : Int32) :
    ∃ (r : Int32) (fi' W' E' F' M' P' R' : Nat → Nat → Int32) (im' ik' : Nat → Int32), g_X6_keep w er fl me p pr fi W2 E2 F2 M2 P2 R2 n1 = some (r, fi', W', E', F', M', P', R') ∧ g_X7_keep_ m im ik n1 = some (r, im', ik') ∧ IM fi' W' E' F' M' P' R' im' ik' := by
  unfold g_X6_keep g_X7_keep_
  rw [ii0, ii7]
  simp only [Option.bind_some]
  cases h1 : inI n1 0 1
  · rw [bF rfl, if_pos rfl, if_pos rfl]
    exact ⟨_, _, _, _, _, _, _, _, _, _, rfl, rfl, hI⟩
  · rw [bT rfl, if_neg i1ne, if_neg i1ne]
    obtain ⟨j, hj, rfl⟩ := inI_nI (h := 1) (by decide) h1
    obtain ⟨im', k1, k2, k3⟩ := imgF (m := m) (im := im) (ik := ik) (M := j) (by omega)
    obtain ⟨w', er', fl', me', p', pr', c1, c2, -⟩ := cpF h (W2 j) (E2 j) (F2 j) (M2 j) (P2 j) (R2 j)
    have hst : g_X1_store (fi j) (W2 j) (E2 j) (F2 j) (M2 j) (P2 j) (R2 j) w er fl me p pr = some (upd (fi j) 0 1, w', er', fl', me', p', pr') := by
      unfold g_X1_store
      rw [c1, Option.bind_some]
    refine ⟨tl5 m (ff m (-1)), va_up fi j (upd (fi j) 0 1), va_up W2 j w', va_up E2 j er', va_up F2 j fl', va_up M2 j me', va_up P2 j p', va_up R2 j pr', im', upd ik j 1, ?_, k1, fun i hi => ?_⟩
    · rcases (show j = 0 ∨ j = 1 by omega) with rfl | rfl
      · rw [if_pos (show nI 0 = 0 from rfl), hst, Option.bind_some, tal1 h.1.1.1, Option.bind_some]
      · rw [if_neg (show ¬ nI 1 = 0 by decide), if_pos (show nI 1 = 1 from rfl), hst, Option.bind_some, tal1 h.1.1.1, Option.bind_some]
    · by_cases hij : i = j
      · subst hij
        rw [vup_s, vup_s, vup_s, vup_s, vup_s, vup_s, vup_s]
        exact ⟨by simp [upd], Or.inr (by simp [upd]), fun _ => c2.congr k2⟩
      · rw [vup_n _ _ hij, vup_n _ _ hij, vup_n _ _ hij, vup_n _ _ hij, vup_n _ _ hij, vup_n _ _ hij, vup_n _ _ hij]
        obtain ⟨z1, z2, z3⟩ := hI i hi
        rw [show (upd ik j 1) i = ik i by simp [upd, hij]]
        exact ⟨z1, z2, fun z => (z3 z).congr (fun k hk => k3 _ (by omega))⟩
theorem backF (hA : PA pv W8 E8 F8 M8 P8 R8 ps mv) (hI : IM fi W2 E2 F2 M2 P2 R2 im ik) (h : PI w er fl me p pr m) (n1 : Int32) :
    ∃ (r : Int32) (w' er' fl' me' p' pr' pv' : Nat → Int32) (W' E' F' M' P' R' : Nat → Nat → Int32) (m' ps' mv' : Nat → Int32), g_X6_back w er fl me p pr fi W2 E2 F2 M2 P2 R2 pv W8 E8 F8 M8 P8 R8 n1 = some (r, w', er', fl', me', p', pr', pv', W', E', F', M', P', R') ∧ g_X7_back m ps im ik mv n1 = some (r, m', ps', mv') ∧ PI w' er' fl' me' p' pr' m' ∧ PA pv' W' E' F' M' P' R' ps' mv' := by
  unfold g_X6_back g_X7_back
  rw [ii0, ii7]
  simp only [Option.bind_some]
  cases h1 : inI n1 0 1
  · rw [bF rfl, if_pos rfl, if_pos rfl]
    exact ⟨_, _, _, _, _, _, _, _, _, _, _, _, _, _, _, _, _, rfl, rfl, h, hA⟩
  · rw [bT rfl, if_neg i1ne, if_neg i1ne]
    obtain ⟨j, hj, rfl⟩ := inI_nI (h := 1) (by decide) h1
    obtain ⟨z1, z2, z3⟩ := hI j (by omega)
    rw [if_neg (cond_nI (by omega) (by decide)), nI_clamp (by omega)]
    by_cases hk : ik j = 0
    · refine ⟨-2, w, er, fl, me, p, pr, pv, W8, E8, F8, M8, P8, R8, m, ps, mv, ?_, by rw [if_pos hk], h, hA⟩
      rcases (show j = 0 ∨ j = 1 by omega) with rfl | rfl
      · rw [if_pos (show nI 0 = 0 from rfl), if_pos (z1.trans hk)]
      · rw [if_neg (show ¬ nI 1 = 0 by decide), if_pos (show nI 1 = 1 from rfl), if_pos (z1.trans hk)]
    · have hp := z3 (z2.resolve_left hk)
      obtain ⟨pv', W', E', F', M', P', R', ps', mv', k1, k2, k3⟩ := remF hA h
      obtain ⟨w', er', fl', me', p', pr', c1, c2, c3, -⟩ := cpF hp w er fl me p pr
      obtain ⟨m', b1, b2⟩ := bckF (m := m) (im := im) (ik := ik) (ps := ps') (mv := mv') (M := j) (by omega)
      have c4 := c2.congr b2
      refine ⟨tl5 m' (ff m' (-1)), w', er', fl', me', p', pr', pv', W', E', F', M', P', R', m', ps', mv', ?_, by rw [if_neg hk, k2, Option.bind_some, b1], c4, k3⟩
      have ht := tal1 c4.1.1.1
      have hz : ¬ fi j 0 = 0 := fun e => hk (z1.symm.trans e)
      rcases (show j = 0 ∨ j = 1 by omega) with rfl | rfl
      · rw [if_pos (show nI 0 = 0 from rfl), if_neg hz, k1, Option.bind_some, if_pos (show nI 0 = 0 from rfl), c1, Option.bind_some, ht, Option.bind_some]
      · rw [if_neg (show ¬ nI 1 = 0 by decide), if_pos (show nI 1 = 1 from rfl), if_neg hz, k1, Option.bind_some, if_neg (show ¬ nI 1 = 0 by decide), if_pos (show nI 1 = 1 from rfl), c1, Option.bind_some, ht, Option.bind_some]
end FC2

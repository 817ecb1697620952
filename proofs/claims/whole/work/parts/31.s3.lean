-- the face: what only tells, and what is tried on the side
section FC3
variable {m w er fl me p pr ps mv pv im ik asd wt ert flt met pt prt : Nat → Int32} {W8 E8 F8 M8 P8 R8 : Nat → Nat → Int32}
theorem prcF (h : PI w er fl me p pr m) (n1 : Int32) : ∃ r, g_X6_price p n1 = some r ∧ g_X7_price m n1 = some r := by
  unfold g_X6_price g_X7_price
  rw [is0, is7]
  simp only [Option.bind_some]
  cases h1 : inI n1 0 3
  · exact ⟨-1, rfl, rfl⟩
  · obtain ⟨s, hs, rfl⟩ := inI_nI (h := 3) (by decide) h1
    rw [bT rfl, if_neg i1ne, if_neg i1ne, prc0 (by omega), Option.bind_some, prc7, if_neg (cond_nI (by omega) (by decide)), nI_clamp (by omega), h.1.2.1 s (by omega)]
    exact ⟨_, rfl, rfl⟩
theorem wrdF (h : PI w er fl me p pr m) (n1 n2 : Int32) : ∃ r, g_X6_word w n1 n2 = some r ∧ g_X7_word m n1 n2 = some r := by
  unfold g_X6_word g_X7_word g_X6_word_32 g_X7_word_26
  rw [ib0, ib7, iw0, iw7]
  simp only [Option.bind_some]
  cases h1 : inI n1 0 4
  · exact ⟨-1, rfl, rfl⟩
  · cases h2 : inI n2 0 21
    · exact ⟨-1, rfl, rfl⟩
    · obtain ⟨b, hb, rfl⟩ := inI_nI (h := 4) (by decide) h1
      obtain ⟨c, hc, rfl⟩ := inI_nI (h := 21) (by decide) h2
      rw [bT rfl, if_neg i1ne, if_neg i1ne, if_neg i1ne, if_neg i1ne, read_nI (by omega) (by omega), at_nI (by omega) (by omega), h.1.1.1 _ (by omega)]
      exact ⟨_, rfl, rfl⟩
theorem tl_eq {b : Nat} {f g : Nat → Nat → Bool} (h1 : wh w b = wh m b) (h2 : ∀ q, q < 4 → f b q = g b q) : tl w f b = tl m g b := by
  unfold tl cn4
  rw [h1, h2 0 (by decide), h2 1 (by decide), h2 2 (by decide), h2 3 (by decide)]
theorem blkF (h : PI w er fl me p pr m) (n1 n2 : Int32) : ∃ r, g_X6_block w er n1 n2 = some r ∧ g_X7_block m n1 n2 = some r := by
  unfold g_X6_block g_X7_block g_X7_block_16
  rw [ib0, ib7, iw7]
  simp only [Option.bind_some]
  cases h1 : inI n1 0 4
  · exact ⟨-1, rfl, rfl⟩
  · obtain ⟨b, hb, rfl⟩ := inI_nI (h := 4) (by decide) h1
    have hb5 : b < 5 := by omega
    have hw := h.1.1.1
    have her : g_X0_erasuresOf er (nI b) = some (m (110 + b)) := by
      unfold g_X0_erasuresOf
      rw [if_neg (nI_neg (by omega)), if_neg (n5_le hb5), if_neg (cond_nI hb5 (by decide)), nI_clamp (by omega), h.1.1.2.1 b hb5]
    have hb110 : (110 : Int32) + nI b = nI (110 + b) := by rw [show (110 : Int32) = nI 110 from rfl, nI_add]
    rw [bT rfl, if_neg i1ne, if_neg i1ne, wh0 hb5, wh7 hb5, wh_low hw hb5, read_0 hb5, at_0 hb5, hw _ (by omega), ti0 hb5, ti0 hb5, ci7 hb5, ci7 hb5, her, hb110, if_neg (cond_nI (by omega) (by decide)), nI_clamp (by omega)]
    have t1 : tl w (fun b q => sto w b q == 1) b = tl m (ff m (-1)) b := tl_eq (wh_low hw hb5) (fun q hq => by rw [sto_low hw hb5 hq]; exact sto_1)
    have t2 : tl w (fun b q => sto w b q == 2) b = tl m (ff m (-2)) b := tl_eq (wh_low hw hb5) (fun q hq => by rw [sto_low hw hb5 hq]; exact sto_2)
    rw [t1, t2]
    simp only [Option.bind_some]
    by_cases q0 : n2 = 0
    · subst q0
      cases wh m b
      · exact ⟨_, rfl, rfl⟩
      · exact ⟨_, rfl, rfl⟩
    · by_cases q1 : n2 = 1
      · subst q1
        cases wh m b
        · exact ⟨_, rfl, rfl⟩
        · exact ⟨_, rfl, rfl⟩
      · by_cases q2 : n2 = 2
        · subst q2; exact ⟨_, rfl, rfl⟩
        · by_cases q3 : n2 = 3
          · subst q3; exact ⟨_, rfl, rfl⟩
          · by_cases q4 : n2 = 4
            · subst q4; exact ⟨_, rfl, rfl⟩
            · have hf : inI n2 0 4 = false := by
                cases hin : inI n2 0 4
                · rfl
                · obtain ⟨j, hj, rfl⟩ := inI_nI (h := 4) (by decide) hin
                  rcases (show j = 0 ∨ j = 1 ∨ j = 2 ∨ j = 3 ∨ j = 4 by omega) with rfl | rfl | rfl | rfl | rfl
                  · exact absurd rfl q0
                  · exact absurd rfl q1
                  · exact absurd rfl q2
                  · exact absurd rfl q3
                  · exact absurd rfl q4
              rw [if_neg q0, if_neg q1, if_neg q2, if_neg q3, if_neg q4, hf]
              exact ⟨-1, rfl, rfl⟩
theorem tolF (hA : PA pv W8 E8 F8 M8 P8 R8 ps mv) (h : PI w er fl me p pr m) (n1 : Int32) : ∃ r, g_X6_told fl me pr pv n1 = some r ∧ g_X7_told m mv n1 = some r := by
  obtain ⟨O, N, -, -, -, h4, h5, -⟩ := hA
  obtain ⟨⟨⟨f1, f2, f3, f4, f5⟩, hp, p0, p1, p2, p3, hm⟩, hV⟩ := h
  unfold g_X6_told g_X7_told g_X7_told_35
  rw [iw0, iw7, iw7]
  simp only [Option.bind_some]
  cases hin : inI n1 0 12
  · have h27 : inI n1 2 7 = false := by
      cases z : inI n1 2 7
      · rfl
      · exfalso
        unfold inI at hin z
        simp only [Bool.and_eq_true, Bool.not_eq_true', decide_eq_false_iff_not] at z
        rw [Bool.and_eq_false_iff] at hin
        rcases hin with y | y
        · simp only [Bool.not_eq_false', decide_eq_true_eq] at y
          exact z.1 (Int32.lt_trans y (by decide))
        · simp only [Bool.not_eq_false', decide_eq_true_eq] at y
          exact z.2 (Int32.lt_trans (by decide) y)
    have hn : ∀ j : Nat, j ≤ 12 → ¬ n1 = nI j := by
      intro j hj e
      subst e
      have : inI (nI j) 0 12 = true := by
        unfold inI
        rw [decide_eq_false (nI_neg (by omega)), decide_eq_false (show ¬ (12 : Int32) < nI j from nI_nlt (a := 12) (b := j) hj (by decide))]
        rfl
      rw [this] at hin
      exact absurd hin (by decide)
    rw [if_neg (show ¬ n1 = 0 from hn 0 (by decide)), if_neg (show ¬ n1 = 1 from hn 1 (by decide)), if_neg (show ¬ n1 = 8 from hn 8 (by decide)), if_neg (show ¬ n1 = 9 from hn 9 (by decide)), if_neg (show ¬ n1 = 10 from hn 10 (by decide)), if_neg (show ¬ n1 = 11 from hn 11 (by decide)), if_neg (show ¬ n1 = 12 from hn 12 (by decide)), h27]
    exact ⟨-1, rfl, rfl⟩
  · obtain ⟨j, hj, rfl⟩ := inI_nI (h := 12) (by decide) hin
    unfold g_X6_knownNumber
    rw [p0, p1, p2, p3, f3, f4, h4, h5]
    rcases hV.2.1 with on | on
    · rw [on]
      rcases (show j = 0 ∨ j = 1 ∨ j = 2 ∨ j = 3 ∨ j = 4 ∨ j = 5 ∨ j = 6 ∨ j = 7 ∨ j = 8 ∨ j = 9 ∨ j = 10 ∨ j = 11 ∨ j = 12 by omega) with rfl | rfl | rfl | rfl | rfl | rfl | rfl | rfl | rfl | rfl | rfl | rfl | rfl <;> exact ⟨_, rfl, rfl⟩
    · obtain ⟨a0, a1, a2, a3, a4, a5⟩ := hm on
      rw [on, a0, a1, a2, a3, a4, a5]
      rcases (show j = 0 ∨ j = 1 ∨ j = 2 ∨ j = 3 ∨ j = 4 ∨ j = 5 ∨ j = 6 ∨ j = 7 ∨ j = 8 ∨ j = 9 ∨ j = 10 ∨ j = 11 ∨ j = 12 by omega) with rfl | rfl | rfl | rfl | rfl | rfl | rfl | rfl | rfl | rfl | rfl | rfl | rfl <;> exact ⟨_, rfl, rfl⟩
theorem nedF (h : PI w er fl me p pr m) (n1 : Int32) : ∃ r, g_X6_needed me p pr n1 = some r ∧ g_X7_needed m n1 = some r := by
  obtain ⟨r, a1, a2, a3⟩ := refF h.1 h.2 n1
  unfold g_X6_needed g_X7_needed
  rw [a1, a2, Option.bind_some, Option.bind_some]
  by_cases hr : r = 0
  · obtain ⟨on, -⟩ := a3 hr
    rw [if_pos hr, if_pos hr, (h.1.2.2.2.2.2.2 on).2.1]
    by_cases h4 : m 117 = 4
    · rw [if_pos h4]; exact ⟨_, rfl, rfl⟩
    · rw [if_neg h4]; exact ⟨_, rfl, rfl⟩
  · rw [if_neg hr, if_neg hr]; exact ⟨_, rfl, rfl⟩
-- a sale on the trial printer
theorem tryF (h : PI w er fl me p pr m) {n1 n2 : Int32} (hr : g_X7_refusal m n1 = some 0) (hn : LV n2) (wt ert flt met pt prt : Nat → Int32) :
    ∃ (r : Int32) (w' er' fl' me' p' pr' m' : Nat → Int32), g_X6_trySale w er fl me p pr wt ert flt met pt prt n1 n2 = some (w', er', fl', me', p', pr') ∧ g_X7_sellNow (upd m 126 n2) n1 = some (r, m') ∧ PI w' er' fl' me' p' pr' m' := by
  obtain ⟨r0, a1, a2, a3⟩ := refF h.1 h.2 n1
  have hr0 : r0 = 0 := Option.some.inj (a2.symm.trans hr)
  obtain ⟨on, s, c, su, pa, hs, rfl, hc, hc1, hc2, hsu, hsu2, hpa, hpa1, hpa2⟩ := a3 hr0
  obtain ⟨w1, er1, fl1, me1, p1, pr1, c1, c2, -⟩ := cpF h wt ert flt met pt prt
  have c3 := set126 c2 hn
  have e : ∀ i, i ≠ 126 → (upd m 126 n2) i = m i := fun i hi => by simp [upd, hi]
  obtain ⟨r', w', er', fl', me', pr', m', i1, i2, i3, i4⟩ := issF c3.1 c3.2 (by rw [e _ (by decide)]; exact on) hs (by rw [e _ (by omega)]; exact hc) hc1 hc2 ⟨su, by rw [e _ (by decide)]; exact hsu, hsu2⟩ ⟨pa, by rw [e _ (by decide)]; exact hpa, hpa1, hpa2⟩
  refine ⟨r', w', er', fl', me', p1, pr', m', ?_, i2, i3, i4⟩
  unfold g_X6_trySale
  rw [c1, Option.bind_some]
  show (g_X5_issueTicket w1 er1 (upd fl1 1 n2) me1 p1 pr1 (nI s)).bind _ = _
  rw [i1, Option.bind_some]
theorem opsF (h : PI w er fl me p pr m) (wt ert flt met pt prt asd : Nat → Int32) (n1 : Int32) :
    ∃ (r : Int32) (wt' ert' flt' met' pt' prt' m' asd' : Nat → Int32), g_X6_operations w er fl me p pr wt ert flt met pt prt n1 = some (r, wt', ert', flt', met', pt', prt') ∧ g_X7_operations m asd n1 = some (r, m', asd') ∧ PI w er fl me p pr m' := by
  obtain ⟨r, a1, a2, a3⟩ := refF h.1 h.2 n1
  unfold g_X6_operations g_X7_operations
  rw [a1, a2, Option.bind_some, Option.bind_some]
  by_cases hr : r = 0
  · subst hr
    obtain ⟨r', w', er', fl', me', p', pr', m', t1, t2, t3⟩ := tryF (n2 := -9) h a2 (Or.inl rfl) wt ert flt met pt prt
    obtain ⟨asd', b1, b2⟩ := pasF (m := m) (asd := asd)
    obtain ⟨m2, d1, d2⟩ := pbkF (m := m') (asd := asd')
    rw [if_pos rfl, if_pos rfl, t1, b1, Option.bind_some, Option.bind_some, t2, Option.bind_some, d1, Option.bind_some]
    exact ⟨_, _, _, _, _, _, _, _, _, rfl, by rw [h.1.1.2.2.1]; show _ = some (fl' 0 - m 125, m2, asd'); rw [t3.1.1.2.2.1], h.congr (fun i hi => (d2 i hi).trans (b2 i hi))⟩
  · rw [if_neg hr, if_neg hr]
    exact ⟨_, _, _, _, _, _, _, _, _, rfl, rfl, h⟩
theorem af62 (h : PI wt ert flt met pt prt m) (on : m 115 = 1) (n3 : Int32) (asd : Nat → Int32) : ∃ (r : Int32) (m' : Nat → Int32), (∀ (w er fl me p pr : Nat → Int32), g_X6_after_62 w er fl me p pr n3 wt ert flt met pt prt = some (r, wt, ert, flt, met, pt, prt)) ∧ g_X7_after_76 n3 m asd = some (r, m', asd) ∧ (∀ k, k < 131 → m' k = asd k) := by
  obtain ⟨m', d1, d2⟩ := pbkF (m := m) (asd := asd)
  obtain ⟨a0, a1, a2, a3, a4, a5⟩ := h.1.2.2.2.2.2.2 on
  unfold g_X6_after_62 g_X7_after_76 g_X7_after_139
  rw [tal1 h.1.1.1, tal2 h.1.1.1, co7, co7, d1, a0, a2, a3]
  simp only [Option.bind_some]
  by_cases q0 : n3 = 0
  · simp only [if_pos q0]; exact ⟨_, m', fun _ _ _ _ _ _ => rfl, rfl, d2⟩
  · simp only [if_neg q0]
    by_cases q1 : n3 = 1
    · simp only [if_pos q1]; exact ⟨_, m', fun _ _ _ _ _ _ => rfl, rfl, d2⟩
    · simp only [if_neg q1]
      by_cases q2 : n3 = 2
      · simp only [if_pos q2]; exact ⟨_, m', fun _ _ _ _ _ _ => rfl, rfl, d2⟩
      · simp only [if_neg q2]
        by_cases q3 : n3 = 3
        · simp only [if_pos q3]; exact ⟨_, m', fun _ _ _ _ _ _ => rfl, rfl, d2⟩
        · simp only [if_neg q3]; exact ⟨_, m', fun _ _ _ _ _ _ => rfl, rfl, d2⟩
theorem aftF (h : PI w er fl me p pr m) (wt ert flt met pt prt asd : Nat → Int32) (n1 n2 n3 : Int32) :
    ∃ (r : Int32) (wt' ert' flt' met' pt' prt' m' asd' : Nat → Int32), g_X6_after w er fl me p pr wt ert flt met pt prt n1 n2 n3 = some (r, wt', ert', flt', met', pt', prt') ∧ g_X7_after m asd n1 n2 n3 = some (r, m', asd') ∧ PI w er fl me p pr m' := by
  obtain ⟨r, a1, a2, a3⟩ := refF h.1 h.2 n1
  unfold g_X6_after g_X7_after g_X6_after_19 g_X7_after_26
  rw [a1, a2, iw0, iw0, iw7, iw7, is7]
  simp only [Option.bind_some]
  have hns : inI n1 0 3 = false → r = -1 := by
    intro hz
    have : g_X7_refusal m n1 = some (-1) := by
      unfold g_X7_refusal
      rw [is7, hz, Option.bind_some, bF rfl, if_pos rfl]
    exact Option.some.inj (a2.symm.trans this)
  cases h2 : inI n2 0 30
  · rw [bF rfl]
    simp only [if_true, ite_self]
    exact ⟨_, _, _, _, _, _, _, _, _, rfl, rfl, h⟩
  · rw [bT rfl]
    simp only [if_neg i1ne]
    cases h3 : inI n3 0 4
    · rw [bF rfl]
      simp only [if_true, ite_self]
      exact ⟨_, _, _, _, _, _, _, _, _, rfl, rfl, h⟩
    · rw [bT rfl]
      simp only [if_neg i1ne]
      cases h1 : inI n1 0 3
      · have := hns h1
        subst this
        rw [bF rfl, if_neg (by decide), if_pos rfl]
        exact ⟨_, _, _, _, _, _, _, _, _, rfl, rfl, h⟩
      · rw [bT rfl]
        simp only [if_neg i1ne]
        by_cases hr : r = 0
        · subst hr
          obtain ⟨j, hj, rfl⟩ := inI_nI (h := 30) (by decide) h2
          obtain ⟨r', w', er', fl', me', p', pr', m', t1, t2, t3⟩ := tryF (n2 := nI j) h a2 (Or.inr ⟨j, by omega, rfl⟩) wt ert flt met pt prt
          obtain ⟨asd', b1, b2⟩ := pasF (m := m) (asd := asd)
          rw [if_pos rfl, if_pos rfl, t1, b1, Option.bind_some, Option.bind_some, t2, Option.bind_some]
          dsimp only
          have p0 : pr' 0 = m' 115 := t3.1.2.2.1
          by_cases on : m' 115 = 0
          · obtain ⟨me2, m2, v1, v2, v3, v4, v5, -⟩ := wakF t3.1 t3.2
            obtain ⟨r2, m3, x1, x2, x3⟩ := af62 ⟨v3, v4⟩ v5 n3 asd'
            rw [if_pos (p0.trans on), if_pos on, v1, v2, Option.bind_some, Option.bind_some, x1, x2]
            exact ⟨_, _, _, _, _, _, _, _, _, rfl, rfl, h.congr (fun i hi => (x3 i hi).trans (b2 i hi))⟩
          · obtain ⟨r2, m3, x1, x2, x3⟩ := af62 t3 (t3.2.2.1.resolve_left on) n3 asd'
            rw [if_neg (fun z => on (p0.symm.trans z)), if_neg on, x1, x2]
            exact ⟨_, _, _, _, _, _, _, _, _, rfl, rfl, h.congr (fun i hi => (x3 i hi).trans (b2 i hi))⟩
        · rw [if_neg hr, if_neg hr]
          exact ⟨_, _, _, _, _, _, _, _, _, rfl, rfl, h⟩
end FC3

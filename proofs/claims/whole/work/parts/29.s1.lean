-- the face: what changes the printer
section FC
variable {m w er fl me p pr ps mv pv : Nat → Int32} {W8 E8 F8 M8 P8 R8 : Nat → Nat → Int32}
theorem tie {A : Option (Int32 × (Nat → Int32))} {F : Int32 × (Nat → Int32) → Int32} {G : Int32 × (Nat → Int32) → (Nat → Int32)} {r : Int32} {m' : Nat → Int32} (ps mv : Nat → Int32) (h : (A.bind fun o => if o.1 = 0 then some ((-4 : Int32), o.2) else some (F o, G o)) = some (r, m')) : (A.bind fun o => if o.1 = 0 then some ((-4 : Int32), o.2, ps, mv) else some (F o, G o, ps, mv)) = some (r, m', ps, mv) := by
  cases A with
  | none => exact absurd h (by simp)
  | some o =>
    simp only [Option.bind_some] at h ⊢
    by_cases ho : o.1 = 0
    · rw [if_pos ho] at h ⊢
      obtain ⟨h1, h2⟩ := Prod.mk.inj (Option.some.inj h)
      rw [h1, h2]
    · rw [if_neg ho] at h ⊢
      obtain ⟨h1, h2⟩ := Prod.mk.inj (Option.some.inj h)
      rw [h1, h2]
theorem sellF (hA : PA pv W8 E8 F8 M8 P8 R8 ps mv) (h : PI w er fl me p pr m) (n1 : Int32) :
    ∃ (r : Int32) (w' er' fl' me' pr' pv' : Nat → Int32) (W' E' F' M' P' R' : Nat → Nat → Int32) (m' ps' mv' : Nat → Int32), g_X6_sell w er fl me p pr pv W8 E8 F8 M8 P8 R8 n1 = some (r, w', er', fl', me', pr', pv', W', E', F', M', P', R') ∧ g_X7_sell m ps mv n1 = some (r, m', ps', mv') ∧ PI w' er' fl' me' p pr' m' ∧ PA pv' W' E' F' M' P' R' ps' mv' := by
  obtain ⟨r, a1, a2, a3⟩ := refF h.1 h.2 n1
  unfold g_X6_sell g_X7_sell
  rw [a1, a2, Option.bind_some, Option.bind_some]
  by_cases hr : r = 0
  · obtain ⟨on, s, c, su, pa, hs, rfl, hc, hc1, hc2, hsu, hsu2, hpa, hpa1, hpa2⟩ := a3 hr
    obtain ⟨pv', W', E', F', M', P', R', ps', mv', k1, k2, k3⟩ := remF hA h
    obtain ⟨r', w', er', fl', me', pr', m', i1, i2, i3, i4⟩ := issF h.1 h.2 on hs hc hc1 hc2 ⟨su, hsu, hsu2⟩ ⟨pa, hpa, hpa1, hpa2⟩
    rw [if_pos hr, if_pos hr, k1, k2, Option.bind_some, Option.bind_some, i1, i2, Option.bind_some, Option.bind_some]
    exact ⟨_, _, _, _, _, _, _, _, _, _, _, _, _, _, _, _, rfl, rfl, ⟨i3, i4⟩, k3⟩
  · rw [if_neg hr, if_neg hr]
    exact ⟨_, _, _, _, _, _, _, _, _, _, _, _, _, _, _, _, rfl, rfl, h, hA⟩
theorem cancelF (hA : PA pv W8 E8 F8 M8 P8 R8 ps mv) (h : PI w er fl me p pr m) :
    ∃ (r : Int32) (w' er' fl' me' pr' pv' : Nat → Int32) (W' E' F' M' P' R' : Nat → Nat → Int32) (m' ps' mv' : Nat → Int32), g_X6_cancel w er fl me p pr pv W8 E8 F8 M8 P8 R8 = some (r, w', er', fl', me', pr', pv', W', E', F', M', P', R') ∧ g_X7_cancel m ps mv = some (r, m', ps', mv') ∧ PI w' er' fl' me' p pr' m' ∧ PA pv' W' E' F' M' P' R' ps' mv' := by
  unfold g_X6_cancel g_X7_cancel g_X6_cancel_20 g_X7_cancel_55
  rw [h.1.2.2.1]
  by_cases on : m 115 = 0
  · rw [if_pos on, if_pos on]
    exact ⟨_, _, _, _, _, _, _, _, _, _, _, _, _, _, _, _, rfl, rfl, h, hA⟩
  · have on1 : m 115 = 1 := h.2.2.1.resolve_left on
    obtain ⟨r, e1, e2, e3⟩ := endF h.1 h.2 on1
    rw [if_neg on, if_neg on, e1, Option.bind_some, e2]
    cases r
    · rw [bF rfl, if_pos rfl, if_neg (by decide)]
      exact ⟨_, _, _, _, _, _, _, _, _, _, _, _, _, _, _, _, rfl, rfl, h, hA⟩
    · obtain ⟨_, _, v, v1, v2, v3⟩ := e3 rfl
      obtain ⟨pv', W', E', F', M', P', R', ps', mv', k1, k2, k3⟩ := remF hA h
      obtain ⟨r', w', er', fl', me', pr', m', i1, i2, i3, i4⟩ := canF h.1 h.2 on1 v1 v3
      rw [bT rfl, if_neg i1ne, if_pos rfl, k1, k2, Option.bind_some, Option.bind_some, i1, Option.bind_some, v2, Option.bind_some]
      exact ⟨r', w', er', fl', me', pr', pv', W', E', F', M', P', R', m', ps', mv', rfl, tie ps' mv' i2, ⟨i3, i4⟩, k3⟩
theorem closeF (hA : PA pv W8 E8 F8 M8 P8 R8 ps mv) (h : PI w er fl me p pr m) :
    ∃ (r : Int32) (w' er' fl' me' pr' pv' : Nat → Int32) (W' E' F' M' P' R' : Nat → Nat → Int32) (m' ps' mv' : Nat → Int32), g_X6_close w er fl me p pr pv W8 E8 F8 M8 P8 R8 = some (r, w', er', fl', me', pr', pv', W', E', F', M', P', R') ∧ g_X7_close m ps mv = some (r, m', ps', mv') ∧ PI w' er' fl' me' p pr' m' ∧ PA pv' W' E' F' M' P' R' ps' mv' := by
  unfold g_X6_close g_X7_close
  rw [h.1.2.2.1]
  by_cases on : m 115 = 0
  · rw [if_pos on, if_pos on]
    exact ⟨_, _, _, _, _, _, _, _, _, _, _, _, _, _, _, _, rfl, rfl, h, hA⟩
  · have on1 : m 115 = 1 := h.2.2.1.resolve_left on
    obtain ⟨pv', W', E', F', M', P', R', ps', mv', k1, k2, k3⟩ := remF hA h
    obtain ⟨r', w', er', fl', me', pr', m', i1, i2, i3, i4⟩ := cloF h.1 h.2 on1
    rw [if_neg on, if_neg on, k1, k2, Option.bind_some, Option.bind_some, i1, Option.bind_some]
    exact ⟨r', w', er', fl', me', pr', pv', W', E', F', M', P', R', m', ps', mv', rfl, tie ps' mv' i2, ⟨i3, i4⟩, k3⟩
theorem loadF (hA : PA pv W8 E8 F8 M8 P8 R8 ps mv) (h : PI w er fl me p pr m) (n1 n2 : Int32) :
    ∃ (r : Int32) (w' er' fl' me' pr' pv' : Nat → Int32) (W' E' F' M' P' R' : Nat → Nat → Int32) (m' ps' mv' : Nat → Int32), g_X6_load w er fl me p pr pv W8 E8 F8 M8 P8 R8 n1 n2 = some (r, w', er', fl', me', pr', pv', W', E', F', M', P', R') ∧ g_X7_load m ps mv n1 n2 = some (r, m', ps', mv') ∧ PI w' er' fl' me' p pr' m' ∧ PA pv' W' E' F' M' P' R' ps' mv' := by
  unfold g_X6_load g_X7_load g_X6_load_20 g_X7_load_20
  rw [h.1.2.2.1, iw0, iw0, iw7, iw7]
  simp only [Option.bind_some]
  cases h1 : inI n1 0 50000
  · rw [bF rfl, if_pos rfl, if_pos rfl]
    exact ⟨_, _, _, _, _, _, _, _, _, _, _, _, _, _, _, _, rfl, rfl, h, hA⟩
  · rw [bT rfl, if_neg i1ne, if_neg i1ne]
    cases h2 : inI n2 0 50000
    · rw [bF rfl, if_pos rfl, if_pos rfl]
      exact ⟨_, _, _, _, _, _, _, _, _, _, _, _, _, _, _, _, rfl, rfl, h, hA⟩
    · rw [bT rfl, if_neg i1ne, if_neg i1ne]
      by_cases on : m 115 = 0
      · rw [if_pos on, if_pos on]
        exact ⟨_, _, _, _, _, _, _, _, _, _, _, _, _, _, _, _, rfl, rfl, h, hA⟩
      · have on1 : m 115 = 1 := h.2.2.1.resolve_left on
        obtain ⟨j, hj, rfl⟩ := inI_nI (h := 50000) (by decide) h1
        obtain ⟨pv', W', E', F', M', P', R', ps', mv', k1, k2, k3⟩ := remF hA h
        obtain ⟨r', w', er', fl', me', pr', m', i1, i2, i3, i4⟩ := loaF (n2 := n2) h.1 h.2 on1 ⟨j, hj, rfl⟩
        rw [if_neg on, if_neg on, k1, k2, Option.bind_some, Option.bind_some, i1, Option.bind_some]
        exact ⟨r', w', er', fl', me', pr', pv', W', E', F', M', P', R', m', ps', mv', rfl, tie ps' mv' i2, ⟨i3, i4⟩, k3⟩
theorem clockF (hA : PA pv W8 E8 F8 M8 P8 R8 ps mv) (h : PI w er fl me p pr m) (n1 : Int32) :
    ∃ (r : Int32) (w' er' fl' me' pr' pv' : Nat → Int32) (W' E' F' M' P' R' : Nat → Nat → Int32) (m' ps' mv' : Nat → Int32), g_X6_setClock w er fl me p pr pv W8 E8 F8 M8 P8 R8 n1 = some (r, w', er', fl', me', pr', pv', W', E', F', M', P', R') ∧ g_X7_setClock m ps mv n1 = some (r, m', ps', mv') ∧ PI w' er' fl' me' p pr' m' ∧ PA pv' W' E' F' M' P' R' ps' mv' := by
  unfold g_X6_setClock g_X7_setClock
  rw [h.1.2.2.1, iw0, iw7]
  simp only [Option.bind_some]
  cases h1 : inI n1 0 60000
  · rw [bF rfl, if_pos rfl, if_pos rfl]
    exact ⟨_, _, _, _, _, _, _, _, _, _, _, _, _, _, _, _, rfl, rfl, h, hA⟩
  · rw [bT rfl, if_neg i1ne, if_neg i1ne]
    by_cases on : m 115 = 0
    · rw [if_pos on, if_pos on]
      exact ⟨_, _, _, _, _, _, _, _, _, _, _, _, _, _, _, _, rfl, rfl, h, hA⟩
    · have on1 : m 115 = 1 := h.2.2.1.resolve_left on
      obtain ⟨j, hj, rfl⟩ := inI_nI (h := 60000) (by decide) h1
      obtain ⟨pv', W', E', F', M', P', R', ps', mv', k1, k2, k3⟩ := remF hA h
      obtain ⟨r', w', er', fl', me', pr', m', i1, i2, i3, i4⟩ := clkF h.1 h.2 on1 (n1 := nI j) ⟨j, hj, rfl⟩ ps' mv'
      rw [if_neg on, if_neg on, k1, k2, Option.bind_some, Option.bind_some, i1, Option.bind_some]
      exact ⟨r', w', er', fl', me', pr', pv', W', E', F', M', P', R', m', ps', mv', rfl, i2, ⟨i3, i4⟩, k3⟩
theorem passF (hA : PA pv W8 E8 F8 M8 P8 R8 ps mv) (h : PI w er fl me p pr m) (n1 : Int32) :
    ∃ (r : Int32) (pr' pv' : Nat → Int32) (W' E' F' M' P' R' : Nat → Nat → Int32) (m' ps' mv' : Nat → Int32), g_X6_pass w er fl me p pr pv W8 E8 F8 M8 P8 R8 n1 = some (r, pr', pv', W', E', F', M', P', R') ∧ g_X7_pass m ps mv n1 = some (r, m', ps', mv') ∧ PI w er fl me p pr' m' ∧ PA pv' W' E' F' M' P' R' ps' mv' := by
  unfold g_X6_pass g_X7_pass g_X7_pass_51
  rw [h.1.2.2.2.1, iw0, iw7]
  simp only [Option.bind_some]
  cases h1 : inI n1 1 5000
  · rw [bF rfl, if_pos rfl, if_pos rfl]
    exact ⟨_, _, _, _, _, _, _, _, _, _, _, _, rfl, rfl, h, hA⟩
  · rw [bT rfl, if_neg i1ne, if_neg i1ne]
    obtain ⟨pv', W', E', F', M', P', R', ps', mv', k1, k2, k3⟩ := remF hA h
    have h2 : inI n1 0 5000 = true := by
      unfold inI at h1 ⊢
      simp only [Bool.and_eq_true, Bool.not_eq_true', decide_eq_false_iff_not] at h1 ⊢
      exact ⟨fun z => h1.1 (Int32.lt_trans z (by decide)), h1.2⟩
    obtain ⟨j, hj, rfl⟩ := inI_nI (h := 5000) (by decide) h2
    obtain ⟨c, hc, ec⟩ := h.2.2.2.2
    have ht : tms (nI 60000) := ⟨60000, Nat.le_refl _, rfl⟩
    have g122 : ¬ ((122 : Int32) < 0 ∨ 131 ≤ (122 : Int32).toNatClampNeg) := by decide
    have t122 : (122 : Int32).toNatClampNeg = 122 := by decide
    rw [k1, k2, Option.bind_some, Option.bind_some, ec, nI_add, if_neg g122, if_neg g122, t122]
    by_cases hb : c + j ≤ 60000
    · obtain ⟨i3, i4⟩ := set122 h.1 h.2 (x := nI (c + j)) ⟨_, hb, rfl⟩
      rw [if_neg (show ¬ (60000 : Int32) < nI (c + j) from nI_nlt (a := 60000) (b := c + j) hb (by decide)), if_pos (show nI (c + j) ≤ (60000 : Int32) from (nI_leI (b := 60000) (by omega) (by decide)).mpr hb)]
      exact ⟨_, _, _, _, _, _, _, _, _, _, _, _, rfl, by simp only [upd, if_true], ⟨i3, i4⟩, k3⟩
    · obtain ⟨i3, i4⟩ := set122 h.1 h.2 (x := 60000) ht
      rw [if_pos (show (60000 : Int32) < nI (c + j) from (nI_ltI (a := 60000) (by decide) (by omega)).mpr (by omega)), if_neg (show ¬ nI (c + j) ≤ (60000 : Int32) from fun z => hb ((nI_leI (b := 60000) (by omega) (by decide)).mp z))]
      exact ⟨_, _, _, _, _, _, _, _, _, _, _, _, rfl, by simp only [upd, if_true], ⟨i3, i4⟩, k3⟩
end FC

-- the printer's operations, class and reference side by side
section PO
variable {m w er fl me p pr : Nat → Int32}
def inI (n lo hi : Int32) : Bool := !(decide (n < lo)) && !(decide (hi < n))
theorem iw0 (n lo hi : Int32) : g_X6_isWithin n lo hi = some (b2i (inI n lo hi)) := by
  unfold g_X6_isWithin g_X6_isWithin_14 inI
  by_cases h1 : n < lo <;> by_cases h2 : hi < n <;> simp [h1, h2, b2i]
theorem iw7 (n lo hi : Int32) : g_X7_isIn n lo hi = some (b2i (inI n lo hi)) := by
  unfold g_X7_isIn g_X7_isIn_14 inI
  by_cases h1 : n < lo <;> by_cases h2 : hi < n <;> simp [h1, h2, b2i]
theorem is0 (n : Int32) : g_X6_isSort n = some (b2i (inI n 0 3)) := by
  unfold g_X6_isSort
  rw [iw0, Option.bind_some, if_neg (not_not_intro (b2i_or _))]
theorem is7 (n : Int32) : g_X7_isSort n = some (b2i (inI n 0 3)) := by
  unfold g_X7_isSort
  rw [iw7, Option.bind_some, if_neg (not_not_intro (b2i_or _))]
theorem ib0 (n : Int32) : g_X6_isBlock n = some (b2i (inI n 0 4)) := by
  unfold g_X6_isBlock
  rw [iw0, Option.bind_some, if_neg (not_not_intro (b2i_or _))]
theorem ib7 (n : Int32) : g_X7_isBlock n = some (b2i (inI n 0 4)) := by
  unfold g_X7_isBlock
  rw [iw7, Option.bind_some, if_neg (not_not_intro (b2i_or _))]
theorem ii7 (n : Int32) : g_X7_isImage n = some (b2i (inI n 0 1)) := by
  unfold g_X7_isImage
  rw [iw7, Option.bind_some, if_neg (not_not_intro (b2i_or _))]
theorem inI_nI {n M : Int32} {h : Nat} (hM : M.toInt = h) (e : inI n 0 M = true) : ∃ j : Nat, j ≤ h ∧ n = nI j := by
  unfold inI at e
  simp only [Bool.and_eq_true, Bool.not_eq_true', decide_eq_false_iff_not] at e
  exact nI_of2 hM e.1 (Int32.not_lt.mp e.2)
theorem i1ne : ¬ (1 : Int32) = 0 := by decide
theorem bT {x : Bool} (h : x = true) : b2i x = 1 := by subst h; rfl
theorem bF {x : Bool} (h : x = false) : b2i x = 0 := by subst h; rfl
theorem prc0 {s : Nat} (hs : s < 4) : g_X5_priceOf p (nI s) = some (p s) := by
  unfold g_X5_priceOf
  rw [if_neg (nI_neg (by omega)), if_neg (n4_le hs), if_neg (cond_nI hs (by decide)), nI_clamp (by omega)]
theorem prc7 (s : Nat) : (127 : Int32) + nI s = nI (127 + s) := by rw [show (127 : Int32) = nI 127 from rfl, nI_add]
theorem len0 (s : Nat) : g_X6_lengthOf (nI s) = some (nI (40 + 20 * s)) := by
  unfold g_X6_lengthOf
  rw [show (20 : Int32) = nI 20 from rfl, show (40 : Int32) = nI 40 from rfl, pk_mul, nI_add]
theorem len7 (s : Nat) : g_X7_lengthOf (nI s) = some (nI (40 + 20 * s)) := by
  unfold g_X7_lengthOf
  rw [show (20 : Int32) = nI 20 from rfl, show (40 : Int32) = nI 40 from rfl, pk_mul, nI_add]
theorem refF (h : PR w er fl me p pr m) (hV : IV m) (n1 : Int32) : ∃ r : Int32, g_X5_refusalOf me p pr n1 = some r ∧ g_X7_refusal m n1 = some r ∧ (r = 0 → m 115 = 1 ∧ ∃ s c su pa : Nat, s < 4 ∧ n1 = nI s ∧ m (127 + s) = nI c ∧ 1 ≤ c ∧ c ≤ 999 ∧ m 119 = nI su ∧ su + c ≤ 60000 ∧ m 121 = nI pa ∧ pa ≤ 50000 ∧ 40 + 20 * s ≤ pa) := by
  obtain ⟨hF, hp, p0, p1, p2, p3, hm⟩ := h
  cases hin : inI n1 0 3
  · refine ⟨-1, ?_, ?_, fun h => absurd h (by decide)⟩
    · unfold g_X5_refusalOf
      rw [is0, hin, Option.bind_some, bF rfl, if_pos rfl]
    · unfold g_X7_refusal
      rw [is7, hin, Option.bind_some, bF rfl, if_pos rfl]
  · obtain ⟨s, hs, rfl⟩ := inI_nI (h := 3) (by decide) hin
    have a1 : g_X5_refusalOf me p pr (nI s) = if pr 0 = 0 then some (-2) else if (me 3 + p s) ≤ 60000 then (if nI (40 + 20 * s) ≤ me 5 then some 0 else some (-3)) else some (-2) := by
      unfold g_X5_refusalOf g_X5_refusalOf_34
      rw [is0, hin, Option.bind_some, bT rfl, if_neg (by decide), prc0 (by omega), len0]
      rfl
    have a2 : g_X7_refusal m (nI s) = if m 115 = 0 then some (-2) else if (m 119 + m (127 + s)) ≤ 60000 then (if nI (40 + 20 * s) ≤ m 121 then some 0 else some (-3)) else some (-2) := by
      unfold g_X7_refusal g_X7_refusal_41
      rw [is7, hin, Option.bind_some, bT rfl, if_neg (by decide), prc7, if_neg (cond_nI (by omega) (by decide)), nI_clamp (by omega), len7]
      rfl
    rw [a1, a2, p0, hp s (by omega)]
    by_cases on : m 115 = 0
    · simp only [if_pos on]
      exact ⟨-2, rfl, rfl, fun h => absurd h (by decide)⟩
    · have on1 : m 115 = 1 := hV.2.1.resolve_left on
      obtain ⟨c0, c1, c2, c3, c4, c5⟩ := hm on1
      simp only [if_neg on]
      rw [c3, c5]
      by_cases hsum : (m 119 + m (127 + s)) ≤ 60000
      · simp only [if_pos hsum]
        by_cases hpa : nI (40 + 20 * s) ≤ m 121
        · simp only [if_pos hpa]
          refine ⟨0, rfl, rfl, fun _ => ⟨on1, ?_⟩⟩
          obtain ⟨B, S, k, nu, su, ti, pa, hI, -, -, -, -, e2, -, e4, -, -, g3, g4⟩ := onX hV on1
          obtain ⟨c, k1, k2, k3⟩ := hV.2.2.1 s (by omega)
          rw [e2, k3, nI_add, show (60000 : Int32) = nI 60000 from rfl, nI_leI (by omega) (by omega)] at hsum
          rw [e4, nI_leI (by omega) (by omega)] at hpa
          exact ⟨s, c, su, pa, by omega, rfl, k3, k1, k2, e2, hsum, e4, g4, hpa⟩
        · simp only [if_neg hpa]
          exact ⟨-3, rfl, rfl, fun h => absurd h (by decide)⟩
      · simp only [if_neg hsum]
        exact ⟨-2, rfl, rfl, fun h => absurd h (by decide)⟩
theorem jrem_v {s c : Nat} (hs : s < 4) (hc : c ≤ 999) : jrem (nI (1000 * s + c)) 1000 = nI c := by
  rw [show (1000 : Int32) = nI 1000 from rfl, jrem_nI (by omega) (by decide) (by decide)]
  exact congrArg nI (by omega)
theorem v_div {s c : Nat} (hs : s < 4) (hc : c ≤ 999) : nI (1000 * s + c) / 1000 = nI s := by
  rw [show (1000 : Int32) = nI 1000 from rfl, pk_div (by omega) (by decide) (by decide)]
  exact congrArg nI (by omega)
theorem num_next {kd nu : Nat} (hk : kd < 5) (hn : nu < 10000) : jrem (jrem (nI (10000 * kd + nu)) 10000 + 1) 10000 = nI ((nu + 1) % 10000) := by
  rw [jrem_f hk hn, nI_seq hn]
theorem lrn_t {nu su ti pa s c : Nat} (hn : nu < 10000) (hs : s < 4) (hc : c ≤ 999) (hl : 40 + 20 * s ≤ pa) : lrn (nI nu, nI su, nI ti, nI pa) (nI (10000 * 0 + nu)) (nI (1000 * s + c)) = (nI ((nu + 1) % 10000), nI (su + c), nI (ti + 1), nI (pa - (40 + 20 * s))) := by
  unfold lrn
  rw [f_div (by decide) hn, if_pos (show nI 0 = 0 from rfl), num_next (by decide) hn, jrem_v hs hc, v_div hs hc, nI_add, nI_1]
  rw [show (20 : Int32) = nI 20 from rfl, show (40 : Int32) = nI 40 from rfl, pk_mul, nI_add, pk_sub hl]
theorem lrn_c {r : RS} {nu : Nat} {v : Int32} (hn : nu < 10000) : lrn r (nI (10000 * 1 + nu)) v = (nI ((nu + 1) % 10000), r.2.1 - jrem v 1000, r.2.2.1 - 1, r.2.2.2) := by
  unfold lrn
  rw [f_div (by decide) hn, if_neg (show ¬ nI 1 = 0 by decide), if_pos (show nI 1 = 1 from rfl), num_next (by decide) hn]
theorem lrn_k {r : RS} {nu : Nat} {v : Int32} (hn : nu < 10000) : lrn r (nI (10000 * 2 + nu)) v = (nI ((nu + 1) % 10000), r.2.1, r.2.2.1, r.2.2.2) := by
  unfold lrn
  rw [f_div (by decide) hn, if_neg (show ¬ nI 2 = 0 by decide), if_neg (show ¬ nI 2 = 1 by decide), if_neg (show ¬ nI 2 = 3 by decide), if_neg (show ¬ nI 2 = 4 by decide), num_next (by decide) hn]
theorem lrn_d {r : RS} {nu : Nat} {v : Int32} (hn : nu < 10000) : lrn r (nI (10000 * 3 + nu)) v = (nI ((nu + 1) % 10000), 0, 0, r.2.2.2) := by
  unfold lrn
  rw [f_div (by decide) hn, if_neg (show ¬ nI 3 = 0 by decide), if_neg (show ¬ nI 3 = 1 by decide), if_pos (show nI 3 = 3 from rfl), num_next (by decide) hn]
theorem lrn_p {r : RS} {nu : Nat} {v : Int32} (hn : nu < 10000) : lrn r (nI (10000 * 4 + nu)) v = (nI ((nu + 1) % 10000), r.2.1, r.2.2.1, v) := by
  unfold lrn
  rw [f_div (by decide) hn, if_neg (show ¬ nI 4 = 0 by decide), if_neg (show ¬ nI 4 = 1 by decide), if_neg (show ¬ nI 4 = 3 by decide), if_pos (show nI 4 = 4 from rfl), num_next (by decide) hn]
set_option maxHeartbeats 4000000 in
theorem issF {s c : Nat} (h : PR w er fl me p pr m) (hV : IV m) (on : m 115 = 1) (hs : s < 4) (hc : m (127 + s) = nI c) (hc1 : 1 ≤ c) (hc2 : c ≤ 999) (hsu : ∃ su : Nat, m 119 = nI su ∧ su + c ≤ 60000) (hpa : ∃ pa : Nat, m 121 = nI pa ∧ pa ≤ 50000 ∧ 40 + 20 * s ≤ pa) :
    ∃ (r : Int32) (w' er' fl' me' pr' m' : Nat → Int32), g_X5_issueTicket w er fl me p pr (nI s) = some (r, w', er', fl', me', pr') ∧ g_X7_sellNow m (nI s) = some (r, m') ∧ PR w' er' fl' me' p pr' m' ∧ IV m' := by
  obtain ⟨B, S, k, nu, su, ti, pa, hI, d0, d1, dr, e1, e2, e3, e4, g1, g2, g3, g4⟩ := onX hV on
  obtain ⟨su', hs1, hs2⟩ := hsu
  obtain ⟨pa', hp1, hp2, hp3⟩ := hpa
  have hsu' : su' = su := by rw [e2, nI_inj (by omega) (by omega)] at hs1; exact hs1.symm
  have hpa' : pa' = pa := by rw [e4, nI_inj (by omega) (by omega)] at hp1; exact hp1.symm
  subst hsu' hpa'
  have hp := h.2.1 s hs
  have p0 := h.2.2.1
  have p1 := h.2.2.2.1
  have p2 := h.2.2.2.2.1
  have p3 := h.2.2.2.2.2.1
  have c2 := (h.2.2.2.2.2.2 on).2.2.1
  have hval : (1000 : Int32) * nI s + nI c = nI (1000 * s + c) := by rw [show (1000 : Int32) = nI 1000 from rfl, pk_mul, nI_add]
  have hlr := lrn_t (ti := ti) g1 hs hc2 hp3 (su := su')
  obtain ⟨r, w1, er1, fl1, me1, pr1, m1, hr, x1, y1, t1, z1, s1⟩ := prW (tm := m 122) (v := nI (1000 * s + c)) (kd := 0) h hV on e1 g1 (by decide) (by rw [e1, e2, e3, e4, hlr]; exact ⟨_, _, _, _, rfl, by omega, by omega, by omega, by omega⟩)
  replace x1 : g_X5_writeRecord w er fl me pr 0 (m 122) (nI (1000 * s + c)) = some (r, w1, er1, fl1, me1, pr1) := x1
  replace y1 : g_X7_write m 0 (m 122) (nI (1000 * s + c)) = some (r, m1) := y1
  have hidx : (nI (127 + s)).toNatClampNeg = 127 + s := nI_clamp (by omega)
  have hA : g_X5_issueTicket w er fl me p pr (nI s) = if r = 0 then some (-4, w1, er1, fl1, me1, pr1) else if pr1 2 < nI (40 + 20 * s) then (g_X5_writeRecord w1 er1 fl1 me1 (upd pr1 2 0) 1 (pr1 1) (nI (1000 * s + c))).bind fun o84 => (if o84.1 = 0 then some ((-4), o84.2.1, o84.2.2.1, o84.2.2.2.1, o84.2.2.2.2.1, o84.2.2.2.2.2) else some ((me 2), o84.2.1, o84.2.2.1, o84.2.2.2.1, o84.2.2.2.2.1, o84.2.2.2.2.2)) else some (me 2, w1, er1, fl1, me1, upd (upd pr1 2 (pr1 2 - nI (40 + 20 * s))) 3 (pr1 3 + 1)) := by
    unfold g_X5_issueTicket
    rw [prc0 hs, Option.bind_some, hp, hc, hval, p1, x1, Option.bind_some, len0]
    try rfl
  have hM : g_X7_sellNow m (nI s) = if r = 0 then some (-4, m1) else if m1 123 < nI (40 + 20 * s) then (g_X7_write (upd (upd (upd (upd m1 119 (m1 119 + nI c)) 120 (m1 120 + 1)) 121 (m1 121 - nI (40 + 20 * s))) 123 0) 1 (m1 122) (nI (1000 * s + c))).bind fun o144 => (if o144.1 = 0 then some ((-4), o144.2) else some ((m 118), (upd (upd o144.2 119 ((o144.2 119) - nI c)) 120 ((o144.2 120) - 1)))) else some (m 118, upd (upd (upd (upd (upd m1 119 (m1 119 + nI c)) 120 (m1 120 + 1)) 121 (m1 121 - nI (40 + 20 * s))) 123 (m1 123 - nI (40 + 20 * s))) 124 (m1 124 + 1)) := by
    unfold g_X7_sellNow
    rw [prc7, if_neg (cond_nI (by omega) (by decide)), len7, Option.bind_some, hidx, hc, hval, y1, Option.bind_some]
    try rfl
  rw [hA, hM]
  rcases hr with rfl | rfl
  · rw [if_pos rfl, if_pos rfl]
    exact ⟨-4, w1, er1, fl1, me1, pr1, m1, rfl, rfl, (z1 rfl).1, (z1 rfl).2⟩
  · obtain ⟨q1, q2, q3⟩ := s1 rfl
    subst q1
    have k119 := t1 119 (by decide) (by decide) (by decide)
    have k120 := t1 120 (by decide) (by decide) (by decide)
    have k121 := t1 121 (by decide) (by decide) (by decide)
    have k122 := t1 122 (by decide) (by decide) (by decide)
    have k123 := t1 123 (by decide) (by decide) (by decide)
    have k124 := t1 124 (by decide) (by decide) (by decide)
    have hl2 : (nI (su' + c), nI (ti + 1), nI (pa' - (40 + 20 * s))) = (lrn (m 118, m 119, m 120, m 121) (nI (10000 * 0 + nu)) (nI (1000 * s + c))).2 := by rw [e1, e2, e3, e4, hlr]
    have v119 : m1 119 + nI c = nI (su' + c) := by rw [k119, e2, nI_add]
    have v120 : m1 120 + 1 = nI (ti + 1) := by rw [k120, e3, nI_1]
    have v121 : m1 121 - nI (40 + 20 * s) = nI (pa' - (40 + 20 * s)) := by rw [k121, e4, pk_sub hp3]
    rw [if_neg i1ne, if_neg i1ne, v119, v120, v121, p2, k123]
    by_cases hlt : m 123 < nI (40 + 20 * s)
    · rw [if_pos hlt, if_pos hlt]
      obtain ⟨hPR2, hIV2⟩ := q3 (upd (upd (upd (upd m1 119 (nI (su' + c))) 120 (nI (ti + 1))) 121 (nI (pa' - (40 + 20 * s)))) 123 0) (upd pr1 2 0) (fun i i1 i2 i3 i4 i5 i6 => by simp [upd, i1, i2, i3, i5]) (by rw [← hl2]; simp [upd]) (by simp [upd, k122]; exact hV.2.2.2) (by simp [upd, p0, q2, on]) (by simp [upd, p1, k122]) (by simp [upd]) (by simp [upd, p3, k124])
      have on2 : (upd (upd (upd (upd m1 119 (nI (su' + c))) 120 (nI (ti + 1))) 121 (nI (pa' - (40 + 20 * s)))) 123 0) 115 = 1 := by simp [upd, q2]
      obtain ⟨B2, S2, k2, nu2, su2, ti2, pa2, -, -, -, -, f1, -, -, -, j1, -, -, -⟩ := onX hIV2 on2
      have w119 : (upd (upd (upd (upd m1 119 (nI (su' + c))) 120 (nI (ti + 1))) 121 (nI (pa' - (40 + 20 * s)))) 123 0) 119 = nI (su' + c) := by simp [upd]
      have w120 : (upd (upd (upd (upd m1 119 (nI (su' + c))) 120 (nI (ti + 1))) 121 (nI (pa' - (40 + 20 * s)))) 123 0) 120 = nI (ti + 1) := by simp [upd]
      have w121 : (upd (upd (upd (upd m1 119 (nI (su' + c))) 120 (nI (ti + 1))) 121 (nI (pa' - (40 + 20 * s)))) 123 0) 121 = nI (pa' - (40 + 20 * s)) := by simp [upd]
      have w122 : (upd (upd (upd (upd m1 119 (nI (su' + c))) 120 (nI (ti + 1))) 121 (nI (pa' - (40 + 20 * s)))) 123 0) 122 = m 122 := by simp [upd, k122]
      generalize (upd (upd (upd (upd m1 119 (nI (su' + c))) 120 (nI (ti + 1))) 121 (nI (pa' - (40 + 20 * s)))) 123 0) = m2 at *
      have hlr2 : lrn (m2 118, m2 119, m2 120, m2 121) (nI (10000 * 1 + nu2)) (nI (1000 * s + c)) = (nI ((nu2 + 1) % 10000), nI su', nI ti, nI (pa' - (40 + 20 * s))) := by
        rw [lrn_c j1, jrem_v hs hc2]
        show (_, m2 119 - nI c, m2 120 - 1, m2 121) = _
        rw [w119, w120, w121, pk_sub (by omega), nI_pred, Nat.add_sub_cancel]
      obtain ⟨r2, w3, er3, fl3, me3, pr3, m3, hr2, x3, y3, t3, z3, s3⟩ := prW (tm := m 122) (v := nI (1000 * s + c)) (kd := 1) hPR2 hIV2 on2 f1 j1 (by decide) (by rw [hlr2]; exact ⟨_, _, _, _, rfl, by omega, by omega, by omega, by omega⟩)
      replace x3 : g_X5_writeRecord w1 er1 fl1 me1 (upd pr1 2 0) 1 (m 122) (nI (1000 * s + c)) = some (r2, w3, er3, fl3, me3, pr3) := x3
      replace y3 : g_X7_write m2 1 (m 122) (nI (1000 * s + c)) = some (r2, m3) := y3
      rw [p1, k122, x3, y3, Option.bind_some, Option.bind_some]
      rcases hr2 with rfl | rfl
      · exact ⟨-4, w3, er3, fl3, me3, pr3, m3, rfl, rfl, (z3 rfl).1, (z3 rfl).2⟩
      · obtain ⟨u1, u2, u3⟩ := s3 rfl
        subst u1
        have j119 : m3 119 - nI c = nI su' := by rw [t3 119 (by decide) (by decide) (by decide), w119, pk_sub (by omega), Nat.add_sub_cancel]
        have j120 : m3 120 - 1 = nI ti := by rw [t3 120 (by decide) (by decide) (by decide), w120, nI_pred]
        have j121 : m3 121 = nI (pa' - (40 + 20 * s)) := by rw [t3 121 (by decide) (by decide) (by decide), w121]
        have j122 : m3 122 = m 122 := by rw [t3 122 (by decide) (by decide) (by decide), w122]
        have j115 : m3 115 = 1 := u2
        obtain ⟨a1, a2⟩ := u3 (upd (upd m3 119 (m3 119 - nI c)) 120 (m3 120 - 1)) (upd pr1 2 0) (fun i i1 i2 i3 i4 i5 i6 => by simp [upd, i1, i2]) (by rw [hlr2, j119, j120]; simp [upd, j121]) (by simp [upd, j122]; exact hV.2.2.2) (by rw [hPR2.2.2.1, on2]; simp [upd, j115]) (by rw [hPR2.2.2.2.1, w122]; simp [upd, j122]) (by rw [hPR2.2.2.2.2.1]; simp [upd, t3]) (by rw [hPR2.2.2.2.2.2.1]; simp [upd, t3])
        exact ⟨me 2, w3, er3, fl3, me3, upd pr1 2 0, _, rfl, by rw [c2]; rfl, a1, a2⟩
    · rw [if_neg hlt, if_neg hlt]
      obtain ⟨a1, a2⟩ := q3 (upd (upd (upd (upd (upd m1 119 (nI (su' + c))) 120 (nI (ti + 1))) 121 (nI (pa' - (40 + 20 * s)))) 123 (m 123 - nI (40 + 20 * s))) 124 (m1 124 + 1)) (upd (upd pr1 2 (m 123 - nI (40 + 20 * s))) 3 (pr1 3 + 1)) (fun i i1 i2 i3 i4 i5 i6 => by simp [upd, i1, i2, i3, i5, i6]) (by rw [← hl2]; simp [upd]) (by simp [upd, k122]; exact hV.2.2.2) (by simp [upd, p0, q2, on]) (by simp [upd, p1, k122]) (by simp [upd]) (by simp [upd, p3, k124])
      exact ⟨me 2, w1, er1, fl1, me1, _, _, rfl, by rw [c2], a1, a2⟩
end PO

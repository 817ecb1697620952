-- cancel, close, load, clock, off: class and reference side by side
section PO2
variable {m w er fl me p pr : Nat → Int32} {b q B S k : Nat}
theorem wh_low (h : ∀ i, i < 110 → w i = m i) (hb : b < 5) : wh w b = wh m b := wh_eq (fun i hi => h _ (by omega))
theorem em_low (h : ∀ i, i < 110 → w i = m i) (hb : b < 5) (hq : q < 4) : em w b q = em m b q := em_eq (fun i hi => h _ (by omega))
theorem rc_low (h : ∀ i, i < 110 → w i = m i) (hb : b < 5) (hq : q < 4) : rc w b q = rc m b q := rc_eq (h _ (by omega)) (fun i hi => h _ (by omega))
theorem sto_low (h : ∀ i, i < 110 → w i = m i) (hb : b < 5) (hq : q < 4) : sto w b q = sto m b q := by unfold sto; rw [em_low h hb hq, rc_low h hb hq]
theorem sto_rc : (sto m b q = 1) = (rc m b q = true) := by
  unfold sto
  cases he : em m b q
  · cases hr : rc m b q <;> simp
  · rw [em_rc he]; simp
theorem neg1 : ((0 : Int32) - 1) < 0 := by decide
theorem endF (h : PR w er fl me p pr m) (hV : IV m) (on : m 115 = 1) : ∃ r : Bool, g_X5_endsWithTicket w me = some (b2i r) ∧ (∀ (α : Type) (K F : Option α), (if ((m 117) - 1) < 0 then F else (g_X7_isRecord m (m 116) ((m 117) - 1)).bind fun o35 => (if o35 = 0 then F else (g_X7_inPlace m (m 116) ((m 117) - 1) 0).bind fun o45 => (if (o45 / 10000) = 0 then K else F))) = if r = true then K else F) ∧ (r = true → ∃ (B P : Nat) (v : Int32), g_X0_recordWord w (me 0) (me 1 - 1) 2 = some v ∧ g_X7_inPlace m (m 116) (m 117 - 1) 2 = some v ∧ gd (nI 0, m 119 - jrem v 1000, m 120 - 1, m 121) ∧ B < 5 ∧ P < 4 ∧ rc m B P = true ∧ m (22 * B + (6 + 4 * P)) / 10000 = 0 ∧ v = m (22 * B + (6 + 4 * P + 2))) := by
  obtain ⟨B, S, k, nu, su, ti, pa, hI, d0, d1, dr, e1, e2, e3, e4, g1, g2, g3, g4⟩ := onX hV on
  obtain ⟨c0, c1, -, -, -, -⟩ := h.2.2.2.2.2.2 on
  have hB := hI.1
  have hw := h.1.1
  rcases Nat.eq_zero_or_pos (nxp m B) with hz | hz
  · refine ⟨false, ?_, fun α K F => ?_, fun h => absurd h (by decide)⟩
    · unfold g_X5_endsWithTicket g_X5_endsWithTicket_60
      rw [c1, d1, hz, if_pos (show (nI 0 - 1 : Int32) < 0 by decide)]
      rfl
    · rw [d1, hz, if_pos (show (nI 0 - 1 : Int32) < 0 by decide)]
      rfl
  · obtain ⟨P, hP⟩ : ∃ P, nxp m B = P + 1 := ⟨nxp m B - 1, by omega⟩
    have hP4 : P < 4 := by have := nxp_le m B; omega
    have i1 : me 1 - 1 = nI P := by rw [c1, d1, hP, nI_pred]
    have i2 : m 117 - 1 = nI P := by rw [d1, hP, nI_pred]
    rw [i1, i2, c0, d0, rc7 hB hP4, in_0 hB hP4, in_2 hB hP4, rw_2 hB hP4, hw _ (by omega)]
    have hcl : g_X5_endsWithTicket w me = some (b2i (rc m B P && (m (22 * B + (6 + 4 * P)) / 10000 == 0))) := by
      unfold g_X5_endsWithTicket g_X5_endsWithTicket_60
      rw [i1, c0, d0, if_neg (nI_neg (by omega)), st0 hB hP4, sto_low hw hB hP4, rw_0 hB hP4, hw _ (by omega), Option.bind_some, Option.bind_some]
      simp only [sto_rc]
      cases rc m B P <;> by_cases hk : m (22 * B + (6 + 4 * P)) / 10000 = 0 <;> simp [hk, b2i]
    refine ⟨rc m B P && (m (22 * B + (6 + 4 * P)) / 10000 == 0), hcl, fun α K F => ?_, fun hr => ?_⟩
    · rw [if_neg (nI_neg (by omega)), Option.bind_some, Option.bind_some]
      cases rc m B P <;> by_cases hk : m (22 * B + (6 + 4 * P)) / 10000 = 0 <;> simp [hk, b2i]
    · simp only [Bool.and_eq_true, beq_iff_eq] at hr
      obtain ⟨hrc, hk⟩ := hr
      refine ⟨B, P, _, rfl, rfl, ?_, hB, hP4, hrc, hk, rfl⟩
      have h4 : rp m B 4 = rp m B (P + 1) := rp_empty (by omega) (fun j h1 h2 => nxp_em j (by omega) h2) 4 (by omega) (Nat.le_refl 4)
      have h5 : rp m B (P + 1) = lrn (rp m B P) (m (22 * B + (6 + 4 * P))) (m (22 * B + (6 + 4 * P + 2))) := by
        show rstep m B P (rp m B P) = _
        unfold rstep
        rw [hrc]; rfl
      have h6 := dr.trans (h4.trans h5)
      unfold lrn at h6
      rw [if_pos hk] at h6
      obtain ⟨j1, j2, j3, j4⟩ := rs_1 h6
      obtain ⟨nu0, su0, ti0, pa0, hx, x1, x2, x3, x4⟩ := hI.2.2.2.2.2.2 P (by omega)
      rw [hx] at j2 j3
      refine ⟨0, su0, ti0, pa, ?_, by decide, x2, x3, g4⟩
      have k2 : m 119 - jrem (m (22 * B + (6 + 4 * P + 2))) 1000 = nI su0 := by rw [j2]; exact Int32.add_sub_cancel _ _
      have k3 : m 120 - 1 = nI ti0 := by rw [j3]; exact Int32.add_sub_cancel _ _
      rw [k2, k3, e4]
theorem gd_nu {nu su ti pa nu' : Int32} (h : gd (nu, su, ti, pa)) (h' : ∃ n : Nat, n < 10000 ∧ nu' = nI n) : gd (nu', su, ti, pa) := by
  obtain ⟨a, b, c, d, e, g1, g2, g3, g4⟩ := h
  obtain ⟨n, hn, rfl⟩ := h'
  obtain ⟨e1, e2, e3, e4⟩ := rs_1 e
  exact ⟨n, b, c, d, by rw [e2, e3, e4], hn, g2, g3, g4⟩
set_option maxHeartbeats 4000000 in
theorem canF (h : PR w er fl me p pr m) (hV : IV m) (on : m 115 = 1) {v : Int32} (h1 : g_X0_recordWord w (me 0) (me 1 - 1) 2 = some v) (hg : gd (nI 0, m 119 - jrem v 1000, m 120 - 1, m 121)) :
    ∃ (r : Int32) (w' er' fl' me' pr' m' : Nat → Int32), g_X5_cancelLatest w er fl me pr = some (r, w', er', fl', me', pr') ∧ ((g_X7_write m 1 (m 122) v).bind fun o80 => (if o80.1 = 0 then some ((-4), o80.2) else some ((jrem v 1000), (upd (upd o80.2 119 ((o80.2 119) - (jrem v 1000))) 120 ((o80.2 120) - 1))))) = some (r, m') ∧ PR w' er' fl' me' p pr' m' ∧ IV m' := by
  obtain ⟨B, S, k, nu, su, ti, pa, hI, d0, d1, dr, e1, e2, e3, e4, g1, g2, g3, g4⟩ := onX hV on
  have p1 := h.2.2.2.1
  have hlr := lrn_c (r := (m 118, m 119, m 120, m 121)) (v := v) g1
  obtain ⟨r, w1, er1, fl1, me1, pr1, m1, hr, x1, y1, t1, z1, s1⟩ := prW (tm := m 122) (v := v) (kd := 1) h hV on e1 g1 (by decide) (by rw [hlr]; exact gd_nu hg ⟨_, Nat.mod_lt _ (by decide), rfl⟩)
  replace x1 : g_X5_writeRecord w er fl me pr 1 (m 122) v = some (r, w1, er1, fl1, me1, pr1) := x1
  replace y1 : g_X7_write m 1 (m 122) v = some (r, m1) := y1
  unfold g_X5_cancelLatest
  rw [h1, Option.bind_some, p1, x1, y1, Option.bind_some, Option.bind_some]
  rcases hr with rfl | rfl
  · exact ⟨-4, w1, er1, fl1, me1, pr1, m1, rfl, rfl, (z1 rfl).1, (z1 rfl).2⟩
  · obtain ⟨q1, q2, q3⟩ := s1 rfl
    subst q1
    have k119 := t1 119 (by decide) (by decide) (by decide)
    have k120 := t1 120 (by decide) (by decide) (by decide)
    have k121 := t1 121 (by decide) (by decide) (by decide)
    have k122 := t1 122 (by decide) (by decide) (by decide)
    have k123 := t1 123 (by decide) (by decide) (by decide)
    have k124 := t1 124 (by decide) (by decide) (by decide)
    obtain ⟨a1, a2⟩ := q3 (upd (upd m1 119 (m1 119 - jrem v 1000)) 120 (m1 120 - 1)) pr1 (fun i i1 i2 i3 i4 i5 i6 => by simp [upd, i1, i2]) (by rw [hlr, k119, k120]; simp [upd, k121]) (by simp [upd, k122]; exact hV.2.2.2) (by simp [upd, h.2.2.1, on, q2]) (by simp [upd, p1, k122]) (by simp [upd, h.2.2.2.2.1, k123]) (by simp [upd, h.2.2.2.2.2.1, k124])
    exact ⟨_, w1, er1, fl1, me1, pr1, _, rfl, rfl, a1, a2⟩
set_option maxHeartbeats 4000000 in
theorem cloF (h : PR w er fl me p pr m) (hV : IV m) (on : m 115 = 1) :
    ∃ (r : Int32) (w' er' fl' me' pr' m' : Nat → Int32), g_X5_closeDay w er fl me pr = some (r, w', er', fl', me', pr') ∧ ((g_X7_write m 3 (m 122) (m 119)).bind fun o35 => (if o35.1 = 0 then some ((-4), o35.2) else some ((m 119), (upd (upd o35.2 119 0) 120 0)))) = some (r, m') ∧ PR w' er' fl' me' p pr' m' ∧ IV m' := by
  obtain ⟨B, S, k, nu, su, ti, pa, hI, d0, d1, dr, e1, e2, e3, e4, g1, g2, g3, g4⟩ := onX hV on
  have p1 := h.2.2.2.1
  have c3 := (h.2.2.2.2.2.2 on).2.2.2.1
  have hlr := lrn_d (r := (m 118, m 119, m 120, m 121)) (v := m 119) g1
  obtain ⟨r, w1, er1, fl1, me1, pr1, m1, hr, x1, y1, t1, z1, s1⟩ := prW (tm := m 122) (v := m 119) (kd := 3) h hV on e1 g1 (by decide) (by rw [hlr]; exact ⟨_, 0, 0, pa, by rw [e4]; rfl, Nat.mod_lt _ (by decide), by omega, by omega, g4⟩)
  replace x1 : g_X5_writeRecord w er fl me pr 3 (m 122) (m 119) = some (r, w1, er1, fl1, me1, pr1) := x1
  replace y1 : g_X7_write m 3 (m 122) (m 119) = some (r, m1) := y1
  unfold g_X5_closeDay
  rw [p1, c3, x1, y1, Option.bind_some, Option.bind_some]
  rcases hr with rfl | rfl
  · exact ⟨-4, w1, er1, fl1, me1, pr1, m1, rfl, rfl, (z1 rfl).1, (z1 rfl).2⟩
  · obtain ⟨q1, q2, q3⟩ := s1 rfl
    subst q1
    have k121 := t1 121 (by decide) (by decide) (by decide)
    have k122 := t1 122 (by decide) (by decide) (by decide)
    have k123 := t1 123 (by decide) (by decide) (by decide)
    have k124 := t1 124 (by decide) (by decide) (by decide)
    obtain ⟨a1, a2⟩ := q3 (upd (upd m1 119 0) 120 0) pr1 (fun i i1 i2 i3 i4 i5 i6 => by simp [upd, i1, i2]) (by rw [hlr]; simp [upd, k121]) (by simp [upd, k122]; exact hV.2.2.2) (by simp [upd, h.2.2.1, on, q2]) (by simp [upd, p1, k122]) (by simp [upd, h.2.2.2.2.1, k123]) (by simp [upd, h.2.2.2.2.2.1, k124])
    exact ⟨_, w1, er1, fl1, me1, pr1, _, rfl, rfl, a1, a2⟩
theorem IV_low {m' : Nat → Int32} (hV : IV m) (h : ∀ i, i < 122 → m' i = m i) (hp : prs m') (ht : tms (m' 122)) : IV m' := by
  obtain ⟨⟨B, S, k, hI, hm⟩, h2, -, -⟩ := hV
  have hl : ∀ i, i < 110 → m' i = m i := fun i hi => h i (by omega)
  refine ⟨⟨B, S, k, hI.congr hl, fun on => ?_⟩, by rw [h 115 (by decide)]; exact h2, hp, ht⟩
  rw [h 115 (by decide)] at on
  obtain ⟨a1, a2, a3⟩ := hm on
  rw [h 116 (by decide), h 117 (by decide), h 118 (by decide), h 119 (by decide), h 120 (by decide), h 121 (by decide), nxp_low hI.1 hl, rp_low hI.1 hl]
  exact ⟨a1, a2, a3⟩
theorem set123 (h : PR w er fl me p pr m) (hV : IV m) (x : Int32) : PR w er fl me p (upd pr 2 x) (upd m 123 x) ∧ IV (upd m 123 x) := by
  obtain ⟨⟨f1, f2, f3, f4, f5⟩, hp, p0, p1, p2, p3, hm⟩ := h
  refine ⟨⟨⟨fun i hi => ?_, fun i hi => ?_, ?_, ?_, ?_⟩, fun i hi => ?_, ?_, ?_, ?_, ?_, fun on => ?_⟩, IV_low hV (fun i hi => ?_) (fun i hi => ?_) ?_⟩
  · simp [upd, show ¬ i = 123 by omega, f1 i hi]
  · simp [upd, show ¬ 110 + i = 123 by omega, f2 i hi]
  · simp [upd, f3]
  · simp [upd, f4]
  · simp only [upd]; exact f5
  · simp [upd, show ¬ 127 + i = 123 by omega, hp i hi]
  · simp [upd, p0]
  · simp [upd, p1]
  · simp [upd]
  · simp [upd, p3]
  · simp only [upd] at on ⊢; exact hm on
  · simp [upd, show ¬ i = 123 by omega]
  · simp only [upd, show ¬ 127 + i = 123 by omega, if_false]; exact hV.2.2.1 i hi
  · simp only [upd]; exact hV.2.2.2
set_option maxHeartbeats 4000000 in
theorem loaF (h : PR w er fl me p pr m) (hV : IV m) (on : m 115 = 1) {n1 n2 : Int32} (hn : ∃ c : Nat, c ≤ 50000 ∧ n1 = nI c) :
    ∃ (r : Int32) (w' er' fl' me' pr' m' : Nat → Int32), g_X5_putInPaper w er fl me pr n1 n2 = some (r, w', er', fl', me', pr') ∧ ((g_X7_write (upd m 123 n2) 4 (m 122) n1).bind fun o65 => (if o65.1 = 0 then some ((-4), o65.2) else some ((m 123), (upd o65.2 121 n1)))) = some (r, m') ∧ PR w' er' fl' me' p pr' m' ∧ IV m' := by
  have p1 := h.2.2.2.1
  have p2 := h.2.2.2.2.1
  obtain ⟨hh, hVV⟩ := set123 h hV n2
  have on' : (upd m 123 n2) 115 = 1 := by simp [upd, on]
  have m122 : (upd m 123 n2) 122 = m 122 := by simp [upd]
  generalize upd m 123 n2 = mm at *
  obtain ⟨B, S, k, nu, su, ti, pa, hI, d0, d1, dr, e1, e2, e3, e4, g1, g2, g3, g4⟩ := onX hVV on'
  have hlr := lrn_p (r := (mm 118, mm 119, mm 120, mm 121)) (v := n1) g1
  obtain ⟨c, hc, rfl⟩ := hn
  obtain ⟨r, w1, er1, fl1, me1, pr1, m1, hr, x1, y1, t1, z1, s1⟩ := prW (tm := m 122) (v := nI c) (kd := 4) hh hVV on' e1 g1 (by decide) (by rw [hlr]; exact ⟨_, su, ti, c, by rw [e2, e3], Nat.mod_lt _ (by decide), g2, g3, hc⟩)
  replace x1 : g_X5_writeRecord w er fl me (upd pr 2 n2) 4 (m 122) (nI c) = some (r, w1, er1, fl1, me1, pr1) := x1
  replace y1 : g_X7_write mm 4 (m 122) (nI c) = some (r, m1) := y1
  unfold g_X5_putInPaper
  rw [p1, p2, x1, y1, Option.bind_some, Option.bind_some]
  rcases hr with rfl | rfl
  · exact ⟨-4, w1, er1, fl1, me1, pr1, m1, rfl, rfl, (z1 rfl).1, (z1 rfl).2⟩
  · obtain ⟨q1, q2, q3⟩ := s1 rfl
    have k119 := t1 119 (by decide) (by decide) (by decide)
    have k120 := t1 120 (by decide) (by decide) (by decide)
    have k122 := t1 122 (by decide) (by decide) (by decide)
    have k123 := t1 123 (by decide) (by decide) (by decide)
    have k124 := t1 124 (by decide) (by decide) (by decide)
    obtain ⟨a1, a2⟩ := q3 (upd m1 121 (nI c)) pr1 (fun i i1 i2 i3 i4 i5 i6 => by simp [upd, i3]) (by rw [hlr]; simp [upd, k119, k120]) (by simp [upd, k122]; exact hVV.2.2.2) (by rw [q1, hh.2.2.1, on']; simp [upd, q2]) (by rw [q1, hh.2.2.2.1]; simp [upd, k122]) (by rw [q1, hh.2.2.2.2.1]; simp [upd, k123]) (by rw [q1, hh.2.2.2.2.2.1]; simp [upd, k124])
    exact ⟨_, w1, er1, fl1, me1, pr1, _, rfl, rfl, a1, a2⟩
theorem set122 (h : PR w er fl me p pr m) (hV : IV m) {x : Int32} (hx : tms x) : PR w er fl me p (upd pr 1 x) (upd m 122 x) ∧ IV (upd m 122 x) := by
  obtain ⟨⟨f1, f2, f3, f4, f5⟩, hp, p0, p1, p2, p3, hm⟩ := h
  refine ⟨⟨⟨fun i hi => ?_, fun i hi => ?_, ?_, ?_, ?_⟩, fun i hi => ?_, ?_, ?_, ?_, ?_, fun on => ?_⟩, IV_low hV (fun i hi => ?_) (fun i hi => ?_) ?_⟩
  · simp [upd, show ¬ i = 122 by omega, f1 i hi]
  · simp [upd, show ¬ 110 + i = 122 by omega, f2 i hi]
  · simp [upd, f3]
  · simp [upd, f4]
  · simp only [upd]; exact f5
  · simp [upd, show ¬ 127 + i = 122 by omega, hp i hi]
  · simp [upd, p0]
  · simp [upd]
  · simp [upd, p2]
  · simp [upd, p3]
  · simp only [upd] at on ⊢; exact hm on
  · simp [upd, show ¬ i = 122 by omega]
  · simp only [upd, show ¬ 127 + i = 122 by omega, if_false]; exact hV.2.2.1 i hi
  · simp [upd]; exact hx
end PO2

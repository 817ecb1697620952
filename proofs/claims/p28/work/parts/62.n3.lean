-- clock, off, start, and small changes: class and reference side by side
section PO3
variable {m w er fl me p pr : Nat → Int32} {b q B S k : Nat}
theorem sub_ti {a b : Nat} (ha : a ≤ 60000) (hb : b ≤ 60000) : (nI a - nI b).toInt = (a : Int) - b := pk_sub_toInt (by omega) (by omega)
theorem stp {a b : Nat} (ha : a ≤ 60000) (hb : b ≤ 60000) : ((if 0 ≤ (nI a - nI b) then (nI a - nI b) else 0 - (nI a - nI b)) < (5 : Int32)) = (¬ ((5 : Int32) ≤ nI a - nI b) ∧ (nI b - nI a) < (5 : Int32)) := by
  have t1 := sub_ti ha hb
  have t2 := sub_ti hb ha
  have e : (0 : Int32) - (nI a - nI b) = nI b - nI a := by rw [Int32.zero_sub, Int32.neg_sub]
  rw [e]
  have z0 : (0 : Int32).toInt = 0 := by decide
  have z5 : (5 : Int32).toInt = 5 := by decide
  by_cases h : (0 : Int32) ≤ nI a - nI b
  · rw [if_pos h]
    rw [Int32.le_iff_toInt_le, z0, t1] at h
    simp only [Int32.lt_iff_toInt_lt, Int32.le_iff_toInt_le, z5, t1, t2]
    exact propext ⟨fun h => by omega, fun h => by omega⟩
  · rw [if_neg h]
    rw [Int32.le_iff_toInt_le, z0, t1] at h
    simp only [Int32.lt_iff_toInt_lt, Int32.le_iff_toInt_le, z5, t1, t2]
    exact propext ⟨fun h => by omega, fun h => by omega⟩
set_option maxHeartbeats 4000000 in
theorem clkF (h : PR w er fl me p pr m) (hV : IV m) (on : m 115 = 1) {n1 : Int32} (hn : tms n1) (ps mv : Nat → Int32) :
    ∃ (r : Int32) (w' er' fl' me' pr' m' : Nat → Int32), g_X5_moveClock w er fl me pr n1 = some (r, w', er', fl', me', pr') ∧ (if 5 ≤ (n1 - (m 122)) then g_X7_setClock_55 n1 m ps mv else (if ((m 122) - n1) < 5 then g_X7_setClock_60 n1 0 m ps mv else g_X7_setClock_55 n1 m ps mv)) = some (r, m', ps, mv) ∧ PR w' er' fl' me' p pr' m' ∧ IV m' := by
  have p1 := h.2.2.2.1
  obtain ⟨c, hc, rfl⟩ := hn
  obtain ⟨c0, hc0, ht⟩ := hV.2.2.2
  have hst := stp hc hc0
  have hcl : g_X5_moveClock w er fl me pr (nI c) = if (¬ ((5 : Int32) ≤ nI c - nI c0) ∧ (nI c0 - nI c) < (5 : Int32)) then g_X5_moveClock_18 (nI c) 0 w er fl me pr else g_X5_moveClock_18 (nI c) 1 w er fl me pr := by
    unfold g_X5_moveClock
    rw [p1, ht]
    by_cases hh : (¬ ((5 : Int32) ≤ nI c - nI c0) ∧ (nI c0 - nI c) < (5 : Int32))
    · rw [if_pos hh]
      rw [if_pos (by rw [hst]; exact hh)]
    · rw [if_neg hh]
      rw [if_neg (by rw [hst]; exact hh)]
  have hmo : (if 5 ≤ (nI c - (m 122)) then g_X7_setClock_55 (nI c) m ps mv else (if ((m 122) - nI c) < 5 then g_X7_setClock_60 (nI c) 0 m ps mv else g_X7_setClock_55 (nI c) m ps mv)) = if (¬ ((5 : Int32) ≤ nI c - nI c0) ∧ (nI c0 - nI c) < (5 : Int32)) then g_X7_setClock_60 (nI c) 0 m ps mv else g_X7_setClock_60 (nI c) 1 m ps mv := by
    unfold g_X7_setClock_55
    rw [ht]
    by_cases h1 : (5 : Int32) ≤ nI c - nI c0 <;> by_cases h2 : (nI c0 - nI c) < (5 : Int32) <;> simp [h1, h2]
  rw [hcl, hmo]
  by_cases hh : (¬ ((5 : Int32) ≤ nI c - nI c0) ∧ (nI c0 - nI c) < (5 : Int32))
  · rw [if_pos hh, if_pos hh]
    obtain ⟨a1, a2⟩ := set122 h hV ⟨c, hc, rfl⟩
    exact ⟨0, w, er, fl, me, upd pr 1 (nI c), upd m 122 (nI c), rfl, rfl, a1, a2⟩
  · rw [if_neg hh, if_neg hh]
    obtain ⟨B, S, k, nu, su, ti, pa, hI, d0, d1, dr, e1, e2, e3, e4, g1, g2, g3, g4⟩ := onX hV on
    have hlr := lrn_k (r := (m 118, m 119, m 120, m 121)) (v := m 122) g1
    obtain ⟨r, w1, er1, fl1, me1, pr1, m1, hr, x1, y1, t1, z1, s1⟩ := prW (tm := nI c) (v := m 122) (kd := 2) h hV on e1 g1 (by decide) (by rw [hlr]; exact ⟨_, su, ti, pa, by rw [e2, e3, e4], Nat.mod_lt _ (by decide), g2, g3, g4⟩)
    replace x1 : g_X5_writeRecord w er fl me pr 2 (nI c) (m 122) = some (r, w1, er1, fl1, me1, pr1) := x1
    replace y1 : g_X7_write m 2 (nI c) (m 122) = some (r, m1) := y1
    unfold g_X5_moveClock_18 g_X7_setClock_60
    rw [if_neg i1ne, if_neg i1ne, p1, x1, y1, Option.bind_some, Option.bind_some]
    rcases hr with rfl | rfl
    · exact ⟨-4, w1, er1, fl1, me1, pr1, m1, rfl, rfl, (z1 rfl).1, (z1 rfl).2⟩
    · obtain ⟨q1, q2, q3⟩ := s1 rfl
      subst q1
      have k119 := t1 119 (by decide) (by decide) (by decide)
      have k120 := t1 120 (by decide) (by decide) (by decide)
      have k121 := t1 121 (by decide) (by decide) (by decide)
      have k123 := t1 123 (by decide) (by decide) (by decide)
      have k124 := t1 124 (by decide) (by decide) (by decide)
      obtain ⟨a1, a2⟩ := q3 (upd m1 122 (nI c)) (upd pr1 1 (nI c)) (fun i i1 i2 i3 i4 i5 i6 => by simp [upd, i4]) (by rw [hlr]; simp [upd, k119, k120, k121]) (by simp only [upd, if_true]; exact ⟨c, hc, rfl⟩) (by simp [upd, h.2.2.1, on, q2]) (by simp [upd]) (by simp [upd, h.2.2.2.2.1, k123]) (by simp [upd, h.2.2.2.2.2.1, k124])
      exact ⟨1, w1, er1, fl1, me1, _, _, rfl, rfl, a1, a2⟩
theorem tl5_eq {f g : Nat → Nat → Bool} (h1 : ∀ b, b < 5 → wh w b = wh m b) (h2 : ∀ b q, b < 5 → q < 4 → f b q = g b q) : tl5 w f = tl5 m g := by
  have e : ∀ b, b < 5 → tl w f b = tl m g b := by
    intro b hb
    unfold tl cn4
    rw [h1 b hb, h2 b 0 hb (by decide), h2 b 1 hb (by decide), h2 b 2 hb (by decide), h2 b 3 hb (by decide)]
  unfold tl5
  rw [e 0 (by decide), e 1 (by decide), e 2 (by decide), e 3 (by decide), e 4 (by decide)]
theorem ff_low {kd : Int32} (h : ∀ i, i < 110 → w i = m i) (hb : b < 5) (hq : q < 4) : ff w kd b q = ff m kd b q := by
  unfold ff
  rw [em_low h hb hq, rc_low h hb hq, h _ (by omega)]
theorem co_low {kd : Int32} (h : ∀ i, i < 110 → w i = m i) : tl5 w (ff w kd) = tl5 m (ff m kd) := tl5_eq (fun b hb => wh_low h hb) (fun b q hb hq => ff_low h hb hq)
theorem tal1 (h : ∀ i, i < 110 → w i = m i) : g_X0_tally w 1 = some (tl5 m (ff m (-1))) := by
  rw [ta0]
  exact congrArg some (tl5_eq (fun b hb => wh_low h hb) (fun b q hb hq => by rw [sto_1, ff_low h hb hq]))
theorem tal2 (h : ∀ i, i < 110 → w i = m i) : g_X0_tally w 2 = some (tl5 m (ff m (-2))) := by
  rw [ta0]
  exact congrArg some (tl5_eq (fun b hb => wh_low h hb) (fun b q hb hq => by rw [sto_2, ff_low h hb hq]))
theorem offF (h : PR w er fl me p pr m) (hV : IV m) : ∃ me', g_X5_losePower me pr = some (me', upd pr 0 0) ∧ PR w er fl me' p (upd pr 0 0) (upd m 115 0) ∧ IV (upd m 115 0) := by
  obtain ⟨⟨f1, f2, f3, f4, f5⟩, hp, p0, p1, p2, p3, hm⟩ := h
  obtain ⟨⟨B, S, k, hI, hm2⟩, h2, h3, h4⟩ := hV
  refine ⟨_, rfl, ⟨⟨fun i hi => ?_, fun i hi => ?_, ?_, ?_, ?_⟩, fun i hi => ?_, ?_, ?_, ?_, ?_, fun on => ?_⟩, ⟨⟨B, S, k, hI.congr (fun i hi => ?_), fun on => ?_⟩, Or.inl ?_, fun i hi => ?_, ?_⟩⟩
  · simp [upd, show ¬ i = 115 by omega, f1 i hi]
  · simp [upd, show ¬ 110 + i = 115 by omega, f2 i hi]
  · simp [upd, f3]
  · simp [upd, f4]
  · simp only [upd]; exact f5
  · simp [upd, show ¬ 127 + i = 115 by omega, hp i hi]
  · simp [upd]
  · simp [upd, p1]
  · simp [upd, p2]
  · simp [upd, p3]
  · simp [upd] at on
  · simp [upd, show ¬ i = 115 by omega]
  · simp [upd] at on
  · simp [upd]
  · simp only [upd, show ¬ 127 + i = 115 by omega, if_false]; exact h3 i hi
  · simp only [upd]; exact h4
theorem upd_upd (f : Nat → Int32) (i : Nat) (x y : Int32) : upd (upd f i x) i y = upd f i y := by
  funext j
  simp only [upd]
  split <;> rfl
theorem rs0_step {n : Nat} (hw : ∀ i, i < 110 → w i = m i) (hB : B < 5) (hq : q < 4) (h0 : me 0 = nI B) (hr : (me 2, me 3, me 4, me 5) = rp m B q) : ∃ me', g_X3_recall_74 w (n + 1) (nI q) me = g_X3_recall_74 w n (nI (q + 1)) me' ∧ me' 0 = nI B ∧ me' 1 = me 1 ∧ (me' 2, me' 3, me' 4, me' 5) = rp m B (q + 1) := by
  simp only [g_X3_recall_74, g_X3_recall_116]
  rw [if_neg (n4_le hq), h0, st0 hB hq, sto_low hw hB hq, Option.bind_some, rw_0 hB hq, rw_2 hB hq, hw _ (by omega), hw _ (by omega), Option.bind_some, Option.bind_some]
  show ∃ me', _ ∧ _ ∧ _ ∧ _ = rstep m B q (rp m B q)
  unfold rstep
  cases hrc : rc m B q
  · refine ⟨me, ?_, h0, rfl, hr⟩
    rw [if_neg (by rw [sto_rc, hrc]; decide), nI_s]
  · obtain ⟨me', l1, l2, l3, l4⟩ := learn0 me (m (22 * B + (6 + 4 * q))) (m (22 * B + (6 + 4 * q + 2)))
    refine ⟨me', ?_, by rw [l2, h0], l3, by rw [l4, hr]; rfl⟩
    rw [if_pos (by rw [sto_rc, hrc]), l1, Option.bind_some, nI_s]
theorem rs7_step {n : Nat} {m0 : Nat → Int32} (hw : ∀ i, i < 110 → m i = m0 i) (hB : B < 5) (hq : q < 4) (hr : (m 118, m 119, m 120, m 121) = rp m0 B q) : ∃ m', g_X7_readMemory_124 (n + 1) (nI B) (nI q) m = g_X7_readMemory_124 n (nI B) (nI (q + 1)) m' ∧ (∀ i, i ≠ 118 → i ≠ 119 → i ≠ 120 → i ≠ 121 → m' i = m i) ∧ (m' 118, m' 119, m' 120, m' 121) = rp m0 B (q + 1) := by
  simp only [g_X7_readMemory_124, g_X7_readMemory_156]
  rw [if_neg (n4_le hq), rc7 hB hq, rc_low hw hB hq, Option.bind_some, in_0 hB hq, in_2 hB hq, hw _ (by omega), hw _ (by omega), Option.bind_some, Option.bind_some]
  show ∃ m', _ ∧ _ ∧ _ = rstep m0 B q (rp m0 B q)
  unfold rstep
  cases hrc : rc m0 B q
  · refine ⟨m, ?_, fun _ _ _ _ _ => rfl, hr⟩
    rw [bF rfl, if_pos rfl, nI_s]
  · obtain ⟨m', l1, l2, l3⟩ := follow7 m (m0 (22 * B + (6 + 4 * q))) (m0 (22 * B + (6 + 4 * q + 2)))
    refine ⟨m', ?_, l3, by rw [l2, hr]; rfl⟩
    rw [bT rfl, if_neg i1ne, l1, Option.bind_some, nI_s]
theorem np7_step {n : Nat} {m0 : Nat → Int32} (hB : B < 5) (hq : q < 4) : g_X7_readMemory_81 (n + 1) (nI B) (upd m0 117 (nI (q + 1))) = if em m0 B q = true then g_X7_readMemory_81 n (nI B) (upd m0 117 (nI q)) else g_X7_readMemory_122 (nI B) (upd m0 117 (nI (q + 1))) := by
  have e1 : (upd m0 117 (nI (q + 1))) 117 = nI (q + 1) := by simp [upd]
  have hl : ∀ i, i < 110 → (upd m0 117 (nI (q + 1))) i = m0 i := fun i hi => by simp [upd, show ¬ i = 117 by omega]
  simp only [g_X7_readMemory_81]
  rw [e1, if_neg (nI_nle (by omega) (by omega)), nI_pred, em7 hB hq, em_low hl hB hq, Option.bind_some, upd_upd]
  cases em m0 B q <;> simp [b2i]
theorem np7_0 {n : Nat} {m0 : Nat → Int32} : g_X7_readMemory_81 (n + 1) (nI B) (upd m0 117 (nI 0)) = g_X7_readMemory_122 (nI B) (upd m0 117 (nI 0)) := by
  have e1 : (upd m0 117 (nI 0)) 117 = nI 0 := by simp [upd]
  simp only [g_X7_readMemory_81]
  rw [e1, if_pos (by decide)]
theorem np7 {m0 : Nat → Int32} (hB : B < 5) : g_X7_readMemory_81 8 (nI B) (upd m0 117 4) = g_X7_readMemory_122 (nI B) (upd m0 117 (nI (nxp m0 B))) := by
  show g_X7_readMemory_81 (7 + 1) (nI B) (upd m0 117 (nI (3 + 1))) = _
  rw [np7_step hB (by decide), np7_step (n := 6) (q := 2) hB (by decide), np7_step (n := 5) (q := 1) hB (by decide), np7_step (n := 4) (q := 0) hB (by decide), np7_0 (n := 3)]
  unfold nxp
  cases em m0 B 0 <;> cases em m0 B 1 <;> cases em m0 B 2 <;> cases em m0 B 3 <;> rfl
set_option maxHeartbeats 4000000 in
theorem wakF (h : PR w er fl me p pr m) (hV : IV m) : ∃ me' m', g_X5_wake w me pr = some (me', upd pr 0 1) ∧ g_X7_readMemory m = some m' ∧ PR w er fl me' p (upd pr 0 1) m' ∧ IV m' ∧ m' 115 = 1 ∧ (∀ i, i < 110 → m' i = m i) := by
  obtain ⟨⟨f1, f2, f3, f4, f5⟩, hp, p0, p1, p2, p3, -⟩ := h
  obtain ⟨⟨B, S, k, hI, -⟩, h2, h3, h4⟩ := hV
  have hB := hI.1
  have hIw : FI w B S k := hI.congr f1
  have n0 : g_X0_newestBlock w = some (nI B) := by rw [nb0, nw_of hIw]
  have n7 : g_X7_newest m = some (nI B) := by rw [nb7, nw_of hI]
  have hnx : nxp w B = nxp m B := nxp_low hB f1
  have hend : ∀ n me, g_X3_recall_74 w (n + 1) (nI 4) me = some me := by intro n me; simp [g_X3_recall_74, nI]
  -- the class
  obtain ⟨me1, a1, b1, c1, d1⟩ := rs0_step (n := 11) (q := 0) (me := upd (upd (upd (upd (upd (upd me 0 (nI B)) 1 (nI (nxp m B))) 3 (m (22 * B + 1))) 4 (m (22 * B + 2))) 5 (m (22 * B + 3))) 2 (m (22 * B + 4))) f1 hB (by decide) (by simp [upd]) (by simp [upd, rp, hd])
  obtain ⟨me2, a2, b2, c2, d2⟩ := rs0_step (n := 10) (q := 1) f1 hB (by decide) b1 d1
  obtain ⟨me3, a3, b3, c3, d3⟩ := rs0_step (n := 9) (q := 2) f1 hB (by decide) b2 d2
  obtain ⟨me4, a4, b4, c4, d4⟩ := rs0_step (n := 8) (q := 3) f1 hB (by decide) b3 d3
  have hcl : g_X5_wake w me pr = some (me4, upd pr 0 1) := by
    unfold g_X5_wake g_X3_recall
    rw [n0, Option.bind_some, np0 hB, hnx, Option.bind_some, read_1 hB, read_2 hB, read_3 hB, read_4 hB, f1 _ (by omega), f1 _ (by omega), f1 _ (by omega), f1 _ (by omega)]
    simp only [Option.bind_some]
    rw [show (12 : Nat) = 11 + 1 from rfl, show (0 : Int32) = nI 0 from rfl, a1, a2, a3, a4, hend 7]
    rfl
  have q1 : me4 1 = nI (nxp m B) := by rw [c4, c3, c2, c1]; simp [upd]
  -- the reference
  have lowU : ∀ (f : Nat → Int32) (i j : Nat) (x : Int32), i < 110 → 110 ≤ j → upd f j x i = f i := fun f i j x h1 h2 => by simp [upd, show ¬ i = j by omega]
  let m5 : Nat → Int32 := upd (upd (upd (upd (upd (upd m 115 1) 116 (nI B)) 119 (m (22 * B + 1))) 120 (m (22 * B + 2))) 121 (m (22 * B + 3))) 118 (m (22 * B + 4))
  have l5 : ∀ i, i < 110 → m5 i = m i := fun i hi => by simp [m5, upd, show ¬ i = 115 by omega, show ¬ i = 116 by omega, show ¬ i = 118 by omega, show ¬ i = 119 by omega, show ¬ i = 120 by omega, show ¬ i = 121 by omega]
  let m6 : Nat → Int32 := upd m5 117 (nI (nxp m5 B))
  have l6 : ∀ i, i < 110 → m6 i = m i := fun i hi => by rw [← l5 i hi]; simp [m6, upd, show ¬ i = 117 by omega]
  have hend7 : ∀ n m, g_X7_readMemory_124 (n + 1) (nI B) (nI 4) m = some m := by intro n m; simp [g_X7_readMemory_124, nI]
  obtain ⟨k1, x1, y1, z1⟩ := rs7_step (n := 7) (q := 0) (m := m6) (m0 := m) l6 hB (by decide) (by simp [m6, m5, upd, rp, hd])
  have l7 : ∀ i, i < 110 → k1 i = m i := fun i hi => by rw [y1 i (by omega) (by omega) (by omega) (by omega), l6 i hi]
  obtain ⟨k2, x2, y2, z2⟩ := rs7_step (n := 6) (q := 1) l7 hB (by decide) z1
  have l8 : ∀ i, i < 110 → k2 i = m i := fun i hi => by rw [y2 i (by omega) (by omega) (by omega) (by omega), l7 i hi]
  obtain ⟨k3, x3, y3, z3⟩ := rs7_step (n := 5) (q := 2) l8 hB (by decide) z2
  have l9 : ∀ i, i < 110 → k3 i = m i := fun i hi => by rw [y3 i (by omega) (by omega) (by omega) (by omega), l8 i hi]
  obtain ⟨k4, x4, y4, z4⟩ := rs7_step (n := 4) (q := 3) l9 hB (by decide) z3
  have l10 : ∀ i, i < 110 → k4 i = m i := fun i hi => by rw [y4 i (by omega) (by omega) (by omega) (by omega), l9 i hi]
  have hi4 : ∀ i, i ≠ 115 → i ≠ 116 → i ≠ 117 → i ≠ 118 → i ≠ 119 → i ≠ 120 → i ≠ 121 → k4 i = m i := fun i i1 i2 i3 i4 i5 i6 i7 => by
    rw [y4 i i4 i5 i6 i7, y3 i i4 i5 i6 i7, y2 i i4 i5 i6 i7, y1 i i4 i5 i6 i7]
    simp [m6, m5, upd, i1, i2, i3, i4, i5, i6, i7]
  have k115 : k4 115 = 1 := by
    rw [y4 _ (by decide) (by decide) (by decide) (by decide), y3 _ (by decide) (by decide) (by decide) (by decide), y2 _ (by decide) (by decide) (by decide) (by decide), y1 _ (by decide) (by decide) (by decide) (by decide)]
    simp [m6, m5, upd]
  have k116 : k4 116 = nI B := by
    rw [y4 _ (by decide) (by decide) (by decide) (by decide), y3 _ (by decide) (by decide) (by decide) (by decide), y2 _ (by decide) (by decide) (by decide) (by decide), y1 _ (by decide) (by decide) (by decide) (by decide)]
    simp [m6, m5, upd]
  have k117 : k4 117 = nI (nxp m B) := by
    rw [y4 _ (by decide) (by decide) (by decide) (by decide), y3 _ (by decide) (by decide) (by decide) (by decide), y2 _ (by decide) (by decide) (by decide) (by decide), y1 _ (by decide) (by decide) (by decide) (by decide)]
    simp [m6, upd, nxp_low hB l5]
  have hmo : g_X7_readMemory m = some k4 := by
    unfold g_X7_readMemory
    rw [n7, Option.bind_some, at_1 hB, Option.bind_some, at_2 hB, Option.bind_some, at_3 hB, Option.bind_some, at_4 hB, Option.bind_some]
    rw [lowU _ _ _ _ (by omega) (by omega), lowU _ _ _ _ (by omega) (by omega), lowU _ _ _ _ (by omega) (by omega), lowU _ _ _ _ (by omega) (by omega), lowU _ _ _ _ (by omega) (by omega), lowU _ _ _ _ (by omega) (by omega), lowU _ _ _ _ (by omega) (by omega), lowU _ _ _ _ (by omega) (by omega), lowU _ _ _ _ (by omega) (by omega), lowU _ _ _ _ (by omega) (by omega), lowU _ _ _ _ (by omega) (by omega), lowU _ _ _ _ (by omega) (by omega), lowU _ _ _ _ (by omega) (by omega), lowU _ _ _ _ (by omega) (by omega)]
    rw [np7 hB]
    show g_X7_readMemory_124 (7 + 1) (nI B) (nI 0) m6 = _
    rw [x1, x2, x3, x4, hend7 3]
  obtain ⟨r2, r3, r4, r5⟩ := rs_1 (d4.trans z4.symm)
  refine ⟨me4, k4, hcl, hmo, ⟨⟨fun i hi => ?_, fun i hi => ?_, ?_, ?_, ?_⟩, fun i hi => ?_, ?_, ?_, ?_, ?_, fun _ => ⟨by rw [b4, k116], by rw [q1, k117], r2, r3, r4, r5⟩⟩, ⟨⟨B, S, k, hI.congr l10, fun _ => ⟨k116, by rw [k117, nxp_low hB l10], by rw [z4, rp_low hB l10]⟩⟩, Or.inr k115, fun i hi => ?_, ?_⟩, k115, l10⟩
  · rw [l10 i hi]; exact f1 i hi
  · rw [hi4 _ (by omega) (by omega) (by omega) (by omega) (by omega) (by omega) (by omega)]; exact f2 i hi
  · rw [hi4 _ (by decide) (by decide) (by decide) (by decide) (by decide) (by decide) (by decide)]; exact f3
  · rw [hi4 _ (by decide) (by decide) (by decide) (by decide) (by decide) (by decide) (by decide)]; exact f4
  · rw [hi4 _ (by decide) (by decide) (by decide) (by decide) (by decide) (by decide) (by decide)]; exact f5
  · rw [hi4 _ (by omega) (by omega) (by omega) (by omega) (by omega) (by omega) (by omega)]; exact hp i hi
  · rw [k115]; simp [upd]
  · rw [hi4 _ (by decide) (by decide) (by decide) (by decide) (by decide) (by decide) (by decide)]; simp [upd, p1]
  · rw [hi4 _ (by decide) (by decide) (by decide) (by decide) (by decide) (by decide) (by decide)]; simp [upd, p2]
  · rw [hi4 _ (by decide) (by decide) (by decide) (by decide) (by decide) (by decide) (by decide)]; simp [upd, p3]
  · rw [hi4 _ (by omega) (by omega) (by omega) (by omega) (by omega) (by omega) (by omega)]; exact h3 i hi
  · rw [hi4 _ (by decide) (by decide) (by decide) (by decide) (by decide) (by decide) (by decide)]; exact h4
end PO3

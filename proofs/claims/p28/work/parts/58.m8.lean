-- writing a record, whole; learning
section WL
variable {m w er fl me pr : Nat → Int32} {b k B S : Nat}
theorem learn0 (me : Nat → Int32) (f v : Int32) : ∃ me', g_X3_learn me f v = some me' ∧ me' 0 = me 0 ∧ me' 1 = me 1 ∧ (me' 2, me' 3, me' 4, me' 5) = lrn (me 2, me 3, me 4, me 5) f v := by
  unfold g_X3_learn lrn g_X6_lengthOf
  by_cases h0 : f / 10000 = 0
  · rw [if_pos h0, if_pos h0]
    exact ⟨_, rfl, by simp [upd], by simp [upd], by simp [upd]⟩
  · rw [if_neg h0, if_neg h0]
    by_cases h1 : f / 10000 = 1
    · rw [if_pos h1, if_pos h1]
      exact ⟨_, rfl, by simp [upd], by simp [upd], by simp [upd]⟩
    · rw [if_neg h1, if_neg h1]
      by_cases h3 : f / 10000 = 3
      · rw [if_pos h3, if_pos h3]
        exact ⟨_, rfl, by simp [upd], by simp [upd], by simp [upd]⟩
      · rw [if_neg h3, if_neg h3]
        by_cases h4 : f / 10000 = 4
        · rw [if_pos h4, if_pos h4]
          exact ⟨_, rfl, by simp [upd], by simp [upd], by simp [upd]⟩
        · rw [if_neg h4, if_neg h4]
          exact ⟨_, rfl, by simp [upd], by simp [upd], by simp [upd]⟩
theorem follow7 (m : Nat → Int32) (f v : Int32) : ∃ m', g_X7_follow m f v = some m' ∧ (m' 118, m' 119, m' 120, m' 121) = lrn (m 118, m 119, m 120, m 121) f v ∧ ∀ i, i ≠ 118 → i ≠ 119 → i ≠ 120 → i ≠ 121 → m' i = m i := by
  unfold g_X7_follow lrn g_X7_lengthOf
  by_cases h0 : f / 10000 = 0
  · rw [if_pos h0, if_pos h0]
    exact ⟨_, rfl, by simp [upd], fun i h1 h2 h3 h4 => by simp [upd, h1, h2, h3, h4]⟩
  · rw [if_neg h0, if_neg h0]
    by_cases h1 : f / 10000 = 1
    · rw [if_pos h1, if_pos h1]
      exact ⟨_, rfl, by simp [upd], fun i h1 h2 h3 h4 => by simp [upd, h1, h2, h3]⟩
    · rw [if_neg h1, if_neg h1]
      by_cases h3 : f / 10000 = 3
      · rw [if_pos h3, if_pos h3]
        exact ⟨_, rfl, by simp [upd], fun i h1 h2 h3 h4 => by simp [upd, h1, h2, h3]⟩
      · rw [if_neg h3, if_neg h3]
        by_cases h4 : f / 10000 = 4
        · rw [if_pos h4, if_pos h4]
          exact ⟨_, rfl, by simp [upd], fun i h1 h2 h3 h4 => by simp [upd, h1, h4]⟩
        · rw [if_neg h4, if_neg h4]
          exact ⟨_, rfl, by simp [upd], fun i h1 h2 h3 h4 => by simp [upd, h1]⟩
theorem nxp_ne : ∀ j, j + 1 = nxp m B → em m B j = false := by
  intro j h
  unfold nxp at h
  cases e0 : em m B 0 <;> cases e1 : em m B 1 <;> cases e2 : em m B 2 <;> cases e3 : em m B 3 <;> simp [e0, e1, e2, e3] at h <;> first | (subst h; assumption) | omega
theorem rs_1 {a b c d a' b' c' d' : Int32} (h : ((a, b, c, d) : RS) = (a', b', c', d')) : a = a' ∧ b = b' ∧ c = c' ∧ d = d' := ⟨congrArg Prod.fst h, congrArg (fun z => z.2.1) h, congrArg (fun z => z.2.2.1) h, congrArg (fun z => z.2.2.2) h⟩
theorem lrn_1 {r : RS} {f v : Int32} : (lrn r f v).1 = jrem ((jrem f 10000) + 1) 10000 := by
  unfold lrn
  split
  · rfl
  · split
    · rfl
    · split
      · rfl
      · split <;> rfl
theorem jrem_f {kd nu : Nat} (hk : kd < 5) (hn : nu < 10000) : jrem (nI (10000 * kd + nu)) 10000 = nI nu := by
  rw [jrem_10000 (by omega)]
  exact congrArg nI (by omega)
theorem f_nI {kd nu : Nat} : (10000 : Int32) * nI kd + nI nu = nI (10000 * kd + nu) := by
  rw [show (10000 : Int32) = nI 10000 from rfl, pk_mul, nI_add]
theorem f_div {kd nu : Nat} (hk : kd < 5) (hn : nu < 10000) : nI (10000 * kd + nu) / 10000 = nI kd := by
  rw [show (10000 : Int32) = nI 10000 from rfl, pk_div (by omega) (by decide) (by decide)]
  exact congrArg nI (by omega)
theorem n4_lt {q : Nat} (h : q < 4) : nI q < (4 : Int32) := nI_lt (a := q) (b := 4) h (by decide)
theorem n4_ne {q : Nat} (h : q < 4) : ¬ nI q = (4 : Int32) := by
  intro e
  have : nI q = nI 4 := e
  rw [nI_inj (by omega) (by decide)] at this
  omega
set_option maxHeartbeats 4000000 in
theorem wrF {tm v : Int32} {kd nun : Nat} (h : FR w er fl m) (hI : FI m B S k) (c0 : me 0 = nI B) (c1 : me 1 = nI (nxp m B)) (cr : (me 2, me 3, me 4, me 5) = rp m B 4) (d0 : m 116 = nI B) (d1 : m 117 = nI (nxp m B)) (dr : (m 118, m 119, m 120, m 121) = rp m B 4) (hnu : m 118 = nI nun) (hnl : nun < 10000) (hkd : kd < 5) (hg : gd (lrn (rp m B 4) (nI (10000 * kd + nun)) v)) :
    ∃ (r : Int32) (w' er' fl' me' pr' m' : Nat → Int32), (r = 0 ∨ r = 1) ∧ g_X5_writeRecord w er fl me pr (nI kd) tm v = some (r, w', er', fl', me', pr') ∧ g_X7_write m (nI kd) tm v = some (r, m') ∧ FR w' er' fl' m' ∧ (∀ i, 119 ≤ i → i ≠ 125 → i ≠ 126 → m' i = m i) ∧ (r = 0 → m' 115 = 0 ∧ pr' = upd pr 0 0 ∧ ∃ B' S' k', FI m' B' S' k') ∧ (r = 1 → m' 115 = m 115 ∧ pr' = pr ∧ ∃ B' S' k', FI m' B' S' k' ∧ me' 0 = nI B' ∧ m' 116 = nI B' ∧ me' 1 = nI (nxp m' B') ∧ m' 117 = nI (nxp m' B') ∧ (me' 2, me' 3, me' 4, me' 5) = rp m' B' 4 ∧ rp m' B' 4 = lrn (rp m B 4) (nI (10000 * kd + nun)) v ∧ m' 118 = me' 2) := by
  have hB := hI.1
  obtain ⟨e2, e3, e4, e5⟩ := rs_1 (cr.trans dr.symm)
  have hgd : gd (rp m B 4) := hI.2.2.2.2.2.2 4 (Nat.le_refl 4)
  have hfc : (10000 : Int32) * nI kd + me 2 = nI (10000 * kd + nun) := by rw [e2, hnu, f_nI]
  have hff : ∃ n : Nat, n < 65535 ∧ nI (10000 * kd + nun) = nI n := ⟨10000 * kd + nun, by omega, rfl⟩
  have hlast : ∀ (B1 S1 k1 P1 : Nat) (w1 er1 fl1 me1 m1 : Nat → Int32), FR w1 er1 fl1 m1 → FI m1 B1 S1 k1 → P1 < 4 → (∀ j, P1 ≤ j → j < 4 → em m1 B1 j = true) → (∀ j, j + 1 = P1 → em m1 B1 j = false) → me1 0 = nI B1 → me1 1 = nI P1 → (me1 2, me1 3, me1 4, me1 5) = rp m B 4 → m1 116 = nI B1 → m1 117 = nI P1 → m1 118 = nI nun → rp m1 B1 4 = rp m B 4 →
      ∃ (r : Int32) (w' fl' me' pr' m' : Nat → Int32), (r = 0 ∨ r = 1) ∧ g_X5_writeRecord_33 tm v (nI (10000 * kd + nun)) w1 er1 fl1 me1 pr = some (r, w', er1, fl', me', pr') ∧ g_X7_write_20 (nI kd) tm v m1 = some (r, m') ∧ FR w' er1 fl' m' ∧ (∀ i, 119 ≤ i → i ≠ 125 → i ≠ 126 → m' i = m1 i) ∧ (r = 0 → m' 115 = 0 ∧ pr' = upd pr 0 0 ∧ FI m' B1 S1 k1) ∧ (r = 1 → m' 115 = m1 115 ∧ pr' = pr ∧ FI m' B1 S1 k1 ∧ me' 0 = nI B1 ∧ m' 116 = nI B1 ∧ me' 1 = nI (nxp m' B1) ∧ m' 117 = nI (nxp m' B1) ∧ (me' 2, me' 3, me' 4, me' 5) = rp m' B1 4 ∧ rp m' B1 4 = lrn (rp m B 4) (nI (10000 * kd + nun)) v ∧ m' 118 = me' 2) := by
    intro B1 S1 k1 P1 w1 er1 fl1 me1 m1 hF hI1 hP1 he1 hp1 a0 a1 ar b0 b1 b2 hrp
    obtain ⟨r, w', fl', m', hr, x1, y1, F1, t1, z1, s1⟩ := fiF (kd := nI kd) (tm := tm) (v := v) (f := nI (10000 * kd + nun)) hF hI1 hP1 he1 hp1 a0 a1 b0 b1 (by rw [b2, f_nI]) hff (by rw [hrp]; exact hg)
    rcases hr with rfl | rfl
    · refine ⟨0, w', fl', upd (upd (upd (upd (upd (upd me1 0 0) 1 0) 2 0) 3 0) 4 0) 5 0, upd pr 0 0, m', Or.inl rfl, ?_, y1, F1, t1, fun _ => ⟨(z1 rfl).1, rfl, (z1 rfl).2⟩, fun h => absurd h (by decide)⟩
      simp only [g_X5_writeRecord_33, g_X5_writeRecord_38, g_X5_writeRecord_56, g_X5_losePower, g_X3_forget, x1, Option.bind_some, i10, i00, if_true, if_false]
    · obtain ⟨me', l1, l2, l3, l4⟩ := learn0 (upd me1 1 (me1 1 + 1)) (nI (10000 * kd + nun)) v
      obtain ⟨g1, g2, g3, g4, g5, g6, g7⟩ := s1 rfl
      have u0 : (upd me1 1 (me1 1 + 1)) 0 = me1 0 := by simp [upd]
      have u1 : (upd me1 1 (me1 1 + 1)) 1 = me1 1 + 1 := by simp [upd]
      have u2 : (upd me1 1 (me1 1 + 1)) 2 = me1 2 := by simp [upd]
      have u3 : (upd me1 1 (me1 1 + 1)) 3 = me1 3 := by simp [upd]
      have u4 : (upd me1 1 (me1 1 + 1)) 4 = me1 4 := by simp [upd]
      have u5 : (upd me1 1 (me1 1 + 1)) 5 = me1 5 := by simp [upd]
      rw [u2, u3, u4, u5, ar] at l4
      refine ⟨1, w', fl', me', pr, m', Or.inr rfl, ?_, y1, F1, t1, fun h => absurd h (by decide), fun _ => ⟨g1, rfl, g5, by rw [l2, u0, a0], g2, by rw [l3, u1, a1, g7, nI_1], by rw [g3, g7], by rw [l4, g6, hrp], by rw [g6, hrp], ?_⟩⟩
      · simp only [g_X5_writeRecord_33, g_X5_writeRecord_38, x1, l1, Option.bind_some, i10, i00, if_true, if_false]
      · have h1 : me' 2 = (lrn (rp m B 4) (nI (10000 * kd + nun)) v).1 := by rw [← l4]
        rw [g4, h1, lrn_1, b2, jrem_f hkd hnl]
  by_cases hP : nxp m B < 4
  · obtain ⟨r, w', fl', me', pr', m', hr, x1, y1, F1, t1, z1, s1⟩ := hlast B S k (nxp m B) w er fl me m h hI hP (fun j h1 h2 => nxp_em j h1 h2) nxp_ne c0 c1 cr d0 d1 hnu rfl
    refine ⟨r, w', er, fl', me', pr', m', hr, ?_, ?_, F1, t1, fun h => ⟨(z1 h).1, (z1 h).2.1, B, S, k, (z1 h).2.2⟩, fun h => ?_⟩
    · unfold g_X5_writeRecord
      rw [c1, if_pos (n4_lt hP), hfc]
      exact x1
    · unfold g_X7_write
      rw [d1, if_neg (n4_ne hP)]
      exact y1
    · obtain ⟨s2, s3, s4⟩ := s1 h
      exact ⟨s2, s3, B, S, k, s4⟩
  · have hP4 : nxp m B = 4 := by have := nxp_le m B; omega
    have r4 : nI 4 = (4 : Int32) := rfl
    have hgd2 : gd (m 118, m 119, m 120, m 121) := by rw [dr]; exact hgd
    obtain ⟨r0, w0, er0, fl0, me0, m0, hr0, x0, y0, F0, t0, z0, s0⟩ := bgF h hI c0 e2 e3 e4 e5 d0 rfl rfl rfl rfl hgd2
    have hc0 : g_X5_writeRecord w er fl me pr (nI kd) tm v = if r0 = 0 then g_X5_writeRecord_38 tm v (nI (10000 * kd + nun)) 0 w0 er0 fl0 me0 pr else g_X5_writeRecord_33 tm v (nI (10000 * kd + nun)) w0 er0 fl0 me0 pr := by
      unfold g_X5_writeRecord
      rw [c1, hP4, r4, if_neg (by decide), hfc, x0]
      rfl
    have hm0 : g_X7_write m (nI kd) tm v = if r0 = 0 then some (0, m0) else g_X7_write_20 (nI kd) tm v m0 := by
      unfold g_X7_write
      rw [d1, hP4, r4, if_pos rfl, y0]
      rfl
    rw [hc0, hm0]
    rcases hr0 with rfl | rfl
    · refine ⟨0, w0, er0, fl0, upd (upd (upd (upd (upd (upd me0 0 0) 1 0) 2 0) 3 0) 4 0) 5 0, upd pr 0 0, m0, Or.inl rfl, ?_, rfl, F0, fun i i1 i2 i3 => t0 i (by omega) i2 i3, fun _ => ⟨(z0 rfl).1, rfl, ?_⟩, fun h => absurd h (by decide)⟩
      · simp only [g_X5_writeRecord_38, g_X5_writeRecord_56, g_X5_losePower, g_X3_forget, Option.bind_some, i00, if_true]
      · obtain ⟨k', hk'⟩ := (z0 rfl).2
        exact ⟨B, S, k', hk'⟩
    · obtain ⟨g1, g2, g3, g4, g5, g6, g7⟩ := s0 rfl
      have ar : (me0 2, me0 3, me0 4, me0 5) = rp m B 4 := by
        rw [← cr, g4]
        simp [upd]
      obtain ⟨r, w', fl', me', pr', m', hr, x1, y1, F1, t1, z1, s1⟩ := hlast (nxb B) ((S + 1) % 10000) (min k 3 + 1) 0 w0 er0 fl0 me0 m0 F0 g5 (by decide) (fun j _ h2 => g7 j h2) (fun j h => absurd h (Nat.succ_ne_zero j)) (by rw [g4]; simp [upd]) (by rw [g4]; simp [upd, nI_0]) ar g2 (by rw [g3, nI_0]) (by rw [t0 118 (by decide) (by decide) (by decide), hnu]) (by rw [g6, dr])
      refine ⟨r, w', er0, fl', me', pr', m', hr, ?_, ?_, F1, fun i i1 i2 i3 => by rw [t1 i i1 i2 i3, t0 i (by omega) i2 i3], fun h => ⟨(z1 h).1, (z1 h).2.1, _, _, _, (z1 h).2.2⟩, fun h => ?_⟩
      · rw [if_neg (by decide)]; exact x1
      · rw [if_neg (by decide)]; exact y1
      · obtain ⟨s2, s3, s4⟩ := s1 h
        exact ⟨by rw [s2, g1], s3, _, _, _, s4⟩
end WL

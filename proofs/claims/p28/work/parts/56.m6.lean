-- a block is begun: class and reference side by side
section BG
variable {m w er fl me : Nat → Int32} {b k B S : Nat}
theorem i10 : ((1 : Int32) = 0) = False := by decide
theorem i00 : ((0 : Int32) = 0) = True := by decide
theorem o0 : ((0 : Int32) = 0 ∨ (0 : Int32) = 1) = True := by decide
theorem o1 : ((1 : Int32) = 0 ∨ (1 : Int32) = 1) = True := by decide
theorem jrem_ne (x : Int32) : jrem x 65521 ≠ 65535 := by
  intro h
  have h1 := rem_toInt x 65521
  have h2 : (jrem x 65521).toInt = x.toInt.tmod 65521 := h1
  rw [h] at h2
  have h3 := (tmod_bounds (a := x.toInt) (M := 65521) (by decide)).2
  have h4 : (65535 : Int32).toInt = 65535 := by decide
  omega
theorem wh_no (h : m (22 * b + 5) = 65535) : wh m b = false := by
  unfold wh
  have : (m (22 * b + 5) == hc (m (22 * b)) (m (22 * b + 1)) (m (22 * b + 2)) (m (22 * b + 3)) (m (22 * b + 4))) = false := by
    rw [h]
    exact beq_eq_false_iff_ne.mpr (fun e => jrem_ne _ e.symm)
  rw [this, Bool.and_false]
theorem bg_fail {m1 m2 : Nat → Int32} (h : FI m B S k) (ho : offB m1 m (nxb B)) (he : ∀ i, 5 ≤ i → i < 22 → m1 (22 * nxb B + i) = 65535) (h2 : ∀ i, i < 110 → m2 i = m1 i) : ∃ k', FI m2 B S k' :=
  ⟨min k 3, (FI_drop h ho (wh_no (he 5 (by decide) (by decide))) (fun q hq => he _ (by omega) (by omega))).congr h2⟩
/-- block b of m1 has its first j words, the rest erased; nothing else differs from m -/
def PB (m1 m : Nat → Int32) (b j : Nat) (hv : Nat → Int32) : Prop := offB m1 m b ∧ (∀ i, i < j → m1 (22 * b + i) = hv i) ∧ (∀ i, j ≤ i → i < 22 → m1 (22 * b + i) = 65535) ∧ (∀ i, 116 ≤ i → i ≠ 125 → i ≠ 126 → m1 i = m i) ∧ m1 115 = m 115
theorem PB.step {m1 m2 : Nat → Int32} {j : Nat} {hv : Nat → Int32} (h : PB m1 m b j hv) (hb : b < 5) (hj : j < 22) (h1 : m2 115 = m1 115 ∧ m2 (22 * b + j) = hv j) (h2 : ∀ i, i ≠ 22 * b + j → i ≠ 115 → i ≠ 125 → i ≠ 126 → m2 i = m1 i) : PB m2 m b (j + 1) hv := by
  obtain ⟨k1, k2, k3, k4, k5⟩ := h
  refine ⟨fun i hi ho => ?_, fun i hi => ?_, fun i hi hi2 => ?_, fun i i1 i2 i3 => ?_, by rw [h1.1, k5]⟩
  · rw [h2 i (by omega) (by omega) (by omega) (by omega)]; exact k1 i hi ho
  · by_cases he : i = j
    · rw [he]; exact h1.2
    · rw [h2 _ (by omega) (by omega) (by omega) (by omega)]; exact k2 i (by omega)
  · rw [h2 _ (by omega) (by omega) (by omega) (by omega)]; exact k3 i (by omega) hi2
  · rw [h2 i (by omega) (by omega) i2 i3]; exact k4 i i1 i2 i3
theorem PB.same {m1 m2 : Nat → Int32} {j : Nat} {hv : Nat → Int32} (h : PB m1 m b j hv) (hb : b < 5) (hj : j < 22) (h1 : m2 (22 * b + j) = m1 (22 * b + j)) (h2 : ∀ i, i ≠ 22 * b + j → i ≠ 115 → i ≠ 125 → i ≠ 126 → m2 i = m1 i) : ∀ i, i < 110 → m2 i = m1 i := by
  intro i hi
  by_cases he : i = 22 * b + j
  · rw [he]; exact h1
  · exact h2 i he (by omega) (by omega) (by omega)
theorem PB.hi {m1 m2 : Nat → Int32} {j : Nat} {hv : Nat → Int32} (h : PB m1 m b j hv) (hb : b < 5) (hj : j < 22) (h2 : ∀ i, i ≠ 22 * b + j → i ≠ 115 → i ≠ 125 → i ≠ 126 → m2 i = m1 i) : ∀ i, 116 ≤ i → i ≠ 125 → i ≠ 126 → m2 i = m i := by
  intro i i1 i2 i3
  rw [h2 i (by omega) (by omega) i2 i3]; exact h.2.2.2.1 i i1 i2 i3
theorem nI_nxb (hB : B < 5) : jrem (nI B + 1) 5 = nI (nxb B) := by
  rw [nI_1, show (5 : Int32) = nI 5 from rfl, jrem_nI (by omega) (by decide) (by decide)]
  rfl
theorem nI_seq {s : Nat} (hs : s < 10000) : jrem (nI s + 1) 10000 = nI ((s + 1) % 10000) := by
  rw [nI_1, jrem_10000 (by omega)]
theorem FI_sB (h : FI m B S k) : m (22 * B) = nI S := by
  have := h.2.2.2.2.1 B h.1 (by rw [age_self B h.1]; omega)
  rw [this, age_self B h.1]
  exact congrArg nI (by have := h.2.1; omega)
set_option maxHeartbeats 4000000 in
theorem bgF {nu su ti pa : Int32} (h : FR w er fl m) (hI : FI m B S k) (c0 : me 0 = nI B) (c2 : me 2 = nu) (c3 : me 3 = su) (c4 : me 4 = ti) (c5 : me 5 = pa) (d0 : m 116 = nI B) (d2 : m 118 = nu) (d3 : m 119 = su) (d4 : m 120 = ti) (d5 : m 121 = pa) (hg : gd (nu, su, ti, pa)) :
    ∃ (r : Int32) (w' er' fl' me' m' : Nat → Int32), (r = 0 ∨ r = 1) ∧ g_X5_beginBlock w er fl me = some (r, w', er', fl', me') ∧ g_X7_beginBlock m = some (r, m') ∧ FR w' er' fl' m' ∧ (∀ i, 118 ≤ i → i ≠ 125 → i ≠ 126 → m' i = m i) ∧ (r = 0 → m' 115 = 0 ∧ ∃ k', FI m' B S k') ∧ (r = 1 → m' 115 = m 115 ∧ m' 116 = nI (nxb B) ∧ m' 117 = 0 ∧ me' = upd (upd me 0 (nI (nxb B))) 1 0 ∧ FI m' (nxb B) ((S + 1) % 10000) (min k 3 + 1) ∧ rp m' (nxb B) 4 = (nu, su, ti, pa) ∧ ∀ q, q < 4 → em m' (nxb B) q = true) := by
  have hB := hI.1
  have hb := nxb_lt B
  have hS := hI.2.1
  have rd : g_X0_read w (nI B) 0 = some (nI S) := by rw [read_0 hB, h.1 _ (by omega), FI_sB hI]
  have rm : g_X7_at m (nI B) 0 = some (nI S) := by rw [at_0 hB, FI_sB hI]
  have hnb := nI_nxb hB
  have hsq := nI_seq hS
  have hck : g_X6_headerCheck (nI ((S + 1) % 10000)) su ti pa nu = some (hc (nI ((S + 1) % 10000)) su ti pa nu) := rfl
  have hck7 : g_X7_headCheck (nI ((S + 1) % 10000)) su ti pa nu = some (hc (nI ((S + 1) % 10000)) su ti pa nu) := rfl
  obtain ⟨r, we, ee, fe, m0, hr, a0, b0, F0, z0, s0, t0⟩ := erF h hb
  rcases hr with rfl | rfl
  · refine ⟨0, we, ee, fe, me, m0, Or.inl rfl, ?_, ?_, F0, fun i i1 i2 i3 => t0 i (by omega) i2 i3, fun _ => ⟨(z0 rfl).1, k, hI.congr (z0 rfl).2⟩, fun h => absurd h (by decide)⟩
    · simp only [g_X5_beginBlock, g_X5_beginBlock_184, g_X5_beginBlock_185, g_X5_beginBlock_208, c0, c2, c3, c4, c5, rd, hnb, hsq, hck, a0, Option.bind_some, i10, i00, o0, o1, if_true, if_false, true_or, or_true, not_true_eq_false]
    · simp only [g_X7_beginBlock, g_X7_beginBlock_113, g_X7_beginBlock_114, g_X7_beginBlock_166, g_X7_beginBlock_167, g_X7_beginBlock_190, d0, rm, hnb, hsq, b0, Option.bind_some, i10, i00, o0, o1, if_true, if_false, true_or, or_true, not_true_eq_false]
  have P0 : PB m0 m (nxb B) 0 (fun i => [nI ((S + 1) % 10000), su, ti, pa, nu, hc (nI ((S + 1) % 10000)) su ti pa nu].getD i 0) := ⟨(s0 rfl).2.2, fun i hi => absurd hi (Nat.not_lt_zero i), fun i _ hi => (s0 rfl).2.1 i hi, t0, (s0 rfl).1⟩
  obtain ⟨r, w1, f1, m1, hr, x1, y1, F1, z1, s1, t1⟩ := puF (k := 0) (v := (nI ((S + 1) % 10000))) F0 hb (by decide)
  replace x1 : g_X0_write we fe (nI (nxb B)) 0 (nI ((S + 1) % 10000)) = some (r, w1, f1) := x1
  replace y1 : g_X7_put m0 (nI (nxb B)) 0 (nI ((S + 1) % 10000)) = some (r, m1) := y1
  rcases hr with rfl | rfl
  · refine ⟨0, w1, ee, f1, me, m1, Or.inl rfl, ?_, ?_, F1, fun i i1 i2 i3 => P0.hi hb (by decide) t1 i (by omega) i2 i3, fun _ => ⟨(z1 rfl).1, bg_fail hI P0.1 (fun i i1 i2 => P0.2.2.1 i (by omega) i2) (P0.same hb (by decide) (z1 rfl).2 t1)⟩, fun h => absurd h (by decide)⟩
    · simp only [g_X5_beginBlock, g_X5_beginBlock_184, g_X5_beginBlock_185, g_X5_beginBlock_208, c0, c2, c3, c4, c5, rd, hnb, hsq, hck, a0, x1, Option.bind_some, i10, i00, o0, o1, if_true, if_false, true_or, or_true, not_true_eq_false]
    · simp only [g_X7_beginBlock, g_X7_beginBlock_113, g_X7_beginBlock_114, g_X7_beginBlock_166, g_X7_beginBlock_167, g_X7_beginBlock_190, d0, rm, hnb, hsq, hck7, b0, y1, Option.bind_some, i10, i00, o0, o1, if_true, if_false, true_or, or_true, not_true_eq_false]
  have P1 := P0.step hb (by decide) (s1 rfl) t1
  obtain ⟨r, w2, f2, m2, hr, x2, y2, F2, z2, s2, t2⟩ := puF (k := 1) (v := su) F1 hb (by decide)
  replace x2 : g_X0_write w1 f1 (nI (nxb B)) 1 su = some (r, w2, f2) := x2
  replace y2 : g_X7_put m1 (nI (nxb B)) 1 su = some (r, m2) := y2
  have v1 : m1 119 = su := by rw [P1.2.2.2.1 119 (by decide) (by decide) (by decide)]; assumption
  rcases hr with rfl | rfl
  · refine ⟨0, w2, ee, f2, me, m2, Or.inl rfl, ?_, ?_, F2, fun i i1 i2 i3 => P1.hi hb (by decide) t2 i (by omega) i2 i3, fun _ => ⟨(z2 rfl).1, bg_fail hI P1.1 (fun i i1 i2 => P1.2.2.1 i (by omega) i2) (P1.same hb (by decide) (z2 rfl).2 t2)⟩, fun h => absurd h (by decide)⟩
    · simp only [g_X5_beginBlock, g_X5_beginBlock_184, g_X5_beginBlock_185, g_X5_beginBlock_208, c0, c2, c3, c4, c5, rd, hnb, hsq, hck, a0, x1, x2, Option.bind_some, i10, i00, o0, o1, if_true, if_false, true_or, or_true, not_true_eq_false]
    · simp only [g_X7_beginBlock, g_X7_beginBlock_113, g_X7_beginBlock_114, g_X7_beginBlock_166, g_X7_beginBlock_167, g_X7_beginBlock_190, d0, rm, hnb, hsq, hck7, b0, y1, y2, v1, Option.bind_some, i10, i00, o0, o1, if_true, if_false, true_or, or_true, not_true_eq_false]
  have P2 := P1.step hb (by decide) (s2 rfl) t2
  obtain ⟨r, w3, f3, m3, hr, x3, y3, F3, z3, s3, t3⟩ := puF (k := 2) (v := ti) F2 hb (by decide)
  replace x3 : g_X0_write w2 f2 (nI (nxb B)) 2 ti = some (r, w3, f3) := x3
  replace y3 : g_X7_put m2 (nI (nxb B)) 2 ti = some (r, m3) := y3
  have v2 : m2 120 = ti := by rw [P2.2.2.2.1 120 (by decide) (by decide) (by decide)]; assumption
  rcases hr with rfl | rfl
  · refine ⟨0, w3, ee, f3, me, m3, Or.inl rfl, ?_, ?_, F3, fun i i1 i2 i3 => P2.hi hb (by decide) t3 i (by omega) i2 i3, fun _ => ⟨(z3 rfl).1, bg_fail hI P2.1 (fun i i1 i2 => P2.2.2.1 i (by omega) i2) (P2.same hb (by decide) (z3 rfl).2 t3)⟩, fun h => absurd h (by decide)⟩
    · simp only [g_X5_beginBlock, g_X5_beginBlock_184, g_X5_beginBlock_185, g_X5_beginBlock_208, c0, c2, c3, c4, c5, rd, hnb, hsq, hck, a0, x1, x2, x3, Option.bind_some, i10, i00, o0, o1, if_true, if_false, true_or, or_true, not_true_eq_false]
    · simp only [g_X7_beginBlock, g_X7_beginBlock_113, g_X7_beginBlock_114, g_X7_beginBlock_166, g_X7_beginBlock_167, g_X7_beginBlock_190, d0, rm, hnb, hsq, hck7, b0, y1, y2, y3, v1, v2, Option.bind_some, i10, i00, o0, o1, if_true, if_false, true_or, or_true, not_true_eq_false]
  have P3 := P2.step hb (by decide) (s3 rfl) t3
  obtain ⟨r, w4, f4, m4, hr, x4, y4, F4, z4, s4, t4⟩ := puF (k := 3) (v := pa) F3 hb (by decide)
  replace x4 : g_X0_write w3 f3 (nI (nxb B)) 3 pa = some (r, w4, f4) := x4
  replace y4 : g_X7_put m3 (nI (nxb B)) 3 pa = some (r, m4) := y4
  have v3 : m3 121 = pa := by rw [P3.2.2.2.1 121 (by decide) (by decide) (by decide)]; assumption
  rcases hr with rfl | rfl
  · refine ⟨0, w4, ee, f4, me, m4, Or.inl rfl, ?_, ?_, F4, fun i i1 i2 i3 => P3.hi hb (by decide) t4 i (by omega) i2 i3, fun _ => ⟨(z4 rfl).1, bg_fail hI P3.1 (fun i i1 i2 => P3.2.2.1 i (by omega) i2) (P3.same hb (by decide) (z4 rfl).2 t4)⟩, fun h => absurd h (by decide)⟩
    · simp only [g_X5_beginBlock, g_X5_beginBlock_184, g_X5_beginBlock_185, g_X5_beginBlock_208, c0, c2, c3, c4, c5, rd, hnb, hsq, hck, a0, x1, x2, x3, x4, Option.bind_some, i10, i00, o0, o1, if_true, if_false, true_or, or_true, not_true_eq_false]
    · simp only [g_X7_beginBlock, g_X7_beginBlock_113, g_X7_beginBlock_114, g_X7_beginBlock_166, g_X7_beginBlock_167, g_X7_beginBlock_190, d0, rm, hnb, hsq, hck7, b0, y1, y2, y3, y4, v1, v2, v3, Option.bind_some, i10, i00, o0, o1, if_true, if_false, true_or, or_true, not_true_eq_false]
  have P4 := P3.step hb (by decide) (s4 rfl) t4
  obtain ⟨r, w5, f5, m5, hr, x5, y5, F5, z5, s5, t5⟩ := puF (k := 4) (v := nu) F4 hb (by decide)
  replace x5 : g_X0_write w4 f4 (nI (nxb B)) 4 nu = some (r, w5, f5) := x5
  replace y5 : g_X7_put m4 (nI (nxb B)) 4 nu = some (r, m5) := y5
  have v4 : m4 118 = nu := by rw [P4.2.2.2.1 118 (by decide) (by decide) (by decide)]; assumption
  rcases hr with rfl | rfl
  · refine ⟨0, w5, ee, f5, me, m5, Or.inl rfl, ?_, ?_, F5, fun i i1 i2 i3 => P4.hi hb (by decide) t5 i (by omega) i2 i3, fun _ => ⟨(z5 rfl).1, bg_fail hI P4.1 (fun i i1 i2 => P4.2.2.1 i (by omega) i2) (P4.same hb (by decide) (z5 rfl).2 t5)⟩, fun h => absurd h (by decide)⟩
    · simp only [g_X5_beginBlock, g_X5_beginBlock_184, g_X5_beginBlock_185, g_X5_beginBlock_208, c0, c2, c3, c4, c5, rd, hnb, hsq, hck, a0, x1, x2, x3, x4, x5, Option.bind_some, i10, i00, o0, o1, if_true, if_false, true_or, or_true, not_true_eq_false]
    · simp only [g_X7_beginBlock, g_X7_beginBlock_113, g_X7_beginBlock_114, g_X7_beginBlock_166, g_X7_beginBlock_167, g_X7_beginBlock_190, d0, rm, hnb, hsq, hck7, b0, y1, y2, y3, y4, y5, v1, v2, v3, v4, Option.bind_some, i10, i00, o0, o1, if_true, if_false, true_or, or_true, not_true_eq_false]
  have P5 := P4.step hb (by decide) (s5 rfl) t5
  obtain ⟨r, w6, f6, m6, hr, x6, y6, F6, z6, s6, t6⟩ := puF (k := 5) (v := (hc (nI ((S + 1) % 10000)) su ti pa nu)) F5 hb (by decide)
  replace x6 : g_X0_write w5 f5 (nI (nxb B)) 5 (hc (nI ((S + 1) % 10000)) su ti pa nu) = some (r, w6, f6) := x6
  replace y6 : g_X7_put m5 (nI (nxb B)) 5 (hc (nI ((S + 1) % 10000)) su ti pa nu) = some (r, m6) := y6
  have u0 : m5 119 = su := by rw [P5.2.2.2.1 119 (by decide) (by decide) (by decide)]; assumption
  have u1 : m5 120 = ti := by rw [P5.2.2.2.1 120 (by decide) (by decide) (by decide)]; assumption
  have u2 : m5 121 = pa := by rw [P5.2.2.2.1 121 (by decide) (by decide) (by decide)]; assumption
  have u3 : m5 118 = nu := by rw [P5.2.2.2.1 118 (by decide) (by decide) (by decide)]; assumption
  rcases hr with rfl | rfl
  · refine ⟨0, w6, ee, f6, me, m6, Or.inl rfl, ?_, ?_, F6, fun i i1 i2 i3 => P5.hi hb (by decide) t6 i (by omega) i2 i3, fun _ => ⟨(z6 rfl).1, bg_fail hI P5.1 (fun i i1 i2 => P5.2.2.1 i (by omega) i2) (P5.same hb (by decide) (z6 rfl).2 t6)⟩, fun h => absurd h (by decide)⟩
    · simp only [g_X5_beginBlock, g_X5_beginBlock_184, g_X5_beginBlock_185, g_X5_beginBlock_208, c0, c2, c3, c4, c5, rd, hnb, hsq, hck, a0, x1, x2, x3, x4, x5, x6, Option.bind_some, i10, i00, o0, o1, if_true, if_false, true_or, or_true, not_true_eq_false]
    · simp only [g_X7_beginBlock, g_X7_beginBlock_113, g_X7_beginBlock_114, g_X7_beginBlock_166, g_X7_beginBlock_167, g_X7_beginBlock_190, d0, rm, hnb, hsq, hck7, b0, y1, y2, y3, y4, y5, y6, v1, v2, v3, v4, u0, u1, u2, u3, Option.bind_some, i10, i00, o0, o1, if_true, if_false, true_or, or_true, not_true_eq_false]
  have P6 := P5.step hb (by decide) (s6 rfl) t6
  have big : ∀ i, i ≠ 116 → i ≠ 117 → (upd (upd m6 116 (nI (nxb B))) 117 0) i = m6 i := by
    intro i h1 h2
    simp [upd, h1, h2]
  obtain ⟨q1, q2, q3, q4, q5⟩ := P6
  have hN := FI_next (m' := m6) hI q1 (q2 0 (by decide)) (q2 1 (by decide)) (q2 2 (by decide)) (q2 3 (by decide)) (q2 4 (by decide)) (q2 5 (by decide)) q3 hg
  have hlow : ∀ i, i < 110 → (upd (upd m6 116 (nI (nxb B))) 117 0) i = m6 i := fun i hi => big i (by omega) (by omega)
  refine ⟨1, w6, ee, f6, upd (upd me 0 (nI (nxb B))) 1 0, upd (upd m6 116 (nI (nxb B))) 117 0, Or.inr rfl, ?_, ?_, ⟨fun i hi => ?_, fun i hi => ?_, ?_, ?_, ?_⟩, fun i i1 i2 i3 => ?_, fun h => absurd h (by decide), fun _ => ⟨?_, ?_, ?_, rfl, hN.1.congr hlow, ?_, fun q hq => ?_⟩⟩
  · simp only [g_X5_beginBlock, g_X5_beginBlock_184, g_X5_beginBlock_185, g_X5_beginBlock_208, c0, c2, c3, c4, c5, rd, hnb, hsq, hck, a0, x1, x2, x3, x4, x5, x6, Option.bind_some, i10, i00, o0, o1, if_true, if_false, true_or, or_true, not_true_eq_false]
  · simp only [g_X7_beginBlock, g_X7_beginBlock_113, g_X7_beginBlock_114, g_X7_beginBlock_166, g_X7_beginBlock_167, g_X7_beginBlock_190, d0, rm, hnb, hsq, hck7, b0, y1, y2, y3, y4, y5, y6, v1, v2, v3, v4, u0, u1, u2, u3, Option.bind_some, i10, i00, o0, o1, if_true, if_false, true_or, or_true, not_true_eq_false]
  · rw [hlow i hi]; exact F6.1 i hi
  · rw [big _ (by omega) (by omega)]; exact F6.2.1 i hi
  · rw [big _ (by decide) (by decide)]; exact F6.2.2.1
  · rw [big _ (by decide) (by decide)]; exact F6.2.2.2.1
  · rw [big _ (by decide) (by decide)]; exact F6.2.2.2.2
  · rw [big _ (by omega) (by omega)]; exact q4 i (by omega) i2 i3
  · rw [big _ (by decide) (by decide)]; exact q5
  · simp [upd]
  · simp [upd]
  · rw [rp_eq (fun i hi => hlow _ (by omega)) 4 (Nat.le_refl 4) (fun q i hq hi => hlow _ (by omega)) 4 (Nat.le_refl 4)]; exact hN.2.1 4 (Nat.le_refl 4)
  · rw [em_eq (fun i hi => hlow _ (by omega))]; exact hN.2.2 q hq
end BG

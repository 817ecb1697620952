-- a record is written: class and reference side by side
section WR
variable {m w er fl me pr : Nat → Int32} {b k B S Pq : Nat}
/-- place Pq of block B has its first j words, the rest erased; nothing else differs from m -/
def PQ (m1 m : Nat → Int32) (B Pq j : Nat) (pv : Nat → Int32) : Prop := offP m1 m B Pq ∧ (∀ i, i < j → m1 (22 * B + (6 + 4 * Pq + i)) = pv i) ∧ (∀ i, j ≤ i → i < 4 → m1 (22 * B + (6 + 4 * Pq + i)) = 65535) ∧ (∀ i, 116 ≤ i → i ≠ 125 → i ≠ 126 → m1 i = m i) ∧ m1 115 = m 115
theorem em_words (h : em m B Pq = true) : ∀ i, i < 4 → m (22 * B + (6 + 4 * Pq + i)) = 65535 := by
  intro i hi
  unfold em at h
  simp only [Bool.and_eq_true, beq_iff_eq] at h
  rcases (show i = 0 ∨ i = 1 ∨ i = 2 ∨ i = 3 by omega) with rfl | rfl | rfl | rfl
  · exact h.1.1.1
  · exact h.1.1.2
  · exact h.1.2
  · exact h.2
theorem PQ.step {m1 m2 : Nat → Int32} {j : Nat} {pv : Nat → Int32} (h : PQ m1 m B Pq j pv) (hB : B < 5) (hP : Pq < 4) (hj : j < 4) (h1 : m2 115 = m1 115 ∧ m2 (22 * B + (6 + 4 * Pq + j)) = pv j) (h2 : ∀ i, i ≠ 22 * B + (6 + 4 * Pq + j) → i ≠ 115 → i ≠ 125 → i ≠ 126 → m2 i = m1 i) : PQ m2 m B Pq (j + 1) pv := by
  obtain ⟨k1, k2, k3, k4, k5⟩ := h
  refine ⟨fun i hi ho => ?_, fun i hi => ?_, fun i hi hi2 => ?_, fun i i1 i2 i3 => ?_, by rw [h1.1, k5]⟩
  · rw [h2 i (by omega) (by omega) (by omega) (by omega)]; exact k1 i hi ho
  · by_cases he : i = j
    · rw [he]; exact h1.2
    · rw [h2 _ (by omega) (by omega) (by omega) (by omega)]; exact k2 i (by omega)
  · rw [h2 _ (by omega) (by omega) (by omega) (by omega)]; exact k3 i (by omega) hi2
  · rw [h2 i (by omega) (by omega) i2 i3]; exact k4 i i1 i2 i3
theorem PQ.hi {m1 m2 : Nat → Int32} {j : Nat} {pv : Nat → Int32} (h : PQ m1 m B Pq j pv) (hB : B < 5) (hP : Pq < 4) (hj : j < 4) (h2 : ∀ i, i ≠ 22 * B + (6 + 4 * Pq + j) → i ≠ 115 → i ≠ 125 → i ≠ 126 → m2 i = m1 i) : ∀ i, 116 ≤ i → i ≠ 125 → i ≠ 126 → m2 i = m i := by
  intro i i1 i2 i3
  rw [h2 i (by omega) (by omega) i2 i3]; exact h.2.2.2.1 i i1 i2 i3
theorem PQ.fail {m1 m2 : Nat → Int32} {j : Nat} {pv : Nat → Int32} (h : PQ m1 m B Pq j pv) (hI : FI m B S k) (hP : Pq < 4) (he : ∀ j, Pq ≤ j → j < 4 → em m B j = true) (hf : ∃ f : Nat, f < 65535 ∧ pv 0 = nI f) (hj : j < 4) (h1 : m2 (22 * B + (6 + 4 * Pq + j)) = m1 (22 * B + (6 + 4 * Pq + j))) (h2 : ∀ i, i ≠ 22 * B + (6 + 4 * Pq + j) → i ≠ 115 → i ≠ 125 → i ≠ 126 → m2 i = m1 i) : FI m2 B S k := by
  obtain ⟨k1, k2, k3, k4, k5⟩ := h
  have hB := hI.1
  have hs : ∀ i, i < 110 → m2 i = m1 i := by
    intro i hi
    by_cases hi2 : i = 22 * B + (6 + 4 * Pq + j)
    · rw [hi2]; exact h1
    · exact h2 i hi2 (by omega) (by omega) (by omega)
  refine FI.congr ?_ hs
  by_cases hj0 : j = 0
  · subst hj0
    refine hI.congr (fun i hi => ?_)
    by_cases hin : i < 22 * B + (6 + 4 * Pq) ∨ 22 * B + (6 + 4 * Pq) + 4 ≤ i
    · exact k1 i hi hin
    · have hw := em_words (he Pq (Nat.le_refl _) hP) (i - (22 * B + (6 + 4 * Pq))) (by omega)
      have h3 := k3 (i - (22 * B + (6 + 4 * Pq))) (by omega) (by omega)
      rw [show 22 * B + (6 + 4 * Pq + (i - (22 * B + (6 + 4 * Pq)))) = i by omega] at hw h3
      rw [hw, h3]
  · obtain ⟨f, hf1, hf2⟩ := hf
    refine (FI_torn hI hP he k1 ⟨f, by omega, ?_⟩ ?_).1
    · rw [← hf2]; exact k2 0 (by omega)
    · unfold rc
      rw [k3 3 (by omega) (by omega)]
      have : ((65535 : Int32) == rk (m1 (22 * B + (6 + 4 * Pq))) (m1 (22 * B + (6 + 4 * Pq + 1))) (m1 (22 * B + (6 + 4 * Pq + 2))) (m1 (22 * B))) = false := beq_eq_false_iff_ne.mpr (fun e => jrem_ne _ e.symm)
      rw [this, Bool.and_false]
theorem nI_65535 {f : Nat} (hf : f < 65535) : nI f ≠ 65535 := by
  intro e
  have : nI f = nI 65535 := e
  rw [nI_inj (by omega) (by decide)] at this
  omega
set_option maxHeartbeats 4000000 in
theorem fiF {kd tm v f : Int32} (h : FR w er fl m) (hI : FI m B S k) (hP : Pq < 4) (he : ∀ j, Pq ≤ j → j < 4 → em m B j = true) (hp1 : ∀ j, j + 1 = Pq → em m B j = false) (c0 : me 0 = nI B) (c1 : me 1 = nI Pq) (d0 : m 116 = nI B) (d1 : m 117 = nI Pq) (hf : 10000 * kd + m 118 = f) (hff : ∃ n : Nat, n < 65535 ∧ f = nI n) (hg : gd (lrn (rp m B 4) f v)) :
    ∃ (r : Int32) (w' fl' m' : Nat → Int32), (r = 0 ∨ r = 1) ∧ g_X5_fillPlace w fl me f tm v = some (r, w', fl') ∧ g_X7_write_20 kd tm v m = some (r, m') ∧ FR w' er fl' m' ∧ (∀ i, 119 ≤ i → i ≠ 125 → i ≠ 126 → m' i = m i) ∧ (r = 0 → m' 115 = 0 ∧ FI m' B S k) ∧ (r = 1 → m' 115 = m 115 ∧ m' 116 = nI B ∧ m' 117 = nI (Pq + 1) ∧ m' 118 = jrem (m 118 + 1) 10000 ∧ FI m' B S k ∧ rp m' B 4 = lrn (rp m B 4) f v ∧ nxp m' B = Pq + 1) := by
  have hB := hI.1
  have rd : g_X0_read w (nI B) 0 = some (nI S) := by rw [read_0 hB, h.1 _ (by omega), FI_sB hI]
  have hck : g_X6_recordCheck f tm v (nI S) = some (rk f tm v (nI S)) := rfl
  have hck7 : g_X7_recordCheck f tm v (nI S) = some (rk f tm v (nI S)) := rfl
  have hwo : g_X7_wordOf (nI Pq) 0 = some (nI (6 + 4 * Pq)) := by
    unfold g_X7_wordOf
    rw [show (4 : Int32) = nI 4 from rfl, show (6 : Int32) = nI 6 from rfl, show (0 : Int32) = nI 0 from rfl, pk_mul, nI_add, nI_add]
    rfl
  have hix : (6 : Int32) + nI Pq * 4 = nI (6 + 4 * Pq) := by
    rw [show (4 : Int32) = nI 4 from rfl, show (6 : Int32) = nI 6 from rfl, pk_mul, nI_add, Nat.mul_comm]
  have hx1 : nI (6 + 4 * Pq) + 1 = nI (6 + 4 * Pq + 1) := nI_1 _
  have hx2 : nI (6 + 4 * Pq) + 2 = nI (6 + 4 * Pq + 2) := nI_add _ 2
  have hx3 : nI (6 + 4 * Pq) + 3 = nI (6 + 4 * Pq + 3) := nI_add _ 3
  have P0 : PQ m m B Pq 0 (fun i => [f, tm, v, rk f tm v (nI S)].getD i 0) := ⟨fun _ _ _ => rfl, fun i hi => absurd hi (Nat.not_lt_zero i), fun i _ hi => em_words (he Pq (Nat.le_refl _) hP) i hi, fun _ _ _ _ => rfl, rfl⟩
  have hff' : ∃ n : Nat, n < 65535 ∧ [f, tm, v, rk f tm v (nI S)].getD 0 0 = nI n := hff
  obtain ⟨r, w1, f1, m1, hr, x1, y1, F1, z1, s1, t1⟩ := puF (k := 6 + 4 * Pq + 0) (v := f) h hB (by omega)
  replace x1 : g_X0_write w fl (nI B) (nI (6 + 4 * Pq)) f = some (r, w1, f1) := x1
  replace y1 : g_X7_put m (nI B) (nI (6 + 4 * Pq)) f = some (r, m1) := y1
  rcases hr with rfl | rfl
  · refine ⟨0, w1, f1, m1, Or.inl rfl, ?_, ?_, F1, fun i i1 i2 i3 => P0.hi hB hP (by decide) t1 i (by omega) i2 i3, fun _ => ⟨(z1 rfl).1, P0.fail hI hP he hff' (by decide) (z1 rfl).2 t1⟩, fun h => absurd h (by decide)⟩
    · simp only [g_X5_fillPlace, g_X5_fillPlace_112, c0, c1, rd, hck, hix, hx1, hx2, hx3, x1, Option.bind_some, i10, i00, o0, o1, if_true, if_false, true_or, or_true, not_true_eq_false]
    · simp only [g_X7_write_20, g_X7_write_129, g_X7_write_130, g_X7_write_168, d0, d1, hf, hwo, hx1, hx2, hx3, y1, Option.bind_some, i10, i00, o0, o1, if_true, if_false, true_or, or_true, not_true_eq_false]
  have P1 := P0.step hB hP (by decide) (s1 rfl) t1
  obtain ⟨r, w2, f2, m2, hr, x2, y2, F2, z2, s2, t2⟩ := puF (k := 6 + 4 * Pq + 1) (v := tm) F1 hB (by omega)
  rcases hr with rfl | rfl
  · refine ⟨0, w2, f2, m2, Or.inl rfl, ?_, ?_, F2, fun i i1 i2 i3 => P1.hi hB hP (by decide) t2 i (by omega) i2 i3, fun _ => ⟨(z2 rfl).1, P1.fail hI hP he hff' (by decide) (z2 rfl).2 t2⟩, fun h => absurd h (by decide)⟩
    · simp only [g_X5_fillPlace, g_X5_fillPlace_112, c0, c1, rd, hck, hix, hx1, hx2, hx3, x1, x2, Option.bind_some, i10, i00, o0, o1, if_true, if_false, true_or, or_true, not_true_eq_false]
    · simp only [g_X7_write_20, g_X7_write_129, g_X7_write_130, g_X7_write_168, d0, d1, hf, hwo, hx1, hx2, hx3, y1, y2, Option.bind_some, i10, i00, o0, o1, if_true, if_false, true_or, or_true, not_true_eq_false]
  have P2 := P1.step hB hP (by decide) (s2 rfl) t2
  obtain ⟨r, w3, f3, m3, hr, x3, y3, F3, z3, s3, t3⟩ := puF (k := 6 + 4 * Pq + 2) (v := v) F2 hB (by omega)
  rcases hr with rfl | rfl
  · refine ⟨0, w3, f3, m3, Or.inl rfl, ?_, ?_, F3, fun i i1 i2 i3 => P2.hi hB hP (by decide) t3 i (by omega) i2 i3, fun _ => ⟨(z3 rfl).1, P2.fail hI hP he hff' (by decide) (z3 rfl).2 t3⟩, fun h => absurd h (by decide)⟩
    · simp only [g_X5_fillPlace, g_X5_fillPlace_112, c0, c1, rd, hck, hix, hx1, hx2, hx3, x1, x2, x3, Option.bind_some, i10, i00, o0, o1, if_true, if_false, true_or, or_true, not_true_eq_false]
    · simp only [g_X7_write_20, g_X7_write_129, g_X7_write_130, g_X7_write_168, d0, d1, hf, hwo, hx1, hx2, hx3, y1, y2, y3, Option.bind_some, i10, i00, o0, o1, if_true, if_false, true_or, or_true, not_true_eq_false]
  have P3 := P2.step hB hP (by decide) (s3 rfl) t3
  obtain ⟨r, w4, f4, m4, hr, x4, y4, F4, z4, s4, t4⟩ := puF (k := 6 + 4 * Pq + 3) (v := (rk f tm v (nI S))) F3 hB (by omega)
  have rm3 : g_X7_at m3 (nI B) 0 = some (nI S) := by rw [at_0 hB, P3.1 _ (by omega) (by omega), FI_sB hI]
  rcases hr with rfl | rfl
  · refine ⟨0, w4, f4, m4, Or.inl rfl, ?_, ?_, F4, fun i i1 i2 i3 => P3.hi hB hP (by decide) t4 i (by omega) i2 i3, fun _ => ⟨(z4 rfl).1, P3.fail hI hP he hff' (by decide) (z4 rfl).2 t4⟩, fun h => absurd h (by decide)⟩
    · simp only [g_X5_fillPlace, g_X5_fillPlace_112, c0, c1, rd, hck, hix, hx1, hx2, hx3, x1, x2, x3, x4, Option.bind_some, i10, i00, o0, o1, if_true, if_false, true_or, or_true, not_true_eq_false]
    · simp only [g_X7_write_20, g_X7_write_129, g_X7_write_130, g_X7_write_168, d0, d1, hf, hwo, hx1, hx2, hx3, y1, y2, y3, y4, rm3, hck7, Option.bind_some, i10, i00, o0, o1, if_true, if_false, true_or, or_true, not_true_eq_false]
  have P4 := P3.step hB hP (by decide) (s4 rfl) t4
  obtain ⟨q1, q2, q3, q4, q5⟩ := P4
  have a7 : m4 117 = nI Pq := by rw [q4 117 (by decide) (by decide) (by decide)]; exact d1
  have a8 : m4 118 = m 118 := q4 118 (by decide) (by decide) (by decide)
  have big : ∀ i, i ≠ 117 → i ≠ 118 → (upd (upd m4 117 (nI Pq + 1)) 118 (jrem (m 118 + 1) 10000)) i = m4 i := by
    intro i h1 h2
    simp [upd, h1, h2]
  have hlow : ∀ i, i < 110 → (upd (upd m4 117 (nI Pq + 1)) 118 (jrem (m 118 + 1) 10000)) i = m4 i := fun i hi => big i (by omega) (by omega)
  obtain ⟨n, hn, hfn⟩ := hff
  have w0 : m4 (22 * B + (6 + 4 * Pq)) = f := q2 0 (by decide)
  have w1' : m4 (22 * B + (6 + 4 * Pq + 1)) = tm := q2 1 (by decide)
  have w2' : m4 (22 * B + (6 + 4 * Pq + 2)) = v := q2 2 (by decide)
  have w3' : m4 (22 * B + (6 + 4 * Pq + 3)) = rk f tm v (nI S) := q2 3 (by decide)
  have wS : m4 (22 * B) = nI S := by rw [q1 _ (by omega) (by omega)]; exact FI_sB hI
  have hem : em m4 B Pq = false := by
    unfold em
    rw [w0, hfn]
    have : (nI n == 65535) = false := beq_eq_false_iff_ne.mpr (nI_65535 hn)
    rw [this, Bool.false_and, Bool.false_and, Bool.false_and]
  have hrc : rc m4 B Pq = true := by
    unfold rc
    rw [hem, w0, w1', w2', w3', wS]
    simp
  obtain ⟨hI4, hrp⟩ := FI_rec (f := f) (v := v) hI hP he q1 ⟨n, by omega, by rw [w0, hfn]⟩ hrc w0 w2' hg
  have hnx : nxp m4 B = Pq + 1 := by
    refine nxp_of (by omega) (fun j h1 h2 => ?_) (fun j h1 => ?_)
    · rw [offP_em q1 hB h2 (by omega)]; exact he j (by omega) h2
    · rw [show j = Pq by omega]; exact hem
  have emlow : ∀ j, j < 4 → em (upd (upd m4 117 (nI Pq + 1)) 118 (jrem (m 118 + 1) 10000)) B j = em m4 B j := fun j hj => em_eq (fun i hi => hlow _ (by omega))
  refine ⟨1, w4, f4, upd (upd m4 117 (nI Pq + 1)) 118 (jrem (m 118 + 1) 10000), Or.inr rfl, ?_, ?_, ⟨fun i hi => ?_, fun i hi => ?_, ?_, ?_, ?_⟩, fun i i1 i2 i3 => ?_, fun h => absurd h (by decide), fun _ => ⟨?_, ?_, ?_, ?_, hI4.congr hlow, ?_, ?_⟩⟩
  · simp only [g_X5_fillPlace, g_X5_fillPlace_112, c0, c1, rd, hck, hix, hx1, hx2, hx3, x1, x2, x3, x4, Option.bind_some, i10, i00, o0, o1, if_true, if_false, true_or, or_true, not_true_eq_false]
  · simp only [g_X7_write_20, g_X7_write_129, g_X7_write_130, g_X7_write_168, d0, d1, hf, hwo, hx1, hx2, hx3, y1, y2, y3, y4, rm3, hck7, a7, a8, Option.bind_some, i10, i00, o0, o1, if_true, if_false, true_or, or_true, not_true_eq_false]
  · rw [hlow i hi]; exact F4.1 i hi
  · rw [big _ (by omega) (by omega)]; exact F4.2.1 i hi
  · rw [big _ (by decide) (by decide)]; exact F4.2.2.1
  · rw [big _ (by decide) (by decide)]; exact F4.2.2.2.1
  · rw [big _ (by decide) (by decide)]; exact F4.2.2.2.2
  · rw [big _ (by omega) (by omega)]; exact q4 i (by omega) i2 i3
  · rw [big _ (by decide) (by decide)]; exact q5
  · rw [big _ (by decide) (by decide), q4 116 (by decide) (by decide) (by decide)]; exact d0
  · simp [upd, nI_1]
  · simp [upd]
  · rw [rp_eq (fun i hi => hlow _ (by omega)) 4 (Nat.le_refl 4) (fun q i hq hi => hlow _ (by omega)) 4 (Nat.le_refl 4)]; exact hrp
  · rw [← hnx]
    unfold nxp
    rw [emlow 0 (by decide), emlow 1 (by decide), emlow 2 (by decide), emlow 3 (by decide)]
end WR

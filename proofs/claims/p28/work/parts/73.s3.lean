-- words are words; records have contents; what a begun block and a written record leave
section WIS
variable {m m' x y z m1 : Row} {b k B S P q : Nat}
def word (x : Int32) : Prop := ∃ f : Nat, f < 65536 ∧ x = nI f
/-- what stands in a place whose fourth word isn't erased -/
def cnt (m : Row) (b q : Nat) : Prop := ∃ f v : Nat, f < 50000 ∧ v < 65536 ∧ m (22 * b + (6 + 4 * q)) = nI f ∧ m (22 * b + (6 + 4 * q + 2)) = nI v ∧ (f < 20000 → v < 4000)
def WI (m : Row) : Prop := (∀ i, i < 110 → word (m i)) ∧ ∀ b q, b < 5 → q < 4 → m (22 * b + (6 + 4 * q + 3)) ≠ 65535 → cnt m b q
theorem WI.congr (h : WI m) (e : ∀ i, i < 110 → m' i = m i) : WI m' := by
  refine ⟨fun i hi => by rw [e i hi]; exact h.1 i hi, fun b q hb hq h3 => ?_⟩
  rw [e _ (by omega)] at h3
  obtain ⟨f, v, a1, a2, a3, a4, a5⟩ := h.2 b q hb hq h3
  exact ⟨f, v, a1, a2, by rw [e _ (by omega)]; exact a3, by rw [e _ (by omega)]; exact a4, a5⟩
theorem word_nI {n : Nat} (h : n < 65536) : word (nI n) := ⟨n, h, rfl⟩
theorem word_E : word 65535 := ⟨65535, by decide, rfl⟩
theorem PB.wi {j : Nat} {hv : Row} (h : PB m1 m b j hv) (hj : j ≤ 6) (hw : ∀ i, i < j → word (hv i)) (hb : b < 5) (hm : WI m) : WI m1 := by
  obtain ⟨k1, k2, k3, -, -⟩ := h
  refine ⟨fun i hi => ?_, fun b2 q2 hb2 hq2 h3 => ?_⟩
  · by_cases ho : i < 22 * b ∨ 22 * b + 22 ≤ i
    · rw [k1 i hi ho]; exact hm.1 i hi
    · obtain ⟨t, rfl⟩ : ∃ t, i = 22 * b + t := ⟨i - 22 * b, by omega⟩
      by_cases ht : t < j
      · rw [k2 t ht]; exact hw t ht
      · rw [k3 t (by omega) (by omega)]; exact word_E
  · by_cases hbb : b2 = b
    · subst hbb
      exact absurd (k3 _ (by omega) (by omega)) h3
    · have e : ∀ i, i < 22 → m1 (22 * b2 + i) = m (22 * b2 + i) := fun i hi => k1 _ (by omega) (by omega)
      rw [e _ (by omega)] at h3
      obtain ⟨f, v, a1, a2, a3, a4, a5⟩ := hm.2 b2 q2 hb2 hq2 h3
      exact ⟨f, v, a1, a2, by rw [e _ (by omega)]; exact a3, by rw [e _ (by omega)]; exact a4, a5⟩
theorem PQ.wi {j : Nat} {pv : Row} (h : PQ m1 m B P j pv) (hj : j ≤ 4) (hw : ∀ i, i < j → word (pv i)) (hc : ∃ f v : Nat, f < 50000 ∧ v < 65536 ∧ pv 0 = nI f ∧ pv 2 = nI v ∧ (f < 20000 → v < 4000)) (hB : B < 5) (hP : P < 4) (hm : WI m) : WI m1 := by
  obtain ⟨k1, k2, k3, -, -⟩ := h
  refine ⟨fun i hi => ?_, fun b2 q2 hb2 hq2 h3 => ?_⟩
  · by_cases ho : i < 22 * B + (6 + 4 * P) ∨ 22 * B + (6 + 4 * P) + 4 ≤ i
    · rw [k1 i hi ho]; exact hm.1 i hi
    · obtain ⟨t, rfl⟩ : ∃ t, i = 22 * B + (6 + 4 * P + t) := ⟨i - (22 * B + (6 + 4 * P)), by omega⟩
      by_cases ht : t < j
      · rw [k2 t ht]; exact hw t ht
      · rw [k3 t (by omega) (by omega)]; exact word_E
  · by_cases hbb : b2 = B ∧ q2 = P
    · obtain ⟨rfl, rfl⟩ := hbb
      by_cases hj4 : j = 4
      · subst hj4
        obtain ⟨f, v, a1, a2, a3, a4, a5⟩ := hc
        exact ⟨f, v, a1, a2, by rw [← a3]; exact k2 0 (by decide), by rw [← a4]; exact k2 2 (by decide), a5⟩
      · exact absurd (k3 3 (by omega) (by decide)) h3
    · have e : ∀ i, i < 4 → m1 (22 * b2 + (6 + 4 * q2 + i)) = m (22 * b2 + (6 + 4 * q2 + i)) := by
        intro i hi
        refine k1 _ (by omega) ?_
        by_cases hbB : b2 = B
        · have : q2 ≠ P := fun z => hbb ⟨hbB, z⟩
          subst hbB
          omega
        · omega
      rw [e 3 (by decide)] at h3
      obtain ⟨f, v, a1, a2, a3, a4, a5⟩ := hm.2 b2 q2 hb2 hq2 h3
      exact ⟨f, v, a1, a2, (e 0 (by decide)).trans a3, (e 2 (by decide)).trans a4, a5⟩
theorem hc_word {a b c d e : Nat} (ha : a < 10000) (hb : b ≤ 60000) (hc' : c ≤ 60000) (hd : d ≤ 50000) (he : e < 10000) : word (hc (nI a) (nI b) (nI c) (nI d) (nI e)) := by
  unfold hc
  rw [show (3 : Int32) = nI 3 from rfl, show (5 : Int32) = nI 5 from rfl, show (7 : Int32) = nI 7 from rfl, show (11 : Int32) = nI 11 from rfl, show (13 : Int32) = nI 13 from rfl, show (1 : Int32) = nI 1 from rfl, show (65521 : Int32) = nI 65521 from rfl]
  simp only [pk_mul, nI_add]
  rw [jrem_nI (by omega) (by decide) (by decide)]
  exact word_nI (by have := Nat.mod_lt (3 * a + 5 * b + 7 * c + 11 * d + 13 * e + 1) (show 0 < 65521 by decide); omega)
theorem rk_word {a b c s : Nat} (ha : a < 65536) (hb : b < 65536) (hc' : c < 65536) (hs : s < 10000) : word (rk (nI a) (nI b) (nI c) (nI s)) := by
  unfold rk
  rw [show (3 : Int32) = nI 3 from rfl, show (5 : Int32) = nI 5 from rfl, show (7 : Int32) = nI 7 from rfl, show (11 : Int32) = nI 11 from rfl, show (2 : Int32) = nI 2 from rfl, show (65521 : Int32) = nI 65521 from rfl]
  simp only [pk_mul, nI_add]
  rw [jrem_nI (by omega) (by decide) (by decide)]
  exact word_nI (by have := Nat.mod_lt (3 * a + 5 * b + 7 * c + 11 * s + 2) (show 0 < 65521 by decide); omega)
theorem hvB_word (hg : gd (m 118, m 119, m 120, m 121)) : ∀ i, i < 6 → word (hvB m S i) := by
  obtain ⟨nu, su, ti, pa, e, g1, g2, g3, g4⟩ := hg
  obtain ⟨e1, e2, e3, e4⟩ := rs_1 e
  have hS : (S + 1) % 10000 < 10000 := Nat.mod_lt _ (by decide)
  intro i hi
  rcases (show i = 0 ∨ i = 1 ∨ i = 2 ∨ i = 3 ∨ i = 4 ∨ i = 5 by omega) with rfl | rfl | rfl | rfl | rfl | rfl
  · exact word_nI (n := (S + 1) % 10000) (by omega)
  · show word (m 119)
    rw [e2]; exact word_nI (by omega)
  · show word (m 120)
    rw [e3]; exact word_nI (by omega)
  · show word (m 121)
    rw [e4]; exact word_nI (by omega)
  · show word (m 118)
    rw [e1]; exact word_nI (by omega)
  · show word (hc (nI ((S + 1) % 10000)) (m 119) (m 120) (m 121) (m 118))
    rw [e1, e2, e3, e4]; exact hc_word hS g3 (by omega) g4 g1
/-- of a record's words: the first, the time, the value -/
def okV (f tm v : Int32) : Prop := word tm ∧ ∃ a c : Nat, a < 50000 ∧ c < 65536 ∧ f = nI a ∧ v = nI c ∧ (a < 20000 → c < 4000)
theorem pvW_word {f tm v : Int32} (hS : S < 10000) (h : okV f tm v) : ∀ i, i < 4 → word (pvW S f tm v i) := by
  obtain ⟨⟨t, ht, rfl⟩, a, c, h1, h2, rfl, rfl, -⟩ := h
  intro i hi
  rcases (show i = 0 ∨ i = 1 ∨ i = 2 ∨ i = 3 by omega) with rfl | rfl | rfl | rfl
  · exact word_nI (n := a) (by omega)
  · exact word_nI (n := t) ht
  · exact word_nI (n := c) h2
  · exact rk_word (by omega) ht h2 hS
theorem BGfail (h : FI m B S k) (hg : gd (m 118, m 119, m 120, m 121)) {c : Nat} (hc : c < 7) (hz : ∀ i, i < 110 → z i = ap ((opsB m B S).take c) m i) : ∃ k', FI z B S k' ∧ rp z B 4 = rp m B 4 ∧ (WI m → WI z) := by
  cases c with
  | zero =>
    have hz' : ∀ i, i < 110 → z i = m i := hz
    exact ⟨k, h.congr hz', rp_low h.1 hz', fun w => w.congr hz'⟩
  | succ c =>
    have P := PBj (m := m) (S := S) h.1 c (by omega)
    refine ⟨min k 3, (FI_drop h P.1 (wh_no (P.2.2.1 5 (by omega) (by decide))) (fun q hq => P.2.2.1 _ (by omega) (by omega))).congr hz, ?_, fun w => WI.congr (P.wi (by omega) (fun i hi => hvB_word hg i (by omega)) (nxb_lt B) w) hz⟩
    rw [rp_low h.1 hz, offB_rp P.1 h.1 (fun e => nxb_ne B h.1 e.symm) 4 (Nat.le_refl 4)]
theorem BGok (h : FI m B S k) (hg : gd (m 118, m 119, m 120, m 121)) (hz : ∀ i, i < 110 → z i = ap (opsB m B S) m i) : FI z (nxb B) ((S + 1) % 10000) (min k 3 + 1) ∧ rp z (nxb B) 4 = (m 118, m 119, m 120, m 121) ∧ (∀ q, q < 4 → em z (nxb B) q = true) ∧ (WI m → WI z) := by
  have P := PBj (m := m) (S := S) h.1 6 (by omega)
  have hz' : ∀ i, i < 110 → z i = ap ((opsB m B S).take (6 + 1)) m i := hz
  obtain ⟨q1, q2, q3, -, -⟩ := id P
  have hN := FI_next h q1 (q2 0 (by decide)) (q2 1 (by decide)) (q2 2 (by decide)) (q2 3 (by decide)) (q2 4 (by decide)) (q2 5 (by decide)) q3 hg
  refine ⟨hN.1.congr hz', ?_, fun q hq => ?_, fun w => WI.congr (P.wi (by omega) (fun i hi => hvB_word hg i (by omega)) (nxb_lt B) w) hz'⟩
  · rw [rp_low (nxb_lt B) hz']; exact hN.2.1 4 (Nat.le_refl 4)
  · rw [em_low hz' (nxb_lt B) hq]; exact hN.2.2 q hq
theorem RCfail {f tm v : Int32} (h : FI m B S k) (hP : P < 4) (he : ∀ j, P ≤ j → j < 4 → em m B j = true) (hv : okV f tm v) {c : Nat} (hc : c < 4) (hz : ∀ i, i < 110 → z i = ap ((opsW B P S f tm v).take c) m i) : FI z B S k ∧ rp z B 4 = rp m B 4 ∧ (WI m → WI z) := by
  have Pq := PQj (m := m) (S := S) (f := f) (tm := tm) (v := v) h.1 hP (he P (Nat.le_refl _) hP) c (by omega)
  have hW : WI m → WI z := fun w => WI.congr (Pq.wi (by omega) (fun i hi => pvW_word h.2.1 hv i (by omega)) (by
    obtain ⟨-, a, c, h1, h2, h3, h4, h5⟩ := hv
    exact ⟨a, c, h1, h2, h3, h4, h5⟩) h.1 hP w) hz
  cases c with
  | zero =>
    have hz' : ∀ i, i < 110 → z i = m i := hz
    exact ⟨h.congr hz', rp_low h.1 hz', hW⟩
  | succ c =>
    obtain ⟨-, a, c2, h1, h2, h3, h4, h5⟩ := hv
    have ht := FI_torn h hP he Pq.1 ⟨a, by omega, by rw [← h3]; exact Pq.2.1 0 (by omega)⟩ (by
      unfold rc
      rw [Pq.2.2.1 3 (by omega) (by omega)]
      have : ∀ x : Int32, ((65535 : Int32) == jrem x 65521) = false := fun x => beq_eq_false_iff_ne.mpr (fun e => jrem_ne _ e.symm)
      unfold rk
      rw [this, Bool.and_false])
    exact ⟨ht.1.congr hz, by rw [rp_low h.1 hz]; exact ht.2 4 (Nat.le_refl 4), hW⟩
theorem RCok {f tm v : Int32} (h : FI m B S k) (hP : P < 4) (he : ∀ j, P ≤ j → j < 4 → em m B j = true) (hv : okV f tm v) (hg : gd (lrn (rp m B 4) f v)) (hz : ∀ i, i < 110 → z i = ap (opsW B P S f tm v) m i) : FI z B S k ∧ rp z B 4 = lrn (rp m B 4) f v ∧ nxp z B = P + 1 ∧ (WI m → WI z) := by
  have Pq := PQj (m := m) (S := S) (f := f) (tm := tm) (v := v) h.1 hP (he P (Nat.le_refl _) hP) 4 (by omega)
  have hz' : ∀ i, i < 110 → z i = ap ((opsW B P S f tm v).take 4) m i := hz
  have hW : WI m → WI z := fun w => WI.congr (Pq.wi (by omega) (fun i hi => pvW_word h.2.1 hv i (by omega)) (by
    obtain ⟨-, a, c, h1, h2, h3, h4, h5⟩ := hv
    exact ⟨a, c, h1, h2, h3, h4, h5⟩) h.1 hP w) hz'
  obtain ⟨-, a, c2, h1, h2, h3, h4, h5⟩ := hv
  obtain ⟨q1, q2, q3, -, -⟩ := Pq
  have hB := h.1
  generalize ap ((opsW B P S f tm v).take 4) m = m4 at *
  have w0 : m4 (22 * B + (6 + 4 * P)) = f := q2 0 (by decide)
  have w1' : m4 (22 * B + (6 + 4 * P + 1)) = tm := q2 1 (by decide)
  have w2' : m4 (22 * B + (6 + 4 * P + 2)) = v := q2 2 (by decide)
  have w3' : m4 (22 * B + (6 + 4 * P + 3)) = rk f tm v (nI S) := q2 3 (by decide)
  have wS : m4 (22 * B) = nI S := by rw [q1 _ (by omega) (by omega)]; exact FI_sB h
  have hem : em m4 B P = false := by
    unfold em
    rw [w0, h3]
    have : (nI a == 65535) = false := beq_eq_false_iff_ne.mpr (nI_65535 (by omega))
    rw [this, Bool.false_and, Bool.false_and, Bool.false_and]
  have hrc : rc m4 B P = true := by
    unfold rc
    rw [hem, w0, w1', w2', w3', wS]
    simp
  obtain ⟨hI4, hrp⟩ := FI_rec (f := f) (v := v) h hP he q1 ⟨a, by omega, by rw [w0, h3]⟩ hrc w0 w2' hg
  have hnx : nxp m4 B = P + 1 := by
    refine nxp_of (by omega) (fun j h1 h2 => ?_) (fun j h1 => ?_)
    · rw [offP_em q1 hB h2 (by omega)]; exact he j (by omega) h2
    · rw [show j = P by omega]; exact hem
  exact ⟨hI4.congr hz', by rw [rp_low hB hz']; exact hrp, by rw [nxp_low hB hz']; exact hnx, hW⟩
end WIS

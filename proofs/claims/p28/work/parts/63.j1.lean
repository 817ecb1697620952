-- the journal: gathered by the class, laid by the reference
section JR
variable {m w d rb rp mv : Nat → Int32} {jc : Int32} {b q B S k : Nat}
abbrev RL2 : Type := List (Nat × Nat)
def okL (L : RL2) : Prop := ∀ x ∈ L, x.1 < 5 ∧ x.2 < 4
def GJ (m d : Nat → Int32) (jc : Int32) (L : RL2) : Prop := jc = nI L.length ∧ ∀ (i : Nat) (x : Nat × Nat), L[i]? = some x → d (6 * i) = jrem (m (22 * x.1 + (6 + 4 * x.2))) 10000 ∧ d (6 * i + 1) = m (22 * x.1 + (6 + 4 * x.2)) / 10000 ∧ d (6 * i + 2) = m (22 * x.1 + (6 + 4 * x.2 + 1)) ∧ d (6 * i + 3) = m (22 * x.1 + (6 + 4 * x.2 + 2)) ∧ d (6 * i + 4) = nI x.1 ∧ d (6 * i + 5) = nI x.2
theorem sd0 {n wt : Nat} {v : Int32} (hn : n < 20) (hw : wt < 6) : g_X2_setDetail d (nI n) (nI wt) v = some (upd d (6 * n + wt) v) := by
  have hx : nI n * 6 + nI wt = nI (6 * n + wt) := by rw [show (6 : Int32) = nI 6 from rfl, pk_mul, nI_add, Nat.mul_comm]
  unfold g_X2_setDetail
  rw [hx, if_neg (nI_neg (by omega)), if_neg (show ¬ (120 : Int32) ≤ nI (6 * n + wt) from nI_ge (a := 6 * n + wt) (b := 120) (by omega) (by decide)), if_neg (cond_nI (by omega) (by decide)), nI_clamp (by omega)]
theorem GJ.add {L : RL2} (hw : ∀ i, i < 110 → w i = m i) (h : GJ m d jc L) (hl : L.length < 20) (hb : b < 5) (hq : q < 4) : ∃ d', g_X2_add d jc w (nI b) (nI q) = some (d', nI (L.length + 1)) ∧ GJ m d' (nI (L.length + 1)) (L ++ [(b, q)]) := by
  obtain ⟨rfl, h2⟩ := h
  refine ⟨upd (upd (upd (upd (upd (upd d (6 * L.length + 0) (jrem (m (22 * b + (6 + 4 * q))) 10000)) (6 * L.length + 1) (m (22 * b + (6 + 4 * q)) / 10000)) (6 * L.length + 2) (m (22 * b + (6 + 4 * q + 1)))) (6 * L.length + 3) (m (22 * b + (6 + 4 * q + 2)))) (6 * L.length + 4) (nI b)) (6 * L.length + 5) (nI q), ?_, ?_⟩
  · unfold g_X2_add
    rw [rw_0 hb hq, rw_1 hb hq, rw_2 hb hq, hw _ (by omega), hw _ (by omega), hw _ (by omega)]
    simp only [Option.bind_some]
    rw [show (0 : Int32) = nI 0 from rfl, sd0 hl (by decide), Option.bind_some, show (1 : Int32) = nI 1 from rfl, sd0 hl (by decide), Option.bind_some, show (2 : Int32) = nI 2 from rfl, sd0 hl (by decide), Option.bind_some, show (3 : Int32) = nI 3 from rfl, sd0 hl (by decide), Option.bind_some, show (4 : Int32) = nI 4 from rfl, sd0 hl (by decide), Option.bind_some, show (5 : Int32) = nI 5 from rfl, sd0 hl (by decide), Option.bind_some, nI_add]
  · refine ⟨by rw [List.length_append]; rfl, fun i x hx => ?_⟩
    by_cases hi : i < L.length
    · rw [List.getElem?_append_left hi] at hx
      obtain ⟨e0, e1, e2, e3, e4, e5⟩ := h2 i x hx
      have z : ∀ j, j < 6 → (upd (upd (upd (upd (upd (upd d (6 * L.length + 0) (jrem (m (22 * b + (6 + 4 * q))) 10000)) (6 * L.length + 1) (m (22 * b + (6 + 4 * q)) / 10000)) (6 * L.length + 2) (m (22 * b + (6 + 4 * q + 1)))) (6 * L.length + 3) (m (22 * b + (6 + 4 * q + 2)))) (6 * L.length + 4) (nI b)) (6 * L.length + 5) (nI q)) (6 * i + j) = d (6 * i + j) := by
        intro j hj
        simp [upd, show ¬ 6 * i + j = 6 * L.length by omega, show ¬ 6 * i + j = 6 * L.length + 1 by omega, show ¬ 6 * i + j = 6 * L.length + 2 by omega, show ¬ 6 * i + j = 6 * L.length + 3 by omega, show ¬ 6 * i + j = 6 * L.length + 4 by omega, show ¬ 6 * i + j = 6 * L.length + 5 by omega]
      exact ⟨(z 0 (by decide)).trans e0, (z 1 (by decide)).trans e1, (z 2 (by decide)).trans e2, (z 3 (by decide)).trans e3, (z 4 (by decide)).trans e4, (z 5 (by decide)).trans e5⟩
    · rw [List.getElem?_append_right (by omega)] at hx
      have hi2 : i = L.length := by
        have h3 := (List.getElem?_eq_some_iff.mp hx).1
        simp at h3
        omega
      subst hi2
      simp at hx
      subst hx
      simp [upd]
/-- the records of block b, if it is whole -/
def bl (m : Nat → Int32) (b : Nat) : RL2 := if wh m b = true then ((if rc m b 0 = true then [(b, 0)] else []) ++ (if rc m b 1 = true then [(b, 1)] else [])) ++ ((if rc m b 2 = true then [(b, 2)] else []) ++ (if rc m b 3 = true then [(b, 3)] else [])) else []
def rl (m : Nat → Int32) (B : Nat) : RL2 := (((bl m ((B + 1) % 5) ++ bl m ((B + 2) % 5)) ++ bl m ((B + 3) % 5)) ++ bl m ((B + 4) % 5)) ++ bl m ((B + 5) % 5)
theorem bl_len : (bl m b).length ≤ 4 := by
  unfold bl
  cases wh m b <;> cases rc m b 0 <;> cases rc m b 1 <;> cases rc m b 2 <;> cases rc m b 3 <;> simp
theorem bl_ok (hb : b < 5) : okL (bl m b) := by
  unfold bl okL
  cases wh m b <;> cases rc m b 0 <;> cases rc m b 1 <;> cases rc m b 2 <;> cases rc m b 3 <;> simp [hb]
theorem rl_len : (rl m B).length ≤ 20 := by
  unfold rl
  simp only [List.length_append]
  have h1 := bl_len (m := m) (b := (B + 1) % 5)
  have h2 := bl_len (m := m) (b := (B + 2) % 5)
  have h3 := bl_len (m := m) (b := (B + 3) % 5)
  have h4 := bl_len (m := m) (b := (B + 4) % 5)
  have h5 := bl_len (m := m) (b := (B + 5) % 5)
  omega
theorem rl_ok : okL (rl m B) := by
  intro x hx
  unfold rl at hx
  simp only [List.mem_append] at hx
  rcases hx with (((h | h) | h) | h) | h
  · exact bl_ok (Nat.mod_lt _ (by decide)) x h
  · exact bl_ok (Nat.mod_lt _ (by decide)) x h
  · exact bl_ok (Nat.mod_lt _ (by decide)) x h
  · exact bl_ok (Nat.mod_lt _ (by decide)) x h
  · exact bl_ok (Nat.mod_lt _ (by decide)) x h
theorem ga_q {n : Nat} {k12 : Int32 → Int32 → (Nat → Int32) → Int32 → Option ((Nat → Int32) × Int32)} {x2 x3 : Int32} {L : RL2} (hw : ∀ i, i < 110 → w i = m i) (h : GJ m d jc L) (hl : L.length < 20) (hb : b < 5) (hq : q < 4) : ∃ d', g_X2_gather_35 w k12 (n + 1) x2 x3 (nI b) 1 (nI q) d jc = g_X2_gather_35 w k12 n x2 x3 (nI b) 1 (nI (q + 1)) d' (nI (L ++ (if rc m b q = true then [(b, q)] else [])).length) ∧ GJ m d' (nI (L ++ (if rc m b q = true then [(b, q)] else [])).length) (L ++ (if rc m b q = true then [(b, q)] else [])) := by
  simp only [g_X2_gather_35, g_X2_gather_67]
  rw [if_neg i1ne, if_neg (n4_le hq), st0 hb hq, sto_low hw hb hq, Option.bind_some]
  cases hr : rc m b q
  · rw [if_neg (by rw [sto_rc, hr]; decide)]
    refine ⟨d, ?_, ?_⟩
    · rw [h.1, nI_s]; simp
    · have := h; rw [h.1] at this; simpa using this
  · obtain ⟨d', e1, e2⟩ := h.add hw hl hb hq
    rw [if_pos (by rw [sto_rc, hr]), e1]
    refine ⟨d', ?_, ?_⟩
    · rw [nI_s]; simp
    · simpa using e2
theorem ga_b {k12 : Int32 → Int32 → (Nat → Int32) → Int32 → Option ((Nat → Int32) × Int32)} {x2 x3 : Int32} {L : RL2} (hw : ∀ i, i < 110 → w i = m i) (h : GJ m d jc L) (hl : L.length ≤ 16) (hb : b < 5) : ∃ d', g_X2_gather_35 w k12 12 x2 x3 (nI b) (b2i (wh m b)) 0 d jc = k12 x2 (x3 + 1) d' (nI (L ++ bl m b).length) ∧ GJ m d' (nI (L ++ bl m b).length) (L ++ bl m b) := by
  unfold bl
  cases hwh : wh m b
  · refine ⟨d, ?_, ?_⟩
    · show g_X2_gather_35 w k12 (11 + 1) x2 x3 (nI b) 0 0 d jc = _
      simp only [g_X2_gather_35, g_X2_gather_73, if_true]
      rw [h.1]; simp
    · have := h; rw [h.1] at this; simpa using this
  · obtain ⟨d1, a1, c1⟩ := ga_q (n := 11) (k12 := k12) (x2 := x2) (x3 := x3) (q := 0) hw h (by omega) hb (by decide)
    have l1 : (if rc m b 0 = true then [(b, 0)] else []).length ≤ 1 := by cases rc m b 0 <;> simp
    obtain ⟨d2, a2, c2⟩ := ga_q (n := 10) (k12 := k12) (x2 := x2) (x3 := x3) (q := 1) hw c1 (by rw [List.length_append]; omega) hb (by decide)
    have l2 : (if rc m b 1 = true then [(b, 1)] else []).length ≤ 1 := by cases rc m b 1 <;> simp
    obtain ⟨d3, a3, c3⟩ := ga_q (n := 9) (k12 := k12) (x2 := x2) (x3 := x3) (q := 2) hw c2 (by rw [List.length_append, List.length_append]; omega) hb (by decide)
    have l3 : (if rc m b 2 = true then [(b, 2)] else []).length ≤ 1 := by cases rc m b 2 <;> simp
    obtain ⟨d4, a4, c4⟩ := ga_q (n := 8) (k12 := k12) (x2 := x2) (x3 := x3) (q := 3) hw c3 (by rw [List.length_append, List.length_append, List.length_append]; omega) hb (by decide)
    refine ⟨d4, ?_, ?_⟩
    · show g_X2_gather_35 w k12 (11 + 1) x2 x3 (nI b) 1 (nI 0) d jc = _
      rw [a1, a2, a3, a4]
      show g_X2_gather_35 w k12 (7 + 1) x2 x3 (nI b) 1 4 d4 _ = _
      simp only [g_X2_gather_35, g_X2_gather_73]
      rw [if_neg i1ne, if_pos (by decide)]
      simp only [if_true, List.append_assoc]
    · simpa only [if_true, List.append_assoc] using c4
theorem ga_i {n i : Nat} {L : RL2} (hw : ∀ i, i < 110 → w i = m i) (h : GJ m d jc L) (hl : L.length ≤ 16) (hB : B < 5) (hi : i ≤ 5) : ∃ d', g_X2_gather_12 w (n + 1) (nI B) (nI i) d jc = g_X2_gather_12 w n (nI B) (nI (i + 1)) d' (nI (L ++ bl m ((B + i) % 5)).length) ∧ GJ m d' (nI (L ++ bl m ((B + i) % 5)).length) (L ++ bl m ((B + i) % 5)) := by
  have hm5 : jrem (nI B + nI i) 5 = nI ((B + i) % 5) := by rw [nI_add, show (5 : Int32) = nI 5 from rfl, jrem_nI (by omega) (by decide) (by decide)]
  have hb : (B + i) % 5 < 5 := Nat.mod_lt _ (by decide)
  simp only [g_X2_gather_12]
  rw [if_neg (show ¬ (5 : Int32) < nI i from nI_nlt (a := 5) (b := i) hi (by decide)), hm5, wh0 hb, wh_low hw hb, Option.bind_some]
  obtain ⟨d', e1, e2⟩ := ga_b (k12 := g_X2_gather_12 w n) (x2 := nI B) (x3 := nI i) hw h hl hb
  exact ⟨d', by rw [e1, nI_s], e2⟩
theorem gaF (hw : ∀ i, i < 110 → w i = m i) (hI : FI m B S k) (d : Nat → Int32) (jc : Int32) : ∃ d', g_X2_gather d jc w = some (d', nI (rl m B).length) ∧ GJ m d' (nI (rl m B).length) (rl m B) := by
  have hB := hI.1
  have n0 : g_X0_newestBlock w = some (nI B) := by rw [nb0, nw_of (hI.congr hw)]
  have h0 : GJ m d 0 [] := ⟨rfl, fun i x h => by simp at h⟩
  have b1 := bl_len (m := m) (b := (B + 1) % 5)
  have b2 := bl_len (m := m) (b := (B + 2) % 5)
  have b3 := bl_len (m := m) (b := (B + 3) % 5)
  have b4 := bl_len (m := m) (b := (B + 4) % 5)
  obtain ⟨d1, a1, c1⟩ := ga_i (n := 11) (i := 1) hw h0 (by simp) hB (by decide)
  obtain ⟨d2, a2, c2⟩ := ga_i (n := 10) (i := 2) hw c1 (by simp only [List.length_append, List.length_nil]; omega) hB (by decide)
  obtain ⟨d3, a3, c3⟩ := ga_i (n := 9) (i := 3) hw c2 (by simp only [List.length_append, List.length_nil]; omega) hB (by decide)
  obtain ⟨d4, a4, c4⟩ := ga_i (n := 8) (i := 4) hw c3 (by simp only [List.length_append, List.length_nil]; omega) hB (by decide)
  obtain ⟨d5, a5, c5⟩ := ga_i (n := 7) (i := 5) hw c4 (by simp only [List.length_append, List.length_nil]; omega) hB (by decide)
  refine ⟨d5, ?_, ?_⟩
  · unfold g_X2_gather
    rw [n0, Option.bind_some]
    show g_X2_gather_12 w (11 + 1) (nI B) (nI 1) d 0 = _
    rw [a1, a2, a3, a4, a5]
    show g_X2_gather_12 w (6 + 1) (nI B) 6 d5 _ = _
    simp only [g_X2_gather_12]
    rw [if_pos (by decide)]
    rfl
  · exact c5
end JR

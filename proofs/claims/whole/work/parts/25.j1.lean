-- the journal: gathered by the class, laid by the reference
section JR
variable {m w d rb rp mv : Nat → Int32} {jc : Int32} {b q B S k : Nat}
abbrev RL2 : Type := List (Nat × Nat)
def okL (L : RL2) : Prop := ∀ x ∈ L, x.1 < 5 ∧ x.2 < 4
def GJ (m d : Nat → Int32) (jc : Int32) (L : RL2) : Prop := jc = nI L.length ∧ ∀ (i : Nat) (x : Nat × Nat), L[i]? = some x → d (6 * i) = jrem (m (22 * x.1 + (6 + 4 * x.2))) 10000 ∧ d (6 * i + 1) = m (22 * x.1 + (6 + 4 * x.2)) / 10000 ∧ d (6 * i + 2) = m (22 * x.1 + (6 + 4 * x.2 + 1)) ∧ d (6 * i + 3) = m (22 * x.1 + (6 + 4 * x.2 + 2)) ∧ d (6 * i + 4) = nI x.1 ∧ d (6 * i + 5) = nI x.2
def LR (rb rp mv : Nat → Int32) (L : RL2) : Prop := mv 1 = nI L.length ∧ ∀ (i : Nat) (x : Nat × Nat), L[i]? = some x → rb i = nI x.1 ∧ rp i = nI x.2
theorem sd0 {n wt : Nat} {v : Int32} (hn : n < 20) (hw : wt < 6) : g_X2_setDetail d (nI n) (nI wt) v = some (upd d (6 * n + wt) v) := by
  have hx : nI n * 6 + nI wt = nI (6 * n + wt) := by rw [show (6 : Int32) = nI 6 from rfl, pk_mul, nI_add, Nat.mul_comm]
  unfold g_X2_setDetail
  rw [hx, if_neg (nI_neg (by omega)), if_neg (show ¬ (120 : Int32) ≤ nI (6 * n + wt) from nI_ge (a := 6 * n + wt) (b := 120) (by omega) (by decide)), if_neg (cond_nI (by omega) (by decide)), nI_clamp (by omega)]
theorem GJ.add {L : RL2} (hw : ∀ i, i < 110 → w i = m i) (h : GJ m d jc L) (hl : L.length < 20) (hb : b < 5) (hq : q < 4) : ∃ d', g_X2_add d jc w (nI b) (nI q) = some (d', nI (L.length + 1)) ∧ GJ m d' (nI (L.length + 1)) (L ++ [(b, q)]) := by
  obtain ⟨rfl, h2⟩ := h
  refine ⟨upd (upd (upd (upd (upd (upd d (6 * L.length + 0) (jrem (m (22 * b + (6 + 4 * q))) 10000)) (6 * L.length + 1) (m (22 * b + (6 + 4 * q)) / 10000)) (6 * L.length + 2) (m (22 * b + (6 + 4 * q + 1)))) (6 * L.length + 3) (m (22 * b + (6 + 4 * q + 2)))) (6 * L.length + 4) (nI b)) (6 * L.length + 5) (nI q), ?_, ?_⟩
  · unfold g_X2_add
    rw [rw_0 hb hq, rw_1 hb hq, rw_2 hb hq, hw _ (by omega), hw _ (by omega), hw _ (by omega)]
    simp only [Option.bind_some]
    rw [show (0 : Int32) = nI 0 from rfl, sd0 hl (by decide), Option.bind_some, show (1 : Int32) = nI 1 from rfl, sd0 hl (by decide), Option.bind_some, show (2 : Int32) = nI 2 from rfl, sd0 hl (by decide), Option.bind_some, show (3 : Int32) = nI 3 from rfl, sd0 hl (by decide), Option.bind_some, show (4 : Int32) = nI 4 from rfl, sd0 hl (by decide), Option.bind_some, show (5 : Int32) = nI 5 from rfl, sd0 hl (by decide), Option.bind_some, nI_add]
  · refine ⟨by rw [List.length_append]; rfl, fun i x hx => ?_⟩
    by_cases hi : i < L.length
    · rw [List.getElem?_append_left hi] at hx
      obtain ⟨e0, e1, e2, e3, e4, e5⟩ := h2 i x hx
      have z : ∀ j, j < 6 → (upd (upd (upd (upd (upd (upd d (6 * L.length + 0) (jrem (m (22 * b + (6 + 4 * q))) 10000)) (6 * L.length + 1) (m (22 * b + (6 + 4 * q)) / 10000)) (6 * L.length + 2) (m (22 * b + (6 + 4 * q + 1)))) (6 * L.length + 3) (m (22 * b + (6 + 4 * q + 2)))) (6 * L.length + 4) (nI b)) (6 * L.length + 5) (nI q)) (6 * i + j) = d (6 * i + j) := by
        intro j hj
        simp [upd, show ¬ 6 * i + j = 6 * L.length by omega, show ¬ 6 * i + j = 6 * L.length + 1 by omega, show ¬ 6 * i + j = 6 * L.length + 2 by omega, show ¬ 6 * i + j = 6 * L.length + 3 by omega, show ¬ 6 * i + j = 6 * L.length + 4 by omega, show ¬ 6 * i + j = 6 * L.length + 5 by omega]
      exact ⟨(z 0 (by decide)).trans e0, (z 1 (by decide)).trans e1, (z 2 (by decide)).trans e2, (z 3 (by decide)).trans e3, (z 4 (by decide)).trans e4, (z 5 (by decide)).trans e5⟩
    · rw [List.getElem?_append_right (by omega)] at hx
      have hi2 : i = L.length := by
        have h3 := (List.getElem?_eq_some_iff.mp hx).1
        simp at h3
        omega
      subst hi2
      simp at hx
      subst hx
      simp [upd]
/-- the records of block b, if it is whole -/
def bl (m : Nat → Int32) (b : Nat) : RL2 := if wh m b = true then ((if rc m b 0 = true then [(b, 0)] else []) ++ (if rc m b 1 = true then [(b, 1)] else [])) ++ ((if rc m b 2 = true then [(b, 2)] else []) ++ (if rc m b 3 = true then [(b, 3)] else [])) else []
def rl (m : Nat → Int32) (B : Nat) : RL2 := (((bl m ((B + 1) % 5) ++ bl m ((B + 2) % 5)) ++ bl m ((B + 3) % 5)) ++ bl m ((B + 4) % 5)) ++ bl m ((B + 5) % 5)
theorem bl_len : (bl m b).length ≤ 4 := by
  unfold bl
  cases wh m b <;> cases rc m b 0 <;> cases rc m b 1 <;> cases rc m b 2 <;> cases rc m b 3 <;> simp
theorem bl_ok (hb : b < 5) : okL (bl m b) := by
  unfold bl okL
  cases wh m b <;> cases rc m b 0 <;> cases rc m b 1 <;> cases rc m b 2 <;> cases rc m b 3 <;> simp [hb]
theorem rl_len : (rl m B).length ≤ 20 := by
  unfold rl
  simp only [List.length_append]
  have h1 := bl_len (m := m) (b := (B + 1) % 5)
  have h2 := bl_len (m := m) (b := (B + 2) % 5)
  have h3 := bl_len (m := m) (b := (B + 3) % 5)
  have h4 := bl_len (m := m) (b := (B + 4) % 5)
  have h5 := bl_len (m := m) (b := (B + 5) % 5)
  omega
theorem rl_ok : okL (rl m B) := by
  intro x hx
  unfold rl at hx
  simp only [List.mem_append] at hx
  rcases hx with (((h | h) | h) | h) | h
  · exact bl_ok (Nat.mod_lt _ (by decide)) x h
  · exact bl_ok (Nat.mod_lt _ (by decide)) x h
  · exact bl_ok (Nat.mod_lt _ (by decide)) x h
  · exact bl_ok (Nat.mod_lt _ (by decide)) x h
  · exact bl_ok (Nat.mod_lt _ (by decide)) x h
theorem ga_q {n : Nat} {k12 : Int32 → Int32 → (Nat → Int32) → Int32 → Option ((Nat → Int32) × Int32)} {x2 x3 : Int32} {L : RL2} (hw : ∀ i, i < 110 → w i = m i) (h : GJ m d jc L) (hl : L.length < 20) (hb : b < 5) (hq : q < 4) : ∃ d', g_X2_gather_35 w k12 (n + 1) x2 x3 (nI b) 1 (nI q) d jc = g_X2_gather_35 w k12 n x2 x3 (nI b) 1 (nI (q + 1)) d' (nI (L ++ (if rc m b q = true then [(b, q)] else [])).length) ∧ GJ m d' (nI (L ++ (if rc m b q = true then [(b, q)] else [])).length) (L ++ (if rc m b q = true then [(b, q)] else [])) := by
  simp only [g_X2_gather_35, g_X2_gather_67]
  rw [if_neg i1ne, if_neg (n4_le hq), st0 hb hq, sto_low hw hb hq, Option.bind_some]
  cases hr : rc m b q
  · rw [if_neg (by rw [sto_rc, hr]; decide)]
    refine ⟨d, ?_, ?_⟩
    · rw [h.1, nI_s]; simp
    · have := h; rw [h.1] at this; simpa using this
  · obtain ⟨d', e1, e2⟩ := h.add hw hl hb hq
    rw [if_pos (by rw [sto_rc, hr]), e1]
    refine ⟨d', ?_, ?_⟩
    · rw [nI_s]; simp
    · simpa using e2
theorem ga_b {k12 : Int32 → Int32 → (Nat → Int32) → Int32 → Option ((Nat → Int32) × Int32)} {x2 x3 : Int32} {L : RL2} (hw : ∀ i, i < 110 → w i = m i) (h : GJ m d jc L) (hl : L.length ≤ 16) (hb : b < 5) : ∃ d', g_X2_gather_35 w k12 12 x2 x3 (nI b) (b2i (wh m b)) 0 d jc = k12 x2 (x3 + 1) d' (nI (L ++ bl m b).length) ∧ GJ m d' (nI (L ++ bl m b).length) (L ++ bl m b) := by
  unfold bl
  cases hwh : wh m b
  · refine ⟨d, ?_, ?_⟩
    · show g_X2_gather_35 w k12 (11 + 1) x2 x3 (nI b) 0 0 d jc = _
      simp only [g_X2_gather_35, g_X2_gather_73, if_true]
      rw [h.1]; simp
    · have := h; rw [h.1] at this; simpa using this
  · obtain ⟨d1, a1, c1⟩ := ga_q (n := 11) (k12 := k12) (x2 := x2) (x3 := x3) (q := 0) hw h (by omega) hb (by decide)
    have l1 : (if rc m b 0 = true then [(b, 0)] else []).length ≤ 1 := by cases rc m b 0 <;> simp
    obtain ⟨d2, a2, c2⟩ := ga_q (n := 10) (k12 := k12) (x2 := x2) (x3 := x3) (q := 1) hw c1 (by rw [List.length_append]; omega) hb (by decide)
    have l2 : (if rc m b 1 = true then [(b, 1)] else []).length ≤ 1 := by cases rc m b 1 <;> simp
    obtain ⟨d3, a3, c3⟩ := ga_q (n := 9) (k12 := k12) (x2 := x2) (x3 := x3) (q := 2) hw c2 (by rw [List.length_append, List.length_append]; omega) hb (by decide)
    have l3 : (if rc m b 2 = true then [(b, 2)] else []).length ≤ 1 := by cases rc m b 2 <;> simp
    obtain ⟨d4, a4, c4⟩ := ga_q (n := 8) (k12 := k12) (x2 := x2) (x3 := x3) (q := 3) hw c3 (by rw [List.length_append, List.length_append, List.length_append]; omega) hb (by decide)
    refine ⟨d4, ?_, ?_⟩
    · show g_X2_gather_35 w k12 (11 + 1) x2 x3 (nI b) 1 (nI 0) d jc = _
      rw [a1, a2, a3, a4]
      show g_X2_gather_35 w k12 (7 + 1) x2 x3 (nI b) 1 4 d4 _ = _
      simp only [g_X2_gather_35, g_X2_gather_73]
      rw [if_neg i1ne, if_pos (by decide)]
      simp only [if_true, List.append_assoc]
    · simpa only [if_true, List.append_assoc] using c4
theorem ga_i {n i : Nat} {L : RL2} (hw : ∀ i, i < 110 → w i = m i) (h : GJ m d jc L) (hl : L.length ≤ 16) (hB : B < 5) (hi : i ≤ 5) : ∃ d', g_X2_gather_12 w (n + 1) (nI B) (nI i) d jc = g_X2_gather_12 w n (nI B) (nI (i + 1)) d' (nI (L ++ bl m ((B + i) % 5)).length) ∧ GJ m d' (nI (L ++ bl m ((B + i) % 5)).length) (L ++ bl m ((B + i) % 5)) := by
  have hm5 : jrem (nI B + nI i) 5 = nI ((B + i) % 5) := by rw [nI_add, show (5 : Int32) = nI 5 from rfl, jrem_nI (by omega) (by decide) (by decide)]
  have hb : (B + i) % 5 < 5 := Nat.mod_lt _ (by decide)
  simp only [g_X2_gather_12]
  rw [if_neg (show ¬ (5 : Int32) < nI i from nI_nlt (a := 5) (b := i) hi (by decide)), hm5, wh0 hb, wh_low hw hb, Option.bind_some]
  obtain ⟨d', e1, e2⟩ := ga_b (k12 := g_X2_gather_12 w n) (x2 := nI B) (x3 := nI i) hw h hl hb
  exact ⟨d', by rw [e1, nI_s], e2⟩
theorem gaF (hw : ∀ i, i < 110 → w i = m i) (hI : FI m B S k) (d : Nat → Int32) (jc : Int32) : ∃ d', g_X2_gather d jc w = some (d', nI (rl m B).length) ∧ GJ m d' (nI (rl m B).length) (rl m B) := by
  have hB := hI.1
  have n0 : g_X0_newestBlock w = some (nI B) := by rw [nb0, nw_of (hI.congr hw)]
  have h0 : GJ m d 0 [] := ⟨rfl, fun i x h => by simp at h⟩
  have b1 := bl_len (m := m) (b := (B + 1) % 5)
  have b2 := bl_len (m := m) (b := (B + 2) % 5)
  have b3 := bl_len (m := m) (b := (B + 3) % 5)
  have b4 := bl_len (m := m) (b := (B + 4) % 5)
  obtain ⟨d1, a1, c1⟩ := ga_i (n := 11) (i := 1) hw h0 (by simp) hB (by decide)
  obtain ⟨d2, a2, c2⟩ := ga_i (n := 10) (i := 2) hw c1 (by simp only [List.length_append, List.length_nil]; omega) hB (by decide)
  obtain ⟨d3, a3, c3⟩ := ga_i (n := 9) (i := 3) hw c2 (by simp only [List.length_append, List.length_nil]; omega) hB (by decide)
  obtain ⟨d4, a4, c4⟩ := ga_i (n := 8) (i := 4) hw c3 (by simp only [List.length_append, List.length_nil]; omega) hB (by decide)
  obtain ⟨d5, a5, c5⟩ := ga_i (n := 7) (i := 5) hw c4 (by simp only [List.length_append, List.length_nil]; omega) hB (by decide)
  refine ⟨d5, ?_, ?_⟩
  · unfold g_X2_gather
    rw [n0, Option.bind_some]
    show g_X2_gather_12 w (11 + 1) (nI B) (nI 1) d 0 = _
    rw [a1, a2, a3, a4, a5]
    show g_X2_gather_12 w (6 + 1) (nI B) 6 d5 _ = _
    simp only [g_X2_gather_12]
    rw [if_pos (by decide)]
    rfl
  · exact c5
theorem lb_q {n : Nat} {L : RL2} (h : LR rb rp mv L) (hl : L.length < 20) (hb : b < 5) (hq : q < 4) : ∃ rb' rp' mv', g_X7_layBlock_2 m (n + 1) (nI b) (nI q) rb rp mv = g_X7_layBlock_2 m n (nI b) (nI (q + 1)) rb' rp' mv' ∧ LR rb' rp' mv' (L ++ (if rc m b q = true then [(b, q)] else [])) ∧ mv' 0 = mv 0 := by
  simp only [g_X7_layBlock_2, g_X7_layBlock_46]
  rw [if_neg (n4_le hq), rc7 hb hq, Option.bind_some]
  cases hr : rc m b q
  · rw [bF rfl, if_pos rfl, nI_s]
    exact ⟨rb, rp, mv, rfl, by simpa using h, rfl⟩
  · rw [bT rfl, if_neg i1ne, h.1, if_neg (cond_nI hl (by decide)), if_neg (cond_nI hl (by decide)), nI_clamp (by omega), nI_s]
    refine ⟨_, _, _, rfl, ⟨?_, fun i x hx => ?_⟩, by simp [upd]⟩
    · simp [upd, nI_s]
    · simp only [if_true] at hx
      by_cases hi : i < L.length
      · rw [List.getElem?_append_left hi] at hx
        obtain ⟨e1, e2⟩ := h.2 i x hx
        simp [upd, show ¬ i = L.length by omega, e1, e2]
      · rw [List.getElem?_append_right (by omega)] at hx
        have hi2 : i = L.length := by
          have h3 := (List.getElem?_eq_some_iff.mp hx).1
          simp at h3
          omega
        subst hi2
        simp at hx
        subst hx
        simp [upd]
theorem lb_b {L : RL2} (h : LR rb rp mv L) (hl : L.length ≤ 16) (hb : b < 5) (hwh : wh m b = true) : ∃ rb' rp' mv', g_X7_layBlock m rb rp mv (nI b) = some (rb', rp', mv') ∧ LR rb' rp' mv' (L ++ bl m b) ∧ mv' 0 = mv 0 := by
  obtain ⟨rb1, rp1, mv1, a1, c1, e1⟩ := lb_q (m := m) (n := 7) (q := 0) h (by omega) hb (by decide)
  have l1 : (if rc m b 0 = true then [(b, 0)] else []).length ≤ 1 := by cases rc m b 0 <;> simp
  obtain ⟨rb2, rp2, mv2, a2, c2, e2⟩ := lb_q (m := m) (n := 6) (q := 1) c1 (by rw [List.length_append]; omega) hb (by decide)
  have l2 : (if rc m b 1 = true then [(b, 1)] else []).length ≤ 1 := by cases rc m b 1 <;> simp
  obtain ⟨rb3, rp3, mv3, a3, c3, e3⟩ := lb_q (m := m) (n := 5) (q := 2) c2 (by rw [List.length_append, List.length_append]; omega) hb (by decide)
  have l3 : (if rc m b 2 = true then [(b, 2)] else []).length ≤ 1 := by cases rc m b 2 <;> simp
  obtain ⟨rb4, rp4, mv4, a4, c4, e4⟩ := lb_q (m := m) (n := 4) (q := 3) c3 (by rw [List.length_append, List.length_append, List.length_append]; omega) hb (by decide)
  refine ⟨rb4, rp4, mv4, ?_, ?_, by rw [e4, e3, e2, e1]⟩
  · unfold g_X7_layBlock
    show g_X7_layBlock_2 m (7 + 1) (nI b) (nI 0) rb rp mv = _
    rw [a1, a2, a3, a4]
    show g_X7_layBlock_2 m (3 + 1) (nI b) 4 rb4 rp4 mv4 = _
    simp only [g_X7_layBlock_2]
    rw [if_pos (by decide)]
  · unfold bl
    rw [hwh]
    simpa only [if_true, List.append_assoc] using c4
theorem age_nI {a : Nat} (hS : S < 10000) (ha : a ≤ 4) : jrem ((nI S - nI ((S + 10000 - a) % 10000)) + 10000) 10000 = nI a := by
  have e : (nI S - nI ((S + 10000 - a) % 10000)) + 10000 = nI (S + 10000 - (S + 10000 - a) % 10000) := by
    rw [← pk_sub (by omega), ← nI_add]
    rw [show (10000 : Int32) = nI 10000 from rfl]
    rw [Int32.sub_eq_add_neg, Int32.sub_eq_add_neg, Int32.add_assoc, Int32.add_comm (-nI _) (nI 10000), ← Int32.add_assoc]
  rw [e, jrem_10000 (by omega)]
  exact congrArg nI (by omega)
theorem la_b {n a : Nat} {k17 : Int32 → Int32 → (Nat → Int32) → (Nat → Int32) → (Nat → Int32) → Option ((Nat → Int32) × (Nat → Int32) × (Nat → Int32))} {L : RL2} (hI : FI m B S k) (h : LR rb rp mv L) (hl : L.length ≤ 16) (hb : b < 5) (ha : a ≤ 4) : ∃ rb' rp' mv', g_X7_layRecords_23 m k17 (n + 1) (nI S) (nI a) (nI b) rb rp mv = g_X7_layRecords_23 m k17 n (nI S) (nI a) (nI (b + 1)) rb' rp' mv' ∧ LR rb' rp' mv' (L ++ (if age B b = a then bl m b else [])) ∧ mv' 0 = mv 0 := by
  simp only [g_X7_layRecords_23, g_X7_layRecords_61]
  rw [if_neg (n5_le hb), wh7 hb, at_0 hb, Option.bind_some, Option.bind_some, nI_s]
  cases hwh : wh m b
  · rw [bF rfl, if_pos rfl]
    refine ⟨rb, rp, mv, rfl, ?_, rfl⟩
    have hz : bl m b = [] := by unfold bl; rw [hwh]; rfl
    rw [hz, ite_self, List.append_nil]
    exact h
  · have hle : age B b ≤ k := by
      have := hI.2.2.2.1 b hb
      rw [hwh] at this
      exact of_decide_eq_true this.symm
    have ha4 : age B b ≤ 4 := Nat.le_of_lt_succ (Nat.mod_lt _ (by decide))
    rw [bT rfl, if_neg i1ne, hI.2.2.2.2.1 b hb hle, age_nI hI.2.1 ha4]
    by_cases he : age B b = a
    · rw [if_pos (by rw [he]), if_pos he]
      obtain ⟨rb', rp', mv', e1, e2, e3⟩ := lb_b h hl hb hwh
      rw [e1, Option.bind_some]
      exact ⟨rb', rp', mv', rfl, e2, e3⟩
    · rw [if_neg (by rw [nI_inj (by omega) (by omega)]; exact he), if_neg he, List.append_nil]
      exact ⟨rb, rp, mv, rfl, h, rfl⟩
theorem la_sel {a : Nat} (hB : B < 5) (ha : a < 5) : ((((if age B 0 = a then bl m 0 else []) ++ (if age B 1 = a then bl m 1 else [])) ++ (if age B 2 = a then bl m 2 else [])) ++ (if age B 3 = a then bl m 3 else [])) ++ (if age B 4 = a then bl m 4 else []) = bl m ((B + 5 - a) % 5) := by
  rcases (show B = 0 ∨ B = 1 ∨ B = 2 ∨ B = 3 ∨ B = 4 by omega) with rfl | rfl | rfl | rfl | rfl <;> rcases (show a = 0 ∨ a = 1 ∨ a = 2 ∨ a = 3 ∨ a = 4 by omega) with rfl | rfl | rfl | rfl | rfl <;> simp [age]
theorem la_len {a b : Nat} {L : RL2} (X : RL2) (h : (L ++ X).length ≤ 16) : L.length ≤ 16 := by rw [List.length_append] at h; omega
theorem la_a {n a : Nat} {L : RL2} (hI : FI m B S k) (h : LR rb rp mv L) (hl : L.length ≤ 16) (ha : a ≤ 4) : ∃ rb' rp' mv', g_X7_layRecords_17 m (n + 1) (nI S) (nI a) rb rp mv = g_X7_layRecords_17 m n (nI S) (nI a + (-1)) rb' rp' mv' ∧ LR rb' rp' mv' (L ++ bl m ((B + 5 - a) % 5)) ∧ mv' 0 = mv 0 := by
  have hB := hI.1
  have hsel := la_sel (m := m) hB (show a < 5 by omega)
  -- at most one of the five is not empty
  have z : ∀ b, b < 5 → (age B b = a ↔ b = (B + 5 - a) % 5) := by
    intro b hb
    unfold age
    omega
  simp only [g_X7_layRecords_17]
  rw [if_neg (nI_neg (by omega))]
  have lz : ∀ (b : Nat), b < 5 → (if age B b = a then bl m b else []).length ≤ 4 := by
    intro b hb
    split
    · exact bl_len
    · simp
  have step : ∀ (b : Nat) (X : RL2) (rb rp mv : Nat → Int32) (n2 : Nat), b < 5 → ((age B b = a → X = [])) → LR rb rp mv (L ++ X) → (¬ age B b = a → (L ++ X).length ≤ 20) → ∃ rb' rp' mv', g_X7_layRecords_23 m (g_X7_layRecords_17 m n) (n2 + 1) (nI S) (nI a) (nI b) rb rp mv = g_X7_layRecords_23 m (g_X7_layRecords_17 m n) n2 (nI S) (nI a) (nI (b + 1)) rb' rp' mv' ∧ LR rb' rp' mv' (L ++ (X ++ (if age B b = a then bl m b else []))) ∧ mv' 0 = mv 0 := by
    intro b X rb rp mv n2 hb hX hLR _
    by_cases he : age B b = a
    · have hXe := hX he
      subst hXe
      obtain ⟨rb', rp', mv', e1, e2, e3⟩ := la_b (n := n2) (k17 := g_X7_layRecords_17 m n) hI hLR (by simpa using hl) hb ha
      exact ⟨rb', rp', mv', e1, by simpa using e2, e3⟩
    · -- nothing is laid: the length doesn't matter
      simp only [g_X7_layRecords_23, g_X7_layRecords_61]
      rw [if_neg (n5_le hb), wh7 hb, at_0 hb, Option.bind_some, Option.bind_some, nI_s]
      cases hwh : wh m b
      · rw [bF rfl, if_pos rfl]
        exact ⟨rb, rp, mv, rfl, by rw [if_neg he, List.append_nil]; exact hLR, rfl⟩
      · have hle : age B b ≤ k := by
          have := hI.2.2.2.1 b hb
          rw [hwh] at this
          exact of_decide_eq_true this.symm
        have ha4 : age B b ≤ 4 := Nat.le_of_lt_succ (Nat.mod_lt _ (by decide))
        rw [bT rfl, if_neg i1ne, hI.2.2.2.2.1 b hb hle, age_nI hI.2.1 ha4, if_neg (by rw [nI_inj (by omega) (by omega)]; exact he)]
        exact ⟨rb, rp, mv, rfl, by rw [if_neg he, List.append_nil]; exact hLR, rfl⟩
  have zz : ∀ b c, b < 5 → c < 5 → b ≠ c → age B b = a → (if age B c = a then bl m c else []) = [] := by
    intro b c hb hc hne h1
    rw [if_neg (fun h2 => hne (((z b hb).mp h1).trans ((z c hc).mp h2).symm))]
  obtain ⟨rb0, rp0, mv0, a0, c0, e0⟩ := step 0 [] rb rp mv 7 (by decide) (fun _ => rfl) (by simpa using h) (fun _ => by simp; omega)
  have y0 := lz 0 (by decide)
  have y1 := lz 1 (by decide)
  have y2 := lz 2 (by decide)
  have y3 := lz 3 (by decide)
  obtain ⟨rb1, rp1, mv1, a1, c1, e1⟩ := step 1 ([] ++ (if age B 0 = a then bl m 0 else [])) rb0 rp0 mv0 6 (by decide) (fun h1 => by rw [zz 1 0 (by decide) (by decide) (by decide) h1]; rfl) c0 (fun _ => by simp only [List.length_append, List.length_nil]; omega)
  obtain ⟨rb2, rp2, mv2, a2, c2, e2⟩ := step 2 (([] ++ (if age B 0 = a then bl m 0 else [])) ++ (if age B 1 = a then bl m 1 else [])) rb1 rp1 mv1 5 (by decide) (fun h1 => by rw [zz 2 0 (by decide) (by decide) (by decide) h1, zz 2 1 (by decide) (by decide) (by decide) h1]; rfl) c1 (fun h9 => by
    by_cases q0 : age B 0 = a
    · rw [zz 0 1 (by decide) (by decide) (by decide) q0]; simp only [List.length_append, List.length_nil]; omega
    · rw [if_neg q0]; simp only [List.length_append, List.length_nil]; omega)
  obtain ⟨rb3, rp3, mv3, a3, c3, e3⟩ := step 3 ((([] ++ (if age B 0 = a then bl m 0 else [])) ++ (if age B 1 = a then bl m 1 else [])) ++ (if age B 2 = a then bl m 2 else [])) rb2 rp2 mv2 4 (by decide) (fun h1 => by rw [zz 3 0 (by decide) (by decide) (by decide) h1, zz 3 1 (by decide) (by decide) (by decide) h1, zz 3 2 (by decide) (by decide) (by decide) h1]; rfl) c2 (fun h9 => by
    by_cases q0 : age B 0 = a
    · rw [zz 0 1 (by decide) (by decide) (by decide) q0, zz 0 2 (by decide) (by decide) (by decide) q0]; simp only [List.length_append, List.length_nil]; omega
    · by_cases q1 : age B 1 = a
      · rw [if_neg q0, zz 1 2 (by decide) (by decide) (by decide) q1]; simp only [List.length_append, List.length_nil]; omega
      · rw [if_neg q0, if_neg q1]; simp only [List.length_append, List.length_nil]; omega)
  obtain ⟨rb4, rp4, mv4, a4, c4, e4⟩ := step 4 (((([] ++ (if age B 0 = a then bl m 0 else [])) ++ (if age B 1 = a then bl m 1 else [])) ++ (if age B 2 = a then bl m 2 else [])) ++ (if age B 3 = a then bl m 3 else [])) rb3 rp3 mv3 3 (by decide) (fun h1 => by rw [zz 4 0 (by decide) (by decide) (by decide) h1, zz 4 1 (by decide) (by decide) (by decide) h1, zz 4 2 (by decide) (by decide) (by decide) h1, zz 4 3 (by decide) (by decide) (by decide) h1]; rfl) c3 (fun h9 => by
    by_cases q0 : age B 0 = a
    · rw [zz 0 1 (by decide) (by decide) (by decide) q0, zz 0 2 (by decide) (by decide) (by decide) q0, zz 0 3 (by decide) (by decide) (by decide) q0]; simp only [List.length_append, List.length_nil]; omega
    · by_cases q1 : age B 1 = a
      · rw [if_neg q0, zz 1 2 (by decide) (by decide) (by decide) q1, zz 1 3 (by decide) (by decide) (by decide) q1]; simp only [List.length_append, List.length_nil]; omega
      · by_cases q2 : age B 2 = a
        · rw [if_neg q0, if_neg q1, zz 2 3 (by decide) (by decide) (by decide) q2]; simp only [List.length_append, List.length_nil]; omega
        · rw [if_neg q0, if_neg q1, if_neg q2]; simp only [List.length_append, List.length_nil]; omega)
  refine ⟨rb4, rp4, mv4, ?_, ?_, by rw [e4, e3, e2, e1, e0]⟩
  · show g_X7_layRecords_23 m (g_X7_layRecords_17 m n) (7 + 1) (nI S) (nI a) (nI 0) rb rp mv = _
    rw [a0, a1, a2, a3, a4]
    show g_X7_layRecords_23 m (g_X7_layRecords_17 m n) (2 + 1) (nI S) (nI a) 5 rb4 rp4 mv4 = _
    simp only [g_X7_layRecords_23]
    rw [if_pos (by decide)]
  · rw [List.nil_append, hsel] at c4
    exact c4
theorem laF (hI : FI m B S k) (rb rp mv : Nat → Int32) : ∃ rb' rp' mv', g_X7_layRecords m rb rp mv = some (rb', rp', mv') ∧ LR rb' rp' mv' (rl m B) ∧ mv' 0 = mv 0 := by
  have hB := hI.1
  have n7 : g_X7_newest m = some (nI B) := by rw [nb7, nw_of hI]
  have h0 : LR rb rp (upd mv 1 0) [] := ⟨by simp [upd, nI], fun i x h => by simp at h⟩
  have b1 := bl_len (m := m) (b := (B + 1) % 5)
  have b2 := bl_len (m := m) (b := (B + 2) % 5)
  have b3 := bl_len (m := m) (b := (B + 3) % 5)
  have b4 := bl_len (m := m) (b := (B + 4) % 5)
  obtain ⟨rb1, rp1, mv1, a1, c1, e1⟩ := la_a (n := 7) (a := 4) hI h0 (by simp) (by decide)
  rw [show (B + 5 - 4) % 5 = (B + 1) % 5 by omega] at c1
  obtain ⟨rb2, rp2, mv2, a2, c2, e2⟩ := la_a (n := 6) (a := 3) hI c1 (by simp only [List.length_append, List.length_nil]; omega) (by decide)
  rw [show (B + 5 - 3) % 5 = (B + 2) % 5 by omega] at c2
  obtain ⟨rb3, rp3, mv3, a3, c3, e3⟩ := la_a (n := 5) (a := 2) hI c2 (by simp only [List.length_append, List.length_nil]; omega) (by decide)
  rw [show (B + 5 - 2) % 5 = (B + 3) % 5 by omega] at c3
  obtain ⟨rb4, rp4, mv4, a4, c4, e4⟩ := la_a (n := 4) (a := 1) hI c3 (by simp only [List.length_append, List.length_nil]; omega) (by decide)
  rw [show (B + 5 - 1) % 5 = (B + 4) % 5 by omega] at c4
  obtain ⟨rb5, rp5, mv5, a5, c5, e5⟩ := la_a (n := 3) (a := 0) hI c4 (by simp only [List.length_append, List.length_nil]; omega) (by decide)
  rw [show (B + 5 - 0) % 5 = (B + 5) % 5 by omega] at c5
  refine ⟨rb5, rp5, mv5, ?_, c5, by rw [e5, e4, e3, e2, e1]; simp [upd]⟩
  unfold g_X7_layRecords
  rw [n7, Option.bind_some, at_0 hB, FI_sB hI, Option.bind_some]
  show g_X7_layRecords_17 m (7 + 1) (nI S) (nI 4) rb rp (upd mv 1 0) = _
  rw [a1, pk_m1 3, a2, pk_m1 2, a3, pk_m1 1, a4, pk_m1 0, a5]
  show g_X7_layRecords_17 m (2 + 1) (nI S) (nI 0 + (-1)) rb5 rp5 mv5 = _
  simp only [g_X7_layRecords_17]
  rw [if_pos (by decide)]
end JR

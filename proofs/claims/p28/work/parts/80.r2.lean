-- what is read of the journal
section RD
variable {D : TD} {m w d : Row} {hs : List Row} {im : Nat → Option Row} {B S k : Nat}
theorem RO.fi (h : RO D m hs im) : ∃ B S k, FI m B S k := by
  obtain ⟨⟨-, ⟨B, S, k, hI, -⟩, -⟩, -⟩ := h
  exact ⟨B, S, k, hI⟩
theorem O_recs (h : RO D m hs im) : g_O_records D (-1) = some (tl5 m (ff m (-1)), D) ∧ g_O_records D (-2) = some (tl5 m (ff m (-2)), D) := by
  have hw := h.1.1.1.1
  constructor
  · show Option.map _ (g_X6_records _ _ _ _) = _
    unfold g_X6_records
    rw [tal1 hw, if_neg (by decide), if_pos rfl]
    rfl
  · show Option.map _ (g_X6_records _ _ _ _) = _
    unfold g_X6_records
    rw [tal2 hw, if_pos rfl]
    rfl
theorem RO.jou (h : RO D m hs im) (d : Row) (jc : Int32) : RO (D.1, D.2.1, (d, jc), D.2.2.2) m hs im := h
theorem O_recK (h : RO D m hs im) {kd : Nat} (hk : kd < 5) : ∃ D', g_O_records D (nI kd) = some (tl5 m (ff m (nI kd)), D') ∧ RO D' m hs im := by
  have hw := h.1.1.1.1
  obtain ⟨B, S, k, hI⟩ := h.fi
  obtain ⟨d', a1, c1⟩ := gaF hw hI D.2.2.1.1 D.2.2.1.2
  have e1 : ¬ nI kd = -1 := by rcases (show kd = 0 ∨ kd = 1 ∨ kd = 2 ∨ kd = 3 ∨ kd = 4 by omega) with rfl | rfl | rfl | rfl | rfl <;> decide
  have e2 : ¬ nI kd = -2 := by rcases (show kd = 0 ∨ kd = 1 ∨ kd = 2 ∨ kd = 3 ∨ kd = 4 by omega) with rfl | rfl | rfl | rfl | rfl <;> decide
  refine ⟨(D.1, D.2.1, (d', nI (rl m B).length), D.2.2.2), ?_, h.jou _ _⟩
  show Option.map _ (g_X6_records _ _ _ _) = _
  unfold g_X6_records
  rw [if_neg e2, if_neg e1, iw0, inI_t (h := 4) (by decide) (by omega) (by decide), Option.bind_some, bT rfl, if_neg i1ne, a1, Option.bind_some]
  show Option.map _ ((g_X2_countOf d' (nI (rl m B).length) (nI kd)).bind _) = _
  rw [cntF hI.1 c1 e1 e2, Option.bind_some]
  rfl
/-- a field of a record -/
def fldv (m : Row) (x : Nat × Nat) : Nat → Int32
  | 0 => jrem (m (22 * x.1 + (6 + 4 * x.2))) 10000
  | 1 => m (22 * x.1 + (6 + 4 * x.2)) / 10000
  | 2 => m (22 * x.1 + (6 + 4 * x.2 + 1))
  | 3 => m (22 * x.1 + (6 + 4 * x.2 + 2))
  | 4 => nI x.1
  | _ => nI x.2
theorem O_record (h : RO D m hs im) (hI : FI m B S k) {i c : Nat} {x : Nat × Nat} (hx : (rl m B)[i]? = some x) (hc : c < 6) : ∃ D', g_O_record D (nI i) (nI c) = some (fldv m x c, D') ∧ RO D' m hs im := by
  have hw := h.1.1.1.1
  have hi := (List.getElem?_eq_some_iff.mp hx).1
  have hl := rl_len (m := m) (B := B)
  obtain ⟨d', a1, c1⟩ := gaF hw hI D.2.2.1.1 D.2.2.1.2
  refine ⟨(D.1, D.2.1, (d', nI (rl m B).length), D.2.2.2), ?_, h.jou _ _⟩
  show Option.map _ (g_X6_record _ _ _ _ _) = _
  unfold g_X6_record
  rw [if_neg (nI_neg (by omega)), iw0, inI_t (h := 5) (by decide) (by omega) (by decide), Option.bind_some, bT rfl, if_neg i1ne, a1, Option.bind_some]
  show Option.map _ ((g_X2_detail d' (nI (rl m B).length) (nI i) (nI c)).bind _) = _
  rw [dtl c1 hl hi hc, Option.bind_some]
  obtain ⟨z0, z1, z2, z3, z4, z5⟩ := c1.2 i x hx
  have e : d' (6 * i + c) = fldv m x c := by
    rcases (show c = 0 ∨ c = 1 ∨ c = 2 ∨ c = 3 ∨ c = 4 ∨ c = 5 by omega) with rfl | rfl | rfl | rfl | rfl | rfl
    · exact z0
    · exact z1
    · exact z2
    · exact z3
    · exact z4
    · exact z5
  rw [e]
  rfl
theorem O_recordE (h : RO D m hs im) (hI : FI m B S k) : ∃ D', g_O_record D (nI (rl m B).length) 0 = some (-9, D') ∧ RO D' m hs im := by
  have hw := h.1.1.1.1
  have hl := rl_len (m := m) (B := B)
  obtain ⟨d', a1, c1⟩ := gaF hw hI D.2.2.1.1 D.2.2.1.2
  refine ⟨(D.1, D.2.1, (d', nI (rl m B).length), D.2.2.2), ?_, h.jou _ _⟩
  show Option.map _ (g_X6_record _ _ _ _ _) = _
  unfold g_X6_record
  rw [if_neg (nI_neg (by omega)), iw0, show inI 0 0 5 = true by decide, Option.bind_some, bT rfl, if_neg i1ne, a1, Option.bind_some]
  show Option.map _ ((g_X2_detail d' (nI (rl m B).length) (nI (rl m B).length) 0).bind _) = _
  unfold g_X2_detail g_X2_detail_41
  rw [if_neg (nI_neg (by omega)), if_pos (Int32.le_refl _), Option.bind_some]
  rfl
/-- the price that a record counts with -/
def pcv (m : Row) (n1 kd : Int32) (x : Nat × Nat) : Int32 := if (n1 = -1 ∨ m (22 * x.1 + (6 + 4 * x.2 + 2)) / 1000 = n1) ∧ m (22 * x.1 + (6 + 4 * x.2)) / 10000 = kd then jrem (m (22 * x.1 + (6 + 4 * x.2 + 2))) 1000 else 0
theorem pri0 (hB : B < 5) {d' : Row} (h : GJ m d' (nI (rl m B).length) (rl m B)) (n1 : Int32) (kd : Nat) : g_X2_pricesOf d' (nI (rl m B).length) (nI kd) n1 = some (sm (pcv m n1 (nI kd)) (rl m B)) := by
  have hl := rl_len (m := m) (B := B)
  have := loop_up (fun n a i => g_X2_pricesOf_5 d' (nI (rl m B).length) n (nI kd) n1 a i) (fun a => some a) (fun i a => if (n1 = -1 ∨ d' (6 * i + 3) / 1000 = n1) ∧ d' (6 * i + 1) = nI kd then a + jrem (d' (6 * i + 3)) 1000 else a) (rl m B).length (fun n i a hi => by
    show g_X2_pricesOf_5 d' (nI (rl m B).length) (n + 1) (nI kd) n1 a (nI i) = _
    simp only [g_X2_pricesOf_5, g_X2_pricesOf_38, g_X2_pricesOf_43, g_X2_pricesOf_70]
    rw [if_neg (nI_ge hi (by omega)), show (3 : Int32) = nI 3 from rfl, dtl h hl hi (by decide), Option.bind_some, if_neg i1ne]
    simp only [if_true]
    have h1 := dtl (c := 1) h hl hi (by decide)
    rw [show nI 1 = (1 : Int32) from rfl] at h1
    rw [h1, Option.bind_some, nI_s]
    by_cases x1 : n1 = -1
    · rw [if_pos x1]
      by_cases x2 : d' (6 * i + 1) = nI kd
      · rw [if_pos x2, if_pos ⟨Or.inl x1, x2⟩]
      · rw [if_neg x2, if_neg (fun z => x2 z.2)]
    · rw [if_neg x1]
      by_cases x3 : d' (6 * i + 3) / 1000 = n1
      · rw [if_pos x3]
        by_cases x2 : d' (6 * i + 1) = nI kd
        · rw [if_pos x2, if_pos ⟨Or.inr x3, x2⟩]
        · rw [if_neg x2, if_neg (fun z => x2 z.2)]
      · rw [if_neg x3, if_neg (fun z => z.1.elim x1 x3)]) (fun n a => by
    show g_X2_pricesOf_5 d' (nI (rl m B).length) (n + 1) (nI kd) n1 a (nI _) = _
    simp only [g_X2_pricesOf_5]
    rw [if_pos (Int32.le_refl _)]) (29 - (rl m B).length) (rl m B).length 0 0 (by omega)
  unfold g_X2_pricesOf
  rw [show 29 - (rl m B).length + (rl m B).length + 1 = 30 by omega] at this
  refine this.trans ?_
  rw [itr_sm (pcv m n1 (nI kd)) _ (rl m B) 0 0 (fun j x hx a => by
    obtain ⟨z0, z1, z2, z3, z4, z5⟩ := h.2 j x hx
    unfold pcv
    rw [Nat.zero_add, z1, z3]
    by_cases c : (n1 = -1 ∨ m (22 * x.1 + (6 + 4 * x.2 + 2)) / 1000 = n1) ∧ m (22 * x.1 + (6 + 4 * x.2)) / 10000 = nI kd
    · rw [if_pos c, if_pos c]
    · rw [if_neg c, if_neg c, Int32.add_zero]), Int32.zero_add]
/-- the takings of a sort, of all for -1 -/
def tkv (m : Row) (B : Nat) (n1 : Int32) : Int32 := sm (pcv m n1 0) (rl m B) - sm (pcv m n1 1) (rl m B)
theorem O_takings (h : RO D m hs im) (hI : FI m B S k) {n1 : Int32} (hn : n1 = -1 ∨ ∃ s : Nat, s < 4 ∧ n1 = nI s) : ∃ D', g_O_takings D n1 = some (tkv m B n1, D') ∧ RO D' m hs im := by
  have hw := h.1.1.1.1
  obtain ⟨d', a1, c1⟩ := gaF hw hI D.2.2.1.1 D.2.2.1.2
  refine ⟨(D.1, D.2.1, (d', nI (rl m B).length), D.2.2.2), ?_, h.jou _ _⟩
  have i0 : g_X2_pricesOf d' (nI (rl m B).length) 0 n1 = some (sm (pcv m n1 0) (rl m B)) := pri0 hI.1 c1 n1 0
  have i1 : g_X2_pricesOf d' (nI (rl m B).length) 1 n1 = some (sm (pcv m n1 1) (rl m B)) := pri0 hI.1 c1 n1 1
  have e14 : g_X6_takings_14 D.1.1 n1 D.2.2.1.1 D.2.2.1.2 = some (tkv m B n1, d', nI (rl m B).length) := by
    unfold g_X6_takings_14
    rw [a1, Option.bind_some]
    dsimp only
    rw [i0, Option.bind_some, i1, Option.bind_some]
    rfl
  show Option.map _ (g_X6_takings _ _ _ _) = _
  unfold g_X6_takings
  by_cases x1 : n1 = -1
  · rw [if_pos x1, e14]; rfl
  · obtain ⟨s, hs', rfl⟩ := hn.resolve_left x1
    rw [if_neg x1, is0, inI_t (h := 3) (by decide) (by omega) (by decide), Option.bind_some, bT rfl, if_neg i1ne, e14]; rfl
/-- the mean price -/
def mnv (m : Row) (B : Nat) : UInt32 := if tl5 m (ff m 0) = 0 then FP.fconst0 else FP.fdiv (FP.i2f (sm (pcv m (-1) 0) (rl m B))) (FP.i2f (tl5 m (ff m 0)))
theorem mnv_ok : FP.Core.fIsNaN (mnv m B) = false := by
  unfold mnv
  by_cases hz : tl5 m (ff m 0) = 0
  · rw [if_pos hz]; exact fq_0
  · rw [if_neg hz]; exact fq_ok hz
theorem O_mean (h : RO D m hs im) (hI : FI m B S k) : ∃ D', g_O_mean D = some (mnv m B, D') ∧ RO D' m hs im := by
  have hw := h.1.1.1.1
  obtain ⟨d', a1, c1⟩ := gaF hw hI D.2.2.1.1 D.2.2.1.2
  refine ⟨(D.1, D.2.1, (d', nI (rl m B).length), D.2.2.2), ?_, h.jou _ _⟩
  have i0 : g_X2_pricesOf d' (nI (rl m B).length) 0 (-1) = some (sm (pcv m (-1) 0) (rl m B)) := pri0 hI.1 c1 (-1) 0
  have cc := cntF hI.1 c1 (kd := 0) (by decide) (by decide)
  show Option.map _ (g_X6_mean _ _ _) = _
  unfold g_X6_mean
  rw [a1, Option.bind_some]
  dsimp only
  rw [cc, Option.bind_some]
  have hok := mnv_ok (m := m) (B := B)
  by_cases hz : tl5 m (ff m 0) = 0
  · have e : mnv m B = FP.fconst0 := if_pos hz
    rw [if_pos hz, e]; rfl
  · have e : mnv m B = FP.fdiv (FP.i2f (sm (pcv m (-1) 0) (rl m B))) (FP.i2f (tl5 m (ff m 0))) := if_neg hz
    rw [e] at hok ⊢
    rw [if_neg hz, i0, Option.bind_some, if_neg (not_not_intro (fq_bits hok))]; rfl
-- what if
theorem O_needed (h : RO D m hs im) (n1 : Int32) : ∃ r : Int32, g_X7_refusal m n1 = some r ∧ g_O_needed D n1 = some (if r = 0 then (if m 117 = 4 then 11 else 4) else r) := by
  obtain ⟨hP, -⟩ := h
  obtain ⟨r, a1, a2, a3⟩ := refF hP.1 hP.2 n1
  refine ⟨r, a2, ?_⟩
  unfold g_O_needed g_X6_needed
  rw [a1, Option.bind_some]
  by_cases hr : r = 0
  · obtain ⟨on, -⟩ := a3 hr
    rw [if_pos hr, if_pos hr, (hP.1.2.2.2.2.2.2 on).2.1]
    by_cases h4 : m 117 = 4
    · rw [if_pos h4, if_pos h4]
    · rw [if_neg h4, if_neg h4]
  · rw [if_neg hr, if_neg hr]
theorem tryF {w er fl me p pr : Row} (h : PI w er fl me p pr m) {n1 n2 : Int32} (hr : g_X7_refusal m n1 = some 0) (hn : LV n2) (wt ert flt met pt prt : Row) :
    ∃ (r : Int32) (w' er' fl' me' p' pr' m' : Row), g_X6_trySale w er fl me p pr wt ert flt met pt prt n1 n2 = some (w', er', fl', me', p', pr') ∧ g_X7_sellNow (upd m 126 n2) n1 = some (r, m') ∧ PI w' er' fl' me' p' pr' m' := by
  obtain ⟨r0, a1, a2, a3⟩ := refF h.1 h.2 n1
  have hr0 : r0 = 0 := Option.some.inj (a2.symm.trans hr)
  obtain ⟨on, s, c, su, pa, hs, rfl, hc, hc1, hc2, hsu, hsu2, hpa, hpa1, hpa2⟩ := a3 hr0
  obtain ⟨w1, er1, fl1, me1, p1, pr1, c1, c2, -⟩ := cpF h wt ert flt met pt prt
  have c3 := set126 c2 hn
  have e : ∀ i, i ≠ 126 → (upd m 126 n2) i = m i := fun i hi => by simp [upd, hi]
  obtain ⟨r', w', er', fl', me', pr', m', i1, i2, i3, i4⟩ := issF c3.1 c3.2 (by rw [e _ (by decide)]; exact on) hs (by rw [e _ (by omega)]; exact hc) hc1 hc2 ⟨su, by rw [e _ (by decide)]; exact hsu, hsu2⟩ ⟨pa, by rw [e _ (by decide)]; exact hpa, hpa1, hpa2⟩
  refine ⟨r', w', er', fl', me', p1, pr', m', ?_, i2, i3, i4⟩
  unfold g_X6_trySale
  rw [c1, Option.bind_some]
  show (g_X5_issueTicket w1 er1 (upd fl1 1 n2) me1 p1 pr1 (nI s)).bind _ = _
  rw [i1, Option.bind_some]
theorem RO.tri (h : RO D m hs im) (x : PT) : RO (D.1, x, D.2.2) m hs im := h
theorem O_operations (h : RO D m hs im) (n1 : Int32) : ∃ r : Int32, g_X7_refusal m n1 = some r ∧ (¬ r = 0 → ∃ D', g_O_operations D n1 = some (r, D') ∧ RO D' m hs im) ∧ (r = 0 → ∃ (r' : Int32) (m' : Row) (D' : TD), g_X7_sellNow (upd m 126 (-9)) n1 = some (r', m') ∧ g_O_operations D n1 = some (m' 125 - m 125, D') ∧ RO D' m hs im) := by
  obtain ⟨hP, -⟩ := id h
  obtain ⟨r, a1, a2, a3⟩ := refF hP.1 hP.2 n1
  refine ⟨r, a2, fun hr => ?_, fun hr => ?_⟩
  · refine ⟨D, ?_, h⟩
    show Option.map _ (g_X6_operations _ _ _ _ _ _ _ _ _ _ _ _ _) = _
    unfold g_X6_operations
    rw [a1, Option.bind_some, if_neg hr]; rfl
  · subst hr
    obtain ⟨r', w', er', fl', me', p', pr', m', t1, t2, t3⟩ := tryF (n2 := -9) hP a2 (Or.inl rfl) D.2.1.1 D.2.1.2.1 D.2.1.2.2.1 D.2.1.2.2.2.1 D.2.1.2.2.2.2.1 D.2.1.2.2.2.2.2
    refine ⟨r', m', (D.1, (w', er', fl', me', p', pr'), D.2.2), t2, ?_, h.tri _⟩
    show Option.map _ (g_X6_operations _ _ _ _ _ _ _ _ _ _ _ _ _) = _
    unfold g_X6_operations
    rw [a1, Option.bind_some, if_pos rfl, t1, Option.bind_some]
    dsimp only
    rw [t3.1.1.2.2.1, hP.1.1.2.2.1]; rfl
/-- what after() tells of a row -/
def aftv (m : Row) : Nat → Int32
  | 0 => tl5 m (ff m (-1))
  | 1 => tl5 m (ff m (-2))
  | 2 => m 118
  | 3 => m 119
  | _ => m 116
theorem af62 {w er fl me p pr wt ert flt met pt prt : Row} (h : PI wt ert flt met pt prt m) (on : m 115 = 1) {j : Nat} (hj : j < 5) : g_X6_after_62 w er fl me p pr (nI j) wt ert flt met pt prt = some (aftv m j, wt, ert, flt, met, pt, prt) := by
  obtain ⟨a0, a1, a2, a3, a4, a5⟩ := h.1.2.2.2.2.2.2 on
  unfold g_X6_after_62
  rw [tal1 h.1.1.1, tal2 h.1.1.1, a0, a2, a3]
  rcases (show j = 0 ∨ j = 1 ∨ j = 2 ∨ j = 3 ∨ j = 4 by omega) with rfl | rfl | rfl | rfl | rfl <;> rfl
/-- the printer on again, if it is off -/
def awk (m : Row) : Option Row := if m 115 = 0 then g_X7_readMemory m else some m
theorem O_after (h : RO D m hs im) (n1 : Int32) {a j : Nat} (ha : a ≤ 30) (hj : j < 5) : ∃ r : Int32, g_X7_refusal m n1 = some r ∧ (¬ r = 0 → ∃ D', g_O_after D n1 (nI a) (nI j) = some (r, D') ∧ RO D' m hs im) ∧ (r = 0 → ∃ (r' : Int32) (m' m2 : Row) (D' : TD), g_X7_sellNow (upd m 126 (nI a)) n1 = some (r', m') ∧ awk m' = some m2 ∧ g_O_after D n1 (nI a) (nI j) = some (aftv m2 j, D') ∧ RO D' m hs im ∧ IV m2 ∧ m2 115 = 1 ∧ ∀ i, i < 110 → m2 i = m' i) := by
  obtain ⟨hP, -⟩ := id h
  obtain ⟨r, a1, a2, a3⟩ := refF hP.1 hP.2 n1
  refine ⟨r, a2, fun hr => ?_, fun hr => ?_⟩
  · refine ⟨D, ?_, h⟩
    show Option.map _ (g_X6_after _ _ _ _ _ _ _ _ _ _ _ _ _ _ _) = _
    unfold g_X6_after
    rw [iw0, inI_t (h := 30) (by decide) ha (by decide), iw0, inI_t (h := 4) (by decide) (by omega) (by decide), Option.bind_some, bT rfl, if_neg i1ne, Option.bind_some, if_neg i1ne, a1, Option.bind_some, if_neg hr]; rfl
  · subst hr
    obtain ⟨r', w', er', fl', me', p', pr', m', t1, t2, t3⟩ := tryF (n2 := nI a) hP a2 (Or.inr ⟨a, by omega, rfl⟩) D.2.1.1 D.2.1.2.1 D.2.1.2.2.1 D.2.1.2.2.2.1 D.2.1.2.2.2.2.1 D.2.1.2.2.2.2.2
    have p0 : pr' 0 = m' 115 := t3.1.2.2.1
    by_cases on : m' 115 = 0
    · obtain ⟨me2, m2, v1, v2, v3, v4, v5, v6⟩ := wakF t3.1 t3.2
      refine ⟨r', m', m2, (D.1, (w', er', fl', me2, p', upd pr' 0 1), D.2.2), t2, by unfold awk; rw [if_pos on, v2], ?_, h.tri _, v4, v5, v6⟩
      show Option.map _ (g_X6_after _ _ _ _ _ _ _ _ _ _ _ _ _ _ _) = _
      unfold g_X6_after
      rw [iw0, inI_t (h := 30) (by decide) ha (by decide), iw0, inI_t (h := 4) (by decide) (by omega) (by decide), Option.bind_some, bT rfl, if_neg i1ne, Option.bind_some, if_neg i1ne, a1, Option.bind_some, if_pos rfl, t1, Option.bind_some]
      dsimp only
      rw [if_pos (p0.trans on), v1, Option.bind_some]
      dsimp only
      rw [af62 ⟨v3, v4⟩ v5 hj]; rfl
    · refine ⟨r', m', m', (D.1, (w', er', fl', me', p', pr'), D.2.2), t2, by unfold awk; rw [if_neg on], ?_, h.tri _, t3.2, t3.2.2.1.resolve_left on, fun _ _ => rfl⟩
      show Option.map _ (g_X6_after _ _ _ _ _ _ _ _ _ _ _ _ _ _ _) = _
      unfold g_X6_after
      rw [iw0, inI_t (h := 30) (by decide) ha (by decide), iw0, inI_t (h := 4) (by decide) (by omega) (by decide), Option.bind_some, bT rfl, if_neg i1ne, Option.bind_some, if_neg i1ne, a1, Option.bind_some, if_pos rfl, t1, Option.bind_some]
      dsimp only
      rw [if_neg (fun z => on (p0.symm.trans z)), af62 t3 (t3.2.2.1.resolve_left on) hj]; rfl
end RD

-- the sale with a cut: what is foretold comes true
section LK
variable {D : TD} {m : Row} {hs : List Row} {im : Nat → Option Row}
theorem refV {n1 r : Int32} (h : g_X7_refusal m n1 = some r) : r = 0 ∨ r = -1 ∨ r = -2 ∨ r = -3 := by
  unfold g_X7_refusal g_X7_refusal_41 g_X7_lengthOf at h
  rw [is7] at h
  simp only [Option.bind_some] at h
  split at h
  · exact Or.inr (Or.inl (Option.some.inj h).symm)
  · split at h
    · exact Or.inr (Or.inr (Or.inl (Option.some.inj h).symm))
    · split at h
      · exact absurd h (by simp)
      · split at h
        · split at h
          · exact Or.inl (Option.some.inj h).symm
          · exact Or.inr (Or.inr (Or.inr (Option.some.inj h).symm))
        · exact Or.inr (Or.inr (Or.inl (Option.some.inj h).symm))
theorem ref126 {x : Int32} {s : Nat} (hs4 : s < 4) : g_X7_refusal (upd m 126 x) (nI s) = g_X7_refusal m (nI s) := by
  have e : ∀ i, i ≠ 126 → (upd m 126 x) i = m i := fun i hi => pk_un hi
  unfold g_X7_refusal g_X7_refusal_41
  rw [prc7, nI_clamp (by omega), e 115 (by decide), e 119 (by decide), e 121 (by decide), e (127 + s) (by omega)]
theorem eqx_126 {x : Int32} : eqx (upd m 126 x) m := fun i _ _ h6 => pk_un h6
theorem canDo_n {a n : Nat} (ha : a ≤ 100) : canDo (nI a) n ↔ n ≤ a := by
  constructor
  · rintro (h9 | ⟨c, h1, h2, h3⟩)
    · exact absurd h9 (nI_n9' ha)
    · have := (nI_inj (a := a) (b := c) (by omega) (by omega)).mp h3
      omega
  · intro h
    exact Or.inr ⟨a, h, ha, rfl⟩
/-- a sale with so many operations left (a), out of what all of it wants -/
theorem cutR {s a k1 all nu : Nat} {zf : Row} {r' : Int32} {ma m2 : Row} (ha : a ≤ 30) (g1 : m 118 = nI nu) (g2 : nu < 10000) (g3 : k1 ≤ all) (g5 : zf 115 = 1) (g6 : zf 118 = nI ((nu + 1) % 10000) ∨ zf 118 = nI ((nu + 2) % 10000)) (G : SLc m (nI s) k1 all nu zf) (q1 : g_X7_sellNow (upd m 126 (nI a)) (nI s) = some (r', ma)) (q2 : awk ma = some m2) (q5 : IV m2) (q6 : m2 115 = 1) (q7 : ∀ i, i < 110 → m2 i = ma i) : (all ≤ a ∧ r' = nI nu ∧ ma 115 = 1 ∧ m2 = ma ∧ eqx ma zf ∧ ¬ m2 118 = m 118 ∧ ¬ a < k1) ∨ (a < all ∧ r' = -4 ∧ ma 115 = 0 ∧ (m2 118 = m 118 ↔ a < k1)) := by
  have e126 : (upd m 126 (nI a)) 126 = nI a := pk_us
  obtain ⟨t1, t2⟩ := G (upd m 126 (nI a)) eqx_126 (by rw [e126]; exact Or.inr ⟨a, by omega, rfl⟩)
  rw [e126, canDo_n (by omega)] at t1 t2
  rcases Nat.lt_or_ge a all with hl | hl
  · right
    obtain ⟨n', p1, p2, -, B', S', k', p3, p4, p5⟩ := t2 (by omega)
    obtain ⟨e1, e2⟩ := Prod.mk.inj (Option.some.inj (q1.symm.trans p1))
    subst e1 e2
    refine ⟨hl, rfl, p2, ?_⟩
    obtain ⟨B2, S2, k2, nu2, su2, ti2, pa2, hI2, c0, c1, cr, -⟩ := onX q5 q6
    have hB : B2 = B' := Option.some.inj ((nw_of hI2).symm.trans (nw_of (p3.congr q7)))
    subst hB
    rw [rp_low p3.1 q7] at cr
    have e118 : m2 118 = (rp ma B2 4).1 := congrArg Prod.fst cr
    rw [e118, g1]
    rw [canDo_n (by omega)] at p4 p5
    rcases Nat.lt_or_ge a k1 with hk | hk
    · rw [p5 (by omega)]
      exact ⟨fun _ => hk, fun _ => rfl⟩
    · rw [p4 hk]
      refine ⟨fun z => ?_, fun z => absurd z (by omega)⟩
      have := (nI_inj (by omega) (by omega)).mp z
      omega
  · left
    obtain ⟨n', p1, p2, -, -⟩ := t1 hl
    obtain ⟨e1, e2⟩ := Prod.mk.inj (Option.some.inj (q1.symm.trans p1))
    subst e1 e2
    have m115 : ma 115 = 1 := (p2 115 (by decide) (by decide) (by decide)).trans g5
    unfold awk at q2
    rw [if_neg (by rw [m115]; decide)] at q2
    have e : ma = m2 := Option.some.inj q2
    subst e
    refine ⟨hl, g1, m115, rfl, p2, ?_, by omega⟩
    rw [p2 118 (by decide) (by decide) (by decide), g1]
    intro z
    rcases g6 with e | e
    · rw [e] at z
      have := (nI_inj (by omega) (by omega)).mp z
      omega
    · rw [e] at z
      have := (nI_inj (by omega) (by omega)).mp z
      omega
theorem RO.rem3 {a b c : Row} {D : TD} {m : Row} (h : RO D m (rem8 (rem8 (rem8 hs a) b) c) im) (hl : hs.length ≤ 8) : ∃ h' : List Row, RO D m (h' ++ [a] ++ [b] ++ [c]) im := by
  obtain ⟨h1, e1, l1⟩ := rem8_app (m := a) (hs := hs) [] (by simpa using hl) (by decide)
  simp only [List.append_nil, List.nil_append] at e1 l1
  obtain ⟨h2, e2, l2⟩ := rem8_app (m := b) (hs := h1) [a] l1 (by simp)
  obtain ⟨h3, e3, l3⟩ := rem8_app (m := c) (hs := h2) ([a] ++ [b]) l2 (by simp)
  rw [e1, e2, e3] at h
  exact ⟨h3, by simpa using h⟩
/-- the end of isCut: all undone, all as it was told -/
theorem cutE {s a nu : Nat} {m2 : Row} {x0 : Int32} (hm : m 118 = nI nu) (on : m 115 = 1) (A : ∀ (D : TD) (hs : List Row), RO D m hs im → ∀ j, j < 5 → ∃ D', g_O_after D (nI s) (nI a) (nI j) = some (aftv m2 j, D') ∧ RO D' m hs im) {x y : Row} (hW : WI m) (hx : WI x) (h : RO D y (hs ++ [m] ++ [x]) im) : ∃ (D' : TD) (hs' : List Row), g_L_isCut_240 (nI s) (nI a) (m 118) 1 (tl5 m2 (ff m2 (-1))) (tl5 m2 (ff m2 (-2))) x0 D = some (1, D') ∧ RO D' m hs' im := by
  obtain ⟨D1, u1, u2⟩ := O_undo hx h
  obtain ⟨D2, v1, v2⟩ := O_undo hW u2
  unfold g_L_isCut_240
  rw [u1, Option.bind_some]
  dsimp only
  rw [v1, Option.bind_some, if_neg i1ne]
  have t2 : g_O_told D2 2 = some (m 118) := by
    have := O_told v2 (j := 2) (by decide)
    rw [show tld m 2 = m 118 from if_neg (by rw [on]; decide)] at this
    exact this
  dsimp only
  rw [t2, Option.bind_some, if_pos rfl]
  obtain ⟨D3, c1, c2⟩ := A D2 hs v2 0 (by decide)
  obtain ⟨D4, d1, d2⟩ := A D3 hs c2 1 (by decide)
  rw [show g_O_after D2 (nI s) (nI a) 0 = some (tl5 m2 (ff m2 (-1)), D3) from c1, Option.bind_some, if_pos rfl]
  dsimp only
  rw [show g_O_after D3 (nI s) (nI a) 1 = some (tl5 m2 (ff m2 (-2)), D4) from d1, Option.bind_some, if_pos rfl]
  exact ⟨D4, hs, rfl, d2⟩
set_option maxHeartbeats 1000000 in
theorem cuF (h : RO D m hs im) (on : m 115 = 1) {s a : Nat} (hs4 : s < 4) (ha : a < 25) : ∃ (D' : TD) (hs' : List Row), g_L_isCut D (nI s) (nI a) = some (1, D') ∧ RO D' m hs' im := by
  obtain ⟨r, a1, a2⟩ := O_needed h (nI s)
  unfold g_L_isCut
  rw [a2, Option.bind_some]
  obtain ⟨r2, b1, b2, b3⟩ := O_operations h (nI s)
  have er : r2 = r := Option.some.inj (b1.symm.trans a1)
  subst er
  by_cases hr : r2 = 0
  · subst hr
    obtain ⟨rr, f1, f2, f3⟩ := refF h.1.1 h.1.2 (nI s)
    have hrr : rr = 0 := Option.some.inj (f2.symm.trans a1)
    obtain ⟨-, s', c, su, pa, hs', es, hc, hc1, hc2, hsu, hsu2, hpa, hpa1, hpa2⟩ := f3 hrr
    have ess : s = s' := (nI_inj (by omega) (by omega)).mp es
    subst ess
    obtain ⟨all, nu, zf, g1, g2, g3, g4, g5, g6, G⟩ := SELL h.1.2 on hs4 hc hc1 hc2 ⟨su, hsu, hsu2⟩ ⟨pa, hpa, hpa1, hpa2⟩
    have hk : (if m 117 = 4 then (11 : Int32) else 4) = nI (if m 117 = 4 then 11 else 4) := by split <;> rfl
    rw [if_pos rfl, hk]
    generalize (if m 117 = 4 then 11 else 4 : Nat) = k1 at g3 G ⊢
    -- operations
    obtain ⟨r', m', D8, o1, o2, o3⟩ := b3 rfl
    obtain ⟨n', p1, p2, p3, -⟩ := (G (upd m 126 (-9)) eqx_126 (by rw [pk_us]; exact Or.inl rfl)).1 (by rw [pk_us]; exact Or.inl rfl)
    obtain ⟨-, em⟩ := Prod.mk.inj (Option.some.inj (o1.symm.trans p1))
    subst em
    have hops : m' 125 - m 125 = nI all := by
      rw [p3, pk_un (by decide), Int32.add_comm, Int32.add_sub_cancel]
    rw [o2, hops, Option.bind_some, if_pos (nI_pos' (n := k1) (by omega))]
    have T2 : ∀ (D : TD) (hs : List Row) (y : Row), RO D y hs im → y 115 = 1 → g_O_told D 2 = some (y 118) := by
      intro D hs y hR hy
      have := O_told hR (j := 2) (by decide)
      rw [show tld y 2 = y 118 from if_neg (by rw [hy]; decide)] at this
      exact this
    dsimp only
    rw [T2 D8 hs m o3 on, Option.bind_some]
    -- after
    have AG : ∀ (t : Nat), t ≤ 30 → ∃ (r' : Int32) (ma m2 : Row), g_X7_sellNow (upd m 126 (nI t)) (nI s) = some (r', ma) ∧ awk ma = some m2 ∧ IV m2 ∧ m2 115 = 1 ∧ (∀ i, i < 110 → m2 i = ma i) ∧ ∀ (D : TD) (hs : List Row), RO D m hs im → ∀ j, j < 5 → ∃ D', g_O_after D (nI s) (nI t) (nI j) = some (aftv m2 j, D') ∧ RO D' m hs im := by
      intro t ht
      obtain ⟨r, c1, -, c2⟩ := O_after h (nI s) ht (show 0 < 5 by decide)
      obtain ⟨r', ma, m2, D', q1, q2, q3, q4, q5, q6, q7⟩ := c2 (Option.some.inj (c1.symm.trans a1))
      refine ⟨r', ma, m2, q1, q2, q5, q6, q7, fun D hs hR j hj => ?_⟩
      obtain ⟨r, c1, -, c2⟩ := O_after hR (nI s) ht hj
      obtain ⟨r'', ma', m2', D'', z1, z2, z3, z4, -⟩ := c2 (Option.some.inj (c1.symm.trans a1))
      obtain ⟨-, e2⟩ := Prod.mk.inj (Option.some.inj (z1.symm.trans q1))
      subst e2
      have e3 : m2' = m2 := Option.some.inj (z2.symm.trans q2)
      subst e3
      exact ⟨D'', z3, z4⟩
    obtain ⟨r', ma, m2, q1, q2, q5, q6, q7, A⟩ := AG a (by omega)
    have CR := cutR (by omega) g1 g2 g3 g5 g6 G q1 q2 q5 q6 q7
    obtain ⟨D9, w1, w2⟩ := A D8 hs o3 2 (by decide)
    rw [show g_O_after D8 (nI s) (nI a) 2 = some (m2 118, D9) from w1, Option.bind_some]
    dsimp only
    rw [if_neg (nI_ge (a := k1) (b := all + 1) (by omega) (by omega) |> fun z => fun y => absurd ((nI_ltI (by omega) (by omega)).mp y) (by omega))]
    -- the changes that are made and undone
    have hend : ∀ (D : TD) (hs : List Row), RO D m hs im → ∃ (D' : TD) (hs' : List Row), g_L_isCut_111 (nI s) (nI a) (nI all) (m 118) (m2 118) D = some (1, D') ∧ RO D' m hs' im := by
      intro D hs hR
      unfold g_L_isCut_111 g_L_isCut_116
      obtain ⟨x0, bb, mc, D1, y1, y2, y3⟩ := O_cut (m := m) (im := im) (nI a) D hs hR
      unfold spCut at y1
      rw [if_neg (by
        rw [show inI (nI a) (-1) 100 = true by
          unfold inI
          rw [decide_eq_false (show ¬ nI a < -1 from fun z => nI_neg (n := a) (by omega) (Int32.lt_trans z (by decide))), decide_eq_false (show ¬ (100 : Int32) < nI a from nI_nlt (a := 100) (b := a) (by omega) (by decide))]
          rfl]
        decide), if_pos (nI_pos' (n := a) (by omega))] at y1
      obtain ⟨e1, e2⟩ := Prod.mk.inj (Option.some.inj y1)
      obtain ⟨e2, e3⟩ := Prod.mk.inj e2
      subst e1 e2 e3
      replace y2 : g_O_cut D (nI a) = some (m 126, D1) := y2
      replace y3 : RO D1 (upd m 126 (nI a)) (rem8 hs m) im := y3
      rw [y2, Option.bind_some]
      obtain ⟨x1, bb, ms, D3, z1, z2, z3⟩ := O_sell (m := upd m 126 (nI a)) (im := im) (nI s) D1 (rem8 hs m) y3
      unfold spSell at z1
      rw [ref126 hs4, a1, Option.bind_some, if_pos rfl, q1, Option.bind_some] at z1
      obtain ⟨e1, e2⟩ := Prod.mk.inj (Option.some.inj z1)
      obtain ⟨e2, e3⟩ := Prod.mk.inj e2
      subst e1 e2 e3
      replace z2 : g_O_sell D1 (nI s) = some (r', D3) := z2
      replace z3 : RO D3 ma (rem8 (rem8 hs m) (upd m 126 (nI a))) im := z3
      have hWc : WI (upd m 126 (nI a)) := y3.2.1
      dsimp only
      rw [z2, Option.bind_some]
      dsimp only
      rcases CR with ⟨c1, rfl, c3, rfl, c5, c6, c7⟩ | ⟨c1, rfl, c3, c4⟩
      · have hn4 : ¬ nI nu = -4 := fun z => nI_neg (n := nu) (by omega) (by rw [z]; decide)
        rw [if_neg hn4]
        unfold g_L_isCut_147
        rw [if_neg i1ne, if_neg hn4]
        unfold g_L_isCut_166
        rw [if_pos (show nI all ≤ nI a from (nI_leI (by omega) (by omega)).mpr c1)]
        unfold g_L_isCut_177
        rw [if_pos rfl, T2 D3 _ m2 z3 c3, Option.bind_some, if_pos rfl, (O_recs z3).1, Option.bind_some]
        dsimp only
        rw [(O_recs z3).1, Option.bind_some, if_pos rfl]
        unfold g_L_isCut_208
        dsimp only
        rw [(O_recs z3).1, Option.bind_some]
        dsimp only
        rw [(O_recs z3).2, Option.bind_some, if_neg hn4]
        obtain ⟨h', k2, -, -⟩ := z3.rem2 hR.len
        exact cutE g1 on A h.2.1 hWc k2
      · obtain ⟨m3, D4, v1, v2, v3, v4, v5, v6⟩ := z3.sta c3
        have e3 : m3 = m2 := by
          unfold awk at q2
          rw [if_pos c3] at q2
          exact Option.some.inj (v1.symm.trans q2)
        subst e3
        rw [if_pos rfl, v2, Option.bind_some]
        unfold g_L_isCut_147
        rw [if_neg i1ne, if_pos rfl]
        unfold g_L_isCut_166
        rw [if_neg (show ¬ nI all ≤ nI a from fun z => absurd ((nI_leI (by omega) (by omega)).mp z) (by omega))]
        unfold g_L_isCut_177
        dsimp only
        rw [if_pos rfl, T2 D4 _ m3 v3 v5, Option.bind_some, if_pos rfl, (O_recs v3).1, Option.bind_some]
        dsimp only
        rw [(O_recs v3).1, Option.bind_some, if_pos rfl]
        unfold g_L_isCut_208
        dsimp only
        rw [(O_recs v3).1, Option.bind_some]
        dsimp only
        rw [(O_recs v3).2, Option.bind_some, if_pos rfl]
        obtain ⟨h', k2⟩ := v3.rem3 hR.len
        obtain ⟨D5, u1, u2⟩ := O_undo z3.2.1 k2
        dsimp only
        rw [u1, Option.bind_some]
        exact cutE g1 on A h.2.1 hWc u2
    rcases CR with ⟨c1, c2, c3, c4, c5, c6, c7⟩ | ⟨c1, c2, c3, c4⟩
    · rw [if_neg c6]
      unfold g_L_isCut_74
      rw [if_pos (show nI k1 ≤ nI a from (nI_leI (by omega) (by omega)).mpr (by omega))]
      unfold g_L_isCut_84
      rw [if_pos rfl, if_neg (show ¬ nI a < nI all from fun z => absurd ((nI_ltI (by omega) (by omega)).mp z) (by omega))]
      obtain ⟨D10, w3, w4⟩ := A D9 hs w2 1 (by decide)
      obtain ⟨r3, ma3, m3, s1, s2, s5, s6, s7, A3⟩ := AG 30 (by omega)
      obtain ⟨D11, w5, w6⟩ := A3 D10 hs w4 1 (by decide)
      have e31 : aftv m2 1 = aftv m3 1 := by
        rcases cutR (by omega) g1 g2 g3 g5 g6 G s1 s2 s5 s6 s7 with ⟨x1, x2, x3, x4, x5, x6, x7⟩ | ⟨x1, -⟩
        · subst c4 x4
          exact co_low (kd := -2) (fun i hi => (c5.low i hi).trans (x5.low i hi).symm)
        · omega
      rw [show g_O_after D9 (nI s) (nI a) 1 = some (aftv m2 1, D10) from w3, Option.bind_some]
      dsimp only
      rw [show g_O_after D10 (nI s) 30 1 = some (aftv m3 1, D11) from w5, Option.bind_some, if_pos e31]
      exact hend D11 hs w6
    · by_cases hak : a < k1
      · rw [if_pos (c4.mpr hak)]
        unfold g_L_isCut_74
        rw [if_neg (show ¬ nI k1 ≤ nI a from fun z => absurd ((nI_leI (by omega) (by omega)).mp z) (by omega))]
        unfold g_L_isCut_84
        rw [if_pos rfl, if_pos (show nI a < nI all from (nI_ltI (by omega) (by omega)).mpr c1)]
        exact hend D9 hs w2
      · rw [if_neg (fun z => hak (c4.mp z))]
        unfold g_L_isCut_74
        rw [if_pos (show nI k1 ≤ nI a from (nI_leI (by omega) (by omega)).mpr (by omega))]
        unfold g_L_isCut_84
        rw [if_pos rfl, if_pos (show nI a < nI all from (nI_ltI (by omega) (by omega)).mpr c1)]
        exact hend D9 hs w2
  · rw [if_neg hr]
    obtain ⟨D1, d1, d2⟩ := b2 hr
    have hneg : ¬ (0 : Int32) ≤ r2 := by
      rcases refV a1 with e | e | e | e
      · exact absurd e hr
      · rw [e]; decide
      · rw [e]; decide
      · rw [e]; decide
    rw [d1, Option.bind_some, if_neg hneg, if_pos rfl]
    obtain ⟨r, c1, c2, -⟩ := O_after d2 (nI s) (show a ≤ 30 by omega) (show 0 < 5 by decide)
    have e : r = r2 := Option.some.inj (c1.symm.trans a1)
    subst e
    obtain ⟨D2, c3, c4⟩ := c2 hr
    dsimp only
    rw [show g_O_after D1 (nI s) (nI a) 0 = some (r, D2) from c3, Option.bind_some, if_pos rfl]
    exact ⟨D2, hs, rfl, c4⟩
end LK

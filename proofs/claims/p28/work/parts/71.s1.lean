-- flash operations one behind another: how many are done before the cut
section SQS
variable {m x y : Row} {b k B S P : Nat}
def mi1 (x : Int32) : Int32 := if x = -9 then -9 else x - 1
def tick (m : Row) : Row := upd (upd m 126 (mi1 (m 126))) 125 (m 125 + 1)
def cutm (m : Row) : Row := upd (upd m 126 (-9)) 115 0
theorem tick_n {i : Nat} (h : i ≠ 125) (h2 : i ≠ 126) : tick m i = m i := by simp [tick, upd, h, h2]
theorem tick_126 : tick m 126 = mi1 (m 126) := by simp [tick, upd]
theorem tick_125 : tick m 125 = m 125 + 1 := by simp [tick, upd]
theorem cutm_n {i : Nat} (h : i ≠ 115) (h2 : i ≠ 126) : cutm m i = m i := by simp [cutm, upd, h, h2]
theorem LV_mi {x : Int32} (h : LV x) (h0 : ¬ x = 0) : LV (mi1 x) := by
  rcases h with h9 | ⟨c, hc, e⟩
  · exact Or.inl (by rw [h9]; rfl)
  · have hc0 : 0 < c := by
      rcases Nat.eq_zero_or_pos c with h | h
      · subst h; exact absurd e h0
      · exact h
    obtain ⟨d, rfl⟩ : ∃ d, c = d + 1 := ⟨c - 1, by omega⟩
    refine Or.inr ⟨d, by omega, ?_⟩
    unfold mi1
    rw [e, if_neg (nI_n9 (by omega)), nI_pred]
theorem can7 (h : LV (m 126)) : g_X7_canOperate m = some (if m 126 = 0 then (0, cutm m) else (1, tick m)) := by
  unfold g_X7_canOperate
  by_cases h0 : m 126 = 0
  · rw [if_pos h0, if_pos h0]; rfl
  · rw [if_neg h0, if_neg h0]
    have t126 : (126 : Int32).toNatClampNeg = 126 := by decide
    rcases h with h9 | ⟨c, hc, e⟩
    · rw [if_pos (by rw [h9]; decide)]
      unfold g_X7_canOperate_52 tick mi1
      rw [if_neg (by decide), t126, if_pos h9, h9, show ((-9 : Int32) - 0) = -9 by decide, pk_un (by decide)]
    · have hc0 : 0 < c := by
        rcases Nat.eq_zero_or_pos c with h | h
        · subst h; exact absurd e h0
        · exact h
      rw [if_neg (by rw [e]; exact nI_nle (by omega) (by omega))]
      unfold g_X7_canOperate_52 tick mi1
      rw [if_neg (by decide), t126, if_neg (by rw [e]; exact nI_n9 (by omega)), pk_un (by decide)]
theorem put7 (h : LV (m 126)) (hb : b < 5) (hk : k < 22) {v : Int32} : g_X7_put m (nI b) (nI k) v = some (if m 126 = 0 then (0, cutm m) else (1, upd (tick m) (22 * b + k) v)) := by
  unfold g_X7_put g_X7_put_23
  rw [can7 h, Option.bind_some, ix7 hb hk, nI_clamp (by omega)]
  by_cases h0 : m 126 = 0
  · rw [if_pos h0, if_pos h0]
    simp only [i00, o0, if_true, true_or, or_true, not_true_eq_false, if_false]
  · rw [if_neg h0, if_neg h0]
    rw [if_neg i1ne]
    have hg : ¬ (nI (22 * b + k) < 0 ∨ 131 ≤ 22 * b + k) := by
      rintro (z | z)
      · exact nI_neg (by omega) z
      · omega
    rw [if_neg hg]
    simp only [o1, true_or, or_true, not_true_eq_false, if_false]
theorem era7 (h : LV (m 126)) (hb : b < 5) : g_X7_erase m (nI b) = some (if m 126 = 0 then (0, cutm m) else (1, upd (fil (tick m) b 0) (110 + b) (tick m (110 + b) + 1))) := by
  unfold g_X7_erase
  rw [can7 h, Option.bind_some]
  by_cases h0 : m 126 = 0
  · rw [if_pos h0, if_pos h0]
    simp only [g_X7_erase_49, i00, o0, if_true, true_or, or_true, not_true_eq_false, if_false]
  · rw [if_neg h0, if_neg h0]
    rw [if_neg i1ne]
    have := er7_loop (r := 1) hb 22 0 30 (tick m) (by omega) (by omega)
    rw [nI_0] at this
    refine this.trans ?_
    simp only [g_X7_erase_49, o1, true_or, or_true, not_true_eq_false, if_false]
abbrev Op : Type := Row → Row
def oput (i : Nat) (v : Int32) : Op := fun x => upd x i v
def oera (b : Nat) : Op := fun x => upd (fil x b 0) (110 + b) (x (110 + b) + 1)
def SQ : List Op → Row → Int32 × Row
  | [], m => (1, m)
  | o :: l, m => if m 126 = 0 then (0, cutm m) else SQ l (o (tick m))
/-- an operation touches the flash alone -/
def goodO (o : Op) : Prop := (∀ x y : Row, (∀ i, i < 110 → x i = y i) → ∀ i, i < 110 → o x i = o y i) ∧ ∀ (x : Row) (i : Nat), 115 ≤ i → o x i = x i
theorem good_put {i : Nat} {v : Int32} (hi : i < 110) : goodO (oput i v) := by
  refine ⟨fun x y h j hj => ?_, fun x j hj => pk_un (by omega)⟩
  unfold oput upd
  by_cases e : j = i
  · rw [if_pos e, if_pos e]
  · rw [if_neg e, if_neg e]; exact h j hj
theorem good_era (hb : b < 5) : goodO (oera b) := by
  refine ⟨fun x y h j hj => ?_, fun x j hj => ?_⟩
  · unfold oera
    rw [pk_un (by omega), pk_un (by omega)]
    unfold fil
    by_cases e : 22 * b + 0 ≤ j ∧ j < 22 * b + 22
    · rw [if_pos e, if_pos e]
    · rw [if_neg e, if_neg e]; exact h j hj
  · unfold oera
    rw [pk_un (by omega)]
    unfold fil
    rw [if_neg (by omega)]
theorem stp7 {Pz : Option (Int32 × Row)} {o : Op} {K : Int32 × Row → Option (Int32 × Row)} {l : List Op} (fin : Int32 × Row → Int32 × Row) (hP : Pz = some (if x 126 = 0 then (0, cutm x) else (1, o (tick x)))) (hF : K (0, cutm x) = some (fin (0, cutm x))) (hG : ¬ x 126 = 0 → K (1, o (tick x)) = some (fin (SQ l (o (tick x))))) : Pz.bind K = some (fin (SQ (o :: l) x)) := by
  rw [hP, Option.bind_some]
  show K _ = some (fin (if x 126 = 0 then (0, cutm x) else SQ l (o (tick x))))
  by_cases h0 : x 126 = 0
  · rw [if_pos h0, if_pos h0]; exact hF
  · rw [if_neg h0, if_neg h0]; exact hG h0
/-- what no flash operation changes -/
def KP (m x : Row) : Prop := (∀ i, 115 ≤ i → i ≠ 125 → i ≠ 126 → x i = m i) ∧ LV (x 126)
theorem KP.step {o : Op} (h : KP m x) (h0 : ¬ x 126 = 0) (ho : goodO o) : KP m (o (tick x)) := by
  refine ⟨fun i h1 h2 h3 => ?_, ?_⟩
  · rw [ho.2 _ i h1, tick_n h2 h3]; exact h.1 i h1 h2 h3
  · rw [ho.2 _ 126 (by decide), tick_126]; exact LV_mi h.2 h0
def finB (B : Nat) (z : Int32 × Row) : Int32 × Row := if z.1 = 0 then (0, z.2) else (1, upd (upd z.2 116 (nI (nxb B))) 117 0)
def finW (z : Int32 × Row) : Int32 × Row := if z.1 = 0 then (0, z.2) else (1, upd (upd z.2 117 (z.2 117 + 1)) 118 (jrem (z.2 118 + 1) 10000))
def opsB (m : Row) (B S : Nat) : List Op := [oera (nxb B), oput (22 * nxb B + 0) (nI ((S + 1) % 10000)), oput (22 * nxb B + 1) (m 119), oput (22 * nxb B + 2) (m 120), oput (22 * nxb B + 3) (m 121), oput (22 * nxb B + 4) (m 118), oput (22 * nxb B + 5) (hc (nI ((S + 1) % 10000)) (m 119) (m 120) (m 121) (m 118))]
def opsW (B P S : Nat) (f tm v : Int32) : List Op := [oput (22 * B + (6 + 4 * P + 0)) f, oput (22 * B + (6 + 4 * P + 1)) tm, oput (22 * B + (6 + 4 * P + 2)) v, oput (22 * B + (6 + 4 * P + 3)) (rk f tm v (nI S))]
theorem goodB (hB : B < 5) : ∀ o ∈ opsB m B S, goodO o := by
  have := nxb_lt B
  intro o ho
  simp only [opsB, List.mem_cons, List.not_mem_nil, or_false] at ho
  rcases ho with rfl | rfl | rfl | rfl | rfl | rfl | rfl
  · exact good_era this
  all_goals exact good_put (by omega)
theorem goodW {f tm v : Int32} (hB : B < 5) (hP : P < 4) : ∀ o ∈ opsW B P S f tm v, goodO o := by
  intro o ho
  simp only [opsW, List.mem_cons, List.not_mem_nil, or_false] at ho
  rcases ho with rfl | rfl | rfl | rfl
  all_goals exact good_put (by omega)
set_option maxHeartbeats 1000000 in
theorem beg7 (hB : B < 5) (d0 : m 116 = nI B) (hS : m (22 * B) = nI S) (hS2 : S < 10000) (hl : LV (m 126)) : g_X7_beginBlock m = some (finB B (SQ (opsB m B S) m)) := by
  have hb := nxb_lt B
  have K0 : KP m m := ⟨fun _ _ _ _ => rfl, hl⟩
  have g := goodB (m := m) (S := S) hB
  unfold g_X7_beginBlock
  rw [d0, at_0 hB, hS, Option.bind_some, nI_nxb hB, nI_seq hS2]
  have hF : ∀ (a c : Int32) (z : Row), g_X7_beginBlock_113 a c z = some (finB B (0, z)) := by
    intro a c z
    simp only [g_X7_beginBlock_113, g_X7_beginBlock_114, g_X7_beginBlock_166, g_X7_beginBlock_167, g_X7_beginBlock_190, finB, i00, o0, if_true, true_or, or_true, not_true_eq_false, if_false]
  have hF2 : ∀ (a : Int32) (z : Row), g_X7_beginBlock_166 a z = some (finB B (0, z)) := by
    intro a z
    simp only [g_X7_beginBlock_166, g_X7_beginBlock_167, g_X7_beginBlock_190, finB, i00, o0, if_true, true_or, or_true, not_true_eq_false, if_false]
  refine stp7 (o := oera (nxb B)) (finB B) (era7 hl hb) (by rw [if_pos rfl]; exact hF _ _ _) (fun z0 => ?_)
  have K1 := K0.step z0 (g _ (by simp [opsB]) : goodO (oera (nxb B)))
  generalize oera (nxb B) (tick m) = m1 at K1 ⊢
  rw [if_neg i1ne]
  try dsimp only
  refine stp7 (o := oput (22 * nxb B + 0) (nI ((S + 1) % 10000))) (finB B) (put7 (k := 0) K1.2 hb (by decide)) (by rw [if_pos rfl]; exact hF _ _ _) (fun z0 => ?_)
  have K2 := K1.step z0 (good_put (i := 22 * nxb B + 0) (v := nI ((S + 1) % 10000)) (by omega))
  generalize oput (22 * nxb B + 0) (nI ((S + 1) % 10000)) (tick m1) = m2 at K2 ⊢
  rw [if_neg i1ne]
  try dsimp only
  refine stp7 (o := oput (22 * nxb B + 1) (m 119)) (finB B) (by rw [show m2 119 = m 119 from K2.1 119 (by decide) (by decide) (by decide)]; exact put7 (k := 1) K2.2 hb (by decide)) (by rw [if_pos rfl]; exact hF _ _ _) (fun z0 => ?_)
  have K3 := K2.step z0 (good_put (i := 22 * nxb B + 1) (v := m 119) (by omega))
  generalize oput (22 * nxb B + 1) (m 119) (tick m2) = m3 at K3 ⊢
  rw [if_neg i1ne]
  try dsimp only
  refine stp7 (o := oput (22 * nxb B + 2) (m 120)) (finB B) (by rw [show m3 120 = m 120 from K3.1 120 (by decide) (by decide) (by decide)]; exact put7 (k := 2) K3.2 hb (by decide)) (by rw [if_pos rfl]; exact hF _ _ _) (fun z0 => ?_)
  have K4 := K3.step z0 (good_put (i := 22 * nxb B + 2) (v := m 120) (by omega))
  generalize oput (22 * nxb B + 2) (m 120) (tick m3) = m4 at K4 ⊢
  rw [if_neg i1ne]
  try dsimp only
  refine stp7 (o := oput (22 * nxb B + 3) (m 121)) (finB B) (by rw [show m4 121 = m 121 from K4.1 121 (by decide) (by decide) (by decide)]; exact put7 (k := 3) K4.2 hb (by decide)) (by rw [if_pos rfl]; exact hF _ _ _) (fun z0 => ?_)
  have K5 := K4.step z0 (good_put (i := 22 * nxb B + 3) (v := m 121) (by omega))
  generalize oput (22 * nxb B + 3) (m 121) (tick m4) = m5 at K5 ⊢
  rw [if_neg i1ne]
  try dsimp only
  refine stp7 (o := oput (22 * nxb B + 4) (m 118)) (finB B) (by rw [show m5 118 = m 118 from K5.1 118 (by decide) (by decide) (by decide)]; exact put7 (k := 4) K5.2 hb (by decide)) (by rw [if_pos rfl]; exact hF _ _ _) (fun z0 => ?_)
  have K6 := K5.step z0 (good_put (i := 22 * nxb B + 4) (v := m 118) (by omega))
  generalize oput (22 * nxb B + 4) (m 118) (tick m5) = m6 at K6 ⊢
  rw [if_neg i1ne]
  try dsimp only
  unfold g_X7_beginBlock_114
  rw [if_neg i1ne, K6.1 119 (by decide) (by decide) (by decide), K6.1 120 (by decide) (by decide) (by decide), K6.1 121 (by decide) (by decide) (by decide), K6.1 118 (by decide) (by decide) (by decide)]
  rw [show g_X7_headCheck (nI ((S + 1) % 10000)) (m 119) (m 120) (m 121) (m 118) = some (hc (nI ((S + 1) % 10000)) (m 119) (m 120) (m 121) (m 118)) from rfl, Option.bind_some]
  refine stp7 (o := oput (22 * nxb B + 5) (hc (nI ((S + 1) % 10000)) (m 119) (m 120) (m 121) (m 118))) (finB B) (put7 (k := 5) K6.2 hb (by decide)) (by rw [if_pos rfl]; exact hF2 _ _) (fun z0 => ?_)
  rw [if_neg i1ne]
  try dsimp only
  simp only [g_X7_beginBlock_167, g_X7_beginBlock_190, SQ, finB, o1, i10, true_or, or_true, not_true_eq_false, if_false]
set_option maxHeartbeats 1000000 in
theorem wri7 {kd tm v f : Int32} (hB : B < 5) (hP : P < 4) (d0 : m 116 = nI B) (d1 : m 117 = nI P) (hS : m (22 * B) = nI S) (hl : LV (m 126)) (hf : 10000 * kd + m 118 = f) : g_X7_write_20 kd tm v m = some (finW (SQ (opsW B P S f tm v) m)) := by
  have K0 : KP m m := ⟨fun _ _ _ _ => rfl, hl⟩
  have hwo : g_X7_wordOf (nI P) 0 = some (nI (6 + 4 * P)) := by
    unfold g_X7_wordOf
    rw [show (4 : Int32) = nI 4 from rfl, show (6 : Int32) = nI 6 from rfl, show (0 : Int32) = nI 0 from rfl, pk_mul, nI_add, nI_add]
    rfl
  have hx1 : nI (6 + 4 * P) + 1 = nI (6 + 4 * P + 1) := nI_1 _
  have hx2 : nI (6 + 4 * P) + 2 = nI (6 + 4 * P + 2) := nI_add _ 2
  have hx3 : nI (6 + 4 * P) + 3 = nI (6 + 4 * P + 3) := nI_add _ 3
  have hF : ∀ (z : Row), g_X7_write_129 z = some (finW (0, z)) := by
    intro z
    simp only [g_X7_write_129, g_X7_write_130, g_X7_write_168, finW, i00, o0, if_true, true_or, or_true, not_true_eq_false, if_false]
  unfold g_X7_write_20
  rw [d0, d1, hwo, Option.bind_some, hf, hx1, hx2, hx3]
  refine stp7 (o := oput (22 * B + (6 + 4 * P + 0)) f) finW (put7 (k := 6 + 4 * P + 0) hl hB (by omega)) (by rw [if_pos rfl]; exact hF _) (fun z0 => ?_)
  have K1 := K0.step z0 (good_put (i := 22 * B + (6 + 4 * P + 0)) (v := f) (by omega))
  have s1 : oput (22 * B + (6 + 4 * P + 0)) f (tick m) (22 * B) = nI S := by
    unfold oput
    rw [pk_un (by omega), tick_n (by omega) (by omega), hS]
  generalize oput (22 * B + (6 + 4 * P + 0)) f (tick m) = m1 at K1 s1 ⊢
  rw [if_neg i1ne]
  try dsimp only
  refine stp7 (o := oput (22 * B + (6 + 4 * P + 1)) tm) finW (put7 (k := 6 + 4 * P + 1) K1.2 hB (by omega)) (by rw [if_pos rfl]; exact hF _) (fun z0 => ?_)
  have K2 := K1.step z0 (good_put (i := 22 * B + (6 + 4 * P + 1)) (v := tm) (by omega))
  have s2 : oput (22 * B + (6 + 4 * P + 1)) tm (tick m1) (22 * B) = nI S := by
    unfold oput
    rw [pk_un (by omega), tick_n (by omega) (by omega), s1]
  generalize oput (22 * B + (6 + 4 * P + 1)) tm (tick m1) = m2 at K2 s2 ⊢
  rw [if_neg i1ne]
  try dsimp only
  refine stp7 (o := oput (22 * B + (6 + 4 * P + 2)) v) finW (put7 (k := 6 + 4 * P + 2) K2.2 hB (by omega)) (by rw [if_pos rfl]; exact hF _) (fun z0 => ?_)
  have K3 := K2.step z0 (good_put (i := 22 * B + (6 + 4 * P + 2)) (v := v) (by omega))
  have s3 : oput (22 * B + (6 + 4 * P + 2)) v (tick m2) (22 * B) = nI S := by
    unfold oput
    rw [pk_un (by omega), tick_n (by omega) (by omega), s2]
  generalize oput (22 * B + (6 + 4 * P + 2)) v (tick m2) = m3 at K3 s3 ⊢
  rw [if_neg i1ne]
  try dsimp only
  rw [at_0 hB, s3, Option.bind_some, show g_X7_recordCheck f tm v (nI S) = some (rk f tm v (nI S)) from rfl, Option.bind_some]
  refine stp7 (o := oput (22 * B + (6 + 4 * P + 3)) (rk f tm v (nI S))) finW (put7 (k := 6 + 4 * P + 3) K3.2 hB (by omega)) (by rw [if_pos rfl]; exact hF _) (fun z0 => ?_)
  rw [if_neg i1ne]
  try dsimp only
  simp only [g_X7_write_130, g_X7_write_168, SQ, finW, o1, i10, true_or, or_true, not_true_eq_false, if_false]
end SQS

-- a record is written under a cut: how many operations it wants, what comes of it
section WRS
variable {m n x y z : Row} {b k B S P : Nat}
/-- alike, but for the operations done and left (and erasures) -/
def eqx (n m : Row) : Prop := ∀ i, (i < 110 ∨ 115 ≤ i) → i ≠ 125 → i ≠ 126 → n i = m i
theorem eqx.low (h : eqx n m) : ∀ i, i < 110 → n i = m i := fun i hi => h i (Or.inl hi) (by omega) (by omega)
theorem opsB_eq (h : eqx n m) : opsB n B S = opsB m B S := by
  unfold opsB
  rw [h 119 (by decide) (by decide) (by decide), h 120 (by decide) (by decide) (by decide), h 121 (by decide) (by decide) (by decide), h 118 (by decide) (by decide) (by decide)]
/-- the row behind a record that was written -/
def zW (m : Row) (B S : Nat) (f tm v nu : Int32) : Row := fun i => if i < 110 then (if nxp m B = 4 then ap (opsW (nxb B) 0 ((S + 1) % 10000) f tm v) (ap (opsB m B S) m) i else ap (opsW B (nxp m B) S f tm v) m i) else if i = 116 then (if nxp m B = 4 then nI (nxb B) else nI B) else if i = 117 then (if nxp m B = 4 then 1 else nI (nxp m B + 1)) else if i = 118 then nu else m i
/-- with so many operations a record is written (c), with fewer it isn't -/
def WRc (m : Row) (kd tm v : Int32) (c : Nat) (z : Row) (r0 : RS) : Prop := ∀ n : Row, eqx n m → LV (n 126) → (canDo (n 126) c → ∃ n' : Row, g_X7_write n kd tm v = some (1, n') ∧ eqx n' z ∧ n' 125 = n 125 + nI c ∧ n' 126 = miN (n 126) c) ∧ (¬ canDo (n 126) c → ∃ n' : Row, g_X7_write n kd tm v = some (0, n') ∧ n' 115 = 0 ∧ n' 126 = -9 ∧ (∀ i, 119 ≤ i → i ≠ 125 → i ≠ 126 → n' i = m i) ∧ (WI m → WI n') ∧ ∃ B' S' k' : Nat, FI n' B' S' k' ∧ rp n' B' 4 = r0)
theorem finW_i {z : Row} {i : Nat} (h1 : i ≠ 117) (h2 : i ≠ 118) : (finW (1, z)).2 i = z i := by
  unfold finW
  rw [if_neg i1ne]
  show (upd (upd z 117 (z 117 + 1)) 118 (jrem (z 118 + 1) 10000)) i = z i
  rw [pk_un h2, pk_un h1]
theorem finW_117 {z : Row} : (finW (1, z)).2 117 = z 117 + 1 := by
  unfold finW
  rw [if_neg i1ne]
  show (upd (upd z 117 (z 117 + 1)) 118 (jrem (z 118 + 1) 10000)) 117 = _
  rw [pk_un (by decide), pk_us]
theorem finW_118 {z : Row} : (finW (1, z)).2 118 = jrem (z 118 + 1) 10000 := by
  unfold finW
  rw [if_neg i1ne]
  exact pk_us (f := upd z 117 (z 117 + 1)) (k := 118) (x := jrem (z 118 + 1) 10000)
theorem finW_1 {z : Row} : finW (1, z) = (1, (finW (1, z)).2) := by
  unfold finW
  rw [if_neg i1ne]
theorem zW_low (hP : ¬ nxp m B = 4) {f tm v nu : Int32} : ∀ i, i < 110 → zW m B S f tm v nu i = ap (opsW B (nxp m B) S f tm v) m i := by
  intro i hi
  unfold zW
  rw [if_pos hi, if_neg hP]
theorem zW_low4 (hP : nxp m B = 4) {f tm v nu : Int32} : ∀ i, i < 110 → zW m B S f tm v nu i = ap (opsW (nxb B) 0 ((S + 1) % 10000) f tm v) (ap (opsB m B S) m) i := by
  intro i hi
  unfold zW
  rw [if_pos hi, if_pos hP]
theorem zW_hi {f tm v nu : Int32} {i : Nat} (h : 110 ≤ i) (h1 : i ≠ 116) (h2 : i ≠ 117) (h3 : i ≠ 118) : zW m B S f tm v nu i = m i := by
  unfold zW
  rw [if_neg (by omega), if_neg h1, if_neg h2, if_neg h3]
theorem zW_118 {f tm v nu : Int32} : zW m B S f tm v nu 118 = nu := rfl
theorem zW_116 {f tm v nu : Int32} : zW m B S f tm v nu 116 = if nxp m B = 4 then nI (nxb B) else nI B := rfl
theorem zW_117 {f tm v nu : Int32} : zW m B S f tm v nu 117 = if nxp m B = 4 then 1 else nI (nxp m B + 1) := rfl
set_option maxHeartbeats 1000000 in
theorem WRlo {tm v : Int32} {kd nun : Nat} (hI : FI m B S k) (hP : ¬ nxp m B = 4) (d0 : m 116 = nI B) (d1 : m 117 = nI (nxp m B)) (hnu : m 118 = nI nun) (hnl : nun < 10000) (hv : okV (nI (10000 * kd + nun)) tm v) : WRc m (nI kd) tm v 4 (zW m B S (nI (10000 * kd + nun)) tm v (nI ((nun + 1) % 10000))) (rp m B 4) := by
  intro n hn hl
  have hB := hI.1
  have hP4 : nxp m B < 4 := by have := nxp_le m B; omega
  have e117 : n 117 = nI (nxp m B) := by rw [hn 117 (by decide) (by decide) (by decide), d1]
  have e118 : n 118 = nI nun := by rw [hn 118 (by decide) (by decide) (by decide), hnu]
  have hlow := hn.low
  have hw : g_X7_write n (nI kd) tm v = some (finW (SQ (opsW B (nxp m B) S (nI (10000 * kd + nun)) tm v) n)) := by
    unfold g_X7_write
    rw [e117, if_neg (n4_ne hP4)]
    exact wri7 hB hP4 (by rw [hn 116 (by decide) (by decide) (by decide), d0]) e117 (by rw [hlow _ (by omega)]; exact FI_sB hI) hl (by rw [e118, f_nI])
  have gd4 := goodW (S := S) (f := nI (10000 * kd + nun)) (tm := tm) (v := v) hB hP4
  constructor
  · intro hc
    obtain ⟨z, z1, z2, z3, z4, z5⟩ := SQ_all _ n gd4 hc
    rw [hw, z1, finW_1]
    refine ⟨_, rfl, fun i hi h5 h6 => ?_, ?_, ?_⟩
    · by_cases hi2 : i < 110
      · rw [zW_low hP i hi2, finW_i (by omega) (by omega), z2 i hi2]
        exact ap_congr _ _ _ gd4 hlow i hi2
      · by_cases h16 : i = 116
        · subst h16
          rw [finW_i (by decide) (by decide), z3 _ (by decide) (by decide) (by decide), zW_116, if_neg hP, hn 116 (by decide) (by decide) (by decide), d0]
        · by_cases h17 : i = 117
          · subst h17
            rw [finW_117, z3 _ (by decide) (by decide) (by decide), zW_117, if_neg hP, e117, nI_1]
          · by_cases h18 : i = 118
            · subst h18
              rw [finW_118, z3 _ (by decide) (by decide) (by decide), zW_118, e118, nI_seq hnl]
            · rw [finW_i h17 h18, z3 i (by omega) h5 h6, zW_hi (by omega) h16 h17 h18]
              exact hn i hi h5 h6
    · rw [finW_i (by decide) (by decide), z4]; rfl
    · rw [finW_i (by decide) (by decide), z5]; rfl
  · intro hc
    obtain ⟨c, c1, c2, c3⟩ := (canDo_or hl 4).resolve_left hc
    obtain ⟨z, z1, z2, z3, z4, z5⟩ := SQ_cut (opsW B (nxp m B) S (nI (10000 * kd + nun)) tm v) n c gd4 c1 c2 c3
    obtain ⟨r1, r2, r3⟩ := RCfail (z := z) hI hP4 (fun j h1 h2 => nxp_em j h1 h2) hv c1 (fun i hi => by
      rw [z2 i hi]
      exact ap_congr _ _ _ (fun o h => gd4 o (List.mem_of_mem_take h)) hlow i hi)
    rw [hw, z1]
    exact ⟨z, rfl, z4, z5, fun i i1 i2 i3 => by rw [z3 i (by omega) i2 i3]; exact hn i (by omega) i2 i3, r3, B, S, k, r1, r2⟩
set_option maxHeartbeats 1000000 in
theorem WRhi {tm v : Int32} {kd nun : Nat} (hI : FI m B S k) (hP : nxp m B = 4) (d0 : m 116 = nI B) (d1 : m 117 = nI (nxp m B)) (dr : (m 118, m 119, m 120, m 121) = rp m B 4) (hnu : m 118 = nI nun) (hnl : nun < 10000) (hv : okV (nI (10000 * kd + nun)) tm v) : WRc m (nI kd) tm v 11 (zW m B S (nI (10000 * kd + nun)) tm v (nI ((nun + 1) % 10000))) (rp m B 4) := by
  intro n hn hl
  have hB := hI.1
  have hb := nxb_lt B
  have hS2 : (S + 1) % 10000 < 10000 := Nat.mod_lt _ (by decide)
  have hg : gd (m 118, m 119, m 120, m 121) := by rw [dr]; exact hI.2.2.2.2.2.2 4 (Nat.le_refl 4)
  have e117 : n 117 = 4 := by rw [hn 117 (by decide) (by decide) (by decide), d1, hP]; rfl
  have hlow := hn.low
  have g7 := goodB (m := m) (S := S) hB
  have hw : g_X7_write n (nI kd) tm v = (some (finB B (SQ (opsB m B S) n))).bind fun o12 => (if o12.1 = 0 then some (0, o12.2) else g_X7_write_20 (nI kd) tm v o12.2) := by
    unfold g_X7_write
    rw [if_pos e117, beg7 hB (by rw [hn 116 (by decide) (by decide) (by decide), d0]) (by rw [hlow _ (by omega)]; exact FI_sB hI) hI.2.1 hl, opsB_eq hn]
  rw [Option.bind_some] at hw
  rcases canDo_or hl 7 with h7 | ⟨c, c1, c2, c3⟩
  · obtain ⟨z, z1, z2, z3, z4, z5⟩ := SQ_all (opsB m B S) n g7 h7
    have hz : ∀ i, i < 110 → z i = ap (opsB m B S) m i := fun i hi => (z2 i hi).trans (ap_congr _ _ _ g7 hlow i hi)
    rw [z1] at hw
    have hx : finB B (1, z) = (1, upd (upd z 116 (nI (nxb B))) 117 0) := by unfold finB; rw [if_neg i1ne]
    rw [hx, if_neg i1ne] at hw
    have xi : ∀ i, i ≠ 116 → i ≠ 117 → (upd (upd z 116 (nI (nxb B))) 117 0) i = z i := fun i h1 h2 => by rw [pk_un h2, pk_un h1]
    have x116 : (upd (upd z 116 (nI (nxb B))) 117 0) 116 = nI (nxb B) := by rw [pk_un (by decide), pk_us]
    have x117 : (upd (upd z 116 (nI (nxb B))) 117 0) 117 = nI 0 := by rw [pk_us, nI_0]
    dsimp only at hw
    generalize upd (upd z 116 (nI (nxb B))) 117 0 = x at hw xi x116 x117
    have hxz : ∀ i, i < 110 → x i = ap (opsB m B S) m i := fun i hi => (xi i (by omega) (by omega)).trans (hz i hi)
    obtain ⟨b1, b2, b3, b4⟩ := BGok hI hg hxz
    have x126 : x 126 = miN (n 126) 7 := by rw [xi _ (by decide) (by decide), z5]; rfl
    have x118 : x 118 = nI nun := by rw [xi _ (by decide) (by decide), z3 _ (by decide) (by decide) (by decide), hn 118 (by decide) (by decide) (by decide), hnu]
    have xl : LV (x 126) := by rw [x126]; exact LV_miN h7
    have x0 : nxp x (nxb B) = 0 := nxp_of (by decide) (fun j _ h2 => b3 j h2) (fun j h => absurd h (Nat.succ_ne_zero j))
    rw [wri7 (P := 0) hb (by decide) x116 x117 (FI_sB b1) xl (by rw [x118, f_nI])] at hw
    have gd4 := goodW (P := 0) (S := (S + 1) % 10000) (f := nI (10000 * kd + nun)) (tm := tm) (v := v) hb (by decide)
    constructor
    · intro hc
      obtain ⟨y, y1, y2, y3, y4, y5⟩ := SQ_all _ x gd4 (by rw [x126]; exact (canDo_add h7).mpr hc)
      rw [hw, y1, finW_1]
      refine ⟨_, rfl, fun i hi h5 h6 => ?_, ?_, ?_⟩
      · by_cases hi2 : i < 110
        · rw [zW_low4 hP i hi2, finW_i (by omega) (by omega), y2 i hi2]
          exact ap_congr _ _ _ gd4 hxz i hi2
        · by_cases h16 : i = 116
          · subst h16
            rw [finW_i (by decide) (by decide), y3 _ (by decide) (by decide) (by decide), zW_116, if_pos hP, x116]
          · by_cases h17 : i = 117
            · subst h17
              rw [finW_117, y3 _ (by decide) (by decide) (by decide), zW_117, if_pos hP, x117]; decide
            · by_cases h18 : i = 118
              · subst h18
                rw [finW_118, y3 _ (by decide) (by decide) (by decide), zW_118, x118, nI_seq hnl]
              · rw [finW_i h17 h18, y3 i (by omega) h5 h6, xi i h16 h17, z3 i (by omega) h5 h6, zW_hi (by omega) h16 h17 h18]
                exact hn i hi h5 h6
      · rw [finW_i (by decide) (by decide), y4, xi _ (by decide) (by decide), z4, Int32.add_assoc]
        exact congrArg (n 125 + ·) (nI_add 7 4)
      · rw [finW_i (by decide) (by decide), y5, x126]
        exact miN_add (n := 7) (k := 4) h7 hc
    · intro hc
      obtain ⟨c, c1, c2, c3⟩ := (canDo_or xl 4).resolve_left (fun h => hc ((canDo_add h7).mp (by rw [← x126]; exact h)))
      obtain ⟨y, y1, y2, y3, y4, y5⟩ := SQ_cut (opsW (nxb B) 0 ((S + 1) % 10000) (nI (10000 * kd + nun)) tm v) x c gd4 c1 c2 c3
      obtain ⟨r1, r2, r3⟩ := RCfail (z := y) b1 (by decide) (fun j _ h2 => b3 j h2) hv c1 y2
      rw [hw, y1]
      exact ⟨y, rfl, y4, y5, fun i i1 i2 i3 => by rw [y3 i (by omega) i2 i3, xi i (by omega) (by omega), z3 i (by omega) i2 i3]; exact hn i (by omega) i2 i3, fun w => r3 (b4 w), _, _, _, r1, by rw [r2, b2, dr]⟩
  · obtain ⟨z, z1, z2, z3, z4, z5⟩ := SQ_cut (opsB m B S) n c g7 c1 c2 c3
    obtain ⟨k', r1, r2, r3⟩ := BGfail (z := z) hI hg c1 (fun i hi => by
      rw [z2 i hi]
      exact ap_congr _ _ _ (fun o h => g7 o (List.mem_of_mem_take h)) hlow i hi)
    rw [z1] at hw
    refine ⟨fun hc => absurd hc (canDo_not (n := 11) (by omega) c2 c3), fun _ => ⟨z, hw, z4, z5, fun i i1 i2 i3 => by rw [z3 i (by omega) i2 i3]; exact hn i (by omega) i2 i3, r3, B, S, k', r1, r2⟩⟩
/-- how many operations the next record wants -/
def cst (m : Row) (B : Nat) : Nat := if nxp m B = 4 then 11 else 4
theorem WRT {tm v : Int32} {kd nun : Nat} (hI : FI m B S k) (d0 : m 116 = nI B) (d1 : m 117 = nI (nxp m B)) (dr : (m 118, m 119, m 120, m 121) = rp m B 4) (hnu : m 118 = nI nun) (hnl : nun < 10000) (hv : okV (nI (10000 * kd + nun)) tm v) (hg : gd (lrn (rp m B 4) (nI (10000 * kd + nun)) v)) : ∃ z : Row, (∀ i, 119 ≤ i → z i = m i) ∧ z 115 = m 115 ∧ z 118 = nI ((nun + 1) % 10000) ∧ (WI m → WI z) ∧ (∃ B' S' k' : Nat, FI z B' S' k' ∧ z 116 = nI B' ∧ z 117 = nI (nxp z B') ∧ rp z B' 4 = lrn (rp m B 4) (nI (10000 * kd + nun)) v) ∧ WRc m (nI kd) tm v (cst m B) z (rp m B 4) := by
  refine ⟨zW m B S (nI (10000 * kd + nun)) tm v (nI ((nun + 1) % 10000)), fun i hi => zW_hi (by omega) (by omega) (by omega) (by omega), zW_hi (by decide) (by decide) (by decide) (by decide), zW_118, ?_⟩
  by_cases hP : nxp m B = 4
  · have hgm : gd (m 118, m 119, m 120, m 121) := by rw [dr]; exact hI.2.2.2.2.2.2 4 (Nat.le_refl 4)
    obtain ⟨b1, b2, b3, b4⟩ := BGok (z := ap (opsB m B S) m) hI hgm (fun _ _ => rfl)
    obtain ⟨r1, r2, r3, r4⟩ := RCok (P := 0) b1 (by decide) (fun j _ h2 => b3 j h2) hv (by rw [b2, dr]; exact hg) (zW_low4 (nu := nI ((nun + 1) % 10000)) hP)
    refine ⟨fun w => r4 (b4 w), ⟨_, _, _, r1, by rw [zW_116, if_pos hP], by rw [zW_117, if_pos hP, r3]; rfl, by rw [r2, b2, dr]⟩, ?_⟩
    unfold cst
    rw [if_pos hP]
    exact WRhi hI hP d0 d1 dr hnu hnl hv
  · have hP4 : nxp m B < 4 := by have := nxp_le m B; omega
    obtain ⟨r1, r2, r3, r4⟩ := RCok hI hP4 (fun j h1 h2 => nxp_em j h1 h2) hv hg (zW_low (nu := nI ((nun + 1) % 10000)) hP)
    refine ⟨r4, ⟨_, _, _, r1, by rw [zW_116, if_neg hP], by rw [zW_117, if_neg hP, r3], r2⟩, ?_⟩
    unfold cst
    rw [if_neg hP]
    exact WRlo hI hP d0 d1 hnu hnl hv
end WRS

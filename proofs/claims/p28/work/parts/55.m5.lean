-- the flash operations, class and reference side by side
section OPS
variable {m w er fl : Nat → Int32} {b k : Nat}
/-- operations left: none set, or a number up to 100 -/
def LV (x : Int32) : Prop := x = -9 ∨ ∃ c : Nat, c ≤ 100 ∧ x = nI c
def FR (w er fl m : Nat → Int32) : Prop := (∀ i, i < 110 → w i = m i) ∧ (∀ i, i < 5 → er i = m (110 + i)) ∧ fl 0 = m 125 ∧ fl 1 = m 126 ∧ LV (m 126)
theorem spF (h : FR w er fl m) : ∃ (r : Int32) (fl' m' : Nat → Int32), (r = 0 ∨ r = 1) ∧ g_X0_spendOperation fl = some (r, fl') ∧ g_X7_canOperate m = some (r, m') ∧ FR w er fl' m' ∧ (r = 0 → m' 115 = 0) ∧ (r = 1 → m' 115 = m 115) ∧ (∀ i, i ≠ 115 → i ≠ 125 → i ≠ 126 → m' i = m i) := by
  obtain ⟨h1, h2, h3, h4, h5⟩ := h
  have t126 : (126 : Int32).toNatClampNeg = 126 := by decide
  by_cases hz : m 126 = 0
  · refine ⟨0, upd fl 1 (-9), upd (upd m 126 (-9)) 115 0, Or.inl rfl, ?_, ?_, ⟨fun i hi => ?_, fun i hi => ?_, ?_, ?_, ?_⟩, fun _ => ?_, fun h => ?_, fun i i1 i2 i3 => ?_⟩
    · unfold g_X0_spendOperation
      rw [h4, if_pos hz]
    · unfold g_X7_canOperate
      rw [if_pos hz]
    · simp [upd, show ¬ i = 115 by omega, show ¬ i = 126 by omega, h1 i hi]
    · simp [upd, show ¬ 110 + i = 115 by omega, show ¬ 110 + i = 126 by omega, h2 i hi]
    · simp [upd, h3]
    · simp [upd]
    · exact Or.inl (by simp [upd])
    · simp [upd]
    · exact absurd h (by decide)
    · simp [upd, i1, i3]
  · by_cases h9 : m 126 = -9
    · refine ⟨1, upd fl 0 (fl 0 + 1), upd (upd m 126 (m 126 - 0)) 125 (m 125 + 1), Or.inr rfl, ?_, ?_, ⟨fun i hi => ?_, fun i hi => ?_, ?_, ?_, ?_⟩, fun h => ?_, fun _ => ?_, fun i i1 i2 i3 => ?_⟩
      · unfold g_X0_spendOperation g_X0_spendOperation_34
        rw [h4, if_neg hz, if_pos h9]
      · unfold g_X7_canOperate g_X7_canOperate_52
        rw [if_neg hz, if_pos (by rw [h9]; decide), if_neg (by decide), t126]
        simp [upd]
      · simp [upd, show ¬ i = 125 by omega, show ¬ i = 126 by omega, h1 i hi]
      · simp [upd, show ¬ 110 + i = 125 by omega, show ¬ 110 + i = 126 by omega, h2 i hi]
      · simp [upd, h3]
      · simp [upd, h4]
      · exact Or.inl (by simp [upd, h9])
      · exact absurd h (by decide)
      · simp [upd]
      · simp [upd, i2, i3]
    · obtain ⟨c, hc, e⟩ : ∃ c : Nat, c ≤ 100 ∧ m 126 = nI c := h5.resolve_left h9
      have hc0 : 0 < c := by
        rcases Nat.eq_zero_or_pos c with h | h
        · subst h; exact absurd e hz
        · exact h
      obtain ⟨d, rfl⟩ : ∃ d, c = d + 1 := ⟨c - 1, by omega⟩
      have es : m 126 - 1 = nI d := by rw [e, nI_pred]
      refine ⟨1, upd (upd fl 1 (fl 1 - 1)) 0 ((upd fl 1 (fl 1 - 1)) 0 + 1), upd (upd m 126 (m 126 - 1)) 125 (m 125 + 1), Or.inr rfl, ?_, ?_, ⟨fun i hi => ?_, fun i hi => ?_, ?_, ?_, ?_⟩, fun h => ?_, fun _ => ?_, fun i i1 i2 i3 => ?_⟩
      · unfold g_X0_spendOperation g_X0_spendOperation_34
        rw [h4, if_neg hz, if_neg h9]
      · unfold g_X7_canOperate g_X7_canOperate_52
        rw [if_neg hz, if_neg (by rw [e]; exact nI_nle (by omega) (by omega)), if_neg (by decide), t126]
        simp [upd]
      · simp [upd, show ¬ i = 125 by omega, show ¬ i = 126 by omega, h1 i hi]
      · simp [upd, show ¬ 110 + i = 125 by omega, show ¬ 110 + i = 126 by omega, h2 i hi]
      · simp [upd, h3]
      · simp [upd, h4]
      · refine Or.inr ⟨d, by omega, ?_⟩
        simp [upd, es]
      · exact absurd h (by decide)
      · simp [upd]
      · simp [upd, i2, i3]
theorem ix7 (hb : b < 5) (hk : k < 22) : (22 : Int32) * nI b + nI k = nI (22 * b + k) := by rw [show (22 : Int32) = nI 22 from rfl, pk_mul, nI_add]
theorem ix0 (hb : b < 5) (hk : k < 22) : nI b * (22 : Int32) + nI k = nI (22 * b + k) := by rw [show (22 : Int32) = nI 22 from rfl, pk_mul, nI_add, Nat.mul_comm b 22]
theorem n110_le {i : Nat} (h : i < 110) : ¬ (110 : Int32) ≤ nI i := nI_ge (a := i) (b := 110) h (by decide)
theorem puF {v : Int32} (h : FR w er fl m) (hb : b < 5) (hk : k < 22) : ∃ (r : Int32) (w' fl' m' : Nat → Int32), (r = 0 ∨ r = 1) ∧ g_X0_write w fl (nI b) (nI k) v = some (r, w', fl') ∧ g_X7_put m (nI b) (nI k) v = some (r, m') ∧ FR w' er fl' m' ∧ (r = 0 → m' 115 = 0 ∧ m' (22 * b + k) = m (22 * b + k)) ∧ (r = 1 → m' 115 = m 115 ∧ m' (22 * b + k) = v) ∧ (∀ i, i ≠ 22 * b + k → i ≠ 115 → i ≠ 125 → i ≠ 126 → m' i = m i) := by
  obtain ⟨r, fl', m', hr, e1, e2, hF, f1, f2, f3⟩ := spF h
  have hi : 22 * b + k < 110 := by omega
  have a1 : ∀ (w : Nat → Int32) (fl : Nat → Int32), g_X0_spendOperation fl = some (r, fl') → g_X0_write w fl (nI b) (nI k) v = if r = 0 then some (0, w, fl') else some (1, upd w (22 * b + k) v, fl') := by
    intro w fl e1
    unfold g_X0_write g_X0_write_30
    rw [ix0 hb hk, if_neg (nI_neg (by omega)), if_neg (n110_le hi), e1, Option.bind_some, if_neg (cond_nI (by omega) (by decide)), nI_clamp (by omega)]
  have a2 : g_X7_put m (nI b) (nI k) v = if r = 0 then some (0, m') else some (1, upd m' (22 * b + k) v) := by
    unfold g_X7_put g_X7_put_23
    rw [ix7 hb hk, e2, Option.bind_some, if_neg (cond_nI (by omega) (by decide)), nI_clamp (by omega)]
    rcases hr with rfl | rfl <;> rfl
  rw [a1 w fl e1, a2]
  rcases hr with rfl | rfl
  · exact ⟨0, w, fl', m', Or.inl rfl, rfl, rfl, hF, fun _ => ⟨f1 rfl, f3 _ (by omega) (by omega) (by omega)⟩, fun h => absurd h (by decide), fun i _ i1 i2 i3 => f3 i i1 i2 i3⟩
  · refine ⟨1, upd w (22 * b + k) v, fl', upd m' (22 * b + k) v, Or.inr rfl, rfl, rfl, ⟨fun i hi => ?_, fun i hi => ?_, ?_, ?_, ?_⟩, fun h => absurd h (by decide), fun _ => ⟨?_, ?_⟩, fun i i0 i1 i2 i3 => ?_⟩
    · unfold upd
      split
      · rfl
      · exact hF.1 i hi
    · simp [upd, show ¬ 110 + i = 22 * b + k by omega, hF.2.1 i hi]
    · simp [upd, show ¬ 125 = 22 * b + k by omega, hF.2.2.1]
    · simp [upd, show ¬ 126 = 22 * b + k by omega, hF.2.2.2.1]
    · simp only [upd, show ¬ 126 = 22 * b + k by omega, if_false]; exact hF.2.2.2.2
    · simp [upd, show ¬ 115 = 22 * b + k by omega, f2 rfl]
    · simp [upd]
    · simp [upd, i0, f3 i i1 i2 i3]
/-- the words of block b from j on erased -/
def fil (w : Nat → Int32) (b j : Nat) : Nat → Int32 := fun i => if 22 * b + j ≤ i ∧ i < 22 * b + 22 then 65535 else w i
theorem fil_upd {j : Nat} (hj : j < 22) : fil (upd w (22 * b + j) 65535) b (j + 1) = fil w b j := by
  funext i
  unfold fil upd
  by_cases h : i = 22 * b + j
  · subst h
    rw [if_neg (by omega), if_pos rfl, if_pos (by omega)]
  · by_cases h2 : 22 * b + (j + 1) ≤ i ∧ i < 22 * b + 22
    · rw [if_pos h2, if_pos (by omega)]
    · rw [if_neg h2, if_neg h, if_neg (by omega)]
theorem fil_22 : fil w b 22 = w := by
  funext i
  unfold fil
  rw [if_neg (by omega)]
theorem er0_loop (hb : b < 5) : ∀ (d j n : Nat) (w : Nat → Int32), j + d = 22 → d < n → g_X0_erase_27 n (nI b) (nI (22 * b + j)) w er fl = g_X0_erase_60 (nI b) (fil w b j) er fl := by
  have hx : (nI b + 1) * 22 = nI (22 * b + 22) := by
    rw [nI_1, show (22 : Int32) = nI 22 from rfl, pk_mul]
    exact congrArg nI (by omega)
  intro d
  induction d with
  | zero =>
    intro j n w hj hn
    obtain ⟨n, rfl⟩ : ∃ n', n = n' + 1 := ⟨n - 1, by omega⟩
    obtain rfl : j = 22 := by omega
    unfold g_X0_erase_27
    rw [hx, if_pos (nI_le (by omega) (by omega)), fil_22]
  | succ d ih =>
    intro j n w hj hn
    obtain ⟨n, rfl⟩ : ∃ n', n = n' + 1 := ⟨n - 1, by omega⟩
    unfold g_X0_erase_27
    rw [hx, if_neg (nI_ge (by omega) (by omega)), if_neg (n110_le (by omega)), if_neg (cond_nI (by omega) (by decide)), nI_1, nI_clamp (by omega)]
    rw [show 22 * b + j + 1 = 22 * b + (j + 1) by omega, ih (j + 1) n _ (by omega) (by omega), fil_upd (by omega)]
theorem er7_loop {r : Int32} (hb : b < 5) : ∀ (d j n : Nat) (m : Nat → Int32), j + d = 22 → d < n → g_X7_erase_11 n (nI b) r (nI j) m = g_X7_erase_49 r (upd (fil m b j) (110 + b) (m (110 + b) + 1)) := by
  have hx : (110 : Int32) + nI b = nI (110 + b) := by rw [show (110 : Int32) = nI 110 from rfl, nI_add]
  intro d
  induction d with
  | zero =>
    intro j n m hj hn
    obtain ⟨n, rfl⟩ : ∃ n', n = n' + 1 := ⟨n - 1, by omega⟩
    obtain rfl : j = 22 := by omega
    unfold g_X7_erase_11
    rw [if_pos (by decide), hx, if_neg (cond_nI (by omega) (by decide)), if_neg (cond_nI (by omega) (by decide)), nI_clamp (by omega), fil_22]
  | succ d ih =>
    intro j n m hj hn
    obtain ⟨n, rfl⟩ : ∃ n', n = n' + 1 := ⟨n - 1, by omega⟩
    unfold g_X7_erase_11
    rw [if_neg (show ¬ (22 : Int32) ≤ nI j from nI_ge (a := j) (b := 22) (by omega) (by decide)), ix7 hb (by omega), if_neg (cond_nI (by omega) (by decide)), nI_1, nI_clamp (by omega)]
    rw [ih (j + 1) n _ (by omega) (by omega), fil_upd (by omega)]
    simp [upd, show ¬ 110 + b = 22 * b + j by omega]
theorem erF (h : FR w er fl m) (hb : b < 5) : ∃ (r : Int32) (w' er' fl' m' : Nat → Int32), (r = 0 ∨ r = 1) ∧ g_X0_erase w er fl (nI b) = some (r, w', er', fl') ∧ g_X7_erase m (nI b) = some (r, m') ∧ FR w' er' fl' m' ∧ (r = 0 → m' 115 = 0 ∧ ∀ i, i < 110 → m' i = m i) ∧ (r = 1 → m' 115 = m 115 ∧ (∀ i, i < 22 → m' (22 * b + i) = 65535) ∧ offB m' m b) ∧ (∀ i, 116 ≤ i → i ≠ 125 → i ≠ 126 → m' i = m i) := by
  obtain ⟨r, fl', m', hr, e1, e2, hF, f1, f2, f3⟩ := spF h
  have a1 : g_X0_erase w er fl (nI b) = if r = 0 then some (0, w, er, fl') else some (1, fil w b 0, upd er b (er b + 1), fl') := by
    unfold g_X0_erase g_X0_erase_20
    rw [if_neg (nI_neg (by omega)), if_neg (n5_le hb), e1, Option.bind_some]
    rw [show nI b * 22 = nI (22 * b + 0) by rw [show (22 : Int32) = nI 22 from rfl, pk_mul, Nat.mul_comm]; rfl, er0_loop hb 22 0 120 w (by omega) (by omega)]
    unfold g_X0_erase_60
    rw [if_neg (cond_nI hb (by decide)), if_neg (cond_nI hb (by decide)), nI_clamp (by omega)]
  have a2 : g_X7_erase m (nI b) = if r = 0 then some (0, m') else some (1, upd (fil m' b 0) (110 + b) (m' (110 + b) + 1)) := by
    unfold g_X7_erase
    rw [e2, Option.bind_some, show (0 : Int32) = nI 0 from rfl, er7_loop hb 22 0 30 m' (by omega) (by omega)]
    unfold g_X7_erase_49
    rcases hr with rfl | rfl <;> rfl
  rw [a1, a2]
  rcases hr with rfl | rfl
  · exact ⟨0, w, er, fl', m', Or.inl rfl, rfl, rfl, hF, fun _ => ⟨f1 rfl, fun i hi => f3 i (by omega) (by omega) (by omega)⟩, fun h => absurd h (by decide), fun i i1 i2 i3 => f3 i (by omega) i2 i3⟩
  · obtain ⟨g1, g2, g3, g4, g5⟩ := hF
    have big : ∀ i, 110 ≤ i → i ≠ 110 + b → (upd (fil m' b 0) (110 + b) (m' (110 + b) + 1)) i = m' i := by
      intro i h1 h2
      simp only [upd, h2, if_false, fil]
      rw [if_neg (by omega)]
    have low : ∀ i, i < 110 → (upd (fil m' b 0) (110 + b) (m' (110 + b) + 1)) i = fil m' b 0 i := by
      intro i h1
      simp [upd, show ¬ i = 110 + b by omega]
    refine ⟨1, fil w b 0, upd er b (er b + 1), fl', _, Or.inr rfl, rfl, rfl, ⟨fun i hi => ?_, fun i hi => ?_, ?_, ?_, ?_⟩, fun h => absurd h (by decide), fun _ => ⟨?_, fun i hi => ?_, fun i hi ho => ?_⟩, fun i i1 i2 i3 => ?_⟩
    · rw [low i hi]
      unfold fil
      split
      · rfl
      · exact g1 i hi
    · by_cases hib : i = b
      · subst hib
        simp [upd, g2 i hi]
      · rw [big _ (by omega) (by omega)]
        simp [upd, hib, g2 i hi]
    · rw [big _ (by omega) (by omega)]; exact g3
    · rw [big _ (by omega) (by omega)]; exact g4
    · rw [big _ (by omega) (by omega)]; exact g5
    · rw [big _ (by omega) (by omega)]; exact f2 rfl
    · rw [low _ (by omega)]
      unfold fil
      rw [if_pos (by omega)]
    · rw [low _ hi]
      unfold fil
      rw [if_neg (by omega)]
      exact f3 i (by omega) (by omega) (by omega)
    · rw [big _ (by omega) (by omega)]
      exact f3 i (by omega) i2 i3
end OPS

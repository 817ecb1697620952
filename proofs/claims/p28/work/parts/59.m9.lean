-- a printer and the reference's row of numbers
section PRS
variable {m w er fl me p pr : Nat → Int32} {b k B S : Nat}
def PR (w er fl me p pr m : Nat → Int32) : Prop := FR w er fl m ∧ (∀ i, i < 4 → p i = m (127 + i)) ∧ pr 0 = m 115 ∧ pr 1 = m 122 ∧ pr 2 = m 123 ∧ pr 3 = m 124 ∧ (m 115 = 1 → me 0 = m 116 ∧ me 1 = m 117 ∧ me 2 = m 118 ∧ me 3 = m 119 ∧ me 4 = m 120 ∧ me 5 = m 121)
def prs (m : Nat → Int32) : Prop := ∀ i, i < 4 → ∃ c : Nat, 1 ≤ c ∧ c ≤ 999 ∧ m (127 + i) = nI c
def tms (x : Int32) : Prop := ∃ c : Nat, c ≤ 60000 ∧ x = nI c
def IV (m : Nat → Int32) : Prop := (∃ B S k, FI m B S k ∧ (m 115 = 1 → m 116 = nI B ∧ m 117 = nI (nxp m B) ∧ (m 118, m 119, m 120, m 121) = rp m B 4)) ∧ (m 115 = 0 ∨ m 115 = 1) ∧ prs m ∧ tms (m 122)
theorem onX (h : IV m) (on : m 115 = 1) : ∃ B S k nu su ti pa : Nat, FI m B S k ∧ m 116 = nI B ∧ m 117 = nI (nxp m B) ∧ (m 118, m 119, m 120, m 121) = rp m B 4 ∧ m 118 = nI nu ∧ m 119 = nI su ∧ m 120 = nI ti ∧ m 121 = nI pa ∧ nu < 10000 ∧ ti ≤ su ∧ su ≤ 60000 ∧ pa ≤ 50000 := by
  obtain ⟨⟨B, S, k, hI, hm⟩, -, -, -⟩ := h
  obtain ⟨h1, h2, h3⟩ := hm on
  obtain ⟨nu, su, ti, pa, e, g⟩ := hI.2.2.2.2.2.2 4 (Nat.le_refl 4)
  obtain ⟨e1, e2, e3, e4⟩ := rs_1 (h3.trans e)
  exact ⟨B, S, k, nu, su, ti, pa, hI, h1, h2, h3, e1, e2, e3, e4, g⟩
theorem nxp_low {m' : Nat → Int32} (hB : B < 5) (h : ∀ i, i < 110 → m' i = m i) : nxp m' B = nxp m B := by
  have e : ∀ q, q < 4 → em m' B q = em m B q := fun q hq => em_eq (fun i hi => h _ (by omega))
  unfold nxp
  rw [e 0 (by decide), e 1 (by decide), e 2 (by decide), e 3 (by decide)]
theorem rp_low {m' : Nat → Int32} (hB : B < 5) (h : ∀ i, i < 110 → m' i = m i) : rp m' B 4 = rp m B 4 := rp_eq (fun i hi => h _ (by omega)) 4 (Nat.le_refl 4) (fun q i hq hi => h _ (by omega)) 4 (Nat.le_refl 4)
set_option maxHeartbeats 4000000 in
theorem prW {tm v : Int32} {kd nun : Nat} (h : PR w er fl me p pr m) (hV : IV m) (on : m 115 = 1) (hnu : m 118 = nI nun) (hnl : nun < 10000) (hkd : kd < 5) (hg : gd (lrn (m 118, m 119, m 120, m 121) (nI (10000 * kd + nun)) v)) :
    ∃ (r : Int32) (w' er' fl' me' pr' m' : Nat → Int32), (r = 0 ∨ r = 1) ∧ g_X5_writeRecord w er fl me pr (nI kd) tm v = some (r, w', er', fl', me', pr') ∧ g_X7_write m (nI kd) tm v = some (r, m') ∧ (∀ i, 119 ≤ i → i ≠ 125 → i ≠ 126 → m' i = m i) ∧ (r = 0 → PR w' er' fl' me' p pr' m' ∧ IV m') ∧ (r = 1 → pr' = pr ∧ m' 115 = 1 ∧ ∀ (m2 pr2 : Nat → Int32), (∀ i, i ≠ 119 → i ≠ 120 → i ≠ 121 → i ≠ 122 → i ≠ 123 → i ≠ 124 → m2 i = m' i) → (m2 119, m2 120, m2 121) = (lrn (m 118, m 119, m 120, m 121) (nI (10000 * kd + nun)) v).2 → tms (m2 122) → pr2 0 = m2 115 → pr2 1 = m2 122 → pr2 2 = m2 123 → pr2 3 = m2 124 → PR w' er' fl' me' p pr2 m2 ∧ IV m2) := by
  obtain ⟨hF, hp, p0, p1, p2, p3, hm⟩ := h
  obtain ⟨B, S, k, nu, su, ti, pa, hI, d0, d1, dr, -, -, -, -, -⟩ := onX hV on
  obtain ⟨c0, c1, c2, c3, c4, c5⟩ := hm on
  have hV' := hV
  obtain ⟨-, -, hpr, htm⟩ := hV'
  obtain ⟨r, w', er', fl', me', pr', m', hr, x1, y1, F1, t1, z1, s1⟩ := wrF (me := me) (pr := pr) (tm := tm) (v := v) hF hI (by rw [c0, d0]) (by rw [c1, d1]) (by rw [c2, c3, c4, c5, dr]) d0 d1 dr hnu hnl hkd (by rw [← dr]; exact hg)
  refine ⟨r, w', er', fl', me', pr', m', hr, x1, y1, t1, fun h0 => ?_, fun h1 => ?_⟩
  · obtain ⟨z2, z3, B', S', k', z4⟩ := z1 h0
    refine ⟨⟨F1, fun i hi => ?_, ?_, ?_, ?_, ?_, fun h => ?_⟩, ⟨⟨B', S', k', z4, fun h => ?_⟩, Or.inl z2, fun i hi => ?_, ?_⟩⟩
    · rw [t1 _ (by omega) (by omega) (by omega)]; exact hp i hi
    · rw [z3, z2]; simp [upd]
    · rw [z3, t1 122 (by decide) (by decide) (by decide), ← p1]; simp [upd]
    · rw [z3, t1 123 (by decide) (by decide) (by decide), ← p2]; simp [upd]
    · rw [z3, t1 124 (by decide) (by decide) (by decide), ← p3]; simp [upd]
    · rw [z2] at h; exact absurd h (by decide)
    · rw [z2] at h; exact absurd h (by decide)
    · rw [t1 _ (by omega) (by omega) (by omega)]; exact hpr i hi
    · rw [t1 122 (by decide) (by decide) (by decide)]; exact htm
  · obtain ⟨s2, s3, B', S', k', hI', e0, f0, e1, f1, er1, er2, f2⟩ := s1 h1
    refine ⟨s3, by rw [s2, on], fun m2 pr2 hm2 hl ht q0 q1 q2 q3 => ?_⟩
    have hlow : ∀ i, i < 110 → m2 i = m' i := fun i hi => hm2 i (by omega) (by omega) (by omega) (by omega) (by omega) (by omega)
    have hlr : (me' 2, me' 3, me' 4, me' 5) = lrn (m 118, m 119, m 120, m 121) (nI (10000 * kd + nun)) v := by rw [er1, er2, dr]
    have hl2 : me' 3 = m2 119 ∧ me' 4 = m2 120 ∧ me' 5 = m2 121 := by
      rw [← hlr] at hl
      exact ⟨(congrArg Prod.fst hl).symm, (congrArg (fun z => z.2.1) hl).symm, (congrArg (fun z => z.2.2) hl).symm⟩
    have m118 : m2 118 = me' 2 := by rw [hm2 118 (by decide) (by decide) (by decide) (by decide) (by decide) (by decide)]; exact f2
    have m115 : m2 115 = 1 := by rw [hm2 115 (by decide) (by decide) (by decide) (by decide) (by decide) (by decide), s2, on]
    have m116 : m2 116 = nI B' := by rw [hm2 116 (by decide) (by decide) (by decide) (by decide) (by decide) (by decide), f0]
    have m117 : m2 117 = nI (nxp m' B') := by rw [hm2 117 (by decide) (by decide) (by decide) (by decide) (by decide) (by decide), f1]
    refine ⟨⟨⟨fun i hi => ?_, fun i hi => ?_, ?_, ?_, ?_⟩, fun i hi => ?_, q0, q1, q2, q3, fun _ => ⟨?_, ?_, m118.symm, hl2.1, hl2.2.1, hl2.2.2⟩⟩, ⟨⟨B', S', k', hI'.congr hlow, fun _ => ⟨m116, ?_, ?_⟩⟩, Or.inr m115, fun i hi => ?_, ht⟩⟩
    · rw [hlow i hi]; exact F1.1 i hi
    · rw [hm2 _ (by omega) (by omega) (by omega) (by omega) (by omega) (by omega)]; exact F1.2.1 i hi
    · rw [hm2 _ (by decide) (by decide) (by decide) (by decide) (by decide) (by decide)]; exact F1.2.2.1
    · rw [hm2 _ (by decide) (by decide) (by decide) (by decide) (by decide) (by decide)]; exact F1.2.2.2.1
    · rw [hm2 _ (by decide) (by decide) (by decide) (by decide) (by decide) (by decide)]; exact F1.2.2.2.2
    · rw [hm2 _ (by omega) (by omega) (by omega) (by omega) (by omega) (by omega), t1 _ (by omega) (by omega) (by omega)]; exact hp i hi
    · rw [e0, m116]
    · rw [e1, m117]
    · rw [m117, nxp_low hI'.1 hlow]
    · rw [rp_low hI'.1 hlow, ← er1, m118, hl2.1, hl2.2.1, hl2.2.2]
    · rw [hm2 _ (by omega) (by omega) (by omega) (by omega) (by omega) (by omega), t1 _ (by omega) (by omega) (by omega)]; exact hpr i hi
end PRS

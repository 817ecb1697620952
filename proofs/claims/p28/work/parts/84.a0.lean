-- the start: class and reference agree as they are made
section ST
theorem gd0 : gd (0, 0, 0, 0) := ⟨0, 0, 0, 0, rfl, by decide, by decide, by decide, by decide⟩
theorem iv0 : IV m0F := by
  refine ⟨⟨0, 0, 0, ⟨by decide, by decide, by decide, by decide +kernel, by decide +kernel, fun b q hb hq => ⟨65535, by decide, ?_⟩, fun q hq => ?_⟩, fun _ => ⟨by decide +kernel, by decide +kernel, by decide +kernel⟩⟩, by decide +kernel, fun i hi => ?_, 0, by decide, by decide +kernel⟩
  · exact (show ∀ b, b < 5 → ∀ q, q < 4 → m0F (22 * b + (6 + 4 * q)) = nI 65535 by decide +kernel) b hb q hq
  · have h : ∀ q, q ≤ 4 → rp m0F 0 q = (0, 0, 0, 0) := by decide +kernel
    rw [h q hq]
    exact gd0
  · rcases (show i = 0 ∨ i = 1 ∨ i = 2 ∨ i = 3 by omega) with rfl | rfl | rfl | rfl
    · exact ⟨150, by decide, by decide, by decide +kernel⟩
    · exact ⟨250, by decide, by decide, by decide +kernel⟩
    · exact ⟨400, by decide, by decide, by decide +kernel⟩
    · exact ⟨800, by decide, by decide, by decide +kernel⟩
theorem iniF {w er fl me p pr m : Nat → Int32} (h : iniP w er fl me p pr) (hm : ∀ x, x < 131 → m x = m0F x) : PI w er fl me p pr m := by
  obtain ⟨h1, h2, h3, h4, h5, h6, h7, h8, h9, p0, p1, p2, p3⟩ := h
  refine PI.congr (m := m0F) ⟨⟨⟨fun i hi => ?_, fun i hi => ?_, ?_, ?_, ?_⟩, fun i hi => ?_, ?_, ?_, ?_, ?_, fun _ => ?_⟩, iv0⟩ hm
  · rw [h1 i hi]
    unfold m0F
    rw [if_neg (by omega), if_neg (by omega), if_neg (by omega), if_neg (by omega), if_neg (by omega), if_neg (by omega), if_pos hi]
  · rw [h2 i hi]
    rcases (show i = 0 ∨ i = 1 ∨ i = 2 ∨ i = 3 ∨ i = 4 by omega) with rfl | rfl | rfl | rfl | rfl <;> decide +kernel
  · rw [h3]; decide +kernel
  · rw [h4]; decide +kernel
  · exact Or.inl (by decide +kernel)
  · rcases (show i = 0 ∨ i = 1 ∨ i = 2 ∨ i = 3 by omega) with rfl | rfl | rfl | rfl
    · rw [h6]; decide +kernel
    · rw [h7]; decide +kernel
    · rw [h8]; decide +kernel
    · rw [h9]; decide +kernel
  · rw [p0]; decide +kernel
  · rw [p1]; decide +kernel
  · rw [p2]; decide +kernel
  · rw [p3]; decide +kernel
  · rw [h5, h5, h5, h5, h5, h5]
    exact ⟨by decide +kernel, by decide +kernel, by decide +kernel, by decide +kernel, by decide +kernel, by decide +kernel⟩
end ST

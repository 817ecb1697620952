-- the tables at the entry
theorem kx_of {s : State} {b : Nat} (hts : ∀ w ∈ lw_tbl, w.before #[Value.ref b] s = true) : ∃ Z : GZ, Kx Z s ∧ aoB s := by
  obtain ⟨C0, S0, K0⟩ := u_known hts inX0 (hts (Cond.instantiable RX0 4) (List.mem_of_getElem? (i := 37) (by decide +kernel)))
  obtain ⟨C1, S1, K1⟩ := u_known hts inX1 (hts (Cond.instantiable RX1 2) (List.mem_of_getElem? (i := 159) (by decide +kernel)))
  obtain ⟨C2, S2, K2⟩ := u_known hts inX2 (hts (Cond.instantiable RX2 2) (List.mem_of_getElem? (i := 125) (by decide +kernel)))
  obtain ⟨C3, S3, K3⟩ := u_known hts inX3 (hts (Cond.instantiable RX3 6) (List.mem_of_getElem? (i := 60) (by decide +kernel)))
  obtain ⟨C4, S4, K4⟩ := u_known hts inX4 (hts (Cond.instantiable RX4 3) (List.mem_of_getElem? (i := 138) (by decide +kernel)))
  obtain ⟨C5, S5, K5⟩ := u_known hts inX5 (hts (Cond.instantiable RX5 7) (List.mem_of_getElem? (i := 31) (by decide +kernel)))
  obtain ⟨C6, S6, K6⟩ := u_known hts inX6 (hts (Cond.instantiable RX6 5) (List.mem_of_getElem? (i := 23) (by decide +kernel)))
  obtain ⟨cA, kA, pA, a1, a2, a3⟩ := Cond.arrayClass_spec (hts (Cond.arrayClass .int) (List.mem_of_getElem? (i := 58) (by decide +kernel)))
  have o5 : va_AO RX5 s := va_AO.of (hts (Cond.arrayOver (.object RX5)) (List.mem_of_getElem? (i := 144) (by decide +kernel)))
  have o1 : va_AO RX1 s := va_AO.of (hts (Cond.arrayOver (.object RX1)) (List.mem_of_getElem? (i := 158) (by decide +kernel)))
  obtain ⟨p5, c5, k5, b1, -, b2, b3, b4⟩ := Cond.arrayOver_spec o5
  obtain ⟨p1, c1, k1, d1, -, d2, d3, d4⟩ := Cond.arrayOver_spec o1
  refine ⟨((fam8 C0 C1 C2 C3 C4 C5 C6 C6, fam8 S0 S1 S2 S3 S4 S5 S6 S6), cA, c5, c1), ⟨⟨fun c q hq => ?_, fun k q hq => ?_⟩, fun w hw => va_Nw.of (ns_on hw) (hts w (List.mem_filter.mp hw).1)⟩, o5, o1⟩
  · rcases c with _ | _ | _ | _ | _ | _ | _ | c
    · cases hq; exact K0
    · cases hq; exact K1
    · cases hq; exact K2
    · cases hq; exact K3
    · cases hq; exact K4
    · cases hq; exact K5
    · cases hq; exact K6
    · exact absurd hq (by simp)
  · rcases k with _ | _ | _ | k
    · cases hq; exact ⟨fun n z => ⟨(fun k h => by cases h), kA, a2, pA, a3⟩, a1⟩
    · cases hq; exact ⟨fun n z => ⟨(fun k h => by cases h), k5, b2, p5, b3⟩, k5, p5, b2, b3, b1, b4⟩
    · cases hq; exact ⟨fun n z => ⟨(fun k h => by cases h), k1, d2, p1, d3⟩, k1, p1, d2, d3, d1, d4⟩
    · exact absurd hq (by simp)

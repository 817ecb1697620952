-- what the reading functions answer, at blocks and places that are numbers
def b2i (x : Bool) : Int32 := if x = true then 1 else 0
def hc (a b c d e : Int32) : Int32 := jrem ((((((3 * a) + (5 * b)) + (7 * c)) + (11 * d)) + (13 * e)) + 1) 65521
def rk (a b c s : Int32) : Int32 := jrem (((((3 * a) + (5 * b)) + (7 * c)) + (11 * s)) + 2) 65521
/-- block b is whole -/
def wh (m : Nat → Int32) (b : Nat) : Bool := (((((m (22 * b) != 65535) && (m (22 * b + 1) != 65535)) && (m (22 * b + 2) != 65535)) && (m (22 * b + 3) != 65535)) && (m (22 * b + 4) != 65535)) && (m (22 * b + 5) == hc (m (22 * b)) (m (22 * b + 1)) (m (22 * b + 2)) (m (22 * b + 3)) (m (22 * b + 4)))
/-- place q of block b is empty; it holds a whole record -/
def em (m : Nat → Int32) (b q : Nat) : Bool := (((m (22 * b + (6 + 4 * q)) == 65535) && (m (22 * b + (6 + 4 * q + 1)) == 65535)) && (m (22 * b + (6 + 4 * q + 2)) == 65535)) && (m (22 * b + (6 + 4 * q + 3)) == 65535)
def rc (m : Nat → Int32) (b q : Nat) : Bool := !(em m b q) && (m (22 * b + (6 + 4 * q + 3)) == rk (m (22 * b + (6 + 4 * q))) (m (22 * b + (6 + 4 * q + 1))) (m (22 * b + (6 + 4 * q + 2))) (m (22 * b)))
theorem lit_nI (n : Nat) : (OfNat.ofNat n : Int32) = nI n := rfl
theorem nI_neg {n : Nat} (h : n < 2 ^ 31) : ¬ nI n < 0 := nI_pos h
theorem cond_nI {j N : Nat} (h : j < N) (hN : N < 2 ^ 31) : ¬ (nI j < 0 ∨ N ≤ (nI j).toNatClampNeg) := nI_in h hN
theorem at_nI {m : Nat → Int32} {b k : Nat} (hb : b < 5) (hk : k < 22) : g_X7_at m (nI b) (nI k) = some (m (22 * b + k)) := by
  have h1 : (22 : Int32) * nI b + nI k = nI (22 * b + k) := by
    rw [show (22 : Int32) = nI 22 from rfl, pk_mul, nI_add]
  unfold g_X7_at
  rw [h1, if_neg (cond_nI (by omega) (by decide)), nI_clamp (by omega)]
theorem read_nI {w : Nat → Int32} {b k : Nat} (hb : b < 5) (hk : k < 22) : g_X0_read w (nI b) (nI k) = some (w (22 * b + k)) := by
  have h1 : nI b * (22 : Int32) + nI k = nI (22 * b + k) := by
    rw [show (22 : Int32) = nI 22 from rfl, pk_mul, nI_add, Nat.mul_comm b 22]
  unfold g_X0_read
  rw [h1, if_neg (nI_neg (by omega)), if_neg, if_neg (cond_nI (by omega) (by decide)), nI_clamp (by omega)]
  exact nI_ge (a := 22 * b + k) (b := 110) (by omega) (by decide)
theorem in_nI {m : Nat → Int32} {b q k : Nat} (hb : b < 5) (hq : q < 4) (hk : k < 4) : g_X7_inPlace m (nI b) (nI q) (nI k) = some (m (22 * b + (6 + 4 * q + k))) := by
  unfold g_X7_inPlace g_X7_wordOf
  have h1 : (6 : Int32) + 4 * nI q + nI k = nI (6 + 4 * q + k) := by
    rw [show (4 : Int32) = nI 4 from rfl, show (6 : Int32) = nI 6 from rfl, pk_mul, nI_add, nI_add]
  simp only [Option.bind_some]
  rw [h1, at_nI hb (by omega)]
  rfl
theorem rw_nI {w : Nat → Int32} {b q k : Nat} (hb : b < 5) (hq : q < 4) (hk : k < 4) : g_X0_recordWord w (nI b) (nI q) (nI k) = some (w (22 * b + (6 + 4 * q + k))) := by
  unfold g_X0_recordWord
  have h1 : (6 : Int32) + nI q * 4 + nI k = nI (6 + 4 * q + k) := by
    rw [show (4 : Int32) = nI 4 from rfl, show (6 : Int32) = nI 6 from rfl, pk_mul, nI_add, nI_add, Nat.mul_comm q 4]
  rw [h1, read_nI hb (by omega)]
  rfl
section RD
variable {m w : Nat → Int32} {b q : Nat}
theorem at_0 (hb : b < 5) : g_X7_at m (nI b) 0 = some (m (22 * b)) := at_nI hb (k := 0) (by decide)
theorem at_1 (hb : b < 5) : g_X7_at m (nI b) 1 = some (m (22 * b + 1)) := at_nI hb (k := 1) (by decide)
theorem at_2 (hb : b < 5) : g_X7_at m (nI b) 2 = some (m (22 * b + 2)) := at_nI hb (k := 2) (by decide)
theorem at_3 (hb : b < 5) : g_X7_at m (nI b) 3 = some (m (22 * b + 3)) := at_nI hb (k := 3) (by decide)
theorem at_4 (hb : b < 5) : g_X7_at m (nI b) 4 = some (m (22 * b + 4)) := at_nI hb (k := 4) (by decide)
theorem at_5 (hb : b < 5) : g_X7_at m (nI b) 5 = some (m (22 * b + 5)) := at_nI hb (k := 5) (by decide)
theorem read_0 (hb : b < 5) : g_X0_read w (nI b) 0 = some (w (22 * b)) := read_nI hb (k := 0) (by decide)
theorem read_1 (hb : b < 5) : g_X0_read w (nI b) 1 = some (w (22 * b + 1)) := read_nI hb (k := 1) (by decide)
theorem read_2 (hb : b < 5) : g_X0_read w (nI b) 2 = some (w (22 * b + 2)) := read_nI hb (k := 2) (by decide)
theorem read_3 (hb : b < 5) : g_X0_read w (nI b) 3 = some (w (22 * b + 3)) := read_nI hb (k := 3) (by decide)
theorem read_4 (hb : b < 5) : g_X0_read w (nI b) 4 = some (w (22 * b + 4)) := read_nI hb (k := 4) (by decide)
theorem read_5 (hb : b < 5) : g_X0_read w (nI b) 5 = some (w (22 * b + 5)) := read_nI hb (k := 5) (by decide)
theorem in_0 (hb : b < 5) (hq : q < 4) : g_X7_inPlace m (nI b) (nI q) 0 = some (m (22 * b + (6 + 4 * q))) := in_nI hb hq (k := 0) (by decide)
theorem in_1 (hb : b < 5) (hq : q < 4) : g_X7_inPlace m (nI b) (nI q) 1 = some (m (22 * b + (6 + 4 * q + 1))) := in_nI hb hq (k := 1) (by decide)
theorem in_2 (hb : b < 5) (hq : q < 4) : g_X7_inPlace m (nI b) (nI q) 2 = some (m (22 * b + (6 + 4 * q + 2))) := in_nI hb hq (k := 2) (by decide)
theorem in_3 (hb : b < 5) (hq : q < 4) : g_X7_inPlace m (nI b) (nI q) 3 = some (m (22 * b + (6 + 4 * q + 3))) := in_nI hb hq (k := 3) (by decide)
theorem rw_0 (hb : b < 5) (hq : q < 4) : g_X0_recordWord w (nI b) (nI q) 0 = some (w (22 * b + (6 + 4 * q))) := rw_nI hb hq (k := 0) (by decide)
theorem rw_1 (hb : b < 5) (hq : q < 4) : g_X0_recordWord w (nI b) (nI q) 1 = some (w (22 * b + (6 + 4 * q + 1))) := rw_nI hb hq (k := 1) (by decide)
theorem rw_2 (hb : b < 5) (hq : q < 4) : g_X0_recordWord w (nI b) (nI q) 2 = some (w (22 * b + (6 + 4 * q + 2))) := rw_nI hb hq (k := 2) (by decide)
theorem rw_3 (hb : b < 5) (hq : q < 4) : g_X0_recordWord w (nI b) (nI q) 3 = some (w (22 * b + (6 + 4 * q + 3))) := rw_nI hb hq (k := 3) (by decide)
set_option maxHeartbeats 4000000 in
theorem wh7 (hb : b < 5) : g_X7_isWhole m (nI b) = some (b2i (wh m b)) := by
  unfold g_X7_isWhole wh hc
  by_cases h0 : m (22 * b) = 65535 <;> by_cases h1 : m (22 * b + 1) = 65535 <;> by_cases h2 : m (22 * b + 2) = 65535 <;> by_cases h3 : m (22 * b + 3) = 65535 <;> by_cases h4 : m (22 * b + 4) = 65535 <;> simp [g_X7_isWhole_4, g_X7_isWhole_26, g_X7_isWhole_84, at_0 hb, at_1 hb, at_2 hb, at_3 hb, at_4 hb, at_5 hb, g_X7_headCheck, h0, h1, h2, h3, h4, b2i]
  split <;> rfl
set_option maxHeartbeats 4000000 in
theorem wh0 (hb : b < 5) : g_X0_isWhole w (nI b) = some (b2i (wh w b)) := by
  unfold g_X0_isWhole wh hc
  simp [g_X0_isWhole_2, read_0 hb, read_1 hb, read_2 hb, read_3 hb, read_4 hb, read_5 hb, g_X6_headerCheck, b2i]
  by_cases h0 : w (22 * b) = 65535 <;> by_cases h1 : w (22 * b + 1) = 65535 <;> by_cases h2 : w (22 * b + 2) = 65535 <;> by_cases h3 : w (22 * b + 3) = 65535 <;> by_cases h4 : w (22 * b + 4) = 65535 <;> simp [h0, h1, h2, h3, h4]
  split <;> rfl
theorem em7 (hb : b < 5) (hq : q < 4) : g_X7_isEmpty m (nI b) (nI q) = some (b2i (em m b q)) := by
  unfold g_X7_isEmpty em
  by_cases h0 : m (22 * b + (6 + 4 * q)) = 65535 <;> by_cases h1 : m (22 * b + (6 + 4 * q + 1)) = 65535 <;> by_cases h2 : m (22 * b + (6 + 4 * q + 2)) = 65535 <;> by_cases h3 : m (22 * b + (6 + 4 * q + 3)) = 65535 <;> simp [g_X7_isEmpty_5, g_X7_isEmpty_30, in_0 hb hq, in_1 hb hq, in_2 hb hq, in_3 hb hq, h0, h1, h2, h3, b2i]
theorem em0 (hb : b < 5) (hq : q < 4) : g_X0_isEmpty w (nI b) (nI q) = some (b2i (em w b q)) := by
  unfold g_X0_isEmpty em
  by_cases h0 : w (22 * b + (6 + 4 * q)) = 65535 <;> by_cases h1 : w (22 * b + (6 + 4 * q + 1)) = 65535 <;> by_cases h2 : w (22 * b + (6 + 4 * q + 2)) = 65535 <;> by_cases h3 : w (22 * b + (6 + 4 * q + 3)) = 65535 <;> simp [g_X0_isEmpty_2, rw_0 hb hq, rw_1 hb hq, rw_2 hb hq, rw_3 hb hq, h0, h1, h2, h3, b2i]
theorem rc7 (hb : b < 5) (hq : q < 4) : g_X7_isRecord m (nI b) (nI q) = some (b2i (rc m b q)) := by
  unfold g_X7_isRecord rc rk
  cases he : em m b q <;> simp [em7 hb hq, he, b2i, in_0 hb hq, in_1 hb hq, in_2 hb hq, in_3 hb hq, at_0 hb, g_X7_recordCheck, g_X7_isRecord_53]
  split <;> rfl
theorem tn7 (hb : b < 5) (hq : q < 4) : g_X7_isTorn m (nI b) (nI q) = some (b2i (!(em m b q) && !(rc m b q))) := by
  unfold g_X7_isTorn
  cases he : em m b q <;> cases hr : rc m b q <;> simp [em7 hb hq, rc7 hb hq, he, hr, b2i, g_X7_isTorn_22]
/-- 0 empty, 1 whole, 2 torn -/
def sto (m : Nat → Int32) (b q : Nat) : Int32 := if em m b q = true then 0 else if rc m b q = true then 1 else 2
theorem st0 (hb : b < 5) (hq : q < 4) : g_X0_stateOf w (nI b) (nI q) = some (sto w b q) := by
  unfold g_X0_stateOf sto rc rk
  cases he : em w b q <;> simp [em0 hb hq, he, b2i, rw_0 hb hq, rw_1 hb hq, rw_2 hb hq, rw_3 hb hq, read_0 hb, g_X6_recordCheck]
  split <;> rfl
end RD

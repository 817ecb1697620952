-- the invariant of the flash, and what a write does to it
section FL
variable {m m' w : Nat → Int32} {b q B S k : Nat}
theorem wh_eq (h : ∀ i, i < 6 → m' (22 * b + i) = m (22 * b + i)) : wh m' b = wh m b := by
  unfold wh
  rw [show m' (22 * b) = m (22 * b) from h 0 (by decide), h 1 (by decide), h 2 (by decide), h 3 (by decide), h 4 (by decide), h 5 (by decide)]
theorem em_eq (h : ∀ i, i < 4 → m' (22 * b + (6 + 4 * q + i)) = m (22 * b + (6 + 4 * q + i))) : em m' b q = em m b q := by
  unfold em
  rw [show m' (22 * b + (6 + 4 * q)) = m (22 * b + (6 + 4 * q)) from h 0 (by decide), h 1 (by decide), h 2 (by decide), h 3 (by decide)]
theorem rc_eq (h0 : m' (22 * b) = m (22 * b)) (h : ∀ i, i < 4 → m' (22 * b + (6 + 4 * q + i)) = m (22 * b + (6 + 4 * q + i))) : rc m' b q = rc m b q := by
  unfold rc
  rw [em_eq h, h0, show m' (22 * b + (6 + 4 * q)) = m (22 * b + (6 + 4 * q)) from h 0 (by decide), h 1 (by decide), h 2 (by decide), h 3 (by decide)]
theorem em_rc (h : em m b q = true) : rc m b q = false := by unfold rc; rw [h]; rfl
/-- what is known: the number of the next record, the sum, the tickets, the paper -/
abbrev RS : Type := Int32 × Int32 × Int32 × Int32
def lrn (r : RS) (f v : Int32) : RS := if f / 10000 = 0 then (jrem ((jrem f 10000) + 1) 10000, r.2.1 + jrem v 1000, r.2.2.1 + 1, r.2.2.2 - (40 + 20 * (v / 1000))) else if f / 10000 = 1 then (jrem ((jrem f 10000) + 1) 10000, r.2.1 - jrem v 1000, r.2.2.1 - 1, r.2.2.2) else if f / 10000 = 3 then (jrem ((jrem f 10000) + 1) 10000, 0, 0, r.2.2.2) else if f / 10000 = 4 then (jrem ((jrem f 10000) + 1) 10000, r.2.1, r.2.2.1, v) else (jrem ((jrem f 10000) + 1) 10000, r.2.1, r.2.2.1, r.2.2.2)
def hd (m : Nat → Int32) (B : Nat) : RS := (m (22 * B + 4), m (22 * B + 1), m (22 * B + 2), m (22 * B + 3))
/-- one place more -/
def rstep (m : Nat → Int32) (B q : Nat) (r : RS) : RS := if rc m B q = true then lrn r (m (22 * B + (6 + 4 * q))) (m (22 * B + (6 + 4 * q + 2))) else r
def rp (m : Nat → Int32) (B : Nat) : Nat → RS
  | 0 => hd m B
  | q + 1 => rstep m B q (rp m B q)
def gd (r : RS) : Prop := ∃ nu su ti pa : Nat, r = (nI nu, nI su, nI ti, nI pa) ∧ nu < 10000 ∧ ti ≤ su ∧ su ≤ 60000 ∧ pa ≤ 50000
def age (B b : Nat) : Nat := (B + 5 - b) % 5
def FI (m : Nat → Int32) (B S k : Nat) : Prop := B < 5 ∧ S < 10000 ∧ k ≤ 4 ∧ (∀ b, b < 5 → wh m b = decide (age B b ≤ k)) ∧ (∀ b, b < 5 → age B b ≤ k → m (22 * b) = nI ((S + 10000 - age B b) % 10000)) ∧ (∀ b q, b < 5 → q < 4 → ∃ f : Nat, f < 65536 ∧ m (22 * b + (6 + 4 * q)) = nI f) ∧ (∀ q, q ≤ 4 → gd (rp m B q))
theorem rp_eq (hh : ∀ i, i < 6 → m' (22 * B + i) = m (22 * B + i)) (n : Nat) (hn : n ≤ 4) (h : ∀ q i, q < n → i < 4 → m' (22 * B + (6 + 4 * q + i)) = m (22 * B + (6 + 4 * q + i))) : ∀ q, q ≤ n → rp m' B q = rp m B q := by
  intro q
  induction q with
  | zero =>
    intro _
    show hd m' B = hd m B
    unfold hd
    rw [hh 1 (by decide), hh 2 (by decide), hh 3 (by decide), hh 4 (by decide)]
  | succ q ih =>
    intro hq
    show rstep m' B q (rp m' B q) = rstep m B q (rp m B q)
    rw [ih (by omega)]
    unfold rstep
    rw [rc_eq (show m' (22 * B) = m (22 * B) from hh 0 (by decide)) (fun i hi => h q i (by omega) hi), show m' (22 * B + (6 + 4 * q)) = m (22 * B + (6 + 4 * q)) from h q 0 (by omega) (by decide), h q 2 (by omega) (by decide)]
theorem rp_same {q : Nat} (h : rc m B q = false) : rp m B (q + 1) = rp m B q := by
  show rstep m B q (rp m B q) = _
  unfold rstep
  rw [h]; rfl
theorem FI.congr (h : FI m B S k) (hw : ∀ i, i < 110 → m' i = m i) : FI m' B S k := by
  obtain ⟨h1, h2, h3, h4, h5, h6, h7⟩ := h
  refine ⟨h1, h2, h3, fun b hb => ?_, fun b hb ha => ?_, fun b q hb hq => ?_, fun q hq => ?_⟩
  · rw [wh_eq (fun i hi => hw _ (by omega)), h4 b hb]
  · rw [hw _ (by omega), h5 b hb ha]
  · rw [hw _ (by omega)]; exact h6 b q hb hq
  · rw [rp_eq (fun i hi => hw _ (by omega)) 4 (Nat.le_refl 4) (fun q i hq hi => hw _ (by omega)) q hq]; exact h7 q hq
theorem nI_inj {a b : Nat} (ha : a < 2 ^ 31) (hb : b < 2 ^ 31) : nI a = nI b ↔ a = b := nI_eq ha hb
theorem jrem_nI {a d : Nat} (ha : a < 2 ^ 31) (h0 : 0 < d) (hd : d < 2 ^ 31) : jrem (nI a) (nI d) = nI (a % d) := pk_rem ha h0 hd
theorem jrem_10000 {a : Nat} (ha : a < 2 ^ 31) : jrem (nI a) 10000 = nI (a % 10000) := jrem_nI (d := 10000) ha (by decide) (by decide)
theorem age_self : ∀ B, B < 5 → age B B = 0 := by decide
theorem age_succ : ∀ B, B < 5 → ∀ b, b < 5 → b ≠ B → age B ((b + 1) % 5) + 1 = age B b := by decide
theorem flw_true {o : Nat} (ho : o < 5) (h : ws1 m (sq1 m b) o = true) : flw m b = true := by
  unfold flw
  rcases (show o = 0 ∨ o = 1 ∨ o = 2 ∨ o = 3 ∨ o = 4 by omega) with rfl | rfl | rfl | rfl | rfl <;> rw [h] <;> simp
theorem nw_of (h : FI m B S k) : nw m = some B := by
  obtain ⟨hB, hS, hk, h4, h5, -, -⟩ := h
  have hsq : ∀ b, b < 5 → age B b ≤ k → sq1 m b = nI ((S + 10000 - age B b + 1) % 10000) := by
    intro b hb ha
    unfold sq1
    rw [h5 b hb ha, nI_1, jrem_10000 (by omega)]
    congr 1
    omega
  have hws : ∀ b o, b < 5 → o < 5 → age B b ≤ k → ws1 m (sq1 m b) o = decide (age B o ≤ k ∧ age B b = age B o + 1) := by
    intro b o hb ho ha
    unfold ws1
    rw [h4 o ho, hsq b hb ha]
    by_cases hao : age B o ≤ k
    · rw [h5 o ho hao]
      have hlt : age B o < 5 := Nat.mod_lt _ (by decide)
      have hlt2 : age B b < 5 := Nat.mod_lt _ (by decide)
      by_cases he : age B b = age B o + 1
      · simp only [hao, he, and_self, decide_true, Bool.true_and, beq_iff_eq]
        congr 1
        omega
      · have hne : ¬ nI ((S + 10000 - age B o) % 10000) = nI ((S + 10000 - age B b + 1) % 10000) := by
          rw [nI_inj (by omega) (by omega)]
          omega
        simp [hao, he, hne]
    · simp [hao]
  have hc : ∀ b, b < 5 → cnd m b = decide (b = B) := by
    intro b hb
    unfold cnd
    by_cases ha : age B b ≤ k
    · rw [h4 b hb]
      by_cases hbB : b = B
      · have e : flw m b = false := by
          have z : ∀ o, o < 5 → ws1 m (sq1 m b) o = false := by
            intro o ho
            rw [hws b o hb ho ha, hbB, age_self B hB]
            simp
          unfold flw
          rw [z 0 (by decide), z 1 (by decide), z 2 (by decide), z 3 (by decide), z 4 (by decide)]
          rfl
        rw [e]
        simp [ha, hbB]
        rw [age_self B hB]; exact Nat.zero_le k
      · have hs := age_succ B hB b hb hbB
        have e : flw m b = true := flw_true (o := (b + 1) % 5) (Nat.mod_lt _ (by decide)) (by
          rw [hws b _ hb (Nat.mod_lt _ (by decide)) ha]
          exact decide_eq_true ⟨by omega, hs.symm⟩)
        rw [e]
        simp [hbB]
    · rw [h4 b hb]
      have hbB : ¬ b = B := by
        rintro rfl
        rw [age_self b hb] at ha
        omega
      simp [ha, hbB]
  unfold nw
  rw [hc 0 (by decide), hc 1 (by decide), hc 2 (by decide), hc 3 (by decide), hc 4 (by decide)]
  rcases (show B = 0 ∨ B = 1 ∨ B = 2 ∨ B = 3 ∨ B = 4 by omega) with rfl | rfl | rfl | rfl | rfl <;> rfl
end FL

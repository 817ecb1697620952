-- which block is the newest; the next place; counts
theorem b2i_0 (x : Bool) : (b2i x = 0) = (x = false) := by cases x <;> simp [b2i]
theorem b2i_1 (x : Bool) : (b2i x = 1) = (x = true) := by cases x <;> simp [b2i]
theorem b2i_or (x : Bool) : b2i x = 0 ∨ b2i x = 1 := by cases x <;> simp [b2i]
theorem n5_le {o : Nat} (h : o < 5) : ¬ (5 : Int32) ≤ nI o := nI_ge (a := o) (b := 5) h (by decide)
theorem n4_le {o : Nat} (h : o < 4) : ¬ (4 : Int32) ≤ nI o := nI_ge (a := o) (b := 4) h (by decide)
theorem nI_s (o : Nat) : nI o + 1 = nI (o + 1) := nI_1 o
section NW
variable {m w : Nat → Int32} {b q : Nat}
/-- the number behind that of block b -/
def sq1 (m : Nat → Int32) (b : Nat) : Int32 := jrem ((m (22 * b)) + 1) 10000
/-- block o is whole and has the number s -/
def ws1 (m : Nat → Int32) (s : Int32) (o : Nat) : Bool := wh m o && (m (22 * o) == s)
def flw (m : Nat → Int32) (b : Nat) : Bool := ws1 m (sq1 m b) 0 || (ws1 m (sq1 m b) 1 || (ws1 m (sq1 m b) 2 || (ws1 m (sq1 m b) 3 || ws1 m (sq1 m b) 4)))
def cnd (m : Nat → Int32) (b : Nat) : Bool := wh m b && !(flw m b)
def nw (m : Nat → Int32) : Option Nat := if cnd m 0 = true then some 0 else if cnd m 1 = true then some 1 else if cnd m 2 = true then some 2 else if cnd m 3 = true then some 3 else if cnd m 4 = true then some 4 else none
theorem fl0_step {n : Nat} {s : Int32} {o : Nat} (ho : o < 5) : g_X0_isFollowed_15 w (n + 1) s (nI o) = if ws1 w s o = true then some 1 else g_X0_isFollowed_15 w n s (nI (o + 1)) := by
  simp only [g_X0_isFollowed_15, g_X0_isFollowed_40]
  rw [if_neg (n5_le ho), read_0 ho, wh0 ho]
  unfold ws1
  by_cases h : w (22 * o) = s <;> cases h2 : wh w o <;> simp [h, b2i, nI_s]
theorem fl0 (hb : b < 5) : g_X0_isFollowed w (nI b) = some (b2i (flw w b)) := by
  unfold g_X0_isFollowed
  rw [read_0 hb, Option.bind_some]
  show g_X0_isFollowed_15 w (11 + 1) (sq1 w b) (nI 0) = _
  rw [fl0_step (by decide), fl0_step (n := 10) (by decide), fl0_step (n := 9) (by decide), fl0_step (n := 8) (by decide), fl0_step (n := 7) (by decide)]
  have he : g_X0_isFollowed_15 w 7 (sq1 w b) (nI (4 + 1)) = some 0 := by simp [g_X0_isFollowed_15, nI]
  rw [he]
  unfold flw
  cases ws1 w (sq1 w b) 0 <;> cases ws1 w (sq1 w b) 1 <;> cases ws1 w (sq1 w b) 2 <;> cases ws1 w (sq1 w b) 3 <;> cases ws1 w (sq1 w b) 4 <;> rfl
theorem nb0_step {n : Nat} {o : Nat} (ho : o < 5) : g_X0_newestBlock_2 w (n + 1) (nI o) = if cnd w o = true then some (nI o) else g_X0_newestBlock_2 w n (nI (o + 1)) := by
  simp only [g_X0_newestBlock_2, g_X0_newestBlock_25]
  rw [if_neg (n5_le ho), wh0 ho, fl0 ho]
  unfold cnd
  cases h1 : wh w o <;> cases h2 : flw w o <;> simp [b2i, nI_s]
theorem nb0 : g_X0_newestBlock w = some (match nw w with | some b => nI b | none => 0) := by
  unfold g_X0_newestBlock
  show g_X0_newestBlock_2 w (11 + 1) (nI 0) = _
  rw [nb0_step (by decide), nb0_step (n := 10) (by decide), nb0_step (n := 9) (by decide), nb0_step (n := 8) (by decide), nb0_step (n := 7) (by decide)]
  have he : g_X0_newestBlock_2 w 7 (nI (4 + 1)) = some 0 := by simp [g_X0_newestBlock_2, nI]
  rw [he]
  unfold nw
  cases cnd w 0 <;> cases cnd w 1 <;> cases cnd w 2 <;> cases cnd w 3 <;> cases cnd w 4 <;> rfl
theorem ni7_step {n : Nat} {k5 : Int32 → Int32 → Option Int32} {x1 : Int32} {y : Bool} {o : Nat} (hb : b < 5) (ho : o < 5) : g_X7_newest_19 m k5 (n + 1) x1 (nI b) (b2i y) (nI o) = g_X7_newest_19 m k5 n x1 (nI b) (b2i (y && !(ws1 m (sq1 m b) o))) (nI (o + 1)) := by
  simp only [g_X7_newest_19, g_X7_newest_57, g_X7_newest_62]
  rw [if_neg (n5_le ho), wh7 ho, at_0 ho, at_0 hb]
  unfold ws1 sq1
  by_cases h : m (22 * o) = jrem (m (22 * b) + 1) 10000 <;> cases h2 : wh m o <;> cases y <;> simp [h, b2i, nI_s]
theorem ni7_end {n : Nat} {k5 : Int32 → Int32 → Option Int32} {x1 : Int32} {y : Bool} : g_X7_newest_19 m k5 (n + 1) x1 (nI b) (b2i y) (nI 5) = k5 (if y = true ∧ x1 = -9 then nI b else x1) (nI (b + 1)) := by
  simp only [g_X7_newest_19, g_X7_newest_84, g_X7_newest_85]
  rw [if_pos (show (5 : Int32) ≤ nI 5 by decide)]
  cases y <;> by_cases h : x1 = -9 <;> simp [h, b2i, nI_s]
theorem no7_step {n : Nat} {x1 : Int32} (hb : b < 5) : g_X7_newest_5 m (n + 1) x1 (nI b) = g_X7_newest_5 m n (if cnd m b = true ∧ x1 = -9 then nI b else x1) (nI (b + 1)) := by
  simp only [g_X7_newest_5]
  rw [if_neg (n5_le hb), wh7 hb, Option.bind_some]
  show g_X7_newest_19 m (g_X7_newest_5 m n) (7 + 1) x1 (nI b) (b2i (wh m b)) (nI 0) = _
  rw [ni7_step hb (by decide), ni7_step (n := 6) hb (by decide), ni7_step (n := 5) hb (by decide), ni7_step (n := 4) hb (by decide), ni7_step (n := 3) hb (by decide), ni7_end (n := 2)]
  congr 1
  unfold cnd flw
  cases wh m b <;> cases ws1 m (sq1 m b) 0 <;> cases ws1 m (sq1 m b) 1 <;> cases ws1 m (sq1 m b) 2 <;> cases ws1 m (sq1 m b) 3 <;> cases ws1 m (sq1 m b) 4 <;> rfl
theorem nI_n9 {b : Nat} (h : b < 2 ^ 31) : ¬ nI b = -9 := by
  intro e
  have := congrArg Int32.toInt e
  rw [nI_toInt h] at this
  have h9 : (-9 : Int32).toInt = -9 := by decide
  omega
theorem nb7 : g_X7_newest m = some (match nw m with | some b => nI b | none => -9) := by
  unfold g_X7_newest
  show g_X7_newest_5 m (7 + 1) (-9) (nI 0) = _
  rw [no7_step (by decide), no7_step (n := 6) (by decide), no7_step (n := 5) (by decide), no7_step (n := 4) (by decide), no7_step (n := 3) (by decide)]
  have he : ∀ x, g_X7_newest_5 m 3 x (nI (4 + 1)) = some x := by intro x; simp [g_X7_newest_5, nI]
  rw [he]
  unfold nw
  have e0 := nI_n9 (b := 0) (by decide)
  have e1 := nI_n9 (b := 1) (by decide)
  have e2 := nI_n9 (b := 2) (by decide)
  have e3 := nI_n9 (b := 3) (by decide)
  cases cnd m 0 <;> cases cnd m 1 <;> cases cnd m 2 <;> cases cnd m 3 <;> cases cnd m 4 <;> simp [e0, e1, e2, e3]
/-- the next place -/
def nxp (m : Nat → Int32) (b : Nat) : Nat := if em m b 3 = true then (if em m b 2 = true then (if em m b 1 = true then (if em m b 0 = true then 0 else 1) else 2) else 3) else 4
theorem nI_sub1 (q : Nat) : nI (q + 1) - 1 = nI q := nI_pred q
theorem np0_step {n : Nat} (hb : b < 5) (hq : q < 4) : g_X0_nextPlaceIn_2 w (n + 1) (nI b) (nI (q + 1)) = if em w b q = true then g_X0_nextPlaceIn_2 w n (nI b) (nI q) else some (nI (q + 1)) := by
  simp only [g_X0_nextPlaceIn_2, g_X0_nextPlaceIn_23]
  rw [if_neg (nI_nle (by omega) (by omega)), nI_sub1, em0 hb hq, pk_m1]
  cases em w b q <;> simp [b2i]
theorem np0 (hb : b < 5) : g_X0_nextPlaceIn w (nI b) = some (nI (nxp w b)) := by
  unfold g_X0_nextPlaceIn
  show g_X0_nextPlaceIn_2 w (11 + 1) (nI b) (nI (3 + 1)) = _
  have he : g_X0_nextPlaceIn_2 w 8 (nI b) (nI 0) = some (nI 0) := by simp [g_X0_nextPlaceIn_2, g_X0_nextPlaceIn_23, nI]
  rw [np0_step hb (by decide), np0_step (n := 10) (q := 2) hb (by decide), np0_step (n := 9) (q := 1) hb (by decide), np0_step (n := 8) (q := 0) hb (by decide), he]
  unfold nxp
  cases em w b 0 <;> cases em w b 1 <;> cases em w b 2 <;> cases em w b 3 <;> rfl
def cn4 (f : Nat → Bool) : Int32 := (((0 + b2i (f 0)) + b2i (f 1)) + b2i (f 2)) + b2i (f 3)
def tl (m : Nat → Int32) (f : Nat → Nat → Bool) (b : Nat) : Int32 := if wh m b = true then cn4 (f b) else 0
def tl5 (m : Nat → Int32) (f : Nat → Nat → Bool) : Int32 := ((((0 + tl m f 0) + tl m f 1) + tl m f 2) + tl m f 3) + tl m f 4
theorem add_b (x : Int32) (y : Bool) : (if y = true then x + 1 else x) = x + b2i y := by cases y <;> simp [b2i]
theorem ti0_step {n : Nat} {s x : Int32} (hb : b < 5) (hq : q < 4) : g_X0_tallyIn_15 w (n + 1) (nI b) s x (nI q) = g_X0_tallyIn_15 w n (nI b) s (x + b2i (sto w b q == s)) (nI (q + 1)) := by
  simp only [g_X0_tallyIn_15, g_X0_tallyIn_35]
  rw [if_neg (n4_le hq), st0 hb hq]
  by_cases h : sto w b q = s <;> simp [h, b2i, nI_s]
theorem ti0 {s : Int32} (hb : b < 5) : g_X0_tallyIn w (nI b) s = some (tl w (fun b q => sto w b q == s) b) := by
  unfold g_X0_tallyIn
  rw [wh0 hb, Option.bind_some]
  have he : ∀ x, g_X0_tallyIn_15 w 8 (nI b) s x (nI (3 + 1)) = some x := by intro x; simp [g_X0_tallyIn_15, nI]
  have h4 : g_X0_tallyIn_15 w 12 (nI b) s 0 0 = some (cn4 (fun q => sto w b q == s)) := by
    show g_X0_tallyIn_15 w (11 + 1) (nI b) s 0 (nI 0) = _
    rw [ti0_step hb (by decide), ti0_step (n := 10) hb (by decide), ti0_step (n := 9) hb (by decide), ti0_step (n := 8) hb (by decide), he]
    rfl
  rw [h4]
  unfold tl
  cases wh w b <;> simp [b2i]
theorem ta0_step {n : Nat} {s x : Int32} (hb : b < 5) : g_X0_tally_4 w (n + 1) s x (nI b) = g_X0_tally_4 w n s (x + tl w (fun b q => sto w b q == s) b) (nI (b + 1)) := by
  simp only [g_X0_tally_4]
  rw [if_neg (n5_le hb), ti0 hb, Option.bind_some, nI_s]
theorem ta0 {s : Int32} : g_X0_tally w s = some (tl5 w (fun b q => sto w b q == s)) := by
  unfold g_X0_tally
  have he : ∀ x, g_X0_tally_4 w 7 s x (nI (4 + 1)) = some x := by intro x; simp [g_X0_tally_4, nI]
  show g_X0_tally_4 w (11 + 1) s 0 (nI 0) = _
  rw [ta0_step (by decide), ta0_step (n := 10) (by decide), ta0_step (n := 9) (by decide), ta0_step (n := 8) (by decide), ta0_step (n := 7) (by decide), he]
  rfl
/-- what the model counts -/
def ff (m : Nat → Int32) (k : Int32) (b q : Nat) : Bool := if k = -2 then (!(em m b q) && !(rc m b q)) else (rc m b q && ((k == -1) || (m (22 * b + (6 + 4 * q)) / 10000 == k)))
theorem ci7_step {n : Nat} {k x : Int32} (hb : b < 5) (hq : q < 4) : g_X7_countIn_5 m (n + 1) (nI b) k x (nI q) = if wh m b = true then g_X7_countIn_5 m n (nI b) k (x + b2i (ff m k b q)) (nI (q + 1)) else some x := by
  simp only [g_X7_countIn_5, g_X7_countIn_92, g_X7_countIn_70, g_X7_countIn_66, g_X7_countIn_71, g_X7_countIn_84]
  rw [if_neg (n4_le hq), wh7 hb, tn7 hb hq, rc7 hb hq, in_0 hb hq]
  unfold ff
  cases wh m b
  · simp [b2i]
  · by_cases h : k = -2
    · subst h
      cases em m b q <;> cases rc m b q <;> simp [b2i, nI_s]
    · by_cases h1 : k = -1
      · subst h1
        cases rc m b q <;> simp [b2i, nI_s]
      · cases rc m b q <;> by_cases h2 : m (22 * b + (6 + 4 * q)) / 10000 = k <;> simp [h, h1, h2, b2i, nI_s]
theorem ci7 {k : Int32} (hb : b < 5) : g_X7_countIn m (nI b) k = some (tl m (ff m k) b) := by
  unfold g_X7_countIn
  have he : ∀ x, g_X7_countIn_5 m 4 (nI b) k x (nI (3 + 1)) = some x := by intro x; simp [g_X7_countIn_5, g_X7_countIn_92, nI]
  show g_X7_countIn_5 m (7 + 1) (nI b) k 0 (nI 0) = _
  rw [ci7_step hb (by decide), ci7_step (n := 6) hb (by decide), ci7_step (n := 5) hb (by decide), ci7_step (n := 4) hb (by decide), he]
  unfold tl
  cases wh m b
  · simp
  · simp [cn4]
theorem co7_step {n : Nat} {s x : Int32} (hb : b < 5) : g_X7_count_4 m (n + 1) s x (nI b) = g_X7_count_4 m n s (x + tl m (ff m s) b) (nI (b + 1)) := by
  simp only [g_X7_count_4]
  rw [if_neg (n5_le hb), ci7 hb, Option.bind_some, nI_s]
theorem co7 {s : Int32} : g_X7_count m s = some (tl5 m (ff m s)) := by
  unfold g_X7_count
  have he : ∀ x, g_X7_count_4 m 3 s x (nI (4 + 1)) = some x := by intro x; simp [g_X7_count_4, nI]
  show g_X7_count_4 m (7 + 1) s 0 (nI 0) = _
  rw [co7_step (by decide), co7_step (n := 6) (by decide), co7_step (n := 5) (by decide), co7_step (n := 4) (by decide), co7_step (n := 3) (by decide), he]
  rfl
theorem sto_1 : (sto m b q == 1) = ff m (-1) b q := by
  unfold sto ff
  have hr : rc m b q = (!(em m b q) && rc m b q) := by unfold rc; cases em m b q <;> simp
  cases he : em m b q <;> cases hc : rc m b q <;> simp [he, hc] at hr ⊢
theorem sto_2 : (sto m b q == 2) = ff m (-2) b q := by
  unfold sto ff
  cases he : em m b q <;> cases hc : rc m b q <;> simp
end NW

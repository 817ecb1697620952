-- how far a row of operations comes, and what lies there then
section SQR
variable {m x y z : Row} {b k B S P : Nat}
def ap (l : List Op) (m : Row) : Row := l.foldl (fun x o => o x) m
/-- so many operations can be done -/
def canDo (x : Int32) (n : Nat) : Prop := x = -9 ∨ ∃ c : Nat, n ≤ c ∧ c ≤ 100 ∧ x = nI c
def miN (x : Int32) (n : Nat) : Int32 := if x = -9 then -9 else x - nI n
theorem miN_9 {n : Nat} : miN (-9) n = -9 := if_pos rfl
theorem mi1_9 : mi1 (-9) = -9 := if_pos rfl
theorem nI_n9' {c : Nat} (h : c ≤ 100) : ¬ nI c = -9 := nI_n9 (by omega)
theorem canDo_or {x : Int32} (h : LV x) (n : Nat) : canDo x n ∨ ∃ c : Nat, c < n ∧ c ≤ 100 ∧ x = nI c := by
  rcases h with h | ⟨c, hc, e⟩
  · exact Or.inl (Or.inl h)
  · by_cases hn : n ≤ c
    · exact Or.inl (Or.inr ⟨c, hn, hc, e⟩)
    · exact Or.inr ⟨c, by omega, hc, e⟩
theorem canDo_not {x : Int32} {n c : Nat} (h : c < n) (hc : c ≤ 100) (e : x = nI c) : ¬ canDo x n := by
  rintro (h9 | ⟨d, h1, h2, h3⟩)
  · exact nI_n9' hc (e.symm.trans h9)
  · have := (nI_inj (a := c) (b := d) (by omega) (by omega)).mp (e.symm.trans h3)
    omega
theorem canDo_mono {x : Int32} {n k : Nat} (h : canDo x n) (hk : k ≤ n) : canDo x k := by
  rcases h with h | ⟨c, h1, h2, h3⟩
  · exact Or.inl h
  · exact Or.inr ⟨c, by omega, h2, h3⟩
theorem canDo_ne {x : Int32} {n : Nat} (h : canDo x (n + 1)) : ¬ x = 0 := by
  rcases h with h | ⟨c, h1, h2, h3⟩
  · rw [h]; decide
  · rw [h3]; exact nI_ne0 (by omega) (by omega)
theorem mi1_s {c : Nat} (hc : c + 1 ≤ 100) : mi1 (nI (c + 1)) = nI c := by
  unfold mi1
  rw [if_neg (nI_n9' hc), nI_pred]
theorem canDo_mi {x : Int32} {n : Nat} (h : canDo x (n + 1)) : canDo (mi1 x) n := by
  rcases h with h | ⟨c, h1, h2, h3⟩
  · exact Or.inl (by rw [h]; rfl)
  · obtain ⟨d, rfl⟩ : ∃ d, c = d + 1 := ⟨c - 1, by omega⟩
    exact Or.inr ⟨d, by omega, by omega, by rw [h3, mi1_s h2]⟩
theorem miN_mi {x : Int32} {n : Nat} (h : canDo x (n + 1)) : miN (mi1 x) n = miN x (n + 1) := by
  rcases h with h | ⟨c, h1, h2, h3⟩
  · rw [h, mi1_9, miN_9, miN_9]
  · obtain ⟨d, rfl⟩ : ∃ d, c = d + 1 := ⟨c - 1, by omega⟩
    rw [h3, mi1_s h2]
    unfold miN
    rw [if_neg (nI_n9' (by omega)), if_neg (nI_n9' h2), pk_sub (by omega), pk_sub (by omega)]
    exact congrArg nI (by omega)
theorem canDo_add {x : Int32} {n k : Nat} (h : canDo x n) : canDo (miN x n) k ↔ canDo x (n + k) := by
  rcases h with h | ⟨c, h1, h2, h3⟩
  · rw [h]; exact ⟨fun _ => Or.inl rfl, fun _ => Or.inl rfl⟩
  · have e : miN x n = nI (c - n) := by unfold miN; rw [h3, if_neg (nI_n9' h2), pk_sub h1]
    rw [e, h3]
    constructor
    · rintro (h9 | ⟨d, g1, g2, g3⟩)
      · exact absurd h9 (nI_n9' (by omega))
      · have := (nI_inj (a := c - n) (b := d) (by omega) (by omega)).mp g3
        exact Or.inr ⟨c, by omega, h2, rfl⟩
    · rintro (h9 | ⟨d, g1, g2, g3⟩)
      · exact absurd h9 (nI_n9' h2)
      · have := (nI_inj (a := c) (b := d) (by omega) (by omega)).mp g3
        exact Or.inr ⟨c - n, by omega, by omega, rfl⟩
theorem LV_miN {x : Int32} {n : Nat} (h : canDo x n) : LV (miN x n) := by
  rcases h with h | ⟨c, h1, h2, h3⟩
  · exact Or.inl (by rw [h]; rfl)
  · exact Or.inr ⟨c - n, by omega, by unfold miN; rw [h3, if_neg (nI_n9' h2), pk_sub h1]⟩
theorem miN_add {x : Int32} {n k : Nat} (h : canDo x n) (h2 : canDo x (n + k)) : miN (miN x n) k = miN x (n + k) := by
  rcases h2 with h9 | ⟨c, h1, h2, h3⟩
  · rw [h9, miN_9, miN_9, miN_9]
  · have e : miN x n = nI (c - n) := by unfold miN; rw [h3, if_neg (nI_n9' h2), pk_sub (by omega)]
    rw [e, h3]
    unfold miN
    rw [if_neg (nI_n9' (by omega)), if_neg (nI_n9' h2), pk_sub (by omega), pk_sub (by omega)]
    exact congrArg nI (by omega)
theorem ap_hi : ∀ (l : List Op) (m : Row), (∀ o ∈ l, goodO o) → ∀ i, 115 ≤ i → ap l m i = m i := by
  intro l
  induction l with
  | nil => intro m _ i _; rfl
  | cons o l ih =>
    intro m h i hi
    show ap l (o m) i = m i
    rw [ih (o m) (fun o h2 => h o (List.mem_cons_of_mem _ h2)) i hi, (h o List.mem_cons_self).2 m i hi]
theorem ap_congr : ∀ (l : List Op) (m n : Row), (∀ o ∈ l, goodO o) → (∀ i, i < 110 → m i = n i) → ∀ i, i < 110 → ap l m i = ap l n i := by
  intro l
  induction l with
  | nil => intro m n _ h; exact h
  | cons o l ih =>
    intro m n h hmn
    show ∀ i, i < 110 → ap l (o m) i = ap l (o n) i
    exact ih _ _ (fun o h2 => h o (List.mem_cons_of_mem _ h2)) ((h o List.mem_cons_self).1 m n hmn)
theorem tick_low {i : Nat} (h : i < 110) : tick m i = m i := tick_n (by omega) (by omega)
theorem SQ_all : ∀ (l : List Op) (m : Row), (∀ o ∈ l, goodO o) → canDo (m 126) l.length → ∃ z : Row, SQ l m = (1, z) ∧ (∀ i, i < 110 → z i = ap l m i) ∧ (∀ i, 115 ≤ i → i ≠ 125 → i ≠ 126 → z i = m i) ∧ z 125 = m 125 + nI l.length ∧ z 126 = miN (m 126) l.length := by
  intro l
  induction l with
  | nil =>
    intro m _ _
    refine ⟨m, rfl, fun _ _ => rfl, fun _ _ _ _ => rfl, ?_, ?_⟩
    · show m 125 = m 125 + nI 0
      rw [nI_0, Int32.add_zero]
    · show m 126 = miN (m 126) 0
      unfold miN
      by_cases h9 : m 126 = -9
      · rw [if_pos h9, h9]
      · rw [if_neg h9, nI_0, Int32.sub_zero]
  | cons o l ih =>
    intro m h hc
    have ho := h o List.mem_cons_self
    have h0 := canDo_ne (n := l.length) hc
    have e126 : o (tick m) 126 = mi1 (m 126) := by rw [ho.2 _ 126 (by decide), tick_126]
    obtain ⟨z, z1, z2, z3, z4, z5⟩ := ih (o (tick m)) (fun o h2 => h o (List.mem_cons_of_mem _ h2)) (by rw [e126]; exact canDo_mi hc)
    refine ⟨z, ?_, fun i hi => ?_, fun i i1 i2 i3 => ?_, ?_, ?_⟩
    · show (if m 126 = 0 then (0, cutm m) else SQ l (o (tick m))) = _
      rw [if_neg h0, z1]
    · rw [z2 i hi]
      exact ap_congr l _ _ (fun o h2 => h o (List.mem_cons_of_mem _ h2)) (ho.1 _ _ (fun i hi => tick_low hi)) i hi
    · rw [z3 i i1 i2 i3, ho.2 _ i i1, tick_n i2 i3]
    · rw [z4, ho.2 _ 125 (by decide), tick_125, Int32.add_assoc, show (1 : Int32) = nI 1 from rfl, nI_add, List.length_cons, Nat.add_comm]
    · rw [z5, e126, miN_mi hc]; rfl
theorem SQ_cut : ∀ (l : List Op) (m : Row) (c : Nat), (∀ o ∈ l, goodO o) → c < l.length → c ≤ 100 → m 126 = nI c → ∃ z : Row, SQ l m = (0, z) ∧ (∀ i, i < 110 → z i = ap (l.take c) m i) ∧ (∀ i, 116 ≤ i → i ≠ 125 → i ≠ 126 → z i = m i) ∧ z 115 = 0 ∧ z 126 = -9 := by
  intro l
  induction l with
  | nil => intro m c _ hc; exact absurd hc (Nat.not_lt_zero c)
  | cons o l ih =>
    intro m c h hc h100 e
    have ho := h o List.mem_cons_self
    cases c with
    | zero =>
      refine ⟨cutm m, ?_, fun i hi => cutm_n (by omega) (by omega), fun i i1 i2 i3 => cutm_n (by omega) i3, by simp [cutm, upd], by simp [cutm, upd]⟩
      show (if m 126 = 0 then (0, cutm m) else SQ l (o (tick m))) = _
      rw [if_pos (by rw [e, nI_0])]
    | succ c =>
      have h0 : ¬ m 126 = 0 := by rw [e]; exact nI_ne0 (by omega) (by omega)
      have e126 : o (tick m) 126 = nI c := by rw [ho.2 _ 126 (by decide), tick_126, e, mi1_s h100]
      obtain ⟨z, z1, z2, z3, z4, z5⟩ := ih (o (tick m)) c (fun o h2 => h o (List.mem_cons_of_mem _ h2)) (by simpa using hc) (by omega) e126
      refine ⟨z, ?_, fun i hi => ?_, fun i i1 i2 i3 => ?_, z4, z5⟩
      · show (if m 126 = 0 then (0, cutm m) else SQ l (o (tick m))) = _
        rw [if_neg h0, z1]
      · rw [z2 i hi]
        exact ap_congr (l.take c) _ _ (fun o h2 => h o (List.mem_cons_of_mem _ (List.mem_of_mem_take h2))) (ho.1 _ _ (fun i hi => tick_low hi)) i hi
      · rw [z3 i i1 i2 i3, ho.2 _ i (by omega), tick_n i2 i3]
/-- the words of a block as it is begun -/
def hvB (m : Row) (S : Nat) : Row := fun i => [nI ((S + 1) % 10000), m 119, m 120, m 121, m 118, hc (nI ((S + 1) % 10000)) (m 119) (m 120) (m 121) (m 118)].getD i 0
def pvW (S : Nat) (f tm v : Int32) : Row := fun i => [f, tm, v, rk f tm v (nI S)].getD i 0
theorem PB_put {m1 : Row} {hv : Row} {j : Nat} (h : PB m1 m b j hv) (hb : b < 5) (hj : j < 22) : PB (oput (22 * b + j) (hv j) m1) m b (j + 1) hv :=
  h.step hb hj ⟨pk_un (by omega), pk_us⟩ (fun i i1 _ _ _ => pk_un i1)
theorem PQ_put {m1 : Row} {pv : Row} {j : Nat} (h : PQ m1 m B P j pv) (hB : B < 5) (hP : P < 4) (hj : j < 4) : PQ (oput (22 * B + (6 + 4 * P + j)) (pv j) m1) m B P (j + 1) pv :=
  h.step hB hP hj ⟨pk_un (by omega), pk_us⟩ (fun i i1 _ _ _ => pk_un i1)
theorem PBj (hB : B < 5) : ∀ j, j ≤ 6 → PB (ap ((opsB m B S).take (j + 1)) m) m (nxb B) j (hvB m S) := by
  have hb := nxb_lt B
  have P0 : PB (oera (nxb B) m) m (nxb B) 0 (hvB m S) := by
    refine ⟨fun i hi ho => ?_, fun i hi => absurd hi (Nat.not_lt_zero i), fun i _ hi => ?_, fun i i1 _ _ => (good_era hb).2 m i (by omega), (good_era hb).2 m 115 (by decide)⟩
    · unfold oera
      rw [pk_un (by omega)]
      unfold fil
      rw [if_neg (by omega)]
    · unfold oera
      rw [pk_un (by omega)]
      unfold fil
      rw [if_pos (by omega)]
  have P1 := PB_put P0 hb (by decide)
  have P2 := PB_put P1 hb (by decide)
  have P3 := PB_put P2 hb (by decide)
  have P4 := PB_put P3 hb (by decide)
  have P5 := PB_put P4 hb (by decide)
  have P6 := PB_put P5 hb (by decide)
  intro j hj
  rcases (show j = 0 ∨ j = 1 ∨ j = 2 ∨ j = 3 ∨ j = 4 ∨ j = 5 ∨ j = 6 by omega) with rfl | rfl | rfl | rfl | rfl | rfl | rfl
  · exact P0
  · exact P1
  · exact P2
  · exact P3
  · exact P4
  · exact P5
  · exact P6
theorem PQj {f tm v : Int32} (hB : B < 5) (hP : P < 4) (he : em m B P = true) : ∀ j, j ≤ 4 → PQ (ap ((opsW B P S f tm v).take j) m) m B P j (pvW S f tm v) := by
  have P0 : PQ m m B P 0 (pvW S f tm v) := ⟨fun _ _ _ => rfl, fun i hi => absurd hi (Nat.not_lt_zero i), fun i _ hi => em_words he i hi, fun _ _ _ _ => rfl, rfl⟩
  have P1 := PQ_put P0 hB hP (by decide)
  have P2 := PQ_put P1 hB hP (by decide)
  have P3 := PQ_put P2 hB hP (by decide)
  have P4 := PQ_put P3 hB hP (by decide)
  intro j hj
  rcases (show j = 0 ∨ j = 1 ∨ j = 2 ∨ j = 3 ∨ j = 4 by omega) with rfl | rfl | rfl | rfl | rfl
  · exact P0
  · exact P1
  · exact P2
  · exact P3
  · exact P4
end SQR

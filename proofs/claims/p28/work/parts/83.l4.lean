-- the journal: what is counted, what is summed
section LJ
variable {D : TD} {m : Row} {hs : List Row} {im : Nat → Option Row} {B S k b : Nat}
theorem sm_one_bl : sm (fun _ => (1 : Int32)) (bl m b) = tl m (ff m (-1)) b := by
  unfold bl tl cn4 ff
  cases wh m b
  · rfl
  · cases rc m b 0 <;> cases rc m b 1 <;> cases rc m b 2 <;> cases rc m b 3 <;> simp [sm, b2i, Int32.add_assoc]
theorem sm_one_rl (hB : B < 5) : sm (fun _ => (1 : Int32)) (rl m B) = tl5 m (ff m (-1)) := by
  unfold rl tl5
  simp only [sm_app, sm_one_bl]
  rcases (show B = 0 ∨ B = 1 ∨ B = 2 ∨ B = 3 ∨ B = 4 by omega) with rfl | rfl | rfl | rfl | rfl <;> simp only [Nat.reduceAdd, Nat.reduceMod, Int32.zero_add] <;> ac_rfl
theorem sm_len : ∀ (L : RL2), sm (fun _ => (1 : Int32)) L = nI L.length := by
  intro L
  induction L with
  | nil => rfl
  | cons x L ih =>
    show (1 : Int32) + sm (fun _ => 1) L = _
    rw [ih, show (1 : Int32) = nI 1 from rfl, nI_add, List.length_cons, Nat.add_comm]
theorem all_len (hB : B < 5) : tl5 m (ff m (-1)) = nI (rl m B).length := by rw [← sm_one_rl hB, sm_len]
theorem sm_add (c d : Nat × Nat → Int32) : ∀ (L : RL2), sm c L + sm d L = sm (fun x => c x + d x) L := by
  intro L
  induction L with
  | nil => rfl
  | cons x L ih =>
    show (c x + sm c L) + (d x + sm d L) = (c x + d x) + sm (fun x => c x + d x) L
    rw [← ih]
    ac_rfl
theorem sm_congr {c d : Nat × Nat → Int32} : ∀ (L : RL2), (∀ x ∈ L, c x = d x) → sm c L = sm d L := by
  intro L
  induction L with
  | nil => intro _; rfl
  | cons x L ih =>
    intro h
    show c x + sm c L = d x + sm d L
    rw [h x List.mem_cons_self, ih (fun y hy => h y (List.mem_cons_of_mem _ hy))]
theorem mem1 {p : Bool} {x y : Nat × Nat} (h : x ∈ (if p = true then [y] else [])) : p = true ∧ x = y := by
  cases p
  · exact absurd h (by simp)
  · exact ⟨rfl, by simpa using h⟩
theorem bl_rc {x : Nat × Nat} (hx : x ∈ bl m b) : x.1 = b ∧ x.2 < 4 ∧ rc m x.1 x.2 = true := by
  unfold bl at hx
  cases hw : wh m b
  · rw [hw, if_neg (by decide)] at hx; exact absurd hx List.not_mem_nil
  · rw [hw, if_pos rfl] at hx
    simp only [List.mem_append] at hx
    rcases hx with (hx | hx) | (hx | hx)
    all_goals
      obtain ⟨h1, rfl⟩ := mem1 hx
      exact ⟨rfl, by simp, h1⟩
/-- records of one block lie in the order of their places -/
def bef (y x : Nat × Nat) : Prop := y.1 = x.1 → y.2 < x.2
theorem pw1 {p : Bool} {y : Nat × Nat} : (if p = true then [y] else []).Pairwise bef := by cases p <;> simp
theorem bl_pw : (bl m b).Pairwise bef := by
  unfold bl
  cases wh m b
  · simp
  · rw [if_pos rfl]
    refine List.pairwise_append.mpr ⟨List.pairwise_append.mpr ⟨pw1, pw1, fun x hx y hy => ?_⟩, List.pairwise_append.mpr ⟨pw1, pw1, fun x hx y hy => ?_⟩, fun x hx y hy => ?_⟩
    · obtain ⟨-, rfl⟩ := mem1 hx
      obtain ⟨-, rfl⟩ := mem1 hy
      exact fun _ => by simp
    · obtain ⟨-, rfl⟩ := mem1 hx
      obtain ⟨-, rfl⟩ := mem1 hy
      exact fun _ => by simp
    · rcases List.mem_append.mp hx with hx | hx <;> rcases List.mem_append.mp hy with hy | hy
      all_goals
        obtain ⟨-, rfl⟩ := mem1 hx
        obtain ⟨-, rfl⟩ := mem1 hy
        exact fun _ => by simp
theorem rl_pw (hB : B < 5) : (rl m B).Pairwise bef := by
  unfold rl
  have c : ∀ {i j : Nat}, (B + i) % 5 ≠ (B + j) % 5 → ∀ x ∈ bl m ((B + i) % 5), ∀ y ∈ bl m ((B + j) % 5), bef x y := fun hne x hx y hy e => absurd ((bl_rc hx).1.symm.trans (e.trans (bl_rc hy).1)) hne
  refine List.pairwise_append.mpr ⟨List.pairwise_append.mpr ⟨List.pairwise_append.mpr ⟨List.pairwise_append.mpr ⟨bl_pw, bl_pw, c (by omega)⟩, bl_pw, fun x hx => ?_⟩, bl_pw, fun x hx => ?_⟩, bl_pw, fun x hx => ?_⟩
  · rcases List.mem_append.mp hx with hx | hx
    · exact c (by omega) x hx
    · exact c (by omega) x hx
  · rcases List.mem_append.mp hx with hx | hx
    · rcases List.mem_append.mp hx with hx | hx
      · exact c (by omega) x hx
      · exact c (by omega) x hx
    · exact c (by omega) x hx
  · rcases List.mem_append.mp hx with hx | hx
    · rcases List.mem_append.mp hx with hx | hx
      · rcases List.mem_append.mp hx with hx | hx
        · exact c (by omega) x hx
        · exact c (by omega) x hx
      · exact c (by omega) x hx
    · exact c (by omega) x hx
theorem rl_rc {x : Nat × Nat} (hx : x ∈ rl m B) : x.1 < 5 ∧ x.2 < 4 ∧ rc m x.1 x.2 = true := by
  unfold rl at hx
  have key : ∀ i, x ∈ bl m ((B + i) % 5) → x.1 < 5 ∧ x.2 < 4 ∧ rc m x.1 x.2 = true := fun i h => ⟨by rw [(bl_rc h).1]; exact Nat.mod_lt _ (by decide), (bl_rc h).2⟩
  simp only [List.mem_append] at hx
  rcases hx with (((hx | hx) | hx) | hx) | hx
  all_goals exact key _ hx
theorem rl_cnt (hW : WI m) {x : Nat × Nat} (hx : x ∈ rl m B) : cnt m x.1 x.2 := by
  obtain ⟨h1, h2, h3⟩ := rl_rc hx
  refine hW.2 x.1 x.2 h1 h2 (fun z => ?_)
  unfold rc at h3
  rw [z] at h3
  simp only [Bool.and_eq_true, beq_iff_eq] at h3
  exact jrem_ne _ h3.2.symm
theorem div1 {f : Nat} (h : f < 2 ^ 31) : nI f / 10000 = nI (f / 10000) := by rw [show (10000 : Int32) = nI 10000 from rfl, pk_div h (by decide) (by decide)]
theorem div3 {f : Nat} (h : f < 2 ^ 31) : nI f / 1000 = nI (f / 1000) := by rw [show (1000 : Int32) = nI 1000 from rfl, pk_div h (by decide) (by decide)]
theorem kinds (hB : B < 5) (hW : WI m) : ((((0 + tl5 m (ff m (nI 0))) + tl5 m (ff m (nI 1))) + tl5 m (ff m (nI 2))) + tl5 m (ff m (nI 3))) + tl5 m (ff m (nI 4)) = tl5 m (ff m (-1)) := by
  rw [Int32.zero_add, ← sm_rl (kd := nI 0) hB (by decide) (by decide), ← sm_rl (kd := nI 1) hB (by decide) (by decide), ← sm_rl (kd := nI 2) hB (by decide) (by decide), ← sm_rl (kd := nI 3) hB (by decide) (by decide), ← sm_rl (kd := nI 4) hB (by decide) (by decide), sm_add, sm_add, sm_add, sm_add, ← sm_one_rl hB]
  refine sm_congr _ (fun x hx => ?_)
  obtain ⟨f, v, h1, h2, h3, h4, h5⟩ := rl_cnt hW hx
  rw [h3, div1 (by omega)]
  rcases (show f / 10000 = 0 ∨ f / 10000 = 1 ∨ f / 10000 = 2 ∨ f / 10000 = 3 ∨ f / 10000 = 4 by omega) with e | e | e | e | e <;> rw [e] <;> decide
theorem pcv4 (hW : WI m) {kd : Int32} (hk : kd = 0 ∨ kd = 1) {x : Nat × Nat} (hx : x ∈ rl m B) : ((pcv m (nI 0) kd x + pcv m (nI 1) kd x) + pcv m (nI 2) kd x) + pcv m (nI 3) kd x = pcv m (-1) kd x := by
  obtain ⟨f, v, h1, h2, h3, h4, h5⟩ := rl_cnt hW hx
  unfold pcv
  rw [h3, h4, div1 (by omega), div3 (by omega)]
  by_cases hf : nI (f / 10000) = kd
  · have hv : v < 4000 := by
      refine h5 ?_
      rcases hk with rfl | rfl
      · have := (nI_inj (a := f / 10000) (b := 0) (by omega) (by decide)).mp hf
        omega
      · have := (nI_inj (a := f / 10000) (b := 1) (by omega) (by decide)).mp hf
        omega
    have n1 : ∀ j : Nat, j < 4 → ¬ nI j = -1 := by
      intro j hj
      rcases (show j = 0 ∨ j = 1 ∨ j = 2 ∨ j = 3 by omega) with rfl | rfl | rfl | rfl <;> decide
    rw [if_pos (show (((-1 : Int32) = -1 ∨ nI (v / 1000) = -1) ∧ nI (f / 10000) = kd) from ⟨Or.inl rfl, hf⟩)]
    have t : ∀ j : Nat, j < 4 → (if (nI j = -1 ∨ nI (v / 1000) = nI j) ∧ nI (f / 10000) = kd then jrem (nI v) 1000 else 0) = if v / 1000 = j then jrem (nI v) 1000 else 0 := by
      intro j hj
      by_cases e : v / 1000 = j
      · rw [if_pos ⟨Or.inr (by rw [e]), hf⟩, if_pos e]
      · rw [if_neg (fun z => z.1.elim (n1 j hj) (fun y => e ((nI_inj (by omega) (by omega)).mp y))), if_neg e]
    rw [t 0 (by decide), t 1 (by decide), t 2 (by decide), t 3 (by decide)]
    rcases (show v / 1000 = 0 ∨ v / 1000 = 1 ∨ v / 1000 = 2 ∨ v / 1000 = 3 by omega) with e | e | e | e <;> rw [e] <;> simp
  · rw [if_neg (fun z => hf z.2), if_neg (fun z => hf z.2), if_neg (fun z => hf z.2), if_neg (fun z => hf z.2), if_neg (fun z => hf z.2)]
    decide
theorem sorts (hW : WI m) : (((0 + tkv m B (nI 0)) + tkv m B (nI 1)) + tkv m B (nI 2)) + tkv m B (nI 3) = tkv m B (-1) := by
  have a : ∀ kd : Int32, kd = 0 ∨ kd = 1 → sm (pcv m (-1) kd) (rl m B) = ((sm (pcv m (nI 0) kd) (rl m B) + sm (pcv m (nI 1) kd) (rl m B)) + sm (pcv m (nI 2) kd) (rl m B)) + sm (pcv m (nI 3) kd) (rl m B) := by
    intro kd hk
    rw [sm_add, sm_add, sm_add]
    exact sm_congr _ (fun x hx => (pcv4 hW hk hx).symm)
  unfold tkv
  rw [a 0 (Or.inl rfl), a 1 (Or.inr rfl)]
  simp only [Int32.sub_eq_add_neg, Int32.neg_add, Int32.zero_add]
  ac_rfl
def wsum (m : Row) : Int32 := ((((0 + b2i (wh m 0)) + b2i (wh m 1)) + b2i (wh m 2)) + b2i (wh m 3)) + b2i (wh m 4)
theorem wsum_pos (hI : FI m B S k) : ¬ wsum m ≤ 0 := by
  have hw : wh m B = true := by rw [hI.2.2.2.1 B hI.1, age_self B hI.1]; simp
  unfold wsum
  have hB := hI.1
  rcases (show B = 0 ∨ B = 1 ∨ B = 2 ∨ B = 3 ∨ B = 4 by omega) with rfl | rfl | rfl | rfl | rfl <;> rw [hw] <;> (first | (cases wh m 0) | skip) <;> (first | (cases wh m 1) | skip) <;> (first | (cases wh m 2) | skip) <;> (first | (cases wh m 3) | skip) <;> (first | (cases wh m 4) | skip) <;> decide
-- the loops of isJournal
theorem j86 (h : RO D m hs im) (hb : b < 5) {k43 : Int32 → Int32 → Int32 → Int32 → Int32 → Int32 → TD → Option (Int32 × TD)} {x1 x2 x3 x4 x5 : Int32} : ∀ (d k n : Nat), k + d = 22 → d < n → g_L_isJournal_86 k43 n x1 x2 x3 x4 x5 (nI b) (nI k) D = k43 x1 x2 x3 x4 x5 (nI (b + 1)) D := by
  intro d
  induction d with
  | zero =>
    intro k n hk hn
    obtain ⟨n, rfl⟩ : ∃ j, n = j + 1 := ⟨n - 1, by omega⟩
    have hk : k = 22 := by omega
    subst hk
    obtain ⟨b0, b1, -, -⟩ := O_block h hb
    have w0 : g_O_word D (nI b) 0 = some (m (22 * b)) := O_word h hb (k := 0) (by decide)
    have w1 : g_O_word D (nI b) 1 = some (m (22 * b + 1)) := O_word h hb (k := 1) (by decide)
    have w2 : g_O_word D (nI b) 2 = some (m (22 * b + 2)) := O_word h hb (k := 2) (by decide)
    have w3 : g_O_word D (nI b) 3 = some (m (22 * b + 3)) := O_word h hb (k := 3) (by decide)
    have w4 : g_O_word D (nI b) 4 = some (m (22 * b + 4)) := O_word h hb (k := 4) (by decide)
    have w5 : g_O_word D (nI b) 5 = some (m (22 * b + 5)) := O_word h hb (k := 5) (by decide)
    have e222 : g_L_isJournal_222 k43 x1 x2 x3 x4 x5 (nI b) D = k43 x1 x2 x3 x4 x5 (nI (b + 1)) D := by
      unfold g_L_isJournal_222
      rw [nI_s]
    simp only [g_L_isJournal_86]
    rw [if_pos (show (22 : Int32) ≤ nI 22 by decide), b0, Option.bind_some]
    cases hw : wh m b
    · rw [bF rfl, if_neg (by decide), e222]
    · rw [hw, if_pos rfl] at b1
      rw [bT rfl, if_pos rfl, b1, Option.bind_some, w0, Option.bind_some, if_pos rfl, w5, Option.bind_some, Option.bind_some, w1, Option.bind_some, w2, Option.bind_some, w3, Option.bind_some, w4, Option.bind_some]
      have hc5 : m (22 * b + 5) = hc (m (22 * b)) (m (22 * b + 1)) (m (22 * b + 2)) (m (22 * b + 3)) (m (22 * b + 4)) := by
        unfold wh at hw
        simp only [Bool.and_eq_true, beq_iff_eq] at hw
        exact hw.2
      unfold hc at hc5
      rw [if_pos hc5, e222]
  | succ d ih =>
    intro k n hk hn
    obtain ⟨n, rfl⟩ : ∃ j, n = j + 1 := ⟨n - 1, by omega⟩
    obtain ⟨f, hf, ef⟩ := h.2.1.1 (22 * b + k) (by omega)
    simp only [g_L_isJournal_86]
    rw [if_neg (show ¬ (22 : Int32) ≤ nI k from nI_ge (a := k) (b := 22) (by omega) (by decide)), O_word h hb (by omega), Option.bind_some, ef, if_neg (nI_neg (by omega)), Option.bind_some, if_pos (show nI f ≤ (65535 : Int32) from nI_le (a := f) (b := 65535) (by omega) (by decide)), nI_s]
    exact ih (k + 1) n (by omega) (by omega)
theorem j43s (h : RO D m hs im) (hb : b < 5) {n : Nat} {x1 x2 x3 x4 x5 : Int32} : g_L_isJournal_43 (n + 1) x1 x2 x3 x4 x5 (nI b) D = g_L_isJournal_43 n x1 x2 (x3 + tl m (ff m (-1)) b) (x4 + tl m (ff m (-2)) b) (x5 + b2i (wh m b)) (nI (b + 1)) D := by
  obtain ⟨b0, -, b2, b3⟩ := O_block h hb
  simp only [g_L_isJournal_43]
  rw [if_neg (n5_le hb), b2, Option.bind_some, b3, Option.bind_some, b0, Option.bind_some]
  exact j86 h hb 22 0 30 (by decide) (by decide)
theorem j43 (h : RO D m hs im) {x1 x2 : Int32} : g_L_isJournal_43 30 x1 x2 0 0 0 0 D = g_L_isJournal_234 30 x1 x2 (tl5 m (ff m (-1))) (tl5 m (ff m (-2))) (wsum m) 0 0 D := by
  have s0 := j43s h (b := 0) (by decide) (n := 29) (x1 := x1) (x2 := x2) (x3 := 0) (x4 := 0) (x5 := 0)
  refine s0.trans ?_
  rw [j43s h (b := 0 + 1) (by decide) (n := 28), j43s h (b := 0 + 1 + 1) (by decide) (n := 27), j43s h (b := 0 + 1 + 1 + 1) (by decide) (n := 26), j43s h (b := 0 + 1 + 1 + 1 + 1) (by decide) (n := 25)]
  show g_L_isJournal_43 (24 + 1) _ _ _ _ _ (nI 5) D = _
  simp only [g_L_isJournal_43]
  rw [if_pos (show (5 : Int32) ≤ nI 5 by decide)]
  rfl
theorem j260 (hI : FI m B S k) (hW : WI m) {x5 : Int32} (h5 : ¬ x5 ≤ 0) : ∀ (d i n : Nat) (D : TD), RO D m hs im → i + d = (rl m B).length → d < n → ∃ D', g_L_isJournal_260 n (nI (rl m B).length) (nI (rl m B).length) (nI (rl m B).length) (tl5 m (ff m (-2))) x5 (tkv m B (-1)) (nI i) D = some (1, D') ∧ RO D' m hs im := by
  have hl := rl_len (m := m) (B := B)
  intro d
  induction d with
  | zero =>
    intro i n D h hi hn
    obtain ⟨n, rfl⟩ : ∃ j, n = j + 1 := ⟨n - 1, by omega⟩
    have hi : i = (rl m B).length := by omega
    subst hi
    simp only [g_L_isJournal_260]
    rw [if_pos (Int32.le_refl _), if_pos True.intro, if_pos True.intro, (O_recs h).2, Option.bind_some, if_pos rfl, if_neg h5]
    obtain ⟨D1, a1, a2⟩ := O_takings h hI (Or.inl rfl)
    obtain ⟨D2, b1, b2⟩ := O_recordE a2 hI
    dsimp only
    rw [a1, Option.bind_some, if_pos rfl]
    dsimp only
    rw [b1, Option.bind_some, if_pos rfl]
    dsimp only
    rw [O_word5, Option.bind_some, if_pos rfl]
    exact ⟨D2, rfl, b2⟩
  | succ d ih =>
    intro i n D h hi hn
    obtain ⟨n, rfl⟩ : ∃ j, n = j + 1 := ⟨n - 1, by omega⟩
    obtain ⟨x, hx⟩ : ∃ x, (rl m B)[i]? = some x := ⟨(rl m B)[i], List.getElem?_eq_getElem (by omega)⟩
    obtain ⟨xa, xb, -⟩ := rl_rc (List.mem_of_getElem? hx)
    obtain ⟨f, v, c1, c2, c3, c4, -⟩ := rl_cnt hW (List.mem_of_getElem? hx)
    obtain ⟨D1, a1, h1⟩ := O_record h hI hx (c := 4) (by decide)
    obtain ⟨D2, a2, h2⟩ := O_record h1 hI hx (c := 5) (by decide)
    obtain ⟨D3, a3, h3⟩ := O_record h2 hI hx (c := 1) (by decide)
    obtain ⟨D4, a4, h4⟩ := O_record h3 hI hx (c := 0) (by decide)
    obtain ⟨D5, a5, h5'⟩ := O_record h4 hI hx (c := 2) (by decide)
    obtain ⟨D6, a6, h6⟩ := O_record h5' hI hx (c := 3) (by decide)
    replace a1 : g_O_record D (nI i) 4 = some (nI x.1, D1) := a1
    replace a2 : g_O_record D1 (nI i) 5 = some (nI x.2, D2) := a2
    replace a3 : g_O_record D2 (nI i) 1 = some (m (22 * x.1 + (6 + 4 * x.2)) / 10000, D3) := a3
    replace a4 : g_O_record D3 (nI i) 0 = some (jrem (m (22 * x.1 + (6 + 4 * x.2))) 10000, D4) := a4
    replace a5 : g_O_record D4 (nI i) 2 = some (m (22 * x.1 + (6 + 4 * x.2 + 1)), D5) := a5
    replace a6 : g_O_record D5 (nI i) 3 = some (m (22 * x.1 + (6 + 4 * x.2 + 2)), D6) := a6
    have i0 : (6 : Int32) + 4 * nI x.2 = nI (6 + 4 * x.2) := by rw [show (6 : Int32) = nI 6 from rfl, show (4 : Int32) = nI 4 from rfl, pk_mul, nI_add]
    have i2 : nI (6 + 4 * x.2) + 2 = nI (6 + 4 * x.2 + 2) := nI_add _ 2
    have ew : (10000 : Int32) * (m (22 * x.1 + (6 + 4 * x.2)) / 10000) + jrem (m (22 * x.1 + (6 + 4 * x.2))) 10000 = m (22 * x.1 + (6 + 4 * x.2)) := by
      rw [c3, div1 (by omega), jrem_10000 (by omega), show (10000 : Int32) = nI 10000 from rfl, pk_mul, nI_add]
      exact congrArg nI (Nat.div_add_mod f 10000)
    simp only [g_L_isJournal_260]
    rw [if_neg (nI_ge (a := i) (b := (rl m B).length) (by omega) (by omega)), a1, Option.bind_some]
    dsimp only
    rw [a2, Option.bind_some]
    dsimp only
    rw [i0, O_word h2 xa (by omega), Option.bind_some, a3, Option.bind_some]
    dsimp only
    rw [a4, Option.bind_some]
    dsimp only
    rw [ew, if_pos rfl, nI_s, O_word h4 xa (by omega), Option.bind_some, a5, Option.bind_some]
    dsimp only
    rw [if_pos rfl, i2, O_word h5' xa (by omega), Option.bind_some, a6, Option.bind_some]
    dsimp only
    rw [if_pos rfl]
    have go : ∀ D, RO D m hs im → ∃ D', g_L_isJournal_411 (g_L_isJournal_260 n) (nI (rl m B).length) (nI (rl m B).length) (nI (rl m B).length) (tl5 m (ff m (-2))) x5 (tkv m B (-1)) (nI i) D = some (1, D') ∧ RO D' m hs im := by
      intro D h
      unfold g_L_isJournal_411
      rw [nI_s]
      exact ih (i + 1) n D h (by omega) (by omega)
    unfold g_L_isJournal_364
    rw [if_neg i1ne]
    cases i with
    | zero =>
      rw [if_pos (show nI 0 ≤ 0 by decide)]
      exact go D6 h6
    | succ i =>
      obtain ⟨y, hy⟩ : ∃ y, (rl m B)[i]? = some y := ⟨(rl m B)[i], List.getElem?_eq_getElem (by omega)⟩
      rw [if_neg (nI_nle (by omega) (by omega)), nI_pred]
      obtain ⟨D7, a7, h7⟩ := O_record h6 hI hy (c := 4) (by decide)
      replace a7 : g_O_record D6 (nI i) 4 = some (nI y.1, D7) := a7
      rw [a7, Option.bind_some]
      by_cases e : nI y.1 = nI x.1
      · rw [if_pos e]
        obtain ⟨ya, yb, -⟩ := rl_rc (List.mem_of_getElem? hy)
        have e1 : y.1 = x.1 := (nI_inj (by omega) (by omega)).mp e
        obtain ⟨D8, a8, h8⟩ := O_record h7 hI hy (c := 5) (by decide)
        obtain ⟨D9, a9, h9⟩ := O_record h8 hI hx (c := 5) (by decide)
        replace a8 : g_O_record D7 (nI i) 5 = some (nI y.2, D8) := a8
        replace a9 : g_O_record D8 (nI (i + 1)) 5 = some (nI x.2, D9) := a9
        dsimp only
        rw [a8, Option.bind_some]
        dsimp only
        rw [a9, Option.bind_some]
        have hlt : y.2 < x.2 := by
          obtain ⟨hi1, hi2⟩ := List.getElem?_eq_some_iff.mp hy
          obtain ⟨hj1, hj2⟩ := List.getElem?_eq_some_iff.mp hx
          have := List.pairwise_iff_getElem.mp (rl_pw (m := m) hI.1) i (i + 1) hi1 hj1 (Nat.lt_succ_self i)
          rw [hi2, hj2] at this
          exact this e1
        rw [if_pos (show nI y.2 < nI x.2 from (nI_ltI (by omega) (by omega)).mpr hlt)]
        exact go D9 h9
      · rw [if_neg e]
        exact go D7 h7
theorem j234s (h : RO D m hs im) (hI : FI m B S k) {n s : Nat} (hs4 : s < 4) {x1 x2 x3 x4 x5 x6 : Int32} : ∃ D', g_L_isJournal_234 (n + 1) x1 x2 x3 x4 x5 x6 (nI s) D = g_L_isJournal_234 n x1 x2 x3 x4 x5 (x6 + tkv m B (nI s)) (nI (s + 1)) D' ∧ RO D' m hs im := by
  obtain ⟨D1, a1, a2⟩ := O_takings h hI (Or.inr ⟨s, hs4, rfl⟩)
  refine ⟨D1, ?_, a2⟩
  simp only [g_L_isJournal_234]
  rw [if_neg (n4_le hs4), a1, Option.bind_some, nI_s]
theorem j19s (h : RO D m hs im) {n q : Nat} (hq : q < 5) {x1 x2 x3 x4 x5 : Int32} : ∃ D', g_L_isJournal_19 (n + 1) x1 x2 x3 x4 x5 (nI q) D = g_L_isJournal_19 n x1 (x2 + tl5 m (ff m (nI q))) x3 x4 x5 (nI (q + 1)) D' ∧ RO D' m hs im := by
  obtain ⟨D1, a1, a2⟩ := O_recK h hq
  refine ⟨D1, ?_, a2⟩
  simp only [g_L_isJournal_19]
  rw [if_neg (n5_le hq), a1, Option.bind_some, nI_s]
theorem joF (h : RO D m hs im) : ∃ D', g_L_isJournal D = some (1, D') ∧ RO D' m hs im := by
  obtain ⟨B, S, k, hI⟩ := h.fi
  have hW := h.2.1
  have hB := hI.1
  have hl := rl_len (m := m) (B := B)
  unfold g_L_isJournal
  rw [(O_recs h).1, Option.bind_some]
  obtain ⟨D1, a1, h1⟩ := j19s h (n := 29) (q := 0) (by decide) (x1 := tl5 m (ff m (-1))) (x2 := 0) (x3 := 0) (x4 := 0) (x5 := 0)
  obtain ⟨D2, a2, h2⟩ := j19s h1 (n := 28) (q := 1) (by decide) (x1 := tl5 m (ff m (-1))) (x2 := 0 + tl5 m (ff m (nI 0))) (x3 := 0) (x4 := 0) (x5 := 0)
  obtain ⟨D3, a3, h3⟩ := j19s h2 (n := 27) (q := 2) (by decide) (x1 := tl5 m (ff m (-1))) (x2 := 0 + tl5 m (ff m (nI 0)) + tl5 m (ff m (nI 1))) (x3 := 0) (x4 := 0) (x5 := 0)
  obtain ⟨D4, a4, h4⟩ := j19s h3 (n := 26) (q := 3) (by decide) (x1 := tl5 m (ff m (-1))) (x2 := 0 + tl5 m (ff m (nI 0)) + tl5 m (ff m (nI 1)) + tl5 m (ff m (nI 2))) (x3 := 0) (x4 := 0) (x5 := 0)
  obtain ⟨D5, a5, h5⟩ := j19s h4 (n := 25) (q := 4) (by decide) (x1 := tl5 m (ff m (-1))) (x2 := 0 + tl5 m (ff m (nI 0)) + tl5 m (ff m (nI 1)) + tl5 m (ff m (nI 2)) + tl5 m (ff m (nI 3))) (x3 := 0) (x4 := 0) (x5 := 0)
  have a6 : g_L_isJournal_19 25 (tl5 m (ff m (-1))) (tl5 m (ff m (-1))) 0 0 0 (nI 5) D5 = g_L_isJournal_43 30 (tl5 m (ff m (-1))) (tl5 m (ff m (-1))) 0 0 0 0 D5 := by
    show g_L_isJournal_19 (24 + 1) _ _ _ _ _ _ _ = _
    simp only [g_L_isJournal_19]
    rw [if_pos (show (5 : Int32) ≤ nI 5 by decide)]
  rw [kinds hB hW] at a5
  have A := a1.trans (a2.trans (a3.trans (a4.trans (a5.trans (a6.trans (j43 h5))))))
  obtain ⟨E1, b1, g1⟩ := j234s h5 hI (n := 29) (s := 0) (by decide) (x1 := tl5 m (ff m (-1))) (x2 := tl5 m (ff m (-1))) (x3 := tl5 m (ff m (-1))) (x4 := tl5 m (ff m (-2))) (x5 := wsum m) (x6 := 0)
  obtain ⟨E2, b2, g2⟩ := j234s g1 hI (n := 28) (s := 1) (by decide) (x1 := tl5 m (ff m (-1))) (x2 := tl5 m (ff m (-1))) (x3 := tl5 m (ff m (-1))) (x4 := tl5 m (ff m (-2))) (x5 := wsum m) (x6 := 0 + tkv m B (nI 0))
  obtain ⟨E3, b3, g3⟩ := j234s g2 hI (n := 27) (s := 2) (by decide) (x1 := tl5 m (ff m (-1))) (x2 := tl5 m (ff m (-1))) (x3 := tl5 m (ff m (-1))) (x4 := tl5 m (ff m (-2))) (x5 := wsum m) (x6 := 0 + tkv m B (nI 0) + tkv m B (nI 1))
  obtain ⟨E4, b4, g4⟩ := j234s g3 hI (n := 26) (s := 3) (by decide) (x1 := tl5 m (ff m (-1))) (x2 := tl5 m (ff m (-1))) (x3 := tl5 m (ff m (-1))) (x4 := tl5 m (ff m (-2))) (x5 := wsum m) (x6 := 0 + tkv m B (nI 0) + tkv m B (nI 1) + tkv m B (nI 2))
  rw [sorts hW] at b4
  have b5 : g_L_isJournal_234 26 (tl5 m (ff m (-1))) (tl5 m (ff m (-1))) (tl5 m (ff m (-1))) (tl5 m (ff m (-2))) (wsum m) (tkv m B (-1)) (nI 4) E4 = g_L_isJournal_260 30 (tl5 m (ff m (-1))) (tl5 m (ff m (-1))) (tl5 m (ff m (-1))) (tl5 m (ff m (-2))) (wsum m) (tkv m B (-1)) 0 E4 := by
    show g_L_isJournal_234 (25 + 1) _ _ _ _ _ _ _ _ = _
    simp only [g_L_isJournal_234]
    rw [if_pos (show (4 : Int32) ≤ nI 4 by decide)]
  obtain ⟨E5, c1, c2⟩ := j260 (hs := hs) (im := im) hI hW (wsum_pos hI) (rl m B).length 0 30 E4 g4 (by omega) (by omega)
  rw [← all_len hB] at c1
  exact ⟨E5, A.trans (b1.trans (b2.trans (b3.trans (b4.trans (b5.trans c1))))), c2⟩
end LJ

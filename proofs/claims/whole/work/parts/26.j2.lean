-- the readers of the records: class and reference side by side
section JS
variable {m w d rb rp mv : Nat → Int32} {jc : Int32} {B S k : Nat} {L : RL2}
def itr {α : Type} (st : Nat → α → α) (i : Nat) : Nat → α → α
  | 0, a => a
  | j + 1, a => itr st (i + 1) j (st i a)
theorem loop_up {α β : Type} (F : Nat → α → Int32 → Option β) (fin : α → Option β) (st : Nat → α → α) (N : Nat) (h1 : ∀ n i a, i < N → F (n + 1) a (nI i) = F n (st i a) (nI (i + 1))) (h2 : ∀ n a, F (n + 1) a (nI N) = fin a) (n : Nat) : ∀ (j i : Nat) (a : α), i + j = N → F (n + j + 1) a (nI i) = fin (itr st i j a) := by
  intro j
  induction j with
  | zero =>
    intro i a h
    rw [show i = N by omega]
    exact h2 _ a
  | succ j ih =>
    intro i a h
    rw [h1 _ i a (by omega), show n + (j + 1) = n + j + 1 by omega, ih (i + 1) (st i a) (by omega)]
    rfl
theorem itr_rel {α β : Type} (R : α → β → Prop) (sa : Nat → α → α) (sb : Nat → β → β) (N : Nat) (hs : ∀ i a b, i < N → R a b → R (sa i a) (sb i b)) : ∀ (j i : Nat) (a : α) (b : β), i + j = N → R a b → R (itr sa i j a) (itr sb i j b) := by
  intro j
  induction j with
  | zero => intro i a b _ h; exact h
  | succ j ih =>
    intro i a b h hr
    exact ih (i + 1) _ _ (by omega) (hs i a b (by omega) hr)
def sm (c : Nat × Nat → Int32) : RL2 → Int32
  | [] => 0
  | x :: t => c x + sm c t
theorem sm_app (c : Nat × Nat → Int32) (L M : RL2) : sm c (L ++ M) = sm c L + sm c M := by
  induction L with
  | nil => simp [sm]
  | cons x t ih => simp only [List.cons_append, sm, ih, Int32.add_assoc]
theorem itr_sm (c : Nat × Nat → Int32) (st : Nat → Int32 → Int32) : ∀ (M : RL2) (i : Nat) (a : Int32), (∀ (j : Nat) (x : Nat × Nat), M[j]? = some x → ∀ a, st (i + j) a = a + c x) → itr st i M.length a = a + sm c M := by
  intro M
  induction M with
  | nil => intro i a _; simp [itr, sm]
  | cons x t ih =>
    intro i a h
    simp only [List.length_cons, itr]
    rw [ih (i + 1) (st i a) (fun j y hy b => by
      have := h (j + 1) y (by simpa using hy) b
      rw [show i + 1 + j = i + (j + 1) by omega]
      exact this), show st i a = a + c x from h 0 x rfl a]
    simp only [sm, Int32.add_assoc]
theorem ixL {i : Nat} (h : i < L.length) : ∃ x, L[i]? = some x := ⟨L[i], List.getElem?_eq_getElem h⟩
theorem dtl {i c : Nat} (h : GJ m d jc L) (hl : L.length ≤ 20) (hi : i < L.length) (hc : c < 6) : g_X2_detail d jc (nI i) (nI c) = some (d (6 * i + c)) := by
  have hx : nI i * 6 + nI c = nI (6 * i + c) := by rw [show (6 : Int32) = nI 6 from rfl, pk_mul, nI_add, Nat.mul_comm]
  unfold g_X2_detail
  rw [hx, h.1, if_neg (nI_neg (by omega)), if_neg (nI_ge hi (by omega)), if_neg (nI_neg (by omega)), if_neg (show ¬ (120 : Int32) ≤ nI (6 * i + c) from nI_ge (a := 6 * i + c) (b := 120) (by omega) (by decide)), if_neg (cond_nI (by omega) (by decide)), nI_clamp (by omega)]
theorem ofX {i c : Nat} {x : Nat × Nat} (h : LR rb rp mv L) (hk : okL L) (hl : L.length ≤ 20) (hx : L[i]? = some x) (hc : c < 4) : g_X7_of m rb rp (nI i) (nI c) = some (m (22 * x.1 + (6 + 4 * x.2 + c))) := by
  have hi : i < L.length := (List.getElem?_eq_some_iff.mp hx).1
  obtain ⟨e1, e2⟩ := h.2 i x hx
  have hm := hk x (List.mem_of_getElem? hx)
  unfold g_X7_of
  rw [if_neg (cond_nI (by omega) (by decide)), if_neg (cond_nI (by omega) (by decide)), nI_clamp (by omega), e1, e2, in_nI hm.1 hm.2 hc]
  rfl
-- how many there are
theorem sm_bl {kd : Int32} {b : Nat} (h1 : ¬ kd = -1) (h2 : ¬ kd = -2) : sm (fun x => b2i (m (22 * x.1 + (6 + 4 * x.2)) / 10000 == kd)) (bl m b) = tl m (ff m kd) b := by
  unfold bl tl cn4
  simp only [ff, if_neg h2, beq_eq_false_iff_ne.mpr h1, Bool.false_or]
  cases wh m b
  · rfl
  · cases rc m b 0 <;> cases rc m b 1 <;> cases rc m b 2 <;> cases rc m b 3 <;> simp [sm, b2i, Int32.add_assoc]
theorem sm_rl {kd : Int32} (hB : B < 5) (h1 : ¬ kd = -1) (h2 : ¬ kd = -2) : sm (fun x => b2i (m (22 * x.1 + (6 + 4 * x.2)) / 10000 == kd)) (rl m B) = tl5 m (ff m kd) := by
  unfold rl tl5
  simp only [sm_app, sm_bl h1 h2]
  rcases (show B = 0 ∨ B = 1 ∨ B = 2 ∨ B = 3 ∨ B = 4 by omega) with rfl | rfl | rfl | rfl | rfl <;> simp only [Nat.reduceAdd, Nat.reduceMod, Int32.zero_add] <;> ac_rfl
theorem cntF {kd : Int32} (hB : B < 5) (h : GJ m d (nI (rl m B).length) (rl m B)) (h1 : ¬ kd = -1) (h2 : ¬ kd = -2) : g_X2_countOf d (nI (rl m B).length) kd = some (tl5 m (ff m kd)) := by
  have hl := rl_len (m := m) (B := B)
  have := loop_up (fun n a i => g_X2_countOf_4 d (nI (rl m B).length) n kd a i) (fun a => some a) (fun i a => a + b2i (d (6 * i + 1) == kd)) (rl m B).length (fun n i a hi => by
    show g_X2_countOf_4 d (nI (rl m B).length) (n + 1) kd a (nI i) = _
    simp only [g_X2_countOf_4, g_X2_countOf_25]
    rw [if_neg (nI_ge hi (by omega)), show (1 : Int32) = nI 1 from rfl, dtl h hl hi (by decide), Option.bind_some]
    by_cases he : d (6 * i + 1) = kd
    · rw [if_pos he]; simp [he, b2i, nI_s, show nI 1 = (1 : Int32) from rfl]
    · rw [if_neg he]; simp [he, b2i, nI_s, show nI 1 = (1 : Int32) from rfl]) (fun n a => by
    show g_X2_countOf_4 d (nI (rl m B).length) (n + 1) kd a (nI _) = _
    simp only [g_X2_countOf_4]
    rw [if_pos (Int32.le_refl _)]) (29 - (rl m B).length) (rl m B).length 0 0 (by omega)
  unfold g_X2_countOf
  rw [show 29 - (rl m B).length + (rl m B).length + 1 = 30 by omega] at this
  refine (this.trans ?_)
  rw [itr_sm (fun x => b2i (m (22 * x.1 + (6 + 4 * x.2)) / 10000 == kd)) _ (rl m B) 0 0 (fun j x hx a => by
    rw [Nat.zero_add, (h.2 j x hx).2.1]), sm_rl hB h1 h2, Int32.zero_add]
theorem recsF (hw : ∀ i, i < 110 → w i = m i) (hI : FI m B S k) (d : Nat → Int32) (jc n1 : Int32) : ∃ o d' jc', g_X6_records w d jc n1 = some (o, d', jc') ∧ g_X7_records m n1 = some o := by
  unfold g_X6_records g_X7_records
  rw [tal1 hw, tal2 hw, iw0, iw7, co7]
  by_cases e2 : n1 = -2
  · subst e2
    exact ⟨_, d, jc, by rw [if_pos rfl, Option.bind_some], by rw [show inI (-2) (-2) 4 = true by decide]; rfl⟩
  · rw [if_neg e2]
    by_cases e1 : n1 = -1
    · subst e1
      exact ⟨_, d, jc, by rw [if_pos rfl, Option.bind_some], by rw [show inI (-1) (-2) 4 = true by decide]; rfl⟩
    · rw [if_neg e1]
      cases hin : inI n1 0 4
      · refine ⟨-1, d, jc, rfl, ?_⟩
        have : inI n1 (-2) 4 = false := by
          unfold inI at hin ⊢
          rw [Bool.and_eq_false_iff] at hin ⊢
          rcases hin with h | h
          · left
            simp only [Bool.not_eq_false', decide_eq_true_eq] at h ⊢
            rw [Int32.lt_iff_toInt_lt] at h ⊢
            rw [← Int32.toInt_inj] at e1 e2
            have a0 : (0 : Int32).toInt = 0 := rfl
            have a1 : (-1 : Int32).toInt = -1 := by decide
            have a2 : (-2 : Int32).toInt = -2 := by decide
            omega
          · right; exact h
        rw [this]; rfl
      · obtain ⟨d', a1, c1⟩ := gaF hw hI d jc
        obtain ⟨j, hj, rfl⟩ := inI_nI (h := 4) (by decide) hin
        have : inI (nI j) (-2) 4 = true := by
          rcases (show j = 0 ∨ j = 1 ∨ j = 2 ∨ j = 3 ∨ j = 4 by omega) with rfl | rfl | rfl | rfl | rfl <;> decide
        refine ⟨tl5 m (ff m (nI j)), d', nI (rl m B).length, ?_, by rw [this]; rfl⟩
        rw [Option.bind_some, bT rfl, if_neg i1ne, a1, Option.bind_some]
        show (g_X2_countOf d' (nI (rl m B).length) (nI j)).bind _ = _
        rw [cntF hI.1 c1 e1 e2, Option.bind_some]
-- one record
theorem recF (hw : ∀ i, i < 110 → w i = m i) (hI : FI m B S k) (d rb rp mv : Nat → Int32) (jc n1 n2 : Int32) : ∃ o d' jc' rb' rp' mv', g_X6_record w d jc n1 n2 = some (o, d', jc') ∧ g_X7_record m rb rp mv n1 n2 = some (o, rb', rp', mv') ∧ mv' 0 = mv 0 := by
  unfold g_X6_record g_X7_record g_X6_record_13 g_X7_record_13
  rw [iw0, iw7]
  by_cases h0 : n1 < 0
  · exact ⟨-1, d, jc, rb, rp, mv, by rw [if_pos h0], by rw [if_pos h0], rfl⟩
  · rw [if_neg h0, if_neg h0]
    cases hin : inI n2 0 5
    · exact ⟨-1, d, jc, rb, rp, mv, rfl, rfl, rfl⟩
    · obtain ⟨d', a1, c1⟩ := gaF hw hI d jc
      obtain ⟨rb', rp', mv', a2, c2, e0⟩ := laF hI rb rp mv
      obtain ⟨c, hc, rfl⟩ := inI_nI (h := 5) (by decide) hin
      have hl := rl_len (m := m) (B := B)
      rw [Option.bind_some, Option.bind_some, bT rfl, if_neg i1ne, if_neg i1ne, a1, a2, Option.bind_some, Option.bind_some]
      simp only [c2.1]
      rcases pk_ix n1 (n := (rl m B).length) (by omega) with h | h | ⟨i, hi, rfl⟩
      · exact absurd h h0
      · refine ⟨-9, d', nI (rl m B).length, rb', rp', mv', ?_, ?_, e0⟩
        · unfold g_X2_detail g_X2_detail_41
          rw [if_neg h0, if_pos h, Option.bind_some]
        · rw [if_neg (Int32.not_lt.mpr h)]
      · rw [if_pos (show nI i < nI (rl m B).length from (nI_ltI (by omega) (by omega)).mpr hi), dtl c1 hl hi (by omega), Option.bind_some]
        obtain ⟨x, hx⟩ := ixL hi
        obtain ⟨z0, z1, z2, z3, z4, z5⟩ := c1.2 i x hx
        have y0 := ofX (m := m) (c := 0) c2 rl_ok hl hx (by decide)
        have y1 := ofX (m := m) (c := 1) c2 rl_ok hl hx (by decide)
        have y2 := ofX (m := m) (c := 2) c2 rl_ok hl hx (by decide)
        obtain ⟨y4, y5⟩ := c2.2 i x hx
        rw [show nI 0 = (0 : Int32) from rfl] at y0
        rw [show nI 1 = (1 : Int32) from rfl] at y1
        rw [show nI 2 = (2 : Int32) from rfl] at y2
        have gi := cond_nI (j := i) (N := 20) (by omega) (by decide)
        refine ⟨d' (6 * i + c), d', nI (rl m B).length, rb', rp', mv', rfl, ?_, e0⟩
        rw [y0, y1, y2]
        simp only [Option.bind_some]
        rcases (show c = 0 ∨ c = 1 ∨ c = 2 ∨ c = 3 ∨ c = 4 ∨ c = 5 by omega) with rfl | rfl | rfl | rfl | rfl | rfl
        · rw [if_pos (show nI 0 = 0 from rfl)]; simp only [Nat.add_zero, z0]
        · rw [if_neg (by decide), if_pos (show nI 1 = 1 from rfl), z1]; rfl
        · rw [if_neg (by decide), if_neg (by decide), if_pos (show nI 2 = 2 from rfl), z2]
        · rw [if_neg (by decide), if_neg (by decide), if_neg (by decide), if_pos (show nI 3 = 3 from rfl), z3]
        · rw [if_neg (by decide), if_neg (by decide), if_neg (by decide), if_neg (by decide), if_pos (show nI 4 = 4 from rfl), if_neg gi, nI_clamp (by omega), y4, z4]
        · rw [if_neg (by decide), if_neg (by decide), if_neg (by decide), if_neg (by decide), if_neg (by decide), if_neg gi, nI_clamp (by omega), y5, z5]
-- what was taken
def tA (d : Nat → Int32) (n1 kd : Int32) (i : Nat) (a : Int32) : Int32 := if (n1 = -1 ∨ d (6 * i + 3) / 1000 = n1) ∧ d (6 * i + 1) = kd then a + jrem (d (6 * i + 3)) 1000 else a
def tM (d : Nat → Int32) (n1 : Int32) (i : Nat) (a : Int32) : Int32 := if 2 ≤ d (6 * i + 1) then a + 0 else if n1 = -1 ∨ d (6 * i + 3) / 1000 = n1 then (if d (6 * i + 1) = 0 then a + jrem (d (6 * i + 3)) 1000 else a + -(jrem (d (6 * i + 3)) 1000)) else a + 0
theorem takF (hw : ∀ i, i < 110 → w i = m i) (hI : FI m B S k) (d rb rp mv : Nat → Int32) (jc n1 : Int32) : ∃ o d' jc' rb' rp' mv', g_X6_takings w d jc n1 = some (o, d', jc') ∧ g_X7_takings m rb rp mv n1 = some (o, rb', rp', mv') ∧ mv' 0 = mv 0 := by
  obtain ⟨d', a1, h⟩ := gaF hw hI d jc
  obtain ⟨rb', rp', mv', a2, c2, e0⟩ := laF hI rb rp mv
  have hl := rl_len (m := m) (B := B)
  -- the class's two sums
  have ca : ∀ kd : Nat, kd < 2 → g_X2_pricesOf d' (nI (rl m B).length) (nI kd) n1 = some (itr (tA d' n1 (nI kd)) 0 (rl m B).length 0) := by
    intro kd _
    have := loop_up (fun n a i => g_X2_pricesOf_5 d' (nI (rl m B).length) n (nI kd) n1 a i) (fun a => some a) (tA d' n1 (nI kd)) (rl m B).length (fun n i a hi => by
      show g_X2_pricesOf_5 d' (nI (rl m B).length) (n + 1) (nI kd) n1 a (nI i) = _
      simp only [g_X2_pricesOf_5, g_X2_pricesOf_38, g_X2_pricesOf_43, g_X2_pricesOf_70]
      rw [if_neg (nI_ge hi (by omega)), show (3 : Int32) = nI 3 from rfl, dtl h hl hi (by decide), Option.bind_some, if_neg i1ne]
      simp only [if_true]
      unfold tA
      have h1 := dtl (c := 1) h hl hi (by decide)
      rw [show nI 1 = (1 : Int32) from rfl] at h1
      rw [h1, Option.bind_some, nI_s]
      by_cases x1 : n1 = -1
      · rw [if_pos x1]
        by_cases x2 : d' (6 * i + 1) = nI kd
        · rw [if_pos x2, if_pos ⟨Or.inl x1, x2⟩]
        · rw [if_neg x2, if_neg (fun z => x2 z.2)]
      · rw [if_neg x1]
        by_cases x3 : d' (6 * i + 3) / 1000 = n1
        · rw [if_pos x3]
          by_cases x2 : d' (6 * i + 1) = nI kd
          · rw [if_pos x2, if_pos ⟨Or.inr x3, x2⟩]
          · rw [if_neg x2, if_neg (fun z => x2 z.2)]
        · rw [if_neg x3, if_neg (fun z => z.1.elim x1 x3)]) (fun n a => by
      show g_X2_pricesOf_5 d' (nI (rl m B).length) (n + 1) (nI kd) n1 a (nI _) = _
      simp only [g_X2_pricesOf_5]
      rw [if_pos (Int32.le_refl _)]) (29 - (rl m B).length) (rl m B).length 0 0 (by omega)
    unfold g_X2_pricesOf
    rw [show 29 - (rl m B).length + (rl m B).length + 1 = 30 by omega] at this
    exact this
  -- the model's one
  have cb : g_X7_takings_19 m 30 n1 0 0 rb' rp' mv' = some (itr (tM d' n1) 0 (rl m B).length 0, rb', rp', mv') := by
    have := loop_up (fun n a i => g_X7_takings_19 m n n1 a i rb' rp' mv') (fun a => some (a, rb', rp', mv')) (tM d' n1) (rl m B).length (fun n i a hi => by
      show g_X7_takings_19 m (n + 1) n1 a (nI i) rb' rp' mv' = _
      obtain ⟨x, hx⟩ := ixL hi
      obtain ⟨z0, z1, z2, z3, z4, z5⟩ := h.2 i x hx
      have y0 := ofX (m := m) (c := 0) c2 rl_ok hl hx (by decide)
      have y2 := ofX (m := m) (c := 2) c2 rl_ok hl hx (by decide)
      rw [show nI 0 = (0 : Int32) from rfl, Nat.add_zero] at y0
      rw [show nI 2 = (2 : Int32) from rfl, ← z3] at y2
      simp only [g_X7_takings_19, g_X7_takings_68, g_X7_takings_64, g_X7_takings_69, g_X7_takings_110]
      unfold tM
      rw [c2.1, if_neg (nI_ge hi (by omega)), y0, y2]
      simp only [Option.bind_some, ← z1, if_true, if_neg i1ne, nI_s]
      by_cases x0 : (2 : Int32) ≤ d' (6 * i + 1)
      · rw [if_pos x0, if_pos x0]
      · rw [if_neg x0, if_neg x0]
        by_cases x1 : n1 = -1
        · rw [if_pos x1, if_pos (Or.inl x1)]
          by_cases x2 : d' (6 * i + 1) = 0
          · rw [if_pos x2, if_pos x2]
          · rw [if_neg x2, if_neg x2]
        · rw [if_neg x1]
          by_cases x3 : d' (6 * i + 3) / 1000 = n1
          · rw [if_pos x3, if_pos (Or.inr x3)]
            by_cases x2 : d' (6 * i + 1) = 0
            · rw [if_pos x2, if_pos x2]
            · rw [if_neg x2, if_neg x2]
          · rw [if_neg x3, if_neg (fun z => z.elim x1 x3)]) (fun n a => by
      show g_X7_takings_19 m (n + 1) n1 a (nI _) rb' rp' mv' = _
      simp only [g_X7_takings_19]
      rw [c2.1, if_pos (Int32.le_refl _)]) (29 - (rl m B).length) (rl m B).length 0 0 (by omega)
    rw [show 29 - (rl m B).length + (rl m B).length + 1 = 30 by omega] at this
    exact this
  have hd : ∀ a b : Int32, a - b = a + -b := fun a b => Int32.sub_eq_add_neg a b
  have cc := itr_rel (fun (ab : Int32 × Int32) (t : Int32) => ab.1 - ab.2 = t) (fun i ab => (tA d' n1 (nI 0) i ab.1, tA d' n1 (nI 1) i ab.2)) (tM d' n1) (rl m B).length (fun i ab t hi hr => by
    obtain ⟨x, hx⟩ := ixL hi
    obtain ⟨z0, z1, z2, z3, z4, z5⟩ := h.2 i x hx
    have hm := rl_ok (m := m) (B := B) x (List.mem_of_getElem? hx)
    obtain ⟨f, hf, ef⟩ := hI.2.2.2.2.2.1 x.1 x.2 hm.1 hm.2
    have hq : d' (6 * i + 1) = nI (f / 10000) := by
      rw [z1, ef, show (10000 : Int32) = nI 10000 from rfl, pk_div (by omega) (by decide) (by decide)]
    obtain ⟨a, b⟩ := ab
    simp only at hr ⊢
    subst hr
    unfold tA tM
    rw [hq]
    generalize hp : jrem (d' (6 * i + 3)) 1000 = p
    have k0 : (nI (f / 10000) = nI 0) = (f / 10000 = 0) := propext (nI_inj (by omega) (by decide))
    have k1 : (nI (f / 10000) = nI 1) = (f / 10000 = 1) := propext (nI_inj (by omega) (by decide))
    have k2 : ((2 : Int32) ≤ nI (f / 10000)) = (2 ≤ f / 10000) := propext (nI_leI (a := 2) (by decide) (by omega))
    rw [show (0 : Int32) = nI 0 from rfl]
    simp only [k0, k1, k2]
    rw [show nI 0 = (0 : Int32) from rfl]
    by_cases hs : (n1 = -1 ∨ d' (6 * i + 3) / 1000 = n1)
    · rcases (show f / 10000 = 0 ∨ f / 10000 = 1 ∨ 2 ≤ f / 10000 by omega) with e | e | e
      · simp only [hs, e, true_and, if_true, if_neg (show ¬ 2 ≤ 0 by decide), if_neg (show ¬ 0 = 1 by decide), hd]
        ac_rfl
      · simp only [hs, e, true_and, if_true, if_neg (show ¬ 2 ≤ 1 by decide), if_neg (show ¬ 1 = 0 by decide), hd, Int32.neg_add]
        ac_rfl
      · rw [if_pos e, if_neg (by omega), if_neg (by omega), Int32.add_zero]
    · simp only [hs, false_and, if_false, Int32.add_zero, ite_self]) (rl m B).length 0 (0, 0) 0 (by omega) (by decide)
  have pr : ∀ (sa sb : Nat → Int32 → Int32) (j i : Nat) (a b : Int32), itr (fun i (ab : Int32 × Int32) => (sa i ab.1, sb i ab.2)) i j (a, b) = (itr sa i j a, itr sb i j b) := by
    intro sa sb j
    induction j with
    | zero => intro i a b; rfl
    | succ j ih => intro i a b; exact ih (i + 1) _ _
  rw [pr (tA d' n1 (nI 0)) (tA d' n1 (nI 1))] at cc
  simp only at cc
  unfold g_X6_takings g_X7_takings g_X6_takings_14
  rw [iw7, is0, a1, a2]
  have i0 : g_X2_pricesOf d' (nI (rl m B).length) 0 n1 = _ := ca 0 (by decide)
  have i1 : g_X2_pricesOf d' (nI (rl m B).length) 1 n1 = _ := ca 1 (by decide)
  simp only [Option.bind_some]
  rw [i0, i1, cb]
  simp only [Option.bind_some]
  rw [cc]
  by_cases x1 : n1 = -1
  · exact ⟨_, d', nI (rl m B).length, rb', rp', mv', by rw [if_pos x1], by rw [x1, show inI (-1) (-1) 3 = true by decide]; rfl, e0⟩
  · rw [if_neg x1]
    cases hin : inI n1 0 3
    · refine ⟨-1, d, jc, rb, rp, mv, rfl, ?_, rfl⟩
      have : inI n1 (-1) 3 = false := by
        unfold inI at hin ⊢
        rw [Bool.and_eq_false_iff] at hin ⊢
        rcases hin with h | h
        · left
          simp only [Bool.not_eq_false', decide_eq_true_eq] at h ⊢
          rw [Int32.lt_iff_toInt_lt] at h ⊢
          rw [← Int32.toInt_inj] at x1
          have a0 : (0 : Int32).toInt = 0 := rfl
          have a1 : (-1 : Int32).toInt = -1 := by decide
          omega
        · right; exact h
      rw [this]; rfl
    · obtain ⟨j, hj, rfl⟩ := inI_nI (h := 3) (by decide) hin
      have : inI (nI j) (-1) 3 = true := by
        rcases (show j = 0 ∨ j = 1 ∨ j = 2 ∨ j = 3 by omega) with rfl | rfl | rfl | rfl <;> decide
      exact ⟨_, d', nI (rl m B).length, rb', rp', mv', by rw [bT rfl, if_neg i1ne], by rw [this, bT rfl, if_neg i1ne], e0⟩
-- the times
theorem loop_upL {α β : Type} (F : Nat → α → Int32 → Option β) (fin : α → Option β) (st : Nat → α → α) (lo N : Nat) (h1 : ∀ n i a, lo ≤ i → i < N → F (n + 1) a (nI i) = F n (st i a) (nI (i + 1))) (h2 : ∀ n a, F (n + 1) a (nI N) = fin a) (n : Nat) : ∀ (j i : Nat) (a : α), lo ≤ i → i + j = N → F (n + j + 1) a (nI i) = fin (itr st i j a) := by
  intro j
  induction j with
  | zero =>
    intro i a _ h
    rw [show i = N by omega]
    exact h2 _ a
  | succ j ih =>
    intro i a hlo h
    rw [h1 _ i a hlo (by omega), show n + (j + 1) = n + j + 1 by omega, ih (i + 1) (st i a) (by omega) (by omega)]
    rfl
def sD (d : Nat → Int32) (i : Nat) : Int32 := d (6 * i + 2) - d (6 * (i - 1) + 2)
def uB (d : Nat → Int32) (i : Nat) (a : Int32) : Int32 := if 0 ≤ sD d i then a + 0 else a + 1
def uG (d : Nat → Int32) (i : Nat) (a : Int32) : Int32 := if i = 1 then sD d i else if sD d i ≤ a then a else sD d i
def uN (d : Nat → Int32) (i : Nat) (a : Int32) : Int32 := if d (6 * i) = jrem (d (6 * (i - 1)) + 1) 10000 then a + 0 else a + 1
theorem stpT {i : Nat} (h : GJ m d jc L) (hl : L.length ≤ 20) (h1 : 1 ≤ i) (hi : i < L.length) : g_X2_stepTo d jc (nI i) = some (sD d i) := by
  obtain ⟨c, rfl⟩ : ∃ c, i = c + 1 := ⟨i - 1, by omega⟩
  unfold g_X2_stepTo
  rw [nI_sub1, show (2 : Int32) = nI 2 from rfl, dtl h hl hi (by decide), dtl h hl (by omega) (by decide)]
  rfl
theorem gs_end {n : Nat} {a x2 : Int32} (h : jc ≤ x2) : g_X2_greatestStep_20 d jc (n + 1) a x2 = some a := by
  simp only [g_X2_greatestStep_20]
  rw [if_pos h]
theorem timF (hw : ∀ i, i < 110 → w i = m i) (hI : FI m B S k) (d rb rp mv : Nat → Int32) (jc n1 : Int32) : ∃ o d' jc' rb' rp' mv', g_X6_times w d jc n1 = some (o, d', jc') ∧ g_X7_times m rb rp mv n1 = some (o, rb', rp', mv') ∧ mv' 0 = mv 0 := by
  obtain ⟨d', a1, h⟩ := gaF hw hI d jc
  obtain ⟨rb', rp', mv', a2, c2, e0⟩ := laF hI rb rp mv
  have hl := rl_len (m := m) (B := B)
  generalize hN : (rl m B).length = N at *
  have hl2 : (rl m B).length ≤ 20 := by omega
  obtain ⟨E, hE, hE2⟩ : ∃ E, E = max N 1 ∧ 1 ≤ E := ⟨max N 1, rfl, by omega⟩
  have hNE : nI N ≤ nI E := (nI_leI (by omega) (by omega)).mpr (by omega)
  -- the model's three at once
  have cm : g_X7_times_25 m 30 n1 0 0 0 1 rb' rp' mv' = (if n1 = 0 then some (itr (uB d') 1 (E - 1) 0, rb', rp', mv') else if n1 = 1 then some (itr (uG d') 1 (E - 1) 0, rb', rp', mv') else some (itr (uN d') 1 (E - 1) 0, rb', rp', mv')) := by
    have := loop_upL (fun n (a : Int32 × Int32 × Int32) i => g_X7_times_25 m n n1 a.1 a.2.1 a.2.2 i rb' rp' mv') (fun a => if n1 = 0 then some (a.1, rb', rp', mv') else if n1 = 1 then some (a.2.1, rb', rp', mv') else some (a.2.2, rb', rp', mv')) (fun i a => (uB d' i a.1, uG d' i a.2.1, uN d' i a.2.2)) 1 E (fun n i a hlo hi => by
      show g_X7_times_25 m (n + 1) n1 a.1 a.2.1 a.2.2 (nI i) rb' rp' mv' = g_X7_times_25 m n n1 (uB d' i a.1) (uG d' i a.2.1) (uN d' i a.2.2) (nI (i + 1)) rb' rp' mv'
      obtain ⟨c, rfl⟩ : ∃ c, i = c + 1 := ⟨i - 1, by omega⟩
      have hi2 : c + 1 < (rl m B).length := by omega
      obtain ⟨x, hx⟩ := ixL hi2
      obtain ⟨y, hy⟩ := ixL (show c < (rl m B).length by omega)
      obtain ⟨z0, z1, z2, z3, z4, z5⟩ := h.2 _ x hx
      obtain ⟨v0, v1, v2, v3, v4, v5⟩ := h.2 _ y hy
      have x0 := ofX (m := m) (c := 0) c2 rl_ok hl2 hx (by decide)
      have x1 := ofX (m := m) (c := 1) c2 rl_ok hl2 hx (by decide)
      have y0 := ofX (m := m) (c := 0) c2 rl_ok hl2 hy (by decide)
      have y1 := ofX (m := m) (c := 1) c2 rl_ok hl2 hy (by decide)
      rw [show nI 0 = (0 : Int32) from rfl] at x0 y0
      simp only [Nat.add_zero] at x0 y0
      rw [show nI 1 = (1 : Int32) from rfl] at x1 y1
      rw [← z2] at x1
      rw [← v2] at y1
      simp only [g_X7_times_25, g_X7_times_64, g_X7_times_78, g_X7_times_84, g_X7_times_125]
      rw [c2.1, hN, if_neg (nI_ge (show c + 1 < N by omega) (by omega)), nI_sub1, x1, y1, x0, y0]
      simp only [Option.bind_some, ← z0, ← v0, nI_s]
      unfold uB uG uN
      rw [show sD d' (c + 1) = d' (6 * (c + 1) + 2) - d' (6 * c + 2) from rfl, show c + 1 - 1 = c by omega]
      have k1 : (nI (c + 1) = (1 : Int32)) = (c + 1 = 1) := propext (nI_inj (b := 1) (by omega) (by decide))
      simp only [k1]
      generalize d' (6 * (c + 1) + 2) - d' (6 * c + 2) = s
      generalize jrem (d' (6 * c) + 1) 10000 = u
      generalize d' (6 * (c + 1)) = t
      rcases Nat.eq_zero_or_pos c with rfl | hc
      · simp only [Nat.zero_add, if_true]
        by_cases g0 : (0 : Int32) ≤ s <;> by_cases g3 : t = u <;> simp only [g0, g3, if_true, if_false]
      · have g1 : ¬ c + 1 = 1 := by omega
        simp only [if_neg g1]
        by_cases g0 : (0 : Int32) ≤ s <;> by_cases g2 : s ≤ a.2.1 <;> by_cases g3 : t = u <;> simp only [g0, g2, g3, if_true, if_false]) (fun n a => by
      show g_X7_times_25 m (n + 1) n1 a.1 a.2.1 a.2.2 (nI E) rb' rp' mv' = _
      simp only [g_X7_times_25]
      rw [c2.1, hN, if_pos hNE]) (29 - (E - 1)) (E - 1) 1 (0, 0, 0) (by omega) (by omega)
    rw [show 29 - (E - 1) + (E - 1) + 1 = 30 by omega] at this
    have pr : ∀ (j i : Nat) (a b c : Int32), itr (fun i (a : Int32 × Int32 × Int32) => (uB d' i a.1, uG d' i a.2.1, uN d' i a.2.2)) i j (a, b, c) = (itr (uB d') i j a, itr (uG d') i j b, itr (uN d') i j c) := by
      intro j
      induction j with
      | zero => intro i a b c; rfl
      | succ j ih => intro i a b c; exact ih (i + 1) _ _ _
    rw [pr] at this
    exact this
  have cb : g_X2_stepsBack d' (nI N) = some (itr (uB d') 1 (E - 1) 0) := by
    have := loop_upL (fun n a i => g_X2_stepsBack_4 d' (nI N) n a i) (fun a => some a) (uB d') 1 E (fun n i a hlo hi => by
      show g_X2_stepsBack_4 d' (nI N) (n + 1) a (nI i) = _
      simp only [g_X2_stepsBack_4, g_X2_stepsBack_23]
      have hs := stpT h hl2 hlo (by omega)
      rw [if_neg (nI_ge (show i < N by omega) (by omega)), hs, Option.bind_some, nI_s]
      unfold uB
      by_cases g : 0 ≤ sD d' i
      · simp only [if_pos g, Int32.add_zero]
      · simp only [if_neg g]) (fun n a => by
      show g_X2_stepsBack_4 d' (nI N) (n + 1) a (nI E) = _
      simp only [g_X2_stepsBack_4]
      rw [if_pos hNE]) (29 - (E - 1)) (E - 1) 1 0 (by omega) (by omega)
    rw [show 29 - (E - 1) + (E - 1) + 1 = 30 by omega] at this
    exact this
  have cn : g_X2_numberGaps d' (nI N) = some (itr (uN d') 1 (E - 1) 0) := by
    have := loop_upL (fun n a i => g_X2_numberGaps_4 d' (nI N) n a i) (fun a => some a) (uN d') 1 E (fun n i a hlo hi => by
      show g_X2_numberGaps_4 d' (nI N) (n + 1) a (nI i) = _
      obtain ⟨c, rfl⟩ : ∃ c, i = c + 1 := ⟨i - 1, by omega⟩
      simp only [g_X2_numberGaps_4, g_X2_numberGaps_38]
      have d1 := dtl (c := 0) h hl2 (show c + 1 < (rl m B).length by omega) (by decide)
      have d0 := dtl (c := 0) h hl2 (show c < (rl m B).length by omega) (by decide)
      rw [show nI 0 = (0 : Int32) from rfl] at d0 d1
      simp only [Nat.add_zero] at d0 d1
      rw [if_neg (nI_ge (show c + 1 < N by omega) (by omega)), nI_sub1, d1, d0, Option.bind_some, Option.bind_some, nI_s]
      unfold uN
      rw [show c + 1 - 1 = c by omega]
      by_cases g : d' (6 * (c + 1)) = jrem (d' (6 * c) + 1) 10000
      · simp only [if_pos g, Int32.add_zero]
      · simp only [if_neg g]) (fun n a => by
      show g_X2_numberGaps_4 d' (nI N) (n + 1) a (nI E) = _
      simp only [g_X2_numberGaps_4]
      rw [if_pos hNE]) (29 - (E - 1)) (E - 1) 1 0 (by omega) (by omega)
    rw [show 29 - (E - 1) + (E - 1) + 1 = 30 by omega] at this
    exact this
  have cg : g_X2_greatestStep d' (nI N) = some (itr (uG d') 1 (E - 1) 0) := by
    unfold g_X2_greatestStep g_X2_greatestStep_17
    by_cases h2 : 2 ≤ N
    · rw [if_pos (show (2 : Int32) ≤ nI N from (nI_leI (a := 2) (by decide) (by omega)).mpr h2)]
      have s1 : g_X2_stepTo d' (nI N) 1 = some (sD d' 1) := stpT (L := rl m B) (i := 1) h hl2 (by decide) (by omega)
      rw [s1, Option.bind_some]
      have := loop_upL (fun n a i => g_X2_greatestStep_20 d' (nI N) n a i) (fun a => some a) (uG d') 2 E (fun n i a hlo hi => by
        show g_X2_greatestStep_20 d' (nI N) (n + 1) a (nI i) = _
        simp only [g_X2_greatestStep_20]
        have hs := stpT h hl2 (by omega) (show i < (rl m B).length by omega)
        rw [if_neg (nI_ge (show i < N by omega) (by omega)), hs, Option.bind_some, nI_s]
        unfold uG
        rw [if_neg (show ¬ i = 1 by omega)]
        by_cases g : sD d' i ≤ a
        · rw [if_pos g, if_neg (Int32.not_lt.mpr g)]
        · rw [if_neg g, if_pos (Int32.not_le.mp g)]) (fun n a => by
        show g_X2_greatestStep_20 d' (nI N) (n + 1) a (nI E) = _
        simp only [g_X2_greatestStep_20]
        rw [if_pos hNE]) (29 - (E - 2)) (E - 2) 2 (sD d' 1) (by omega) (by omega)
      rw [show 29 - (E - 2) + (E - 2) + 1 = 30 by omega] at this
      rw [show E - 1 = E - 2 + 1 by omega]
      exact this
    · rw [if_neg (show ¬ (2 : Int32) ≤ nI N from fun z => h2 ((nI_leI (a := 2) (by decide) (by omega)).mp z)), show E - 1 = 0 by omega]
      exact gs_end (show nI N ≤ nI 2 from (nI_leI (by omega) (by decide)).mpr (by omega))
  unfold g_X6_times g_X7_times
  rw [iw7, a1, a2]
  simp only [Option.bind_some]
  rw [cm, cb, cg, cn]
  simp only [Option.bind_some]
  by_cases q0 : n1 = 0
  · subst q0
    exact ⟨_, d', nI N, rb', rp', mv', rfl, rfl, e0⟩
  · rw [if_neg q0]
    by_cases q1 : n1 = 1
    · subst q1
      exact ⟨_, d', nI N, rb', rp', mv', rfl, rfl, e0⟩
    · rw [if_neg q1]
      by_cases q2 : n1 = 2
      · subst q2
        exact ⟨_, d', nI N, rb', rp', mv', rfl, rfl, e0⟩
      · rw [if_neg q2]
        have : inI n1 0 2 = false := by
          cases hin : inI n1 0 2
          · rfl
          · obtain ⟨j, hj, rfl⟩ := inI_nI (h := 2) (by decide) hin
            rcases (show j = 0 ∨ j = 1 ∨ j = 2 by omega) with rfl | rfl | rfl
            · exact absurd rfl q0
            · exact absurd rfl q1
            · exact absurd rfl q2
        exact ⟨-1, d, jc, rb, rp, mv, rfl, by rw [this]; rfl, rfl⟩
end JS

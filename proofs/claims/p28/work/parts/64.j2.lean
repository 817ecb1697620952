-- the readers of the records: class and reference side by side
section JS
variable {m w d rb rp mv : Nat → Int32} {jc : Int32} {B S k : Nat} {L : RL2}
def itr {α : Type} (st : Nat → α → α) (i : Nat) : Nat → α → α
  | 0, a => a
  | j + 1, a => itr st (i + 1) j (st i a)
theorem loop_up {α β : Type} (F : Nat → α → Int32 → Option β) (fin : α → Option β) (st : Nat → α → α) (N : Nat) (h1 : ∀ n i a, i < N → F (n + 1) a (nI i) = F n (st i a) (nI (i + 1))) (h2 : ∀ n a, F (n + 1) a (nI N) = fin a) (n : Nat) : ∀ (j i : Nat) (a : α), i + j = N → F (n + j + 1) a (nI i) = fin (itr st i j a) := by
  intro j
  induction j with
  | zero =>
    intro i a h
    rw [show i = N by omega]
    exact h2 _ a
  | succ j ih =>
    intro i a h
    rw [h1 _ i a (by omega), show n + (j + 1) = n + j + 1 by omega, ih (i + 1) (st i a) (by omega)]
    rfl
theorem itr_rel {α β : Type} (R : α → β → Prop) (sa : Nat → α → α) (sb : Nat → β → β) (N : Nat) (hs : ∀ i a b, i < N → R a b → R (sa i a) (sb i b)) : ∀ (j i : Nat) (a : α) (b : β), i + j = N → R a b → R (itr sa i j a) (itr sb i j b) := by
  intro j
  induction j with
  | zero => intro i a b _ h; exact h
  | succ j ih =>
    intro i a b h hr
    exact ih (i + 1) _ _ (by omega) (hs i a b (by omega) hr)
def sm (c : Nat × Nat → Int32) : RL2 → Int32
  | [] => 0
  | x :: t => c x + sm c t
theorem sm_app (c : Nat × Nat → Int32) (L M : RL2) : sm c (L ++ M) = sm c L + sm c M := by
  induction L with
  | nil => simp [sm]
  | cons x t ih => simp only [List.cons_append, sm, ih, Int32.add_assoc]
theorem itr_sm (c : Nat × Nat → Int32) (st : Nat → Int32 → Int32) : ∀ (M : RL2) (i : Nat) (a : Int32), (∀ (j : Nat) (x : Nat × Nat), M[j]? = some x → ∀ a, st (i + j) a = a + c x) → itr st i M.length a = a + sm c M := by
  intro M
  induction M with
  | nil => intro i a _; simp [itr, sm]
  | cons x t ih =>
    intro i a h
    simp only [List.length_cons, itr]
    rw [ih (i + 1) (st i a) (fun j y hy b => by
      have := h (j + 1) y (by simpa using hy) b
      rw [show i + 1 + j = i + (j + 1) by omega]
      exact this), show st i a = a + c x from h 0 x rfl a]
    simp only [sm, Int32.add_assoc]
theorem ixL {i : Nat} (h : i < L.length) : ∃ x, L[i]? = some x := ⟨L[i], List.getElem?_eq_getElem h⟩
theorem dtl {i c : Nat} (h : GJ m d jc L) (hl : L.length ≤ 20) (hi : i < L.length) (hc : c < 6) : g_X2_detail d jc (nI i) (nI c) = some (d (6 * i + c)) := by
  have hx : nI i * 6 + nI c = nI (6 * i + c) := by rw [show (6 : Int32) = nI 6 from rfl, pk_mul, nI_add, Nat.mul_comm]
  unfold g_X2_detail
  rw [hx, h.1, if_neg (nI_neg (by omega)), if_neg (nI_ge hi (by omega)), if_neg (nI_neg (by omega)), if_neg (show ¬ (120 : Int32) ≤ nI (6 * i + c) from nI_ge (a := 6 * i + c) (b := 120) (by omega) (by decide)), if_neg (cond_nI (by omega) (by decide)), nI_clamp (by omega)]
-- how many there are
theorem sm_bl {kd : Int32} {b : Nat} (h1 : ¬ kd = -1) (h2 : ¬ kd = -2) : sm (fun x => b2i (m (22 * x.1 + (6 + 4 * x.2)) / 10000 == kd)) (bl m b) = tl m (ff m kd) b := by
  unfold bl tl cn4
  simp only [ff, if_neg h2, beq_eq_false_iff_ne.mpr h1, Bool.false_or]
  cases wh m b
  · rfl
  · cases rc m b 0 <;> cases rc m b 1 <;> cases rc m b 2 <;> cases rc m b 3 <;> simp [sm, b2i, Int32.add_assoc]
theorem sm_rl {kd : Int32} (hB : B < 5) (h1 : ¬ kd = -1) (h2 : ¬ kd = -2) : sm (fun x => b2i (m (22 * x.1 + (6 + 4 * x.2)) / 10000 == kd)) (rl m B) = tl5 m (ff m kd) := by
  unfold rl tl5
  simp only [sm_app, sm_bl h1 h2]
  rcases (show B = 0 ∨ B = 1 ∨ B = 2 ∨ B = 3 ∨ B = 4 by omega) with rfl | rfl | rfl | rfl | rfl <;> simp only [Nat.reduceAdd, Nat.reduceMod, Int32.zero_add] <;> ac_rfl
theorem cntF {kd : Int32} (hB : B < 5) (h : GJ m d (nI (rl m B).length) (rl m B)) (h1 : ¬ kd = -1) (h2 : ¬ kd = -2) : g_X2_countOf d (nI (rl m B).length) kd = some (tl5 m (ff m kd)) := by
  have hl := rl_len (m := m) (B := B)
  have := loop_up (fun n a i => g_X2_countOf_4 d (nI (rl m B).length) n kd a i) (fun a => some a) (fun i a => a + b2i (d (6 * i + 1) == kd)) (rl m B).length (fun n i a hi => by
    show g_X2_countOf_4 d (nI (rl m B).length) (n + 1) kd a (nI i) = _
    simp only [g_X2_countOf_4, g_X2_countOf_25]
    rw [if_neg (nI_ge hi (by omega)), show (1 : Int32) = nI 1 from rfl, dtl h hl hi (by decide), Option.bind_some]
    by_cases he : d (6 * i + 1) = kd
    · rw [if_pos he]; simp [he, b2i, nI_s, show nI 1 = (1 : Int32) from rfl]
    · rw [if_neg he]; simp [he, b2i, nI_s, show nI 1 = (1 : Int32) from rfl]) (fun n a => by
    show g_X2_countOf_4 d (nI (rl m B).length) (n + 1) kd a (nI _) = _
    simp only [g_X2_countOf_4]
    rw [if_pos (Int32.le_refl _)]) (29 - (rl m B).length) (rl m B).length 0 0 (by omega)
  unfold g_X2_countOf
  rw [show 29 - (rl m B).length + (rl m B).length + 1 = 30 by omega] at this
  refine (this.trans ?_)
  rw [itr_sm (fun x => b2i (m (22 * x.1 + (6 + 4 * x.2)) / 10000 == kd)) _ (rl m B) 0 0 (fun j x hx a => by
    rw [Nat.zero_add, (h.2 j x hx).2.1]), sm_rl hB h1 h2, Int32.zero_add]
theorem recsF (hw : ∀ i, i < 110 → w i = m i) (hI : FI m B S k) (d : Nat → Int32) (jc n1 : Int32) : ∃ o d' jc', g_X6_records w d jc n1 = some (o, d', jc') ∧ g_X7_records m n1 = some o := by
  unfold g_X6_records g_X7_records
  rw [tal1 hw, tal2 hw, iw0, iw7, co7]
  by_cases e2 : n1 = -2
  · subst e2
    exact ⟨_, d, jc, by rw [if_pos rfl, Option.bind_some], by rw [show inI (-2) (-2) 4 = true by decide]; rfl⟩
  · rw [if_neg e2]
    by_cases e1 : n1 = -1
    · subst e1
      exact ⟨_, d, jc, by rw [if_pos rfl, Option.bind_some], by rw [show inI (-1) (-2) 4 = true by decide]; rfl⟩
    · rw [if_neg e1]
      cases hin : inI n1 0 4
      · refine ⟨-1, d, jc, rfl, ?_⟩
        have : inI n1 (-2) 4 = false := by
          unfold inI at hin ⊢
          rw [Bool.and_eq_false_iff] at hin ⊢
          rcases hin with h | h
          · left
            simp only [Bool.not_eq_false', decide_eq_true_eq] at h ⊢
            rw [Int32.lt_iff_toInt_lt] at h ⊢
            rw [← Int32.toInt_inj] at e1 e2
            have a0 : (0 : Int32).toInt = 0 := rfl
            have a1 : (-1 : Int32).toInt = -1 := by decide
            have a2 : (-2 : Int32).toInt = -2 := by decide
            omega
          · right; exact h
        rw [this]; rfl
      · obtain ⟨d', a1, c1⟩ := gaF hw hI d jc
        obtain ⟨j, hj, rfl⟩ := inI_nI (h := 4) (by decide) hin
        have : inI (nI j) (-2) 4 = true := by
          rcases (show j = 0 ∨ j = 1 ∨ j = 2 ∨ j = 3 ∨ j = 4 by omega) with rfl | rfl | rfl | rfl | rfl <;> decide
        refine ⟨tl5 m (ff m (nI j)), d', nI (rl m B).length, ?_, by rw [this]; rfl⟩
        rw [Option.bind_some, bT rfl, if_neg i1ne, a1, Option.bind_some]
        show (g_X2_countOf d' (nI (rl m B).length) (nI j)).bind _ = _
        rw [cntF hI.1 c1 e1 e2, Option.bind_some]
end JS

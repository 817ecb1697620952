-- copies: of a printer, of a row into a row
section CP
variable {m m' w er fl me p pr w2 er2 fl2 me2 p2 pr2 ps mv im ik asd : Nat → Int32}
theorem PR.congr (h : PR w er fl me p pr m) (e : ∀ i, i < 131 → m' i = m i) : PR w er fl me p pr m' := by
  obtain ⟨⟨f1, f2, f3, f4, f5⟩, hp, p0, p1, p2, p3, hm⟩ := h
  refine ⟨⟨fun i hi => (f1 i hi).trans (e i (by omega)).symm, fun i hi => (f2 i hi).trans (e _ (by omega)).symm, f3.trans (e _ (by decide)).symm, f4.trans (e _ (by decide)).symm, by rw [e _ (by decide)]; exact f5⟩, fun i hi => (hp i hi).trans (e _ (by omega)).symm, p0.trans (e _ (by decide)).symm, p1.trans (e _ (by decide)).symm, p2.trans (e _ (by decide)).symm, p3.trans (e _ (by decide)).symm, fun on => ?_⟩
  rw [e _ (by decide)] at on
  rw [e _ (by decide), e _ (by decide), e _ (by decide), e _ (by decide), e _ (by decide), e _ (by decide)]
  exact hm on
theorem IV.congr (h : IV m) (e : ∀ i, i < 131 → m' i = m i) : IV m' := by
  obtain ⟨⟨B, S, k, hI, hm⟩, h2, h3, h4⟩ := h
  refine ⟨⟨B, S, k, hI.congr (fun i hi => e i (by omega)), fun on => ?_⟩, by rw [e _ (by decide)]; exact h2, fun i hi => by rw [e _ (by omega)]; exact h3 i hi, by rw [e _ (by decide)]; exact h4⟩
  rw [e _ (by decide)] at on
  rw [e _ (by decide), e _ (by decide), e _ (by decide), e _ (by decide), e _ (by decide), e _ (by decide), nxp_low hI.1 (fun i hi => e i (by omega)), rp_low hI.1 (fun i hi => e i (by omega))]
  exact hm on
/-- a printer and a row of the reference: alike, and in order -/
def PI (w er fl me p pr m : Nat → Int32) : Prop := PR w er fl me p pr m ∧ IV m
theorem PI.congr (h : PI w er fl me p pr m) (e : ∀ i, i < 131 → m' i = m i) : PI w er fl me p pr m' := ⟨h.1.congr e, h.2.congr e⟩
theorem cpF (h : PI w2 er2 fl2 me2 p2 pr2 m) (w er fl me p pr : Nat → Int32) : ∃ w' er' fl' me' p' pr', g_X5_copyFrom w er fl me p pr w2 er2 fl2 me2 p2 pr2 = some (w', er', fl', me', p', pr') ∧ PI w' er' fl' me' p' pr' m ∧ w' = w2 ∧ p' = p2 ∧ pr' 0 = pr2 0 ∧ fl' 0 = fl2 0 := by
  obtain ⟨⟨⟨f1, f2, f3, f4, f5⟩, hp, q0, q1, q2, q3, hm⟩, hV⟩ := h
  have hg : ¬ ¬ (pr2 0 = 0 ∨ pr2 0 = 1) := by rw [q0]; exact not_not_intro hV.2.1
  refine ⟨w2, er2, upd (upd fl 0 (fl2 0)) 1 (fl2 1), upd (upd (upd (upd (upd (upd me 0 (me2 0)) 1 (me2 1)) 2 (me2 2)) 3 (me2 3)) 4 (me2 4)) 5 (me2 5), p2, upd (upd (upd (upd pr 0 (pr2 0)) 1 (pr2 1)) 2 (pr2 2)) 3 (pr2 3), ?_, ⟨⟨⟨f1, f2, ?_, ?_, f5⟩, hp, ?_, ?_, ?_, ?_, fun on => ?_⟩, hV⟩, rfl, rfl, ?_, ?_⟩
  · unfold g_X5_copyFrom g_X0_copyFrom g_X3_copyFrom
    simp only [Option.bind_some]
    rw [if_neg hg]
  · simp [upd, f3]
  · simp [upd, f4]
  · simp [upd, q0]
  · simp [upd, q1]
  · simp [upd, q2]
  · simp [upd, q3]
  · obtain ⟨a0, a1, a2, a3, a4, a5⟩ := hm on
    simp [upd, a0, a1, a2, a3, a4, a5]
  · simp [upd]
  · simp [upd]
-- a row into a row
theorem itr_cpy (D : Nat) (g : Nat → Int32) : ∀ (j i : Nat) (f : Nat → Int32) (x : Nat), itr (fun i f => upd f (D + i) (g i)) i j f x = if D + i ≤ x ∧ x < D + i + j then g (x - D) else f x := by
  intro j
  induction j with
  | zero => intro i f x; rw [if_neg (by omega)]; rfl
  | succ j ih =>
    intro i f x
    simp only [itr]
    rw [ih]
    by_cases h : D + (i + 1) ≤ x ∧ x < D + (i + 1) + j
    · rw [if_pos h, if_pos (by omega)]
    · rw [if_neg h]
      by_cases h2 : x = D + i
      · subst h2
        rw [if_pos (by omega)]
        simp [upd]
      · rw [if_neg (by omega)]
        simp [upd, h2]
theorem itr_cpr (D : Nat) (g : Nat → Int32) : ∀ (j i : Nat) (f : Nat → Int32) (x : Nat), itr (fun i f => upd f i (g (D + i))) i j f x = if i ≤ x ∧ x < i + j then g (D + x) else f x := by
  intro j
  induction j with
  | zero => intro i f x; rw [if_neg (by omega)]; rfl
  | succ j ih =>
    intro i f x
    simp only [itr]
    rw [ih]
    by_cases h : i + 1 ≤ x ∧ x < i + 1 + j
    · rw [if_pos h, if_pos (by omega)]
    · rw [if_neg h]
      by_cases h2 : x = i
      · subst h2
        rw [if_pos (by omega)]
        simp [upd]
      · rw [if_neg (by omega)]
        simp [upd, h2]
theorem itr_shf : ∀ (j i : Nat) (f : Nat → Int32) (x : Nat), itr (fun i f => upd f i (f (i + 131))) i j f x = if i ≤ x ∧ x < i + j then f (x + 131) else f x := by
  intro j
  induction j with
  | zero => intro i f x; rw [if_neg (by omega)]; rfl
  | succ j ih =>
    intro i f x
    simp only [itr]
    rw [ih]
    by_cases h : i + 1 ≤ x ∧ x < i + 1 + j
    · rw [if_pos h, if_pos (by omega)]
      simp [upd, show ¬ x + 131 = i by omega]
    · rw [if_neg h]
      by_cases h2 : x = i
      · subst h2
        rw [if_pos (by omega)]
        simp [upd]
      · rw [if_neg (by omega)]
        simp [upd, h2]
theorem ix131 {M i : Nat} : (131 : Int32) * nI M + nI i = nI (131 * M + i) := by rw [show (131 : Int32) = nI 131 from rfl, pk_mul, nI_add]
theorem kepF {M : Nat} (hM : M < 8) (e : mv 0 = nI M) : ∃ ps', g_X7_keep_50 m ps mv = some (ps', upd mv 0 (nI (M + 1))) ∧ (∀ k, k < 131 → ps' (131 * M + k) = m k) ∧ (∀ x, x < 131 * M ∨ 131 * M + 131 ≤ x → ps' x = ps x) := by
  have := loop_up (fun n a i => g_X7_keep_52 m n i a mv) (fun a => some (a, upd mv 0 (mv 0 + 1))) (fun i f => upd f (131 * M + i) (m i)) 131 (fun n i a hi => by
    show g_X7_keep_52 m (n + 1) (nI i) a mv = _
    simp only [g_X7_keep_52]
    rw [if_neg (show ¬ (131 : Int32) ≤ nI i from nI_ge (a := i) (b := 131) hi (by decide)), if_neg (cond_nI hi (by decide)), e, ix131, if_neg (cond_nI (by omega) (by decide)), nI_clamp (by omega), nI_clamp (by omega), nI_s]) (fun n a => by
    show g_X7_keep_52 m (n + 1) (nI 131) a mv = _
    simp only [g_X7_keep_52]
    rw [if_pos (by decide)]) 868 131 0 ps (by decide)
  refine ⟨_, (show g_X7_keep_50 m ps mv = _ from this).trans (by rw [e, nI_s]), fun k hk => ?_, fun x hx => ?_⟩
  · rw [itr_cpy, if_pos (by omega)]
    congr 1; omega
  · rw [itr_cpy, if_neg (by omega)]
theorem shfF (e : mv 0 = nI 8) : ∃ ps', g_X7_keep_11 m 1000 0 ps mv = g_X7_keep_50 m ps' (upd mv 0 (nI 7)) ∧ (∀ x, x < 917 → ps' x = ps (x + 131)) := by
  have := loop_up (fun n a i => g_X7_keep_11 m n i a mv) (fun a => g_X7_keep_50 m a (upd mv 0 (mv 0 - 1))) (fun i f => upd f i (f (i + 131))) 917 (fun n i a hi => by
    show g_X7_keep_11 m (n + 1) (nI i) a mv = _
    simp only [g_X7_keep_11]
    rw [if_neg (show ¬ (917 : Int32) ≤ nI i from nI_ge (a := i) (b := 917) hi (by decide)), show nI i + 131 = nI (i + 131) from nI_add i 131, if_neg (cond_nI (by omega) (by decide)), if_neg (cond_nI (by omega) (by decide)), nI_clamp (by omega), nI_clamp (by omega), nI_s]) (fun n a => by
    show g_X7_keep_11 m (n + 1) (nI 917) a mv = _
    simp only [g_X7_keep_11]
    rw [if_pos (by decide)]) 82 917 0 ps (by decide)
  refine ⟨_, (show g_X7_keep_11 m 1000 0 ps mv = _ from this).trans (by rw [e]; rfl), fun x hx => ?_⟩
  rw [itr_shf, if_pos (by omega)]
theorem undF {M : Nat} (hM : M < 8) (e : mv 0 = nI M) : ∃ m', g_X7_undo_22 ps 140 0 m mv = some (nI M, m', mv) ∧ (∀ k, k < 131 → m' k = ps (131 * M + k)) := by
  have := loop_up (fun n a i => g_X7_undo_22 ps n i a mv) (fun a => some (mv 0, a, mv)) (fun i f => upd f i (ps (131 * M + i))) 131 (fun n i a hi => by
    show g_X7_undo_22 ps (n + 1) (nI i) a mv = _
    simp only [g_X7_undo_22]
    rw [if_neg (show ¬ (131 : Int32) ≤ nI i from nI_ge (a := i) (b := 131) hi (by decide)), e, ix131, if_neg (cond_nI (by omega) (by decide)), if_neg (cond_nI hi (by decide)), nI_clamp (by omega), nI_clamp (by omega), nI_s]) (fun n a => by
    show g_X7_undo_22 ps (n + 1) (nI 131) a mv = _
    simp only [g_X7_undo_22]
    rw [if_pos (by decide)]) 8 131 0 m (by decide)
  refine ⟨_, (show g_X7_undo_22 ps 140 0 m mv = _ from this).trans (by rw [e]), fun k hk => ?_⟩
  rw [itr_cpr (131 * M) ps, if_pos (by omega)]
theorem imgF {M : Nat} (hM : M < 2) : ∃ im', g_X7_keep__11 m 140 (nI M) 0 im ik = some (tl5 m (ff m (-1)), im', upd ik M 1) ∧ (∀ k, k < 131 → im' (131 * M + k) = m k) ∧ (∀ x, x < 131 * M ∨ 131 * M + 131 ≤ x → im' x = im x) := by
  have := loop_up (fun n a i => g_X7_keep__11 m n (nI M) i a ik) (fun a => some (tl5 m (ff m (-1)), a, upd ik M 1)) (fun i f => upd f (131 * M + i) (m i)) 131 (fun n i a hi => by
    show g_X7_keep__11 m (n + 1) (nI M) (nI i) a ik = _
    simp only [g_X7_keep__11]
    rw [if_neg (show ¬ (131 : Int32) ≤ nI i from nI_ge (a := i) (b := 131) hi (by decide)), if_neg (cond_nI hi (by decide)), ix131, if_neg (cond_nI (by omega) (by decide)), nI_clamp (by omega), nI_clamp (by omega), nI_s]) (fun n a => by
    show g_X7_keep__11 m (n + 1) (nI M) (nI 131) a ik = _
    simp only [g_X7_keep__11]
    rw [if_pos (by decide), if_neg (cond_nI hM (by decide)), co7, Option.bind_some, nI_clamp (by omega)]) 8 131 0 im (by decide)
  refine ⟨_, this, fun k hk => ?_, fun x hx => ?_⟩
  · rw [itr_cpy, if_pos (by omega)]
    congr 1; omega
  · rw [itr_cpy, if_neg (by omega)]
theorem bckF {M : Nat} (hM : M < 2) : ∃ m', g_X7_back_27 im ik 140 (nI M) 0 m ps mv = some (tl5 m' (ff m' (-1)), m', ps, mv) ∧ (∀ k, k < 131 → m' k = im (131 * M + k)) := by
  have := loop_up (fun n a i => g_X7_back_27 im ik n (nI M) i a ps mv) (fun a => some (tl5 a (ff a (-1)), a, ps, mv)) (fun i f => upd f i (im (131 * M + i))) 131 (fun n i a hi => by
    show g_X7_back_27 im ik (n + 1) (nI M) (nI i) a ps mv = _
    simp only [g_X7_back_27]
    rw [if_neg (show ¬ (131 : Int32) ≤ nI i from nI_ge (a := i) (b := 131) hi (by decide)), ix131, if_neg (cond_nI (by omega) (by decide)), if_neg (cond_nI hi (by decide)), nI_clamp (by omega), nI_clamp (by omega), nI_s]) (fun n a => by
    show g_X7_back_27 im ik (n + 1) (nI M) (nI 131) a ps mv = _
    simp only [g_X7_back_27]
    rw [if_pos (by decide), co7, Option.bind_some]) 8 131 0 m (by decide)
  refine ⟨_, this, fun k hk => ?_⟩
  rw [itr_cpr (131 * M) im, if_pos (by omega)]
theorem pasF : ∃ asd', g_X7_putAside m asd = some asd' ∧ (∀ k, k < 131 → asd' k = m k) := by
  have := loop_up (fun n a i => g_X7_putAside_2 m n i a) (fun a => some a) (fun i f => upd f (0 + i) (m i)) 131 (fun n i a hi => by
    show g_X7_putAside_2 m (n + 1) (nI i) a = _
    simp only [g_X7_putAside_2]
    rw [if_neg (show ¬ (131 : Int32) ≤ nI i from nI_ge (a := i) (b := 131) hi (by decide)), if_neg (cond_nI hi (by decide)), if_neg (cond_nI hi (by decide)), nI_clamp (by omega), nI_s, Nat.zero_add]) (fun n a => by
    show g_X7_putAside_2 m (n + 1) (nI 131) a = _
    simp only [g_X7_putAside_2]
    rw [if_pos (by decide)]) 8 131 0 asd (by decide)
  refine ⟨_, this, fun k hk => ?_⟩
  rw [itr_cpy, if_pos (by omega)]
  rfl
theorem pbkF : ∃ m', g_X7_putBack m asd = some m' ∧ (∀ k, k < 131 → m' k = asd k) := by
  have := loop_up (fun n a i => g_X7_putBack_2 asd n i a) (fun a => some a) (fun i f => upd f (0 + i) (asd i)) 131 (fun n i a hi => by
    show g_X7_putBack_2 asd (n + 1) (nI i) a = _
    simp only [g_X7_putBack_2]
    rw [if_neg (show ¬ (131 : Int32) ≤ nI i from nI_ge (a := i) (b := 131) hi (by decide)), if_neg (cond_nI hi (by decide)), if_neg (cond_nI hi (by decide)), nI_clamp (by omega), nI_s, Nat.zero_add]) (fun n a => by
    show g_X7_putBack_2 asd (n + 1) (nI 131) a = _
    simp only [g_X7_putBack_2]
    rw [if_pos (by decide)]) 8 131 0 m (by decide)
  refine ⟨_, this, fun k hk => ?_⟩
  rw [itr_cpy, if_pos (by omega)]
  rfl
end CP

-- how the flash's invariant goes on when a block is begun or a record is written
section FS
variable {m m' w : Nat → Int32} {b q B S k : Nat}
def nxb (B : Nat) : Nat := (B + 1) % 5
theorem age_next : ∀ B, B < 5 → age B (nxb B) = 4 := by decide
theorem age_4 : ∀ B, B < 5 → ∀ b, b < 5 → b ≠ nxb B → age B b ≤ 3 := by decide
theorem age_up : ∀ B, B < 5 → ∀ b, b < 5 → b ≠ nxb B → age (nxb B) b = age B b + 1 := by decide
theorem nxb_lt (B : Nat) : nxb B < 5 := Nat.mod_lt _ (by decide)
theorem nxb_ne : ∀ B, B < 5 → nxb B ≠ B := by decide
/-- outside block b nothing differs -/
def offB (m' m : Nat → Int32) (b : Nat) : Prop := ∀ i, i < 110 → (i < 22 * b ∨ 22 * b + 22 ≤ i) → m' i = m i
theorem offB_wh {b2 : Nat} (h : offB m' m b) (h2 : b2 < 5) (hne : b2 ≠ b) : wh m' b2 = wh m b2 := wh_eq (fun i hi => h _ (by omega) (by omega))
theorem offB_at {b2 i : Nat} (h : offB m' m b) (h2 : b2 < 5) (hi : i < 22) (hne : b2 ≠ b) : m' (22 * b2 + i) = m (22 * b2 + i) := h _ (by omega) (by omega)
theorem offB_rp {b2 : Nat} (h : offB m' m b) (h2 : b2 < 5) (hne : b2 ≠ b) : ∀ j, j ≤ 4 → rp m' b2 j = rp m b2 j := rp_eq (fun i hi => offB_at h h2 (by omega) hne) 4 (Nat.le_refl 4) (fun q i hq hi => offB_at h h2 (by omega) hne)
theorem FI_drop (h : FI m B S k) (ho : offB m' m (nxb B)) (hw : wh m' (nxb B) = false) (hf : ∀ q, q < 4 → m' (22 * nxb B + (6 + 4 * q)) = 65535) : FI m' B S (min k 3) := by
  obtain ⟨hB, hS, hk, h4, h5, h6, h7⟩ := h
  refine ⟨hB, hS, by omega, fun b hb => ?_, fun b hb ha => ?_, fun b q hb hq => ?_, fun q hq => ?_⟩
  · by_cases he : b = nxb B
    · rw [he, hw, age_next B hB]
      symm
      exact decide_eq_false (by omega)
    · rw [offB_wh ho hb he, h4 b hb]
      have := age_4 B hB b hb he
      exact decide_eq_decide.mpr ⟨fun h => by omega, fun h => by omega⟩
  · have he : b ≠ nxb B := by
      rintro rfl
      rw [age_next B hB] at ha
      omega
    have := offB_at (i := 0) ho hb (by decide) he
    rw [show m' (22 * b) = m (22 * b) from this]
    exact h5 b hb (by omega)
  · by_cases he : b = nxb B
    · rw [he, hf q hq]
      exact ⟨65535, by decide, rfl⟩
    · rw [offB_at ho hb (by omega) he]
      exact h6 b q hb hq
  · rw [offB_rp ho hB (fun e => nxb_ne B hB e.symm) q hq]
    exact h7 q hq
theorem nI_ne65535 {n : Nat} (h : n ≤ 60000) : nI n ≠ 65535 := by
  intro e
  have : nI n = nI 65535 := e
  rw [nI_inj (by omega) (by decide)] at this
  omega
theorem FI_next {nu su ti pa : Int32} (h : FI m B S k) (ho : offB m' m (nxb B)) (h0 : m' (22 * nxb B) = nI ((S + 1) % 10000)) (h1 : m' (22 * nxb B + 1) = su) (h2 : m' (22 * nxb B + 2) = ti) (h3 : m' (22 * nxb B + 3) = pa) (h4 : m' (22 * nxb B + 4) = nu) (hchk : m' (22 * nxb B + 5) = hc (nI ((S + 1) % 10000)) su ti pa nu) (hf : ∀ i, 6 ≤ i → i < 22 → m' (22 * nxb B + i) = 65535) (hg : gd (nu, su, ti, pa)) :
    FI m' (nxb B) ((S + 1) % 10000) (min k 3 + 1) ∧ (∀ j, j ≤ 4 → rp m' (nxb B) j = (nu, su, ti, pa)) ∧ ∀ q, q < 4 → em m' (nxb B) q = true := by
  obtain ⟨hB, hS, hk, k4, k5, k6, k7⟩ := h
  have hem : ∀ q, q < 4 → em m' (nxb B) q = true := by
    intro q hq
    unfold em
    rw [hf _ (by omega) (by omega), hf _ (by omega) (by omega), hf _ (by omega) (by omega), hf _ (by omega) (by omega)]
    rfl
  have hrp : ∀ j, j ≤ 4 → rp m' (nxb B) j = (nu, su, ti, pa) := by
    intro j
    induction j with
    | zero =>
      intro _
      show hd m' (nxb B) = _
      unfold hd
      rw [h1, h2, h3, h4]
    | succ j ih =>
      intro hj
      rw [rp_same (em_rc (hem j (by omega))), ih (by omega)]
  have hwh : wh m' (nxb B) = true := by
    obtain ⟨nu', su', ti', pa', he, g1, g2, g3, g4⟩ := hg
    have e1 : nu = nI nu' := congrArg Prod.fst he
    have e2 : su = nI su' := congrArg (fun z => z.2.1) he
    have e3 : ti = nI ti' := congrArg (fun z => z.2.2.1) he
    have e4 : pa = nI pa' := congrArg (fun z => z.2.2.2) he
    unfold wh
    rw [h0, h1, h2, h3, h4, hchk, e1, e2, e3, e4]
    have z0 := nI_ne65535 (n := (S + 1) % 10000) (by omega)
    have z1 := nI_ne65535 (n := nu') (by omega)
    have z2 := nI_ne65535 (n := su') (by omega)
    have z3 := nI_ne65535 (n := ti') (by omega)
    have z4 := nI_ne65535 (n := pa') (by omega)
    simp [z0, z1, z2, z3, z4]
  refine ⟨⟨nxb_lt B, by omega, by omega, fun b hb => ?_, fun b hb ha => ?_, fun b q hb hq => ?_, fun q hq => by rw [hrp q hq]; exact hg⟩, hrp, hem⟩
  · by_cases he : b = nxb B
    · rw [he, hwh, age_self _ (nxb_lt B)]
      symm
      exact decide_eq_true (by omega)
    · rw [offB_wh ho hb he, k4 b hb, age_up B hB b hb he]
      have := age_4 B hB b hb he
      exact decide_eq_decide.mpr ⟨fun h => by omega, fun h => by omega⟩
  · by_cases he : b = nxb B
    · rw [he, h0, age_self _ (nxb_lt B)]
      exact congrArg nI (by omega)
    · have h8 := offB_at (i := 0) ho hb (by decide) he
      rw [show m' (22 * b) = m (22 * b) from h8]
      rw [age_up B hB b hb he] at ha ⊢
      have := age_4 B hB b hb he
      rw [k5 b hb (by omega)]
      exact congrArg nI (by omega)
  · by_cases he : b = nxb B
    · rw [he, hf _ (by omega) (by omega)]
      exact ⟨65535, by decide, rfl⟩
    · rw [offB_at ho hb (by omega) he]
      exact k6 b q hb hq
/-- outside place q of block B nothing differs -/
def offP (m' m : Nat → Int32) (B q : Nat) : Prop := ∀ i, i < 110 → (i < 22 * B + (6 + 4 * q) ∨ 22 * B + (6 + 4 * q) + 4 ≤ i) → m' i = m i
theorem FI_place (h : FI m B S k) (hq : q < 4) (ho : offP m' m B q) (hf : ∃ f : Nat, f < 65536 ∧ m' (22 * B + (6 + 4 * q)) = nI f) (hr : ∀ j, j ≤ 4 → gd (rp m' B j)) : FI m' B S k := by
  obtain ⟨hB, hS, hk, k4, k5, k6, k7⟩ := h
  refine ⟨hB, hS, hk, fun b hb => ?_, fun b hb ha => ?_, fun b j hb hj => ?_, hr⟩
  · rw [wh_eq (fun i hi => ho _ (by omega) (by omega)), k4 b hb]
  · rw [ho _ (by omega) (by omega), k5 b hb ha]
  · by_cases he : b = B ∧ j = q
    · rw [he.1, he.2]; exact hf
    · rw [ho (22 * b + (6 + 4 * j)) (by omega) (by
        by_cases hbB : b = B
        · have : j ≠ q := fun e => he ⟨hbB, e⟩
          subst hbB
          omega
        · rcases Nat.lt_or_gt_of_ne hbB with h | h
          · left; omega
          · right; omega)]
      exact k6 b j hb hj
theorem offP_rc {j : Nat} (ho : offP m' m B q) (hB : B < 5) (hj : j < 4) (hne : j ≠ q) : rc m' B j = rc m B j := rc_eq (ho _ (by omega) (by omega)) (fun i hi => ho _ (by omega) (by omega))
theorem offP_em {j : Nat} (ho : offP m' m B q) (hB : B < 5) (hj : j < 4) (hne : j ≠ q) : em m' B j = em m B j := em_eq (fun i hi => ho _ (by omega) (by omega))
theorem offP_lo (ho : offP m' m B q) (hB : B < 5) (hq : q < 4) : ∀ j, j ≤ q → rp m' B j = rp m B j := rp_eq (fun i hi => ho _ (by omega) (by omega)) q (by omega) (fun j i hj hi => ho _ (by omega) (by omega))
theorem offP_step {j : Nat} (ho : offP m' m B q) (hB : B < 5) (hj : j < 4) (hne : j ≠ q) (r : RS) : rstep m' B j r = rstep m B j r := by
  unfold rstep
  rw [offP_rc ho hB hj hne, ho (22 * B + (6 + 4 * j)) (by omega) (by omega), ho (22 * B + (6 + 4 * j + 2)) (by omega) (by omega)]
theorem rp_empty (hq : q ≤ 4) (he : ∀ j, q ≤ j → j < 4 → em m B j = true) : ∀ j, q ≤ j → j ≤ 4 → rp m B j = rp m B q := by
  intro j
  induction j with
  | zero => intro h1 _; rw [show q = 0 by omega]
  | succ j ih =>
    intro h1 h2
    by_cases hj : q ≤ j
    · rw [rp_same (em_rc (he j hj (by omega))), ih hj (by omega)]
    · rw [show j + 1 = q by omega]
/-- a torn record -/
theorem FI_torn (h : FI m B S k) (hq : q < 4) (he : ∀ j, q ≤ j → j < 4 → em m B j = true) (ho : offP m' m B q) (hf : ∃ f : Nat, f < 65536 ∧ m' (22 * B + (6 + 4 * q)) = nI f) (hrc : rc m' B q = false) : FI m' B S k ∧ ∀ j, j ≤ 4 → rp m' B j = rp m B j := by
  have hB := h.1
  have hr : ∀ j, j ≤ 4 → rp m' B j = rp m B j := by
    intro j
    induction j with
    | zero => intro _; exact offP_lo ho hB hq 0 (Nat.zero_le _)
    | succ j ih =>
      intro hj
      by_cases hjq : j = q
      · rw [hjq] at ih ⊢
        rw [rp_same hrc, rp_same (em_rc (he q (Nat.le_refl q) hq)), ih (by omega)]
      · show rstep m' B j (rp m' B j) = rstep m B j (rp m B j)
        rw [ih (by omega), offP_step ho hB (by omega) hjq]
  exact ⟨FI_place h hq ho hf (fun j hj => by rw [hr j hj]; exact h.2.2.2.2.2.2 j hj), hr⟩
/-- a whole record -/
theorem FI_rec {f v : Int32} (h : FI m B S k) (hq : q < 4) (he : ∀ j, q ≤ j → j < 4 → em m B j = true) (ho : offP m' m B q) (hf : ∃ f : Nat, f < 65536 ∧ m' (22 * B + (6 + 4 * q)) = nI f) (hrc : rc m' B q = true) (h1 : m' (22 * B + (6 + 4 * q)) = f) (h2 : m' (22 * B + (6 + 4 * q + 2)) = v) (hg : gd (lrn (rp m B 4) f v)) : FI m' B S k ∧ rp m' B 4 = lrn (rp m B 4) f v := by
  have hB := h.1
  have hlo := offP_lo ho hB hq
  have h4 : rp m B 4 = rp m B q := rp_empty (by omega) he 4 (by omega) (Nat.le_refl 4)
  have hq1 : rp m' B (q + 1) = lrn (rp m B 4) f v := by
    show rstep m' B q (rp m' B q) = _
    unfold rstep
    rw [hrc, h1, h2, hlo q (Nat.le_refl q), h4]
    rfl
  have hhi : ∀ j, q + 1 ≤ j → j ≤ 4 → rp m' B j = lrn (rp m B 4) f v := by
    intro j h5 h6
    rw [rp_empty (q := q + 1) (by omega) (fun i h7 h8 => by rw [offP_em ho hB h8 (by omega)]; exact he i (by omega) h8) j h5 h6, hq1]
  refine ⟨FI_place h hq ho hf (fun j hj => ?_), hhi 4 (by omega) (Nat.le_refl 4)⟩
  by_cases hjq : j ≤ q
  · rw [hlo j hjq]; exact h.2.2.2.2.2.2 j hj
  · rw [hhi j (by omega) hj]; exact hg
theorem nxp_le (m : Nat → Int32) (B : Nat) : nxp m B ≤ 4 := by
  unfold nxp
  split
  · split
    · split
      · split <;> omega
      · omega
    · omega
  · omega
theorem nxp_em : ∀ j, nxp m B ≤ j → j < 4 → em m B j = true := by
  intro j h1 h2
  unfold nxp at h1
  cases e0 : em m B 0 <;> cases e1 : em m B 1 <;> cases e2 : em m B 2 <;> cases e3 : em m B 3 <;> simp [e0, e1, e2, e3] at h1 <;> (rcases (show j = 0 ∨ j = 1 ∨ j = 2 ∨ j = 3 by omega) with rfl | rfl | rfl | rfl) <;> first | assumption | (exfalso; omega)
theorem nxp_of (hq : q ≤ 4) (h1 : ∀ j, q ≤ j → j < 4 → em m B j = true) (h2 : ∀ j, j + 1 = q → em m B j = false) : nxp m B = q := by
  unfold nxp
  rcases (show q = 0 ∨ q = 1 ∨ q = 2 ∨ q = 3 ∨ q = 4 by omega) with rfl | rfl | rfl | rfl | rfl
  · simp [h1 0 (by decide) (by decide), h1 1 (by decide) (by decide), h1 2 (by decide) (by decide), h1 3 (by decide) (by decide)]
  · simp [h2 0 rfl, h1 1 (by decide) (by decide), h1 2 (by decide) (by decide), h1 3 (by decide) (by decide)]
  · simp [h2 1 rfl, h1 2 (by decide) (by decide), h1 3 (by decide) (by decide)]
  · simp [h2 2 rfl, h1 3 (by decide) (by decide)]
  · simp [h2 3 rfl]
end FS

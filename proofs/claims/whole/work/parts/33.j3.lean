-- the mean: class and reference side by side; no NaN comes
section JM
variable {m w d rb rp mv : Nat → Int32} {jc : Int32} {B S k : Nat} {L : RL2}
theorem fq_ok {x y : Int32} (hy : ¬ y = 0) : FP.Core.fIsNaN (FP.fdiv (FP.i2f x) (FP.i2f y)) = false :=
  FP.Core.fdiv_out (FP.Core.FFin.notNaN (FP.Core.i2f_fin x)) (FP.Core.i2f_fin y) (fun h => FP.Core.i2f_ne_zero hy ((FP.Core.zero_bits232 _).mp h))
theorem and_le {a c b : UInt32} (hc : c.toNat = 2 ^ 31 - 1) (hb : b.toNat = 2139095040) (h : ¬ 2139095040 < a.toNat % 2 ^ 31) : a &&& c ≤ b := by
  rw [UInt32.le_iff_toNat_le, UInt32.toNat_and, hc, hb, Nat.and_two_pow_sub_one_eq_mod]
  omega
theorem fq_bits {a : UInt32} (h : FP.Core.fIsNaN a = false) : a &&& 0x7fffffff ≤ 0x7f800000 :=
  and_le (by decide +kernel) (by decide +kernel) (fun z => by
    have := (FP.Core.isNaN_bits32 a).mpr z
    rw [h] at this
    cases this)
def mS (d : Nat → Int32) (i : Nat) (a : Int32) : Int32 := if d (6 * i + 1) = 0 then a + jrem (d (6 * i + 3)) 1000 else a + 0
def mC (d : Nat → Int32) (i : Nat) (a : Int32) : Int32 := if d (6 * i + 1) = 0 then a + 1 else a + 0
theorem fq_0 : FP.Core.fIsNaN FP.fconst0 = false := by
  cases h : FP.Core.fIsNaN FP.fconst0 with
  | false => rfl
  | true =>
    have h1 := (FP.Core.isNaN_bits32 _).mp h
    have e0 : UInt32.toNat FP.fconst0 = 0 := by decide +kernel
    rw [e0] at h1
    omega
theorem meaF (hw : ∀ i, i < 110 → w i = m i) (hI : FI m B S k) (d rb rp mv : Nat → Int32) (jc : Int32) : ∃ (o : UInt32) (d' : Nat → Int32) (jc' : Int32) (rb' rp' mv' : Nat → Int32), g_X6_mean w d jc = some (o, d', jc') ∧ g_X7_mean m rb rp mv = some (o, rb', rp', mv') ∧ mv' 0 = mv 0 ∧ FP.Core.fIsNaN o = false := by
  obtain ⟨d', a1, h⟩ := gaF hw hI d jc
  obtain ⟨rb', rp', mv', a2, c2, e0⟩ := laF hI rb rp mv
  have hl := rl_len (m := m) (B := B)
  have cc := cntF hI.1 h (kd := 0) (by decide) (by decide)
  have cs : g_X2_pricesOf d' (nI (rl m B).length) 0 (-1) = some (itr (mS d') 0 (rl m B).length 0) := by
    have := loop_up (fun n a i => g_X2_pricesOf_5 d' (nI (rl m B).length) n 0 (-1) a i) (fun a => some a) (mS d') (rl m B).length (fun n i a hi => by
      show g_X2_pricesOf_5 d' (nI (rl m B).length) (n + 1) 0 (-1) a (nI i) = _
      simp only [g_X2_pricesOf_5, g_X2_pricesOf_38, g_X2_pricesOf_43, g_X2_pricesOf_70]
      have h3 := dtl (c := 3) h hl hi (by decide)
      rw [show nI 3 = (3 : Int32) from rfl] at h3
      have h1 := dtl (c := 1) h hl hi (by decide)
      rw [show nI 1 = (1 : Int32) from rfl] at h1
      rw [if_neg (nI_ge hi (by omega)), h3, Option.bind_some]
      simp only [if_true, if_neg i1ne]
      rw [h1, Option.bind_some, nI_s]
      unfold mS
      by_cases x2 : d' (6 * i + 1) = 0
      · rw [if_pos x2, if_pos x2]
      · rw [if_neg x2, if_neg x2, Int32.add_zero]) (fun n a => by
      show g_X2_pricesOf_5 d' (nI (rl m B).length) (n + 1) 0 (-1) a (nI _) = _
      simp only [g_X2_pricesOf_5]
      rw [if_pos (Int32.le_refl _)]) (29 - (rl m B).length) (rl m B).length 0 0 (by omega)
    unfold g_X2_pricesOf
    rw [show 29 - (rl m B).length + (rl m B).length + 1 = 30 by omega] at this
    exact this
  have cm : itr (mC d') 0 (rl m B).length 0 = tl5 m (ff m 0) := by
    rw [itr_sm (fun x => b2i (m (22 * x.1 + (6 + 4 * x.2)) / 10000 == 0)) _ (rl m B) 0 0 (fun j x hx a => by
      unfold mC
      rw [Nat.zero_add, (h.2 j x hx).2.1]
      by_cases z : m (22 * x.1 + (6 + 4 * x.2)) / 10000 = 0
      · rw [if_pos z]; simp [z, b2i]
      · rw [if_neg z]; simp [z, b2i]), sm_rl hI.1 (by decide) (by decide), Int32.zero_add]
  have cb : g_X7_mean_10 m 30 0 0 0 rb' rp' mv' = (if itr (mC d') 0 (rl m B).length 0 = 0 then some (FP.fconst0, rb', rp', mv') else (if ¬ (FP.fdiv (FP.i2f (itr (mS d') 0 (rl m B).length 0)) (FP.i2f (itr (mC d') 0 (rl m B).length 0)) &&& 0x7fffffff ≤ 0x7f800000) then none else some ((FP.fdiv (FP.i2f (itr (mS d') 0 (rl m B).length 0)) (FP.i2f (itr (mC d') 0 (rl m B).length 0))), rb', rp', mv'))) := by
    have := loop_up (fun n (a : Int32 × Int32) i => g_X7_mean_10 m n a.1 a.2 i rb' rp' mv') (fun a => if a.2 = 0 then some (FP.fconst0, rb', rp', mv') else (if ¬ (FP.fdiv (FP.i2f a.1) (FP.i2f a.2) &&& 0x7fffffff ≤ 0x7f800000) then none else some ((FP.fdiv (FP.i2f a.1) (FP.i2f a.2)), rb', rp', mv'))) (fun i a => (mS d' i a.1, mC d' i a.2)) (rl m B).length (fun n i a hi => by
      show g_X7_mean_10 m (n + 1) a.1 a.2 (nI i) rb' rp' mv' = g_X7_mean_10 m n (mS d' i a.1) (mC d' i a.2) (nI (i + 1)) rb' rp' mv'
      obtain ⟨x, hx⟩ := ixL hi
      obtain ⟨z0, z1, z2, z3, z4, z5⟩ := h.2 i x hx
      have y0 := ofX (m := m) (c := 0) c2 rl_ok hl hx (by decide)
      have y2 := ofX (m := m) (c := 2) c2 rl_ok hl hx (by decide)
      rw [show nI 0 = (0 : Int32) from rfl, Nat.add_zero] at y0
      rw [show nI 2 = (2 : Int32) from rfl, ← z3] at y2
      simp only [g_X7_mean_10, g_X7_mean_36, g_X7_mean_58, g_X7_mean_71]
      rw [c2.1, if_neg (nI_ge hi (by omega)), y0, y2]
      simp only [Option.bind_some, ← z1, if_true, if_neg i1ne, nI_s]
      unfold mS mC
      by_cases x0 : d' (6 * i + 1) = 0
      · simp only [if_pos x0]
      · simp only [if_neg x0]) (fun n a => by
      show g_X7_mean_10 m (n + 1) a.1 a.2 (nI _) rb' rp' mv' = _
      simp only [g_X7_mean_10]
      rw [c2.1, if_pos (Int32.le_refl _)]) (29 - (rl m B).length) (rl m B).length 0 (0, 0) (by omega)
    rw [show 29 - (rl m B).length + (rl m B).length + 1 = 30 by omega] at this
    have pr : ∀ (j i : Nat) (a b : Int32), itr (fun i (a : Int32 × Int32) => (mS d' i a.1, mC d' i a.2)) i j (a, b) = (itr (mS d') i j a, itr (mC d') i j b) := by
      intro j
      induction j with
      | zero => intro i a b; rfl
      | succ j ih => intro i a b; exact ih (i + 1) _ _
    rw [pr] at this
    exact this
  unfold g_X6_mean g_X7_mean
  rw [a1, a2]
  simp only [Option.bind_some]
  rw [cb, cc, cs, cm]
  simp only [Option.bind_some]
  by_cases hz : tl5 m (ff m 0) = 0
  · rw [if_pos hz, if_pos hz]
    exact ⟨_, d', _, rb', rp', mv', rfl, rfl, e0, fq_0⟩
  · have hok := fq_ok (x := itr (mS d') 0 (rl m B).length 0) hz
    rw [if_neg hz, if_neg hz, if_neg (not_not_intro (fq_bits hok)), if_neg (not_not_intro (fq_bits hok))]
    exact ⟨_, d', _, rb', rp', mv', rfl, rfl, e0, hok⟩
end JM

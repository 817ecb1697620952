-- the face: prices, cuts, power, images; contents stay contents
section FC2
variable {m w er fl me p pr pv : Row} {W8 E8 F8 M8 P8 R8 fi W2 E2 F2 M2 P2 R2 : Nat → Row} {hs : List Row} {im : Nat → Option Row}
theorem set127 (h : PI w er fl me p pr m) {s c : Nat} (hs : s < 4) (h1 : 1 ≤ c) (h2 : c ≤ 999) : PI w er fl me (upd p s (nI c)) pr (upd m (127 + s) (nI c)) := by
  obtain ⟨⟨⟨f1, f2, f3, f4, f5⟩, hp, p0, p1, p2, p3, hm⟩, hV⟩ := h
  have e : ∀ i, i < 127 → (upd m (127 + s) (nI c)) i = m i := fun i hi => by simp [upd, show ¬ i = 127 + s by omega]
  refine ⟨⟨⟨fun i hi => (f1 i hi).trans (e i (by omega)).symm, fun i hi => (f2 i hi).trans (e _ (by omega)).symm, f3.trans (e _ (by decide)).symm, f4.trans (e _ (by decide)).symm, by rw [e _ (by decide)]; exact f5⟩, fun i hi => ?_, p0.trans (e _ (by decide)).symm, p1.trans (e _ (by decide)).symm, p2.trans (e _ (by decide)).symm, p3.trans (e _ (by decide)).symm, fun on => ?_⟩, IV_low hV (fun i hi => e i (by omega)) (fun i hi => ?_) (by rw [e _ (by decide)]; exact hV.2.2.2)⟩
  · by_cases hi2 : i = s
    · subst hi2; simp [upd]
    · simp [upd, hi2, hp i hi]
  · rw [e _ (by decide)] at on
    rw [e _ (by decide), e _ (by decide), e _ (by decide), e _ (by decide), e _ (by decide), e _ (by decide)]
    exact hm on
  · by_cases hi2 : i = s
    · subst hi2; exact ⟨c, h1, h2, by simp [upd]⟩
    · obtain ⟨c', z⟩ := hV.2.2.1 i hi
      exact ⟨c', by simpa [upd, hi2] using z⟩
theorem set126 (h : PI w er fl me p pr m) {t : Int32} (ht : LV t) : PI w er (upd fl 1 t) me p pr (upd m 126 t) := by
  obtain ⟨⟨⟨f1, f2, f3, f4, f5⟩, hp, p0, p1, p2, p3, hm⟩, hV⟩ := h
  have e : ∀ i, i ≠ 126 → (upd m 126 t) i = m i := fun i hi => by simp [upd, hi]
  refine ⟨⟨⟨fun i hi => (f1 i hi).trans (e i (by omega)).symm, fun i hi => (f2 i hi).trans (e _ (by omega)).symm, by simp [upd, f3], by simp [upd], by simp only [upd, if_true]; exact ht⟩, fun i hi => (hp i hi).trans (e _ (by omega)).symm, p0.trans (e _ (by decide)).symm, p1.trans (e _ (by decide)).symm, p2.trans (e _ (by decide)).symm, p3.trans (e _ (by decide)).symm, fun on => ?_⟩, IV_low hV (fun i hi => e i (by omega)) (fun i hi => by rw [e _ (by omega)]; exact hV.2.2.1 i hi) (by rw [e _ (by decide)]; exact hV.2.2.2)⟩
  rw [e _ (by decide)] at on
  rw [e _ (by decide), e _ (by decide), e _ (by decide), e _ (by decide), e _ (by decide), e _ (by decide)]
  exact hm on
theorem inI_lo {n hi : Int32} (h : inI n 1 hi = true) : inI n 0 hi = true := by
  unfold inI at h ⊢
  simp only [Bool.and_eq_true, Bool.not_eq_true', decide_eq_false_iff_not] at h ⊢
  exact ⟨fun z => h.1 (Int32.lt_trans z (by decide)), h.2⟩
theorem inI_1 {n : Int32} {M : Int32} {h : Nat} (hM : M.toInt = h) (e : inI n 1 M = true) : ∃ j : Nat, 1 ≤ j ∧ j ≤ h ∧ n = nI j := by
  obtain ⟨j, hj, rfl⟩ := inI_nI hM (inI_lo e)
  refine ⟨j, ?_, hj, rfl⟩
  rcases Nat.eq_zero_or_pos j with rfl | h0
  · unfold inI at e
    rw [show decide (nI 0 < 1) = true by decide] at e
    exact absurd e (by simp)
  · exact h0
theorem priceH (hA : PH pv W8 E8 F8 M8 P8 R8 hs) (h : PI w er fl me p pr m) (n1 n2 : Int32) :
    ∃ (r : Int32) (bb : Bool) (p' pv' : Row) (W' E' F' M' P' R' : Nat → Row) (m' : Row), g_X6_setPrice w er fl me p pr pv W8 E8 F8 M8 P8 R8 n1 n2 = some (r, p', pv', W', E', F', M', P', R') ∧ spPri m n1 n2 = some (r, m', bb) ∧ PI w er fl me p' pr m' ∧ PH pv' W' E' F' M' P' R' (hz bb hs m) := by
  unfold g_X6_setPrice g_X6_setPrice_18 spPri
  rw [iw0, is0]
  simp only [Option.bind_some]
  cases h1 : inI n1 0 3
  · rw [bF rfl, if_pos rfl, if_pos rfl]
    exact ⟨_, false, _, _, _, _, _, _, _, _, _, rfl, rfl, h, hA⟩
  · rw [bT rfl, if_neg i1ne, if_neg tfne]
    cases h2 : inI n2 1 999
    · rw [bF rfl, if_pos rfl, if_pos rfl]
      exact ⟨_, false, _, _, _, _, _, _, _, _, _, rfl, rfl, h, hA⟩
    · rw [bT rfl, if_neg i1ne, if_neg tfne]
      obtain ⟨s, hs, rfl⟩ := inI_nI (h := 3) (by decide) h1
      obtain ⟨c, hc1, hc2, rfl⟩ := inI_1 (h := 999) (by decide) h2
      obtain ⟨pv', W', E', F', M', P', R', k1, k3⟩ := remH hA h
      have hcp : g_X5_changePrice p (nI s) (nI c) = some (upd p s (nI c)) := by
        unfold g_X5_changePrice
        rw [if_neg (nI_neg (by omega)), if_neg (n4_le (by omega)), if_neg (cond_nI (N := 4) (by omega) (by decide)), nI_clamp (by omega)]
      rw [k1, Option.bind_some, prc0 (by omega), Option.bind_some, hcp, Option.bind_some, nI_clamp (by omega), h.1.2.1 s (by omega)]
      exact ⟨_, true, _, _, _, _, _, _, _, _, _, rfl, rfl, set127 h (by omega) hc1 hc2, k3⟩
theorem cutH (hA : PH pv W8 E8 F8 M8 P8 R8 hs) (h : PI w er fl me p pr m) (n1 : Int32) :
    ∃ (r : Int32) (bb : Bool) (fl' pv' : Row) (W' E' F' M' P' R' : Nat → Row) (m' : Row), g_X6_cut w er fl me p pr pv W8 E8 F8 M8 P8 R8 n1 = some (r, fl', pv', W', E', F', M', P', R') ∧ spCut m n1 = some (r, m', bb) ∧ PI w er fl' me p pr m' ∧ PH pv' W' E' F' M' P' R' (hz bb hs m) := by
  unfold g_X6_cut g_X6_cut_51 spCut
  rw [iw0]
  simp only [Option.bind_some]
  cases h1 : inI n1 (-1) 100
  · rw [bF rfl, if_pos rfl, if_pos rfl]
    exact ⟨_, false, _, _, _, _, _, _, _, _, _, rfl, rfl, h, hA⟩
  · rw [bT rfl, if_neg i1ne, if_neg tfne]
    obtain ⟨pv', W', E', F', M', P', R', k1, k3⟩ := remH hA h
    rw [k1, Option.bind_some, h.1.1.2.2.2.1]
    by_cases h0 : (0 : Int32) ≤ n1
    · have h2 : inI n1 0 100 = true := by
        unfold inI at h1 ⊢
        simp only [Bool.and_eq_true, Bool.not_eq_true', decide_eq_false_iff_not] at h1 ⊢
        exact ⟨Int32.not_lt.mpr h0, h1.2⟩
      obtain ⟨c, hc, rfl⟩ := inI_nI (h := 100) (by decide) h2
      rw [if_pos h0, if_pos h0]
      exact ⟨_, true, _, _, _, _, _, _, _, _, _, rfl, rfl, set126 h (Or.inr ⟨c, hc, rfl⟩), k3⟩
    · rw [if_neg h0, if_neg h0]
      exact ⟨_, true, _, _, _, _, _, _, _, _, _, rfl, rfl, set126 h (Or.inl rfl), k3⟩
theorem offH (hA : PH pv W8 E8 F8 M8 P8 R8 hs) (h : PI w er fl me p pr m) :
    ∃ (r : Int32) (bb : Bool) (me' pr' pv' : Row) (W' E' F' M' P' R' : Nat → Row) (m' : Row), g_X6_off w er fl me p pr pv W8 E8 F8 M8 P8 R8 = some (r, me', pr', pv', W', E', F', M', P', R') ∧ spOff m = some (r, m', bb) ∧ PI w er fl me' p pr' m' ∧ PH pv' W' E' F' M' P' R' (hz bb hs m) := by
  unfold g_X6_off spOff
  rw [h.1.2.2.1]
  by_cases on : m 115 = 0
  · rw [if_pos on, if_pos on]
    exact ⟨_, false, _, _, _, _, _, _, _, _, _, _, rfl, rfl, h, hA⟩
  · rw [if_neg on, if_neg on]
    obtain ⟨pv', W', E', F', M', P', R', k1, k3⟩ := remH hA h
    obtain ⟨me', a1, a2, a3⟩ := offF h.1 h.2
    rw [k1, Option.bind_some, a1, Option.bind_some, tal1 h.1.1.1, Option.bind_some]
    exact ⟨_, true, _, _, _, _, _, _, _, _, _, _, rfl, rfl, ⟨a2, a3⟩, k3⟩
theorem startH (hA : PH pv W8 E8 F8 M8 P8 R8 hs) (h : PI w er fl me p pr m) :
    ∃ (r : Int32) (bb : Bool) (me' pr' pv' : Row) (W' E' F' M' P' R' : Nat → Row) (m' : Row), g_X6_start w er fl me p pr pv W8 E8 F8 M8 P8 R8 = some (r, me', pr', pv', W', E', F', M', P', R') ∧ spSta m = some (r, m', bb) ∧ PI w er fl me' p pr' m' ∧ PH pv' W' E' F' M' P' R' (hz bb hs m) := by
  unfold g_X6_start spSta
  rw [h.1.2.2.1]
  by_cases on : m 115 = 0
  · rw [if_pos on, if_pos on]
    obtain ⟨pv', W', E', F', M', P', R', k1, k3⟩ := remH hA h
    obtain ⟨me', m', a1, a2, a3, a4, a5, a6⟩ := wakF h.1 h.2
    rw [k1, Option.bind_some, a1, a2, Option.bind_some, Option.bind_some]
    have e2 : me' 2 = m' 118 := (a3.2.2.2.2.2.2 a5).2.2.1
    exact ⟨_, true, _, _, _, _, _, _, _, _, _, _, rfl, by show some (m' 118, m', true) = some (me' 2, _, _); rw [e2], ⟨a3, a4⟩, k3⟩
  · rw [if_neg on, if_neg on]
    exact ⟨_, false, _, _, _, _, _, _, _, _, _, _, rfl, rfl, h, hA⟩
-- images
def IMr (fi W2 E2 F2 M2 P2 R2 : Nat → Row) (im : Nat → Option Row) : Prop := ∀ i, i < 2 → (im i = none → fi i 0 = 0) ∧ ∀ x, im i = some x → fi i 0 = 1 ∧ PI (W2 i) (E2 i) (F2 i) (M2 i) (P2 i) (R2 i) x ∧ WI x
def spKeep (m : Row) (im : Nat → Option Row) (n1 : Int32) : Option (Int32 × (Nat → Option Row)) := if inI n1 0 1 = false then some (-1, im) else some (tl5 m (ff m (-1)), fun i => if i = n1.toNatClampNeg then some m else im i)
def spBack (m : Row) (im : Nat → Option Row) (n1 : Int32) : SPo := if inI n1 0 1 = false then some (-1, m, false) else (match im n1.toNatClampNeg with | none => some (-2, m, false) | some x => some (tl5 x (ff x (-1)), x, true))
theorem ii0 (n : Int32) : g_X6_isImage n = some (b2i (inI n 0 1)) := by
  cases h : inI n 0 1
  · unfold g_X6_isImage g_X6_isImage_26
    by_cases h0 : n < 0
    · rw [if_pos h0]; rfl
    · rw [if_neg h0]
      by_cases h1 : (2 : Int32) ≤ n
      · rw [if_pos h1]; rfl
      · exfalso
        unfold inI at h
        rw [Bool.and_eq_false_iff] at h
        rcases h with z | z
        · simp only [Bool.not_eq_false', decide_eq_true_eq] at z
          exact h0 z
        · simp only [Bool.not_eq_false', decide_eq_true_eq] at z
          refine h1 ?_
          rw [Int32.lt_iff_toInt_lt] at z
          rw [Int32.le_iff_toInt_le]
          have a1 : (1 : Int32).toInt = 1 := by decide
          have a2 : (2 : Int32).toInt = 2 := by decide
          omega
  · obtain ⟨j, hj, rfl⟩ := inI_nI (h := 1) (by decide) h
    rcases (show j = 0 ∨ j = 1 by omega) with rfl | rfl <;> decide
theorem keepH (hI : IMr fi W2 E2 F2 M2 P2 R2 im) (h : PI w er fl me p pr m) (hW : WI m) (n1 : Int32) :
    ∃ (r : Int32) (fi' W' E' F' M' P' R' : Nat → Row) (im' : Nat → Option Row), g_X6_keep w er fl me p pr fi W2 E2 F2 M2 P2 R2 n1 = some (r, fi', W', E', F', M', P', R') ∧ spKeep m im n1 = some (r, im') ∧ IMr fi' W' E' F' M' P' R' im' := by
  unfold g_X6_keep spKeep
  rw [ii0]
  simp only [Option.bind_some]
  cases h1 : inI n1 0 1
  · rw [bF rfl, if_pos rfl, if_pos rfl]
    exact ⟨_, _, _, _, _, _, _, _, _, rfl, rfl, hI⟩
  · rw [bT rfl, if_neg i1ne, if_neg tfne]
    obtain ⟨j, hj, rfl⟩ := inI_nI (h := 1) (by decide) h1
    rw [nI_clamp (by omega)]
    obtain ⟨w', er', fl', me', p', pr', c1, c2, -⟩ := cpF h (W2 j) (E2 j) (F2 j) (M2 j) (P2 j) (R2 j)
    have hst : g_X1_store (fi j) (W2 j) (E2 j) (F2 j) (M2 j) (P2 j) (R2 j) w er fl me p pr = some (upd (fi j) 0 1, w', er', fl', me', p', pr') := by
      unfold g_X1_store
      rw [c1, Option.bind_some]
    refine ⟨tl5 m (ff m (-1)), va_up fi j (upd (fi j) 0 1), va_up W2 j w', va_up E2 j er', va_up F2 j fl', va_up M2 j me', va_up P2 j p', va_up R2 j pr', _, ?_, rfl, fun i hi => ?_⟩
    · rcases (show j = 0 ∨ j = 1 by omega) with rfl | rfl
      · rw [if_pos (show nI 0 = 0 from rfl), hst, Option.bind_some, tal1 h.1.1.1, Option.bind_some]
      · rw [if_neg (show ¬ nI 1 = 0 by decide), if_pos (show nI 1 = 1 from rfl), hst, Option.bind_some, tal1 h.1.1.1, Option.bind_some]
    · by_cases hij : i = j
      · subst hij
        rw [vup_s, vup_s, vup_s, vup_s, vup_s, vup_s, vup_s]
        refine ⟨fun z => ?_, fun x z => ?_⟩
        · rw [if_pos rfl] at z; exact absurd z (by simp)
        · rw [if_pos rfl] at z
          have e : m = x := Option.some.inj z
          subst e
          exact ⟨by simp [upd], c2, hW⟩
      · rw [vup_n _ _ hij, vup_n _ _ hij, vup_n _ _ hij, vup_n _ _ hij, vup_n _ _ hij, vup_n _ _ hij, vup_n _ _ hij]
        obtain ⟨z1, z2⟩ := hI i hi
        exact ⟨fun z => by rw [if_neg hij] at z; exact z1 z, fun x z => by rw [if_neg hij] at z; exact z2 x z⟩
theorem backH (hA : PH pv W8 E8 F8 M8 P8 R8 hs) (hI : IMr fi W2 E2 F2 M2 P2 R2 im) (h : PI w er fl me p pr m) (hW : WI m) (n1 : Int32) :
    ∃ (r : Int32) (bb : Bool) (w' er' fl' me' p' pr' pv' : Row) (W' E' F' M' P' R' : Nat → Row) (m' : Row), g_X6_back w er fl me p pr fi W2 E2 F2 M2 P2 R2 pv W8 E8 F8 M8 P8 R8 n1 = some (r, w', er', fl', me', p', pr', pv', W', E', F', M', P', R') ∧ spBack m im n1 = some (r, m', bb) ∧ PI w' er' fl' me' p' pr' m' ∧ PH pv' W' E' F' M' P' R' (hz bb hs m) ∧ WI m' := by
  unfold g_X6_back spBack
  rw [ii0]
  simp only [Option.bind_some]
  cases h1 : inI n1 0 1
  · rw [bF rfl, if_pos rfl, if_pos rfl]
    exact ⟨_, false, _, _, _, _, _, _, _, _, _, _, _, _, _, _, rfl, rfl, h, hA, hW⟩
  · rw [bT rfl, if_neg i1ne, if_neg tfne]
    obtain ⟨j, hj, rfl⟩ := inI_nI (h := 1) (by decide) h1
    rw [nI_clamp (by omega)]
    obtain ⟨z1, z2⟩ := hI j (by omega)
    cases hk : im j with
    | none =>
      refine ⟨-2, false, w, er, fl, me, p, pr, pv, W8, E8, F8, M8, P8, R8, m, ?_, rfl, h, hA, hW⟩
      rcases (show j = 0 ∨ j = 1 by omega) with rfl | rfl
      · rw [if_pos (show nI 0 = 0 from rfl), if_pos (z1 hk)]
      · rw [if_neg (show ¬ nI 1 = 0 by decide), if_pos (show nI 1 = 1 from rfl), if_pos (z1 hk)]
    | some x =>
      obtain ⟨y1, y2, y3⟩ := z2 x hk
      obtain ⟨pv', W', E', F', M', P', R', k1, k3⟩ := remH hA h
      obtain ⟨w', er', fl', me', p', pr', c1, c2, c3, -⟩ := cpF y2 w er fl me p pr
      refine ⟨tl5 x (ff x (-1)), true, w', er', fl', me', p', pr', pv', W', E', F', M', P', R', x, ?_, rfl, c2, k3, y3⟩
      have ht := tal1 c2.1.1.1
      have hz : ¬ fi j 0 = 0 := fun e => absurd (y1.symm.trans e) (by decide)
      rcases (show j = 0 ∨ j = 1 by omega) with rfl | rfl
      · rw [if_pos (show nI 0 = 0 from rfl), if_neg hz, k1, Option.bind_some, if_pos (show nI 0 = 0 from rfl), c1, Option.bind_some, ht, Option.bind_some]
      · rw [if_neg (show ¬ nI 1 = 0 by decide), if_pos (show nI 1 = 1 from rfl), if_neg hz, k1, Option.bind_some, if_neg (show ¬ nI 1 = 0 by decide), if_pos (show nI 1 = 1 from rfl), c1, Option.bind_some, ht, Option.bind_some]
-- contents stay contents
theorem wrW {kd nun : Nat} {tm v r : Int32} {m' : Row} (hV : IV m) (on : m 115 = 1) (hl : LV (m 126)) (hnu : m 118 = nI nun) (hnl : nun < 10000) (hv : okV (nI (10000 * kd + nun)) tm v) (hg : gd (lrn (m 118, m 119, m 120, m 121) (nI (10000 * kd + nun)) v)) (e : g_X7_write m (nI kd) tm v = some (r, m')) (hw : WI m) : WI m' := by
  obtain ⟨B, S, k, nu, su, ti, pa, hI, d0, d1, dr, -⟩ := onX hV on
  obtain ⟨z, a1, a2, a3, a4, -, a9⟩ := WRT hI d0 d1 dr hnu hnl hv (by rw [← dr]; exact hg)
  obtain ⟨t1, t2⟩ := a9 m (fun _ _ _ _ => rfl) hl
  by_cases hc : canDo (m 126) (cst m B)
  · obtain ⟨n', u1, u2, -⟩ := t1 hc
    obtain ⟨-, q⟩ := Prod.mk.inj (Option.some.inj (e.symm.trans u1))
    rw [q]
    exact (a4 hw).congr u2.low
  · obtain ⟨n', u1, -, -, -, u2, -⟩ := t2 hc
    obtain ⟨-, q⟩ := Prod.mk.inj (Option.some.inj (e.symm.trans u1))
    rw [q]
    exact u2 hw
theorem sellW {n1 r : Int32} {bb : Bool} {m' : Row} (h : PI w er fl me p pr m) (e : spSell m n1 = some (r, m', bb)) (hw : WI m) : WI m' := by
  obtain ⟨r0, a1, a2, a3⟩ := refF h.1 h.2 n1
  unfold spSell at e
  rw [a2, Option.bind_some] at e
  by_cases hr : r0 = 0
  · obtain ⟨on, s, c, su, pa, hs', rfl, hc, hc1, hc2, hsu, hsu2, hpa, hpa1, hpa2⟩ := a3 hr
    obtain ⟨all, nu, zf, -, -, -, -, -, -, g⟩ := SELL h.2 on hs' hc hc1 hc2 ⟨su, hsu, hsu2⟩ ⟨pa, hpa, hpa1, hpa2⟩
    obtain ⟨t1, t2⟩ := g m (fun _ _ _ _ => rfl) h.1.1.2.2.2.2
    rw [if_pos hr] at e
    by_cases hcd : canDo (m 126) all
    · obtain ⟨n', u1, -, -, u2⟩ := t1 hcd
      rw [u1, Option.bind_some] at e
      obtain ⟨-, q⟩ := Prod.mk.inj (Option.some.inj e)
      obtain ⟨q, -⟩ := Prod.mk.inj q
      rw [← q]; exact u2 hw
    · obtain ⟨n', u1, -, u2, -⟩ := t2 hcd
      rw [u1, Option.bind_some] at e
      obtain ⟨-, q⟩ := Prod.mk.inj (Option.some.inj e)
      obtain ⟨q, -⟩ := Prod.mk.inj q
      rw [← q]; exact u2 hw
  · rw [if_neg hr] at e
    obtain ⟨-, q⟩ := Prod.mk.inj (Option.some.inj e)
    obtain ⟨q, -⟩ := Prod.mk.inj q
    rw [← q]; exact hw
theorem tieW {A : Option (Int32 × Row)} {F : Int32 × Row → Int32} {G : Int32 × Row → Row} {r : Int32} {m' : Row} {bb : Bool} (h : (A.bind fun o => if o.1 = 0 then some ((-4 : Int32), o.2, true) else some (F o, G o, true)) = some (r, m', bb)) : ∃ o, A = some o ∧ (m' = o.2 ∨ m' = G o) := by
  cases A with
  | none => exact absurd h (by simp)
  | some o =>
    refine ⟨o, rfl, ?_⟩
    simp only [Option.bind_some] at h
    by_cases ho : o.1 = 0
    · rw [if_pos ho] at h
      obtain ⟨-, q⟩ := Prod.mk.inj (Option.some.inj h)
      exact Or.inl (Prod.mk.inj q).1.symm
    · rw [if_neg ho] at h
      obtain ⟨-, q⟩ := Prod.mk.inj (Option.some.inj h)
      exact Or.inr (Prod.mk.inj q).1.symm
theorem sp_same {r r' : Int32} {m m' : Row} {b b' : Bool} (e : (some (r, m, b) : SPo) = some (r', m', b')) : m' = m := by
  obtain ⟨-, q⟩ := Prod.mk.inj (Option.some.inj e)
  exact (Prod.mk.inj q).1.symm
theorem clW {r : Int32} {bb : Bool} {m' : Row} (h : PI w er fl me p pr m) (e : spClo m = some (r, m', bb)) (hw : WI m) : WI m' := by
  unfold spClo at e
  by_cases on : m 115 = 0
  · rw [if_pos on] at e
    rw [sp_same e]; exact hw
  · rw [if_neg on] at e
    have on1 : m 115 = 1 := h.2.2.1.resolve_left on
    obtain ⟨B, S, k, nu, su, ti, pa, hI, d0, d1, dr, e1, e2, e3, e4, g1, g2, g3, g4⟩ := onX h.2 on1
    obtain ⟨o, q1, q2⟩ := tieW e
    have hlr := lrn_d (r := (m 118, m 119, m 120, m 121)) (v := m 119) g1
    have hW : WI o.2 := wrW (kd := 3) (r := o.1) h.2 on1 h.1.1.2.2.2.2 e1 g1 ⟨word_tms h.2.2.2.2, 10000 * 3 + nu, su, by omega, by omega, rfl, e2, fun z => by omega⟩ (by rw [hlr]; exact ⟨_, 0, 0, pa, by rw [e4]; rfl, Nat.mod_lt _ (by decide), by omega, by omega, g4⟩) q1 hw
    rcases q2 with rfl | rfl
    · exact hW
    · exact hW.congr (fun i hi => by rw [pk_un (by omega), pk_un (by omega)])
theorem caW {r : Int32} {bb : Bool} {m' : Row} (h : PI w er fl me p pr m) (e : spCan m = some (r, m', bb)) (hw : WI m) : WI m' := by
  unfold spCan at e
  by_cases on : m 115 = 0
  · rw [if_pos on] at e
    rw [sp_same e]; exact hw
  · rw [if_neg on] at e
    have on1 : m 115 = 1 := h.2.2.1.resolve_left on
    obtain ⟨B, S, k, nu, su, ti, pa, hI, d0, d1, dr, e1, e2, e3, e4, g1, g2, g3, g4⟩ := onX h.2 on1
    obtain ⟨rr, f1, f2, f3⟩ := endF h.1 h.2 on1
    rw [f2] at e
    cases rr
    · rw [if_neg (by decide)] at e
      rw [sp_same e]; exact hw
    · obtain ⟨b, q, v, v1, v2, v3, hb, hq, hrc, hk, rfl⟩ := f3 rfl
      rw [if_pos rfl, v2, Option.bind_some] at e
      obtain ⟨o, q1, q2⟩ := tieW e
      have h3 : m (22 * b + (6 + 4 * q + 3)) ≠ 65535 := by
        intro z
        unfold rc at hrc
        rw [z] at hrc
        simp only [Bool.and_eq_true, beq_iff_eq] at hrc
        exact jrem_ne _ hrc.2.symm
      obtain ⟨f, c, c1, c2, c3, c4, c5⟩ := hw.2 b q hb hq h3
      have hf : f < 20000 := by
        rw [c3, show (10000 : Int32) = nI 10000 from rfl, pk_div (by omega) (by decide) (by decide), show (0 : Int32) = nI 0 from rfl, nI_inj (by omega) (by decide)] at hk
        omega
      have hlr := lrn_c (r := (m 118, m 119, m 120, m 121)) (v := m (22 * b + (6 + 4 * q + 2))) g1
      have hW : WI o.2 := wrW (kd := 1) (r := o.1) h.2 on1 h.1.1.2.2.2.2 e1 g1 ⟨word_tms h.2.2.2.2, 10000 * 1 + nu, c, by omega, c2, rfl, c4, fun _ => c5 hf⟩ (by rw [hlr]; exact gd_nu v3 ⟨_, Nat.mod_lt _ (by decide), rfl⟩) q1 hw
      rcases q2 with rfl | rfl
      · exact hW
      · exact hW.congr (fun i hi => by rw [pk_un (by omega), pk_un (by omega)])
theorem loW {n1 n2 r : Int32} {bb : Bool} {m' : Row} (h : PI w er fl me p pr m) (e : spLoa m n1 n2 = some (r, m', bb)) (hw : WI m) : WI m' := by
  unfold spLoa at e
  cases h1 : inI n1 0 50000
  · rw [h1, if_pos rfl] at e
    rw [sp_same e]; exact hw
  · rw [h1, if_neg tfne] at e
    cases h2 : inI n2 0 50000
    · rw [h2, if_pos rfl] at e
      rw [sp_same e]; exact hw
    · rw [h2, if_neg tfne] at e
      by_cases on : m 115 = 0
      · rw [if_pos on] at e
        rw [sp_same e]; exact hw
      · rw [if_neg on] at e
        have on1 : m 115 = 1 := h.2.2.1.resolve_left on
        obtain ⟨j, hj, rfl⟩ := inI_nI (h := 50000) (by decide) h1
        obtain ⟨o, q1, q2⟩ := tieW e
        obtain ⟨hh, hVV⟩ := set123 h.1 h.2 n2
        have on' : (upd m 123 n2) 115 = 1 := by rw [pk_un (by decide), on1]
        have w' : WI (upd m 123 n2) := hw.congr (fun i hi => pk_un (by omega))
        obtain ⟨B, S, k, nu, su, ti, pa, hI, d0, d1, dr, e1, e2, e3, e4, g1, g2, g3, g4⟩ := onX hVV on'
        have hlr := lrn_p (r := ((upd m 123 n2) 118, (upd m 123 n2) 119, (upd m 123 n2) 120, (upd m 123 n2) 121)) (v := nI j) g1
        have hW : WI o.2 := wrW (kd := 4) (r := o.1) hVV on' hh.1.2.2.2.2 e1 g1 ⟨word_tms h.2.2.2.2, 10000 * 4 + nu, j, by omega, by omega, rfl, rfl, fun z => by omega⟩ (by rw [hlr]; exact ⟨_, su, ti, j, by rw [e2, e3], Nat.mod_lt _ (by decide), g2, g3, hj⟩) q1 w'
        rcases q2 with rfl | rfl
        · exact hW
        · exact hW.congr (fun i hi => pk_un (by omega))
theorem ckW {n1 r : Int32} {bb : Bool} {m' : Row} (h : PI w er fl me p pr m) (e : spClk m n1 = some (r, m', bb)) (hw : WI m) : WI m' := by
  unfold spClk at e
  cases h1 : inI n1 0 60000
  · rw [h1, if_pos rfl] at e
    rw [sp_same e]; exact hw
  · rw [h1, if_neg tfne] at e
    by_cases on : m 115 = 0
    · rw [if_pos on] at e
      rw [sp_same e]; exact hw
    · rw [if_neg on] at e
      have on1 : m 115 = 1 := h.2.2.1.resolve_left on
      obtain ⟨j, hj, rfl⟩ := inI_nI (h := 60000) (by decide) h1
      have k60 : ∀ t : Int32, t = 0 ∨ t = 1 → (g_X7_setClock_60 (nI j) t m m m).bind (fun o => (some (o.1, o.2.1, true) : SPo)) = some (r, m', bb) → WI m' := by
        intro t ht ht2
        unfold g_X7_setClock_60 g_X7_setClock_84 at ht2
        rcases ht with rfl | rfl
        · rw [if_pos rfl, if_pos rfl, Option.bind_some] at ht2
          rw [sp_same ht2]
          exact hw.congr (fun i hi => pk_un (by omega))
        · rw [if_neg i1ne] at ht2
          cases hq : g_X7_write m 2 (nI j) (m 122) with
          | none => rw [hq] at ht2; exact absurd ht2 (by simp)
          | some o =>
            rw [hq, Option.bind_some] at ht2
            obtain ⟨B, S, k, nu, su, ti, pa, hI, d0, d1, dr, e1, e2, e3, e4, g1, g2, g3, g4⟩ := onX h.2 on1
            obtain ⟨c0, hc0, ec⟩ := h.2.2.2.2
            have hlr := lrn_k (r := (m 118, m 119, m 120, m 121)) (v := m 122) g1
            have hW : WI o.2 := wrW (kd := 2) (r := o.1) (tm := nI j) h.2 on1 h.1.1.2.2.2.2 e1 g1 ⟨word_nI (by omega), 10000 * 2 + nu, c0, by omega, by omega, rfl, ec, fun z => by omega⟩ (by rw [hlr]; exact ⟨_, su, ti, pa, by rw [e2, e3, e4], Nat.mod_lt _ (by decide), g2, g3, g4⟩) hq hw
            by_cases ho : o.1 = 0
            · rw [if_pos ho, Option.bind_some] at ht2
              rw [sp_same ht2]; exact hW
            · rw [if_neg ho, if_neg i1ne, Option.bind_some] at ht2
              rw [sp_same ht2]
              exact hW.congr (fun i hi => pk_un (by omega))
      by_cases c1 : 5 ≤ (nI j - (m 122))
      · rw [if_pos c1] at e
        exact k60 1 (Or.inr rfl) e
      · rw [if_neg c1] at e
        by_cases c2 : ((m 122) - nI j) < 5
        · rw [if_pos c2] at e
          exact k60 0 (Or.inl rfl) e
        · rw [if_neg c2] at e
          exact k60 1 (Or.inr rfl) e
theorem paW {n1 r : Int32} {bb : Bool} {m' : Row} (e : spPas m n1 = some (r, m', bb)) (hw : WI m) : WI m' := by
  unfold spPas at e
  split at e
  · rw [sp_same e]; exact hw
  · split at e
    · rw [sp_same e]; exact hw.congr (fun i hi => pk_un (by omega))
    · rw [sp_same e]; exact hw.congr (fun i hi => pk_un (by omega))
theorem prW2 {n1 n2 r : Int32} {bb : Bool} {m' : Row} (e : spPri m n1 n2 = some (r, m', bb)) (hw : WI m) : WI m' := by
  unfold spPri at e
  split at e
  · rw [sp_same e]; exact hw
  · split at e
    · rw [sp_same e]; exact hw
    · rw [sp_same e]; exact hw.congr (fun i hi => pk_un (by omega))
theorem cuW {n1 r : Int32} {bb : Bool} {m' : Row} (e : spCut m n1 = some (r, m', bb)) (hw : WI m) : WI m' := by
  unfold spCut at e
  split at e
  · rw [sp_same e]; exact hw
  · rw [sp_same e]; exact hw.congr (fun i hi => pk_un (by omega))
theorem ofW {r : Int32} {bb : Bool} {m' : Row} (e : spOff m = some (r, m', bb)) (hw : WI m) : WI m' := by
  unfold spOff at e
  split at e
  · rw [sp_same e]; exact hw
  · rw [sp_same e]; exact hw.congr (fun i hi => pk_un (by omega))
theorem stW {r : Int32} {bb : Bool} {m' : Row} (h : PI w er fl me p pr m) (e : spSta m = some (r, m', bb)) (hw : WI m) : WI m' := by
  unfold spSta at e
  obtain ⟨me', m2, a1, a2, a3, a4, a5, a6⟩ := wakF h.1 h.2
  split at e
  · rw [a2, Option.bind_some] at e
    rw [sp_same e]; exact hw.congr a6
  · rw [sp_same e]; exact hw
end FC2

-- the past: a list of rows, the oldest first; the face over it
section PS
variable {m m' w er fl me p pr pv : Row} {W8 E8 F8 M8 P8 R8 : Nat → Row} {hs : List Row}
def PH (pv : Row) (W8 E8 F8 M8 P8 R8 : Nat → Row) (hs : List Row) : Prop := ∃ O : Nat, O < 8 ∧ hs.length ≤ 8 ∧ pv 0 = nI O ∧ pv 1 = nI hs.length ∧ ∀ (j : Nat) (x : Row), hs[j]? = some x → PI (W8 ((O + j) % 8)) (E8 ((O + j) % 8)) (F8 ((O + j) % 8)) (M8 ((O + j) % 8)) (P8 ((O + j) % 8)) (R8 ((O + j) % 8)) x
def rem8 (hs : List Row) (m : Row) : List Row := (if hs.length = 8 then hs.tail else hs) ++ [m]
theorem sta {x : Nat} (hx : x < 1000) : g_X4_stateAt (nI x) = some (some (x % 8)) := by
  have h8 : x % 8 < 8 := Nat.mod_lt _ (by decide)
  unfold g_X4_stateAt g_X4_stateAt_27
  rw [show (8 : Int32) = nI 8 from rfl, jrem_nI (by omega) (by decide) (by decide)]
  generalize x % 8 = y at h8
  rcases (show y = 0 ∨ y = 1 ∨ y = 2 ∨ y = 3 ∨ y = 4 ∨ y = 5 ∨ y = 6 ∨ y = 7 by omega) with rfl | rfl | rfl | rfl | rfl | rfl | rfl | rfl <;> decide
theorem r32F {x : Nat} (hx : x < 1000) (e : pv 0 + pv 1 = nI x) {o : Row × Row × Row × Row × Row × Row} (hc : g_X5_copyFrom (W8 (x % 8)) (E8 (x % 8)) (F8 (x % 8)) (M8 (x % 8)) (P8 (x % 8)) (R8 (x % 8)) w er fl me p pr = some o) : g_X4_remember_32 w er fl me p pr pv W8 E8 F8 M8 P8 R8 = some (upd pv 1 (pv 1 + 1), va_up W8 (x % 8) o.1, va_up E8 (x % 8) o.2.1, va_up F8 (x % 8) o.2.2.1, va_up M8 (x % 8) o.2.2.2.1, va_up P8 (x % 8) o.2.2.2.2.1, va_up R8 (x % 8) o.2.2.2.2.2) := by
  have h8 : x % 8 < 8 := Nat.mod_lt _ (by decide)
  unfold g_X4_remember_32
  rw [e, sta hx, Option.bind_some]
  generalize x % 8 = y at h8 hc
  rcases (show y = 0 ∨ y = 1 ∨ y = 2 ∨ y = 3 ∨ y = 4 ∨ y = 5 ∨ y = 6 ∨ y = 7 by omega) with rfl | rfl | rfl | rfl | rfl | rfl | rfl | rfl <;> simp [hc]
theorem vup_s {α : Type} (f : Nat → α) (k : Nat) (x : α) : va_up f k x k = x := by simp [va_up]
theorem vup_n {α : Type} (f : Nat → α) {k j : Nat} (x : α) (h : j ≠ k) : va_up f k x j = f j := by simp [va_up, h]
theorem rem1 {O : Nat} (hO : O < 8) (hN : hs.length < 8) (h3 : pv 0 = nI O) (h4 : pv 1 = nI hs.length) (h6 : ∀ (j : Nat) (x : Row), hs[j]? = some x → PI (W8 ((O + j) % 8)) (E8 ((O + j) % 8)) (F8 ((O + j) % 8)) (M8 ((O + j) % 8)) (P8 ((O + j) % 8)) (R8 ((O + j) % 8)) x) (h : PI w er fl me p pr m) :
    ∃ (pv' : Row) (W' E' F' M' P' R' : Nat → Row), g_X4_remember_32 w er fl me p pr pv W8 E8 F8 M8 P8 R8 = some (pv', W', E', F', M', P', R') ∧ PH pv' W' E' F' M' P' R' (hs ++ [m]) := by
  obtain ⟨w', er', fl', me', p', pr', c1, c2, -⟩ := cpF h (W8 ((O + hs.length) % 8)) (E8 ((O + hs.length) % 8)) (F8 ((O + hs.length) % 8)) (M8 ((O + hs.length) % 8)) (P8 ((O + hs.length) % 8)) (R8 ((O + hs.length) % 8))
  refine ⟨_, _, _, _, _, _, _, r32F (x := O + hs.length) (by omega) (by rw [h3, h4, nI_add]) c1, O, hO, by simp only [List.length_append, List.length_cons, List.length_nil]; omega, ?_, ?_, fun j x hj => ?_⟩
  · simp [upd, h3]
  · simp [upd, h4, nI_s]
  · by_cases hjN : j = hs.length
    · subst hjN
      rw [vup_s, vup_s, vup_s, vup_s, vup_s, vup_s]
      rw [List.getElem?_append_right (Nat.le_refl _), Nat.sub_self] at hj
      have hx : m = x := Option.some.inj hj
      subst hx
      exact c2
    · have hlt := (List.getElem?_eq_some_iff.mp hj).1
      simp only [List.length_append, List.length_cons, List.length_nil] at hlt
      have hne : (O + j) % 8 ≠ (O + hs.length) % 8 := by omega
      rw [vup_n _ _ hne, vup_n _ _ hne, vup_n _ _ hne, vup_n _ _ hne, vup_n _ _ hne, vup_n _ _ hne]
      rw [List.getElem?_append_left (by omega)] at hj
      exact h6 j x hj
theorem remH (hA : PH pv W8 E8 F8 M8 P8 R8 hs) (h : PI w er fl me p pr m) :
    ∃ (pv' : Row) (W' E' F' M' P' R' : Nat → Row), g_X4_remember pv W8 E8 F8 M8 P8 R8 w er fl me p pr = some (pv', W', E', F', M', P', R') ∧ PH pv' W' E' F' M' P' R' (rem8 hs m) := by
  obtain ⟨O, h1, h2, h3, h4, h6⟩ := hA
  unfold g_X4_remember rem8
  by_cases hN : hs.length = 8
  · rw [if_pos (show pv 1 = 8 by rw [h4, hN]; rfl), if_pos hN]
    have ht : hs.tail.length = 7 := by rw [List.length_tail, hN]
    refine rem1 (hs := hs.tail) (O := (O + 1) % 8) (Nat.mod_lt _ (by decide)) (by omega) ?_ ?_ (fun j x hj => ?_) h
    · rw [h3, nI_s, show (8 : Int32) = nI 8 from rfl, jrem_nI (by omega) (by decide) (by decide)]; simp [upd]
    · rw [h4, hN, ht]; simp [upd]; rfl
    · rw [List.getElem?_tail] at hj
      have e := h6 (j + 1) x hj
      rw [show (O + (j + 1)) % 8 = ((O + 1) % 8 + j) % 8 by omega] at e
      exact e
  · have hne : ¬ pv 1 = 8 := by
      intro e
      exact hN ((nI_inj (b := 8) (by omega) (by decide)).mp (h4.symm.trans e))
    rw [if_neg hne, if_neg hN]
    exact rem1 h1 (by omega) h3 h4 h6 h
theorem resF {O N : Nat} (hO : O < 8) (hN : N < 8) (h3 : pv 0 = nI O) (h4 : pv 1 = nI (N + 1)) {o : Row × Row × Row × Row × Row × Row} (hc : g_X5_copyFrom w er fl me p pr (W8 ((O + N) % 8)) (E8 ((O + N) % 8)) (F8 ((O + N) % 8)) (M8 ((O + N) % 8)) (P8 ((O + N) % 8)) (R8 ((O + N) % 8)) = some o) : g_X4_restore w er fl me p pr pv W8 E8 F8 M8 P8 R8 = some (o.1, o.2.1, o.2.2.1, o.2.2.2.1, o.2.2.2.2.1, o.2.2.2.2.2, upd pv 1 (nI N)) := by
  have h8 : (O + N) % 8 < 8 := Nat.mod_lt _ (by decide)
  unfold g_X4_restore
  rw [h3, h4, if_neg (show ¬ nI (N + 1) ≤ 0 from nI_ge (a := 0) (b := N + 1) (by omega) (by omega)), nI_add, show O + (N + 1) = O + N + 1 by omega, nI_sub1, nI_sub1, sta (by omega), Option.bind_some]
  generalize (O + N) % 8 = y at h8 hc
  rcases (show y = 0 ∨ y = 1 ∨ y = 2 ∨ y = 3 ∨ y = 4 ∨ y = 5 ∨ y = 6 ∨ y = 7 by omega) with rfl | rfl | rfl | rfl | rfl | rfl | rfl | rfl <;> simp [hc]
theorem undoH {x : Row} (hA : PH pv W8 E8 F8 M8 P8 R8 (hs ++ [x])) (w er fl me p pr : Row) :
    ∃ (w' er' fl' me' p' pr' pv' : Row), g_X6_undo w er fl me p pr pv W8 E8 F8 M8 P8 R8 = some (nI hs.length, w', er', fl', me', p', pr', pv') ∧ PI w' er' fl' me' p' pr' x ∧ PH pv' W8 E8 F8 M8 P8 R8 hs := by
  obtain ⟨O, h1, h2, h3, h4, h6⟩ := hA
  simp only [List.length_append, List.length_cons, List.length_nil] at h2 h4
  have hne : ¬ pv 1 = 0 := by
    intro e
    have := (nI_inj (b := 0) (by omega) (by decide)).mp (h4.symm.trans e)
    omega
  have hx : (hs ++ [x])[hs.length]? = some x := by rw [List.getElem?_append_right (Nat.le_refl _), Nat.sub_self]; rfl
  obtain ⟨w', er', fl', me', p', pr', c1, c2, -⟩ := cpF (h6 hs.length x hx) w er fl me p pr
  unfold g_X6_undo
  rw [if_neg hne, resF h1 (by omega) h3 h4 c1]
  refine ⟨w', er', fl', me', p', pr', upd pv 1 (nI hs.length), ?_, c2, O, h1, by omega, ?_, ?_, fun j y hj => ?_⟩
  · simp [upd]
  · simp [upd, h3]
  · simp [upd]
  · refine h6 j y ?_
    rw [List.getElem?_append_left (List.getElem?_eq_some_iff.mp hj).1]
    exact hj
theorem rem8_app (t : List Row) (h : hs.length + t.length ≤ 8) (ht : t.length < 8) : ∃ h' : List Row, rem8 (hs ++ t) m = h' ++ (t ++ [m]) ∧ h'.length + (t ++ [m]).length ≤ 8 := by
  unfold rem8
  by_cases e : (hs ++ t).length = 8
  · rw [if_pos e]
    cases hs with
    | nil => simp only [List.nil_append] at e; omega
    | cons y hs =>
      refine ⟨hs, by simp, ?_⟩
      simp only [List.length_append, List.length_cons, List.length_nil] at h ⊢
      omega
  · rw [if_neg e]
    refine ⟨hs, by simp, ?_⟩
    simp only [List.length_append, List.length_cons, List.length_nil] at e ⊢
    omega
end PS
-- the changes, as functions of a row: the answer, the row then, whether it is remembered
abbrev SPo : Type := Option (Int32 × Row × Bool)
def hz : Bool → List Row → Row → List Row
  | true, hs, m => rem8 hs m
  | false, hs, _ => hs
def spSell (m : Row) (n1 : Int32) : SPo := (g_X7_refusal m n1).bind fun r => if r = 0 then (g_X7_sellNow m n1).bind fun o => some (o.1, o.2, true) else some (r, m, false)
def spCan (m : Row) : SPo := if m 115 = 0 then some (-2, m, false) else (if ((m 117) - 1) < 0 then some (-2, m, false) else (g_X7_isRecord m (m 116) ((m 117) - 1)).bind fun o35 => (if o35 = 0 then some (-2, m, false) else (g_X7_inPlace m (m 116) ((m 117) - 1) 0).bind fun o45 => (if (o45 / 10000) = 0 then (g_X7_inPlace m (m 116) (m 117 - 1) 2).bind fun v => (g_X7_write m 1 (m 122) v).bind fun o80 => (if o80.1 = 0 then some ((-4), o80.2, true) else some (jrem v 1000, upd (upd o80.2 119 ((o80.2 119) - (jrem v 1000))) 120 ((o80.2 120) - 1), true)) else some (-2, m, false))))
def spClo (m : Row) : SPo := if m 115 = 0 then some (-2, m, false) else (g_X7_write m 3 (m 122) (m 119)).bind fun o35 => (if o35.1 = 0 then some ((-4), o35.2, true) else some (m 119, upd (upd o35.2 119 0) 120 0, true))
def spLoa (m : Row) (n1 n2 : Int32) : SPo := if inI n1 0 50000 = false then some (-1, m, false) else if inI n2 0 50000 = false then some (-1, m, false) else if m 115 = 0 then some (-2, m, false) else (g_X7_write (upd m 123 n2) 4 (m 122) n1).bind fun o65 => (if o65.1 = 0 then some ((-4), o65.2, true) else some (m 123, upd o65.2 121 n1, true))
def spClk (m : Row) (n1 : Int32) : SPo := if inI n1 0 60000 = false then some (-1, m, false) else if m 115 = 0 then some (-2, m, false) else (if 5 ≤ (n1 - (m 122)) then g_X7_setClock_55 n1 m m m else (if ((m 122) - n1) < 5 then g_X7_setClock_60 n1 0 m m m else g_X7_setClock_55 n1 m m m)).bind fun o => some (o.1, o.2.1, true)
def spPas (m : Row) (n1 : Int32) : SPo := if inI n1 1 5000 = false then some (-1, m, false) else if m 122 + n1 ≤ 60000 then some (m 122 + n1, upd m 122 (m 122 + n1), true) else some (60000, upd m 122 60000, true)
def spPri (m : Row) (n1 n2 : Int32) : SPo := if inI n1 0 3 = false then some (-1, m, false) else if inI n2 1 999 = false then some (-1, m, false) else some (m (127 + n1.toNatClampNeg), upd m (127 + n1.toNatClampNeg) n2, true)
def spCut (m : Row) (n1 : Int32) : SPo := if inI n1 (-1) 100 = false then some (-1, m, false) else some (m 126, upd m 126 (if 0 ≤ n1 then n1 else -9), true)
def spOff (m : Row) : SPo := if m 115 = 0 then some (-2, m, false) else some (tl5 m (ff m (-1)), upd m 115 0, true)
def spSta (m : Row) : SPo := if m 115 = 0 then (g_X7_readMemory m).bind fun o => some (o 118, o, true) else some (-2, m, false)
section FC
variable {m w er fl me p pr pv : Row} {W8 E8 F8 M8 P8 R8 : Nat → Row} {hs : List Row}
theorem tfne : ¬ true = false := by decide
theorem tieS {A : Option (Int32 × Row)} {F : Int32 × Row → Int32} {G : Int32 × Row → Row} {r : Int32} {m' : Row} (h : (A.bind fun o => if o.1 = 0 then some ((-4 : Int32), o.2) else some (F o, G o)) = some (r, m')) : (A.bind fun o => if o.1 = 0 then some ((-4 : Int32), o.2, true) else some (F o, G o, true)) = some (r, m', true) := by
  cases A with
  | none => exact absurd h (by simp)
  | some o =>
    simp only [Option.bind_some] at h ⊢
    by_cases ho : o.1 = 0
    · rw [if_pos ho] at h ⊢
      obtain ⟨h1, h2⟩ := Prod.mk.inj (Option.some.inj h)
      rw [h1, h2]
    · rw [if_neg ho] at h ⊢
      obtain ⟨h1, h2⟩ := Prod.mk.inj (Option.some.inj h)
      rw [h1, h2]
theorem sellH (hA : PH pv W8 E8 F8 M8 P8 R8 hs) (h : PI w er fl me p pr m) (n1 : Int32) :
    ∃ (r : Int32) (bb : Bool) (w' er' fl' me' pr' pv' : Row) (W' E' F' M' P' R' : Nat → Row) (m' : Row), g_X6_sell w er fl me p pr pv W8 E8 F8 M8 P8 R8 n1 = some (r, w', er', fl', me', pr', pv', W', E', F', M', P', R') ∧ spSell m n1 = some (r, m', bb) ∧ PI w' er' fl' me' p pr' m' ∧ PH pv' W' E' F' M' P' R' (hz bb hs m) := by
  obtain ⟨r, a1, a2, a3⟩ := refF h.1 h.2 n1
  unfold g_X6_sell spSell
  rw [a1, a2, Option.bind_some, Option.bind_some]
  by_cases hr : r = 0
  · obtain ⟨on, s, c, su, pa, hs', rfl, hc, hc1, hc2, hsu, hsu2, hpa, hpa1, hpa2⟩ := a3 hr
    obtain ⟨pv', W', E', F', M', P', R', k1, k3⟩ := remH hA h
    obtain ⟨r', w', er', fl', me', pr', m', i1, i2, i3, i4⟩ := issF h.1 h.2 on hs' hc hc1 hc2 ⟨su, hsu, hsu2⟩ ⟨pa, hpa, hpa1, hpa2⟩
    rw [if_pos hr, if_pos hr, k1, Option.bind_some, i1, i2, Option.bind_some, Option.bind_some]
    exact ⟨_, true, _, _, _, _, _, _, _, _, _, _, _, _, _, rfl, rfl, ⟨i3, i4⟩, k3⟩
  · rw [if_neg hr, if_neg hr]
    exact ⟨_, false, _, _, _, _, _, _, _, _, _, _, _, _, _, rfl, rfl, h, hA⟩
theorem cancelH (hA : PH pv W8 E8 F8 M8 P8 R8 hs) (h : PI w er fl me p pr m) :
    ∃ (r : Int32) (bb : Bool) (w' er' fl' me' pr' pv' : Row) (W' E' F' M' P' R' : Nat → Row) (m' : Row), g_X6_cancel w er fl me p pr pv W8 E8 F8 M8 P8 R8 = some (r, w', er', fl', me', pr', pv', W', E', F', M', P', R') ∧ spCan m = some (r, m', bb) ∧ PI w' er' fl' me' p pr' m' ∧ PH pv' W' E' F' M' P' R' (hz bb hs m) := by
  unfold g_X6_cancel g_X6_cancel_20 spCan
  rw [h.1.2.2.1]
  by_cases on : m 115 = 0
  · rw [if_pos on, if_pos on]
    exact ⟨_, false, _, _, _, _, _, _, _, _, _, _, _, _, _, rfl, rfl, h, hA⟩
  · have on1 : m 115 = 1 := h.2.2.1.resolve_left on
    obtain ⟨r, e1, e2, e3⟩ := endF h.1 h.2 on1
    rw [if_neg on, if_neg on, e1, Option.bind_some, e2]
    cases r
    · rw [bF rfl, if_pos rfl, if_neg (by decide)]
      exact ⟨_, false, _, _, _, _, _, _, _, _, _, _, _, _, _, rfl, rfl, h, hA⟩
    · obtain ⟨_, _, v, v1, v2, v3, -⟩ := e3 rfl
      obtain ⟨pv', W', E', F', M', P', R', k1, k3⟩ := remH hA h
      obtain ⟨r', w', er', fl', me', pr', m', i1, i2, i3, i4⟩ := canF h.1 h.2 on1 v1 v3
      rw [bT rfl, if_neg i1ne, if_pos rfl, k1, Option.bind_some, i1, Option.bind_some, v2, Option.bind_some]
      exact ⟨r', true, w', er', fl', me', pr', pv', W', E', F', M', P', R', m', rfl, tieS i2, ⟨i3, i4⟩, k3⟩
theorem closeH (hA : PH pv W8 E8 F8 M8 P8 R8 hs) (h : PI w er fl me p pr m) :
    ∃ (r : Int32) (bb : Bool) (w' er' fl' me' pr' pv' : Row) (W' E' F' M' P' R' : Nat → Row) (m' : Row), g_X6_close w er fl me p pr pv W8 E8 F8 M8 P8 R8 = some (r, w', er', fl', me', pr', pv', W', E', F', M', P', R') ∧ spClo m = some (r, m', bb) ∧ PI w' er' fl' me' p pr' m' ∧ PH pv' W' E' F' M' P' R' (hz bb hs m) := by
  unfold g_X6_close spClo
  rw [h.1.2.2.1]
  by_cases on : m 115 = 0
  · rw [if_pos on, if_pos on]
    exact ⟨_, false, _, _, _, _, _, _, _, _, _, _, _, _, _, rfl, rfl, h, hA⟩
  · have on1 : m 115 = 1 := h.2.2.1.resolve_left on
    obtain ⟨pv', W', E', F', M', P', R', k1, k3⟩ := remH hA h
    obtain ⟨r', w', er', fl', me', pr', m', i1, i2, i3, i4⟩ := cloF h.1 h.2 on1
    rw [if_neg on, if_neg on, k1, Option.bind_some, i1, Option.bind_some]
    exact ⟨r', true, w', er', fl', me', pr', pv', W', E', F', M', P', R', m', rfl, tieS i2, ⟨i3, i4⟩, k3⟩
theorem loadH (hA : PH pv W8 E8 F8 M8 P8 R8 hs) (h : PI w er fl me p pr m) (n1 n2 : Int32) :
    ∃ (r : Int32) (bb : Bool) (w' er' fl' me' pr' pv' : Row) (W' E' F' M' P' R' : Nat → Row) (m' : Row), g_X6_load w er fl me p pr pv W8 E8 F8 M8 P8 R8 n1 n2 = some (r, w', er', fl', me', pr', pv', W', E', F', M', P', R') ∧ spLoa m n1 n2 = some (r, m', bb) ∧ PI w' er' fl' me' p pr' m' ∧ PH pv' W' E' F' M' P' R' (hz bb hs m) := by
  unfold g_X6_load g_X6_load_20 spLoa
  rw [h.1.2.2.1, iw0, iw0]
  simp only [Option.bind_some]
  cases h1 : inI n1 0 50000
  · rw [bF rfl, if_pos rfl, if_pos rfl]
    exact ⟨_, false, _, _, _, _, _, _, _, _, _, _, _, _, _, rfl, rfl, h, hA⟩
  · rw [bT rfl, if_neg i1ne, if_neg tfne]
    cases h2 : inI n2 0 50000
    · rw [bF rfl, if_pos rfl, if_pos rfl]
      exact ⟨_, false, _, _, _, _, _, _, _, _, _, _, _, _, _, rfl, rfl, h, hA⟩
    · rw [bT rfl, if_neg i1ne, if_neg tfne]
      by_cases on : m 115 = 0
      · rw [if_pos on, if_pos on]
        exact ⟨_, false, _, _, _, _, _, _, _, _, _, _, _, _, _, rfl, rfl, h, hA⟩
      · have on1 : m 115 = 1 := h.2.2.1.resolve_left on
        obtain ⟨j, hj, rfl⟩ := inI_nI (h := 50000) (by decide) h1
        obtain ⟨pv', W', E', F', M', P', R', k1, k3⟩ := remH hA h
        obtain ⟨r', w', er', fl', me', pr', m', i1, i2, i3, i4⟩ := loaF (n2 := n2) h.1 h.2 on1 ⟨j, hj, rfl⟩
        rw [if_neg on, if_neg on, k1, Option.bind_some, i1, Option.bind_some]
        exact ⟨r', true, w', er', fl', me', pr', pv', W', E', F', M', P', R', m', rfl, tieS i2, ⟨i3, i4⟩, k3⟩
theorem clockH (hA : PH pv W8 E8 F8 M8 P8 R8 hs) (h : PI w er fl me p pr m) (n1 : Int32) :
    ∃ (r : Int32) (bb : Bool) (w' er' fl' me' pr' pv' : Row) (W' E' F' M' P' R' : Nat → Row) (m' : Row), g_X6_setClock w er fl me p pr pv W8 E8 F8 M8 P8 R8 n1 = some (r, w', er', fl', me', pr', pv', W', E', F', M', P', R') ∧ spClk m n1 = some (r, m', bb) ∧ PI w' er' fl' me' p pr' m' ∧ PH pv' W' E' F' M' P' R' (hz bb hs m) := by
  unfold g_X6_setClock spClk
  rw [h.1.2.2.1, iw0]
  simp only [Option.bind_some]
  cases h1 : inI n1 0 60000
  · rw [bF rfl, if_pos rfl, if_pos rfl]
    exact ⟨_, false, _, _, _, _, _, _, _, _, _, _, _, _, _, rfl, rfl, h, hA⟩
  · rw [bT rfl, if_neg i1ne, if_neg tfne]
    by_cases on : m 115 = 0
    · rw [if_pos on, if_pos on]
      exact ⟨_, false, _, _, _, _, _, _, _, _, _, _, _, _, _, rfl, rfl, h, hA⟩
    · have on1 : m 115 = 1 := h.2.2.1.resolve_left on
      obtain ⟨j, hj, rfl⟩ := inI_nI (h := 60000) (by decide) h1
      obtain ⟨pv', W', E', F', M', P', R', k1, k3⟩ := remH hA h
      obtain ⟨r', w', er', fl', me', pr', m', i1, i2, i3, i4⟩ := clkF h.1 h.2 on1 (n1 := nI j) ⟨j, hj, rfl⟩ m m
      rw [if_neg on, if_neg on, k1, Option.bind_some, i1, Option.bind_some, i2, Option.bind_some]
      exact ⟨r', true, w', er', fl', me', pr', pv', W', E', F', M', P', R', m', rfl, rfl, ⟨i3, i4⟩, k3⟩
theorem passH (hA : PH pv W8 E8 F8 M8 P8 R8 hs) (h : PI w er fl me p pr m) (n1 : Int32) :
    ∃ (r : Int32) (bb : Bool) (pr' pv' : Row) (W' E' F' M' P' R' : Nat → Row) (m' : Row), g_X6_pass w er fl me p pr pv W8 E8 F8 M8 P8 R8 n1 = some (r, pr', pv', W', E', F', M', P', R') ∧ spPas m n1 = some (r, m', bb) ∧ PI w er fl me p pr' m' ∧ PH pv' W' E' F' M' P' R' (hz bb hs m) := by
  unfold g_X6_pass spPas
  rw [h.1.2.2.2.1, iw0]
  simp only [Option.bind_some]
  cases h1 : inI n1 1 5000
  · rw [bF rfl, if_pos rfl, if_pos rfl]
    exact ⟨_, false, _, _, _, _, _, _, _, _, _, rfl, rfl, h, hA⟩
  · rw [bT rfl, if_neg i1ne, if_neg tfne]
    obtain ⟨pv', W', E', F', M', P', R', k1, k3⟩ := remH hA h
    have h2 : inI n1 0 5000 = true := by
      unfold inI at h1 ⊢
      simp only [Bool.and_eq_true, Bool.not_eq_true', decide_eq_false_iff_not] at h1 ⊢
      exact ⟨fun z => h1.1 (Int32.lt_trans z (by decide)), h1.2⟩
    obtain ⟨j, hj, rfl⟩ := inI_nI (h := 5000) (by decide) h2
    obtain ⟨c, hc, ec⟩ := h.2.2.2.2
    have ht : tms (nI 60000) := ⟨60000, Nat.le_refl _, rfl⟩
    rw [k1, Option.bind_some, ec, nI_add]
    by_cases hb : c + j ≤ 60000
    · obtain ⟨i3, i4⟩ := set122 h.1 h.2 (x := nI (c + j)) ⟨_, hb, rfl⟩
      rw [if_neg (show ¬ (60000 : Int32) < nI (c + j) from nI_nlt (a := 60000) (b := c + j) hb (by decide)), if_pos (show nI (c + j) ≤ (60000 : Int32) from (nI_leI (b := 60000) (by omega) (by decide)).mpr hb)]
      exact ⟨_, true, _, _, _, _, _, _, _, _, _, rfl, by simp only [upd, if_true], ⟨i3, i4⟩, k3⟩
    · obtain ⟨i3, i4⟩ := set122 h.1 h.2 (x := 60000) ht
      rw [if_pos (show (60000 : Int32) < nI (c + j) from (nI_ltI (a := 60000) (by decide) (by omega)).mpr (by omega)), if_neg (show ¬ nI (c + j) ≤ (60000 : Int32) from fun z => hb ((nI_leI (b := 60000) (by omega) (by decide)).mp z))]
      exact ⟨_, true, _, _, _, _, _, _, _, _, _, rfl, by simp only [upd, if_true], ⟨i3, i4⟩, k3⟩
end FC

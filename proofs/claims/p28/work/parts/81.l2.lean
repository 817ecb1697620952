-- the law's changes: two printers handled alike stay alike; switching off and on
section LC
variable {D D2 : TD} {m : Row} {hs hs2 : List Row} {im : Nat → Option Row}
theorem lowL (v : Int32) {x : Int32} (n : Nat) (hx : x = nI n) (h0 : 0 < n) (hn : n < 2 ^ 31) : ∃ j : Nat, j < n ∧ g_L_low v x = some (nI j) := by
  subst hx
  obtain ⟨y, hy, ey⟩ := pk_andE v (m := 2147483647) 31 (by decide)
  refine ⟨y % n, Nat.mod_lt _ h0, ?_⟩
  unfold g_L_low
  rw [if_neg (nI_ne0 h0 hn), ey, jrem_nI hy h0 hn]
/-- what one answers, both answer, and they stay alike -/
def TWO (f : TD → Option (Int32 × TD)) (D D2 : TD) : Prop := ∃ (r : Int32) (m' : Row) (im' : Nat → Option Row) (D' D2' : TD) (hs' hs2' : List Row), f D = some (r, D') ∧ f D2 = some (r, D2') ∧ RO D' m' hs' im' ∧ RO D2' m' hs2' im'
theorem two_oc {f : TD → Option (Int32 × TD)} {sp : SPo} (h : OC f sp m im) (hD : RO D m hs im) (hD2 : RO D2 m hs2 im) : TWO f D D2 := by
  obtain ⟨r, bb, m', D', a1, a2, a3⟩ := h D hs hD
  obtain ⟨r2, bb2, m2, D2', b1, b2, b3⟩ := h D2 hs2 hD2
  obtain ⟨e1, e2⟩ := Prod.mk.inj (Option.some.inj (a1.symm.trans b1))
  obtain ⟨e2, -⟩ := Prod.mk.inj e2
  subst e1 e2
  exact ⟨r, m', im, D', D2', _, _, a2, b2, a3, b3⟩
theorem two_keep (n1 : Int32) (hD : RO D m hs im) (hD2 : RO D2 m hs2 im) : TWO (fun D => g_O_keep D n1) D D2 := by
  obtain ⟨r, im', D', a1, a2, a3⟩ := O_keep n1 hD
  obtain ⟨r2, im2, D2', b1, b2, b3⟩ := O_keep n1 hD2
  obtain ⟨e1, e2⟩ := Prod.mk.inj (Option.some.inj (a1.symm.trans b1))
  subst e1 e2
  exact ⟨r, m, im', D', D2', _, _, a2, b2, a3, b3⟩
theorem two_of {F f : TD → Option (Int32 × TD)} (e : ∀ (D : TD) (hs : List Row), RO D m hs im → F D = f D) (hD : RO D m hs im) (hD2 : RO D2 m hs2 im) (h : TWO f D D2) : TWO F D D2 := by
  obtain ⟨r, m', im', D', D2', hs', hs2', a1, a2, a3, a4⟩ := h
  exact ⟨r, m', im', D', D2', hs', hs2', (e D hs hD).trans a1, (e D2 hs2 hD2).trans a2, a3, a4⟩
theorem b_eta {α β : Type} (x : Option (α × β)) : (x.bind fun o => some (o.1, o.2)) = x := by cases x <;> rfl
set_option maxHeartbeats 1000000 in
theorem chF (v w : Int32) (hD : RO D m hs im) (hD2 : RO D2 m hs2 im) : ∃ j : Nat, j < 18 ∧ g_L_low v 18 = some (nI j) ∧ (j ≠ 15 → TWO (fun D => g_L_change D v w) D D2) := by
  obtain ⟨j, hj, ej⟩ := lowL v (x := 18) 18 rfl (by decide) (by decide)
  refine ⟨j, hj, ej, fun h15 => ?_⟩
  rcases (show j = 0 ∨ j = 1 ∨ j = 2 ∨ j = 3 ∨ j = 4 ∨ j = 5 ∨ j = 6 ∨ j = 7 ∨ j = 8 ∨ j = 9 ∨ j = 10 ∨ j = 11 ∨ j = 12 ∨ j = 13 ∨ j = 14 ∨ j = 15 ∨ j = 16 ∨ j = 17 by omega) with rfl | rfl | rfl | rfl | rfl | rfl | rfl | rfl | rfl | rfl | rfl | rfl | rfl | rfl | rfl | rfl | rfl | rfl
  · obtain ⟨a, ha, ea⟩ := lowL w (x := 4) 4 rfl (by decide) (by decide)
    exact two_of (f := fun D => g_O_sell D (nI a)) (fun D hs hR => by unfold g_L_change; rw [ej, Option.bind_some, if_pos (by decide), ea, Option.bind_some]; exact b_eta _) hD hD2 (two_oc (O_sell _) hD hD2)
  · obtain ⟨a, ha, ea⟩ := lowL w (x := 4) 4 rfl (by decide) (by decide)
    exact two_of (f := fun D => g_O_sell D (nI a)) (fun D hs hR => by unfold g_L_change; rw [ej, Option.bind_some, if_neg (by decide), if_pos (by decide), ea, Option.bind_some]; exact b_eta _) hD hD2 (two_oc (O_sell _) hD hD2)
  · obtain ⟨a, ha, ea⟩ := lowL w (x := 4) 4 rfl (by decide) (by decide)
    exact two_of (f := fun D => g_O_sell D (nI a)) (fun D hs hR => by unfold g_L_change; rw [ej, Option.bind_some, if_neg (by decide), if_neg (by decide), if_pos (by decide), ea, Option.bind_some]; exact b_eta _) hD hD2 (two_oc (O_sell _) hD hD2)
  · obtain ⟨a, ha, ea⟩ := lowL w (x := 4) 4 rfl (by decide) (by decide)
    exact two_of (f := fun D => g_O_sell D (nI a)) (fun D hs hR => by unfold g_L_change; rw [ej, Option.bind_some, if_neg (by decide), if_neg (by decide), if_neg (by decide), if_pos (by decide), ea, Option.bind_some]; exact b_eta _) hD hD2 (two_oc (O_sell _) hD hD2)
  · obtain ⟨a, ha, ea⟩ := lowL w (x := 4) 4 rfl (by decide) (by decide)
    exact two_of (f := fun D => g_O_sell D (nI a)) (fun D hs hR => by unfold g_L_change; rw [ej, Option.bind_some, if_neg (by decide), if_neg (by decide), if_neg (by decide), if_neg (by decide), if_pos (by decide), ea, Option.bind_some]; exact b_eta _) hD hD2 (two_oc (O_sell _) hD hD2)
  · obtain ⟨a, ha, ea⟩ := lowL w (x := 4) 4 rfl (by decide) (by decide)
    exact two_of (f := fun D => g_O_sell D (nI a)) (fun D hs hR => by unfold g_L_change; rw [ej, Option.bind_some, if_neg (by decide), if_neg (by decide), if_neg (by decide), if_neg (by decide), if_neg (by decide), if_pos (by decide), ea, Option.bind_some]; exact b_eta _) hD hD2 (two_oc (O_sell _) hD hD2)
  · skip
    exact two_of (f := fun D => g_O_cancel D) (fun D hs hR => by unfold g_L_change; rw [ej, Option.bind_some, if_neg (by decide), if_neg (by decide), if_neg (by decide), if_neg (by decide), if_neg (by decide), if_neg (by decide), if_pos (by decide)]; exact b_eta _) hD hD2 (two_oc O_cancel hD hD2)
  · obtain ⟨a, ha, ea⟩ := lowL w (x := 2) 2 rfl (by decide) (by decide)
    obtain ⟨b, hb, eb⟩ := lowL (w >>> 1) (x := 2000) 2000 rfl (by decide) (by decide)
    obtain ⟨c, hc, ec⟩ := lowL (w >>> 12) (x := 3) 3 rfl (by decide) (by decide)
    obtain ⟨d, hd, ed⟩ := lowL (w >>> 14) (x := 100) 100 rfl (by decide) (by decide)
    by_cases ha0 : nI a = 0
    · exact two_of (f := fun D => g_O_close D) (fun D hs hR => by unfold g_L_change; rw [ej, Option.bind_some, if_neg (by decide), if_neg (by decide), if_neg (by decide), if_neg (by decide), if_neg (by decide), if_neg (by decide), if_neg (by decide), if_pos (by decide), ea, Option.bind_some, if_pos ha0]; exact b_eta _) hD hD2 (two_oc O_close hD hD2)
    · by_cases hc0 : nI c = 0
      · exact two_of (f := fun D => g_O_load D (nI b) (nI d)) (fun D hs hR => by unfold g_L_change; rw [ej, Option.bind_some, if_neg (by decide), if_neg (by decide), if_neg (by decide), if_neg (by decide), if_neg (by decide), if_neg (by decide), if_neg (by decide), if_pos (by decide), ea, Option.bind_some, if_neg ha0, eb, Option.bind_some, ec, Option.bind_some, if_pos hc0, ed, Option.bind_some]; exact b_eta _) hD hD2 (two_oc (O_load _ _) hD hD2)
      · exact two_of (f := fun D => g_O_load D (nI b) (nI b)) (fun D hs hR => by unfold g_L_change; rw [ej, Option.bind_some, if_neg (by decide), if_neg (by decide), if_neg (by decide), if_neg (by decide), if_neg (by decide), if_neg (by decide), if_neg (by decide), if_pos (by decide), ea, Option.bind_some, if_neg ha0, eb, Option.bind_some, ec, Option.bind_some, if_neg hc0, Option.bind_some]; exact b_eta _) hD hD2 (two_oc (O_load _ _) hD hD2)
  · obtain ⟨a, ha, ea⟩ := lowL w (x := 4000) 4000 rfl (by decide) (by decide)
    obtain ⟨c, hc, ec⟩ := lowL (w >>> 12) (x := 3) 3 rfl (by decide) (by decide)
    obtain ⟨d, hd, ed⟩ := lowL w (x := 100) 100 rfl (by decide) (by decide)
    by_cases hc0 : nI c = 0
    · exact two_of (f := fun D => g_O_load D (100 + nI a) (100 + nI d)) (fun D hs hR => by unfold g_L_change g_L_change_197; rw [ej, Option.bind_some, if_neg (by decide), if_neg (by decide), if_neg (by decide), if_neg (by decide), if_neg (by decide), if_neg (by decide), if_neg (by decide), if_neg (by decide), if_pos (by decide), ea, Option.bind_some, ec, Option.bind_some, if_pos hc0, ed, Option.bind_some]; exact b_eta _) hD hD2 (two_oc (O_load _ _) hD hD2)
    · exact two_of (f := fun D => g_O_load D (100 + nI a) (100 + nI a)) (fun D hs hR => by unfold g_L_change g_L_change_197; rw [ej, Option.bind_some, if_neg (by decide), if_neg (by decide), if_neg (by decide), if_neg (by decide), if_neg (by decide), if_neg (by decide), if_neg (by decide), if_neg (by decide), if_pos (by decide), ea, Option.bind_some, ec, Option.bind_some, if_neg hc0, Option.bind_some]; exact b_eta _) hD hD2 (two_oc (O_load _ _) hD hD2)
  · obtain ⟨a, ha, ea⟩ := lowL w (x := 4000) 4000 rfl (by decide) (by decide)
    obtain ⟨c, hc, ec⟩ := lowL (w >>> 12) (x := 3) 3 rfl (by decide) (by decide)
    obtain ⟨d, hd, ed⟩ := lowL w (x := 100) 100 rfl (by decide) (by decide)
    by_cases hc0 : nI c = 0
    · exact two_of (f := fun D => g_O_load D (100 + nI a) (100 + nI d)) (fun D hs hR => by unfold g_L_change g_L_change_197; rw [ej, Option.bind_some, if_neg (by decide), if_neg (by decide), if_neg (by decide), if_neg (by decide), if_neg (by decide), if_neg (by decide), if_neg (by decide), if_neg (by decide), if_neg (by decide), if_pos (by decide), ea, Option.bind_some, ec, Option.bind_some, if_pos hc0, ed, Option.bind_some]; exact b_eta _) hD hD2 (two_oc (O_load _ _) hD hD2)
    · exact two_of (f := fun D => g_O_load D (100 + nI a) (100 + nI a)) (fun D hs hR => by unfold g_L_change g_L_change_197; rw [ej, Option.bind_some, if_neg (by decide), if_neg (by decide), if_neg (by decide), if_neg (by decide), if_neg (by decide), if_neg (by decide), if_neg (by decide), if_neg (by decide), if_neg (by decide), if_pos (by decide), ea, Option.bind_some, ec, Option.bind_some, if_neg hc0, Option.bind_some]; exact b_eta _) hD hD2 (two_oc (O_load _ _) hD hD2)
  · obtain ⟨a, ha, ea⟩ := lowL w (x := 2) 2 rfl (by decide) (by decide)
    obtain ⟨b, hb, eb⟩ := lowL (w >>> 1) (x := 12) 12 rfl (by decide) (by decide)
    obtain ⟨c, hc, ec⟩ := lowL (w >>> 1) (x := 60001) 60001 rfl (by decide) (by decide)
    by_cases ha0 : nI a = 0
    · exact two_of (f := fun D => g_O_setClock D (m 122 + nI b)) (fun D hs hR => by unfold g_L_change; rw [ej, Option.bind_some, if_neg (by decide), if_neg (by decide), if_neg (by decide), if_neg (by decide), if_neg (by decide), if_neg (by decide), if_neg (by decide), if_neg (by decide), if_neg (by decide), if_neg (by decide), if_pos (by decide), ea, Option.bind_some, if_pos ha0, show g_O_told D 1 = some (m 122) from O_told hR (j := 1) (by decide), Option.bind_some, eb, Option.bind_some]; exact b_eta _) hD hD2 (two_oc (O_setClock _) hD hD2)
    · exact two_of (f := fun D => g_O_setClock D (nI c)) (fun D hs hR => by unfold g_L_change; rw [ej, Option.bind_some, if_neg (by decide), if_neg (by decide), if_neg (by decide), if_neg (by decide), if_neg (by decide), if_neg (by decide), if_neg (by decide), if_neg (by decide), if_neg (by decide), if_neg (by decide), if_pos (by decide), ea, Option.bind_some, if_neg ha0, ec, Option.bind_some]; exact b_eta _) hD hD2 (two_oc (O_setClock _) hD hD2)
  · obtain ⟨a, ha, ea⟩ := lowL w (x := 600) 600 rfl (by decide) (by decide)
    exact two_of (f := fun D => g_O_pass D (1 + nI a)) (fun D hs hR => by unfold g_L_change; rw [ej, Option.bind_some, if_neg (by decide), if_neg (by decide), if_neg (by decide), if_neg (by decide), if_neg (by decide), if_neg (by decide), if_neg (by decide), if_neg (by decide), if_neg (by decide), if_neg (by decide), if_neg (by decide), if_pos (by decide), ea, Option.bind_some]; exact b_eta _) hD hD2 (two_oc (O_pass _) hD hD2)
  · obtain ⟨a, ha, ea⟩ := lowL w (x := 4) 4 rfl (by decide) (by decide)
    obtain ⟨b, hb, eb⟩ := lowL (w >>> 2) (x := 999) 999 rfl (by decide) (by decide)
    exact two_of (f := fun D => g_O_setPrice D (nI a) (1 + nI b)) (fun D hs hR => by unfold g_L_change; rw [ej, Option.bind_some, if_neg (by decide), if_neg (by decide), if_neg (by decide), if_neg (by decide), if_neg (by decide), if_neg (by decide), if_neg (by decide), if_neg (by decide), if_neg (by decide), if_neg (by decide), if_neg (by decide), if_neg (by decide), if_pos (by decide), ea, Option.bind_some, eb, Option.bind_some]; exact b_eta _) hD hD2 (two_oc (O_setPrice _ _) hD hD2)
  · obtain ⟨a, ha, ea⟩ := lowL w (x := 3) 3 rfl (by decide) (by decide)
    obtain ⟨b, hb, eb⟩ := lowL (w >>> 2) (x := 25) 25 rfl (by decide) (by decide)
    by_cases ha0 : nI a = 0
    · exact two_of (f := fun D => g_O_cut D (-1)) (fun D hs hR => by unfold g_L_change; rw [ej, Option.bind_some, if_neg (by decide), if_neg (by decide), if_neg (by decide), if_neg (by decide), if_neg (by decide), if_neg (by decide), if_neg (by decide), if_neg (by decide), if_neg (by decide), if_neg (by decide), if_neg (by decide), if_neg (by decide), if_neg (by decide), if_pos (by decide), ea, Option.bind_some, if_pos ha0]; exact b_eta _) hD hD2 (two_oc (O_cut _) hD hD2)
    · exact two_of (f := fun D => g_O_cut D (nI b)) (fun D hs hR => by unfold g_L_change; rw [ej, Option.bind_some, if_neg (by decide), if_neg (by decide), if_neg (by decide), if_neg (by decide), if_neg (by decide), if_neg (by decide), if_neg (by decide), if_neg (by decide), if_neg (by decide), if_neg (by decide), if_neg (by decide), if_neg (by decide), if_neg (by decide), if_pos (by decide), ea, Option.bind_some, if_neg ha0, eb, Option.bind_some]; exact b_eta _) hD hD2 (two_oc (O_cut _) hD hD2)
  · obtain ⟨a, ha, ea⟩ := lowL w (x := 2) 2 rfl (by decide) (by decide)
    by_cases ha0 : nI a = 0
    · exact two_of (f := fun D => g_O_off D) (fun D hs hR => by unfold g_L_change; rw [ej, Option.bind_some, if_neg (by decide), if_neg (by decide), if_neg (by decide), if_neg (by decide), if_neg (by decide), if_neg (by decide), if_neg (by decide), if_neg (by decide), if_neg (by decide), if_neg (by decide), if_neg (by decide), if_neg (by decide), if_neg (by decide), if_neg (by decide), if_pos (by decide), ea, Option.bind_some, if_pos ha0]; exact b_eta _) hD hD2 (two_oc O_off hD hD2)
    · exact two_of (f := fun D => g_O_start D) (fun D hs hR => by unfold g_L_change; rw [ej, Option.bind_some, if_neg (by decide), if_neg (by decide), if_neg (by decide), if_neg (by decide), if_neg (by decide), if_neg (by decide), if_neg (by decide), if_neg (by decide), if_neg (by decide), if_neg (by decide), if_neg (by decide), if_neg (by decide), if_neg (by decide), if_neg (by decide), if_pos (by decide), ea, Option.bind_some, if_neg ha0]; exact b_eta _) hD hD2 (two_oc O_start hD hD2)
  · exact absurd rfl h15
  · obtain ⟨a, ha, ea⟩ := lowL w (x := 3) 3 rfl (by decide) (by decide)
    obtain ⟨b, hb, eb⟩ := lowL (w >>> 2) (x := 2) 2 rfl (by decide) (by decide)
    by_cases ha0 : nI a = 0
    · exact two_of (f := fun D => g_O_keep D (nI b)) (fun D hs hR => by unfold g_L_change; rw [ej, Option.bind_some, if_neg (by decide), if_neg (by decide), if_neg (by decide), if_neg (by decide), if_neg (by decide), if_neg (by decide), if_neg (by decide), if_neg (by decide), if_neg (by decide), if_neg (by decide), if_neg (by decide), if_neg (by decide), if_neg (by decide), if_neg (by decide), if_neg (by decide), if_neg (by decide), if_pos (by decide), ea, Option.bind_some, if_pos ha0, eb, Option.bind_some]; exact b_eta _) hD hD2 (two_keep _ hD hD2)
    · by_cases ha1 : nI a = 1
      · exact two_of (f := fun D => g_O_back D (nI b)) (fun D hs hR => by unfold g_L_change; rw [ej, Option.bind_some, if_neg (by decide), if_neg (by decide), if_neg (by decide), if_neg (by decide), if_neg (by decide), if_neg (by decide), if_neg (by decide), if_neg (by decide), if_neg (by decide), if_neg (by decide), if_neg (by decide), if_neg (by decide), if_neg (by decide), if_neg (by decide), if_neg (by decide), if_neg (by decide), if_pos (by decide), ea, Option.bind_some, if_neg ha0, Option.bind_some, if_pos ha1, eb, Option.bind_some]; exact b_eta _) hD hD2 (two_oc (O_back _) hD hD2)
      · exact two_of (f := fun D => g_O_start D) (fun D hs hR => by unfold g_L_change; rw [ej, Option.bind_some, if_neg (by decide), if_neg (by decide), if_neg (by decide), if_neg (by decide), if_neg (by decide), if_neg (by decide), if_neg (by decide), if_neg (by decide), if_neg (by decide), if_neg (by decide), if_neg (by decide), if_neg (by decide), if_neg (by decide), if_neg (by decide), if_neg (by decide), if_neg (by decide), if_pos (by decide), ea, Option.bind_some, if_neg ha0, Option.bind_some, if_neg ha1]; exact b_eta _) hD hD2 (two_oc O_start hD hD2)
  · exact two_of (f := fun D => g_O_start D) (fun D hs hR => by unfold g_L_change; rw [ej, Option.bind_some, if_neg (by decide), if_neg (by decide), if_neg (by decide), if_neg (by decide), if_neg (by decide), if_neg (by decide), if_neg (by decide), if_neg (by decide), if_neg (by decide), if_neg (by decide), if_neg (by decide), if_neg (by decide), if_neg (by decide), if_neg (by decide), if_neg (by decide), if_neg (by decide), if_neg (by decide)]; exact b_eta _) hD hD2 (two_oc O_start hD hD2)
theorem IV_mem {o : Row} (h1 : IV m) (h2 : IV o) (on1 : m 115 = 1) (on2 : o 115 = 1) (low : ∀ i, i < 110 → o i = m i) : ∀ i, 116 ≤ i → i ≤ 121 → o i = m i := by
  obtain ⟨B, S, k, nu, su, ti, pa, hI, d0, d1, dr, -⟩ := onX h1 on1
  obtain ⟨B2, S2, k2, nu2, su2, ti2, pa2, hI2, c0, c1, cr, -⟩ := onX h2 on2
  have hB : B2 = B := Option.some.inj ((nw_of hI2).symm.trans (nw_of (hI.congr low)))
  subst hB
  rw [nxp_low hI.1 low] at c1
  rw [rp_low hI.1 low] at cr
  obtain ⟨e1, e2, e3, e4⟩ := rs_1 (cr.trans dr.symm)
  intro i h1 h2
  rcases (show i = 116 ∨ i = 117 ∨ i = 118 ∨ i = 119 ∨ i = 120 ∨ i = 121 by omega) with rfl | rfl | rfl | rfl | rfl | rfl
  · rw [c0, d0]
  · rw [c1, d1]
  · exact e1
  · exact e2
  · exact e3
  · exact e4
theorem RO.sta (h : RO D m hs im) (off : m 115 = 0) : ∃ (m' : Row) (D' : TD), g_X7_readMemory m = some m' ∧ g_O_start D = some (m' 118, D') ∧ RO D' m' (rem8 hs m) im ∧ IV m' ∧ m' 115 = 1 ∧ ∀ i, i < 110 → m' i = m i := by
  obtain ⟨me', m2, a1, a2, a3, a4, a5, a6⟩ := wakF h.1.1 h.1.2
  obtain ⟨r, bb, m', D', b1, b2, b3⟩ := O_start D hs h
  unfold spSta at b1
  rw [if_pos off, a2, Option.bind_some] at b1
  obtain ⟨e1, e2⟩ := Prod.mk.inj (Option.some.inj b1)
  obtain ⟨e2, e3⟩ := Prod.mk.inj e2
  subst e1 e2 e3
  exact ⟨m2, D', a2, b2, b3, a4, a5, a6⟩
theorem RO.offS (h : RO D m hs im) (on : m 115 = 1) : ∃ D', g_O_off D = some (tl5 m (ff m (-1)), D') ∧ RO D' (upd m 115 0) (rem8 hs m) im := by
  obtain ⟨r, bb, m', D', b1, b2, b3⟩ := O_off D hs h
  unfold spOff at b1
  rw [if_neg (by rw [on]; decide)] at b1
  obtain ⟨e1, e2⟩ := Prod.mk.inj (Option.some.inj b1)
  obtain ⟨e2, e3⟩ := Prod.mk.inj e2
  subst e1 e2 e3
  exact ⟨D', b2, b3⟩
theorem RO.rem2 {a b : Row} {D : TD} {m : Row} (h : RO D m (rem8 (rem8 hs a) b) im) (hl : hs.length ≤ 8) : ∃ h' : List Row, RO D m (h' ++ [a] ++ [b]) im ∧ rem8 (rem8 hs a) b = h' ++ [a] ++ [b] ∧ (h' ++ [a] ++ [b]).length ≤ 8 := by
  obtain ⟨h1, e1, l1⟩ := rem8_app (m := a) (hs := hs) [] (by simpa using hl) (by decide)
  simp only [List.append_nil, List.nil_append] at e1 l1
  obtain ⟨h2, e2, l2⟩ := rem8_app (m := b) (hs := h1) [a] l1 (by simp)
  rw [e1, e2] at h
  refine ⟨h2, by simpa using h, by rw [e1, e2]; simp, ?_⟩
  simp only [List.length_append, List.length_cons, List.length_nil] at l2 ⊢
  omega
set_option maxHeartbeats 1000000 in
theorem knF (h : RO D m hs im) : ∃ (D' : TD) (hs' : List Row), g_L_isKnown D = some (1, D') ∧ RO D' m hs' im := by
  have T : ∀ {D : TD} {m : Row} {hs : List Row}, RO D m hs im → g_O_told D 0 = some (m 115) ∧ g_O_told D 2 = some (if m 115 = 0 then -9 else m 118) ∧ g_O_told D 3 = some (if m 115 = 0 then -9 else m 119) ∧ g_O_told D 4 = some (if m 115 = 0 then -9 else m 120) ∧ g_O_told D 5 = some (if m 115 = 0 then -9 else m 121) ∧ g_O_told D 6 = some (if m 115 = 0 then -9 else m 116) ∧ g_O_told D 7 = some (if m 115 = 0 then -9 else m 117) := fun h => ⟨O_told h (j := 0) (by decide), O_told h (j := 2) (by decide), O_told h (j := 3) (by decide), O_told h (j := 4) (by decide), O_told h (j := 5) (by decide), O_told h (j := 6) (by decide), O_told h (j := 7) (by decide)⟩
  obtain ⟨t0, t2, t3, t4, t5, t6, t7⟩ := T h
  unfold g_L_isKnown
  rw [t0, t2, t3, t4, t5, t6, t7]
  simp only [Option.bind_some]
  rcases h.1.2.2.1 with off | on
  · obtain ⟨r, bb, m', D', b1, b2, b3⟩ := O_off D hs h
    unfold spOff at b1
    rw [if_pos off] at b1
    obtain ⟨e1, e2⟩ := Prod.mk.inj (Option.some.inj b1)
    obtain ⟨e2, e3⟩ := Prod.mk.inj e2
    subst e1 e2 e3
    replace b2 : g_O_off D = some (-2, D') := b2
    rw [if_pos off]
    simp only [if_pos off, if_true]
    rw [b2, Option.bind_some, if_pos rfl]
    exact ⟨D', hs, rfl, b3⟩
  · have on0 : ¬ m 115 = 0 := by rw [on]; decide
    simp only [if_neg on0]
    rw [(O_recs h).1, Option.bind_some]
    obtain ⟨r, bb, m', D1, b1, b2, b3⟩ := O_start D hs h
    unfold spSta at b1
    rw [if_neg on0] at b1
    obtain ⟨e1, e2⟩ := Prod.mk.inj (Option.some.inj b1)
    obtain ⟨e2, e3⟩ := Prod.mk.inj e2
    subst e1 e2 e3
    replace b2 : g_O_start D = some (-2, D1) := b2
    replace b3 : RO D1 m hs im := b3
    dsimp only
    rw [b2, Option.bind_some, if_pos rfl]
    obtain ⟨D3, c1, c2⟩ := b3.offS on
    dsimp only
    rw [c1, Option.bind_some, if_pos rfl]
    have off' : (upd m 115 0) 115 = 0 := pk_us
    obtain ⟨o, D4, d1, d2, d3, d4, d5, d6⟩ := c2.sta off'
    dsimp only
    rw [d2, Option.bind_some]
    have mem := IV_mem h.1.2 d4 on d5 (fun i hi => (d6 i hi).trans (pk_un (by omega)))
    have o0 : ¬ o 115 = 0 := by rw [d5]; decide
    obtain ⟨-, -, s3, s4, s5, s6, s7⟩ := T d3
    simp only [if_neg o0] at s3 s4 s5 s6 s7
    dsimp only
    rw [s3, s4, s5, s6, s7]
    simp only [Option.bind_some]
    rw [mem 118 (by decide) (by decide), mem 119 (by decide) (by decide), mem 120 (by decide) (by decide), mem 121 (by decide) (by decide), mem 116 (by decide) (by decide), mem 117 (by decide) (by decide)]
    simp only [if_true]
    obtain ⟨h', f1, f2, f3⟩ := d3.rem2 h.len
    simp only [List.length_append, List.length_cons, List.length_nil] at f3
    obtain ⟨D5, u1, u2⟩ := O_undo (h.2.1.congr (fun i hi => pk_un (by omega)) : WI (upd m 115 0)) f1
    obtain ⟨D6, v1, v2⟩ := O_undo h.2.1 u2
    unfold g_L_isKnown_173
    rw [if_neg i1ne, u1, Option.bind_some]
    dsimp only
    rw [if_neg (nI_neg (by simp only [List.length_append, List.length_cons, List.length_nil]; omega)), v1, Option.bind_some]
    dsimp only
    rw [if_neg (nI_neg (by omega))]
    exact ⟨D6, h', rfl, v2⟩
end LC

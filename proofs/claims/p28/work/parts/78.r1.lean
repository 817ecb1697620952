-- a ticket journal and what it stands for: its row, the rows that it remembers, its images
section RR
variable {D : TD} {m : Row} {hs : List Row} {im : Nat → Option Row}
def RO (D : TD) (m : Row) (hs : List Row) (im : Nat → Option Row) : Prop := PI D.1.1 D.1.2.1 D.1.2.2.1 D.1.2.2.2.1 D.1.2.2.2.2.1 D.1.2.2.2.2.2 m ∧ WI m ∧ PH D.2.2.2.1.1 D.2.2.2.1.2.1 D.2.2.2.1.2.2.1 D.2.2.2.1.2.2.2.1 D.2.2.2.1.2.2.2.2.1 D.2.2.2.1.2.2.2.2.2.1 D.2.2.2.1.2.2.2.2.2.2 hs ∧ IMr D.2.2.2.2.1 D.2.2.2.2.2.1 D.2.2.2.2.2.2.1 D.2.2.2.2.2.2.2.1 D.2.2.2.2.2.2.2.2.1 D.2.2.2.2.2.2.2.2.2.1 D.2.2.2.2.2.2.2.2.2.2 im
/-- a change of the face over a bundle -/
def OC (f : TD → Option (Int32 × TD)) (sp : SPo) (m : Row) (im : Nat → Option Row) : Prop := ∀ (D : TD) (hs : List Row), RO D m hs im → ∃ (r : Int32) (bb : Bool) (m' : Row) (D' : TD), sp = some (r, m', bb) ∧ f D = some (r, D') ∧ RO D' m' (hz bb hs m) im
theorem O_sell (n1 : Int32) : OC (fun D => g_O_sell D n1) (spSell m n1) m im := by
  rintro D hs ⟨hP, hW, hH, hI⟩
  obtain ⟨r, bb, w', er', fl', me', pr', pv', W', E', F', M', P', R', m', e1, e2, e3, e4⟩ := sellH hH hP n1
  exact ⟨r, bb, m', ((w', er', fl', me', D.1.2.2.2.2.1, pr'), (D.2.1.1, D.2.1.2.1, D.2.1.2.2.1, D.2.1.2.2.2.1, D.2.1.2.2.2.2.1, D.2.1.2.2.2.2.2), (D.2.2.1.1, D.2.2.1.2), (pv', (W', E', F', M', P', R')), (D.2.2.2.2.1, (D.2.2.2.2.2.1, D.2.2.2.2.2.2.1, D.2.2.2.2.2.2.2.1, D.2.2.2.2.2.2.2.2.1, D.2.2.2.2.2.2.2.2.2.1, D.2.2.2.2.2.2.2.2.2.2))), e2, by show Option.map _ _ = _; rw [e1]; rfl, e3, sellW hP e2 hW, e4, hI⟩
theorem O_cancel : OC (fun D => g_O_cancel D) (spCan m) m im := by
  rintro D hs ⟨hP, hW, hH, hI⟩
  obtain ⟨r, bb, w', er', fl', me', pr', pv', W', E', F', M', P', R', m', e1, e2, e3, e4⟩ := cancelH hH hP
  exact ⟨r, bb, m', ((w', er', fl', me', D.1.2.2.2.2.1, pr'), (D.2.1.1, D.2.1.2.1, D.2.1.2.2.1, D.2.1.2.2.2.1, D.2.1.2.2.2.2.1, D.2.1.2.2.2.2.2), (D.2.2.1.1, D.2.2.1.2), (pv', (W', E', F', M', P', R')), (D.2.2.2.2.1, (D.2.2.2.2.2.1, D.2.2.2.2.2.2.1, D.2.2.2.2.2.2.2.1, D.2.2.2.2.2.2.2.2.1, D.2.2.2.2.2.2.2.2.2.1, D.2.2.2.2.2.2.2.2.2.2))), e2, by show Option.map _ _ = _; rw [e1]; rfl, e3, caW hP e2 hW, e4, hI⟩
theorem O_close : OC (fun D => g_O_close D) (spClo m) m im := by
  rintro D hs ⟨hP, hW, hH, hI⟩
  obtain ⟨r, bb, w', er', fl', me', pr', pv', W', E', F', M', P', R', m', e1, e2, e3, e4⟩ := closeH hH hP
  exact ⟨r, bb, m', ((w', er', fl', me', D.1.2.2.2.2.1, pr'), (D.2.1.1, D.2.1.2.1, D.2.1.2.2.1, D.2.1.2.2.2.1, D.2.1.2.2.2.2.1, D.2.1.2.2.2.2.2), (D.2.2.1.1, D.2.2.1.2), (pv', (W', E', F', M', P', R')), (D.2.2.2.2.1, (D.2.2.2.2.2.1, D.2.2.2.2.2.2.1, D.2.2.2.2.2.2.2.1, D.2.2.2.2.2.2.2.2.1, D.2.2.2.2.2.2.2.2.2.1, D.2.2.2.2.2.2.2.2.2.2))), e2, by show Option.map _ _ = _; rw [e1]; rfl, e3, clW hP e2 hW, e4, hI⟩
theorem O_load (n1 n2 : Int32) : OC (fun D => g_O_load D n1 n2) (spLoa m n1 n2) m im := by
  rintro D hs ⟨hP, hW, hH, hI⟩
  obtain ⟨r, bb, w', er', fl', me', pr', pv', W', E', F', M', P', R', m', e1, e2, e3, e4⟩ := loadH hH hP n1 n2
  exact ⟨r, bb, m', ((w', er', fl', me', D.1.2.2.2.2.1, pr'), (D.2.1.1, D.2.1.2.1, D.2.1.2.2.1, D.2.1.2.2.2.1, D.2.1.2.2.2.2.1, D.2.1.2.2.2.2.2), (D.2.2.1.1, D.2.2.1.2), (pv', (W', E', F', M', P', R')), (D.2.2.2.2.1, (D.2.2.2.2.2.1, D.2.2.2.2.2.2.1, D.2.2.2.2.2.2.2.1, D.2.2.2.2.2.2.2.2.1, D.2.2.2.2.2.2.2.2.2.1, D.2.2.2.2.2.2.2.2.2.2))), e2, by show Option.map _ _ = _; rw [e1]; rfl, e3, loW hP e2 hW, e4, hI⟩
theorem O_setClock (n1 : Int32) : OC (fun D => g_O_setClock D n1) (spClk m n1) m im := by
  rintro D hs ⟨hP, hW, hH, hI⟩
  obtain ⟨r, bb, w', er', fl', me', pr', pv', W', E', F', M', P', R', m', e1, e2, e3, e4⟩ := clockH hH hP n1
  exact ⟨r, bb, m', ((w', er', fl', me', D.1.2.2.2.2.1, pr'), (D.2.1.1, D.2.1.2.1, D.2.1.2.2.1, D.2.1.2.2.2.1, D.2.1.2.2.2.2.1, D.2.1.2.2.2.2.2), (D.2.2.1.1, D.2.2.1.2), (pv', (W', E', F', M', P', R')), (D.2.2.2.2.1, (D.2.2.2.2.2.1, D.2.2.2.2.2.2.1, D.2.2.2.2.2.2.2.1, D.2.2.2.2.2.2.2.2.1, D.2.2.2.2.2.2.2.2.2.1, D.2.2.2.2.2.2.2.2.2.2))), e2, by show Option.map _ _ = _; rw [e1]; rfl, e3, ckW hP e2 hW, e4, hI⟩
theorem O_pass (n1 : Int32) : OC (fun D => g_O_pass D n1) (spPas m n1) m im := by
  rintro D hs ⟨hP, hW, hH, hI⟩
  obtain ⟨r, bb, pr', pv', W', E', F', M', P', R', m', e1, e2, e3, e4⟩ := passH hH hP n1
  exact ⟨r, bb, m', ((D.1.1, D.1.2.1, D.1.2.2.1, D.1.2.2.2.1, D.1.2.2.2.2.1, pr'), (D.2.1.1, D.2.1.2.1, D.2.1.2.2.1, D.2.1.2.2.2.1, D.2.1.2.2.2.2.1, D.2.1.2.2.2.2.2), (D.2.2.1.1, D.2.2.1.2), (pv', (W', E', F', M', P', R')), (D.2.2.2.2.1, (D.2.2.2.2.2.1, D.2.2.2.2.2.2.1, D.2.2.2.2.2.2.2.1, D.2.2.2.2.2.2.2.2.1, D.2.2.2.2.2.2.2.2.2.1, D.2.2.2.2.2.2.2.2.2.2))), e2, by show Option.map _ _ = _; rw [e1]; rfl, e3, paW e2 hW, e4, hI⟩
theorem O_setPrice (n1 n2 : Int32) : OC (fun D => g_O_setPrice D n1 n2) (spPri m n1 n2) m im := by
  rintro D hs ⟨hP, hW, hH, hI⟩
  obtain ⟨r, bb, p', pv', W', E', F', M', P', R', m', e1, e2, e3, e4⟩ := priceH hH hP n1 n2
  exact ⟨r, bb, m', ((D.1.1, D.1.2.1, D.1.2.2.1, D.1.2.2.2.1, p', D.1.2.2.2.2.2), (D.2.1.1, D.2.1.2.1, D.2.1.2.2.1, D.2.1.2.2.2.1, D.2.1.2.2.2.2.1, D.2.1.2.2.2.2.2), (D.2.2.1.1, D.2.2.1.2), (pv', (W', E', F', M', P', R')), (D.2.2.2.2.1, (D.2.2.2.2.2.1, D.2.2.2.2.2.2.1, D.2.2.2.2.2.2.2.1, D.2.2.2.2.2.2.2.2.1, D.2.2.2.2.2.2.2.2.2.1, D.2.2.2.2.2.2.2.2.2.2))), e2, by show Option.map _ _ = _; rw [e1]; rfl, e3, prW2 e2 hW, e4, hI⟩
theorem O_cut (n1 : Int32) : OC (fun D => g_O_cut D n1) (spCut m n1) m im := by
  rintro D hs ⟨hP, hW, hH, hI⟩
  obtain ⟨r, bb, fl', pv', W', E', F', M', P', R', m', e1, e2, e3, e4⟩ := cutH hH hP n1
  exact ⟨r, bb, m', ((D.1.1, D.1.2.1, fl', D.1.2.2.2.1, D.1.2.2.2.2.1, D.1.2.2.2.2.2), (D.2.1.1, D.2.1.2.1, D.2.1.2.2.1, D.2.1.2.2.2.1, D.2.1.2.2.2.2.1, D.2.1.2.2.2.2.2), (D.2.2.1.1, D.2.2.1.2), (pv', (W', E', F', M', P', R')), (D.2.2.2.2.1, (D.2.2.2.2.2.1, D.2.2.2.2.2.2.1, D.2.2.2.2.2.2.2.1, D.2.2.2.2.2.2.2.2.1, D.2.2.2.2.2.2.2.2.2.1, D.2.2.2.2.2.2.2.2.2.2))), e2, by show Option.map _ _ = _; rw [e1]; rfl, e3, cuW e2 hW, e4, hI⟩
theorem O_off : OC (fun D => g_O_off D) (spOff m) m im := by
  rintro D hs ⟨hP, hW, hH, hI⟩
  obtain ⟨r, bb, me', pr', pv', W', E', F', M', P', R', m', e1, e2, e3, e4⟩ := offH hH hP
  exact ⟨r, bb, m', ((D.1.1, D.1.2.1, D.1.2.2.1, me', D.1.2.2.2.2.1, pr'), (D.2.1.1, D.2.1.2.1, D.2.1.2.2.1, D.2.1.2.2.2.1, D.2.1.2.2.2.2.1, D.2.1.2.2.2.2.2), (D.2.2.1.1, D.2.2.1.2), (pv', (W', E', F', M', P', R')), (D.2.2.2.2.1, (D.2.2.2.2.2.1, D.2.2.2.2.2.2.1, D.2.2.2.2.2.2.2.1, D.2.2.2.2.2.2.2.2.1, D.2.2.2.2.2.2.2.2.2.1, D.2.2.2.2.2.2.2.2.2.2))), e2, by show Option.map _ _ = _; rw [e1]; rfl, e3, ofW e2 hW, e4, hI⟩
theorem O_start : OC (fun D => g_O_start D) (spSta m) m im := by
  rintro D hs ⟨hP, hW, hH, hI⟩
  obtain ⟨r, bb, me', pr', pv', W', E', F', M', P', R', m', e1, e2, e3, e4⟩ := startH hH hP
  exact ⟨r, bb, m', ((D.1.1, D.1.2.1, D.1.2.2.1, me', D.1.2.2.2.2.1, pr'), (D.2.1.1, D.2.1.2.1, D.2.1.2.2.1, D.2.1.2.2.2.1, D.2.1.2.2.2.2.1, D.2.1.2.2.2.2.2), (D.2.2.1.1, D.2.2.1.2), (pv', (W', E', F', M', P', R')), (D.2.2.2.2.1, (D.2.2.2.2.2.1, D.2.2.2.2.2.2.1, D.2.2.2.2.2.2.2.1, D.2.2.2.2.2.2.2.2.1, D.2.2.2.2.2.2.2.2.2.1, D.2.2.2.2.2.2.2.2.2.2))), e2, by show Option.map _ _ = _; rw [e1]; rfl, e3, stW hP e2 hW, e4, hI⟩
theorem O_back (n1 : Int32) : OC (fun D => g_O_back D n1) (spBack m im n1) m im := by
  rintro D hs ⟨hP, hW, hH, hI⟩
  obtain ⟨r, bb, w', er', fl', me', p', pr', pv', W', E', F', M', P', R', m', e1, e2, e3, e4, e5⟩ := backH hH hI hP hW n1
  exact ⟨r, bb, m', ((w', er', fl', me', p', pr'), (D.2.1.1, D.2.1.2.1, D.2.1.2.2.1, D.2.1.2.2.2.1, D.2.1.2.2.2.2.1, D.2.1.2.2.2.2.2), (D.2.2.1.1, D.2.2.1.2), (pv', (W', E', F', M', P', R')), (D.2.2.2.2.1, (D.2.2.2.2.2.1, D.2.2.2.2.2.2.1, D.2.2.2.2.2.2.2.1, D.2.2.2.2.2.2.2.2.1, D.2.2.2.2.2.2.2.2.2.1, D.2.2.2.2.2.2.2.2.2.2))), e2, by show Option.map _ _ = _; rw [e1]; rfl, e3, e5, e4, hI⟩
theorem O_keep (n1 : Int32) (h : RO D m hs im) : ∃ (r : Int32) (im' : Nat → Option Row) (D' : TD), spKeep m im n1 = some (r, im') ∧ g_O_keep D n1 = some (r, D') ∧ RO D' m hs im' := by
  obtain ⟨hP, hW, hH, hI⟩ := h
  obtain ⟨r, fi', W', E', F', M', P', R', im', e1, e2, e3⟩ := keepH hI hP hW n1
  exact ⟨r, im', ((D.1.1, D.1.2.1, D.1.2.2.1, D.1.2.2.2.1, D.1.2.2.2.2.1, D.1.2.2.2.2.2), (D.2.1.1, D.2.1.2.1, D.2.1.2.2.1, D.2.1.2.2.2.1, D.2.1.2.2.2.2.1, D.2.1.2.2.2.2.2), (D.2.2.1.1, D.2.2.1.2), (D.2.2.2.1.1, (D.2.2.2.1.2.1, D.2.2.2.1.2.2.1, D.2.2.2.1.2.2.2.1, D.2.2.2.1.2.2.2.2.1, D.2.2.2.1.2.2.2.2.2.1, D.2.2.2.1.2.2.2.2.2.2)), (fi', (W', E', F', M', P', R'))), e2, by show Option.map _ _ = _; rw [e1]; rfl, hP, hW, hH, e3⟩
theorem O_undo {x : Row} (hx : WI x) (h : RO D m (hs ++ [x]) im) : ∃ D' : TD, g_O_undo D = some (nI hs.length, D') ∧ RO D' x hs im := by
  obtain ⟨hP, hW, hH, hI⟩ := h
  obtain ⟨w', er', fl', me', p', pr', pv', e1, e2, e3⟩ := undoH hH D.1.1 D.1.2.1 D.1.2.2.1 D.1.2.2.2.1 D.1.2.2.2.2.1 D.1.2.2.2.2.2
  exact ⟨((w', er', fl', me', p', pr'), (D.2.1.1, D.2.1.2.1, D.2.1.2.2.1, D.2.1.2.2.2.1, D.2.1.2.2.2.2.1, D.2.1.2.2.2.2.2), (D.2.2.1.1, D.2.2.1.2), (pv', (D.2.2.2.1.2.1, D.2.2.2.1.2.2.1, D.2.2.2.1.2.2.2.1, D.2.2.2.1.2.2.2.2.1, D.2.2.2.1.2.2.2.2.2.1, D.2.2.2.1.2.2.2.2.2.2)), (D.2.2.2.2.1, (D.2.2.2.2.2.1, D.2.2.2.2.2.2.1, D.2.2.2.2.2.2.2.1, D.2.2.2.2.2.2.2.2.1, D.2.2.2.2.2.2.2.2.2.1, D.2.2.2.2.2.2.2.2.2.2))), by show Option.map _ _ = _; rw [e1]; rfl, e2, hx, e3, hI⟩
theorem RO.len (h : RO D m hs im) : hs.length ≤ 8 := by
  obtain ⟨-, -, ⟨O, -, h2, -⟩, -⟩ := h
  exact h2
-- what is told
/-- what told() answers, but for the changes that can be undone -/
def tld (m : Row) : Nat → Int32
  | 0 => m 115
  | 1 => m 122
  | 2 => if m 115 = 0 then -9 else m 118
  | 3 => if m 115 = 0 then -9 else m 119
  | 4 => if m 115 = 0 then -9 else m 120
  | 5 => if m 115 = 0 then -9 else m 121
  | 6 => if m 115 = 0 then -9 else m 116
  | 7 => if m 115 = 0 then -9 else m 117
  | 8 => m 123
  | 9 => m 124
  | 10 => m 125
  | _ => m 126
theorem O_told (h : RO D m hs im) {j : Nat} (hj : j < 12) : g_O_told D (nI j) = some (tld m j) := by
  obtain ⟨⟨⟨⟨f1, f2, f3, f4, f5⟩, hp, p0, p1, p2, p3, hm⟩, hV⟩, -, ⟨O, -, -, -, h4, -⟩, -⟩ := h
  unfold g_O_told g_X6_told g_X6_knownNumber
  rw [iw0, p0, p1, p2, p3, f3, f4, h4]
  simp only [Option.bind_some]
  rcases hV.2.1 with on | on
  · rw [on]
    rcases (show j = 0 ∨ j = 1 ∨ j = 2 ∨ j = 3 ∨ j = 4 ∨ j = 5 ∨ j = 6 ∨ j = 7 ∨ j = 8 ∨ j = 9 ∨ j = 10 ∨ j = 11 by omega) with rfl | rfl | rfl | rfl | rfl | rfl | rfl | rfl | rfl | rfl | rfl | rfl
    · show some (0 : Int32) = some (m 115); rw [on]
    · rfl
    · show some (-9 : Int32) = some (if m 115 = 0 then -9 else m 118); rw [if_pos on]
    · show some (-9 : Int32) = some (if m 115 = 0 then -9 else m 119); rw [if_pos on]
    · show some (-9 : Int32) = some (if m 115 = 0 then -9 else m 120); rw [if_pos on]
    · show some (-9 : Int32) = some (if m 115 = 0 then -9 else m 121); rw [if_pos on]
    · show some (-9 : Int32) = some (if m 115 = 0 then -9 else m 116); rw [if_pos on]
    · show some (-9 : Int32) = some (if m 115 = 0 then -9 else m 117); rw [if_pos on]
    · rfl
    · rfl
    · rfl
    · rfl
  · obtain ⟨a0, a1, a2, a3, a4, a5⟩ := hm on
    have on0 : ¬ m 115 = 0 := by rw [on]; decide
    rw [a0, a1, a2, a3, a4, a5, on]
    rcases (show j = 0 ∨ j = 1 ∨ j = 2 ∨ j = 3 ∨ j = 4 ∨ j = 5 ∨ j = 6 ∨ j = 7 ∨ j = 8 ∨ j = 9 ∨ j = 10 ∨ j = 11 by omega) with rfl | rfl | rfl | rfl | rfl | rfl | rfl | rfl | rfl | rfl | rfl | rfl
    · show some (1 : Int32) = some (m 115); rw [on]
    · rfl
    · show some (m 118) = some (if m 115 = 0 then -9 else m 118); rw [if_neg on0]
    · show some (m 119) = some (if m 115 = 0 then -9 else m 119); rw [if_neg on0]
    · show some (m 120) = some (if m 115 = 0 then -9 else m 120); rw [if_neg on0]
    · show some (m 121) = some (if m 115 = 0 then -9 else m 121); rw [if_neg on0]
    · show some (m 116) = some (if m 115 = 0 then -9 else m 116); rw [if_neg on0]
    · show some (m 117) = some (if m 115 = 0 then -9 else m 117); rw [if_neg on0]
    · rfl
    · rfl
    · rfl
    · rfl
theorem inI_t {j h : Nat} {M : Int32} (hM : M.toInt = h) (hj : j ≤ h) (hh : h < 2 ^ 31) : inI (nI j) 0 M = true := by
  unfold inI
  rw [decide_eq_false (nI_neg (by omega)), decide_eq_false (show ¬ M < nI j by rw [Int32.lt_iff_toInt_lt, hM, nI_toInt (by omega)]; omega)]
  rfl
theorem O_word (h : RO D m hs im) {b k : Nat} (hb : b < 5) (hk : k < 22) : g_O_word D (nI b) (nI k) = some (m (22 * b + k)) := by
  unfold g_O_word g_X6_word g_X6_word_32
  rw [ib0, iw0, inI_t (h := 4) (by decide) (by omega) (by decide), inI_t (h := 21) (by decide) (by omega) (by decide)]
  simp only [Option.bind_some]
  rw [bT rfl, if_neg i1ne, if_neg i1ne, read_nI hb hk, h.1.1.1.1 _ (by omega)]
  rfl
theorem O_word5 : g_O_word D 5 0 = some (-1) := by
  unfold g_O_word g_X6_word g_X6_word_32
  rw [ib0, show inI 5 0 4 = false by decide]
  simp only [Option.bind_some]
  rw [bF rfl, if_pos rfl]
theorem tl_eq {w : Row} {b : Nat} {f g : Nat → Nat → Bool} (h1 : wh w b = wh m b) (h2 : ∀ q, q < 4 → f b q = g b q) : tl w f b = tl m g b := by
  unfold tl cn4
  rw [h1, h2 0 (by decide), h2 1 (by decide), h2 2 (by decide), h2 3 (by decide)]
theorem O_block (h : RO D m hs im) {b : Nat} (hb5 : b < 5) : g_O_block D (nI b) 0 = some (b2i (wh m b)) ∧ g_O_block D (nI b) 1 = some (if wh m b = true then m (22 * b) else -9) ∧ g_O_block D (nI b) 2 = some (tl m (ff m (-1)) b) ∧ g_O_block D (nI b) 3 = some (tl m (ff m (-2)) b) := by
  have hw := h.1.1.1.1
  have t1 : tl D.1.1 (fun b q => sto D.1.1 b q == 1) b = tl m (ff m (-1)) b := tl_eq (wh_low hw hb5) (fun q hq => by rw [sto_low hw hb5 hq]; exact sto_1)
  have t2 : tl D.1.1 (fun b q => sto D.1.1 b q == 2) b = tl m (ff m (-2)) b := tl_eq (wh_low hw hb5) (fun q hq => by rw [sto_low hw hb5 hq]; exact sto_2)
  unfold g_O_block g_X6_block
  rw [ib0, inI_t (h := 4) (by decide) (by omega) (by decide), wh0 hb5, wh_low hw hb5, read_0 hb5, hw _ (by omega), ti0 hb5, ti0 hb5, t1, t2]
  simp only [Option.bind_some]
  rw [bT rfl]
  refine ⟨?_, ?_, ?_, ?_⟩
  · cases wh m b <;> rfl
  · cases wh m b <;> rfl
  · rfl
  · rfl
end RR

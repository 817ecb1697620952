-- TicketJournal$Past.stateAt(I)LTicketJournal$Printer;
abbrev rm_X4_stateAt : Room := { frames := 0, cells := 0, slots := 0, locals := 0 }
def g_X4_stateAt_27    : Option ((Option Nat)) :=
  some none
def g_X4_stateAt  (n1 : Int32) : Option ((Option Nat)) :=
  (if (jrem n1 8) < 0 then g_X4_stateAt_27 else (if 8 ≤ (jrem n1 8) then g_X4_stateAt_27 else (if (jrem n1 8) = 0 then some (some 0) else (if (jrem n1 8) = 1 then some (some 1) else (if (jrem n1 8) = 2 then some (some 2) else (if (jrem n1 8) = 3 then some (some 3) else (if (jrem n1 8) = 4 then some (some 4) else (if (jrem n1 8) = 5 then some (some 5) else (if (jrem n1 8) = 6 then some (some 6) else (if (jrem n1 8) = 7 then some (some 7) else none))))))))))
set_option maxHeartbeats 4000000 in
set_option maxRecDepth 100000 in
theorem c_X4_stateAt (Z : GZ) (l : Launch) (hq : Nat) (hs : Nat) (AD : Nat → Nat → Nat) (pv : Nat → Int32) (n1 : Int32) (o : ((Option Nat))) (hg : g_X4_stateAt n1 = some o) : Con Z l yX4_stateAt cX4_stateAt 3 (some (.object "TicketJournal$Printer")) rm_X4_stateAt [.ref hq, .int n1] (wS Z hq hs AD pv) (some (va_rf (o.map (fun k => AD k 0)))) (wS Z hq hs AD pv) := by
  refine Con.of (by decide) (Nat.le_of_ble_eq_true rfl) ?_
  intro X hE0
  have hE : ∀ z, z = o → endsX X Z (some (.object "TicketJournal$Printer")) (some (va_rf (z.map (fun k => AD k 0)))) (wS Z hq hs AD pv) := by
    rintro _ rfl; exact hE0
  have J27 : g_X4_stateAt_27 = some o → AtK X Z rm_X4_stateAt cX4_stateAt RX4 3 0 0 (wS Z hq hs AD pv) 27 [] [] := by
    intro  hg
    unfold g_X4_stateAt_27 at hg
    refine r_null dX4_stateAt_27 ?_
    exact r_aretq (hE _ (Option.some.inj hg)) (Or.inl rfl) dX4_stateAt_28
  unfold g_X4_stateAt at hg
  show AtK X Z rm_X4_stateAt cX4_stateAt RX4 3 0 0 (wS Z hq hs AD pv) 0 [(0, .ref hq), (1, .int n1)] []
  refine r_iload_n dX4_stateAt_0 1 rfl ?_
  refine r_bipush (v := 8) dX4_stateAt_1 kbp_8 ?_
  refine r_irem dX4_stateAt_3 (by decide) ?_
  refine r_istore_n (lv' := [(2, .int (jrem n1 8)), (0, .ref hq), (1, .int n1)]) dX4_stateAt_4 (by decide) rfl ?_
  refine r_iload_n dX4_stateAt_5 0 rfl ?_
  refine r_if_lt (tgt := 27) dX4_stateAt_6 (by decide) (fun h6 => ?_) (fun h6 => ?_)
  · replace hg := (if_pos h6).symm.trans hg
    exact r_sub [] rfl (J27 hg)
  · replace hg := (if_neg h6).symm.trans hg
    refine r_iload_n dX4_stateAt_9 0 rfl ?_
    refine r_aload_n dX4_stateAt_10 1 rfl ?_
    refine gf_X4_0 (v := .ref hs) 0 rfl rfl qw_146 dX4_stateAt_11 ?_
    refine r_alen 1 1 rfl rfl (v := 8) (by decide) dX4_stateAt_14 ?_
    refine r_icmp_ge (tgt := 27) dX4_stateAt_15 (by decide) (fun h15 => ?_) (fun h15 => ?_)
    · replace hg := (if_pos h15).symm.trans hg
      exact r_sub [] rfl (J27 hg)
    · replace hg := (if_neg h15).symm.trans hg
      refine r_aload_n dX4_stateAt_18 1 rfl ?_
      refine gf_X4_0 (v := .ref hs) 0 rfl rfl qw_146 dX4_stateAt_19 ?_
      refine r_iload_n dX4_stateAt_22 0 rfl ?_
      by_cases h23_0 : (jrem n1 8) = 0
      · replace hg := (if_pos h23_0).symm.trans hg
        refine r_aald 1 1 rfl rfl (by rw [h23_0]; decide) (v := .ref (AD 0 0)) (by rw [h23_0]; rfl) dX4_stateAt_23 ?_
        refine r_goto (tgt := 28) dX4_stateAt_24 (by decide) ?_
        exact r_aretq (hE _ (Option.some.inj hg)) (Or.inr ⟨_, rfl⟩) dX4_stateAt_28
      replace hg := (if_neg h23_0).symm.trans hg
      by_cases h23_1 : (jrem n1 8) = 1
      · replace hg := (if_pos h23_1).symm.trans hg
        refine r_aald 1 1 rfl rfl (by rw [h23_1]; decide) (v := .ref (AD 1 0)) (by rw [h23_1]; rfl) dX4_stateAt_23 ?_
        refine r_goto (tgt := 28) dX4_stateAt_24 (by decide) ?_
        exact r_aretq (hE _ (Option.some.inj hg)) (Or.inr ⟨_, rfl⟩) dX4_stateAt_28
      replace hg := (if_neg h23_1).symm.trans hg
      by_cases h23_2 : (jrem n1 8) = 2
      · replace hg := (if_pos h23_2).symm.trans hg
        refine r_aald 1 1 rfl rfl (by rw [h23_2]; decide) (v := .ref (AD 2 0)) (by rw [h23_2]; rfl) dX4_stateAt_23 ?_
        refine r_goto (tgt := 28) dX4_stateAt_24 (by decide) ?_
        exact r_aretq (hE _ (Option.some.inj hg)) (Or.inr ⟨_, rfl⟩) dX4_stateAt_28
      replace hg := (if_neg h23_2).symm.trans hg
      by_cases h23_3 : (jrem n1 8) = 3
      · replace hg := (if_pos h23_3).symm.trans hg
        refine r_aald 1 1 rfl rfl (by rw [h23_3]; decide) (v := .ref (AD 3 0)) (by rw [h23_3]; rfl) dX4_stateAt_23 ?_
        refine r_goto (tgt := 28) dX4_stateAt_24 (by decide) ?_
        exact r_aretq (hE _ (Option.some.inj hg)) (Or.inr ⟨_, rfl⟩) dX4_stateAt_28
      replace hg := (if_neg h23_3).symm.trans hg
      by_cases h23_4 : (jrem n1 8) = 4
      · replace hg := (if_pos h23_4).symm.trans hg
        refine r_aald 1 1 rfl rfl (by rw [h23_4]; decide) (v := .ref (AD 4 0)) (by rw [h23_4]; rfl) dX4_stateAt_23 ?_
        refine r_goto (tgt := 28) dX4_stateAt_24 (by decide) ?_
        exact r_aretq (hE _ (Option.some.inj hg)) (Or.inr ⟨_, rfl⟩) dX4_stateAt_28
      replace hg := (if_neg h23_4).symm.trans hg
      by_cases h23_5 : (jrem n1 8) = 5
      · replace hg := (if_pos h23_5).symm.trans hg
        refine r_aald 1 1 rfl rfl (by rw [h23_5]; decide) (v := .ref (AD 5 0)) (by rw [h23_5]; rfl) dX4_stateAt_23 ?_
        refine r_goto (tgt := 28) dX4_stateAt_24 (by decide) ?_
        exact r_aretq (hE _ (Option.some.inj hg)) (Or.inr ⟨_, rfl⟩) dX4_stateAt_28
      replace hg := (if_neg h23_5).symm.trans hg
      by_cases h23_6 : (jrem n1 8) = 6
      · replace hg := (if_pos h23_6).symm.trans hg
        refine r_aald 1 1 rfl rfl (by rw [h23_6]; decide) (v := .ref (AD 6 0)) (by rw [h23_6]; rfl) dX4_stateAt_23 ?_
        refine r_goto (tgt := 28) dX4_stateAt_24 (by decide) ?_
        exact r_aretq (hE _ (Option.some.inj hg)) (Or.inr ⟨_, rfl⟩) dX4_stateAt_28
      replace hg := (if_neg h23_6).symm.trans hg
      by_cases h23_7 : (jrem n1 8) = 7
      · replace hg := (if_pos h23_7).symm.trans hg
        refine r_aald 1 1 rfl rfl (by rw [h23_7]; decide) (v := .ref (AD 7 0)) (by rw [h23_7]; rfl) dX4_stateAt_23 ?_
        refine r_goto (tgt := 28) dX4_stateAt_24 (by decide) ?_
        exact r_aretq (hE _ (Option.some.inj hg)) (Or.inr ⟨_, rfl⟩) dX4_stateAt_28
      replace hg := (if_neg h23_7).symm.trans hg
      exact nomatch (show (none : Option _) = some o from hg)

-- TicketJournal$Past.remember(LTicketJournal$Printer;)V
abbrev rm_X4_remember : Room := { frames := 3, cells := 0, slots := 0, locals := 82 }
def g_X4_remember_32 (w : Nat → Int32) (er : Nat → Int32) (fl : Nat → Int32) (me : Nat → Int32) (p : Nat → Int32) (pr : Nat → Int32)  (pv : Nat → Int32) (W8 : Nat → Nat → Int32) (E8 : Nat → Nat → Int32) (F8 : Nat → Nat → Int32) (M8 : Nat → Nat → Int32) (P8 : Nat → Nat → Int32) (R8 : Nat → Nat → Int32) : Option ((Nat → Int32) × (Nat → Nat → Int32) × (Nat → Nat → Int32) × (Nat → Nat → Int32) × (Nat → Nat → Int32) × (Nat → Nat → Int32) × (Nat → Nat → Int32)) :=
  (g_X4_stateAt ((pv 0) + (pv 1))).bind fun o42 => (if o42 = none then some (pv, W8, E8, F8, M8, P8, R8) else (if o42 = (some 0) then (g_X5_copyFrom (W8 0) (E8 0) (F8 0) (M8 0) (P8 0) (R8 0) w er fl me p pr).bind fun o52 => some ((upd pv 1 ((pv 1) + 1)), (va_up W8 0 o52.1), (va_up E8 0 o52.2.1), (va_up F8 0 o52.2.2.1), (va_up M8 0 o52.2.2.2.1), (va_up P8 0 o52.2.2.2.2.1), (va_up R8 0 o52.2.2.2.2.2)) else (if o42 = (some 1) then (g_X5_copyFrom (W8 1) (E8 1) (F8 1) (M8 1) (P8 1) (R8 1) w er fl me p pr).bind fun o52 => some ((upd pv 1 ((pv 1) + 1)), (va_up W8 1 o52.1), (va_up E8 1 o52.2.1), (va_up F8 1 o52.2.2.1), (va_up M8 1 o52.2.2.2.1), (va_up P8 1 o52.2.2.2.2.1), (va_up R8 1 o52.2.2.2.2.2)) else (if o42 = (some 2) then (g_X5_copyFrom (W8 2) (E8 2) (F8 2) (M8 2) (P8 2) (R8 2) w er fl me p pr).bind fun o52 => some ((upd pv 1 ((pv 1) + 1)), (va_up W8 2 o52.1), (va_up E8 2 o52.2.1), (va_up F8 2 o52.2.2.1), (va_up M8 2 o52.2.2.2.1), (va_up P8 2 o52.2.2.2.2.1), (va_up R8 2 o52.2.2.2.2.2)) else (if o42 = (some 3) then (g_X5_copyFrom (W8 3) (E8 3) (F8 3) (M8 3) (P8 3) (R8 3) w er fl me p pr).bind fun o52 => some ((upd pv 1 ((pv 1) + 1)), (va_up W8 3 o52.1), (va_up E8 3 o52.2.1), (va_up F8 3 o52.2.2.1), (va_up M8 3 o52.2.2.2.1), (va_up P8 3 o52.2.2.2.2.1), (va_up R8 3 o52.2.2.2.2.2)) else (if o42 = (some 4) then (g_X5_copyFrom (W8 4) (E8 4) (F8 4) (M8 4) (P8 4) (R8 4) w er fl me p pr).bind fun o52 => some ((upd pv 1 ((pv 1) + 1)), (va_up W8 4 o52.1), (va_up E8 4 o52.2.1), (va_up F8 4 o52.2.2.1), (va_up M8 4 o52.2.2.2.1), (va_up P8 4 o52.2.2.2.2.1), (va_up R8 4 o52.2.2.2.2.2)) else (if o42 = (some 5) then (g_X5_copyFrom (W8 5) (E8 5) (F8 5) (M8 5) (P8 5) (R8 5) w er fl me p pr).bind fun o52 => some ((upd pv 1 ((pv 1) + 1)), (va_up W8 5 o52.1), (va_up E8 5 o52.2.1), (va_up F8 5 o52.2.2.1), (va_up M8 5 o52.2.2.2.1), (va_up P8 5 o52.2.2.2.2.1), (va_up R8 5 o52.2.2.2.2.2)) else (if o42 = (some 6) then (g_X5_copyFrom (W8 6) (E8 6) (F8 6) (M8 6) (P8 6) (R8 6) w er fl me p pr).bind fun o52 => some ((upd pv 1 ((pv 1) + 1)), (va_up W8 6 o52.1), (va_up E8 6 o52.2.1), (va_up F8 6 o52.2.2.1), (va_up M8 6 o52.2.2.2.1), (va_up P8 6 o52.2.2.2.2.1), (va_up R8 6 o52.2.2.2.2.2)) else (if o42 = (some 7) then (g_X5_copyFrom (W8 7) (E8 7) (F8 7) (M8 7) (P8 7) (R8 7) w er fl me p pr).bind fun o52 => some ((upd pv 1 ((pv 1) + 1)), (va_up W8 7 o52.1), (va_up E8 7 o52.2.1), (va_up F8 7 o52.2.2.1), (va_up M8 7 o52.2.2.2.1), (va_up P8 7 o52.2.2.2.2.1), (va_up R8 7 o52.2.2.2.2.2)) else none)))))))))
def g_X4_remember (pv : Nat → Int32) (W8 : Nat → Nat → Int32) (E8 : Nat → Nat → Int32) (F8 : Nat → Nat → Int32) (M8 : Nat → Nat → Int32) (P8 : Nat → Nat → Int32) (R8 : Nat → Nat → Int32) (w : Nat → Int32) (er : Nat → Int32) (fl : Nat → Int32) (me : Nat → Int32) (p : Nat → Int32) (pr : Nat → Int32)  : Option ((Nat → Int32) × (Nat → Nat → Int32) × (Nat → Nat → Int32) × (Nat → Nat → Int32) × (Nat → Nat → Int32) × (Nat → Nat → Int32) × (Nat → Nat → Int32)) :=
  (if (pv 1) = 8 then g_X4_remember_32 w er fl me p pr (upd (upd pv 0 (jrem ((pv 0) + 1) 8)) 1 ((pv 1) - 1)) W8 E8 F8 M8 P8 R8 else g_X4_remember_32 w er fl me p pr pv W8 E8 F8 M8 P8 R8)
set_option maxHeartbeats 4000000 in
set_option maxRecDepth 100000 in
theorem c_X4_remember (Z : GZ) (l : Launch) (hq : Nat) (hs : Nat) (AD : Nat → Nat → Nat) (a : Nat → Nat) (pv : Nat → Int32) (W8 : Nat → Nat → Int32) (E8 : Nat → Nat → Int32) (F8 : Nat → Nat → Int32) (M8 : Nat → Nat → Int32) (P8 : Nat → Nat → Int32) (R8 : Nat → Nat → Int32) (w : Nat → Int32) (er : Nat → Int32) (fl : Nat → Int32) (me : Nat → Int32) (p : Nat → Int32) (pr : Nat → Int32)  (o : ((Nat → Int32) × (Nat → Nat → Int32) × (Nat → Nat → Int32) × (Nat → Nat → Int32) × (Nat → Nat → Int32) × (Nat → Nat → Int32) × (Nat → Nat → Int32))) (hg : g_X4_remember pv W8 E8 F8 M8 P8 R8 w er fl me p pr = some o) : Con Z l yX4_remember cX4_remember 3 none rm_X4_remember [.ref hq, .ref (a 0)] (wS Z hq hs AD pv ++ (wP Z (AD 0) (W8 0) (E8 0) (F8 0) (M8 0) (P8 0) (R8 0) ++ (wP Z (AD 1) (W8 1) (E8 1) (F8 1) (M8 1) (P8 1) (R8 1) ++ (wP Z (AD 2) (W8 2) (E8 2) (F8 2) (M8 2) (P8 2) (R8 2) ++ (wP Z (AD 3) (W8 3) (E8 3) (F8 3) (M8 3) (P8 3) (R8 3) ++ (wP Z (AD 4) (W8 4) (E8 4) (F8 4) (M8 4) (P8 4) (R8 4) ++ (wP Z (AD 5) (W8 5) (E8 5) (F8 5) (M8 5) (P8 5) (R8 5) ++ (wP Z (AD 6) (W8 6) (E8 6) (F8 6) (M8 6) (P8 6) (R8 6) ++ (wP Z (AD 7) (W8 7) (E8 7) (F8 7) (M8 7) (P8 7) (R8 7) ++ (wP Z a w er fl me p pr)))))))))) none (wS Z hq hs AD o.1 ++ (wP Z (AD 0) (o.2.1 0) (o.2.2.1 0) (o.2.2.2.1 0) (o.2.2.2.2.1 0) (o.2.2.2.2.2.1 0) (o.2.2.2.2.2.2 0) ++ (wP Z (AD 1) (o.2.1 1) (o.2.2.1 1) (o.2.2.2.1 1) (o.2.2.2.2.1 1) (o.2.2.2.2.2.1 1) (o.2.2.2.2.2.2 1) ++ (wP Z (AD 2) (o.2.1 2) (o.2.2.1 2) (o.2.2.2.1 2) (o.2.2.2.2.1 2) (o.2.2.2.2.2.1 2) (o.2.2.2.2.2.2 2) ++ (wP Z (AD 3) (o.2.1 3) (o.2.2.1 3) (o.2.2.2.1 3) (o.2.2.2.2.1 3) (o.2.2.2.2.2.1 3) (o.2.2.2.2.2.2 3) ++ (wP Z (AD 4) (o.2.1 4) (o.2.2.1 4) (o.2.2.2.1 4) (o.2.2.2.2.1 4) (o.2.2.2.2.2.1 4) (o.2.2.2.2.2.2 4) ++ (wP Z (AD 5) (o.2.1 5) (o.2.2.1 5) (o.2.2.2.1 5) (o.2.2.2.2.1 5) (o.2.2.2.2.2.1 5) (o.2.2.2.2.2.2 5) ++ (wP Z (AD 6) (o.2.1 6) (o.2.2.1 6) (o.2.2.2.1 6) (o.2.2.2.2.1 6) (o.2.2.2.2.2.1 6) (o.2.2.2.2.2.2 6) ++ (wP Z (AD 7) (o.2.1 7) (o.2.2.1 7) (o.2.2.2.1 7) (o.2.2.2.2.1 7) (o.2.2.2.2.2.1 7) (o.2.2.2.2.2.2 7) ++ (wP Z a w er fl me p pr)))))))))) := by
  refine Con.of (by decide) (Nat.le_of_ble_eq_true rfl) ?_
  intro X hE0
  have hE : ∀ z, z = o → endsX X Z none none (wS Z hq hs AD z.1 ++ (wP Z (AD 0) (z.2.1 0) (z.2.2.1 0) (z.2.2.2.1 0) (z.2.2.2.2.1 0) (z.2.2.2.2.2.1 0) (z.2.2.2.2.2.2 0) ++ (wP Z (AD 1) (z.2.1 1) (z.2.2.1 1) (z.2.2.2.1 1) (z.2.2.2.2.1 1) (z.2.2.2.2.2.1 1) (z.2.2.2.2.2.2 1) ++ (wP Z (AD 2) (z.2.1 2) (z.2.2.1 2) (z.2.2.2.1 2) (z.2.2.2.2.1 2) (z.2.2.2.2.2.1 2) (z.2.2.2.2.2.2 2) ++ (wP Z (AD 3) (z.2.1 3) (z.2.2.1 3) (z.2.2.2.1 3) (z.2.2.2.2.1 3) (z.2.2.2.2.2.1 3) (z.2.2.2.2.2.2 3) ++ (wP Z (AD 4) (z.2.1 4) (z.2.2.1 4) (z.2.2.2.1 4) (z.2.2.2.2.1 4) (z.2.2.2.2.2.1 4) (z.2.2.2.2.2.2 4) ++ (wP Z (AD 5) (z.2.1 5) (z.2.2.1 5) (z.2.2.2.1 5) (z.2.2.2.2.1 5) (z.2.2.2.2.2.1 5) (z.2.2.2.2.2.2 5) ++ (wP Z (AD 6) (z.2.1 6) (z.2.2.1 6) (z.2.2.2.1 6) (z.2.2.2.2.1 6) (z.2.2.2.2.2.1 6) (z.2.2.2.2.2.2 6) ++ (wP Z (AD 7) (z.2.1 7) (z.2.2.1 7) (z.2.2.2.1 7) (z.2.2.2.2.1 7) (z.2.2.2.2.2.1 7) (z.2.2.2.2.2.2 7) ++ (wP Z a w er fl me p pr)))))))))) := by
    rintro _ rfl; exact hE0
  have J32 : ∀ (pv : Nat → Int32) (W8 : Nat → Nat → Int32) (E8 : Nat → Nat → Int32) (F8 : Nat → Nat → Int32) (M8 : Nat → Nat → Int32) (P8 : Nat → Nat → Int32) (R8 : Nat → Nat → Int32), g_X4_remember_32 w er fl me p pr pv W8 E8 F8 M8 P8 R8 = some o → AtK X Z rm_X4_remember cX4_remember RX4 3 0 0 (wS Z hq hs AD pv ++ (wP Z (AD 0) (W8 0) (E8 0) (F8 0) (M8 0) (P8 0) (R8 0) ++ (wP Z (AD 1) (W8 1) (E8 1) (F8 1) (M8 1) (P8 1) (R8 1) ++ (wP Z (AD 2) (W8 2) (E8 2) (F8 2) (M8 2) (P8 2) (R8 2) ++ (wP Z (AD 3) (W8 3) (E8 3) (F8 3) (M8 3) (P8 3) (R8 3) ++ (wP Z (AD 4) (W8 4) (E8 4) (F8 4) (M8 4) (P8 4) (R8 4) ++ (wP Z (AD 5) (W8 5) (E8 5) (F8 5) (M8 5) (P8 5) (R8 5) ++ (wP Z (AD 6) (W8 6) (E8 6) (F8 6) (M8 6) (P8 6) (R8 6) ++ (wP Z (AD 7) (W8 7) (E8 7) (F8 7) (M8 7) (P8 7) (R8 7) ++ (wP Z a w er fl me p pr)))))))))) 32 [(0, .ref hq), (1, .ref (a 0))] [] := by
    intro pv W8 E8 F8 M8 P8 R8 hg
    unfold g_X4_remember_32 at hg
    refine r_aload_n dX4_remember_32 0 rfl ?_
    refine r_aload_n dX4_remember_33 0 rfl ?_
    refine gf_X4_1 (v := .int (pv 0)) 0 rfl rfl qw_147 dX4_remember_34 ?_
    refine r_aload_n dX4_remember_37 0 rfl ?_
    refine gf_X4_2 (v := .int (pv 1)) 0 rfl rfl qw_148 dX4_remember_38 ?_
    refine r_iadd dX4_remember_41 ?_
    obtain ⟨o42, e42, hg⟩ := ob hg
    refine r_callV (As := [.int ((pv 0) + (pv 1))]) (rest := []) (ws' := wS Z hq hs AD pv ++ (wP Z (AD 0) (W8 0) (E8 0) (F8 0) (M8 0) (P8 0) (R8 0) ++ (wP Z (AD 1) (W8 1) (E8 1) (F8 1) (M8 1) (P8 1) (R8 1) ++ (wP Z (AD 2) (W8 2) (E8 2) (F8 2) (M8 2) (P8 2) (R8 2) ++ (wP Z (AD 3) (W8 3) (E8 3) (F8 3) (M8 3) (P8 3) (R8 3) ++ (wP Z (AD 4) (W8 4) (E8 4) (F8 4) (M8 4) (P8 4) (R8 4) ++ (wP Z (AD 5) (W8 5) (E8 5) (F8 5) (M8 5) (P8 5) (R8 5) ++ (wP Z (AD 6) (W8 6) (E8 6) (F8 6) (M8 6) (P8 6) (R8 6) ++ (wP Z (AD 7) (W8 7) (E8 7) (F8 7) (M8 7) (P8 7) (R8 7) ++ (wP Z a w er fl me p pr)))))))))) 0 rfl rfl rfl (fun l => c_X4_stateAt Z l hq hs AD pv ((pv 0) + (pv 1)) o42 e42) qw_236 mv_X4_stateAt (xPk.idx [0, 1] rfl rfl rfl rfl rfl) ⟨Nat.le_of_ble_eq_true rfl, Nat.le_of_ble_eq_true rfl⟩ ⟨rfl, rfl⟩ ⟨Nat.zero_le _, Nat.zero_le _⟩ rfl (Nat.le_of_ble_eq_true rfl) rfl dX4_remember_42 ?_
    by_cases h42_0 : o42 = none
    · replace hg := (if_pos h42_0).symm.trans hg
      subst h42_0
      refine r_astore_nN (lv' := [(2, .null), (0, .ref hq), (1, .ref (a 0))]) dX4_remember_45 (by decide) rfl ?_
      refine r_aload_nN dX4_remember_46 0 rfl ?_
      refine r_ifnullN (tgt := 65) dX4_remember_47 (by decide) ?_
      exact r_vret (hE _ (Option.some.inj hg)) dX4_remember_65
    replace hg := (if_neg h42_0).symm.trans hg
    by_cases h42_1 : o42 = (some 0)
    · replace hg := (if_pos h42_1).symm.trans hg
      subst h42_1
      refine r_astore_n (lv' := [(2, .ref (AD 0 0)), (0, .ref hq), (1, .ref (a 0))]) dX4_remember_45 (by decide) rfl ?_
      refine r_aload_n dX4_remember_46 0 rfl ?_
      refine r_ifnull dX4_remember_47 ?_
      refine r_aload_n dX4_remember_50 0 rfl ?_
      refine r_aload_n dX4_remember_51 2 rfl ?_
      obtain ⟨o52, e52, hg⟩ := ob hg
      refine r_callV (As := [.ref (a 0)]) (rest := []) (ws' := wS Z hq hs AD pv ++ (wP Z (AD 0) o52.1 o52.2.1 o52.2.2.1 o52.2.2.2.1 o52.2.2.2.2.1 o52.2.2.2.2.2 ++ (wP Z (AD 1) (W8 1) (E8 1) (F8 1) (M8 1) (P8 1) (R8 1) ++ (wP Z (AD 2) (W8 2) (E8 2) (F8 2) (M8 2) (P8 2) (R8 2) ++ (wP Z (AD 3) (W8 3) (E8 3) (F8 3) (M8 3) (P8 3) (R8 3) ++ (wP Z (AD 4) (W8 4) (E8 4) (F8 4) (M8 4) (P8 4) (R8 4) ++ (wP Z (AD 5) (W8 5) (E8 5) (F8 5) (M8 5) (P8 5) (R8 5) ++ (wP Z (AD 6) (W8 6) (E8 6) (F8 6) (M8 6) (P8 6) (R8 6) ++ (wP Z (AD 7) (W8 7) (E8 7) (F8 7) (M8 7) (P8 7) (R8 7) ++ (wP Z a w er fl me p pr)))))))))) 0 rfl rfl rfl (fun l => c_X5_copyFrom Z l (AD 0) a (W8 0) (E8 0) (F8 0) (M8 0) (P8 0) (R8 0) w er fl me p pr  o52 e52) qw_240 mv_X5_copyFrom (xPk.seg2 (wS Z hq hs AD pv) (wP Z (AD 0) (W8 0) (E8 0) (F8 0) (M8 0) (P8 0) (R8 0)) (wP Z (AD 0) o52.1 o52.2.1 o52.2.2.1 o52.2.2.2.1 o52.2.2.2.2.1 o52.2.2.2.2.2) (wP Z (AD 1) (W8 1) (E8 1) (F8 1) (M8 1) (P8 1) (R8 1) ++ (wP Z (AD 2) (W8 2) (E8 2) (F8 2) (M8 2) (P8 2) (R8 2) ++ (wP Z (AD 3) (W8 3) (E8 3) (F8 3) (M8 3) (P8 3) (R8 3) ++ (wP Z (AD 4) (W8 4) (E8 4) (F8 4) (M8 4) (P8 4) (R8 4) ++ (wP Z (AD 5) (W8 5) (E8 5) (F8 5) (M8 5) (P8 5) (R8 5) ++ (wP Z (AD 6) (W8 6) (E8 6) (F8 6) (M8 6) (P8 6) (R8 6) ++ (wP Z (AD 7) (W8 7) (E8 7) (F8 7) (M8 7) (P8 7) (R8 7)))))))) (wP Z a w er fl me p pr) (wP Z a w er fl me p pr) (([] : va_W)) (by simp only [List.append_assoc, List.append_nil, List.nil_append]) (by simp only [List.append_assoc, List.append_nil, List.nil_append]) rfl rfl) ⟨Nat.le_of_ble_eq_true rfl, Nat.le_of_ble_eq_true rfl⟩ ⟨rfl, rfl⟩ ⟨Nat.zero_le _, Nat.zero_le _⟩ rfl (Nat.le_of_ble_eq_true rfl) rfl dX4_remember_52 ?_
      refine r_aload_n dX4_remember_55 1 rfl ?_
      refine r_dup dX4_remember_56 rfl ?_
      refine gf_X4_2 (v := .int (pv 1)) 0 rfl rfl qw_148 dX4_remember_57 ?_
      refine r_iconst (v := 1) dX4_remember_60 kic_1 ?_
      refine r_iadd dX4_remember_61 ?_
      refine pf_X4_2 0 rfl (Nat.le_of_ble_eq_true rfl) qw_148 dX4_remember_62 (ws' := wS Z hq hs AD (upd pv 1 ((pv 1) + 1)) ++ (wP Z (AD 0) o52.1 o52.2.1 o52.2.2.1 o52.2.2.2.1 o52.2.2.2.2.1 o52.2.2.2.2.2 ++ (wP Z (AD 1) (W8 1) (E8 1) (F8 1) (M8 1) (P8 1) (R8 1) ++ (wP Z (AD 2) (W8 2) (E8 2) (F8 2) (M8 2) (P8 2) (R8 2) ++ (wP Z (AD 3) (W8 3) (E8 3) (F8 3) (M8 3) (P8 3) (R8 3) ++ (wP Z (AD 4) (W8 4) (E8 4) (F8 4) (M8 4) (P8 4) (R8 4) ++ (wP Z (AD 5) (W8 5) (E8 5) (F8 5) (M8 5) (P8 5) (R8 5) ++ (wP Z (AD 6) (W8 6) (E8 6) (F8 6) (M8 6) (P8 6) (R8 6) ++ (wP Z (AD 7) (W8 7) (E8 7) (F8 7) (M8 7) (P8 7) (R8 7) ++ (wP Z a w er fl me p pr)))))))))) rfl ?_
      exact r_vret (hE _ (Option.some.inj hg)) dX4_remember_65
    replace hg := (if_neg h42_1).symm.trans hg
    by_cases h42_2 : o42 = (some 1)
    · replace hg := (if_pos h42_2).symm.trans hg
      subst h42_2
      refine r_astore_n (lv' := [(2, .ref (AD 1 0)), (0, .ref hq), (1, .ref (a 0))]) dX4_remember_45 (by decide) rfl ?_
      refine r_aload_n dX4_remember_46 0 rfl ?_
      refine r_ifnull dX4_remember_47 ?_
      refine r_aload_n dX4_remember_50 0 rfl ?_
      refine r_aload_n dX4_remember_51 2 rfl ?_
      obtain ⟨o52, e52, hg⟩ := ob hg
      refine r_callV (As := [.ref (a 0)]) (rest := []) (ws' := wS Z hq hs AD pv ++ (wP Z (AD 0) (W8 0) (E8 0) (F8 0) (M8 0) (P8 0) (R8 0) ++ (wP Z (AD 1) o52.1 o52.2.1 o52.2.2.1 o52.2.2.2.1 o52.2.2.2.2.1 o52.2.2.2.2.2 ++ (wP Z (AD 2) (W8 2) (E8 2) (F8 2) (M8 2) (P8 2) (R8 2) ++ (wP Z (AD 3) (W8 3) (E8 3) (F8 3) (M8 3) (P8 3) (R8 3) ++ (wP Z (AD 4) (W8 4) (E8 4) (F8 4) (M8 4) (P8 4) (R8 4) ++ (wP Z (AD 5) (W8 5) (E8 5) (F8 5) (M8 5) (P8 5) (R8 5) ++ (wP Z (AD 6) (W8 6) (E8 6) (F8 6) (M8 6) (P8 6) (R8 6) ++ (wP Z (AD 7) (W8 7) (E8 7) (F8 7) (M8 7) (P8 7) (R8 7) ++ (wP Z a w er fl me p pr)))))))))) 0 rfl rfl rfl (fun l => c_X5_copyFrom Z l (AD 1) a (W8 1) (E8 1) (F8 1) (M8 1) (P8 1) (R8 1) w er fl me p pr  o52 e52) qw_240 mv_X5_copyFrom (xPk.seg2 (wS Z hq hs AD pv ++ (wP Z (AD 0) (W8 0) (E8 0) (F8 0) (M8 0) (P8 0) (R8 0))) (wP Z (AD 1) (W8 1) (E8 1) (F8 1) (M8 1) (P8 1) (R8 1)) (wP Z (AD 1) o52.1 o52.2.1 o52.2.2.1 o52.2.2.2.1 o52.2.2.2.2.1 o52.2.2.2.2.2) (wP Z (AD 2) (W8 2) (E8 2) (F8 2) (M8 2) (P8 2) (R8 2) ++ (wP Z (AD 3) (W8 3) (E8 3) (F8 3) (M8 3) (P8 3) (R8 3) ++ (wP Z (AD 4) (W8 4) (E8 4) (F8 4) (M8 4) (P8 4) (R8 4) ++ (wP Z (AD 5) (W8 5) (E8 5) (F8 5) (M8 5) (P8 5) (R8 5) ++ (wP Z (AD 6) (W8 6) (E8 6) (F8 6) (M8 6) (P8 6) (R8 6) ++ (wP Z (AD 7) (W8 7) (E8 7) (F8 7) (M8 7) (P8 7) (R8 7))))))) (wP Z a w er fl me p pr) (wP Z a w er fl me p pr) (([] : va_W)) (by simp only [List.append_assoc, List.append_nil, List.nil_append]) (by simp only [List.append_assoc, List.append_nil, List.nil_append]) rfl rfl) ⟨Nat.le_of_ble_eq_true rfl, Nat.le_of_ble_eq_true rfl⟩ ⟨rfl, rfl⟩ ⟨Nat.zero_le _, Nat.zero_le _⟩ rfl (Nat.le_of_ble_eq_true rfl) rfl dX4_remember_52 ?_
      refine r_aload_n dX4_remember_55 1 rfl ?_
      refine r_dup dX4_remember_56 rfl ?_
      refine gf_X4_2 (v := .int (pv 1)) 0 rfl rfl qw_148 dX4_remember_57 ?_
      refine r_iconst (v := 1) dX4_remember_60 kic_1 ?_
      refine r_iadd dX4_remember_61 ?_
      refine pf_X4_2 0 rfl (Nat.le_of_ble_eq_true rfl) qw_148 dX4_remember_62 (ws' := wS Z hq hs AD (upd pv 1 ((pv 1) + 1)) ++ (wP Z (AD 0) (W8 0) (E8 0) (F8 0) (M8 0) (P8 0) (R8 0) ++ (wP Z (AD 1) o52.1 o52.2.1 o52.2.2.1 o52.2.2.2.1 o52.2.2.2.2.1 o52.2.2.2.2.2 ++ (wP Z (AD 2) (W8 2) (E8 2) (F8 2) (M8 2) (P8 2) (R8 2) ++ (wP Z (AD 3) (W8 3) (E8 3) (F8 3) (M8 3) (P8 3) (R8 3) ++ (wP Z (AD 4) (W8 4) (E8 4) (F8 4) (M8 4) (P8 4) (R8 4) ++ (wP Z (AD 5) (W8 5) (E8 5) (F8 5) (M8 5) (P8 5) (R8 5) ++ (wP Z (AD 6) (W8 6) (E8 6) (F8 6) (M8 6) (P8 6) (R8 6) ++ (wP Z (AD 7) (W8 7) (E8 7) (F8 7) (M8 7) (P8 7) (R8 7) ++ (wP Z a w er fl me p pr)))))))))) rfl ?_
      exact r_vret (hE _ (Option.some.inj hg)) dX4_remember_65
    replace hg := (if_neg h42_2).symm.trans hg
    by_cases h42_3 : o42 = (some 2)
    · replace hg := (if_pos h42_3).symm.trans hg
      subst h42_3
      refine r_astore_n (lv' := [(2, .ref (AD 2 0)), (0, .ref hq), (1, .ref (a 0))]) dX4_remember_45 (by decide) rfl ?_
      refine r_aload_n dX4_remember_46 0 rfl ?_
      refine r_ifnull dX4_remember_47 ?_
      refine r_aload_n dX4_remember_50 0 rfl ?_
      refine r_aload_n dX4_remember_51 2 rfl ?_
      obtain ⟨o52, e52, hg⟩ := ob hg
      refine r_callV (As := [.ref (a 0)]) (rest := []) (ws' := wS Z hq hs AD pv ++ (wP Z (AD 0) (W8 0) (E8 0) (F8 0) (M8 0) (P8 0) (R8 0) ++ (wP Z (AD 1) (W8 1) (E8 1) (F8 1) (M8 1) (P8 1) (R8 1) ++ (wP Z (AD 2) o52.1 o52.2.1 o52.2.2.1 o52.2.2.2.1 o52.2.2.2.2.1 o52.2.2.2.2.2 ++ (wP Z (AD 3) (W8 3) (E8 3) (F8 3) (M8 3) (P8 3) (R8 3) ++ (wP Z (AD 4) (W8 4) (E8 4) (F8 4) (M8 4) (P8 4) (R8 4) ++ (wP Z (AD 5) (W8 5) (E8 5) (F8 5) (M8 5) (P8 5) (R8 5) ++ (wP Z (AD 6) (W8 6) (E8 6) (F8 6) (M8 6) (P8 6) (R8 6) ++ (wP Z (AD 7) (W8 7) (E8 7) (F8 7) (M8 7) (P8 7) (R8 7) ++ (wP Z a w er fl me p pr)))))))))) 0 rfl rfl rfl (fun l => c_X5_copyFrom Z l (AD 2) a (W8 2) (E8 2) (F8 2) (M8 2) (P8 2) (R8 2) w er fl me p pr  o52 e52) qw_240 mv_X5_copyFrom (xPk.seg2 (wS Z hq hs AD pv ++ (wP Z (AD 0) (W8 0) (E8 0) (F8 0) (M8 0) (P8 0) (R8 0) ++ (wP Z (AD 1) (W8 1) (E8 1) (F8 1) (M8 1) (P8 1) (R8 1)))) (wP Z (AD 2) (W8 2) (E8 2) (F8 2) (M8 2) (P8 2) (R8 2)) (wP Z (AD 2) o52.1 o52.2.1 o52.2.2.1 o52.2.2.2.1 o52.2.2.2.2.1 o52.2.2.2.2.2) (wP Z (AD 3) (W8 3) (E8 3) (F8 3) (M8 3) (P8 3) (R8 3) ++ (wP Z (AD 4) (W8 4) (E8 4) (F8 4) (M8 4) (P8 4) (R8 4) ++ (wP Z (AD 5) (W8 5) (E8 5) (F8 5) (M8 5) (P8 5) (R8 5) ++ (wP Z (AD 6) (W8 6) (E8 6) (F8 6) (M8 6) (P8 6) (R8 6) ++ (wP Z (AD 7) (W8 7) (E8 7) (F8 7) (M8 7) (P8 7) (R8 7)))))) (wP Z a w er fl me p pr) (wP Z a w er fl me p pr) (([] : va_W)) (by simp only [List.append_assoc, List.append_nil, List.nil_append]) (by simp only [List.append_assoc, List.append_nil, List.nil_append]) rfl rfl) ⟨Nat.le_of_ble_eq_true rfl, Nat.le_of_ble_eq_true rfl⟩ ⟨rfl, rfl⟩ ⟨Nat.zero_le _, Nat.zero_le _⟩ rfl (Nat.le_of_ble_eq_true rfl) rfl dX4_remember_52 ?_
      refine r_aload_n dX4_remember_55 1 rfl ?_
      refine r_dup dX4_remember_56 rfl ?_
      refine gf_X4_2 (v := .int (pv 1)) 0 rfl rfl qw_148 dX4_remember_57 ?_
      refine r_iconst (v := 1) dX4_remember_60 kic_1 ?_
      refine r_iadd dX4_remember_61 ?_
      refine pf_X4_2 0 rfl (Nat.le_of_ble_eq_true rfl) qw_148 dX4_remember_62 (ws' := wS Z hq hs AD (upd pv 1 ((pv 1) + 1)) ++ (wP Z (AD 0) (W8 0) (E8 0) (F8 0) (M8 0) (P8 0) (R8 0) ++ (wP Z (AD 1) (W8 1) (E8 1) (F8 1) (M8 1) (P8 1) (R8 1) ++ (wP Z (AD 2) o52.1 o52.2.1 o52.2.2.1 o52.2.2.2.1 o52.2.2.2.2.1 o52.2.2.2.2.2 ++ (wP Z (AD 3) (W8 3) (E8 3) (F8 3) (M8 3) (P8 3) (R8 3) ++ (wP Z (AD 4) (W8 4) (E8 4) (F8 4) (M8 4) (P8 4) (R8 4) ++ (wP Z (AD 5) (W8 5) (E8 5) (F8 5) (M8 5) (P8 5) (R8 5) ++ (wP Z (AD 6) (W8 6) (E8 6) (F8 6) (M8 6) (P8 6) (R8 6) ++ (wP Z (AD 7) (W8 7) (E8 7) (F8 7) (M8 7) (P8 7) (R8 7) ++ (wP Z a w er fl me p pr)))))))))) rfl ?_
      exact r_vret (hE _ (Option.some.inj hg)) dX4_remember_65
    replace hg := (if_neg h42_3).symm.trans hg
    by_cases h42_4 : o42 = (some 3)
    · replace hg := (if_pos h42_4).symm.trans hg
      subst h42_4
      refine r_astore_n (lv' := [(2, .ref (AD 3 0)), (0, .ref hq), (1, .ref (a 0))]) dX4_remember_45 (by decide) rfl ?_
      refine r_aload_n dX4_remember_46 0 rfl ?_
      refine r_ifnull dX4_remember_47 ?_
      refine r_aload_n dX4_remember_50 0 rfl ?_
      refine r_aload_n dX4_remember_51 2 rfl ?_
      obtain ⟨o52, e52, hg⟩ := ob hg
      refine r_callV (As := [.ref (a 0)]) (rest := []) (ws' := wS Z hq hs AD pv ++ (wP Z (AD 0) (W8 0) (E8 0) (F8 0) (M8 0) (P8 0) (R8 0) ++ (wP Z (AD 1) (W8 1) (E8 1) (F8 1) (M8 1) (P8 1) (R8 1) ++ (wP Z (AD 2) (W8 2) (E8 2) (F8 2) (M8 2) (P8 2) (R8 2) ++ (wP Z (AD 3) o52.1 o52.2.1 o52.2.2.1 o52.2.2.2.1 o52.2.2.2.2.1 o52.2.2.2.2.2 ++ (wP Z (AD 4) (W8 4) (E8 4) (F8 4) (M8 4) (P8 4) (R8 4) ++ (wP Z (AD 5) (W8 5) (E8 5) (F8 5) (M8 5) (P8 5) (R8 5) ++ (wP Z (AD 6) (W8 6) (E8 6) (F8 6) (M8 6) (P8 6) (R8 6) ++ (wP Z (AD 7) (W8 7) (E8 7) (F8 7) (M8 7) (P8 7) (R8 7) ++ (wP Z a w er fl me p pr)))))))))) 0 rfl rfl rfl (fun l => c_X5_copyFrom Z l (AD 3) a (W8 3) (E8 3) (F8 3) (M8 3) (P8 3) (R8 3) w er fl me p pr  o52 e52) qw_240 mv_X5_copyFrom (xPk.seg2 (wS Z hq hs AD pv ++ (wP Z (AD 0) (W8 0) (E8 0) (F8 0) (M8 0) (P8 0) (R8 0) ++ (wP Z (AD 1) (W8 1) (E8 1) (F8 1) (M8 1) (P8 1) (R8 1) ++ (wP Z (AD 2) (W8 2) (E8 2) (F8 2) (M8 2) (P8 2) (R8 2))))) (wP Z (AD 3) (W8 3) (E8 3) (F8 3) (M8 3) (P8 3) (R8 3)) (wP Z (AD 3) o52.1 o52.2.1 o52.2.2.1 o52.2.2.2.1 o52.2.2.2.2.1 o52.2.2.2.2.2) (wP Z (AD 4) (W8 4) (E8 4) (F8 4) (M8 4) (P8 4) (R8 4) ++ (wP Z (AD 5) (W8 5) (E8 5) (F8 5) (M8 5) (P8 5) (R8 5) ++ (wP Z (AD 6) (W8 6) (E8 6) (F8 6) (M8 6) (P8 6) (R8 6) ++ (wP Z (AD 7) (W8 7) (E8 7) (F8 7) (M8 7) (P8 7) (R8 7))))) (wP Z a w er fl me p pr) (wP Z a w er fl me p pr) (([] : va_W)) (by simp only [List.append_assoc, List.append_nil, List.nil_append]) (by simp only [List.append_assoc, List.append_nil, List.nil_append]) rfl rfl) ⟨Nat.le_of_ble_eq_true rfl, Nat.le_of_ble_eq_true rfl⟩ ⟨rfl, rfl⟩ ⟨Nat.zero_le _, Nat.zero_le _⟩ rfl (Nat.le_of_ble_eq_true rfl) rfl dX4_remember_52 ?_
      refine r_aload_n dX4_remember_55 1 rfl ?_
      refine r_dup dX4_remember_56 rfl ?_
      refine gf_X4_2 (v := .int (pv 1)) 0 rfl rfl qw_148 dX4_remember_57 ?_
      refine r_iconst (v := 1) dX4_remember_60 kic_1 ?_
      refine r_iadd dX4_remember_61 ?_
      refine pf_X4_2 0 rfl (Nat.le_of_ble_eq_true rfl) qw_148 dX4_remember_62 (ws' := wS Z hq hs AD (upd pv 1 ((pv 1) + 1)) ++ (wP Z (AD 0) (W8 0) (E8 0) (F8 0) (M8 0) (P8 0) (R8 0) ++ (wP Z (AD 1) (W8 1) (E8 1) (F8 1) (M8 1) (P8 1) (R8 1) ++ (wP Z (AD 2) (W8 2) (E8 2) (F8 2) (M8 2) (P8 2) (R8 2) ++ (wP Z (AD 3) o52.1 o52.2.1 o52.2.2.1 o52.2.2.2.1 o52.2.2.2.2.1 o52.2.2.2.2.2 ++ (wP Z (AD 4) (W8 4) (E8 4) (F8 4) (M8 4) (P8 4) (R8 4) ++ (wP Z (AD 5) (W8 5) (E8 5) (F8 5) (M8 5) (P8 5) (R8 5) ++ (wP Z (AD 6) (W8 6) (E8 6) (F8 6) (M8 6) (P8 6) (R8 6) ++ (wP Z (AD 7) (W8 7) (E8 7) (F8 7) (M8 7) (P8 7) (R8 7) ++ (wP Z a w er fl me p pr)))))))))) rfl ?_
      exact r_vret (hE _ (Option.some.inj hg)) dX4_remember_65
    replace hg := (if_neg h42_4).symm.trans hg
    by_cases h42_5 : o42 = (some 4)
    · replace hg := (if_pos h42_5).symm.trans hg
      subst h42_5
      refine r_astore_n (lv' := [(2, .ref (AD 4 0)), (0, .ref hq), (1, .ref (a 0))]) dX4_remember_45 (by decide) rfl ?_
      refine r_aload_n dX4_remember_46 0 rfl ?_
      refine r_ifnull dX4_remember_47 ?_
      refine r_aload_n dX4_remember_50 0 rfl ?_
      refine r_aload_n dX4_remember_51 2 rfl ?_
      obtain ⟨o52, e52, hg⟩ := ob hg
      refine r_callV (As := [.ref (a 0)]) (rest := []) (ws' := wS Z hq hs AD pv ++ (wP Z (AD 0) (W8 0) (E8 0) (F8 0) (M8 0) (P8 0) (R8 0) ++ (wP Z (AD 1) (W8 1) (E8 1) (F8 1) (M8 1) (P8 1) (R8 1) ++ (wP Z (AD 2) (W8 2) (E8 2) (F8 2) (M8 2) (P8 2) (R8 2) ++ (wP Z (AD 3) (W8 3) (E8 3) (F8 3) (M8 3) (P8 3) (R8 3) ++ (wP Z (AD 4) o52.1 o52.2.1 o52.2.2.1 o52.2.2.2.1 o52.2.2.2.2.1 o52.2.2.2.2.2 ++ (wP Z (AD 5) (W8 5) (E8 5) (F8 5) (M8 5) (P8 5) (R8 5) ++ (wP Z (AD 6) (W8 6) (E8 6) (F8 6) (M8 6) (P8 6) (R8 6) ++ (wP Z (AD 7) (W8 7) (E8 7) (F8 7) (M8 7) (P8 7) (R8 7) ++ (wP Z a w er fl me p pr)))))))))) 0 rfl rfl rfl (fun l => c_X5_copyFrom Z l (AD 4) a (W8 4) (E8 4) (F8 4) (M8 4) (P8 4) (R8 4) w er fl me p pr  o52 e52) qw_240 mv_X5_copyFrom (xPk.seg2 (wS Z hq hs AD pv ++ (wP Z (AD 0) (W8 0) (E8 0) (F8 0) (M8 0) (P8 0) (R8 0) ++ (wP Z (AD 1) (W8 1) (E8 1) (F8 1) (M8 1) (P8 1) (R8 1) ++ (wP Z (AD 2) (W8 2) (E8 2) (F8 2) (M8 2) (P8 2) (R8 2) ++ (wP Z (AD 3) (W8 3) (E8 3) (F8 3) (M8 3) (P8 3) (R8 3)))))) (wP Z (AD 4) (W8 4) (E8 4) (F8 4) (M8 4) (P8 4) (R8 4)) (wP Z (AD 4) o52.1 o52.2.1 o52.2.2.1 o52.2.2.2.1 o52.2.2.2.2.1 o52.2.2.2.2.2) (wP Z (AD 5) (W8 5) (E8 5) (F8 5) (M8 5) (P8 5) (R8 5) ++ (wP Z (AD 6) (W8 6) (E8 6) (F8 6) (M8 6) (P8 6) (R8 6) ++ (wP Z (AD 7) (W8 7) (E8 7) (F8 7) (M8 7) (P8 7) (R8 7)))) (wP Z a w er fl me p pr) (wP Z a w er fl me p pr) (([] : va_W)) (by simp only [List.append_assoc, List.append_nil, List.nil_append]) (by simp only [List.append_assoc, List.append_nil, List.nil_append]) rfl rfl) ⟨Nat.le_of_ble_eq_true rfl, Nat.le_of_ble_eq_true rfl⟩ ⟨rfl, rfl⟩ ⟨Nat.zero_le _, Nat.zero_le _⟩ rfl (Nat.le_of_ble_eq_true rfl) rfl dX4_remember_52 ?_
      refine r_aload_n dX4_remember_55 1 rfl ?_
      refine r_dup dX4_remember_56 rfl ?_
      refine gf_X4_2 (v := .int (pv 1)) 0 rfl rfl qw_148 dX4_remember_57 ?_
      refine r_iconst (v := 1) dX4_remember_60 kic_1 ?_
      refine r_iadd dX4_remember_61 ?_
      refine pf_X4_2 0 rfl (Nat.le_of_ble_eq_true rfl) qw_148 dX4_remember_62 (ws' := wS Z hq hs AD (upd pv 1 ((pv 1) + 1)) ++ (wP Z (AD 0) (W8 0) (E8 0) (F8 0) (M8 0) (P8 0) (R8 0) ++ (wP Z (AD 1) (W8 1) (E8 1) (F8 1) (M8 1) (P8 1) (R8 1) ++ (wP Z (AD 2) (W8 2) (E8 2) (F8 2) (M8 2) (P8 2) (R8 2) ++ (wP Z (AD 3) (W8 3) (E8 3) (F8 3) (M8 3) (P8 3) (R8 3) ++ (wP Z (AD 4) o52.1 o52.2.1 o52.2.2.1 o52.2.2.2.1 o52.2.2.2.2.1 o52.2.2.2.2.2 ++ (wP Z (AD 5) (W8 5) (E8 5) (F8 5) (M8 5) (P8 5) (R8 5) ++ (wP Z (AD 6) (W8 6) (E8 6) (F8 6) (M8 6) (P8 6) (R8 6) ++ (wP Z (AD 7) (W8 7) (E8 7) (F8 7) (M8 7) (P8 7) (R8 7) ++ (wP Z a w er fl me p pr)))))))))) rfl ?_
      exact r_vret (hE _ (Option.some.inj hg)) dX4_remember_65
    replace hg := (if_neg h42_5).symm.trans hg
    by_cases h42_6 : o42 = (some 5)
    · replace hg := (if_pos h42_6).symm.trans hg
      subst h42_6
      refine r_astore_n (lv' := [(2, .ref (AD 5 0)), (0, .ref hq), (1, .ref (a 0))]) dX4_remember_45 (by decide) rfl ?_
      refine r_aload_n dX4_remember_46 0 rfl ?_
      refine r_ifnull dX4_remember_47 ?_
      refine r_aload_n dX4_remember_50 0 rfl ?_
      refine r_aload_n dX4_remember_51 2 rfl ?_
      obtain ⟨o52, e52, hg⟩ := ob hg
      refine r_callV (As := [.ref (a 0)]) (rest := []) (ws' := wS Z hq hs AD pv ++ (wP Z (AD 0) (W8 0) (E8 0) (F8 0) (M8 0) (P8 0) (R8 0) ++ (wP Z (AD 1) (W8 1) (E8 1) (F8 1) (M8 1) (P8 1) (R8 1) ++ (wP Z (AD 2) (W8 2) (E8 2) (F8 2) (M8 2) (P8 2) (R8 2) ++ (wP Z (AD 3) (W8 3) (E8 3) (F8 3) (M8 3) (P8 3) (R8 3) ++ (wP Z (AD 4) (W8 4) (E8 4) (F8 4) (M8 4) (P8 4) (R8 4) ++ (wP Z (AD 5) o52.1 o52.2.1 o52.2.2.1 o52.2.2.2.1 o52.2.2.2.2.1 o52.2.2.2.2.2 ++ (wP Z (AD 6) (W8 6) (E8 6) (F8 6) (M8 6) (P8 6) (R8 6) ++ (wP Z (AD 7) (W8 7) (E8 7) (F8 7) (M8 7) (P8 7) (R8 7) ++ (wP Z a w er fl me p pr)))))))))) 0 rfl rfl rfl (fun l => c_X5_copyFrom Z l (AD 5) a (W8 5) (E8 5) (F8 5) (M8 5) (P8 5) (R8 5) w er fl me p pr  o52 e52) qw_240 mv_X5_copyFrom (xPk.seg2 (wS Z hq hs AD pv ++ (wP Z (AD 0) (W8 0) (E8 0) (F8 0) (M8 0) (P8 0) (R8 0) ++ (wP Z (AD 1) (W8 1) (E8 1) (F8 1) (M8 1) (P8 1) (R8 1) ++ (wP Z (AD 2) (W8 2) (E8 2) (F8 2) (M8 2) (P8 2) (R8 2) ++ (wP Z (AD 3) (W8 3) (E8 3) (F8 3) (M8 3) (P8 3) (R8 3) ++ (wP Z (AD 4) (W8 4) (E8 4) (F8 4) (M8 4) (P8 4) (R8 4))))))) (wP Z (AD 5) (W8 5) (E8 5) (F8 5) (M8 5) (P8 5) (R8 5)) (wP Z (AD 5) o52.1 o52.2.1 o52.2.2.1 o52.2.2.2.1 o52.2.2.2.2.1 o52.2.2.2.2.2) (wP Z (AD 6) (W8 6) (E8 6) (F8 6) (M8 6) (P8 6) (R8 6) ++ (wP Z (AD 7) (W8 7) (E8 7) (F8 7) (M8 7) (P8 7) (R8 7))) (wP Z a w er fl me p pr) (wP Z a w er fl me p pr) (([] : va_W)) (by simp only [List.append_assoc, List.append_nil, List.nil_append]) (by simp only [List.append_assoc, List.append_nil, List.nil_append]) rfl rfl) ⟨Nat.le_of_ble_eq_true rfl, Nat.le_of_ble_eq_true rfl⟩ ⟨rfl, rfl⟩ ⟨Nat.zero_le _, Nat.zero_le _⟩ rfl (Nat.le_of_ble_eq_true rfl) rfl dX4_remember_52 ?_
      refine r_aload_n dX4_remember_55 1 rfl ?_
      refine r_dup dX4_remember_56 rfl ?_
      refine gf_X4_2 (v := .int (pv 1)) 0 rfl rfl qw_148 dX4_remember_57 ?_
      refine r_iconst (v := 1) dX4_remember_60 kic_1 ?_
      refine r_iadd dX4_remember_61 ?_
      refine pf_X4_2 0 rfl (Nat.le_of_ble_eq_true rfl) qw_148 dX4_remember_62 (ws' := wS Z hq hs AD (upd pv 1 ((pv 1) + 1)) ++ (wP Z (AD 0) (W8 0) (E8 0) (F8 0) (M8 0) (P8 0) (R8 0) ++ (wP Z (AD 1) (W8 1) (E8 1) (F8 1) (M8 1) (P8 1) (R8 1) ++ (wP Z (AD 2) (W8 2) (E8 2) (F8 2) (M8 2) (P8 2) (R8 2) ++ (wP Z (AD 3) (W8 3) (E8 3) (F8 3) (M8 3) (P8 3) (R8 3) ++ (wP Z (AD 4) (W8 4) (E8 4) (F8 4) (M8 4) (P8 4) (R8 4) ++ (wP Z (AD 5) o52.1 o52.2.1 o52.2.2.1 o52.2.2.2.1 o52.2.2.2.2.1 o52.2.2.2.2.2 ++ (wP Z (AD 6) (W8 6) (E8 6) (F8 6) (M8 6) (P8 6) (R8 6) ++ (wP Z (AD 7) (W8 7) (E8 7) (F8 7) (M8 7) (P8 7) (R8 7) ++ (wP Z a w er fl me p pr)))))))))) rfl ?_
      exact r_vret (hE _ (Option.some.inj hg)) dX4_remember_65
    replace hg := (if_neg h42_6).symm.trans hg
    by_cases h42_7 : o42 = (some 6)
    · replace hg := (if_pos h42_7).symm.trans hg
      subst h42_7
      refine r_astore_n (lv' := [(2, .ref (AD 6 0)), (0, .ref hq), (1, .ref (a 0))]) dX4_remember_45 (by decide) rfl ?_
      refine r_aload_n dX4_remember_46 0 rfl ?_
      refine r_ifnull dX4_remember_47 ?_
      refine r_aload_n dX4_remember_50 0 rfl ?_
      refine r_aload_n dX4_remember_51 2 rfl ?_
      obtain ⟨o52, e52, hg⟩ := ob hg
      refine r_callV (As := [.ref (a 0)]) (rest := []) (ws' := wS Z hq hs AD pv ++ (wP Z (AD 0) (W8 0) (E8 0) (F8 0) (M8 0) (P8 0) (R8 0) ++ (wP Z (AD 1) (W8 1) (E8 1) (F8 1) (M8 1) (P8 1) (R8 1) ++ (wP Z (AD 2) (W8 2) (E8 2) (F8 2) (M8 2) (P8 2) (R8 2) ++ (wP Z (AD 3) (W8 3) (E8 3) (F8 3) (M8 3) (P8 3) (R8 3) ++ (wP Z (AD 4) (W8 4) (E8 4) (F8 4) (M8 4) (P8 4) (R8 4) ++ (wP Z (AD 5) (W8 5) (E8 5) (F8 5) (M8 5) (P8 5) (R8 5) ++ (wP Z (AD 6) o52.1 o52.2.1 o52.2.2.1 o52.2.2.2.1 o52.2.2.2.2.1 o52.2.2.2.2.2 ++ (wP Z (AD 7) (W8 7) (E8 7) (F8 7) (M8 7) (P8 7) (R8 7) ++ (wP Z a w er fl me p pr)))))))))) 0 rfl rfl rfl (fun l => c_X5_copyFrom Z l (AD 6) a (W8 6) (E8 6) (F8 6) (M8 6) (P8 6) (R8 6) w er fl me p pr  o52 e52) qw_240 mv_X5_copyFrom (xPk.seg2 (wS Z hq hs AD pv ++ (wP Z (AD 0) (W8 0) (E8 0) (F8 0) (M8 0) (P8 0) (R8 0) ++ (wP Z (AD 1) (W8 1) (E8 1) (F8 1) (M8 1) (P8 1) (R8 1) ++ (wP Z (AD 2) (W8 2) (E8 2) (F8 2) (M8 2) (P8 2) (R8 2) ++ (wP Z (AD 3) (W8 3) (E8 3) (F8 3) (M8 3) (P8 3) (R8 3) ++ (wP Z (AD 4) (W8 4) (E8 4) (F8 4) (M8 4) (P8 4) (R8 4) ++ (wP Z (AD 5) (W8 5) (E8 5) (F8 5) (M8 5) (P8 5) (R8 5)))))))) (wP Z (AD 6) (W8 6) (E8 6) (F8 6) (M8 6) (P8 6) (R8 6)) (wP Z (AD 6) o52.1 o52.2.1 o52.2.2.1 o52.2.2.2.1 o52.2.2.2.2.1 o52.2.2.2.2.2) (wP Z (AD 7) (W8 7) (E8 7) (F8 7) (M8 7) (P8 7) (R8 7)) (wP Z a w er fl me p pr) (wP Z a w er fl me p pr) (([] : va_W)) (by simp only [List.append_assoc, List.append_nil, List.nil_append]) (by simp only [List.append_assoc, List.append_nil, List.nil_append]) rfl rfl) ⟨Nat.le_of_ble_eq_true rfl, Nat.le_of_ble_eq_true rfl⟩ ⟨rfl, rfl⟩ ⟨Nat.zero_le _, Nat.zero_le _⟩ rfl (Nat.le_of_ble_eq_true rfl) rfl dX4_remember_52 ?_
      refine r_aload_n dX4_remember_55 1 rfl ?_
      refine r_dup dX4_remember_56 rfl ?_
      refine gf_X4_2 (v := .int (pv 1)) 0 rfl rfl qw_148 dX4_remember_57 ?_
      refine r_iconst (v := 1) dX4_remember_60 kic_1 ?_
      refine r_iadd dX4_remember_61 ?_
      refine pf_X4_2 0 rfl (Nat.le_of_ble_eq_true rfl) qw_148 dX4_remember_62 (ws' := wS Z hq hs AD (upd pv 1 ((pv 1) + 1)) ++ (wP Z (AD 0) (W8 0) (E8 0) (F8 0) (M8 0) (P8 0) (R8 0) ++ (wP Z (AD 1) (W8 1) (E8 1) (F8 1) (M8 1) (P8 1) (R8 1) ++ (wP Z (AD 2) (W8 2) (E8 2) (F8 2) (M8 2) (P8 2) (R8 2) ++ (wP Z (AD 3) (W8 3) (E8 3) (F8 3) (M8 3) (P8 3) (R8 3) ++ (wP Z (AD 4) (W8 4) (E8 4) (F8 4) (M8 4) (P8 4) (R8 4) ++ (wP Z (AD 5) (W8 5) (E8 5) (F8 5) (M8 5) (P8 5) (R8 5) ++ (wP Z (AD 6) o52.1 o52.2.1 o52.2.2.1 o52.2.2.2.1 o52.2.2.2.2.1 o52.2.2.2.2.2 ++ (wP Z (AD 7) (W8 7) (E8 7) (F8 7) (M8 7) (P8 7) (R8 7) ++ (wP Z a w er fl me p pr)))))))))) rfl ?_
      exact r_vret (hE _ (Option.some.inj hg)) dX4_remember_65
    replace hg := (if_neg h42_7).symm.trans hg
    by_cases h42_8 : o42 = (some 7)
    · replace hg := (if_pos h42_8).symm.trans hg
      subst h42_8
      refine r_astore_n (lv' := [(2, .ref (AD 7 0)), (0, .ref hq), (1, .ref (a 0))]) dX4_remember_45 (by decide) rfl ?_
      refine r_aload_n dX4_remember_46 0 rfl ?_
      refine r_ifnull dX4_remember_47 ?_
      refine r_aload_n dX4_remember_50 0 rfl ?_
      refine r_aload_n dX4_remember_51 2 rfl ?_
      obtain ⟨o52, e52, hg⟩ := ob hg
      refine r_callV (As := [.ref (a 0)]) (rest := []) (ws' := wS Z hq hs AD pv ++ (wP Z (AD 0) (W8 0) (E8 0) (F8 0) (M8 0) (P8 0) (R8 0) ++ (wP Z (AD 1) (W8 1) (E8 1) (F8 1) (M8 1) (P8 1) (R8 1) ++ (wP Z (AD 2) (W8 2) (E8 2) (F8 2) (M8 2) (P8 2) (R8 2) ++ (wP Z (AD 3) (W8 3) (E8 3) (F8 3) (M8 3) (P8 3) (R8 3) ++ (wP Z (AD 4) (W8 4) (E8 4) (F8 4) (M8 4) (P8 4) (R8 4) ++ (wP Z (AD 5) (W8 5) (E8 5) (F8 5) (M8 5) (P8 5) (R8 5) ++ (wP Z (AD 6) (W8 6) (E8 6) (F8 6) (M8 6) (P8 6) (R8 6) ++ (wP Z (AD 7) o52.1 o52.2.1 o52.2.2.1 o52.2.2.2.1 o52.2.2.2.2.1 o52.2.2.2.2.2 ++ (wP Z a w er fl me p pr)))))))))) 0 rfl rfl rfl (fun l => c_X5_copyFrom Z l (AD 7) a (W8 7) (E8 7) (F8 7) (M8 7) (P8 7) (R8 7) w er fl me p pr  o52 e52) qw_240 mv_X5_copyFrom (xPk.seg2 (wS Z hq hs AD pv ++ (wP Z (AD 0) (W8 0) (E8 0) (F8 0) (M8 0) (P8 0) (R8 0) ++ (wP Z (AD 1) (W8 1) (E8 1) (F8 1) (M8 1) (P8 1) (R8 1) ++ (wP Z (AD 2) (W8 2) (E8 2) (F8 2) (M8 2) (P8 2) (R8 2) ++ (wP Z (AD 3) (W8 3) (E8 3) (F8 3) (M8 3) (P8 3) (R8 3) ++ (wP Z (AD 4) (W8 4) (E8 4) (F8 4) (M8 4) (P8 4) (R8 4) ++ (wP Z (AD 5) (W8 5) (E8 5) (F8 5) (M8 5) (P8 5) (R8 5) ++ (wP Z (AD 6) (W8 6) (E8 6) (F8 6) (M8 6) (P8 6) (R8 6))))))))) (wP Z (AD 7) (W8 7) (E8 7) (F8 7) (M8 7) (P8 7) (R8 7)) (wP Z (AD 7) o52.1 o52.2.1 o52.2.2.1 o52.2.2.2.1 o52.2.2.2.2.1 o52.2.2.2.2.2) (([] : va_W)) (wP Z a w er fl me p pr) (wP Z a w er fl me p pr) (([] : va_W)) (by simp only [List.append_assoc, List.append_nil, List.nil_append]) (by simp only [List.append_assoc, List.append_nil, List.nil_append]) rfl rfl) ⟨Nat.le_of_ble_eq_true rfl, Nat.le_of_ble_eq_true rfl⟩ ⟨rfl, rfl⟩ ⟨Nat.zero_le _, Nat.zero_le _⟩ rfl (Nat.le_of_ble_eq_true rfl) rfl dX4_remember_52 ?_
      refine r_aload_n dX4_remember_55 1 rfl ?_
      refine r_dup dX4_remember_56 rfl ?_
      refine gf_X4_2 (v := .int (pv 1)) 0 rfl rfl qw_148 dX4_remember_57 ?_
      refine r_iconst (v := 1) dX4_remember_60 kic_1 ?_
      refine r_iadd dX4_remember_61 ?_
      refine pf_X4_2 0 rfl (Nat.le_of_ble_eq_true rfl) qw_148 dX4_remember_62 (ws' := wS Z hq hs AD (upd pv 1 ((pv 1) + 1)) ++ (wP Z (AD 0) (W8 0) (E8 0) (F8 0) (M8 0) (P8 0) (R8 0) ++ (wP Z (AD 1) (W8 1) (E8 1) (F8 1) (M8 1) (P8 1) (R8 1) ++ (wP Z (AD 2) (W8 2) (E8 2) (F8 2) (M8 2) (P8 2) (R8 2) ++ (wP Z (AD 3) (W8 3) (E8 3) (F8 3) (M8 3) (P8 3) (R8 3) ++ (wP Z (AD 4) (W8 4) (E8 4) (F8 4) (M8 4) (P8 4) (R8 4) ++ (wP Z (AD 5) (W8 5) (E8 5) (F8 5) (M8 5) (P8 5) (R8 5) ++ (wP Z (AD 6) (W8 6) (E8 6) (F8 6) (M8 6) (P8 6) (R8 6) ++ (wP Z (AD 7) o52.1 o52.2.1 o52.2.2.1 o52.2.2.2.1 o52.2.2.2.2.1 o52.2.2.2.2.2 ++ (wP Z a w er fl me p pr)))))))))) rfl ?_
      exact r_vret (hE _ (Option.some.inj hg)) dX4_remember_65
    replace hg := (if_neg h42_8).symm.trans hg
    exact nomatch (show (none : Option _) = some o from hg)
  unfold g_X4_remember at hg
  show AtK X Z rm_X4_remember cX4_remember RX4 3 0 0 (wS Z hq hs AD pv ++ (wP Z (AD 0) (W8 0) (E8 0) (F8 0) (M8 0) (P8 0) (R8 0) ++ (wP Z (AD 1) (W8 1) (E8 1) (F8 1) (M8 1) (P8 1) (R8 1) ++ (wP Z (AD 2) (W8 2) (E8 2) (F8 2) (M8 2) (P8 2) (R8 2) ++ (wP Z (AD 3) (W8 3) (E8 3) (F8 3) (M8 3) (P8 3) (R8 3) ++ (wP Z (AD 4) (W8 4) (E8 4) (F8 4) (M8 4) (P8 4) (R8 4) ++ (wP Z (AD 5) (W8 5) (E8 5) (F8 5) (M8 5) (P8 5) (R8 5) ++ (wP Z (AD 6) (W8 6) (E8 6) (F8 6) (M8 6) (P8 6) (R8 6) ++ (wP Z (AD 7) (W8 7) (E8 7) (F8 7) (M8 7) (P8 7) (R8 7) ++ (wP Z a w er fl me p pr)))))))))) 0 [(0, .ref hq), (1, .ref (a 0))] []
  refine r_aload_n dX4_remember_0 0 rfl ?_
  refine gf_X4_2 (v := .int (pv 1)) 0 rfl rfl qw_148 dX4_remember_1 ?_
  refine r_bipush (v := 8) dX4_remember_4 kbp_8 ?_
  refine r_icmp_ne (tgt := 32) dX4_remember_6 (by decide) (fun h6 => ?_) (fun h6 => ?_)
  · replace hg := (if_neg h6).symm.trans hg
    exact r_sub [0, 1] rfl (J32 pv W8 E8 F8 M8 P8 R8 hg)
  · replace hg := (if_pos h6).symm.trans hg
    refine r_aload_n dX4_remember_9 0 rfl ?_
    refine r_aload_n dX4_remember_10 0 rfl ?_
    refine gf_X4_1 (v := .int (pv 0)) 0 rfl rfl qw_147 dX4_remember_11 ?_
    refine r_iconst (v := 1) dX4_remember_14 kic_1 ?_
    refine r_iadd dX4_remember_15 ?_
    refine r_bipush (v := 8) dX4_remember_16 kbp_8 ?_
    refine r_irem dX4_remember_18 (by decide) ?_
    refine pf_X4_1 0 rfl (Nat.le_of_ble_eq_true rfl) qw_147 dX4_remember_19 (ws' := wS Z hq hs AD (upd pv 0 (jrem ((pv 0) + 1) 8)) ++ (wP Z (AD 0) (W8 0) (E8 0) (F8 0) (M8 0) (P8 0) (R8 0) ++ (wP Z (AD 1) (W8 1) (E8 1) (F8 1) (M8 1) (P8 1) (R8 1) ++ (wP Z (AD 2) (W8 2) (E8 2) (F8 2) (M8 2) (P8 2) (R8 2) ++ (wP Z (AD 3) (W8 3) (E8 3) (F8 3) (M8 3) (P8 3) (R8 3) ++ (wP Z (AD 4) (W8 4) (E8 4) (F8 4) (M8 4) (P8 4) (R8 4) ++ (wP Z (AD 5) (W8 5) (E8 5) (F8 5) (M8 5) (P8 5) (R8 5) ++ (wP Z (AD 6) (W8 6) (E8 6) (F8 6) (M8 6) (P8 6) (R8 6) ++ (wP Z (AD 7) (W8 7) (E8 7) (F8 7) (M8 7) (P8 7) (R8 7) ++ (wP Z a w er fl me p pr)))))))))) rfl ?_
    refine r_aload_n dX4_remember_22 0 rfl ?_
    refine r_dup dX4_remember_23 rfl ?_
    refine gf_X4_2 (v := .int (pv 1)) 0 rfl rfl qw_148 dX4_remember_24 ?_
    refine r_iconst (v := 1) dX4_remember_27 kic_1 ?_
    refine r_isub dX4_remember_28 ?_
    refine pf_X4_2 0 rfl (Nat.le_of_ble_eq_true rfl) qw_148 dX4_remember_29 (ws' := wS Z hq hs AD (upd (upd pv 0 (jrem ((pv 0) + 1) 8)) 1 ((pv 1) - 1)) ++ (wP Z (AD 0) (W8 0) (E8 0) (F8 0) (M8 0) (P8 0) (R8 0) ++ (wP Z (AD 1) (W8 1) (E8 1) (F8 1) (M8 1) (P8 1) (R8 1) ++ (wP Z (AD 2) (W8 2) (E8 2) (F8 2) (M8 2) (P8 2) (R8 2) ++ (wP Z (AD 3) (W8 3) (E8 3) (F8 3) (M8 3) (P8 3) (R8 3) ++ (wP Z (AD 4) (W8 4) (E8 4) (F8 4) (M8 4) (P8 4) (R8 4) ++ (wP Z (AD 5) (W8 5) (E8 5) (F8 5) (M8 5) (P8 5) (R8 5) ++ (wP Z (AD 6) (W8 6) (E8 6) (F8 6) (M8 6) (P8 6) (R8 6) ++ (wP Z (AD 7) (W8 7) (E8 7) (F8 7) (M8 7) (P8 7) (R8 7) ++ (wP Z a w er fl me p pr)))))))))) rfl ?_
    exact r_sub [0, 1] rfl (J32 (upd (upd pv 0 (jrem ((pv 0) + 1) 8)) 1 ((pv 1) - 1)) W8 E8 F8 M8 P8 R8 hg)

set_option maxHeartbeats 4000000 in
theorem c_X4_rememberQ (Z : GZ) (l : Launch) (hq : Nat) (hs : Nat) (AD : Nat → Nat → Nat) (a : Nat → Nat) (pv : Nat → Int32) (W8 : Nat → Nat → Int32) (E8 : Nat → Nat → Int32) (F8 : Nat → Nat → Int32) (M8 : Nat → Nat → Int32) (P8 : Nat → Nat → Int32) (R8 : Nat → Nat → Int32) (w : Nat → Int32) (er : Nat → Int32) (fl : Nat → Int32) (me : Nat → Int32) (p : Nat → Int32) (pr : Nat → Int32)  (o : ((Nat → Int32) × (Nat → Nat → Int32) × (Nat → Nat → Int32) × (Nat → Nat → Int32) × (Nat → Nat → Int32) × (Nat → Nat → Int32) × (Nat → Nat → Int32))) (hg : g_X4_remember pv W8 E8 F8 M8 P8 R8 w er fl me p pr = some o) : Con Z l yX4_remember cX4_remember 3 none rm_X4_remember [.ref hq, .ref (a 0)] (wQ Z hq hs AD pv W8 E8 F8 M8 P8 R8 ++ (wP Z a w er fl me p pr)) none (wQ Z hq hs AD o.1 o.2.1 o.2.2.1 o.2.2.2.1 o.2.2.2.2.1 o.2.2.2.2.2.1 o.2.2.2.2.2.2 ++ (wP Z a w er fl me p pr)) := by
  have h9 := c_X4_remember Z l hq hs AD a pv W8 E8 F8 M8 P8 R8 w er fl me p pr o hg
  simpa only [wQ, List.append_assoc] using h9

-- TicketJournal$Past.restore(LTicketJournal$Printer;)V
abbrev rm_X4_restore : Room := { frames := 3, cells := 0, slots := 0, locals := 82 }
def g_X4_restore (w : Nat → Int32) (er : Nat → Int32) (fl : Nat → Int32) (me : Nat → Int32) (p : Nat → Int32) (pr : Nat → Int32) (pv : Nat → Int32) (W8 : Nat → Nat → Int32) (E8 : Nat → Nat → Int32) (F8 : Nat → Nat → Int32) (M8 : Nat → Nat → Int32) (P8 : Nat → Nat → Int32) (R8 : Nat → Nat → Int32)  : Option ((Nat → Int32) × (Nat → Int32) × (Nat → Int32) × (Nat → Int32) × (Nat → Int32) × (Nat → Int32) × (Nat → Int32)) :=
  (if (pv 1) ≤ 0 then some (w, er, fl, me, p, pr, pv) else (g_X4_stateAt (((pv 0) + (pv 1)) - 1)).bind fun o19 => (if o19 = none then some (w, er, fl, me, p, pr, pv) else (if o19 = (some 0) then (g_X5_copyFrom w er fl me p pr (W8 0) (E8 0) (F8 0) (M8 0) (P8 0) (R8 0)).bind fun o33 => some (o33.1, o33.2.1, o33.2.2.1, o33.2.2.2.1, o33.2.2.2.2.1, o33.2.2.2.2.2, (upd pv 1 ((pv 1) - 1))) else (if o19 = (some 1) then (g_X5_copyFrom w er fl me p pr (W8 1) (E8 1) (F8 1) (M8 1) (P8 1) (R8 1)).bind fun o33 => some (o33.1, o33.2.1, o33.2.2.1, o33.2.2.2.1, o33.2.2.2.2.1, o33.2.2.2.2.2, (upd pv 1 ((pv 1) - 1))) else (if o19 = (some 2) then (g_X5_copyFrom w er fl me p pr (W8 2) (E8 2) (F8 2) (M8 2) (P8 2) (R8 2)).bind fun o33 => some (o33.1, o33.2.1, o33.2.2.1, o33.2.2.2.1, o33.2.2.2.2.1, o33.2.2.2.2.2, (upd pv 1 ((pv 1) - 1))) else (if o19 = (some 3) then (g_X5_copyFrom w er fl me p pr (W8 3) (E8 3) (F8 3) (M8 3) (P8 3) (R8 3)).bind fun o33 => some (o33.1, o33.2.1, o33.2.2.1, o33.2.2.2.1, o33.2.2.2.2.1, o33.2.2.2.2.2, (upd pv 1 ((pv 1) - 1))) else (if o19 = (some 4) then (g_X5_copyFrom w er fl me p pr (W8 4) (E8 4) (F8 4) (M8 4) (P8 4) (R8 4)).bind fun o33 => some (o33.1, o33.2.1, o33.2.2.1, o33.2.2.2.1, o33.2.2.2.2.1, o33.2.2.2.2.2, (upd pv 1 ((pv 1) - 1))) else (if o19 = (some 5) then (g_X5_copyFrom w er fl me p pr (W8 5) (E8 5) (F8 5) (M8 5) (P8 5) (R8 5)).bind fun o33 => some (o33.1, o33.2.1, o33.2.2.1, o33.2.2.2.1, o33.2.2.2.2.1, o33.2.2.2.2.2, (upd pv 1 ((pv 1) - 1))) else (if o19 = (some 6) then (g_X5_copyFrom w er fl me p pr (W8 6) (E8 6) (F8 6) (M8 6) (P8 6) (R8 6)).bind fun o33 => some (o33.1, o33.2.1, o33.2.2.1, o33.2.2.2.1, o33.2.2.2.2.1, o33.2.2.2.2.2, (upd pv 1 ((pv 1) - 1))) else (if o19 = (some 7) then (g_X5_copyFrom w er fl me p pr (W8 7) (E8 7) (F8 7) (M8 7) (P8 7) (R8 7)).bind fun o33 => some (o33.1, o33.2.1, o33.2.2.1, o33.2.2.2.1, o33.2.2.2.2.1, o33.2.2.2.2.2, (upd pv 1 ((pv 1) - 1))) else none))))))))))
set_option maxHeartbeats 4000000 in
set_option maxRecDepth 100000 in
theorem c_X4_restore (Z : GZ) (l : Launch) (a : Nat → Nat) (hq : Nat) (hs : Nat) (AD : Nat → Nat → Nat) (w : Nat → Int32) (er : Nat → Int32) (fl : Nat → Int32) (me : Nat → Int32) (p : Nat → Int32) (pr : Nat → Int32) (pv : Nat → Int32) (W8 : Nat → Nat → Int32) (E8 : Nat → Nat → Int32) (F8 : Nat → Nat → Int32) (M8 : Nat → Nat → Int32) (P8 : Nat → Nat → Int32) (R8 : Nat → Nat → Int32)  (o : ((Nat → Int32) × (Nat → Int32) × (Nat → Int32) × (Nat → Int32) × (Nat → Int32) × (Nat → Int32) × (Nat → Int32))) (hg : g_X4_restore w er fl me p pr pv W8 E8 F8 M8 P8 R8 = some o) : Con Z l yX4_restore cX4_restore 3 none rm_X4_restore [.ref hq, .ref (a 0)] (wP Z a w er fl me p pr ++ (wS Z hq hs AD pv ++ (wP Z (AD 0) (W8 0) (E8 0) (F8 0) (M8 0) (P8 0) (R8 0) ++ (wP Z (AD 1) (W8 1) (E8 1) (F8 1) (M8 1) (P8 1) (R8 1) ++ (wP Z (AD 2) (W8 2) (E8 2) (F8 2) (M8 2) (P8 2) (R8 2) ++ (wP Z (AD 3) (W8 3) (E8 3) (F8 3) (M8 3) (P8 3) (R8 3) ++ (wP Z (AD 4) (W8 4) (E8 4) (F8 4) (M8 4) (P8 4) (R8 4) ++ (wP Z (AD 5) (W8 5) (E8 5) (F8 5) (M8 5) (P8 5) (R8 5) ++ (wP Z (AD 6) (W8 6) (E8 6) (F8 6) (M8 6) (P8 6) (R8 6) ++ (wP Z (AD 7) (W8 7) (E8 7) (F8 7) (M8 7) (P8 7) (R8 7))))))))))) none (wP Z a o.1 o.2.1 o.2.2.1 o.2.2.2.1 o.2.2.2.2.1 o.2.2.2.2.2.1 ++ (wS Z hq hs AD o.2.2.2.2.2.2 ++ (wP Z (AD 0) (W8 0) (E8 0) (F8 0) (M8 0) (P8 0) (R8 0) ++ (wP Z (AD 1) (W8 1) (E8 1) (F8 1) (M8 1) (P8 1) (R8 1) ++ (wP Z (AD 2) (W8 2) (E8 2) (F8 2) (M8 2) (P8 2) (R8 2) ++ (wP Z (AD 3) (W8 3) (E8 3) (F8 3) (M8 3) (P8 3) (R8 3) ++ (wP Z (AD 4) (W8 4) (E8 4) (F8 4) (M8 4) (P8 4) (R8 4) ++ (wP Z (AD 5) (W8 5) (E8 5) (F8 5) (M8 5) (P8 5) (R8 5) ++ (wP Z (AD 6) (W8 6) (E8 6) (F8 6) (M8 6) (P8 6) (R8 6) ++ (wP Z (AD 7) (W8 7) (E8 7) (F8 7) (M8 7) (P8 7) (R8 7))))))))))) := by
  refine Con.of (by decide) (Nat.le_of_ble_eq_true rfl) ?_
  intro X hE0
  have hE : ∀ z, z = o → endsX X Z none none (wP Z a z.1 z.2.1 z.2.2.1 z.2.2.2.1 z.2.2.2.2.1 z.2.2.2.2.2.1 ++ (wS Z hq hs AD z.2.2.2.2.2.2 ++ (wP Z (AD 0) (W8 0) (E8 0) (F8 0) (M8 0) (P8 0) (R8 0) ++ (wP Z (AD 1) (W8 1) (E8 1) (F8 1) (M8 1) (P8 1) (R8 1) ++ (wP Z (AD 2) (W8 2) (E8 2) (F8 2) (M8 2) (P8 2) (R8 2) ++ (wP Z (AD 3) (W8 3) (E8 3) (F8 3) (M8 3) (P8 3) (R8 3) ++ (wP Z (AD 4) (W8 4) (E8 4) (F8 4) (M8 4) (P8 4) (R8 4) ++ (wP Z (AD 5) (W8 5) (E8 5) (F8 5) (M8 5) (P8 5) (R8 5) ++ (wP Z (AD 6) (W8 6) (E8 6) (F8 6) (M8 6) (P8 6) (R8 6) ++ (wP Z (AD 7) (W8 7) (E8 7) (F8 7) (M8 7) (P8 7) (R8 7))))))))))) := by
    rintro _ rfl; exact hE0
  unfold g_X4_restore at hg
  show AtK X Z rm_X4_restore cX4_restore RX4 3 0 0 (wP Z a w er fl me p pr ++ (wS Z hq hs AD pv ++ (wP Z (AD 0) (W8 0) (E8 0) (F8 0) (M8 0) (P8 0) (R8 0) ++ (wP Z (AD 1) (W8 1) (E8 1) (F8 1) (M8 1) (P8 1) (R8 1) ++ (wP Z (AD 2) (W8 2) (E8 2) (F8 2) (M8 2) (P8 2) (R8 2) ++ (wP Z (AD 3) (W8 3) (E8 3) (F8 3) (M8 3) (P8 3) (R8 3) ++ (wP Z (AD 4) (W8 4) (E8 4) (F8 4) (M8 4) (P8 4) (R8 4) ++ (wP Z (AD 5) (W8 5) (E8 5) (F8 5) (M8 5) (P8 5) (R8 5) ++ (wP Z (AD 6) (W8 6) (E8 6) (F8 6) (M8 6) (P8 6) (R8 6) ++ (wP Z (AD 7) (W8 7) (E8 7) (F8 7) (M8 7) (P8 7) (R8 7))))))))))) 0 [(0, .ref hq), (1, .ref (a 0))] []
  refine r_aload_n dX4_restore_0 0 rfl ?_
  refine gf_X4_2 (v := .int (pv 1)) 6 rfl rfl qw_148 dX4_restore_1 ?_
  refine r_if_le (tgt := 25) dX4_restore_4 (by decide) (fun h4 => ?_) (fun h4 => ?_)
  · replace hg := (if_pos h4).symm.trans hg
    refine r_null dX4_restore_25 ?_
    refine r_astore_nN (lv' := [(2, .null), (0, .ref hq), (1, .ref (a 0))]) dX4_restore_26 (by decide) rfl ?_
    refine r_aload_nN dX4_restore_27 0 rfl ?_
    refine r_ifnullN (tgt := 46) dX4_restore_28 (by decide) ?_
    exact r_vret (hE _ (Option.some.inj hg)) dX4_restore_46
  · replace hg := (if_neg h4).symm.trans hg
    refine r_aload_n dX4_restore_7 0 rfl ?_
    refine r_aload_n dX4_restore_8 0 rfl ?_
    refine gf_X4_1 (v := .int (pv 0)) 6 rfl rfl qw_147 dX4_restore_9 ?_
    refine r_aload_n dX4_restore_12 0 rfl ?_
    refine gf_X4_2 (v := .int (pv 1)) 6 rfl rfl qw_148 dX4_restore_13 ?_
    refine r_iadd dX4_restore_16 ?_
    refine r_iconst (v := 1) dX4_restore_17 kic_1 ?_
    refine r_isub dX4_restore_18 ?_
    obtain ⟨o19, e19, hg⟩ := ob hg
    refine r_callV (As := [.int (((pv 0) + (pv 1)) - 1)]) (rest := []) (ws' := wP Z a w er fl me p pr ++ (wS Z hq hs AD pv ++ (wP Z (AD 0) (W8 0) (E8 0) (F8 0) (M8 0) (P8 0) (R8 0) ++ (wP Z (AD 1) (W8 1) (E8 1) (F8 1) (M8 1) (P8 1) (R8 1) ++ (wP Z (AD 2) (W8 2) (E8 2) (F8 2) (M8 2) (P8 2) (R8 2) ++ (wP Z (AD 3) (W8 3) (E8 3) (F8 3) (M8 3) (P8 3) (R8 3) ++ (wP Z (AD 4) (W8 4) (E8 4) (F8 4) (M8 4) (P8 4) (R8 4) ++ (wP Z (AD 5) (W8 5) (E8 5) (F8 5) (M8 5) (P8 5) (R8 5) ++ (wP Z (AD 6) (W8 6) (E8 6) (F8 6) (M8 6) (P8 6) (R8 6) ++ (wP Z (AD 7) (W8 7) (E8 7) (F8 7) (M8 7) (P8 7) (R8 7))))))))))) 0 rfl rfl rfl (fun l => c_X4_stateAt Z l hq hs AD pv (((pv 0) + (pv 1)) - 1) o19 e19) qw_236 mv_X4_stateAt (xPk.idx [6, 7] rfl rfl rfl rfl rfl) ⟨Nat.le_of_ble_eq_true rfl, Nat.le_of_ble_eq_true rfl⟩ ⟨rfl, rfl⟩ ⟨Nat.zero_le _, Nat.zero_le _⟩ rfl (Nat.le_of_ble_eq_true rfl) rfl dX4_restore_19 ?_
    by_cases h19_0 : o19 = none
    · replace hg := (if_pos h19_0).symm.trans hg
      subst h19_0
      refine r_goto (tgt := 26) dX4_restore_22 (by decide) ?_
      refine r_astore_nN (lv' := [(2, .null), (0, .ref hq), (1, .ref (a 0))]) dX4_restore_26 (by decide) rfl ?_
      refine r_aload_nN dX4_restore_27 0 rfl ?_
      refine r_ifnullN (tgt := 46) dX4_restore_28 (by decide) ?_
      exact r_vret (hE _ (Option.some.inj hg)) dX4_restore_46
    replace hg := (if_neg h19_0).symm.trans hg
    by_cases h19_1 : o19 = (some 0)
    · replace hg := (if_pos h19_1).symm.trans hg
      subst h19_1
      refine r_goto (tgt := 26) dX4_restore_22 (by decide) ?_
      refine r_astore_n (lv' := [(2, .ref (AD 0 0)), (0, .ref hq), (1, .ref (a 0))]) dX4_restore_26 (by decide) rfl ?_
      refine r_aload_n dX4_restore_27 0 rfl ?_
      refine r_ifnull dX4_restore_28 ?_
      refine r_aload_n dX4_restore_31 2 rfl ?_
      refine r_aload_n dX4_restore_32 0 rfl ?_
      obtain ⟨o33, e33, hg⟩ := ob hg
      refine r_callV (As := [.ref (AD 0 0)]) (rest := []) (ws' := wP Z a o33.1 o33.2.1 o33.2.2.1 o33.2.2.2.1 o33.2.2.2.2.1 o33.2.2.2.2.2 ++ (wS Z hq hs AD pv ++ (wP Z (AD 0) (W8 0) (E8 0) (F8 0) (M8 0) (P8 0) (R8 0) ++ (wP Z (AD 1) (W8 1) (E8 1) (F8 1) (M8 1) (P8 1) (R8 1) ++ (wP Z (AD 2) (W8 2) (E8 2) (F8 2) (M8 2) (P8 2) (R8 2) ++ (wP Z (AD 3) (W8 3) (E8 3) (F8 3) (M8 3) (P8 3) (R8 3) ++ (wP Z (AD 4) (W8 4) (E8 4) (F8 4) (M8 4) (P8 4) (R8 4) ++ (wP Z (AD 5) (W8 5) (E8 5) (F8 5) (M8 5) (P8 5) (R8 5) ++ (wP Z (AD 6) (W8 6) (E8 6) (F8 6) (M8 6) (P8 6) (R8 6) ++ (wP Z (AD 7) (W8 7) (E8 7) (F8 7) (M8 7) (P8 7) (R8 7))))))))))) 0 rfl rfl rfl (fun l => c_X5_copyFrom Z l a (AD 0) w er fl me p pr (W8 0) (E8 0) (F8 0) (M8 0) (P8 0) (R8 0)  o33 e33) qw_240 mv_X5_copyFrom (xPk.idx [0, 1, 2, 3, 4, 5, 8, 9, 10, 11, 12, 13] rfl rfl rfl rfl rfl) ⟨Nat.le_of_ble_eq_true rfl, Nat.le_of_ble_eq_true rfl⟩ ⟨rfl, rfl⟩ ⟨Nat.zero_le _, Nat.zero_le _⟩ rfl (Nat.le_of_ble_eq_true rfl) rfl dX4_restore_33 ?_
      refine r_aload_n dX4_restore_36 1 rfl ?_
      refine r_dup dX4_restore_37 rfl ?_
      refine gf_X4_2 (v := .int (pv 1)) 6 rfl rfl qw_148 dX4_restore_38 ?_
      refine r_iconst (v := 1) dX4_restore_41 kic_1 ?_
      refine r_isub dX4_restore_42 ?_
      refine pf_X4_2 6 rfl (Nat.le_of_ble_eq_true rfl) qw_148 dX4_restore_43 (ws' := wP Z a o33.1 o33.2.1 o33.2.2.1 o33.2.2.2.1 o33.2.2.2.2.1 o33.2.2.2.2.2 ++ (wS Z hq hs AD (upd pv 1 ((pv 1) - 1)) ++ (wP Z (AD 0) (W8 0) (E8 0) (F8 0) (M8 0) (P8 0) (R8 0) ++ (wP Z (AD 1) (W8 1) (E8 1) (F8 1) (M8 1) (P8 1) (R8 1) ++ (wP Z (AD 2) (W8 2) (E8 2) (F8 2) (M8 2) (P8 2) (R8 2) ++ (wP Z (AD 3) (W8 3) (E8 3) (F8 3) (M8 3) (P8 3) (R8 3) ++ (wP Z (AD 4) (W8 4) (E8 4) (F8 4) (M8 4) (P8 4) (R8 4) ++ (wP Z (AD 5) (W8 5) (E8 5) (F8 5) (M8 5) (P8 5) (R8 5) ++ (wP Z (AD 6) (W8 6) (E8 6) (F8 6) (M8 6) (P8 6) (R8 6) ++ (wP Z (AD 7) (W8 7) (E8 7) (F8 7) (M8 7) (P8 7) (R8 7))))))))))) rfl ?_
      exact r_vret (hE _ (Option.some.inj hg)) dX4_restore_46
    replace hg := (if_neg h19_1).symm.trans hg
    by_cases h19_2 : o19 = (some 1)
    · replace hg := (if_pos h19_2).symm.trans hg
      subst h19_2
      refine r_goto (tgt := 26) dX4_restore_22 (by decide) ?_
      refine r_astore_n (lv' := [(2, .ref (AD 1 0)), (0, .ref hq), (1, .ref (a 0))]) dX4_restore_26 (by decide) rfl ?_
      refine r_aload_n dX4_restore_27 0 rfl ?_
      refine r_ifnull dX4_restore_28 ?_
      refine r_aload_n dX4_restore_31 2 rfl ?_
      refine r_aload_n dX4_restore_32 0 rfl ?_
      obtain ⟨o33, e33, hg⟩ := ob hg
      refine r_callV (As := [.ref (AD 1 0)]) (rest := []) (ws' := wP Z a o33.1 o33.2.1 o33.2.2.1 o33.2.2.2.1 o33.2.2.2.2.1 o33.2.2.2.2.2 ++ (wS Z hq hs AD pv ++ (wP Z (AD 0) (W8 0) (E8 0) (F8 0) (M8 0) (P8 0) (R8 0) ++ (wP Z (AD 1) (W8 1) (E8 1) (F8 1) (M8 1) (P8 1) (R8 1) ++ (wP Z (AD 2) (W8 2) (E8 2) (F8 2) (M8 2) (P8 2) (R8 2) ++ (wP Z (AD 3) (W8 3) (E8 3) (F8 3) (M8 3) (P8 3) (R8 3) ++ (wP Z (AD 4) (W8 4) (E8 4) (F8 4) (M8 4) (P8 4) (R8 4) ++ (wP Z (AD 5) (W8 5) (E8 5) (F8 5) (M8 5) (P8 5) (R8 5) ++ (wP Z (AD 6) (W8 6) (E8 6) (F8 6) (M8 6) (P8 6) (R8 6) ++ (wP Z (AD 7) (W8 7) (E8 7) (F8 7) (M8 7) (P8 7) (R8 7))))))))))) 0 rfl rfl rfl (fun l => c_X5_copyFrom Z l a (AD 1) w er fl me p pr (W8 1) (E8 1) (F8 1) (M8 1) (P8 1) (R8 1)  o33 e33) qw_240 mv_X5_copyFrom (xPk.idx [0, 1, 2, 3, 4, 5, 14, 15, 16, 17, 18, 19] rfl rfl rfl rfl rfl) ⟨Nat.le_of_ble_eq_true rfl, Nat.le_of_ble_eq_true rfl⟩ ⟨rfl, rfl⟩ ⟨Nat.zero_le _, Nat.zero_le _⟩ rfl (Nat.le_of_ble_eq_true rfl) rfl dX4_restore_33 ?_
      refine r_aload_n dX4_restore_36 1 rfl ?_
      refine r_dup dX4_restore_37 rfl ?_
      refine gf_X4_2 (v := .int (pv 1)) 6 rfl rfl qw_148 dX4_restore_38 ?_
      refine r_iconst (v := 1) dX4_restore_41 kic_1 ?_
      refine r_isub dX4_restore_42 ?_
      refine pf_X4_2 6 rfl (Nat.le_of_ble_eq_true rfl) qw_148 dX4_restore_43 (ws' := wP Z a o33.1 o33.2.1 o33.2.2.1 o33.2.2.2.1 o33.2.2.2.2.1 o33.2.2.2.2.2 ++ (wS Z hq hs AD (upd pv 1 ((pv 1) - 1)) ++ (wP Z (AD 0) (W8 0) (E8 0) (F8 0) (M8 0) (P8 0) (R8 0) ++ (wP Z (AD 1) (W8 1) (E8 1) (F8 1) (M8 1) (P8 1) (R8 1) ++ (wP Z (AD 2) (W8 2) (E8 2) (F8 2) (M8 2) (P8 2) (R8 2) ++ (wP Z (AD 3) (W8 3) (E8 3) (F8 3) (M8 3) (P8 3) (R8 3) ++ (wP Z (AD 4) (W8 4) (E8 4) (F8 4) (M8 4) (P8 4) (R8 4) ++ (wP Z (AD 5) (W8 5) (E8 5) (F8 5) (M8 5) (P8 5) (R8 5) ++ (wP Z (AD 6) (W8 6) (E8 6) (F8 6) (M8 6) (P8 6) (R8 6) ++ (wP Z (AD 7) (W8 7) (E8 7) (F8 7) (M8 7) (P8 7) (R8 7))))))))))) rfl ?_
      exact r_vret (hE _ (Option.some.inj hg)) dX4_restore_46
    replace hg := (if_neg h19_2).symm.trans hg
    by_cases h19_3 : o19 = (some 2)
    · replace hg := (if_pos h19_3).symm.trans hg
      subst h19_3
      refine r_goto (tgt := 26) dX4_restore_22 (by decide) ?_
      refine r_astore_n (lv' := [(2, .ref (AD 2 0)), (0, .ref hq), (1, .ref (a 0))]) dX4_restore_26 (by decide) rfl ?_
      refine r_aload_n dX4_restore_27 0 rfl ?_
      refine r_ifnull dX4_restore_28 ?_
      refine r_aload_n dX4_restore_31 2 rfl ?_
      refine r_aload_n dX4_restore_32 0 rfl ?_
      obtain ⟨o33, e33, hg⟩ := ob hg
      refine r_callV (As := [.ref (AD 2 0)]) (rest := []) (ws' := wP Z a o33.1 o33.2.1 o33.2.2.1 o33.2.2.2.1 o33.2.2.2.2.1 o33.2.2.2.2.2 ++ (wS Z hq hs AD pv ++ (wP Z (AD 0) (W8 0) (E8 0) (F8 0) (M8 0) (P8 0) (R8 0) ++ (wP Z (AD 1) (W8 1) (E8 1) (F8 1) (M8 1) (P8 1) (R8 1) ++ (wP Z (AD 2) (W8 2) (E8 2) (F8 2) (M8 2) (P8 2) (R8 2) ++ (wP Z (AD 3) (W8 3) (E8 3) (F8 3) (M8 3) (P8 3) (R8 3) ++ (wP Z (AD 4) (W8 4) (E8 4) (F8 4) (M8 4) (P8 4) (R8 4) ++ (wP Z (AD 5) (W8 5) (E8 5) (F8 5) (M8 5) (P8 5) (R8 5) ++ (wP Z (AD 6) (W8 6) (E8 6) (F8 6) (M8 6) (P8 6) (R8 6) ++ (wP Z (AD 7) (W8 7) (E8 7) (F8 7) (M8 7) (P8 7) (R8 7))))))))))) 0 rfl rfl rfl (fun l => c_X5_copyFrom Z l a (AD 2) w er fl me p pr (W8 2) (E8 2) (F8 2) (M8 2) (P8 2) (R8 2)  o33 e33) qw_240 mv_X5_copyFrom (xPk.seg2 (([] : va_W)) (wP Z a w er fl me p pr) (wP Z a o33.1 o33.2.1 o33.2.2.1 o33.2.2.2.1 o33.2.2.2.2.1 o33.2.2.2.2.2) (wS Z hq hs AD pv ++ (wP Z (AD 0) (W8 0) (E8 0) (F8 0) (M8 0) (P8 0) (R8 0) ++ (wP Z (AD 1) (W8 1) (E8 1) (F8 1) (M8 1) (P8 1) (R8 1)))) (wP Z (AD 2) (W8 2) (E8 2) (F8 2) (M8 2) (P8 2) (R8 2)) (wP Z (AD 2) (W8 2) (E8 2) (F8 2) (M8 2) (P8 2) (R8 2)) (wP Z (AD 3) (W8 3) (E8 3) (F8 3) (M8 3) (P8 3) (R8 3) ++ (wP Z (AD 4) (W8 4) (E8 4) (F8 4) (M8 4) (P8 4) (R8 4) ++ (wP Z (AD 5) (W8 5) (E8 5) (F8 5) (M8 5) (P8 5) (R8 5) ++ (wP Z (AD 6) (W8 6) (E8 6) (F8 6) (M8 6) (P8 6) (R8 6) ++ (wP Z (AD 7) (W8 7) (E8 7) (F8 7) (M8 7) (P8 7) (R8 7)))))) (by simp only [List.append_assoc, List.append_nil, List.nil_append]) (by simp only [List.append_assoc, List.append_nil, List.nil_append]) rfl rfl) ⟨Nat.le_of_ble_eq_true rfl, Nat.le_of_ble_eq_true rfl⟩ ⟨rfl, rfl⟩ ⟨Nat.zero_le _, Nat.zero_le _⟩ rfl (Nat.le_of_ble_eq_true rfl) rfl dX4_restore_33 ?_
      refine r_aload_n dX4_restore_36 1 rfl ?_
      refine r_dup dX4_restore_37 rfl ?_
      refine gf_X4_2 (v := .int (pv 1)) 6 rfl rfl qw_148 dX4_restore_38 ?_
      refine r_iconst (v := 1) dX4_restore_41 kic_1 ?_
      refine r_isub dX4_restore_42 ?_
      refine pf_X4_2 6 rfl (Nat.le_of_ble_eq_true rfl) qw_148 dX4_restore_43 (ws' := wP Z a o33.1 o33.2.1 o33.2.2.1 o33.2.2.2.1 o33.2.2.2.2.1 o33.2.2.2.2.2 ++ (wS Z hq hs AD (upd pv 1 ((pv 1) - 1)) ++ (wP Z (AD 0) (W8 0) (E8 0) (F8 0) (M8 0) (P8 0) (R8 0) ++ (wP Z (AD 1) (W8 1) (E8 1) (F8 1) (M8 1) (P8 1) (R8 1) ++ (wP Z (AD 2) (W8 2) (E8 2) (F8 2) (M8 2) (P8 2) (R8 2) ++ (wP Z (AD 3) (W8 3) (E8 3) (F8 3) (M8 3) (P8 3) (R8 3) ++ (wP Z (AD 4) (W8 4) (E8 4) (F8 4) (M8 4) (P8 4) (R8 4) ++ (wP Z (AD 5) (W8 5) (E8 5) (F8 5) (M8 5) (P8 5) (R8 5) ++ (wP Z (AD 6) (W8 6) (E8 6) (F8 6) (M8 6) (P8 6) (R8 6) ++ (wP Z (AD 7) (W8 7) (E8 7) (F8 7) (M8 7) (P8 7) (R8 7))))))))))) rfl ?_
      exact r_vret (hE _ (Option.some.inj hg)) dX4_restore_46
    replace hg := (if_neg h19_3).symm.trans hg
    by_cases h19_4 : o19 = (some 3)
    · replace hg := (if_pos h19_4).symm.trans hg
      subst h19_4
      refine r_goto (tgt := 26) dX4_restore_22 (by decide) ?_
      refine r_astore_n (lv' := [(2, .ref (AD 3 0)), (0, .ref hq), (1, .ref (a 0))]) dX4_restore_26 (by decide) rfl ?_
      refine r_aload_n dX4_restore_27 0 rfl ?_
      refine r_ifnull dX4_restore_28 ?_
      refine r_aload_n dX4_restore_31 2 rfl ?_
      refine r_aload_n dX4_restore_32 0 rfl ?_
      obtain ⟨o33, e33, hg⟩ := ob hg
      refine r_callV (As := [.ref (AD 3 0)]) (rest := []) (ws' := wP Z a o33.1 o33.2.1 o33.2.2.1 o33.2.2.2.1 o33.2.2.2.2.1 o33.2.2.2.2.2 ++ (wS Z hq hs AD pv ++ (wP Z (AD 0) (W8 0) (E8 0) (F8 0) (M8 0) (P8 0) (R8 0) ++ (wP Z (AD 1) (W8 1) (E8 1) (F8 1) (M8 1) (P8 1) (R8 1) ++ (wP Z (AD 2) (W8 2) (E8 2) (F8 2) (M8 2) (P8 2) (R8 2) ++ (wP Z (AD 3) (W8 3) (E8 3) (F8 3) (M8 3) (P8 3) (R8 3) ++ (wP Z (AD 4) (W8 4) (E8 4) (F8 4) (M8 4) (P8 4) (R8 4) ++ (wP Z (AD 5) (W8 5) (E8 5) (F8 5) (M8 5) (P8 5) (R8 5) ++ (wP Z (AD 6) (W8 6) (E8 6) (F8 6) (M8 6) (P8 6) (R8 6) ++ (wP Z (AD 7) (W8 7) (E8 7) (F8 7) (M8 7) (P8 7) (R8 7))))))))))) 0 rfl rfl rfl (fun l => c_X5_copyFrom Z l a (AD 3) w er fl me p pr (W8 3) (E8 3) (F8 3) (M8 3) (P8 3) (R8 3)  o33 e33) qw_240 mv_X5_copyFrom (xPk.seg2 (([] : va_W)) (wP Z a w er fl me p pr) (wP Z a o33.1 o33.2.1 o33.2.2.1 o33.2.2.2.1 o33.2.2.2.2.1 o33.2.2.2.2.2) (wS Z hq hs AD pv ++ (wP Z (AD 0) (W8 0) (E8 0) (F8 0) (M8 0) (P8 0) (R8 0) ++ (wP Z (AD 1) (W8 1) (E8 1) (F8 1) (M8 1) (P8 1) (R8 1) ++ (wP Z (AD 2) (W8 2) (E8 2) (F8 2) (M8 2) (P8 2) (R8 2))))) (wP Z (AD 3) (W8 3) (E8 3) (F8 3) (M8 3) (P8 3) (R8 3)) (wP Z (AD 3) (W8 3) (E8 3) (F8 3) (M8 3) (P8 3) (R8 3)) (wP Z (AD 4) (W8 4) (E8 4) (F8 4) (M8 4) (P8 4) (R8 4) ++ (wP Z (AD 5) (W8 5) (E8 5) (F8 5) (M8 5) (P8 5) (R8 5) ++ (wP Z (AD 6) (W8 6) (E8 6) (F8 6) (M8 6) (P8 6) (R8 6) ++ (wP Z (AD 7) (W8 7) (E8 7) (F8 7) (M8 7) (P8 7) (R8 7))))) (by simp only [List.append_assoc, List.append_nil, List.nil_append]) (by simp only [List.append_assoc, List.append_nil, List.nil_append]) rfl rfl) ⟨Nat.le_of_ble_eq_true rfl, Nat.le_of_ble_eq_true rfl⟩ ⟨rfl, rfl⟩ ⟨Nat.zero_le _, Nat.zero_le _⟩ rfl (Nat.le_of_ble_eq_true rfl) rfl dX4_restore_33 ?_
      refine r_aload_n dX4_restore_36 1 rfl ?_
      refine r_dup dX4_restore_37 rfl ?_
      refine gf_X4_2 (v := .int (pv 1)) 6 rfl rfl qw_148 dX4_restore_38 ?_
      refine r_iconst (v := 1) dX4_restore_41 kic_1 ?_
      refine r_isub dX4_restore_42 ?_
      refine pf_X4_2 6 rfl (Nat.le_of_ble_eq_true rfl) qw_148 dX4_restore_43 (ws' := wP Z a o33.1 o33.2.1 o33.2.2.1 o33.2.2.2.1 o33.2.2.2.2.1 o33.2.2.2.2.2 ++ (wS Z hq hs AD (upd pv 1 ((pv 1) - 1)) ++ (wP Z (AD 0) (W8 0) (E8 0) (F8 0) (M8 0) (P8 0) (R8 0) ++ (wP Z (AD 1) (W8 1) (E8 1) (F8 1) (M8 1) (P8 1) (R8 1) ++ (wP Z (AD 2) (W8 2) (E8 2) (F8 2) (M8 2) (P8 2) (R8 2) ++ (wP Z (AD 3) (W8 3) (E8 3) (F8 3) (M8 3) (P8 3) (R8 3) ++ (wP Z (AD 4) (W8 4) (E8 4) (F8 4) (M8 4) (P8 4) (R8 4) ++ (wP Z (AD 5) (W8 5) (E8 5) (F8 5) (M8 5) (P8 5) (R8 5) ++ (wP Z (AD 6) (W8 6) (E8 6) (F8 6) (M8 6) (P8 6) (R8 6) ++ (wP Z (AD 7) (W8 7) (E8 7) (F8 7) (M8 7) (P8 7) (R8 7))))))))))) rfl ?_
      exact r_vret (hE _ (Option.some.inj hg)) dX4_restore_46
    replace hg := (if_neg h19_4).symm.trans hg
    by_cases h19_5 : o19 = (some 4)
    · replace hg := (if_pos h19_5).symm.trans hg
      subst h19_5
      refine r_goto (tgt := 26) dX4_restore_22 (by decide) ?_
      refine r_astore_n (lv' := [(2, .ref (AD 4 0)), (0, .ref hq), (1, .ref (a 0))]) dX4_restore_26 (by decide) rfl ?_
      refine r_aload_n dX4_restore_27 0 rfl ?_
      refine r_ifnull dX4_restore_28 ?_
      refine r_aload_n dX4_restore_31 2 rfl ?_
      refine r_aload_n dX4_restore_32 0 rfl ?_
      obtain ⟨o33, e33, hg⟩ := ob hg
      refine r_callV (As := [.ref (AD 4 0)]) (rest := []) (ws' := wP Z a o33.1 o33.2.1 o33.2.2.1 o33.2.2.2.1 o33.2.2.2.2.1 o33.2.2.2.2.2 ++ (wS Z hq hs AD pv ++ (wP Z (AD 0) (W8 0) (E8 0) (F8 0) (M8 0) (P8 0) (R8 0) ++ (wP Z (AD 1) (W8 1) (E8 1) (F8 1) (M8 1) (P8 1) (R8 1) ++ (wP Z (AD 2) (W8 2) (E8 2) (F8 2) (M8 2) (P8 2) (R8 2) ++ (wP Z (AD 3) (W8 3) (E8 3) (F8 3) (M8 3) (P8 3) (R8 3) ++ (wP Z (AD 4) (W8 4) (E8 4) (F8 4) (M8 4) (P8 4) (R8 4) ++ (wP Z (AD 5) (W8 5) (E8 5) (F8 5) (M8 5) (P8 5) (R8 5) ++ (wP Z (AD 6) (W8 6) (E8 6) (F8 6) (M8 6) (P8 6) (R8 6) ++ (wP Z (AD 7) (W8 7) (E8 7) (F8 7) (M8 7) (P8 7) (R8 7))))))))))) 0 rfl rfl rfl (fun l => c_X5_copyFrom Z l a (AD 4) w er fl me p pr (W8 4) (E8 4) (F8 4) (M8 4) (P8 4) (R8 4)  o33 e33) qw_240 mv_X5_copyFrom (xPk.seg2 (([] : va_W)) (wP Z a w er fl me p pr) (wP Z a o33.1 o33.2.1 o33.2.2.1 o33.2.2.2.1 o33.2.2.2.2.1 o33.2.2.2.2.2) (wS Z hq hs AD pv ++ (wP Z (AD 0) (W8 0) (E8 0) (F8 0) (M8 0) (P8 0) (R8 0) ++ (wP Z (AD 1) (W8 1) (E8 1) (F8 1) (M8 1) (P8 1) (R8 1) ++ (wP Z (AD 2) (W8 2) (E8 2) (F8 2) (M8 2) (P8 2) (R8 2) ++ (wP Z (AD 3) (W8 3) (E8 3) (F8 3) (M8 3) (P8 3) (R8 3)))))) (wP Z (AD 4) (W8 4) (E8 4) (F8 4) (M8 4) (P8 4) (R8 4)) (wP Z (AD 4) (W8 4) (E8 4) (F8 4) (M8 4) (P8 4) (R8 4)) (wP Z (AD 5) (W8 5) (E8 5) (F8 5) (M8 5) (P8 5) (R8 5) ++ (wP Z (AD 6) (W8 6) (E8 6) (F8 6) (M8 6) (P8 6) (R8 6) ++ (wP Z (AD 7) (W8 7) (E8 7) (F8 7) (M8 7) (P8 7) (R8 7)))) (by simp only [List.append_assoc, List.append_nil, List.nil_append]) (by simp only [List.append_assoc, List.append_nil, List.nil_append]) rfl rfl) ⟨Nat.le_of_ble_eq_true rfl, Nat.le_of_ble_eq_true rfl⟩ ⟨rfl, rfl⟩ ⟨Nat.zero_le _, Nat.zero_le _⟩ rfl (Nat.le_of_ble_eq_true rfl) rfl dX4_restore_33 ?_
      refine r_aload_n dX4_restore_36 1 rfl ?_
      refine r_dup dX4_restore_37 rfl ?_
      refine gf_X4_2 (v := .int (pv 1)) 6 rfl rfl qw_148 dX4_restore_38 ?_
      refine r_iconst (v := 1) dX4_restore_41 kic_1 ?_
      refine r_isub dX4_restore_42 ?_
      refine pf_X4_2 6 rfl (Nat.le_of_ble_eq_true rfl) qw_148 dX4_restore_43 (ws' := wP Z a o33.1 o33.2.1 o33.2.2.1 o33.2.2.2.1 o33.2.2.2.2.1 o33.2.2.2.2.2 ++ (wS Z hq hs AD (upd pv 1 ((pv 1) - 1)) ++ (wP Z (AD 0) (W8 0) (E8 0) (F8 0) (M8 0) (P8 0) (R8 0) ++ (wP Z (AD 1) (W8 1) (E8 1) (F8 1) (M8 1) (P8 1) (R8 1) ++ (wP Z (AD 2) (W8 2) (E8 2) (F8 2) (M8 2) (P8 2) (R8 2) ++ (wP Z (AD 3) (W8 3) (E8 3) (F8 3) (M8 3) (P8 3) (R8 3) ++ (wP Z (AD 4) (W8 4) (E8 4) (F8 4) (M8 4) (P8 4) (R8 4) ++ (wP Z (AD 5) (W8 5) (E8 5) (F8 5) (M8 5) (P8 5) (R8 5) ++ (wP Z (AD 6) (W8 6) (E8 6) (F8 6) (M8 6) (P8 6) (R8 6) ++ (wP Z (AD 7) (W8 7) (E8 7) (F8 7) (M8 7) (P8 7) (R8 7))))))))))) rfl ?_
      exact r_vret (hE _ (Option.some.inj hg)) dX4_restore_46
    replace hg := (if_neg h19_5).symm.trans hg
    by_cases h19_6 : o19 = (some 5)
    · replace hg := (if_pos h19_6).symm.trans hg
      subst h19_6
      refine r_goto (tgt := 26) dX4_restore_22 (by decide) ?_
      refine r_astore_n (lv' := [(2, .ref (AD 5 0)), (0, .ref hq), (1, .ref (a 0))]) dX4_restore_26 (by decide) rfl ?_
      refine r_aload_n dX4_restore_27 0 rfl ?_
      refine r_ifnull dX4_restore_28 ?_
      refine r_aload_n dX4_restore_31 2 rfl ?_
      refine r_aload_n dX4_restore_32 0 rfl ?_
      obtain ⟨o33, e33, hg⟩ := ob hg
      refine r_callV (As := [.ref (AD 5 0)]) (rest := []) (ws' := wP Z a o33.1 o33.2.1 o33.2.2.1 o33.2.2.2.1 o33.2.2.2.2.1 o33.2.2.2.2.2 ++ (wS Z hq hs AD pv ++ (wP Z (AD 0) (W8 0) (E8 0) (F8 0) (M8 0) (P8 0) (R8 0) ++ (wP Z (AD 1) (W8 1) (E8 1) (F8 1) (M8 1) (P8 1) (R8 1) ++ (wP Z (AD 2) (W8 2) (E8 2) (F8 2) (M8 2) (P8 2) (R8 2) ++ (wP Z (AD 3) (W8 3) (E8 3) (F8 3) (M8 3) (P8 3) (R8 3) ++ (wP Z (AD 4) (W8 4) (E8 4) (F8 4) (M8 4) (P8 4) (R8 4) ++ (wP Z (AD 5) (W8 5) (E8 5) (F8 5) (M8 5) (P8 5) (R8 5) ++ (wP Z (AD 6) (W8 6) (E8 6) (F8 6) (M8 6) (P8 6) (R8 6) ++ (wP Z (AD 7) (W8 7) (E8 7) (F8 7) (M8 7) (P8 7) (R8 7))))))))))) 0 rfl rfl rfl (fun l => c_X5_copyFrom Z l a (AD 5) w er fl me p pr (W8 5) (E8 5) (F8 5) (M8 5) (P8 5) (R8 5)  o33 e33) qw_240 mv_X5_copyFrom (xPk.seg2 (([] : va_W)) (wP Z a w er fl me p pr) (wP Z a o33.1 o33.2.1 o33.2.2.1 o33.2.2.2.1 o33.2.2.2.2.1 o33.2.2.2.2.2) (wS Z hq hs AD pv ++ (wP Z (AD 0) (W8 0) (E8 0) (F8 0) (M8 0) (P8 0) (R8 0) ++ (wP Z (AD 1) (W8 1) (E8 1) (F8 1) (M8 1) (P8 1) (R8 1) ++ (wP Z (AD 2) (W8 2) (E8 2) (F8 2) (M8 2) (P8 2) (R8 2) ++ (wP Z (AD 3) (W8 3) (E8 3) (F8 3) (M8 3) (P8 3) (R8 3) ++ (wP Z (AD 4) (W8 4) (E8 4) (F8 4) (M8 4) (P8 4) (R8 4))))))) (wP Z (AD 5) (W8 5) (E8 5) (F8 5) (M8 5) (P8 5) (R8 5)) (wP Z (AD 5) (W8 5) (E8 5) (F8 5) (M8 5) (P8 5) (R8 5)) (wP Z (AD 6) (W8 6) (E8 6) (F8 6) (M8 6) (P8 6) (R8 6) ++ (wP Z (AD 7) (W8 7) (E8 7) (F8 7) (M8 7) (P8 7) (R8 7))) (by simp only [List.append_assoc, List.append_nil, List.nil_append]) (by simp only [List.append_assoc, List.append_nil, List.nil_append]) rfl rfl) ⟨Nat.le_of_ble_eq_true rfl, Nat.le_of_ble_eq_true rfl⟩ ⟨rfl, rfl⟩ ⟨Nat.zero_le _, Nat.zero_le _⟩ rfl (Nat.le_of_ble_eq_true rfl) rfl dX4_restore_33 ?_
      refine r_aload_n dX4_restore_36 1 rfl ?_
      refine r_dup dX4_restore_37 rfl ?_
      refine gf_X4_2 (v := .int (pv 1)) 6 rfl rfl qw_148 dX4_restore_38 ?_
      refine r_iconst (v := 1) dX4_restore_41 kic_1 ?_
      refine r_isub dX4_restore_42 ?_
      refine pf_X4_2 6 rfl (Nat.le_of_ble_eq_true rfl) qw_148 dX4_restore_43 (ws' := wP Z a o33.1 o33.2.1 o33.2.2.1 o33.2.2.2.1 o33.2.2.2.2.1 o33.2.2.2.2.2 ++ (wS Z hq hs AD (upd pv 1 ((pv 1) - 1)) ++ (wP Z (AD 0) (W8 0) (E8 0) (F8 0) (M8 0) (P8 0) (R8 0) ++ (wP Z (AD 1) (W8 1) (E8 1) (F8 1) (M8 1) (P8 1) (R8 1) ++ (wP Z (AD 2) (W8 2) (E8 2) (F8 2) (M8 2) (P8 2) (R8 2) ++ (wP Z (AD 3) (W8 3) (E8 3) (F8 3) (M8 3) (P8 3) (R8 3) ++ (wP Z (AD 4) (W8 4) (E8 4) (F8 4) (M8 4) (P8 4) (R8 4) ++ (wP Z (AD 5) (W8 5) (E8 5) (F8 5) (M8 5) (P8 5) (R8 5) ++ (wP Z (AD 6) (W8 6) (E8 6) (F8 6) (M8 6) (P8 6) (R8 6) ++ (wP Z (AD 7) (W8 7) (E8 7) (F8 7) (M8 7) (P8 7) (R8 7))))))))))) rfl ?_
      exact r_vret (hE _ (Option.some.inj hg)) dX4_restore_46
    replace hg := (if_neg h19_6).symm.trans hg
    by_cases h19_7 : o19 = (some 6)
    · replace hg := (if_pos h19_7).symm.trans hg
      subst h19_7
      refine r_goto (tgt := 26) dX4_restore_22 (by decide) ?_
      refine r_astore_n (lv' := [(2, .ref (AD 6 0)), (0, .ref hq), (1, .ref (a 0))]) dX4_restore_26 (by decide) rfl ?_
      refine r_aload_n dX4_restore_27 0 rfl ?_
      refine r_ifnull dX4_restore_28 ?_
      refine r_aload_n dX4_restore_31 2 rfl ?_
      refine r_aload_n dX4_restore_32 0 rfl ?_
      obtain ⟨o33, e33, hg⟩ := ob hg
      refine r_callV (As := [.ref (AD 6 0)]) (rest := []) (ws' := wP Z a o33.1 o33.2.1 o33.2.2.1 o33.2.2.2.1 o33.2.2.2.2.1 o33.2.2.2.2.2 ++ (wS Z hq hs AD pv ++ (wP Z (AD 0) (W8 0) (E8 0) (F8 0) (M8 0) (P8 0) (R8 0) ++ (wP Z (AD 1) (W8 1) (E8 1) (F8 1) (M8 1) (P8 1) (R8 1) ++ (wP Z (AD 2) (W8 2) (E8 2) (F8 2) (M8 2) (P8 2) (R8 2) ++ (wP Z (AD 3) (W8 3) (E8 3) (F8 3) (M8 3) (P8 3) (R8 3) ++ (wP Z (AD 4) (W8 4) (E8 4) (F8 4) (M8 4) (P8 4) (R8 4) ++ (wP Z (AD 5) (W8 5) (E8 5) (F8 5) (M8 5) (P8 5) (R8 5) ++ (wP Z (AD 6) (W8 6) (E8 6) (F8 6) (M8 6) (P8 6) (R8 6) ++ (wP Z (AD 7) (W8 7) (E8 7) (F8 7) (M8 7) (P8 7) (R8 7))))))))))) 0 rfl rfl rfl (fun l => c_X5_copyFrom Z l a (AD 6) w er fl me p pr (W8 6) (E8 6) (F8 6) (M8 6) (P8 6) (R8 6)  o33 e33) qw_240 mv_X5_copyFrom (xPk.seg2 (([] : va_W)) (wP Z a w er fl me p pr) (wP Z a o33.1 o33.2.1 o33.2.2.1 o33.2.2.2.1 o33.2.2.2.2.1 o33.2.2.2.2.2) (wS Z hq hs AD pv ++ (wP Z (AD 0) (W8 0) (E8 0) (F8 0) (M8 0) (P8 0) (R8 0) ++ (wP Z (AD 1) (W8 1) (E8 1) (F8 1) (M8 1) (P8 1) (R8 1) ++ (wP Z (AD 2) (W8 2) (E8 2) (F8 2) (M8 2) (P8 2) (R8 2) ++ (wP Z (AD 3) (W8 3) (E8 3) (F8 3) (M8 3) (P8 3) (R8 3) ++ (wP Z (AD 4) (W8 4) (E8 4) (F8 4) (M8 4) (P8 4) (R8 4) ++ (wP Z (AD 5) (W8 5) (E8 5) (F8 5) (M8 5) (P8 5) (R8 5)))))))) (wP Z (AD 6) (W8 6) (E8 6) (F8 6) (M8 6) (P8 6) (R8 6)) (wP Z (AD 6) (W8 6) (E8 6) (F8 6) (M8 6) (P8 6) (R8 6)) (wP Z (AD 7) (W8 7) (E8 7) (F8 7) (M8 7) (P8 7) (R8 7)) (by simp only [List.append_assoc, List.append_nil, List.nil_append]) (by simp only [List.append_assoc, List.append_nil, List.nil_append]) rfl rfl) ⟨Nat.le_of_ble_eq_true rfl, Nat.le_of_ble_eq_true rfl⟩ ⟨rfl, rfl⟩ ⟨Nat.zero_le _, Nat.zero_le _⟩ rfl (Nat.le_of_ble_eq_true rfl) rfl dX4_restore_33 ?_
      refine r_aload_n dX4_restore_36 1 rfl ?_
      refine r_dup dX4_restore_37 rfl ?_
      refine gf_X4_2 (v := .int (pv 1)) 6 rfl rfl qw_148 dX4_restore_38 ?_
      refine r_iconst (v := 1) dX4_restore_41 kic_1 ?_
      refine r_isub dX4_restore_42 ?_
      refine pf_X4_2 6 rfl (Nat.le_of_ble_eq_true rfl) qw_148 dX4_restore_43 (ws' := wP Z a o33.1 o33.2.1 o33.2.2.1 o33.2.2.2.1 o33.2.2.2.2.1 o33.2.2.2.2.2 ++ (wS Z hq hs AD (upd pv 1 ((pv 1) - 1)) ++ (wP Z (AD 0) (W8 0) (E8 0) (F8 0) (M8 0) (P8 0) (R8 0) ++ (wP Z (AD 1) (W8 1) (E8 1) (F8 1) (M8 1) (P8 1) (R8 1) ++ (wP Z (AD 2) (W8 2) (E8 2) (F8 2) (M8 2) (P8 2) (R8 2) ++ (wP Z (AD 3) (W8 3) (E8 3) (F8 3) (M8 3) (P8 3) (R8 3) ++ (wP Z (AD 4) (W8 4) (E8 4) (F8 4) (M8 4) (P8 4) (R8 4) ++ (wP Z (AD 5) (W8 5) (E8 5) (F8 5) (M8 5) (P8 5) (R8 5) ++ (wP Z (AD 6) (W8 6) (E8 6) (F8 6) (M8 6) (P8 6) (R8 6) ++ (wP Z (AD 7) (W8 7) (E8 7) (F8 7) (M8 7) (P8 7) (R8 7))))))))))) rfl ?_
      exact r_vret (hE _ (Option.some.inj hg)) dX4_restore_46
    replace hg := (if_neg h19_7).symm.trans hg
    by_cases h19_8 : o19 = (some 7)
    · replace hg := (if_pos h19_8).symm.trans hg
      subst h19_8
      refine r_goto (tgt := 26) dX4_restore_22 (by decide) ?_
      refine r_astore_n (lv' := [(2, .ref (AD 7 0)), (0, .ref hq), (1, .ref (a 0))]) dX4_restore_26 (by decide) rfl ?_
      refine r_aload_n dX4_restore_27 0 rfl ?_
      refine r_ifnull dX4_restore_28 ?_
      refine r_aload_n dX4_restore_31 2 rfl ?_
      refine r_aload_n dX4_restore_32 0 rfl ?_
      obtain ⟨o33, e33, hg⟩ := ob hg
      refine r_callV (As := [.ref (AD 7 0)]) (rest := []) (ws' := wP Z a o33.1 o33.2.1 o33.2.2.1 o33.2.2.2.1 o33.2.2.2.2.1 o33.2.2.2.2.2 ++ (wS Z hq hs AD pv ++ (wP Z (AD 0) (W8 0) (E8 0) (F8 0) (M8 0) (P8 0) (R8 0) ++ (wP Z (AD 1) (W8 1) (E8 1) (F8 1) (M8 1) (P8 1) (R8 1) ++ (wP Z (AD 2) (W8 2) (E8 2) (F8 2) (M8 2) (P8 2) (R8 2) ++ (wP Z (AD 3) (W8 3) (E8 3) (F8 3) (M8 3) (P8 3) (R8 3) ++ (wP Z (AD 4) (W8 4) (E8 4) (F8 4) (M8 4) (P8 4) (R8 4) ++ (wP Z (AD 5) (W8 5) (E8 5) (F8 5) (M8 5) (P8 5) (R8 5) ++ (wP Z (AD 6) (W8 6) (E8 6) (F8 6) (M8 6) (P8 6) (R8 6) ++ (wP Z (AD 7) (W8 7) (E8 7) (F8 7) (M8 7) (P8 7) (R8 7))))))))))) 0 rfl rfl rfl (fun l => c_X5_copyFrom Z l a (AD 7) w er fl me p pr (W8 7) (E8 7) (F8 7) (M8 7) (P8 7) (R8 7)  o33 e33) qw_240 mv_X5_copyFrom (xPk.seg2 (([] : va_W)) (wP Z a w er fl me p pr) (wP Z a o33.1 o33.2.1 o33.2.2.1 o33.2.2.2.1 o33.2.2.2.2.1 o33.2.2.2.2.2) (wS Z hq hs AD pv ++ (wP Z (AD 0) (W8 0) (E8 0) (F8 0) (M8 0) (P8 0) (R8 0) ++ (wP Z (AD 1) (W8 1) (E8 1) (F8 1) (M8 1) (P8 1) (R8 1) ++ (wP Z (AD 2) (W8 2) (E8 2) (F8 2) (M8 2) (P8 2) (R8 2) ++ (wP Z (AD 3) (W8 3) (E8 3) (F8 3) (M8 3) (P8 3) (R8 3) ++ (wP Z (AD 4) (W8 4) (E8 4) (F8 4) (M8 4) (P8 4) (R8 4) ++ (wP Z (AD 5) (W8 5) (E8 5) (F8 5) (M8 5) (P8 5) (R8 5) ++ (wP Z (AD 6) (W8 6) (E8 6) (F8 6) (M8 6) (P8 6) (R8 6))))))))) (wP Z (AD 7) (W8 7) (E8 7) (F8 7) (M8 7) (P8 7) (R8 7)) (wP Z (AD 7) (W8 7) (E8 7) (F8 7) (M8 7) (P8 7) (R8 7)) (([] : va_W)) (by simp only [List.append_assoc, List.append_nil, List.nil_append]) (by simp only [List.append_assoc, List.append_nil, List.nil_append]) rfl rfl) ⟨Nat.le_of_ble_eq_true rfl, Nat.le_of_ble_eq_true rfl⟩ ⟨rfl, rfl⟩ ⟨Nat.zero_le _, Nat.zero_le _⟩ rfl (Nat.le_of_ble_eq_true rfl) rfl dX4_restore_33 ?_
      refine r_aload_n dX4_restore_36 1 rfl ?_
      refine r_dup dX4_restore_37 rfl ?_
      refine gf_X4_2 (v := .int (pv 1)) 6 rfl rfl qw_148 dX4_restore_38 ?_
      refine r_iconst (v := 1) dX4_restore_41 kic_1 ?_
      refine r_isub dX4_restore_42 ?_
      refine pf_X4_2 6 rfl (Nat.le_of_ble_eq_true rfl) qw_148 dX4_restore_43 (ws' := wP Z a o33.1 o33.2.1 o33.2.2.1 o33.2.2.2.1 o33.2.2.2.2.1 o33.2.2.2.2.2 ++ (wS Z hq hs AD (upd pv 1 ((pv 1) - 1)) ++ (wP Z (AD 0) (W8 0) (E8 0) (F8 0) (M8 0) (P8 0) (R8 0) ++ (wP Z (AD 1) (W8 1) (E8 1) (F8 1) (M8 1) (P8 1) (R8 1) ++ (wP Z (AD 2) (W8 2) (E8 2) (F8 2) (M8 2) (P8 2) (R8 2) ++ (wP Z (AD 3) (W8 3) (E8 3) (F8 3) (M8 3) (P8 3) (R8 3) ++ (wP Z (AD 4) (W8 4) (E8 4) (F8 4) (M8 4) (P8 4) (R8 4) ++ (wP Z (AD 5) (W8 5) (E8 5) (F8 5) (M8 5) (P8 5) (R8 5) ++ (wP Z (AD 6) (W8 6) (E8 6) (F8 6) (M8 6) (P8 6) (R8 6) ++ (wP Z (AD 7) (W8 7) (E8 7) (F8 7) (M8 7) (P8 7) (R8 7))))))))))) rfl ?_
      exact r_vret (hE _ (Option.some.inj hg)) dX4_restore_46
    replace hg := (if_neg h19_8).symm.trans hg
    exact nomatch (show (none : Option _) = some o from hg)

set_option maxHeartbeats 4000000 in
theorem c_X4_restoreQ (Z : GZ) (l : Launch) (a : Nat → Nat) (hq : Nat) (hs : Nat) (AD : Nat → Nat → Nat) (w : Nat → Int32) (er : Nat → Int32) (fl : Nat → Int32) (me : Nat → Int32) (p : Nat → Int32) (pr : Nat → Int32) (pv : Nat → Int32) (W8 : Nat → Nat → Int32) (E8 : Nat → Nat → Int32) (F8 : Nat → Nat → Int32) (M8 : Nat → Nat → Int32) (P8 : Nat → Nat → Int32) (R8 : Nat → Nat → Int32)  (o : ((Nat → Int32) × (Nat → Int32) × (Nat → Int32) × (Nat → Int32) × (Nat → Int32) × (Nat → Int32) × (Nat → Int32))) (hg : g_X4_restore w er fl me p pr pv W8 E8 F8 M8 P8 R8 = some o) : Con Z l yX4_restore cX4_restore 3 none rm_X4_restore [.ref hq, .ref (a 0)] (wP Z a w er fl me p pr ++ (wQ Z hq hs AD pv W8 E8 F8 M8 P8 R8)) none (wP Z a o.1 o.2.1 o.2.2.1 o.2.2.2.1 o.2.2.2.2.1 o.2.2.2.2.2.1 ++ (wQ Z hq hs AD o.2.2.2.2.2.2 W8 E8 F8 M8 P8 R8)) := by
  have h9 := c_X4_restore Z l a hq hs AD w er fl me p pr pv W8 E8 F8 M8 P8 R8 o hg
  simpa only [wQ, List.append_assoc] using h9

-- TicketJournal$Image.store(LTicketJournal$Printer;)V
abbrev rm_X1_store : Room := { frames := 3, cells := 0, slots := 0, locals := 82 }
def g_X1_store (ff : Nat → Int32) (w2 : Nat → Int32) (er2 : Nat → Int32) (fl2 : Nat → Int32) (me2 : Nat → Int32) (p2 : Nat → Int32) (pr2 : Nat → Int32) (w : Nat → Int32) (er : Nat → Int32) (fl : Nat → Int32) (me : Nat → Int32) (p : Nat → Int32) (pr : Nat → Int32)  : Option ((Nat → Int32) × (Nat → Int32) × (Nat → Int32) × (Nat → Int32) × (Nat → Int32) × (Nat → Int32) × (Nat → Int32)) :=
  (g_X5_copyFrom w2 er2 fl2 me2 p2 pr2 w er fl me p pr).bind fun o5 => some ((upd ff 0 1), o5.1, o5.2.1, o5.2.2.1, o5.2.2.2.1, o5.2.2.2.2.1, o5.2.2.2.2.2)
set_option maxHeartbeats 4000000 in
set_option maxRecDepth 100000 in
theorem c_X1_store (Z : GZ) (l : Launch) (hx : Nat) (b : Nat → Nat) (a : Nat → Nat) (ff : Nat → Int32) (w2 : Nat → Int32) (er2 : Nat → Int32) (fl2 : Nat → Int32) (me2 : Nat → Int32) (p2 : Nat → Int32) (pr2 : Nat → Int32) (w : Nat → Int32) (er : Nat → Int32) (fl : Nat → Int32) (me : Nat → Int32) (p : Nat → Int32) (pr : Nat → Int32)  (o : ((Nat → Int32) × (Nat → Int32) × (Nat → Int32) × (Nat → Int32) × (Nat → Int32) × (Nat → Int32) × (Nat → Int32))) (hg : g_X1_store ff w2 er2 fl2 me2 p2 pr2 w er fl me p pr = some o) : Con Z l yX1_store cX1_store 2 none rm_X1_store [.ref hx, .ref (a 0)] (wO Z hx (b 0) ff ++ (wP Z b w2 er2 fl2 me2 p2 pr2 ++ (wP Z a w er fl me p pr))) none (wO Z hx (b 0) o.1 ++ (wP Z b o.2.1 o.2.2.1 o.2.2.2.1 o.2.2.2.2.1 o.2.2.2.2.2.1 o.2.2.2.2.2.2 ++ (wP Z a w er fl me p pr))) := by
  refine Con.of (by decide) (Nat.le_of_ble_eq_true rfl) ?_
  intro X hE0
  have hE : ∀ z, z = o → endsX X Z none none (wO Z hx (b 0) z.1 ++ (wP Z b z.2.1 z.2.2.1 z.2.2.2.1 z.2.2.2.2.1 z.2.2.2.2.2.1 z.2.2.2.2.2.2 ++ (wP Z a w er fl me p pr))) := by
    rintro _ rfl; exact hE0
  unfold g_X1_store at hg
  show AtK X Z rm_X1_store cX1_store RX1 2 0 0 (wO Z hx (b 0) ff ++ (wP Z b w2 er2 fl2 me2 p2 pr2 ++ (wP Z a w er fl me p pr))) 0 [(0, .ref hx), (1, .ref (a 0))] []
  refine r_aload_n dX1_store_0 0 rfl ?_
  refine gf_X1_0 (v := .ref (b 0)) 0 rfl rfl qw_166 dX1_store_1 ?_
  refine r_aload_n dX1_store_4 1 rfl ?_
  obtain ⟨o5, e5, hg⟩ := ob hg
  refine r_callV (As := [.ref (a 0)]) (rest := []) (ws' := wO Z hx (b 0) ff ++ (wP Z b o5.1 o5.2.1 o5.2.2.1 o5.2.2.2.1 o5.2.2.2.2.1 o5.2.2.2.2.2 ++ (wP Z a w er fl me p pr))) 0 rfl rfl rfl (fun l => c_X5_copyFrom Z l b a w2 er2 fl2 me2 p2 pr2 w er fl me p pr  o5 e5) qw_453 mv_X5_copyFrom (xPk.idx [1, 2, 3, 4, 5, 6, 7, 8, 9, 10, 11, 12] rfl rfl rfl rfl rfl) ⟨Nat.le_of_ble_eq_true rfl, Nat.le_of_ble_eq_true rfl⟩ ⟨rfl, rfl⟩ ⟨Nat.zero_le _, Nat.zero_le _⟩ rfl (Nat.le_of_ble_eq_true rfl) rfl dX1_store_5 ?_
  refine r_aload_n dX1_store_8 0 rfl ?_
  refine r_iconst (v := 1) dX1_store_9 kic_1 ?_
  refine pf_X1_1 (by decide) 0 rfl (Nat.le_of_ble_eq_true rfl) qw_168 dX1_store_10 (ws' := wO Z hx (b 0) (upd ff 0 1) ++ (wP Z b o5.1 o5.2.1 o5.2.2.1 o5.2.2.2.1 o5.2.2.2.2.1 o5.2.2.2.2.2 ++ (wP Z a w er fl me p pr))) rfl ?_
  exact r_vret (hE _ (Option.some.inj hg)) dX1_store_13

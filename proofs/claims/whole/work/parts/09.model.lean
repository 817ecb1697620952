-- TicketJournalModel.isIn(III)Z
abbrev rm_X7_isIn : Room := { frames := 0, cells := 0, slots := 0, locals := 0 }
def g_X7_isIn_14    : Option (Int32) :=
  some (0)
def g_X7_isIn  (n1 : Int32) (n2 : Int32) (n3 : Int32) : Option (Int32) :=
  (if n1 < n2 then g_X7_isIn_14 else (if n3 < n1 then g_X7_isIn_14 else some (1)))
set_option maxHeartbeats 4000000 in
set_option maxRecDepth 100000 in
theorem c_X7_isIn (Z : GZ) (l : Launch)   (n1 : Int32) (n2 : Int32) (n3 : Int32) (o : (Int32)) (hg : g_X7_isIn n1 n2 n3 = some o) : Con Z l yX7_isIn cX7_isIn 3 (some .boolean) rm_X7_isIn [.int n1, .int n2, .int n3] (([] : va_W)) (some (.int o)) (([] : va_W)) := by
  refine Con.of (by decide) (Nat.le_of_ble_eq_true rfl) ?_
  intro X hE0
  have hE : ∀ z, z = o → endsX X Z (some .boolean) (some (.int z)) (([] : va_W)) := by
    rintro _ rfl; exact hE0
  have J14 : g_X7_isIn_14 = some o → AtK X Z rm_X7_isIn cX7_isIn RX7 3 0 0 (([] : va_W)) 14 [] [] := by
    intro  hg
    unfold g_X7_isIn_14 at hg
    refine r_iconst (v := 0) dX7_isIn_14 kic_0 ?_
    exact r_bret (hE _ (Option.some.inj hg)) (by decide) dX7_isIn_15
  unfold g_X7_isIn at hg
  show AtK X Z rm_X7_isIn cX7_isIn RX7 3 0 0 (([] : va_W)) 0 [(0, .int n1), (1, .int n2), (2, .int n3)] []
  refine r_iload_n dX7_isIn_0 0 rfl ?_
  refine r_iload_n dX7_isIn_1 1 rfl ?_
  refine r_icmp_lt (tgt := 14) dX7_isIn_2 (by decide) (fun h2 => ?_) (fun h2 => ?_)
  · replace hg := (if_pos h2).symm.trans hg
    exact r_sub [] rfl (J14 hg)
  · replace hg := (if_neg h2).symm.trans hg
    refine r_iload_n dX7_isIn_5 0 rfl ?_
    refine r_iload_n dX7_isIn_6 2 rfl ?_
    refine r_icmp_gt (tgt := 14) dX7_isIn_7 (by decide) (fun h7 => ?_) (fun h7 => ?_)
    · replace hg := (if_pos h7).symm.trans hg
      exact r_sub [] rfl (J14 hg)
    · replace hg := (if_neg h7).symm.trans hg
      refine r_iconst (v := 1) dX7_isIn_10 kic_1 ?_
      refine r_goto (tgt := 15) dX7_isIn_11 (by decide) ?_
      exact r_bret (hE _ (Option.some.inj hg)) (by decide) dX7_isIn_15

-- TicketJournalModel.isSort(I)Z
abbrev rm_X7_isSort : Room := { frames := 1, cells := 0, slots := 0, locals := 22 }
def g_X7_isSort  (n1 : Int32) : Option (Int32) :=
  (g_X7_isIn n1 0 3).bind fun o3 => (if ¬ (o3 = 0 ∨ o3 = 1) then none else some (o3))
set_option maxHeartbeats 4000000 in
set_option maxRecDepth 100000 in
theorem c_X7_isSort (Z : GZ) (l : Launch)   (n1 : Int32) (o : (Int32)) (hg : g_X7_isSort n1 = some o) : Con Z l yX7_isSort cX7_isSort 1 (some .boolean) rm_X7_isSort [.int n1] (([] : va_W)) (some (.int o)) (([] : va_W)) := by
  refine Con.of (by decide) (Nat.le_of_ble_eq_true rfl) ?_
  intro X hE0
  have hE : ∀ z, z = o → endsX X Z (some .boolean) (some (.int z)) (([] : va_W)) := by
    rintro _ rfl; exact hE0
  unfold g_X7_isSort at hg
  show AtK X Z rm_X7_isSort cX7_isSort RX7 1 0 0 (([] : va_W)) 0 [(0, .int n1)] []
  refine r_iload_n dX7_isSort_0 0 rfl ?_
  refine r_iconst (v := 0) dX7_isSort_1 kic_0 ?_
  refine r_iconst (v := 3) dX7_isSort_2 kic_3 ?_
  obtain ⟨o3, e3, hg⟩ := ob hg
  refine r_callS (As := [.int n1, .int 0, .int 3]) (rest := []) (ws' := ([] : va_W)) (fun l => c_X7_isIn Z l   n1 0 3 o3 e3) qw_629 ms_X7_isIn xPk.none ⟨Nat.le_of_ble_eq_true rfl, Nat.le_of_ble_eq_true rfl⟩ ⟨rfl, rfl⟩ ⟨Nat.zero_le _, Nat.zero_le _⟩ rfl (Nat.le_of_ble_eq_true rfl) rfl dX7_isSort_3 ?_
  obtain ⟨hz6, hg⟩ := og hg
  exact r_bret (hE _ (Option.some.inj hg)) (Decidable.not_not.mp hz6) dX7_isSort_6

-- TicketJournalModel.isBlock(I)Z
abbrev rm_X7_isBlock : Room := { frames := 1, cells := 0, slots := 0, locals := 22 }
def g_X7_isBlock  (n1 : Int32) : Option (Int32) :=
  (g_X7_isIn n1 0 4).bind fun o3 => (if ¬ (o3 = 0 ∨ o3 = 1) then none else some (o3))
set_option maxHeartbeats 4000000 in
set_option maxRecDepth 100000 in
theorem c_X7_isBlock (Z : GZ) (l : Launch)   (n1 : Int32) (o : (Int32)) (hg : g_X7_isBlock n1 = some o) : Con Z l yX7_isBlock cX7_isBlock 1 (some .boolean) rm_X7_isBlock [.int n1] (([] : va_W)) (some (.int o)) (([] : va_W)) := by
  refine Con.of (by decide) (Nat.le_of_ble_eq_true rfl) ?_
  intro X hE0
  have hE : ∀ z, z = o → endsX X Z (some .boolean) (some (.int z)) (([] : va_W)) := by
    rintro _ rfl; exact hE0
  unfold g_X7_isBlock at hg
  show AtK X Z rm_X7_isBlock cX7_isBlock RX7 1 0 0 (([] : va_W)) 0 [(0, .int n1)] []
  refine r_iload_n dX7_isBlock_0 0 rfl ?_
  refine r_iconst (v := 0) dX7_isBlock_1 kic_0 ?_
  refine r_iconst (v := 4) dX7_isBlock_2 kic_4 ?_
  obtain ⟨o3, e3, hg⟩ := ob hg
  refine r_callS (As := [.int n1, .int 0, .int 4]) (rest := []) (ws' := ([] : va_W)) (fun l => c_X7_isIn Z l   n1 0 4 o3 e3) qw_629 ms_X7_isIn xPk.none ⟨Nat.le_of_ble_eq_true rfl, Nat.le_of_ble_eq_true rfl⟩ ⟨rfl, rfl⟩ ⟨Nat.zero_le _, Nat.zero_le _⟩ rfl (Nat.le_of_ble_eq_true rfl) rfl dX7_isBlock_3 ?_
  obtain ⟨hz6, hg⟩ := og hg
  exact r_bret (hE _ (Option.some.inj hg)) (Decidable.not_not.mp hz6) dX7_isBlock_6

-- TicketJournalModel.isImage(I)Z
abbrev rm_X7_isImage : Room := { frames := 1, cells := 0, slots := 0, locals := 22 }
def g_X7_isImage  (n1 : Int32) : Option (Int32) :=
  (g_X7_isIn n1 0 1).bind fun o3 => (if ¬ (o3 = 0 ∨ o3 = 1) then none else some (o3))
set_option maxHeartbeats 4000000 in
set_option maxRecDepth 100000 in
theorem c_X7_isImage (Z : GZ) (l : Launch)   (n1 : Int32) (o : (Int32)) (hg : g_X7_isImage n1 = some o) : Con Z l yX7_isImage cX7_isImage 1 (some .boolean) rm_X7_isImage [.int n1] (([] : va_W)) (some (.int o)) (([] : va_W)) := by
  refine Con.of (by decide) (Nat.le_of_ble_eq_true rfl) ?_
  intro X hE0
  have hE : ∀ z, z = o → endsX X Z (some .boolean) (some (.int z)) (([] : va_W)) := by
    rintro _ rfl; exact hE0
  unfold g_X7_isImage at hg
  show AtK X Z rm_X7_isImage cX7_isImage RX7 1 0 0 (([] : va_W)) 0 [(0, .int n1)] []
  refine r_iload_n dX7_isImage_0 0 rfl ?_
  refine r_iconst (v := 0) dX7_isImage_1 kic_0 ?_
  refine r_iconst (v := 1) dX7_isImage_2 kic_1 ?_
  obtain ⟨o3, e3, hg⟩ := ob hg
  refine r_callS (As := [.int n1, .int 0, .int 1]) (rest := []) (ws' := ([] : va_W)) (fun l => c_X7_isIn Z l   n1 0 1 o3 e3) qw_629 ms_X7_isIn xPk.none ⟨Nat.le_of_ble_eq_true rfl, Nat.le_of_ble_eq_true rfl⟩ ⟨rfl, rfl⟩ ⟨Nat.zero_le _, Nat.zero_le _⟩ rfl (Nat.le_of_ble_eq_true rfl) rfl dX7_isImage_3 ?_
  obtain ⟨hz6, hg⟩ := og hg
  exact r_bret (hE _ (Option.some.inj hg)) (Decidable.not_not.mp hz6) dX7_isImage_6

-- TicketJournalModel.lengthOf(I)I
abbrev rm_X7_lengthOf : Room := { frames := 0, cells := 0, slots := 0, locals := 0 }
def g_X7_lengthOf  (n1 : Int32) : Option (Int32) :=
  some ((40 + (20 * n1)))
set_option maxHeartbeats 4000000 in
set_option maxRecDepth 100000 in
theorem c_X7_lengthOf (Z : GZ) (l : Launch)   (n1 : Int32) (o : (Int32)) (hg : g_X7_lengthOf n1 = some o) : Con Z l yX7_lengthOf cX7_lengthOf 1 (some .int) rm_X7_lengthOf [.int n1] (([] : va_W)) (some (.int o)) (([] : va_W)) := by
  refine Con.of (by decide) (Nat.le_of_ble_eq_true rfl) ?_
  intro X hE0
  have hE : ∀ z, z = o → endsX X Z (some .int) (some (.int z)) (([] : va_W)) := by
    rintro _ rfl; exact hE0
  unfold g_X7_lengthOf at hg
  show AtK X Z rm_X7_lengthOf cX7_lengthOf RX7 1 0 0 (([] : va_W)) 0 [(0, .int n1)] []
  refine r_bipush (v := 40) dX7_lengthOf_0 kbp_40 ?_
  refine r_bipush (v := 20) dX7_lengthOf_2 kbp_20 ?_
  refine r_iload_n dX7_lengthOf_4 0 rfl ?_
  refine r_imul dX7_lengthOf_5 ?_
  refine r_iadd dX7_lengthOf_6 ?_
  exact r_iret (hE _ (Option.some.inj hg)) dX7_lengthOf_7

-- TicketJournalModel.headCheck(IIIII)I
abbrev rm_X7_headCheck : Room := { frames := 0, cells := 0, slots := 0, locals := 0 }
def g_X7_headCheck  (n1 : Int32) (n2 : Int32) (n3 : Int32) (n4 : Int32) (n5 : Int32) : Option (Int32) :=
  some ((jrem ((((((3 * n1) + (5 * n2)) + (7 * n3)) + (11 * n4)) + (13 * n5)) + 1) 65521))
set_option maxHeartbeats 4000000 in
set_option maxRecDepth 100000 in
theorem c_X7_headCheck (Z : GZ) (l : Launch)   (n1 : Int32) (n2 : Int32) (n3 : Int32) (n4 : Int32) (n5 : Int32) (o : (Int32)) (hg : g_X7_headCheck n1 n2 n3 n4 n5 = some o) : Con Z l yX7_headCheck cX7_headCheck 5 (some .int) rm_X7_headCheck [.int n1, .int n2, .int n3, .int n4, .int n5] (([] : va_W)) (some (.int o)) (([] : va_W)) := by
  refine Con.of (by decide) (Nat.le_of_ble_eq_true rfl) ?_
  intro X hE0
  have hE : ∀ z, z = o → endsX X Z (some .int) (some (.int z)) (([] : va_W)) := by
    rintro _ rfl; exact hE0
  unfold g_X7_headCheck at hg
  show AtK X Z rm_X7_headCheck cX7_headCheck RX7 5 0 0 (([] : va_W)) 0 [(0, .int n1), (1, .int n2), (2, .int n3), (3, .int n4), (4, .int n5)] []
  refine r_iconst (v := 3) dX7_headCheck_0 kic_3 ?_
  refine r_iload_n dX7_headCheck_1 0 rfl ?_
  refine r_imul dX7_headCheck_2 ?_
  refine r_iconst (v := 5) dX7_headCheck_3 kic_5 ?_
  refine r_iload_n dX7_headCheck_4 1 rfl ?_
  refine r_imul dX7_headCheck_5 ?_
  refine r_iadd dX7_headCheck_6 ?_
  refine r_bipush (v := 7) dX7_headCheck_7 kbp_7 ?_
  refine r_iload_n dX7_headCheck_9 2 rfl ?_
  refine r_imul dX7_headCheck_10 ?_
  refine r_iadd dX7_headCheck_11 ?_
  refine r_bipush (v := 11) dX7_headCheck_12 kbp_11 ?_
  refine r_iload_n dX7_headCheck_14 3 rfl ?_
  refine r_imul dX7_headCheck_15 ?_
  refine r_iadd dX7_headCheck_16 ?_
  refine r_bipush (v := 13) dX7_headCheck_17 kbp_13 ?_
  refine r_iload dX7_headCheck_19 4 rfl ?_
  refine r_imul dX7_headCheck_21 ?_
  refine r_iadd dX7_headCheck_22 ?_
  refine r_iconst (v := 1) dX7_headCheck_23 kic_1 ?_
  refine r_iadd dX7_headCheck_24 ?_
  refine r_ldc qw_671 dX7_headCheck_25 ?_
  refine r_irem dX7_headCheck_27 (by decide) ?_
  exact r_iret (hE _ (Option.some.inj hg)) dX7_headCheck_28

-- TicketJournalModel.recordCheck(IIII)I
abbrev rm_X7_recordCheck : Room := { frames := 0, cells := 0, slots := 0, locals := 0 }
def g_X7_recordCheck  (n1 : Int32) (n2 : Int32) (n3 : Int32) (n4 : Int32) : Option (Int32) :=
  some ((jrem (((((3 * n1) + (5 * n2)) + (7 * n3)) + (11 * n4)) + 2) 65521))
set_option maxHeartbeats 4000000 in
set_option maxRecDepth 100000 in
theorem c_X7_recordCheck (Z : GZ) (l : Launch)   (n1 : Int32) (n2 : Int32) (n3 : Int32) (n4 : Int32) (o : (Int32)) (hg : g_X7_recordCheck n1 n2 n3 n4 = some o) : Con Z l yX7_recordCheck cX7_recordCheck 4 (some .int) rm_X7_recordCheck [.int n1, .int n2, .int n3, .int n4] (([] : va_W)) (some (.int o)) (([] : va_W)) := by
  refine Con.of (by decide) (Nat.le_of_ble_eq_true rfl) ?_
  intro X hE0
  have hE : ∀ z, z = o → endsX X Z (some .int) (some (.int z)) (([] : va_W)) := by
    rintro _ rfl; exact hE0
  unfold g_X7_recordCheck at hg
  show AtK X Z rm_X7_recordCheck cX7_recordCheck RX7 4 0 0 (([] : va_W)) 0 [(0, .int n1), (1, .int n2), (2, .int n3), (3, .int n4)] []
  refine r_iconst (v := 3) dX7_recordCheck_0 kic_3 ?_
  refine r_iload_n dX7_recordCheck_1 0 rfl ?_
  refine r_imul dX7_recordCheck_2 ?_
  refine r_iconst (v := 5) dX7_recordCheck_3 kic_5 ?_
  refine r_iload_n dX7_recordCheck_4 1 rfl ?_
  refine r_imul dX7_recordCheck_5 ?_
  refine r_iadd dX7_recordCheck_6 ?_
  refine r_bipush (v := 7) dX7_recordCheck_7 kbp_7 ?_
  refine r_iload_n dX7_recordCheck_9 2 rfl ?_
  refine r_imul dX7_recordCheck_10 ?_
  refine r_iadd dX7_recordCheck_11 ?_
  refine r_bipush (v := 11) dX7_recordCheck_12 kbp_11 ?_
  refine r_iload_n dX7_recordCheck_14 3 rfl ?_
  refine r_imul dX7_recordCheck_15 ?_
  refine r_iadd dX7_recordCheck_16 ?_
  refine r_iconst (v := 2) dX7_recordCheck_17 kic_2 ?_
  refine r_iadd dX7_recordCheck_18 ?_
  refine r_ldc qw_671 dX7_recordCheck_19 ?_
  refine r_irem dX7_recordCheck_21 (by decide) ?_
  exact r_iret (hE _ (Option.some.inj hg)) dX7_recordCheck_22

-- TicketJournalModel.wordOf(II)I
abbrev rm_X7_wordOf : Room := { frames := 0, cells := 0, slots := 0, locals := 0 }
def g_X7_wordOf  (n1 : Int32) (n2 : Int32) : Option (Int32) :=
  some (((6 + (4 * n1)) + n2))
set_option maxHeartbeats 4000000 in
set_option maxRecDepth 100000 in
theorem c_X7_wordOf (Z : GZ) (l : Launch)   (n1 : Int32) (n2 : Int32) (o : (Int32)) (hg : g_X7_wordOf n1 n2 = some o) : Con Z l yX7_wordOf cX7_wordOf 2 (some .int) rm_X7_wordOf [.int n1, .int n2] (([] : va_W)) (some (.int o)) (([] : va_W)) := by
  refine Con.of (by decide) (Nat.le_of_ble_eq_true rfl) ?_
  intro X hE0
  have hE : ∀ z, z = o → endsX X Z (some .int) (some (.int z)) (([] : va_W)) := by
    rintro _ rfl; exact hE0
  unfold g_X7_wordOf at hg
  show AtK X Z rm_X7_wordOf cX7_wordOf RX7 2 0 0 (([] : va_W)) 0 [(0, .int n1), (1, .int n2)] []
  refine r_bipush (v := 6) dX7_wordOf_0 kbp_6 ?_
  refine r_iconst (v := 4) dX7_wordOf_2 kic_4 ?_
  refine r_iload_n dX7_wordOf_3 0 rfl ?_
  refine r_imul dX7_wordOf_4 ?_
  refine r_iadd dX7_wordOf_5 ?_
  refine r_iload_n dX7_wordOf_6 1 rfl ?_
  refine r_iadd dX7_wordOf_7 ?_
  exact r_iret (hE _ (Option.some.inj hg)) dX7_wordOf_8

-- TicketJournalModel.at(II)I
abbrev rm_X7_at : Room := { frames := 0, cells := 0, slots := 0, locals := 0 }
def g_X7_at (m : Nat → Int32) (n1 : Int32) (n2 : Int32) : Option (Int32) :=
  (if ((22 * n1) + n2) < 0 ∨ 131 ≤ ((22 * n1) + n2).toNatClampNeg then none else some ((m ((22 * n1) + n2).toNatClampNeg)))
set_option maxHeartbeats 4000000 in
set_option maxRecDepth 100000 in
theorem c_X7_at (Z : GZ) (l : Launch) (a : Nat → Nat) (m : Nat → Int32) (ps : Nat → Int32) (im : Nat → Int32) (ik : Nat → Int32) (asd : Nat → Int32) (rb : Nat → Int32) (rp : Nat → Int32) (mv : Nat → Int32) (n1 : Int32) (n2 : Int32) (o : (Int32)) (hg : g_X7_at m n1 n2 = some o) : Con Z l yX7_at cX7_at 3 (some .int) rm_X7_at [.ref (a 0), .int n1, .int n2] (wX Z a m ps im ik asd rb rp mv) (some (.int o)) (wX Z a m ps im ik asd rb rp mv) := by
  refine Con.of (by decide) (Nat.le_of_ble_eq_true rfl) ?_
  intro X hE0
  have hE : ∀ z, z = o → endsX X Z (some .int) (some (.int z)) (wX Z a m ps im ik asd rb rp mv) := by
    rintro _ rfl; exact hE0
  unfold g_X7_at at hg
  show AtK X Z rm_X7_at cX7_at RX7 3 0 0 (wX Z a m ps im ik asd rb rp mv) 0 [(0, .ref (a 0)), (1, .int n1), (2, .int n2)] []
  refine r_aload_n dX7_at_0 0 rfl ?_
  refine gf_X7_0 (v := .ref (a 1)) 0 rfl rfl qw_586 dX7_at_1 ?_
  refine r_bipush (v := 22) dX7_at_4 kbp_22 ?_
  refine r_iload_n dX7_at_6 1 rfl ?_
  refine r_imul dX7_at_7 ?_
  refine r_iload_n dX7_at_8 2 rfl ?_
  refine r_iadd dX7_at_9 ?_
  obtain ⟨hi10, hg⟩ := og hg
  refine r_iald 1 rfl hi10 dX7_at_10 ?_
  exact r_iret (hE _ (Option.some.inj hg)) dX7_at_11

-- TicketJournalModel.keep()V
abbrev rm_X7_keep : Room := { frames := 0, cells := 0, slots := 0, locals := 0 }
def g_X7_keep_52 (m : Nat → Int32)  : Nat → Int32 → (Nat → Int32) → (Nat → Int32) → Option ((Nat → Int32) × (Nat → Int32))
  | 0 => fun _ _ _ => none
  | n + 1 => fun x1 ps mv => (if 131 ≤ x1 then some (ps, (upd mv 0 ((mv 0) + 1))) else (if x1 < 0 ∨ 131 ≤ x1.toNatClampNeg then none else (if ((131 * (mv 0)) + x1) < 0 ∨ 1048 ≤ ((131 * (mv 0)) + x1).toNatClampNeg then none else (g_X7_keep_52 m n) (x1 + 1) (upd ps (((131 * (mv 0)) + x1).toNatClampNeg) (m x1.toNatClampNeg)) mv)))
def g_X7_keep_50 (m : Nat → Int32)  (ps : Nat → Int32) (mv : Nat → Int32) : Option ((Nat → Int32) × (Nat → Int32)) :=
  g_X7_keep_52 m 1000 0 ps mv
def g_X7_keep_11 (m : Nat → Int32)  : Nat → Int32 → (Nat → Int32) → (Nat → Int32) → Option ((Nat → Int32) × (Nat → Int32))
  | 0 => fun _ _ _ => none
  | n + 1 => fun x1 ps mv => (if 917 ≤ x1 then g_X7_keep_50 m ps (upd mv 0 ((mv 0) - 1)) else (if (x1 + 131) < 0 ∨ 1048 ≤ (x1 + 131).toNatClampNeg then none else (if x1 < 0 ∨ 1048 ≤ x1.toNatClampNeg then none else (g_X7_keep_11 m n) (x1 + 1) (upd ps x1.toNatClampNeg (ps (x1 + 131).toNatClampNeg)) mv)))
def g_X7_keep (m : Nat → Int32) (ps : Nat → Int32) (mv : Nat → Int32)  : Option ((Nat → Int32) × (Nat → Int32)) :=
  (if (mv 0) = 8 then g_X7_keep_11 m 1000 0 ps mv else g_X7_keep_50 m ps mv)
set_option maxHeartbeats 4000000 in
set_option maxRecDepth 100000 in
theorem c_X7_keep (Z : GZ) (l : Launch) (a : Nat → Nat) (m : Nat → Int32) (ps : Nat → Int32) (im : Nat → Int32) (ik : Nat → Int32) (asd : Nat → Int32) (rb : Nat → Int32) (rp : Nat → Int32) (mv : Nat → Int32)  (o : ((Nat → Int32) × (Nat → Int32))) (hg : g_X7_keep m ps mv = some o) : Con Z l yX7_keep cX7_keep 2 none rm_X7_keep [.ref (a 0)] (wX Z a m ps im ik asd rb rp mv) none (wX Z a m o.1 im ik asd rb rp o.2) := by
  refine Con.of (by decide) (Nat.le_of_ble_eq_true rfl) ?_
  intro X hE0
  have hE : ∀ z, z = o → endsX X Z none none (wX Z a m z.1 im ik asd rb rp z.2) := by
    rintro _ rfl; exact hE0
  have J52 : ∀ (n : Nat), ∀ (x1 : Int32) (ps : Nat → Int32) (mv : Nat → Int32), g_X7_keep_52 m n x1 ps mv = some o → AtK X Z rm_X7_keep cX7_keep RX7 2 0 0 (wX Z a m ps im ik asd rb rp mv) 52 [(0, .ref (a 0)), (1, .int x1)] [] := by
    intro  n
    induction n with
    | zero => intro x1 ps mv hg; exact nomatch (show (none : Option _) = some o from hg)
    | succ n ih =>
      intro x1 ps mv hg
      unfold g_X7_keep_52 at hg
      refine r_iload_n dX7_keep_52 1 rfl ?_
      refine r_sipush (v := 131) dX7_keep_53 ksp_131 ?_
      refine r_icmp_ge (tgt := 86) dX7_keep_56 (by decide) (fun h56 => ?_) (fun h56 => ?_)
      · replace hg := (if_pos h56).symm.trans hg
        refine r_aload_n dX7_keep_86 0 rfl ?_
        refine r_dup dX7_keep_87 rfl ?_
        refine gf_X7_2 (v := .int (mv 0)) 0 rfl rfl qw_588 dX7_keep_88 ?_
        refine r_iconst (v := 1) dX7_keep_91 kic_1 ?_
        refine r_iadd dX7_keep_92 ?_
        refine pf_X7_2 0 rfl (Nat.le_of_ble_eq_true rfl) qw_588 dX7_keep_93 (ws' := wX Z a m ps im ik asd rb rp (upd mv 0 ((mv 0) + 1))) rfl ?_
        exact r_vret (hE _ (Option.some.inj hg)) dX7_keep_96
      · replace hg := (if_neg h56).symm.trans hg
        refine r_aload_n dX7_keep_59 0 rfl ?_
        refine gf_X7_1 (v := .ref (a 2)) 0 rfl rfl qw_587 dX7_keep_60 ?_
        refine r_sipush (v := 131) dX7_keep_63 ksp_131 ?_
        refine r_aload_n dX7_keep_66 0 rfl ?_
        refine gf_X7_2 (v := .int (mv 0)) 0 rfl rfl qw_588 dX7_keep_67 ?_
        refine r_imul dX7_keep_70 ?_
        refine r_iload_n dX7_keep_71 1 rfl ?_
        refine r_iadd dX7_keep_72 ?_
        refine r_aload_n dX7_keep_73 0 rfl ?_
        refine gf_X7_0 (v := .ref (a 1)) 0 rfl rfl qw_586 dX7_keep_74 ?_
        refine r_iload_n dX7_keep_77 1 rfl ?_
        obtain ⟨hi78, hg⟩ := og hg
        refine r_iald 1 rfl hi78 dX7_keep_78 ?_
        obtain ⟨hi79, hg⟩ := og hg
        refine r_iast 2 rfl rfl hi79 dX7_keep_79 (ws' := wX Z a m (upd ps (((131 * (mv 0)) + x1).toNatClampNeg) (m x1.toNatClampNeg)) im ik asd rb rp mv) rfl ?_
        refine r_iinc (v := (x1 + 1)) (lv' := [(1, .int (x1 + 1)), (0, .ref (a 0))]) dX7_keep_80 (k := 1) rfl rfl (by decide) rfl ?_
        refine r_goto (tgt := 52) dX7_keep_83 (by decide) ?_
        exact r_sub [1, 0] rfl (ih (x1 + 1) (upd ps (((131 * (mv 0)) + x1).toNatClampNeg) (m x1.toNatClampNeg)) mv hg)
  have J50 : ∀ (ps : Nat → Int32) (mv : Nat → Int32), g_X7_keep_50 m ps mv = some o → AtK X Z rm_X7_keep cX7_keep RX7 2 0 0 (wX Z a m ps im ik asd rb rp mv) 50 [(0, .ref (a 0))] [] := by
    intro ps mv hg
    unfold g_X7_keep_50 at hg
    refine r_iconst (v := 0) dX7_keep_50 kic_0 ?_
    refine r_istore_n (lv' := [(1, .int 0), (0, .ref (a 0))]) dX7_keep_51 (by decide) rfl ?_
    exact r_sub [1, 0] rfl (J52 1000 0 ps mv hg)
  have J11 : ∀ (n : Nat), ∀ (x1 : Int32) (ps : Nat → Int32) (mv : Nat → Int32), g_X7_keep_11 m n x1 ps mv = some o → AtK X Z rm_X7_keep cX7_keep RX7 2 0 0 (wX Z a m ps im ik asd rb rp mv) 11 [(0, .ref (a 0)), (1, .int x1)] [] := by
    intro  n
    induction n with
    | zero => intro x1 ps mv hg; exact nomatch (show (none : Option _) = some o from hg)
    | succ n ih =>
      intro x1 ps mv hg
      unfold g_X7_keep_11 at hg
      refine r_iload_n dX7_keep_11 1 rfl ?_
      refine r_sipush (v := 917) dX7_keep_12 ksp_917 ?_
      refine r_icmp_ge (tgt := 40) dX7_keep_15 (by decide) (fun h15 => ?_) (fun h15 => ?_)
      · replace hg := (if_pos h15).symm.trans hg
        refine r_aload_n dX7_keep_40 0 rfl ?_
        refine r_dup dX7_keep_41 rfl ?_
        refine gf_X7_2 (v := .int (mv 0)) 0 rfl rfl qw_588 dX7_keep_42 ?_
        refine r_iconst (v := 1) dX7_keep_45 kic_1 ?_
        refine r_isub dX7_keep_46 ?_
        refine pf_X7_2 0 rfl (Nat.le_of_ble_eq_true rfl) qw_588 dX7_keep_47 (ws' := wX Z a m ps im ik asd rb rp (upd mv 0 ((mv 0) - 1))) rfl ?_
        exact r_sub [0] rfl (J50 ps (upd mv 0 ((mv 0) - 1)) hg)
      · replace hg := (if_neg h15).symm.trans hg
        refine r_aload_n dX7_keep_18 0 rfl ?_
        refine gf_X7_1 (v := .ref (a 2)) 0 rfl rfl qw_587 dX7_keep_19 ?_
        refine r_iload_n dX7_keep_22 1 rfl ?_
        refine r_aload_n dX7_keep_23 0 rfl ?_
        refine gf_X7_1 (v := .ref (a 2)) 0 rfl rfl qw_587 dX7_keep_24 ?_
        refine r_iload_n dX7_keep_27 1 rfl ?_
        refine r_sipush (v := 131) dX7_keep_28 ksp_131 ?_
        refine r_iadd dX7_keep_31 ?_
        obtain ⟨hi32, hg⟩ := og hg
        refine r_iald 2 rfl hi32 dX7_keep_32 ?_
        obtain ⟨hi33, hg⟩ := og hg
        refine r_iast 2 rfl rfl hi33 dX7_keep_33 (ws' := wX Z a m (upd ps x1.toNatClampNeg (ps (x1 + 131).toNatClampNeg)) im ik asd rb rp mv) rfl ?_
        refine r_iinc (v := (x1 + 1)) (lv' := [(1, .int (x1 + 1)), (0, .ref (a 0))]) dX7_keep_34 (k := 1) rfl rfl (by decide) rfl ?_
        refine r_goto (tgt := 11) dX7_keep_37 (by decide) ?_
        exact r_sub [1, 0] rfl (ih (x1 + 1) (upd ps x1.toNatClampNeg (ps (x1 + 131).toNatClampNeg)) mv hg)
  unfold g_X7_keep at hg
  show AtK X Z rm_X7_keep cX7_keep RX7 2 0 0 (wX Z a m ps im ik asd rb rp mv) 0 [(0, .ref (a 0))] []
  refine r_aload_n dX7_keep_0 0 rfl ?_
  refine gf_X7_2 (v := .int (mv 0)) 0 rfl rfl qw_588 dX7_keep_1 ?_
  refine r_bipush (v := 8) dX7_keep_4 kbp_8 ?_
  refine r_icmp_ne (tgt := 50) dX7_keep_6 (by decide) (fun h6 => ?_) (fun h6 => ?_)
  · replace hg := (if_neg h6).symm.trans hg
    exact r_sub [0] rfl (J50 ps mv hg)
  · replace hg := (if_pos h6).symm.trans hg
    refine r_iconst (v := 0) dX7_keep_9 kic_0 ?_
    refine r_istore_n (lv' := [(1, .int 0), (0, .ref (a 0))]) dX7_keep_10 (by decide) rfl ?_
    exact r_sub [1, 0] rfl (J11 1000 0 ps mv hg)

-- TicketJournalModel.undo()I
abbrev rm_X7_undo : Room := { frames := 0, cells := 0, slots := 0, locals := 0 }
def g_X7_undo_22 (ps : Nat → Int32)  : Nat → Int32 → (Nat → Int32) → (Nat → Int32) → Option (Int32 × (Nat → Int32) × (Nat → Int32))
  | 0 => fun _ _ _ => none
  | n + 1 => fun x1 m mv => (if 131 ≤ x1 then some ((mv 0), m, mv) else (if ((131 * (mv 0)) + x1) < 0 ∨ 1048 ≤ ((131 * (mv 0)) + x1).toNatClampNeg then none else (if x1 < 0 ∨ 131 ≤ x1.toNatClampNeg then none else (g_X7_undo_22 ps n) (x1 + 1) (upd m x1.toNatClampNeg (ps ((131 * (mv 0)) + x1).toNatClampNeg)) mv)))
def g_X7_undo (m : Nat → Int32) (ps : Nat → Int32) (mv : Nat → Int32)  : Option (Int32 × (Nat → Int32) × (Nat → Int32)) :=
  (if (mv 0) = 0 then some ((-2), m, mv) else g_X7_undo_22 ps 140 0 m (upd mv 0 ((mv 0) - 1)))
set_option maxHeartbeats 4000000 in
set_option maxRecDepth 100000 in
theorem c_X7_undo (Z : GZ) (l : Launch) (a : Nat → Nat) (m : Nat → Int32) (ps : Nat → Int32) (im : Nat → Int32) (ik : Nat → Int32) (asd : Nat → Int32) (rb : Nat → Int32) (rp : Nat → Int32) (mv : Nat → Int32)  (o : (Int32 × (Nat → Int32) × (Nat → Int32))) (hg : g_X7_undo m ps mv = some o) : Con Z l yX7_undo cX7_undo 2 (some .int) rm_X7_undo [.ref (a 0)] (wX Z a m ps im ik asd rb rp mv) (some (.int o.1)) (wX Z a o.2.1 ps im ik asd rb rp o.2.2) := by
  refine Con.of (by decide) (Nat.le_of_ble_eq_true rfl) ?_
  intro X hE0
  have hE : ∀ z, z = o → endsX X Z (some .int) (some (.int z.1)) (wX Z a z.2.1 ps im ik asd rb rp z.2.2) := by
    rintro _ rfl; exact hE0
  have J22 : ∀ (n : Nat), ∀ (x1 : Int32) (m : Nat → Int32) (mv : Nat → Int32), g_X7_undo_22 ps n x1 m mv = some o → AtK X Z rm_X7_undo cX7_undo RX7 2 0 0 (wX Z a m ps im ik asd rb rp mv) 22 [(0, .ref (a 0)), (1, .int x1)] [] := by
    intro  n
    induction n with
    | zero => intro x1 m mv hg; exact nomatch (show (none : Option _) = some o from hg)
    | succ n ih =>
      intro x1 m mv hg
      unfold g_X7_undo_22 at hg
      refine r_iload_n dX7_undo_22 1 rfl ?_
      refine r_sipush (v := 131) dX7_undo_23 ksp_131 ?_
      refine r_icmp_ge (tgt := 56) dX7_undo_26 (by decide) (fun h26 => ?_) (fun h26 => ?_)
      · replace hg := (if_pos h26).symm.trans hg
        refine r_aload_n dX7_undo_56 0 rfl ?_
        refine gf_X7_2 (v := .int (mv 0)) 0 rfl rfl qw_588 dX7_undo_57 ?_
        exact r_iret (hE _ (Option.some.inj hg)) dX7_undo_60
      · replace hg := (if_neg h26).symm.trans hg
        refine r_aload_n dX7_undo_29 0 rfl ?_
        refine gf_X7_0 (v := .ref (a 1)) 0 rfl rfl qw_586 dX7_undo_30 ?_
        refine r_iload_n dX7_undo_33 1 rfl ?_
        refine r_aload_n dX7_undo_34 0 rfl ?_
        refine gf_X7_1 (v := .ref (a 2)) 0 rfl rfl qw_587 dX7_undo_35 ?_
        refine r_sipush (v := 131) dX7_undo_38 ksp_131 ?_
        refine r_aload_n dX7_undo_41 0 rfl ?_
        refine gf_X7_2 (v := .int (mv 0)) 0 rfl rfl qw_588 dX7_undo_42 ?_
        refine r_imul dX7_undo_45 ?_
        refine r_iload_n dX7_undo_46 1 rfl ?_
        refine r_iadd dX7_undo_47 ?_
        obtain ⟨hi48, hg⟩ := og hg
        refine r_iald 2 rfl hi48 dX7_undo_48 ?_
        obtain ⟨hi49, hg⟩ := og hg
        refine r_iast 1 rfl rfl hi49 dX7_undo_49 (ws' := wX Z a (upd m x1.toNatClampNeg (ps ((131 * (mv 0)) + x1).toNatClampNeg)) ps im ik asd rb rp mv) rfl ?_
        refine r_iinc (v := (x1 + 1)) (lv' := [(1, .int (x1 + 1)), (0, .ref (a 0))]) dX7_undo_50 (k := 1) rfl rfl (by decide) rfl ?_
        refine r_goto (tgt := 22) dX7_undo_53 (by decide) ?_
        exact r_sub [1, 0] rfl (ih (x1 + 1) (upd m x1.toNatClampNeg (ps ((131 * (mv 0)) + x1).toNatClampNeg)) mv hg)
  unfold g_X7_undo at hg
  show AtK X Z rm_X7_undo cX7_undo RX7 2 0 0 (wX Z a m ps im ik asd rb rp mv) 0 [(0, .ref (a 0))] []
  refine r_aload_n dX7_undo_0 0 rfl ?_
  refine gf_X7_2 (v := .int (mv 0)) 0 rfl rfl qw_588 dX7_undo_1 ?_
  refine r_if_ne (tgt := 10) dX7_undo_4 (by decide) (fun h4 => ?_) (fun h4 => ?_)
  · replace hg := (if_neg h4).symm.trans hg
    refine r_aload_n dX7_undo_10 0 rfl ?_
    refine r_dup dX7_undo_11 rfl ?_
    refine gf_X7_2 (v := .int (mv 0)) 0 rfl rfl qw_588 dX7_undo_12 ?_
    refine r_iconst (v := 1) dX7_undo_15 kic_1 ?_
    refine r_isub dX7_undo_16 ?_
    refine pf_X7_2 0 rfl (Nat.le_of_ble_eq_true rfl) qw_588 dX7_undo_17 (ws' := wX Z a m ps im ik asd rb rp (upd mv 0 ((mv 0) - 1))) rfl ?_
    refine r_iconst (v := 0) dX7_undo_20 kic_0 ?_
    refine r_istore_n (lv' := [(1, .int 0), (0, .ref (a 0))]) dX7_undo_21 (by decide) rfl ?_
    exact r_sub [1, 0] rfl (J22 140 0 m (upd mv 0 ((mv 0) - 1)) hg)
  · replace hg := (if_pos h4).symm.trans hg
    refine r_bipush (v := (-2)) dX7_undo_7 kbp_m2 ?_
    exact r_iret (hE _ (Option.some.inj hg)) dX7_undo_9

-- TicketJournalModel.canOperate()Z
abbrev rm_X7_canOperate : Room := { frames := 0, cells := 0, slots := 0, locals := 0 }
def g_X7_canOperate_52   (t1 : Int32) (t2 : Int32) (t3 : Int32) (m : Nat → Int32) : Option (Int32 × (Nat → Int32)) :=
  (if t1 < 0 ∨ 131 ≤ t1.toNatClampNeg then none else some (1, (upd (upd m t1.toNatClampNeg (t2 - t3)) 125 (((upd m t1.toNatClampNeg (t2 - t3)) 125) + 1))))
def g_X7_canOperate (m : Nat → Int32)  : Option (Int32 × (Nat → Int32)) :=
  (if (m 126) = 0 then some (0, (upd (upd m 126 (-9)) 115 0)) else (if (m 126) ≤ 0 then g_X7_canOperate_52 126 (m 126) 0 m else g_X7_canOperate_52 126 (m 126) 1 m))
set_option maxHeartbeats 4000000 in
set_option maxRecDepth 100000 in
theorem c_X7_canOperate (Z : GZ) (l : Launch) (a : Nat → Nat) (m : Nat → Int32) (ps : Nat → Int32) (im : Nat → Int32) (ik : Nat → Int32) (asd : Nat → Int32) (rb : Nat → Int32) (rp : Nat → Int32) (mv : Nat → Int32)  (o : (Int32 × (Nat → Int32))) (hg : g_X7_canOperate m = some o) : Con Z l yX7_canOperate cX7_canOperate 1 (some .boolean) rm_X7_canOperate [.ref (a 0)] (wX Z a m ps im ik asd rb rp mv) (some (.int o.1)) (wX Z a o.2 ps im ik asd rb rp mv) := by
  refine Con.of (by decide) (Nat.le_of_ble_eq_true rfl) ?_
  intro X hE0
  have hE : ∀ z, z = o → endsX X Z (some .boolean) (some (.int z.1)) (wX Z a z.2 ps im ik asd rb rp mv) := by
    rintro _ rfl; exact hE0
  have J52 : ∀ (t1 : Int32) (t2 : Int32) (t3 : Int32) (m : Nat → Int32), g_X7_canOperate_52 t1 t2 t3 m = some o → AtK X Z rm_X7_canOperate cX7_canOperate RX7 1 0 0 (wX Z a m ps im ik asd rb rp mv) 52 [(0, .ref (a 0))] [.int t3, .int t2, .int t1, .ref (a 1)] := by
    intro t1 t2 t3 m hg
    unfold g_X7_canOperate_52 at hg
    refine r_isub dX7_canOperate_52 ?_
    obtain ⟨hi53, hg⟩ := og hg
    refine r_iast 1 rfl rfl hi53 dX7_canOperate_53 (ws' := wX Z a (upd m t1.toNatClampNeg (t2 - t3)) ps im ik asd rb rp mv) rfl ?_
    refine r_aload_n dX7_canOperate_54 0 rfl ?_
    refine gf_X7_0 (v := .ref (a 1)) 0 rfl rfl qw_586 dX7_canOperate_55 ?_
    refine r_bipush (v := 125) dX7_canOperate_58 kbp_125 ?_
    refine r_dup2 dX7_canOperate_60 rfl rfl ?_
    refine r_ialdV (f := upd m t1.toNatClampNeg (t2 - t3)) 1 rfl (j := 125) (by decide) (by decide) (v := (upd m t1.toNatClampNeg (t2 - t3)) 125) rfl dX7_canOperate_61 ?_
    refine r_iconst (v := 1) dX7_canOperate_62 kic_1 ?_
    refine r_iadd dX7_canOperate_63 ?_
    refine r_iast 1 rfl (j := 125) (by decide) (by decide) dX7_canOperate_64 (ws' := wX Z a (upd (upd m t1.toNatClampNeg (t2 - t3)) 125 (((upd m t1.toNatClampNeg (t2 - t3)) 125) + 1)) ps im ik asd rb rp mv) rfl ?_
    refine r_iconst (v := 1) dX7_canOperate_65 kic_1 ?_
    exact r_bret (hE _ (Option.some.inj hg)) (by decide) dX7_canOperate_66
  unfold g_X7_canOperate at hg
  show AtK X Z rm_X7_canOperate cX7_canOperate RX7 1 0 0 (wX Z a m ps im ik asd rb rp mv) 0 [(0, .ref (a 0))] []
  refine r_aload_n dX7_canOperate_0 0 rfl ?_
  refine gf_X7_0 (v := .ref (a 1)) 0 rfl rfl qw_586 dX7_canOperate_1 ?_
  refine r_bipush (v := 126) dX7_canOperate_4 kbp_126 ?_
  refine r_ialdL 1 rfl (j := 126) (by decide) (by decide) dX7_canOperate_6 ?_
  refine r_if_ne (tgt := 29) dX7_canOperate_7 (by decide) (fun h7 => ?_) (fun h7 => ?_)
  · replace hg := (if_neg h7).symm.trans hg
    refine r_aload_n dX7_canOperate_29 0 rfl ?_
    refine gf_X7_0 (v := .ref (a 1)) 0 rfl rfl qw_586 dX7_canOperate_30 ?_
    refine r_bipush (v := 126) dX7_canOperate_33 kbp_126 ?_
    refine r_dup2 dX7_canOperate_35 rfl rfl ?_
    refine r_ialdL 1 rfl (j := 126) (by decide) (by decide) dX7_canOperate_36 ?_
    refine r_aload_n dX7_canOperate_37 0 rfl ?_
    refine gf_X7_0 (v := .ref (a 1)) 0 rfl rfl qw_586 dX7_canOperate_38 ?_
    refine r_bipush (v := 126) dX7_canOperate_41 kbp_126 ?_
    refine r_ialdL 1 rfl (j := 126) (by decide) (by decide) dX7_canOperate_43 ?_
    refine r_if_le (tgt := 51) dX7_canOperate_44 (by decide) (fun h44 => ?_) (fun h44 => ?_)
    · replace hg := (if_pos h44).symm.trans hg
      refine r_iconst (v := 0) dX7_canOperate_51 kic_0 ?_
      exact r_sub [0] rfl (J52 126 (m 126) 0 m hg)
    · replace hg := (if_neg h44).symm.trans hg
      refine r_iconst (v := 1) dX7_canOperate_47 kic_1 ?_
      refine r_goto (tgt := 52) dX7_canOperate_48 (by decide) ?_
      exact r_sub [0] rfl (J52 126 (m 126) 1 m hg)
  · replace hg := (if_pos h7).symm.trans hg
    refine r_aload_n dX7_canOperate_10 0 rfl ?_
    refine gf_X7_0 (v := .ref (a 1)) 0 rfl rfl qw_586 dX7_canOperate_11 ?_
    refine r_bipush (v := 126) dX7_canOperate_14 kbp_126 ?_
    refine r_bipush (v := (-9)) dX7_canOperate_16 kbp_m9 ?_
    refine r_iast 1 rfl (j := 126) (by decide) (by decide) dX7_canOperate_18 (ws' := wX Z a (upd m 126 (-9)) ps im ik asd rb rp mv) rfl ?_
    refine r_aload_n dX7_canOperate_19 0 rfl ?_
    refine gf_X7_0 (v := .ref (a 1)) 0 rfl rfl qw_586 dX7_canOperate_20 ?_
    refine r_bipush (v := 115) dX7_canOperate_23 kbp_115 ?_
    refine r_iconst (v := 0) dX7_canOperate_25 kic_0 ?_
    refine r_iast 1 rfl (j := 115) (by decide) (by decide) dX7_canOperate_26 (ws' := wX Z a (upd (upd m 126 (-9)) 115 0) ps im ik asd rb rp mv) rfl ?_
    refine r_iconst (v := 0) dX7_canOperate_27 kic_0 ?_
    exact r_bret (hE _ (Option.some.inj hg)) (by decide) dX7_canOperate_28

-- TicketJournalModel.put(III)Z
abbrev rm_X7_put : Room := { frames := 1, cells := 0, slots := 0, locals := 20 }
def g_X7_put_23   (x4 : Int32) (m : Nat → Int32) : Option (Int32 × (Nat → Int32)) :=
  (if ¬ (x4 = 0 ∨ x4 = 1) then none else some (x4, m))
def g_X7_put (m : Nat → Int32) (n1 : Int32) (n2 : Int32) (n3 : Int32) : Option (Int32 × (Nat → Int32)) :=
  (g_X7_canOperate m).bind fun o1 => (if o1.1 = 0 then g_X7_put_23 o1.1 o1.2 else (if ((22 * n1) + n2) < 0 ∨ 131 ≤ ((22 * n1) + n2).toNatClampNeg then none else g_X7_put_23 o1.1 (upd o1.2 (((22 * n1) + n2).toNatClampNeg) n3)))
set_option maxHeartbeats 4000000 in
set_option maxRecDepth 100000 in
theorem c_X7_put (Z : GZ) (l : Launch) (a : Nat → Nat) (m : Nat → Int32) (ps : Nat → Int32) (im : Nat → Int32) (ik : Nat → Int32) (asd : Nat → Int32) (rb : Nat → Int32) (rp : Nat → Int32) (mv : Nat → Int32) (n1 : Int32) (n2 : Int32) (n3 : Int32) (o : (Int32 × (Nat → Int32))) (hg : g_X7_put m n1 n2 n3 = some o) : Con Z l yX7_put cX7_put 5 (some .boolean) rm_X7_put [.ref (a 0), .int n1, .int n2, .int n3] (wX Z a m ps im ik asd rb rp mv) (some (.int o.1)) (wX Z a o.2 ps im ik asd rb rp mv) := by
  refine Con.of (by decide) (Nat.le_of_ble_eq_true rfl) ?_
  intro X hE0
  have hE : ∀ z, z = o → endsX X Z (some .boolean) (some (.int z.1)) (wX Z a z.2 ps im ik asd rb rp mv) := by
    rintro _ rfl; exact hE0
  have J23 : ∀ (x4 : Int32) (m : Nat → Int32), g_X7_put_23 x4 m = some o → AtK X Z rm_X7_put cX7_put RX7 5 0 0 (wX Z a m ps im ik asd rb rp mv) 23 [(4, .int x4)] [] := by
    intro x4 m hg
    unfold g_X7_put_23 at hg
    refine r_iload dX7_put_23 0 rfl ?_
    obtain ⟨hz25, hg⟩ := og hg
    exact r_bret (hE _ (Option.some.inj hg)) (Decidable.not_not.mp hz25) dX7_put_25
  unfold g_X7_put at hg
  show AtK X Z rm_X7_put cX7_put RX7 5 0 0 (wX Z a m ps im ik asd rb rp mv) 0 [(0, .ref (a 0)), (1, .int n1), (2, .int n2), (3, .int n3)] []
  refine r_aload_n dX7_put_0 0 rfl ?_
  obtain ⟨o1, e1, hg⟩ := ob hg
  refine r_callV (As := []) (rest := []) (ws' := wX Z a o1.2 ps im ik asd rb rp mv) 0 rfl rfl rfl (fun l => c_X7_canOperate Z l a m ps im ik asd rb rp mv  o1 e1) qw_660 mv_X7_canOperate (xPk.all rfl) ⟨Nat.le_of_ble_eq_true rfl, Nat.le_of_ble_eq_true rfl⟩ ⟨rfl, rfl⟩ ⟨Nat.zero_le _, Nat.zero_le _⟩ rfl (Nat.le_of_ble_eq_true rfl) rfl dX7_put_1 ?_
  refine r_istore (lv' := [(4, .int o1.1), (0, .ref (a 0)), (1, .int n1), (2, .int n2), (3, .int n3)]) dX7_put_4 (by decide) rfl ?_
  refine r_iload dX7_put_6 0 rfl ?_
  refine r_if_eq (tgt := 23) dX7_put_8 (by decide) (fun h8 => ?_) (fun h8 => ?_)
  · replace hg := (if_pos h8).symm.trans hg
    exact r_sub [0] rfl (J23 o1.1 o1.2 hg)
  · replace hg := (if_neg h8).symm.trans hg
    refine r_aload_n dX7_put_11 1 rfl ?_
    refine gf_X7_0 (v := .ref (a 1)) 0 rfl rfl qw_586 dX7_put_12 ?_
    refine r_bipush (v := 22) dX7_put_15 kbp_22 ?_
    refine r_iload_n dX7_put_17 2 rfl ?_
    refine r_imul dX7_put_18 ?_
    refine r_iload_n dX7_put_19 3 rfl ?_
    refine r_iadd dX7_put_20 ?_
    refine r_iload_n dX7_put_21 4 rfl ?_
    obtain ⟨hi22, hg⟩ := og hg
    refine r_iast 1 rfl rfl hi22 dX7_put_22 (ws' := wX Z a (upd o1.2 (((22 * n1) + n2).toNatClampNeg) n3) ps im ik asd rb rp mv) rfl ?_
    exact r_sub [0] rfl (J23 o1.1 (upd o1.2 (((22 * n1) + n2).toNatClampNeg) n3) hg)

-- TicketJournalModel.erase(I)Z
abbrev rm_X7_erase : Room := { frames := 1, cells := 0, slots := 0, locals := 20 }
def g_X7_erase_49   (x2 : Int32) (m : Nat → Int32) : Option (Int32 × (Nat → Int32)) :=
  (if ¬ (x2 = 0 ∨ x2 = 1) then none else some (x2, m))
def g_X7_erase_11   : Nat → Int32 → Int32 → Int32 → (Nat → Int32) → Option (Int32 × (Nat → Int32))
  | 0 => fun _ _ _ _ => none
  | n + 1 => fun x1 x2 x3 m => (if 22 ≤ x3 then (if (110 + x1) < 0 ∨ 131 ≤ (110 + x1).toNatClampNeg then none else (if (110 + x1) < 0 ∨ 131 ≤ (110 + x1).toNatClampNeg then none else g_X7_erase_49 x2 (upd m ((110 + x1).toNatClampNeg) ((m (110 + x1).toNatClampNeg) + 1)))) else (if ((22 * x1) + x3) < 0 ∨ 131 ≤ ((22 * x1) + x3).toNatClampNeg then none else (g_X7_erase_11 n) x1 x2 (x3 + 1) (upd m (((22 * x1) + x3).toNatClampNeg) 65535)))
def g_X7_erase (m : Nat → Int32) (n1 : Int32) : Option (Int32 × (Nat → Int32)) :=
  (g_X7_canOperate m).bind fun o1 => (if o1.1 = 0 then g_X7_erase_49 o1.1 o1.2 else g_X7_erase_11 30 n1 o1.1 0 o1.2)
set_option maxHeartbeats 4000000 in
set_option maxRecDepth 100000 in
theorem c_X7_erase (Z : GZ) (l : Launch) (a : Nat → Nat) (m : Nat → Int32) (ps : Nat → Int32) (im : Nat → Int32) (ik : Nat → Int32) (asd : Nat → Int32) (rb : Nat → Int32) (rp : Nat → Int32) (mv : Nat → Int32) (n1 : Int32) (o : (Int32 × (Nat → Int32))) (hg : g_X7_erase m n1 = some o) : Con Z l yX7_erase cX7_erase 4 (some .boolean) rm_X7_erase [.ref (a 0), .int n1] (wX Z a m ps im ik asd rb rp mv) (some (.int o.1)) (wX Z a o.2 ps im ik asd rb rp mv) := by
  refine Con.of (by decide) (Nat.le_of_ble_eq_true rfl) ?_
  intro X hE0
  have hE : ∀ z, z = o → endsX X Z (some .boolean) (some (.int z.1)) (wX Z a z.2 ps im ik asd rb rp mv) := by
    rintro _ rfl; exact hE0
  have J49 : ∀ (x2 : Int32) (m : Nat → Int32), g_X7_erase_49 x2 m = some o → AtK X Z rm_X7_erase cX7_erase RX7 4 0 0 (wX Z a m ps im ik asd rb rp mv) 49 [(2, .int x2)] [] := by
    intro x2 m hg
    unfold g_X7_erase_49 at hg
    refine r_iload_n dX7_erase_49 0 rfl ?_
    obtain ⟨hz50, hg⟩ := og hg
    exact r_bret (hE _ (Option.some.inj hg)) (Decidable.not_not.mp hz50) dX7_erase_50
  have J11 : ∀ (n : Nat), ∀ (x1 : Int32) (x2 : Int32) (x3 : Int32) (m : Nat → Int32), g_X7_erase_11 n x1 x2 x3 m = some o → AtK X Z rm_X7_erase cX7_erase RX7 4 0 0 (wX Z a m ps im ik asd rb rp mv) 11 [(0, .ref (a 0)), (1, .int x1), (2, .int x2), (3, .int x3)] [] := by
    intro  n
    induction n with
    | zero => intro x1 x2 x3 m hg; exact nomatch (show (none : Option _) = some o from hg)
    | succ n ih =>
      intro x1 x2 x3 m hg
      unfold g_X7_erase_11 at hg
      refine r_iload_n dX7_erase_11 3 rfl ?_
      refine r_bipush (v := 22) dX7_erase_12 kbp_22 ?_
      refine r_icmp_ge (tgt := 36) dX7_erase_14 (by decide) (fun h14 => ?_) (fun h14 => ?_)
      · replace hg := (if_pos h14).symm.trans hg
        refine r_aload_n dX7_erase_36 0 rfl ?_
        refine gf_X7_0 (v := .ref (a 1)) 0 rfl rfl qw_586 dX7_erase_37 ?_
        refine r_bipush (v := 110) dX7_erase_40 kbp_110 ?_
        refine r_iload_n dX7_erase_42 1 rfl ?_
        refine r_iadd dX7_erase_43 ?_
        refine r_dup2 dX7_erase_44 rfl rfl ?_
        obtain ⟨hi45, hg⟩ := og hg
        refine r_iald 1 rfl hi45 dX7_erase_45 ?_
        refine r_iconst (v := 1) dX7_erase_46 kic_1 ?_
        refine r_iadd dX7_erase_47 ?_
        obtain ⟨hi48, hg⟩ := og hg
        refine r_iast 1 rfl rfl hi48 dX7_erase_48 (ws' := wX Z a (upd m ((110 + x1).toNatClampNeg) ((m (110 + x1).toNatClampNeg) + 1)) ps im ik asd rb rp mv) rfl ?_
        exact r_sub [2] rfl (J49 x2 (upd m ((110 + x1).toNatClampNeg) ((m (110 + x1).toNatClampNeg) + 1)) hg)
      · replace hg := (if_neg h14).symm.trans hg
        refine r_aload_n dX7_erase_17 0 rfl ?_
        refine gf_X7_0 (v := .ref (a 1)) 0 rfl rfl qw_586 dX7_erase_18 ?_
        refine r_bipush (v := 22) dX7_erase_21 kbp_22 ?_
        refine r_iload_n dX7_erase_23 1 rfl ?_
        refine r_imul dX7_erase_24 ?_
        refine r_iload_n dX7_erase_25 3 rfl ?_
        refine r_iadd dX7_erase_26 ?_
        refine r_ldc qw_585 dX7_erase_27 ?_
        obtain ⟨hi29, hg⟩ := og hg
        refine r_iast 1 rfl rfl hi29 dX7_erase_29 (ws' := wX Z a (upd m (((22 * x1) + x3).toNatClampNeg) 65535) ps im ik asd rb rp mv) rfl ?_
        refine r_iinc (v := (x3 + 1)) (lv' := [(3, .int (x3 + 1)), (0, .ref (a 0)), (1, .int x1), (2, .int x2)]) dX7_erase_30 (k := 3) rfl rfl (by decide) rfl ?_
        refine r_goto (tgt := 11) dX7_erase_33 (by decide) ?_
        exact r_sub [1, 2, 3, 0] rfl (ih x1 x2 (x3 + 1) (upd m (((22 * x1) + x3).toNatClampNeg) 65535) hg)
  unfold g_X7_erase at hg
  show AtK X Z rm_X7_erase cX7_erase RX7 4 0 0 (wX Z a m ps im ik asd rb rp mv) 0 [(0, .ref (a 0)), (1, .int n1)] []
  refine r_aload_n dX7_erase_0 0 rfl ?_
  obtain ⟨o1, e1, hg⟩ := ob hg
  refine r_callV (As := []) (rest := []) (ws' := wX Z a o1.2 ps im ik asd rb rp mv) 0 rfl rfl rfl (fun l => c_X7_canOperate Z l a m ps im ik asd rb rp mv  o1 e1) qw_660 mv_X7_canOperate (xPk.all rfl) ⟨Nat.le_of_ble_eq_true rfl, Nat.le_of_ble_eq_true rfl⟩ ⟨rfl, rfl⟩ ⟨Nat.zero_le _, Nat.zero_le _⟩ rfl (Nat.le_of_ble_eq_true rfl) rfl dX7_erase_1 ?_
  refine r_istore_n (lv' := [(2, .int o1.1), (0, .ref (a 0)), (1, .int n1)]) dX7_erase_4 (by decide) rfl ?_
  refine r_iload_n dX7_erase_5 0 rfl ?_
  refine r_if_eq (tgt := 49) dX7_erase_6 (by decide) (fun h6 => ?_) (fun h6 => ?_)
  · replace hg := (if_pos h6).symm.trans hg
    exact r_sub [0] rfl (J49 o1.1 o1.2 hg)
  · replace hg := (if_neg h6).symm.trans hg
    refine r_iconst (v := 0) dX7_erase_9 kic_0 ?_
    refine r_istore_n (lv' := [(3, .int 0), (2, .int o1.1), (0, .ref (a 0)), (1, .int n1)]) dX7_erase_10 (by decide) rfl ?_
    exact r_sub [2, 3, 1, 0] rfl (J11 30 n1 o1.1 0 o1.2 hg)

-- TicketJournalModel.isWhole(I)Z
abbrev rm_X7_isWhole : Room := { frames := 1, cells := 0, slots := 0, locals := 24 }
def g_X7_isWhole_84 (m : Nat → Int32)   : Option (Int32) :=
  some (0)
def g_X7_isWhole_26 (m : Nat → Int32) (k4 : Int32 → Int32 → Int32 → Option (Int32)) (x1 : Int32) (x3 : Int32) (t0 : Int32) (t1 : Int32) : Option (Int32) :=
  k4 x1 (t0 &&& t1) (x3 + 1)
def g_X7_isWhole_4 (m : Nat → Int32)  : Nat → Int32 → Int32 → Int32 → Option (Int32)
  | 0 => fun _ _ _ => none
  | n + 1 => fun x1 x2 x3 => (if 5 ≤ x3 then (if x2 = 0 then g_X7_isWhole_84 m else (g_X7_at m x1 5).bind fun o41 => (g_X7_at m x1 0).bind fun o47 => (g_X7_at m x1 1).bind fun o53 => (g_X7_at m x1 2).bind fun o59 => (g_X7_at m x1 3).bind fun o65 => (g_X7_at m x1 4).bind fun o71 => (g_X7_headCheck o47 o53 o59 o65 o71).bind fun o74 => (if o41 = o74 then some (1) else g_X7_isWhole_84 m)) else (g_X7_at m x1 x3).bind fun o13 => (if o13 = 65535 then g_X7_isWhole_26 m (g_X7_isWhole_4 m n) x1 x3 x2 0 else g_X7_isWhole_26 m (g_X7_isWhole_4 m n) x1 x3 x2 1))
def g_X7_isWhole (m : Nat → Int32) (n1 : Int32) : Option (Int32) :=
  g_X7_isWhole_4 m 8 n1 1 0
set_option maxHeartbeats 4000000 in
set_option maxRecDepth 100000 in
theorem c_X7_isWhole (Z : GZ) (l : Launch) (a : Nat → Nat) (m : Nat → Int32) (ps : Nat → Int32) (im : Nat → Int32) (ik : Nat → Int32) (asd : Nat → Int32) (rb : Nat → Int32) (rp : Nat → Int32) (mv : Nat → Int32) (n1 : Int32) (o : (Int32)) (hg : g_X7_isWhole m n1 = some o) : Con Z l yX7_isWhole cX7_isWhole 4 (some .boolean) rm_X7_isWhole [.ref (a 0), .int n1] (wX Z a m ps im ik asd rb rp mv) (some (.int o)) (wX Z a m ps im ik asd rb rp mv) := by
  refine Con.of (by decide) (Nat.le_of_ble_eq_true rfl) ?_
  intro X hE0
  have hE : ∀ z, z = o → endsX X Z (some .boolean) (some (.int z)) (wX Z a m ps im ik asd rb rp mv) := by
    rintro _ rfl; exact hE0
  have J84 : g_X7_isWhole_84 m = some o → AtK X Z rm_X7_isWhole cX7_isWhole RX7 4 0 0 (wX Z a m ps im ik asd rb rp mv) 84 [] [] := by
    intro  hg
    unfold g_X7_isWhole_84 at hg
    refine r_iconst (v := 0) dX7_isWhole_84 kic_0 ?_
    exact r_bret (hE _ (Option.some.inj hg)) (by decide) dX7_isWhole_85
  have J26 : ∀ (k4 : Int32 → Int32 → Int32 → Option (Int32)) (hk4 : ∀ (x1 : Int32) (x2 : Int32) (x3 : Int32), k4 x1 x2 x3 = some o → AtK X Z rm_X7_isWhole cX7_isWhole RX7 4 0 0 (wX Z a m ps im ik asd rb rp mv) 4 [(0, .ref (a 0)), (1, .int x1), (2, .int x2), (3, .int x3)] []), ∀ (x1 : Int32) (x3 : Int32) (t0 : Int32) (t1 : Int32), g_X7_isWhole_26 m k4 x1 x3 t0 t1 = some o → AtK X Z rm_X7_isWhole cX7_isWhole RX7 4 0 0 (wX Z a m ps im ik asd rb rp mv) 26 [(0, .ref (a 0)), (1, .int x1), (3, .int x3)] [.int t1, .int t0] := by
    intro k4 hk4 x1 x3 t0 t1 hg
    unfold g_X7_isWhole_26 at hg
    refine r_iand dX7_isWhole_26 ?_
    refine r_istore_n (lv' := [(2, .int (t0 &&& t1)), (0, .ref (a 0)), (1, .int x1), (3, .int x3)]) dX7_isWhole_27 (by decide) rfl ?_
    refine r_iinc (v := (x3 + 1)) (lv' := [(3, .int (x3 + 1)), (2, .int (t0 &&& t1)), (0, .ref (a 0)), (1, .int x1)]) dX7_isWhole_28 (k := 3) rfl rfl (by decide) rfl ?_
    refine r_goto (tgt := 4) dX7_isWhole_31 (by decide) ?_
    exact r_sub [2, 3, 1, 0] rfl (hk4 x1 (t0 &&& t1) (x3 + 1) hg)
  have J4 : ∀ (n : Nat), ∀ (x1 : Int32) (x2 : Int32) (x3 : Int32), g_X7_isWhole_4 m n x1 x2 x3 = some o → AtK X Z rm_X7_isWhole cX7_isWhole RX7 4 0 0 (wX Z a m ps im ik asd rb rp mv) 4 [(0, .ref (a 0)), (1, .int x1), (2, .int x2), (3, .int x3)] [] := by
    intro  n
    induction n with
    | zero => intro x1 x2 x3 hg; exact nomatch (show (none : Option _) = some o from hg)
    | succ n ih =>
      intro x1 x2 x3 hg
      unfold g_X7_isWhole_4 at hg
      refine r_iload_n dX7_isWhole_4 3 rfl ?_
      refine r_iconst (v := 5) dX7_isWhole_5 kic_5 ?_
      refine r_icmp_ge (tgt := 34) dX7_isWhole_6 (by decide) (fun h6 => ?_) (fun h6 => ?_)
      · replace hg := (if_pos h6).symm.trans hg
        refine r_iload_n dX7_isWhole_34 2 rfl ?_
        refine r_if_eq (tgt := 84) dX7_isWhole_35 (by decide) (fun h35 => ?_) (fun h35 => ?_)
        · replace hg := (if_pos h35).symm.trans hg
          exact r_sub [] rfl (J84 hg)
        · replace hg := (if_neg h35).symm.trans hg
          refine r_aload_n dX7_isWhole_38 0 rfl ?_
          refine r_iload_n dX7_isWhole_39 1 rfl ?_
          refine r_iconst (v := 5) dX7_isWhole_40 kic_5 ?_
          obtain ⟨o41, e41, hg⟩ := ob hg
          refine r_callV (As := [.int x1, .int 5]) (rest := []) (ws' := wX Z a m ps im ik asd rb rp mv) 0 rfl rfl rfl (fun l => c_X7_at Z l a m ps im ik asd rb rp mv x1 5 o41 e41) qw_652 mv_X7_at (xPk.all rfl) ⟨Nat.le_of_ble_eq_true rfl, Nat.le_of_ble_eq_true rfl⟩ ⟨rfl, rfl⟩ ⟨Nat.zero_le _, Nat.zero_le _⟩ rfl (Nat.le_of_ble_eq_true rfl) rfl dX7_isWhole_41 ?_
          refine r_aload_n dX7_isWhole_44 0 rfl ?_
          refine r_iload_n dX7_isWhole_45 1 rfl ?_
          refine r_iconst (v := 0) dX7_isWhole_46 kic_0 ?_
          obtain ⟨o47, e47, hg⟩ := ob hg
          refine r_callV (As := [.int x1, .int 0]) (rest := [.int o41]) (ws' := wX Z a m ps im ik asd rb rp mv) 0 rfl rfl rfl (fun l => c_X7_at Z l a m ps im ik asd rb rp mv x1 0 o47 e47) qw_652 mv_X7_at (xPk.all rfl) ⟨Nat.le_of_ble_eq_true rfl, Nat.le_of_ble_eq_true rfl⟩ ⟨rfl, rfl⟩ ⟨Nat.zero_le _, Nat.zero_le _⟩ rfl (Nat.le_of_ble_eq_true rfl) rfl dX7_isWhole_47 ?_
          refine r_aload_n dX7_isWhole_50 0 rfl ?_
          refine r_iload_n dX7_isWhole_51 1 rfl ?_
          refine r_iconst (v := 1) dX7_isWhole_52 kic_1 ?_
          obtain ⟨o53, e53, hg⟩ := ob hg
          refine r_callV (As := [.int x1, .int 1]) (rest := [.int o47, .int o41]) (ws' := wX Z a m ps im ik asd rb rp mv) 0 rfl rfl rfl (fun l => c_X7_at Z l a m ps im ik asd rb rp mv x1 1 o53 e53) qw_652 mv_X7_at (xPk.all rfl) ⟨Nat.le_of_ble_eq_true rfl, Nat.le_of_ble_eq_true rfl⟩ ⟨rfl, rfl⟩ ⟨Nat.zero_le _, Nat.zero_le _⟩ rfl (Nat.le_of_ble_eq_true rfl) rfl dX7_isWhole_53 ?_
          refine r_aload_n dX7_isWhole_56 0 rfl ?_
          refine r_iload_n dX7_isWhole_57 1 rfl ?_
          refine r_iconst (v := 2) dX7_isWhole_58 kic_2 ?_
          obtain ⟨o59, e59, hg⟩ := ob hg
          refine r_callV (As := [.int x1, .int 2]) (rest := [.int o53, .int o47, .int o41]) (ws' := wX Z a m ps im ik asd rb rp mv) 0 rfl rfl rfl (fun l => c_X7_at Z l a m ps im ik asd rb rp mv x1 2 o59 e59) qw_652 mv_X7_at (xPk.all rfl) ⟨Nat.le_of_ble_eq_true rfl, Nat.le_of_ble_eq_true rfl⟩ ⟨rfl, rfl⟩ ⟨Nat.zero_le _, Nat.zero_le _⟩ rfl (Nat.le_of_ble_eq_true rfl) rfl dX7_isWhole_59 ?_
          refine r_aload_n dX7_isWhole_62 0 rfl ?_
          refine r_iload_n dX7_isWhole_63 1 rfl ?_
          refine r_iconst (v := 3) dX7_isWhole_64 kic_3 ?_
          obtain ⟨o65, e65, hg⟩ := ob hg
          refine r_callV (As := [.int x1, .int 3]) (rest := [.int o59, .int o53, .int o47, .int o41]) (ws' := wX Z a m ps im ik asd rb rp mv) 0 rfl rfl rfl (fun l => c_X7_at Z l a m ps im ik asd rb rp mv x1 3 o65 e65) qw_652 mv_X7_at (xPk.all rfl) ⟨Nat.le_of_ble_eq_true rfl, Nat.le_of_ble_eq_true rfl⟩ ⟨rfl, rfl⟩ ⟨Nat.zero_le _, Nat.zero_le _⟩ rfl (Nat.le_of_ble_eq_true rfl) rfl dX7_isWhole_65 ?_
          refine r_aload_n dX7_isWhole_68 0 rfl ?_
          refine r_iload_n dX7_isWhole_69 1 rfl ?_
          refine r_iconst (v := 4) dX7_isWhole_70 kic_4 ?_
          obtain ⟨o71, e71, hg⟩ := ob hg
          refine r_callV (As := [.int x1, .int 4]) (rest := [.int o65, .int o59, .int o53, .int o47, .int o41]) (ws' := wX Z a m ps im ik asd rb rp mv) 0 rfl rfl rfl (fun l => c_X7_at Z l a m ps im ik asd rb rp mv x1 4 o71 e71) qw_652 mv_X7_at (xPk.all rfl) ⟨Nat.le_of_ble_eq_true rfl, Nat.le_of_ble_eq_true rfl⟩ ⟨rfl, rfl⟩ ⟨Nat.zero_le _, Nat.zero_le _⟩ rfl (Nat.le_of_ble_eq_true rfl) rfl dX7_isWhole_71 ?_
          obtain ⟨o74, e74, hg⟩ := ob hg
          refine r_callS (As := [.int o47, .int o53, .int o59, .int o65, .int o71]) (rest := [.int o41]) (ws' := wX Z a m ps im ik asd rb rp mv) (fun l => c_X7_headCheck Z l   o47 o53 o59 o65 o71 o74 e74) qw_668 ms_X7_headCheck xPk.none ⟨Nat.le_of_ble_eq_true rfl, Nat.le_of_ble_eq_true rfl⟩ ⟨rfl, rfl⟩ ⟨Nat.zero_le _, Nat.zero_le _⟩ rfl (Nat.le_of_ble_eq_true rfl) rfl dX7_isWhole_74 ?_
          refine r_icmp_ne (tgt := 84) dX7_isWhole_77 (by decide) (fun h77 => ?_) (fun h77 => ?_)
          · replace hg := (if_neg h77).symm.trans hg
            exact r_sub [] rfl (J84 hg)
          · replace hg := (if_pos h77).symm.trans hg
            refine r_iconst (v := 1) dX7_isWhole_80 kic_1 ?_
            refine r_goto (tgt := 85) dX7_isWhole_81 (by decide) ?_
            exact r_bret (hE _ (Option.some.inj hg)) (by decide) dX7_isWhole_85
      · replace hg := (if_neg h6).symm.trans hg
        refine r_iload_n dX7_isWhole_9 2 rfl ?_
        refine r_aload_n dX7_isWhole_10 0 rfl ?_
        refine r_iload_n dX7_isWhole_11 1 rfl ?_
        refine r_iload_n dX7_isWhole_12 3 rfl ?_
        obtain ⟨o13, e13, hg⟩ := ob hg
        refine r_callV (As := [.int x1, .int x3]) (rest := [.int x2]) (ws' := wX Z a m ps im ik asd rb rp mv) 0 rfl rfl rfl (fun l => c_X7_at Z l a m ps im ik asd rb rp mv x1 x3 o13 e13) qw_652 mv_X7_at (xPk.all rfl) ⟨Nat.le_of_ble_eq_true rfl, Nat.le_of_ble_eq_true rfl⟩ ⟨rfl, rfl⟩ ⟨Nat.zero_le _, Nat.zero_le _⟩ rfl (Nat.le_of_ble_eq_true rfl) rfl dX7_isWhole_13 ?_
        refine r_ldc qw_585 dX7_isWhole_16 ?_
        refine r_icmp_eq (tgt := 25) dX7_isWhole_18 (by decide) (fun h18 => ?_) (fun h18 => ?_)
        · replace hg := (if_pos h18).symm.trans hg
          refine r_iconst (v := 0) dX7_isWhole_25 kic_0 ?_
          exact r_sub [0, 1, 3] rfl (J26 (g_X7_isWhole_4 m n) ih x1 x3 x2 0 hg)
        · replace hg := (if_neg h18).symm.trans hg
          refine r_iconst (v := 1) dX7_isWhole_21 kic_1 ?_
          refine r_goto (tgt := 26) dX7_isWhole_22 (by decide) ?_
          exact r_sub [0, 1, 3] rfl (J26 (g_X7_isWhole_4 m n) ih x1 x3 x2 1 hg)
  unfold g_X7_isWhole at hg
  show AtK X Z rm_X7_isWhole cX7_isWhole RX7 4 0 0 (wX Z a m ps im ik asd rb rp mv) 0 [(0, .ref (a 0)), (1, .int n1)] []
  refine r_iconst (v := 1) dX7_isWhole_0 kic_1 ?_
  refine r_istore_n (lv' := [(2, .int 1), (0, .ref (a 0)), (1, .int n1)]) dX7_isWhole_1 (by decide) rfl ?_
  refine r_iconst (v := 0) dX7_isWhole_2 kic_0 ?_
  refine r_istore_n (lv' := [(3, .int 0), (2, .int 1), (0, .ref (a 0)), (1, .int n1)]) dX7_isWhole_3 (by decide) rfl ?_
  exact r_sub [2, 3, 1, 0] rfl (J4 8 n1 1 0 hg)

-- TicketJournalModel.inPlace(III)I
abbrev rm_X7_inPlace : Room := { frames := 1, cells := 0, slots := 0, locals := 22 }
def g_X7_inPlace (m : Nat → Int32) (n1 : Int32) (n2 : Int32) (n3 : Int32) : Option (Int32) :=
  (g_X7_wordOf n2 n3).bind fun o4 => (g_X7_at m n1 o4).bind fun o7 => some (o7)
set_option maxHeartbeats 4000000 in
set_option maxRecDepth 100000 in
theorem c_X7_inPlace (Z : GZ) (l : Launch) (a : Nat → Nat) (m : Nat → Int32) (ps : Nat → Int32) (im : Nat → Int32) (ik : Nat → Int32) (asd : Nat → Int32) (rb : Nat → Int32) (rp : Nat → Int32) (mv : Nat → Int32) (n1 : Int32) (n2 : Int32) (n3 : Int32) (o : (Int32)) (hg : g_X7_inPlace m n1 n2 n3 = some o) : Con Z l yX7_inPlace cX7_inPlace 4 (some .int) rm_X7_inPlace [.ref (a 0), .int n1, .int n2, .int n3] (wX Z a m ps im ik asd rb rp mv) (some (.int o)) (wX Z a m ps im ik asd rb rp mv) := by
  refine Con.of (by decide) (Nat.le_of_ble_eq_true rfl) ?_
  intro X hE0
  have hE : ∀ z, z = o → endsX X Z (some .int) (some (.int z)) (wX Z a m ps im ik asd rb rp mv) := by
    rintro _ rfl; exact hE0
  unfold g_X7_inPlace at hg
  show AtK X Z rm_X7_inPlace cX7_inPlace RX7 4 0 0 (wX Z a m ps im ik asd rb rp mv) 0 [(0, .ref (a 0)), (1, .int n1), (2, .int n2), (3, .int n3)] []
  refine r_aload_n dX7_inPlace_0 0 rfl ?_
  refine r_iload_n dX7_inPlace_1 1 rfl ?_
  refine r_iload_n dX7_inPlace_2 2 rfl ?_
  refine r_iload_n dX7_inPlace_3 3 rfl ?_
  obtain ⟨o4, e4, hg⟩ := ob hg
  refine r_callS (As := [.int n2, .int n3]) (rest := [.int n1, .ref (a 0)]) (ws' := wX Z a m ps im ik asd rb rp mv) (fun l => c_X7_wordOf Z l   n2 n3 o4 e4) qw_672 ms_X7_wordOf xPk.none ⟨Nat.le_of_ble_eq_true rfl, Nat.le_of_ble_eq_true rfl⟩ ⟨rfl, rfl⟩ ⟨Nat.zero_le _, Nat.zero_le _⟩ rfl (Nat.le_of_ble_eq_true rfl) rfl dX7_inPlace_4 ?_
  obtain ⟨o7, e7, hg⟩ := ob hg
  refine r_callV (As := [.int n1, .int o4]) (rest := []) (ws' := wX Z a m ps im ik asd rb rp mv) 0 rfl rfl rfl (fun l => c_X7_at Z l a m ps im ik asd rb rp mv n1 o4 o7 e7) qw_652 mv_X7_at (xPk.all rfl) ⟨Nat.le_of_ble_eq_true rfl, Nat.le_of_ble_eq_true rfl⟩ ⟨rfl, rfl⟩ ⟨Nat.zero_le _, Nat.zero_le _⟩ rfl (Nat.le_of_ble_eq_true rfl) rfl dX7_inPlace_7 ?_
  exact r_iret (hE _ (Option.some.inj hg)) dX7_inPlace_10

-- TicketJournalModel.isEmpty(II)Z
abbrev rm_X7_isEmpty : Room := { frames := 2, cells := 0, slots := 0, locals := 45 }
def g_X7_isEmpty_30 (m : Nat → Int32) (k5 : Int32 → Int32 → Int32 → Int32 → Option (Int32)) (x1 : Int32) (x2 : Int32) (x4 : Int32) (t0 : Int32) (t1 : Int32) : Option (Int32) :=
  k5 x1 x2 (t0 &&& t1) (x4 + 1)
def g_X7_isEmpty_5 (m : Nat → Int32)  : Nat → Int32 → Int32 → Int32 → Int32 → Option (Int32)
  | 0 => fun _ _ _ _ => none
  | n + 1 => fun x1 x2 x3 x4 => (if 4 ≤ x4 then (if ¬ (x3 = 0 ∨ x3 = 1) then none else some (x3)) else (g_X7_inPlace m x1 x2 x4).bind fun o17 => (if o17 = 65535 then g_X7_isEmpty_30 m (g_X7_isEmpty_5 m n) x1 x2 x4 x3 1 else g_X7_isEmpty_30 m (g_X7_isEmpty_5 m n) x1 x2 x4 x3 0))
def g_X7_isEmpty (m : Nat → Int32) (n1 : Int32) (n2 : Int32) : Option (Int32) :=
  g_X7_isEmpty_5 m 8 n1 n2 1 0
set_option maxHeartbeats 4000000 in
set_option maxRecDepth 100000 in
theorem c_X7_isEmpty (Z : GZ) (l : Launch) (a : Nat → Nat) (m : Nat → Int32) (ps : Nat → Int32) (im : Nat → Int32) (ik : Nat → Int32) (asd : Nat → Int32) (rb : Nat → Int32) (rp : Nat → Int32) (mv : Nat → Int32) (n1 : Int32) (n2 : Int32) (o : (Int32)) (hg : g_X7_isEmpty m n1 n2 = some o) : Con Z l yX7_isEmpty cX7_isEmpty 5 (some .boolean) rm_X7_isEmpty [.ref (a 0), .int n1, .int n2] (wX Z a m ps im ik asd rb rp mv) (some (.int o)) (wX Z a m ps im ik asd rb rp mv) := by
  refine Con.of (by decide) (Nat.le_of_ble_eq_true rfl) ?_
  intro X hE0
  have hE : ∀ z, z = o → endsX X Z (some .boolean) (some (.int z)) (wX Z a m ps im ik asd rb rp mv) := by
    rintro _ rfl; exact hE0
  have J30 : ∀ (k5 : Int32 → Int32 → Int32 → Int32 → Option (Int32)) (hk5 : ∀ (x1 : Int32) (x2 : Int32) (x3 : Int32) (x4 : Int32), k5 x1 x2 x3 x4 = some o → AtK X Z rm_X7_isEmpty cX7_isEmpty RX7 5 0 0 (wX Z a m ps im ik asd rb rp mv) 5 [(0, .ref (a 0)), (1, .int x1), (2, .int x2), (3, .int x3), (4, .int x4)] []), ∀ (x1 : Int32) (x2 : Int32) (x4 : Int32) (t0 : Int32) (t1 : Int32), g_X7_isEmpty_30 m k5 x1 x2 x4 t0 t1 = some o → AtK X Z rm_X7_isEmpty cX7_isEmpty RX7 5 0 0 (wX Z a m ps im ik asd rb rp mv) 30 [(0, .ref (a 0)), (1, .int x1), (2, .int x2), (4, .int x4)] [.int t1, .int t0] := by
    intro k5 hk5 x1 x2 x4 t0 t1 hg
    unfold g_X7_isEmpty_30 at hg
    refine r_iand dX7_isEmpty_30 ?_
    refine r_istore_n (lv' := [(3, .int (t0 &&& t1)), (0, .ref (a 0)), (1, .int x1), (2, .int x2), (4, .int x4)]) dX7_isEmpty_31 (by decide) rfl ?_
    refine r_iinc (v := (x4 + 1)) (lv' := [(4, .int (x4 + 1)), (3, .int (t0 &&& t1)), (0, .ref (a 0)), (1, .int x1), (2, .int x2)]) dX7_isEmpty_32 (k := 4) rfl rfl (by decide) rfl ?_
    refine r_goto (tgt := 5) dX7_isEmpty_35 (by decide) ?_
    exact r_sub [2, 3, 4, 1, 0] rfl (hk5 x1 x2 (t0 &&& t1) (x4 + 1) hg)
  have J5 : ∀ (n : Nat), ∀ (x1 : Int32) (x2 : Int32) (x3 : Int32) (x4 : Int32), g_X7_isEmpty_5 m n x1 x2 x3 x4 = some o → AtK X Z rm_X7_isEmpty cX7_isEmpty RX7 5 0 0 (wX Z a m ps im ik asd rb rp mv) 5 [(0, .ref (a 0)), (1, .int x1), (2, .int x2), (3, .int x3), (4, .int x4)] [] := by
    intro  n
    induction n with
    | zero => intro x1 x2 x3 x4 hg; exact nomatch (show (none : Option _) = some o from hg)
    | succ n ih =>
      intro x1 x2 x3 x4 hg
      unfold g_X7_isEmpty_5 at hg
      refine r_iload dX7_isEmpty_5 4 rfl ?_
      refine r_iconst (v := 4) dX7_isEmpty_7 kic_4 ?_
      refine r_icmp_ge (tgt := 38) dX7_isEmpty_8 (by decide) (fun h8 => ?_) (fun h8 => ?_)
      · replace hg := (if_pos h8).symm.trans hg
        refine r_iload_n dX7_isEmpty_38 3 rfl ?_
        obtain ⟨hz39, hg⟩ := og hg
        exact r_bret (hE _ (Option.some.inj hg)) (Decidable.not_not.mp hz39) dX7_isEmpty_39
      · replace hg := (if_neg h8).symm.trans hg
        refine r_iload_n dX7_isEmpty_11 3 rfl ?_
        refine r_aload_n dX7_isEmpty_12 0 rfl ?_
        refine r_iload_n dX7_isEmpty_13 1 rfl ?_
        refine r_iload_n dX7_isEmpty_14 2 rfl ?_
        refine r_iload dX7_isEmpty_15 4 rfl ?_
        obtain ⟨o17, e17, hg⟩ := ob hg
        refine r_callV (As := [.int x1, .int x2, .int x4]) (rest := [.int x3]) (ws' := wX Z a m ps im ik asd rb rp mv) 0 rfl rfl rfl (fun l => c_X7_inPlace Z l a m ps im ik asd rb rp mv x1 x2 x4 o17 e17) qw_690 mv_X7_inPlace (xPk.all rfl) ⟨Nat.le_of_ble_eq_true rfl, Nat.le_of_ble_eq_true rfl⟩ ⟨rfl, rfl⟩ ⟨Nat.zero_le _, Nat.zero_le _⟩ rfl (Nat.le_of_ble_eq_true rfl) rfl dX7_isEmpty_17 ?_
        refine r_ldc qw_585 dX7_isEmpty_20 ?_
        refine r_icmp_ne (tgt := 29) dX7_isEmpty_22 (by decide) (fun h22 => ?_) (fun h22 => ?_)
        · replace hg := (if_neg h22).symm.trans hg
          refine r_iconst (v := 0) dX7_isEmpty_29 kic_0 ?_
          exact r_sub [0, 1, 2, 4] rfl (J30 (g_X7_isEmpty_5 m n) ih x1 x2 x4 x3 0 hg)
        · replace hg := (if_pos h22).symm.trans hg
          refine r_iconst (v := 1) dX7_isEmpty_25 kic_1 ?_
          refine r_goto (tgt := 30) dX7_isEmpty_26 (by decide) ?_
          exact r_sub [0, 1, 2, 4] rfl (J30 (g_X7_isEmpty_5 m n) ih x1 x2 x4 x3 1 hg)
  unfold g_X7_isEmpty at hg
  show AtK X Z rm_X7_isEmpty cX7_isEmpty RX7 5 0 0 (wX Z a m ps im ik asd rb rp mv) 0 [(0, .ref (a 0)), (1, .int n1), (2, .int n2)] []
  refine r_iconst (v := 1) dX7_isEmpty_0 kic_1 ?_
  refine r_istore_n (lv' := [(3, .int 1), (0, .ref (a 0)), (1, .int n1), (2, .int n2)]) dX7_isEmpty_1 (by decide) rfl ?_
  refine r_iconst (v := 0) dX7_isEmpty_2 kic_0 ?_
  refine r_istore (lv' := [(4, .int 0), (3, .int 1), (0, .ref (a 0)), (1, .int n1), (2, .int n2)]) dX7_isEmpty_3 (by decide) rfl ?_
  exact r_sub [2, 3, 4, 1, 0] rfl (J5 8 n1 n2 1 0 hg)

-- TicketJournalModel.isRecord(II)Z
abbrev rm_X7_isRecord : Room := { frames := 3, cells := 0, slots := 0, locals := 69 }
def g_X7_isRecord_53 (m : Nat → Int32)   : Option (Int32) :=
  some (0)
def g_X7_isRecord (m : Nat → Int32) (n1 : Int32) (n2 : Int32) : Option (Int32) :=
  (g_X7_isEmpty m n1 n2).bind fun o3 => (if o3 = 0 then (g_X7_inPlace m n1 n2 3).bind fun o13 => (g_X7_inPlace m n1 n2 0).bind fun o20 => (g_X7_inPlace m n1 n2 1).bind fun o27 => (g_X7_inPlace m n1 n2 2).bind fun o34 => (g_X7_at m n1 0).bind fun o40 => (g_X7_recordCheck o20 o27 o34 o40).bind fun o43 => (if o13 = o43 then some (1) else g_X7_isRecord_53 m) else g_X7_isRecord_53 m)
set_option maxHeartbeats 4000000 in
set_option maxRecDepth 100000 in
theorem c_X7_isRecord (Z : GZ) (l : Launch) (a : Nat → Nat) (m : Nat → Int32) (ps : Nat → Int32) (im : Nat → Int32) (ik : Nat → Int32) (asd : Nat → Int32) (rb : Nat → Int32) (rp : Nat → Int32) (mv : Nat → Int32) (n1 : Int32) (n2 : Int32) (o : (Int32)) (hg : g_X7_isRecord m n1 n2 = some o) : Con Z l yX7_isRecord cX7_isRecord 3 (some .boolean) rm_X7_isRecord [.ref (a 0), .int n1, .int n2] (wX Z a m ps im ik asd rb rp mv) (some (.int o)) (wX Z a m ps im ik asd rb rp mv) := by
  refine Con.of (by decide) (Nat.le_of_ble_eq_true rfl) ?_
  intro X hE0
  have hE : ∀ z, z = o → endsX X Z (some .boolean) (some (.int z)) (wX Z a m ps im ik asd rb rp mv) := by
    rintro _ rfl; exact hE0
  have J53 : g_X7_isRecord_53 m = some o → AtK X Z rm_X7_isRecord cX7_isRecord RX7 3 0 0 (wX Z a m ps im ik asd rb rp mv) 53 [] [] := by
    intro  hg
    unfold g_X7_isRecord_53 at hg
    refine r_iconst (v := 0) dX7_isRecord_53 kic_0 ?_
    exact r_bret (hE _ (Option.some.inj hg)) (by decide) dX7_isRecord_54
  unfold g_X7_isRecord at hg
  show AtK X Z rm_X7_isRecord cX7_isRecord RX7 3 0 0 (wX Z a m ps im ik asd rb rp mv) 0 [(0, .ref (a 0)), (1, .int n1), (2, .int n2)] []
  refine r_aload_n dX7_isRecord_0 0 rfl ?_
  refine r_iload_n dX7_isRecord_1 1 rfl ?_
  refine r_iload_n dX7_isRecord_2 2 rfl ?_
  obtain ⟨o3, e3, hg⟩ := ob hg
  refine r_callV (As := [.int n1, .int n2]) (rest := []) (ws' := wX Z a m ps im ik asd rb rp mv) 0 rfl rfl rfl (fun l => c_X7_isEmpty Z l a m ps im ik asd rb rp mv n1 n2 o3 e3) qw_686 mv_X7_isEmpty (xPk.all rfl) ⟨Nat.le_of_ble_eq_true rfl, Nat.le_of_ble_eq_true rfl⟩ ⟨rfl, rfl⟩ ⟨Nat.zero_le _, Nat.zero_le _⟩ rfl (Nat.le_of_ble_eq_true rfl) rfl dX7_isRecord_3 ?_
  refine r_if_ne (tgt := 53) dX7_isRecord_6 (by decide) (fun h6 => ?_) (fun h6 => ?_)
  · replace hg := (if_neg h6).symm.trans hg
    exact r_sub [] rfl (J53 hg)
  · replace hg := (if_pos h6).symm.trans hg
    refine r_aload_n dX7_isRecord_9 0 rfl ?_
    refine r_iload_n dX7_isRecord_10 1 rfl ?_
    refine r_iload_n dX7_isRecord_11 2 rfl ?_
    refine r_iconst (v := 3) dX7_isRecord_12 kic_3 ?_
    obtain ⟨o13, e13, hg⟩ := ob hg
    refine r_callV (As := [.int n1, .int n2, .int 3]) (rest := []) (ws' := wX Z a m ps im ik asd rb rp mv) 0 rfl rfl rfl (fun l => c_X7_inPlace Z l a m ps im ik asd rb rp mv n1 n2 3 o13 e13) qw_690 mv_X7_inPlace (xPk.all rfl) ⟨Nat.le_of_ble_eq_true rfl, Nat.le_of_ble_eq_true rfl⟩ ⟨rfl, rfl⟩ ⟨Nat.zero_le _, Nat.zero_le _⟩ rfl (Nat.le_of_ble_eq_true rfl) rfl dX7_isRecord_13 ?_
    refine r_aload_n dX7_isRecord_16 0 rfl ?_
    refine r_iload_n dX7_isRecord_17 1 rfl ?_
    refine r_iload_n dX7_isRecord_18 2 rfl ?_
    refine r_iconst (v := 0) dX7_isRecord_19 kic_0 ?_
    obtain ⟨o20, e20, hg⟩ := ob hg
    refine r_callV (As := [.int n1, .int n2, .int 0]) (rest := [.int o13]) (ws' := wX Z a m ps im ik asd rb rp mv) 0 rfl rfl rfl (fun l => c_X7_inPlace Z l a m ps im ik asd rb rp mv n1 n2 0 o20 e20) qw_690 mv_X7_inPlace (xPk.all rfl) ⟨Nat.le_of_ble_eq_true rfl, Nat.le_of_ble_eq_true rfl⟩ ⟨rfl, rfl⟩ ⟨Nat.zero_le _, Nat.zero_le _⟩ rfl (Nat.le_of_ble_eq_true rfl) rfl dX7_isRecord_20 ?_
    refine r_aload_n dX7_isRecord_23 0 rfl ?_
    refine r_iload_n dX7_isRecord_24 1 rfl ?_
    refine r_iload_n dX7_isRecord_25 2 rfl ?_
    refine r_iconst (v := 1) dX7_isRecord_26 kic_1 ?_
    obtain ⟨o27, e27, hg⟩ := ob hg
    refine r_callV (As := [.int n1, .int n2, .int 1]) (rest := [.int o20, .int o13]) (ws' := wX Z a m ps im ik asd rb rp mv) 0 rfl rfl rfl (fun l => c_X7_inPlace Z l a m ps im ik asd rb rp mv n1 n2 1 o27 e27) qw_690 mv_X7_inPlace (xPk.all rfl) ⟨Nat.le_of_ble_eq_true rfl, Nat.le_of_ble_eq_true rfl⟩ ⟨rfl, rfl⟩ ⟨Nat.zero_le _, Nat.zero_le _⟩ rfl (Nat.le_of_ble_eq_true rfl) rfl dX7_isRecord_27 ?_
    refine r_aload_n dX7_isRecord_30 0 rfl ?_
    refine r_iload_n dX7_isRecord_31 1 rfl ?_
    refine r_iload_n dX7_isRecord_32 2 rfl ?_
    refine r_iconst (v := 2) dX7_isRecord_33 kic_2 ?_
    obtain ⟨o34, e34, hg⟩ := ob hg
    refine r_callV (As := [.int n1, .int n2, .int 2]) (rest := [.int o27, .int o20, .int o13]) (ws' := wX Z a m ps im ik asd rb rp mv) 0 rfl rfl rfl (fun l => c_X7_inPlace Z l a m ps im ik asd rb rp mv n1 n2 2 o34 e34) qw_690 mv_X7_inPlace (xPk.all rfl) ⟨Nat.le_of_ble_eq_true rfl, Nat.le_of_ble_eq_true rfl⟩ ⟨rfl, rfl⟩ ⟨Nat.zero_le _, Nat.zero_le _⟩ rfl (Nat.le_of_ble_eq_true rfl) rfl dX7_isRecord_34 ?_
    refine r_aload_n dX7_isRecord_37 0 rfl ?_
    refine r_iload_n dX7_isRecord_38 1 rfl ?_
    refine r_iconst (v := 0) dX7_isRecord_39 kic_0 ?_
    obtain ⟨o40, e40, hg⟩ := ob hg
    refine r_callV (As := [.int n1, .int 0]) (rest := [.int o34, .int o27, .int o20, .int o13]) (ws' := wX Z a m ps im ik asd rb rp mv) 0 rfl rfl rfl (fun l => c_X7_at Z l a m ps im ik asd rb rp mv n1 0 o40 e40) qw_652 mv_X7_at (xPk.all rfl) ⟨Nat.le_of_ble_eq_true rfl, Nat.le_of_ble_eq_true rfl⟩ ⟨rfl, rfl⟩ ⟨Nat.zero_le _, Nat.zero_le _⟩ rfl (Nat.le_of_ble_eq_true rfl) rfl dX7_isRecord_40 ?_
    obtain ⟨o43, e43, hg⟩ := ob hg
    refine r_callS (As := [.int o20, .int o27, .int o34, .int o40]) (rest := [.int o13]) (ws' := wX Z a m ps im ik asd rb rp mv) (fun l => c_X7_recordCheck Z l   o20 o27 o34 o40 o43 e43) qw_675 ms_X7_recordCheck xPk.none ⟨Nat.le_of_ble_eq_true rfl, Nat.le_of_ble_eq_true rfl⟩ ⟨rfl, rfl⟩ ⟨Nat.zero_le _, Nat.zero_le _⟩ rfl (Nat.le_of_ble_eq_true rfl) rfl dX7_isRecord_43 ?_
    refine r_icmp_ne (tgt := 53) dX7_isRecord_46 (by decide) (fun h46 => ?_) (fun h46 => ?_)
    · replace hg := (if_neg h46).symm.trans hg
      exact r_sub [] rfl (J53 hg)
    · replace hg := (if_pos h46).symm.trans hg
      refine r_iconst (v := 1) dX7_isRecord_49 kic_1 ?_
      refine r_goto (tgt := 54) dX7_isRecord_50 (by decide) ?_
      exact r_bret (hE _ (Option.some.inj hg)) (by decide) dX7_isRecord_54

-- TicketJournalModel.isTorn(II)Z
abbrev rm_X7_isTorn : Room := { frames := 4, cells := 0, slots := 0, locals := 91 }
def g_X7_isTorn_22 (m : Nat → Int32)   : Option (Int32) :=
  some (0)
def g_X7_isTorn (m : Nat → Int32) (n1 : Int32) (n2 : Int32) : Option (Int32) :=
  (g_X7_isEmpty m n1 n2).bind fun o3 => (if o3 = 0 then (g_X7_isRecord m n1 n2).bind fun o12 => (if o12 = 0 then some (1) else g_X7_isTorn_22 m) else g_X7_isTorn_22 m)
set_option maxHeartbeats 4000000 in
set_option maxRecDepth 100000 in
theorem c_X7_isTorn (Z : GZ) (l : Launch) (a : Nat → Nat) (m : Nat → Int32) (ps : Nat → Int32) (im : Nat → Int32) (ik : Nat → Int32) (asd : Nat → Int32) (rb : Nat → Int32) (rp : Nat → Int32) (mv : Nat → Int32) (n1 : Int32) (n2 : Int32) (o : (Int32)) (hg : g_X7_isTorn m n1 n2 = some o) : Con Z l yX7_isTorn cX7_isTorn 3 (some .boolean) rm_X7_isTorn [.ref (a 0), .int n1, .int n2] (wX Z a m ps im ik asd rb rp mv) (some (.int o)) (wX Z a m ps im ik asd rb rp mv) := by
  refine Con.of (by decide) (Nat.le_of_ble_eq_true rfl) ?_
  intro X hE0
  have hE : ∀ z, z = o → endsX X Z (some .boolean) (some (.int z)) (wX Z a m ps im ik asd rb rp mv) := by
    rintro _ rfl; exact hE0
  have J22 : g_X7_isTorn_22 m = some o → AtK X Z rm_X7_isTorn cX7_isTorn RX7 3 0 0 (wX Z a m ps im ik asd rb rp mv) 22 [] [] := by
    intro  hg
    unfold g_X7_isTorn_22 at hg
    refine r_iconst (v := 0) dX7_isTorn_22 kic_0 ?_
    exact r_bret (hE _ (Option.some.inj hg)) (by decide) dX7_isTorn_23
  unfold g_X7_isTorn at hg
  show AtK X Z rm_X7_isTorn cX7_isTorn RX7 3 0 0 (wX Z a m ps im ik asd rb rp mv) 0 [(0, .ref (a 0)), (1, .int n1), (2, .int n2)] []
  refine r_aload_n dX7_isTorn_0 0 rfl ?_
  refine r_iload_n dX7_isTorn_1 1 rfl ?_
  refine r_iload_n dX7_isTorn_2 2 rfl ?_
  obtain ⟨o3, e3, hg⟩ := ob hg
  refine r_callV (As := [.int n1, .int n2]) (rest := []) (ws' := wX Z a m ps im ik asd rb rp mv) 0 rfl rfl rfl (fun l => c_X7_isEmpty Z l a m ps im ik asd rb rp mv n1 n2 o3 e3) qw_686 mv_X7_isEmpty (xPk.all rfl) ⟨Nat.le_of_ble_eq_true rfl, Nat.le_of_ble_eq_true rfl⟩ ⟨rfl, rfl⟩ ⟨Nat.zero_le _, Nat.zero_le _⟩ rfl (Nat.le_of_ble_eq_true rfl) rfl dX7_isTorn_3 ?_
  refine r_if_ne (tgt := 22) dX7_isTorn_6 (by decide) (fun h6 => ?_) (fun h6 => ?_)
  · replace hg := (if_neg h6).symm.trans hg
    exact r_sub [] rfl (J22 hg)
  · replace hg := (if_pos h6).symm.trans hg
    refine r_aload_n dX7_isTorn_9 0 rfl ?_
    refine r_iload_n dX7_isTorn_10 1 rfl ?_
    refine r_iload_n dX7_isTorn_11 2 rfl ?_
    obtain ⟨o12, e12, hg⟩ := ob hg
    refine r_callV (As := [.int n1, .int n2]) (rest := []) (ws' := wX Z a m ps im ik asd rb rp mv) 0 rfl rfl rfl (fun l => c_X7_isRecord Z l a m ps im ik asd rb rp mv n1 n2 o12 e12) qw_682 mv_X7_isRecord (xPk.all rfl) ⟨Nat.le_of_ble_eq_true rfl, Nat.le_of_ble_eq_true rfl⟩ ⟨rfl, rfl⟩ ⟨Nat.zero_le _, Nat.zero_le _⟩ rfl (Nat.le_of_ble_eq_true rfl) rfl dX7_isTorn_12 ?_
    refine r_if_ne (tgt := 22) dX7_isTorn_15 (by decide) (fun h15 => ?_) (fun h15 => ?_)
    · replace hg := (if_neg h15).symm.trans hg
      exact r_sub [] rfl (J22 hg)
    · replace hg := (if_pos h15).symm.trans hg
      refine r_iconst (v := 1) dX7_isTorn_18 kic_1 ?_
      refine r_goto (tgt := 23) dX7_isTorn_19 (by decide) ?_
      exact r_bret (hE _ (Option.some.inj hg)) (by decide) dX7_isTorn_23

-- TicketJournalModel.beginBlock()Z
abbrev rm_X7_beginBlock : Room := { frames := 2, cells := 0, slots := 0, locals := 44 }
def g_X7_beginBlock_190   (x4 : Int32) (m : Nat → Int32) : Option (Int32 × (Nat → Int32)) :=
  (if ¬ (x4 = 0 ∨ x4 = 1) then none else some (x4, m))
def g_X7_beginBlock_167   (x2 : Int32) (t0 : Int32) (m : Nat → Int32) : Option (Int32 × (Nat → Int32)) :=
  (if t0 = 0 then g_X7_beginBlock_190 t0 m else g_X7_beginBlock_190 t0 (upd (upd m 116 x2) 117 0))
def g_X7_beginBlock_166   (x2 : Int32) (m : Nat → Int32) : Option (Int32 × (Nat → Int32)) :=
  g_X7_beginBlock_167 x2 0 m
def g_X7_beginBlock_114   (x2 : Int32) (x3 : Int32) (t0 : Int32) (m : Nat → Int32) : Option (Int32 × (Nat → Int32)) :=
  (if t0 = 0 then g_X7_beginBlock_166 x2 m else (g_X7_headCheck x3 (m 119) (m 120) (m 121) (m 118)).bind fun o153 => (g_X7_put m x2 5 o153).bind fun o156 => (if o156.1 = 0 then g_X7_beginBlock_166 x2 o156.2 else g_X7_beginBlock_167 x2 1 o156.2))
def g_X7_beginBlock_113   (x2 : Int32) (x3 : Int32) (m : Nat → Int32) : Option (Int32 × (Nat → Int32)) :=
  g_X7_beginBlock_114 x2 x3 0 m
def g_X7_beginBlock (m : Nat → Int32)  : Option (Int32 × (Nat → Int32)) :=
  (g_X7_at m (m 116) 0).bind fun o17 => (g_X7_erase m (jrem ((m 116) + 1) 5)).bind fun o29 => (if o29.1 = 0 then g_X7_beginBlock_113 (jrem ((m 116) + 1) 5) (jrem (o17 + 1) 10000) o29.2 else (g_X7_put o29.2 (jrem ((m 116) + 1) 5) 0 (jrem (o17 + 1) 10000)).bind fun o39 => (if o39.1 = 0 then g_X7_beginBlock_113 (jrem ((m 116) + 1) 5) (jrem (o17 + 1) 10000) o39.2 else (g_X7_put o39.2 (jrem ((m 116) + 1) 5) 1 (o39.2 119)).bind fun o55 => (if o55.1 = 0 then g_X7_beginBlock_113 (jrem ((m 116) + 1) 5) (jrem (o17 + 1) 10000) o55.2 else (g_X7_put o55.2 (jrem ((m 116) + 1) 5) 2 (o55.2 120)).bind fun o71 => (if o71.1 = 0 then g_X7_beginBlock_113 (jrem ((m 116) + 1) 5) (jrem (o17 + 1) 10000) o71.2 else (g_X7_put o71.2 (jrem ((m 116) + 1) 5) 3 (o71.2 121)).bind fun o87 => (if o87.1 = 0 then g_X7_beginBlock_113 (jrem ((m 116) + 1) 5) (jrem (o17 + 1) 10000) o87.2 else (g_X7_put o87.2 (jrem ((m 116) + 1) 5) 4 (o87.2 118)).bind fun o103 => (if o103.1 = 0 then g_X7_beginBlock_113 (jrem ((m 116) + 1) 5) (jrem (o17 + 1) 10000) o103.2 else g_X7_beginBlock_114 (jrem ((m 116) + 1) 5) (jrem (o17 + 1) 10000) 1 o103.2))))))
set_option maxHeartbeats 4000000 in
set_option maxRecDepth 100000 in
theorem c_X7_beginBlock (Z : GZ) (l : Launch) (a : Nat → Nat) (m : Nat → Int32) (ps : Nat → Int32) (im : Nat → Int32) (ik : Nat → Int32) (asd : Nat → Int32) (rb : Nat → Int32) (rp : Nat → Int32) (mv : Nat → Int32)  (o : (Int32 × (Nat → Int32))) (hg : g_X7_beginBlock m = some o) : Con Z l yX7_beginBlock cX7_beginBlock 5 (some .boolean) rm_X7_beginBlock [.ref (a 0)] (wX Z a m ps im ik asd rb rp mv) (some (.int o.1)) (wX Z a o.2 ps im ik asd rb rp mv) := by
  refine Con.of (by decide) (Nat.le_of_ble_eq_true rfl) ?_
  intro X hE0
  have hE : ∀ z, z = o → endsX X Z (some .boolean) (some (.int z.1)) (wX Z a z.2 ps im ik asd rb rp mv) := by
    rintro _ rfl; exact hE0
  have J190 : ∀ (x4 : Int32) (m : Nat → Int32), g_X7_beginBlock_190 x4 m = some o → AtK X Z rm_X7_beginBlock cX7_beginBlock RX7 5 0 0 (wX Z a m ps im ik asd rb rp mv) 190 [(4, .int x4)] [] := by
    intro x4 m hg
    unfold g_X7_beginBlock_190 at hg
    refine r_iload dX7_beginBlock_190 0 rfl ?_
    obtain ⟨hz192, hg⟩ := og hg
    exact r_bret (hE _ (Option.some.inj hg)) (Decidable.not_not.mp hz192) dX7_beginBlock_192
  have J167 : ∀ (x2 : Int32) (t0 : Int32) (m : Nat → Int32), g_X7_beginBlock_167 x2 t0 m = some o → AtK X Z rm_X7_beginBlock cX7_beginBlock RX7 5 0 0 (wX Z a m ps im ik asd rb rp mv) 167 [(0, .ref (a 0)), (2, .int x2)] [.int t0] := by
    intro x2 t0 m hg
    unfold g_X7_beginBlock_167 at hg
    refine r_istore (lv' := [(4, .int t0), (0, .ref (a 0)), (2, .int x2)]) dX7_beginBlock_167 (by decide) rfl ?_
    refine r_iload dX7_beginBlock_169 0 rfl ?_
    refine r_if_eq (tgt := 190) dX7_beginBlock_171 (by decide) (fun h171 => ?_) (fun h171 => ?_)
    · replace hg := (if_pos h171).symm.trans hg
      exact r_sub [0] rfl (J190 t0 m hg)
    · replace hg := (if_neg h171).symm.trans hg
      refine r_aload_n dX7_beginBlock_174 1 rfl ?_
      refine gf_X7_0 (v := .ref (a 1)) 0 rfl rfl qw_586 dX7_beginBlock_175 ?_
      refine r_bipush (v := 116) dX7_beginBlock_178 kbp_116 ?_
      refine r_iload_n dX7_beginBlock_180 2 rfl ?_
      refine r_iast 1 rfl (j := 116) (by decide) (by decide) dX7_beginBlock_181 (ws' := wX Z a (upd m 116 x2) ps im ik asd rb rp mv) rfl ?_
      refine r_aload_n dX7_beginBlock_182 1 rfl ?_
      refine gf_X7_0 (v := .ref (a 1)) 0 rfl rfl qw_586 dX7_beginBlock_183 ?_
      refine r_bipush (v := 117) dX7_beginBlock_186 kbp_117 ?_
      refine r_iconst (v := 0) dX7_beginBlock_188 kic_0 ?_
      refine r_iast 1 rfl (j := 117) (by decide) (by decide) dX7_beginBlock_189 (ws' := wX Z a (upd (upd m 116 x2) 117 0) ps im ik asd rb rp mv) rfl ?_
      exact r_sub [0] rfl (J190 t0 (upd (upd m 116 x2) 117 0) hg)
  have J166 : ∀ (x2 : Int32) (m : Nat → Int32), g_X7_beginBlock_166 x2 m = some o → AtK X Z rm_X7_beginBlock cX7_beginBlock RX7 5 0 0 (wX Z a m ps im ik asd rb rp mv) 166 [(0, .ref (a 0)), (2, .int x2)] [] := by
    intro x2 m hg
    unfold g_X7_beginBlock_166 at hg
    refine r_iconst (v := 0) dX7_beginBlock_166 kic_0 ?_
    exact r_sub [0, 1] rfl (J167 x2 0 m hg)
  have J114 : ∀ (x2 : Int32) (x3 : Int32) (t0 : Int32) (m : Nat → Int32), g_X7_beginBlock_114 x2 x3 t0 m = some o → AtK X Z rm_X7_beginBlock cX7_beginBlock RX7 5 0 0 (wX Z a m ps im ik asd rb rp mv) 114 [(0, .ref (a 0)), (2, .int x2), (3, .int x3)] [.int t0] := by
    intro x2 x3 t0 m hg
    unfold g_X7_beginBlock_114 at hg
    refine r_istore (lv' := [(4, .int t0), (0, .ref (a 0)), (2, .int x2), (3, .int x3)]) dX7_beginBlock_114 (by decide) rfl ?_
    refine r_iload dX7_beginBlock_116 0 rfl ?_
    refine r_if_eq (tgt := 166) dX7_beginBlock_118 (by decide) (fun h118 => ?_) (fun h118 => ?_)
    · replace hg := (if_pos h118).symm.trans hg
      exact r_sub [1, 2] rfl (J166 x2 m hg)
    · replace hg := (if_neg h118).symm.trans hg
      refine r_aload_n dX7_beginBlock_121 1 rfl ?_
      refine r_iload_n dX7_beginBlock_122 2 rfl ?_
      refine r_iconst (v := 5) dX7_beginBlock_123 kic_5 ?_
      refine r_iload_n dX7_beginBlock_124 3 rfl ?_
      refine r_aload_n dX7_beginBlock_125 1 rfl ?_
      refine gf_X7_0 (v := .ref (a 1)) 0 rfl rfl qw_586 dX7_beginBlock_126 ?_
      refine r_bipush (v := 119) dX7_beginBlock_129 kbp_119 ?_
      refine r_ialdL 1 rfl (j := 119) (by decide) (by decide) dX7_beginBlock_131 ?_
      refine r_aload_n dX7_beginBlock_132 1 rfl ?_
      refine gf_X7_0 (v := .ref (a 1)) 0 rfl rfl qw_586 dX7_beginBlock_133 ?_
      refine r_bipush (v := 120) dX7_beginBlock_136 kbp_120 ?_
      refine r_ialdL 1 rfl (j := 120) (by decide) (by decide) dX7_beginBlock_138 ?_
      refine r_aload_n dX7_beginBlock_139 1 rfl ?_
      refine gf_X7_0 (v := .ref (a 1)) 0 rfl rfl qw_586 dX7_beginBlock_140 ?_
      refine r_bipush (v := 121) dX7_beginBlock_143 kbp_121 ?_
      refine r_ialdL 1 rfl (j := 121) (by decide) (by decide) dX7_beginBlock_145 ?_
      refine r_aload_n dX7_beginBlock_146 1 rfl ?_
      refine gf_X7_0 (v := .ref (a 1)) 0 rfl rfl qw_586 dX7_beginBlock_147 ?_
      refine r_bipush (v := 118) dX7_beginBlock_150 kbp_118 ?_
      refine r_ialdL 1 rfl (j := 118) (by decide) (by decide) dX7_beginBlock_152 ?_
      obtain ⟨o153, e153, hg⟩ := ob hg
      refine r_callS (As := [.int x3, .int (m 119), .int (m 120), .int (m 121), .int (m 118)]) (rest := [.int 5, .int x2, .ref (a 0)]) (ws' := wX Z a m ps im ik asd rb rp mv) (fun l => c_X7_headCheck Z l   x3 (m 119) (m 120) (m 121) (m 118) o153 e153) qw_668 ms_X7_headCheck xPk.none ⟨Nat.le_of_ble_eq_true rfl, Nat.le_of_ble_eq_true rfl⟩ ⟨rfl, rfl⟩ ⟨Nat.zero_le _, Nat.zero_le _⟩ rfl (Nat.le_of_ble_eq_true rfl) rfl dX7_beginBlock_153 ?_
      obtain ⟨o156, e156, hg⟩ := ob hg
      refine r_callV (As := [.int x2, .int 5, .int o153]) (rest := []) (ws' := wX Z a o156.2 ps im ik asd rb rp mv) 0 rfl rfl rfl (fun l => c_X7_put Z l a m ps im ik asd rb rp mv x2 5 o153 o156 e156) qw_664 mv_X7_put (xPk.all rfl) ⟨Nat.le_of_ble_eq_true rfl, Nat.le_of_ble_eq_true rfl⟩ ⟨rfl, rfl⟩ ⟨Nat.zero_le _, Nat.zero_le _⟩ rfl (Nat.le_of_ble_eq_true rfl) rfl dX7_beginBlock_156 ?_
      refine r_if_eq (tgt := 166) dX7_beginBlock_159 (by decide) (fun h159 => ?_) (fun h159 => ?_)
      · replace hg := (if_pos h159).symm.trans hg
        exact r_sub [1, 2] rfl (J166 x2 o156.2 hg)
      · replace hg := (if_neg h159).symm.trans hg
        refine r_iconst (v := 1) dX7_beginBlock_162 kic_1 ?_
        refine r_goto (tgt := 167) dX7_beginBlock_163 (by decide) ?_
        exact r_sub [1, 2] rfl (J167 x2 1 o156.2 hg)
  have J113 : ∀ (x2 : Int32) (x3 : Int32) (m : Nat → Int32), g_X7_beginBlock_113 x2 x3 m = some o → AtK X Z rm_X7_beginBlock cX7_beginBlock RX7 5 0 0 (wX Z a m ps im ik asd rb rp mv) 113 [(0, .ref (a 0)), (2, .int x2), (3, .int x3)] [] := by
    intro x2 x3 m hg
    unfold g_X7_beginBlock_113 at hg
    refine r_iconst (v := 0) dX7_beginBlock_113 kic_0 ?_
    exact r_sub [0, 1, 2] rfl (J114 x2 x3 0 m hg)
  unfold g_X7_beginBlock at hg
  show AtK X Z rm_X7_beginBlock cX7_beginBlock RX7 5 0 0 (wX Z a m ps im ik asd rb rp mv) 0 [(0, .ref (a 0))] []
  refine r_aload_n dX7_beginBlock_0 0 rfl ?_
  refine gf_X7_0 (v := .ref (a 1)) 0 rfl rfl qw_586 dX7_beginBlock_1 ?_
  refine r_bipush (v := 116) dX7_beginBlock_4 kbp_116 ?_
  refine r_ialdL 1 rfl (j := 116) (by decide) (by decide) dX7_beginBlock_6 ?_
  refine r_istore_n (lv' := [(1, .int (m 116)), (0, .ref (a 0))]) dX7_beginBlock_7 (by decide) rfl ?_
  refine r_iload_n dX7_beginBlock_8 0 rfl ?_
  refine r_iconst (v := 1) dX7_beginBlock_9 kic_1 ?_
  refine r_iadd dX7_beginBlock_10 ?_
  refine r_iconst (v := 5) dX7_beginBlock_11 kic_5 ?_
  refine r_irem dX7_beginBlock_12 (by decide) ?_
  refine r_istore_n (lv' := [(2, .int (jrem ((m 116) + 1) 5)), (1, .int (m 116)), (0, .ref (a 0))]) dX7_beginBlock_13 (by decide) rfl ?_
  refine r_aload_n dX7_beginBlock_14 2 rfl ?_
  refine r_iload_n dX7_beginBlock_15 1 rfl ?_
  refine r_iconst (v := 0) dX7_beginBlock_16 kic_0 ?_
  obtain ⟨o17, e17, hg⟩ := ob hg
  refine r_callV (As := [.int (m 116), .int 0]) (rest := []) (ws' := wX Z a m ps im ik asd rb rp mv) 0 rfl rfl rfl (fun l => c_X7_at Z l a m ps im ik asd rb rp mv (m 116) 0 o17 e17) qw_652 mv_X7_at (xPk.all rfl) ⟨Nat.le_of_ble_eq_true rfl, Nat.le_of_ble_eq_true rfl⟩ ⟨rfl, rfl⟩ ⟨Nat.zero_le _, Nat.zero_le _⟩ rfl (Nat.le_of_ble_eq_true rfl) rfl dX7_beginBlock_17 ?_
  refine r_iconst (v := 1) dX7_beginBlock_20 kic_1 ?_
  refine r_iadd dX7_beginBlock_21 ?_
  refine r_sipush (v := 10000) dX7_beginBlock_22 ksp_10000 ?_
  refine r_irem dX7_beginBlock_25 (by decide) ?_
  refine r_istore_n (lv' := [(3, .int (jrem (o17 + 1) 10000)), (2, .int (jrem ((m 116) + 1) 5)), (1, .int (m 116)), (0, .ref (a 0))]) dX7_beginBlock_26 (by decide) rfl ?_
  refine r_aload_n dX7_beginBlock_27 3 rfl ?_
  refine r_iload_n dX7_beginBlock_28 1 rfl ?_
  obtain ⟨o29, e29, hg⟩ := ob hg
  refine r_callV (As := [.int (jrem ((m 116) + 1) 5)]) (rest := []) (ws' := wX Z a o29.2 ps im ik asd rb rp mv) 0 rfl rfl rfl (fun l => c_X7_erase Z l a m ps im ik asd rb rp mv (jrem ((m 116) + 1) 5) o29 e29) qw_656 mv_X7_erase (xPk.all rfl) ⟨Nat.le_of_ble_eq_true rfl, Nat.le_of_ble_eq_true rfl⟩ ⟨rfl, rfl⟩ ⟨Nat.zero_le _, Nat.zero_le _⟩ rfl (Nat.le_of_ble_eq_true rfl) rfl dX7_beginBlock_29 ?_
  refine r_if_eq (tgt := 113) dX7_beginBlock_32 (by decide) (fun h32 => ?_) (fun h32 => ?_)
  · replace hg := (if_pos h32).symm.trans hg
    exact r_sub [3, 1, 0] rfl (J113 (jrem ((m 116) + 1) 5) (jrem (o17 + 1) 10000) o29.2 hg)
  · replace hg := (if_neg h32).symm.trans hg
    refine r_aload_n dX7_beginBlock_35 3 rfl ?_
    refine r_iload_n dX7_beginBlock_36 1 rfl ?_
    refine r_iconst (v := 0) dX7_beginBlock_37 kic_0 ?_
    refine r_iload_n dX7_beginBlock_38 0 rfl ?_
    obtain ⟨o39, e39, hg⟩ := ob hg
    refine r_callV (As := [.int (jrem ((m 116) + 1) 5), .int 0, .int (jrem (o17 + 1) 10000)]) (rest := []) (ws' := wX Z a o39.2 ps im ik asd rb rp mv) 0 rfl rfl rfl (fun l => c_X7_put Z l a o29.2 ps im ik asd rb rp mv (jrem ((m 116) + 1) 5) 0 (jrem (o17 + 1) 10000) o39 e39) qw_664 mv_X7_put (xPk.all rfl) ⟨Nat.le_of_ble_eq_true rfl, Nat.le_of_ble_eq_true rfl⟩ ⟨rfl, rfl⟩ ⟨Nat.zero_le _, Nat.zero_le _⟩ rfl (Nat.le_of_ble_eq_true rfl) rfl dX7_beginBlock_39 ?_
    refine r_if_eq (tgt := 113) dX7_beginBlock_42 (by decide) (fun h42 => ?_) (fun h42 => ?_)
    · replace hg := (if_pos h42).symm.trans hg
      exact r_sub [3, 1, 0] rfl (J113 (jrem ((m 116) + 1) 5) (jrem (o17 + 1) 10000) o39.2 hg)
    · replace hg := (if_neg h42).symm.trans hg
      refine r_aload_n dX7_beginBlock_45 3 rfl ?_
      refine r_iload_n dX7_beginBlock_46 1 rfl ?_
      refine r_iconst (v := 1) dX7_beginBlock_47 kic_1 ?_
      refine r_aload_n dX7_beginBlock_48 3 rfl ?_
      refine gf_X7_0 (v := .ref (a 1)) 0 rfl rfl qw_586 dX7_beginBlock_49 ?_
      refine r_bipush (v := 119) dX7_beginBlock_52 kbp_119 ?_
      refine r_ialdL 1 rfl (j := 119) (by decide) (by decide) dX7_beginBlock_54 ?_
      obtain ⟨o55, e55, hg⟩ := ob hg
      refine r_callV (As := [.int (jrem ((m 116) + 1) 5), .int 1, .int (o39.2 119)]) (rest := []) (ws' := wX Z a o55.2 ps im ik asd rb rp mv) 0 rfl rfl rfl (fun l => c_X7_put Z l a o39.2 ps im ik asd rb rp mv (jrem ((m 116) + 1) 5) 1 (o39.2 119) o55 e55) qw_664 mv_X7_put (xPk.all rfl) ⟨Nat.le_of_ble_eq_true rfl, Nat.le_of_ble_eq_true rfl⟩ ⟨rfl, rfl⟩ ⟨Nat.zero_le _, Nat.zero_le _⟩ rfl (Nat.le_of_ble_eq_true rfl) rfl dX7_beginBlock_55 ?_
      refine r_if_eq (tgt := 113) dX7_beginBlock_58 (by decide) (fun h58 => ?_) (fun h58 => ?_)
      · replace hg := (if_pos h58).symm.trans hg
        exact r_sub [3, 1, 0] rfl (J113 (jrem ((m 116) + 1) 5) (jrem (o17 + 1) 10000) o55.2 hg)
      · replace hg := (if_neg h58).symm.trans hg
        refine r_aload_n dX7_beginBlock_61 3 rfl ?_
        refine r_iload_n dX7_beginBlock_62 1 rfl ?_
        refine r_iconst (v := 2) dX7_beginBlock_63 kic_2 ?_
        refine r_aload_n dX7_beginBlock_64 3 rfl ?_
        refine gf_X7_0 (v := .ref (a 1)) 0 rfl rfl qw_586 dX7_beginBlock_65 ?_
        refine r_bipush (v := 120) dX7_beginBlock_68 kbp_120 ?_
        refine r_ialdL 1 rfl (j := 120) (by decide) (by decide) dX7_beginBlock_70 ?_
        obtain ⟨o71, e71, hg⟩ := ob hg
        refine r_callV (As := [.int (jrem ((m 116) + 1) 5), .int 2, .int (o55.2 120)]) (rest := []) (ws' := wX Z a o71.2 ps im ik asd rb rp mv) 0 rfl rfl rfl (fun l => c_X7_put Z l a o55.2 ps im ik asd rb rp mv (jrem ((m 116) + 1) 5) 2 (o55.2 120) o71 e71) qw_664 mv_X7_put (xPk.all rfl) ⟨Nat.le_of_ble_eq_true rfl, Nat.le_of_ble_eq_true rfl⟩ ⟨rfl, rfl⟩ ⟨Nat.zero_le _, Nat.zero_le _⟩ rfl (Nat.le_of_ble_eq_true rfl) rfl dX7_beginBlock_71 ?_
        refine r_if_eq (tgt := 113) dX7_beginBlock_74 (by decide) (fun h74 => ?_) (fun h74 => ?_)
        · replace hg := (if_pos h74).symm.trans hg
          exact r_sub [3, 1, 0] rfl (J113 (jrem ((m 116) + 1) 5) (jrem (o17 + 1) 10000) o71.2 hg)
        · replace hg := (if_neg h74).symm.trans hg
          refine r_aload_n dX7_beginBlock_77 3 rfl ?_
          refine r_iload_n dX7_beginBlock_78 1 rfl ?_
          refine r_iconst (v := 3) dX7_beginBlock_79 kic_3 ?_
          refine r_aload_n dX7_beginBlock_80 3 rfl ?_
          refine gf_X7_0 (v := .ref (a 1)) 0 rfl rfl qw_586 dX7_beginBlock_81 ?_
          refine r_bipush (v := 121) dX7_beginBlock_84 kbp_121 ?_
          refine r_ialdL 1 rfl (j := 121) (by decide) (by decide) dX7_beginBlock_86 ?_
          obtain ⟨o87, e87, hg⟩ := ob hg
          refine r_callV (As := [.int (jrem ((m 116) + 1) 5), .int 3, .int (o71.2 121)]) (rest := []) (ws' := wX Z a o87.2 ps im ik asd rb rp mv) 0 rfl rfl rfl (fun l => c_X7_put Z l a o71.2 ps im ik asd rb rp mv (jrem ((m 116) + 1) 5) 3 (o71.2 121) o87 e87) qw_664 mv_X7_put (xPk.all rfl) ⟨Nat.le_of_ble_eq_true rfl, Nat.le_of_ble_eq_true rfl⟩ ⟨rfl, rfl⟩ ⟨Nat.zero_le _, Nat.zero_le _⟩ rfl (Nat.le_of_ble_eq_true rfl) rfl dX7_beginBlock_87 ?_
          refine r_if_eq (tgt := 113) dX7_beginBlock_90 (by decide) (fun h90 => ?_) (fun h90 => ?_)
          · replace hg := (if_pos h90).symm.trans hg
            exact r_sub [3, 1, 0] rfl (J113 (jrem ((m 116) + 1) 5) (jrem (o17 + 1) 10000) o87.2 hg)
          · replace hg := (if_neg h90).symm.trans hg
            refine r_aload_n dX7_beginBlock_93 3 rfl ?_
            refine r_iload_n dX7_beginBlock_94 1 rfl ?_
            refine r_iconst (v := 4) dX7_beginBlock_95 kic_4 ?_
            refine r_aload_n dX7_beginBlock_96 3 rfl ?_
            refine gf_X7_0 (v := .ref (a 1)) 0 rfl rfl qw_586 dX7_beginBlock_97 ?_
            refine r_bipush (v := 118) dX7_beginBlock_100 kbp_118 ?_
            refine r_ialdL 1 rfl (j := 118) (by decide) (by decide) dX7_beginBlock_102 ?_
            obtain ⟨o103, e103, hg⟩ := ob hg
            refine r_callV (As := [.int (jrem ((m 116) + 1) 5), .int 4, .int (o87.2 118)]) (rest := []) (ws' := wX Z a o103.2 ps im ik asd rb rp mv) 0 rfl rfl rfl (fun l => c_X7_put Z l a o87.2 ps im ik asd rb rp mv (jrem ((m 116) + 1) 5) 4 (o87.2 118) o103 e103) qw_664 mv_X7_put (xPk.all rfl) ⟨Nat.le_of_ble_eq_true rfl, Nat.le_of_ble_eq_true rfl⟩ ⟨rfl, rfl⟩ ⟨Nat.zero_le _, Nat.zero_le _⟩ rfl (Nat.le_of_ble_eq_true rfl) rfl dX7_beginBlock_103 ?_
            refine r_if_eq (tgt := 113) dX7_beginBlock_106 (by decide) (fun h106 => ?_) (fun h106 => ?_)
            · replace hg := (if_pos h106).symm.trans hg
              exact r_sub [3, 1, 0] rfl (J113 (jrem ((m 116) + 1) 5) (jrem (o17 + 1) 10000) o103.2 hg)
            · replace hg := (if_neg h106).symm.trans hg
              refine r_iconst (v := 1) dX7_beginBlock_109 kic_1 ?_
              refine r_goto (tgt := 114) dX7_beginBlock_110 (by decide) ?_
              exact r_sub [3, 1, 0] rfl (J114 (jrem ((m 116) + 1) 5) (jrem (o17 + 1) 10000) 1 o103.2 hg)

-- TicketJournalModel.write(III)Z
abbrev rm_X7_write : Room := { frames := 3, cells := 0, slots := 0, locals := 68 }
def g_X7_write_168   (x7 : Int32) (m : Nat → Int32) : Option (Int32 × (Nat → Int32)) :=
  (if ¬ (x7 = 0 ∨ x7 = 1) then none else some (x7, m))
def g_X7_write_130   (t0 : Int32) (m : Nat → Int32) : Option (Int32 × (Nat → Int32)) :=
  (if t0 = 0 then g_X7_write_168 t0 m else g_X7_write_168 t0 (upd (upd m 117 ((m 117) + 1)) 118 (jrem ((m 118) + 1) 10000)))
def g_X7_write_129   (m : Nat → Int32) : Option (Int32 × (Nat → Int32)) :=
  g_X7_write_130 0 m
def g_X7_write_20   (x1 : Int32) (x2 : Int32) (x3 : Int32) (m : Nat → Int32) : Option (Int32 × (Nat → Int32)) :=
  (g_X7_wordOf (m 117) 0).bind fun o52 => (g_X7_put m (m 116) o52 ((10000 * x1) + (m 118))).bind fun o64 => (if o64.1 = 0 then g_X7_write_129 o64.2 else (g_X7_put o64.2 (m 116) (o52 + 1) x2).bind fun o78 => (if o78.1 = 0 then g_X7_write_129 o78.2 else (g_X7_put o78.2 (m 116) (o52 + 2) x3).bind fun o92 => (if o92.1 = 0 then g_X7_write_129 o92.2 else (g_X7_at o92.2 (m 116) 0).bind fun o113 => (g_X7_recordCheck ((10000 * x1) + (m 118)) x2 x3 o113).bind fun o116 => (g_X7_put o92.2 (m 116) (o52 + 3) o116).bind fun o119 => (if o119.1 = 0 then g_X7_write_129 o119.2 else g_X7_write_130 1 o119.2))))
def g_X7_write (m : Nat → Int32) (n1 : Int32) (n2 : Int32) (n3 : Int32) : Option (Int32 × (Nat → Int32)) :=
  (if (m 117) = 4 then (g_X7_beginBlock m).bind fun o12 => (if o12.1 = 0 then some (0, o12.2) else g_X7_write_20 n1 n2 n3 o12.2) else g_X7_write_20 n1 n2 n3 m)
set_option maxHeartbeats 4000000 in
set_option maxRecDepth 100000 in
theorem c_X7_write (Z : GZ) (l : Launch) (a : Nat → Nat) (m : Nat → Int32) (ps : Nat → Int32) (im : Nat → Int32) (ik : Nat → Int32) (asd : Nat → Int32) (rb : Nat → Int32) (rp : Nat → Int32) (mv : Nat → Int32) (n1 : Int32) (n2 : Int32) (n3 : Int32) (o : (Int32 × (Nat → Int32))) (hg : g_X7_write m n1 n2 n3 = some o) : Con Z l yX7_write cX7_write 8 (some .boolean) rm_X7_write [.ref (a 0), .int n1, .int n2, .int n3] (wX Z a m ps im ik asd rb rp mv) (some (.int o.1)) (wX Z a o.2 ps im ik asd rb rp mv) := by
  refine Con.of (by decide) (Nat.le_of_ble_eq_true rfl) ?_
  intro X hE0
  have hE : ∀ z, z = o → endsX X Z (some .boolean) (some (.int z.1)) (wX Z a z.2 ps im ik asd rb rp mv) := by
    rintro _ rfl; exact hE0
  have J168 : ∀ (x7 : Int32) (m : Nat → Int32), g_X7_write_168 x7 m = some o → AtK X Z rm_X7_write cX7_write RX7 8 0 0 (wX Z a m ps im ik asd rb rp mv) 168 [(7, .int x7)] [] := by
    intro x7 m hg
    unfold g_X7_write_168 at hg
    refine r_iload dX7_write_168 0 rfl ?_
    obtain ⟨hz170, hg⟩ := og hg
    exact r_bret (hE _ (Option.some.inj hg)) (Decidable.not_not.mp hz170) dX7_write_170
  have J130 : ∀ (t0 : Int32) (m : Nat → Int32), g_X7_write_130 t0 m = some o → AtK X Z rm_X7_write cX7_write RX7 8 0 0 (wX Z a m ps im ik asd rb rp mv) 130 [(0, .ref (a 0))] [.int t0] := by
    intro t0 m hg
    unfold g_X7_write_130 at hg
    refine r_istore (lv' := [(7, .int t0), (0, .ref (a 0))]) dX7_write_130 (by decide) rfl ?_
    refine r_iload dX7_write_132 0 rfl ?_
    refine r_if_eq (tgt := 168) dX7_write_134 (by decide) (fun h134 => ?_) (fun h134 => ?_)
    · replace hg := (if_pos h134).symm.trans hg
      exact r_sub [0] rfl (J168 t0 m hg)
    · replace hg := (if_neg h134).symm.trans hg
      refine r_aload_n dX7_write_137 1 rfl ?_
      refine gf_X7_0 (v := .ref (a 1)) 0 rfl rfl qw_586 dX7_write_138 ?_
      refine r_bipush (v := 117) dX7_write_141 kbp_117 ?_
      refine r_dup2 dX7_write_143 rfl rfl ?_
      refine r_ialdL 1 rfl (j := 117) (by decide) (by decide) dX7_write_144 ?_
      refine r_iconst (v := 1) dX7_write_145 kic_1 ?_
      refine r_iadd dX7_write_146 ?_
      refine r_iast 1 rfl (j := 117) (by decide) (by decide) dX7_write_147 (ws' := wX Z a (upd m 117 ((m 117) + 1)) ps im ik asd rb rp mv) rfl ?_
      refine r_aload_n dX7_write_148 1 rfl ?_
      refine gf_X7_0 (v := .ref (a 1)) 0 rfl rfl qw_586 dX7_write_149 ?_
      refine r_bipush (v := 118) dX7_write_152 kbp_118 ?_
      refine r_aload_n dX7_write_154 1 rfl ?_
      refine gf_X7_0 (v := .ref (a 1)) 0 rfl rfl qw_586 dX7_write_155 ?_
      refine r_bipush (v := 118) dX7_write_158 kbp_118 ?_
      refine r_ialdV (f := upd m 117 ((m 117) + 1)) 1 rfl (j := 118) (by decide) (by decide) (v := m 118) rfl dX7_write_160 ?_
      refine r_iconst (v := 1) dX7_write_161 kic_1 ?_
      refine r_iadd dX7_write_162 ?_
      refine r_sipush (v := 10000) dX7_write_163 ksp_10000 ?_
      refine r_irem dX7_write_166 (by decide) ?_
      refine r_iast 1 rfl (j := 118) (by decide) (by decide) dX7_write_167 (ws' := wX Z a (upd (upd m 117 ((m 117) + 1)) 118 (jrem ((m 118) + 1) 10000)) ps im ik asd rb rp mv) rfl ?_
      exact r_sub [0] rfl (J168 t0 (upd (upd m 117 ((m 117) + 1)) 118 (jrem ((m 118) + 1) 10000)) hg)
  have J129 : ∀ (m : Nat → Int32), g_X7_write_129 m = some o → AtK X Z rm_X7_write cX7_write RX7 8 0 0 (wX Z a m ps im ik asd rb rp mv) 129 [(0, .ref (a 0))] [] := by
    intro m hg
    unfold g_X7_write_129 at hg
    refine r_iconst (v := 0) dX7_write_129 kic_0 ?_
    exact r_sub [0] rfl (J130 0 m hg)
  have J20 : ∀ (x1 : Int32) (x2 : Int32) (x3 : Int32) (m : Nat → Int32), g_X7_write_20 x1 x2 x3 m = some o → AtK X Z rm_X7_write cX7_write RX7 8 0 0 (wX Z a m ps im ik asd rb rp mv) 20 [(0, .ref (a 0)), (1, .int x1), (2, .int x2), (3, .int x3)] [] := by
    intro x1 x2 x3 m hg
    unfold g_X7_write_20 at hg
    refine r_aload_n dX7_write_20 0 rfl ?_
    refine gf_X7_0 (v := .ref (a 1)) 0 rfl rfl qw_586 dX7_write_21 ?_
    refine r_bipush (v := 116) dX7_write_24 kbp_116 ?_
    refine r_ialdL 1 rfl (j := 116) (by decide) (by decide) dX7_write_26 ?_
    refine r_istore (lv' := [(4, .int (m 116)), (0, .ref (a 0)), (1, .int x1), (2, .int x2), (3, .int x3)]) dX7_write_27 (by decide) rfl ?_
    refine r_sipush (v := 10000) dX7_write_29 ksp_10000 ?_
    refine r_iload_n dX7_write_32 2 rfl ?_
    refine r_imul dX7_write_33 ?_
    refine r_aload_n dX7_write_34 1 rfl ?_
    refine gf_X7_0 (v := .ref (a 1)) 0 rfl rfl qw_586 dX7_write_35 ?_
    refine r_bipush (v := 118) dX7_write_38 kbp_118 ?_
    refine r_ialdL 1 rfl (j := 118) (by decide) (by decide) dX7_write_40 ?_
    refine r_iadd dX7_write_41 ?_
    refine r_istore (lv' := [(5, .int ((10000 * x1) + (m 118))), (4, .int (m 116)), (0, .ref (a 0)), (1, .int x1), (2, .int x2), (3, .int x3)]) dX7_write_42 (by decide) rfl ?_
    refine r_aload_n dX7_write_44 2 rfl ?_
    refine gf_X7_0 (v := .ref (a 1)) 0 rfl rfl qw_586 dX7_write_45 ?_
    refine r_bipush (v := 117) dX7_write_48 kbp_117 ?_
    refine r_ialdL 1 rfl (j := 117) (by decide) (by decide) dX7_write_50 ?_
    refine r_iconst (v := 0) dX7_write_51 kic_0 ?_
    obtain ⟨o52, e52, hg⟩ := ob hg
    refine r_callS (As := [.int (m 117), .int 0]) (rest := []) (ws' := wX Z a m ps im ik asd rb rp mv) (fun l => c_X7_wordOf Z l   (m 117) 0 o52 e52) qw_672 ms_X7_wordOf xPk.none ⟨Nat.le_of_ble_eq_true rfl, Nat.le_of_ble_eq_true rfl⟩ ⟨rfl, rfl⟩ ⟨Nat.zero_le _, Nat.zero_le _⟩ rfl (Nat.le_of_ble_eq_true rfl) rfl dX7_write_52 ?_
    refine r_istore (lv' := [(6, .int o52), (5, .int ((10000 * x1) + (m 118))), (4, .int (m 116)), (0, .ref (a 0)), (1, .int x1), (2, .int x2), (3, .int x3)]) dX7_write_55 (by decide) rfl ?_
    refine r_aload_n dX7_write_57 3 rfl ?_
    refine r_iload dX7_write_58 2 rfl ?_
    refine r_iload dX7_write_60 0 rfl ?_
    refine r_iload dX7_write_62 1 rfl ?_
    obtain ⟨o64, e64, hg⟩ := ob hg
    refine r_callV (As := [.int (m 116), .int o52, .int ((10000 * x1) + (m 118))]) (rest := []) (ws' := wX Z a o64.2 ps im ik asd rb rp mv) 0 rfl rfl rfl (fun l => c_X7_put Z l a m ps im ik asd rb rp mv (m 116) o52 ((10000 * x1) + (m 118)) o64 e64) qw_664 mv_X7_put (xPk.all rfl) ⟨Nat.le_of_ble_eq_true rfl, Nat.le_of_ble_eq_true rfl⟩ ⟨rfl, rfl⟩ ⟨Nat.zero_le _, Nat.zero_le _⟩ rfl (Nat.le_of_ble_eq_true rfl) rfl dX7_write_64 ?_
    refine r_if_eq (tgt := 129) dX7_write_67 (by decide) (fun h67 => ?_) (fun h67 => ?_)
    · replace hg := (if_pos h67).symm.trans hg
      exact r_sub [3] rfl (J129 o64.2 hg)
    · replace hg := (if_neg h67).symm.trans hg
      refine r_aload_n dX7_write_70 3 rfl ?_
      refine r_iload dX7_write_71 2 rfl ?_
      refine r_iload dX7_write_73 0 rfl ?_
      refine r_iconst (v := 1) dX7_write_75 kic_1 ?_
      refine r_iadd dX7_write_76 ?_
      refine r_iload_n dX7_write_77 5 rfl ?_
      obtain ⟨o78, e78, hg⟩ := ob hg
      refine r_callV (As := [.int (m 116), .int (o52 + 1), .int x2]) (rest := []) (ws' := wX Z a o78.2 ps im ik asd rb rp mv) 0 rfl rfl rfl (fun l => c_X7_put Z l a o64.2 ps im ik asd rb rp mv (m 116) (o52 + 1) x2 o78 e78) qw_664 mv_X7_put (xPk.all rfl) ⟨Nat.le_of_ble_eq_true rfl, Nat.le_of_ble_eq_true rfl⟩ ⟨rfl, rfl⟩ ⟨Nat.zero_le _, Nat.zero_le _⟩ rfl (Nat.le_of_ble_eq_true rfl) rfl dX7_write_78 ?_
      refine r_if_eq (tgt := 129) dX7_write_81 (by decide) (fun h81 => ?_) (fun h81 => ?_)
      · replace hg := (if_pos h81).symm.trans hg
        exact r_sub [3] rfl (J129 o78.2 hg)
      · replace hg := (if_neg h81).symm.trans hg
        refine r_aload_n dX7_write_84 3 rfl ?_
        refine r_iload dX7_write_85 2 rfl ?_
        refine r_iload dX7_write_87 0 rfl ?_
        refine r_iconst (v := 2) dX7_write_89 kic_2 ?_
        refine r_iadd dX7_write_90 ?_
        refine r_iload_n dX7_write_91 6 rfl ?_
        obtain ⟨o92, e92, hg⟩ := ob hg
        refine r_callV (As := [.int (m 116), .int (o52 + 2), .int x3]) (rest := []) (ws' := wX Z a o92.2 ps im ik asd rb rp mv) 0 rfl rfl rfl (fun l => c_X7_put Z l a o78.2 ps im ik asd rb rp mv (m 116) (o52 + 2) x3 o92 e92) qw_664 mv_X7_put (xPk.all rfl) ⟨Nat.le_of_ble_eq_true rfl, Nat.le_of_ble_eq_true rfl⟩ ⟨rfl, rfl⟩ ⟨Nat.zero_le _, Nat.zero_le _⟩ rfl (Nat.le_of_ble_eq_true rfl) rfl dX7_write_92 ?_
        refine r_if_eq (tgt := 129) dX7_write_95 (by decide) (fun h95 => ?_) (fun h95 => ?_)
        · replace hg := (if_pos h95).symm.trans hg
          exact r_sub [3] rfl (J129 o92.2 hg)
        · replace hg := (if_neg h95).symm.trans hg
          refine r_aload_n dX7_write_98 3 rfl ?_
          refine r_iload dX7_write_99 2 rfl ?_
          refine r_iload dX7_write_101 0 rfl ?_
          refine r_iconst (v := 3) dX7_write_103 kic_3 ?_
          refine r_iadd dX7_write_104 ?_
          refine r_iload dX7_write_105 1 rfl ?_
          refine r_iload_n dX7_write_107 5 rfl ?_
          refine r_iload_n dX7_write_108 6 rfl ?_
          refine r_aload_n dX7_write_109 3 rfl ?_
          refine r_iload dX7_write_110 2 rfl ?_
          refine r_iconst (v := 0) dX7_write_112 kic_0 ?_
          obtain ⟨o113, e113, hg⟩ := ob hg
          refine r_callV (As := [.int (m 116), .int 0]) (rest := [.int x3, .int x2, .int ((10000 * x1) + (m 118)), .int (o52 + 3), .int (m 116), .ref (a 0)]) (ws' := wX Z a o92.2 ps im ik asd rb rp mv) 0 rfl rfl rfl (fun l => c_X7_at Z l a o92.2 ps im ik asd rb rp mv (m 116) 0 o113 e113) qw_652 mv_X7_at (xPk.all rfl) ⟨Nat.le_of_ble_eq_true rfl, Nat.le_of_ble_eq_true rfl⟩ ⟨rfl, rfl⟩ ⟨Nat.zero_le _, Nat.zero_le _⟩ rfl (Nat.le_of_ble_eq_true rfl) rfl dX7_write_113 ?_
          obtain ⟨o116, e116, hg⟩ := ob hg
          refine r_callS (As := [.int ((10000 * x1) + (m 118)), .int x2, .int x3, .int o113]) (rest := [.int (o52 + 3), .int (m 116), .ref (a 0)]) (ws' := wX Z a o92.2 ps im ik asd rb rp mv) (fun l => c_X7_recordCheck Z l   ((10000 * x1) + (m 118)) x2 x3 o113 o116 e116) qw_675 ms_X7_recordCheck xPk.none ⟨Nat.le_of_ble_eq_true rfl, Nat.le_of_ble_eq_true rfl⟩ ⟨rfl, rfl⟩ ⟨Nat.zero_le _, Nat.zero_le _⟩ rfl (Nat.le_of_ble_eq_true rfl) rfl dX7_write_116 ?_
          obtain ⟨o119, e119, hg⟩ := ob hg
          refine r_callV (As := [.int (m 116), .int (o52 + 3), .int o116]) (rest := []) (ws' := wX Z a o119.2 ps im ik asd rb rp mv) 0 rfl rfl rfl (fun l => c_X7_put Z l a o92.2 ps im ik asd rb rp mv (m 116) (o52 + 3) o116 o119 e119) qw_664 mv_X7_put (xPk.all rfl) ⟨Nat.le_of_ble_eq_true rfl, Nat.le_of_ble_eq_true rfl⟩ ⟨rfl, rfl⟩ ⟨Nat.zero_le _, Nat.zero_le _⟩ rfl (Nat.le_of_ble_eq_true rfl) rfl dX7_write_119 ?_
          refine r_if_eq (tgt := 129) dX7_write_122 (by decide) (fun h122 => ?_) (fun h122 => ?_)
          · replace hg := (if_pos h122).symm.trans hg
            exact r_sub [3] rfl (J129 o119.2 hg)
          · replace hg := (if_neg h122).symm.trans hg
            refine r_iconst (v := 1) dX7_write_125 kic_1 ?_
            refine r_goto (tgt := 130) dX7_write_126 (by decide) ?_
            exact r_sub [3] rfl (J130 1 o119.2 hg)
  unfold g_X7_write at hg
  show AtK X Z rm_X7_write cX7_write RX7 8 0 0 (wX Z a m ps im ik asd rb rp mv) 0 [(0, .ref (a 0)), (1, .int n1), (2, .int n2), (3, .int n3)] []
  refine r_aload_n dX7_write_0 0 rfl ?_
  refine gf_X7_0 (v := .ref (a 1)) 0 rfl rfl qw_586 dX7_write_1 ?_
  refine r_bipush (v := 117) dX7_write_4 kbp_117 ?_
  refine r_ialdL 1 rfl (j := 117) (by decide) (by decide) dX7_write_6 ?_
  refine r_iconst (v := 4) dX7_write_7 kic_4 ?_
  refine r_icmp_ne (tgt := 20) dX7_write_8 (by decide) (fun h8 => ?_) (fun h8 => ?_)
  · replace hg := (if_neg h8).symm.trans hg
    exact r_sub [0, 1, 2, 3] rfl (J20 n1 n2 n3 m hg)
  · replace hg := (if_pos h8).symm.trans hg
    refine r_aload_n dX7_write_11 0 rfl ?_
    obtain ⟨o12, e12, hg⟩ := ob hg
    refine r_callV (As := []) (rest := []) (ws' := wX Z a o12.2 ps im ik asd rb rp mv) 0 rfl rfl rfl (fun l => c_X7_beginBlock Z l a m ps im ik asd rb rp mv  o12 e12) qw_648 mv_X7_beginBlock (xPk.all rfl) ⟨Nat.le_of_ble_eq_true rfl, Nat.le_of_ble_eq_true rfl⟩ ⟨rfl, rfl⟩ ⟨Nat.zero_le _, Nat.zero_le _⟩ rfl (Nat.le_of_ble_eq_true rfl) rfl dX7_write_12 ?_
    refine r_if_ne (tgt := 20) dX7_write_15 (by decide) (fun h15 => ?_) (fun h15 => ?_)
    · replace hg := (if_neg h15).symm.trans hg
      exact r_sub [0, 1, 2, 3] rfl (J20 n1 n2 n3 o12.2 hg)
    · replace hg := (if_pos h15).symm.trans hg
      refine r_iconst (v := 0) dX7_write_18 kic_0 ?_
      exact r_bret (hE _ (Option.some.inj hg)) (by decide) dX7_write_19

-- TicketJournalModel.newest()I
abbrev rm_X7_newest : Room := { frames := 2, cells := 0, slots := 0, locals := 47 }
def g_X7_newest_85 (m : Nat → Int32) (k5 : Int32 → Int32 → Option (Int32)) (x2 : Int32) (t0 : Int32) : Option (Int32) :=
  k5 t0 (x2 + 1)
def g_X7_newest_84 (m : Nat → Int32) (k5 : Int32 → Int32 → Option (Int32)) (x1 : Int32) (x2 : Int32) : Option (Int32) :=
  g_X7_newest_85 m k5 x2 x1
def g_X7_newest_62 (m : Nat → Int32) (k5 : Int32 → Int32 → Option (Int32)) (k19 : Int32 → Int32 → Int32 → Int32 → Option (Int32)) (x1 : Int32) (x2 : Int32) (x4 : Int32) (t0 : Int32) (t1 : Int32) : Option (Int32) :=
  k19 x1 x2 (t0 &&& t1) (x4 + 1)
def g_X7_newest_57 (m : Nat → Int32) (k5 : Int32 → Int32 → Option (Int32)) (k19 : Int32 → Int32 → Int32 → Int32 → Option (Int32)) (x1 : Int32) (x2 : Int32) (x4 : Int32) (t0 : Int32) : Option (Int32) :=
  g_X7_newest_62 m k5 k19 x1 x2 x4 t0 1
def g_X7_newest_19 (m : Nat → Int32) (k5 : Int32 → Int32 → Option (Int32)) : Nat → Int32 → Int32 → Int32 → Int32 → Option (Int32)
  | 0 => fun _ _ _ _ => none
  | n + 1 => fun x1 x2 x3 x4 => (if 5 ≤ x4 then (if x3 = 0 then g_X7_newest_84 m k5 x1 x2 else (if x1 = (-9) then g_X7_newest_85 m k5 x2 x2 else g_X7_newest_84 m k5 x1 x2)) else (g_X7_isWhole m x4).bind fun o29 => (if o29 = 0 then g_X7_newest_57 m k5 (g_X7_newest_19 m k5 n) x1 x2 x4 x3 else (g_X7_at m x4 0).bind fun o39 => (g_X7_at m x2 0).bind fun o45 => (if o39 = (jrem (o45 + 1) 10000) then g_X7_newest_62 m k5 (g_X7_newest_19 m k5 n) x1 x2 x4 x3 0 else g_X7_newest_57 m k5 (g_X7_newest_19 m k5 n) x1 x2 x4 x3)))
def g_X7_newest_5 (m : Nat → Int32)  : Nat → Int32 → Int32 → Option (Int32)
  | 0 => fun _ _ => none
  | n + 1 => fun x1 x2 => (if 5 ≤ x2 then some (x1) else (g_X7_isWhole m x2).bind fun o12 => g_X7_newest_19 m (g_X7_newest_5 m n) 8 x1 x2 o12 0)
def g_X7_newest (m : Nat → Int32)  : Option (Int32) :=
  g_X7_newest_5 m 8 (-9) 0
set_option maxHeartbeats 4000000 in
set_option maxRecDepth 100000 in
theorem c_X7_newest (Z : GZ) (l : Launch) (a : Nat → Nat) (m : Nat → Int32) (ps : Nat → Int32) (im : Nat → Int32) (ik : Nat → Int32) (asd : Nat → Int32) (rb : Nat → Int32) (rp : Nat → Int32) (mv : Nat → Int32)  (o : (Int32)) (hg : g_X7_newest m = some o) : Con Z l yX7_newest cX7_newest 5 (some .int) rm_X7_newest [.ref (a 0)] (wX Z a m ps im ik asd rb rp mv) (some (.int o)) (wX Z a m ps im ik asd rb rp mv) := by
  refine Con.of (by decide) (Nat.le_of_ble_eq_true rfl) ?_
  intro X hE0
  have hE : ∀ z, z = o → endsX X Z (some .int) (some (.int z)) (wX Z a m ps im ik asd rb rp mv) := by
    rintro _ rfl; exact hE0
  have J85 : ∀ (k5 : Int32 → Int32 → Option (Int32)) (hk5 : ∀ (x1 : Int32) (x2 : Int32), k5 x1 x2 = some o → AtK X Z rm_X7_newest cX7_newest RX7 5 0 0 (wX Z a m ps im ik asd rb rp mv) 5 [(0, .ref (a 0)), (1, .int x1), (2, .int x2)] []), ∀ (x2 : Int32) (t0 : Int32), g_X7_newest_85 m k5 x2 t0 = some o → AtK X Z rm_X7_newest cX7_newest RX7 5 0 0 (wX Z a m ps im ik asd rb rp mv) 85 [(0, .ref (a 0)), (2, .int x2)] [.int t0] := by
    intro k5 hk5 x2 t0 hg
    unfold g_X7_newest_85 at hg
    refine r_istore_n (lv' := [(1, .int t0), (0, .ref (a 0)), (2, .int x2)]) dX7_newest_85 (by decide) rfl ?_
    refine r_iinc (v := (x2 + 1)) (lv' := [(2, .int (x2 + 1)), (1, .int t0), (0, .ref (a 0))]) dX7_newest_86 (k := 2) rfl rfl (by decide) rfl ?_
    refine r_goto (tgt := 5) dX7_newest_89 (by decide) ?_
    exact r_sub [2, 1, 0] rfl (hk5 t0 (x2 + 1) hg)
  have J84 : ∀ (k5 : Int32 → Int32 → Option (Int32)) (hk5 : ∀ (x1 : Int32) (x2 : Int32), k5 x1 x2 = some o → AtK X Z rm_X7_newest cX7_newest RX7 5 0 0 (wX Z a m ps im ik asd rb rp mv) 5 [(0, .ref (a 0)), (1, .int x1), (2, .int x2)] []), ∀ (x1 : Int32) (x2 : Int32), g_X7_newest_84 m k5 x1 x2 = some o → AtK X Z rm_X7_newest cX7_newest RX7 5 0 0 (wX Z a m ps im ik asd rb rp mv) 84 [(0, .ref (a 0)), (1, .int x1), (2, .int x2)] [] := by
    intro k5 hk5 x1 x2 hg
    unfold g_X7_newest_84 at hg
    refine r_iload_n dX7_newest_84 1 rfl ?_
    exact r_sub [0, 2] rfl (J85 k5 hk5 x2 x1 hg)
  have J62 : ∀ (k5 : Int32 → Int32 → Option (Int32)) (hk5 : ∀ (x1 : Int32) (x2 : Int32), k5 x1 x2 = some o → AtK X Z rm_X7_newest cX7_newest RX7 5 0 0 (wX Z a m ps im ik asd rb rp mv) 5 [(0, .ref (a 0)), (1, .int x1), (2, .int x2)] []) (k19 : Int32 → Int32 → Int32 → Int32 → Option (Int32)) (hk19 : ∀ (x1 : Int32) (x2 : Int32) (x3 : Int32) (x4 : Int32), k19 x1 x2 x3 x4 = some o → AtK X Z rm_X7_newest cX7_newest RX7 5 0 0 (wX Z a m ps im ik asd rb rp mv) 19 [(0, .ref (a 0)), (1, .int x1), (2, .int x2), (3, .int x3), (4, .int x4)] []), ∀ (x1 : Int32) (x2 : Int32) (x4 : Int32) (t0 : Int32) (t1 : Int32), g_X7_newest_62 m k5 k19 x1 x2 x4 t0 t1 = some o → AtK X Z rm_X7_newest cX7_newest RX7 5 0 0 (wX Z a m ps im ik asd rb rp mv) 62 [(0, .ref (a 0)), (1, .int x1), (2, .int x2), (4, .int x4)] [.int t1, .int t0] := by
    intro k5 hk5 k19 hk19 x1 x2 x4 t0 t1 hg
    unfold g_X7_newest_62 at hg
    refine r_iand dX7_newest_62 ?_
    refine r_istore_n (lv' := [(3, .int (t0 &&& t1)), (0, .ref (a 0)), (1, .int x1), (2, .int x2), (4, .int x4)]) dX7_newest_63 (by decide) rfl ?_
    refine r_iinc (v := (x4 + 1)) (lv' := [(4, .int (x4 + 1)), (3, .int (t0 &&& t1)), (0, .ref (a 0)), (1, .int x1), (2, .int x2)]) dX7_newest_64 (k := 4) rfl rfl (by decide) rfl ?_
    refine r_goto (tgt := 19) dX7_newest_67 (by decide) ?_
    exact r_sub [2, 3, 4, 1, 0] rfl (hk19 x1 x2 (t0 &&& t1) (x4 + 1) hg)
  have J57 : ∀ (k5 : Int32 → Int32 → Option (Int32)) (hk5 : ∀ (x1 : Int32) (x2 : Int32), k5 x1 x2 = some o → AtK X Z rm_X7_newest cX7_newest RX7 5 0 0 (wX Z a m ps im ik asd rb rp mv) 5 [(0, .ref (a 0)), (1, .int x1), (2, .int x2)] []) (k19 : Int32 → Int32 → Int32 → Int32 → Option (Int32)) (hk19 : ∀ (x1 : Int32) (x2 : Int32) (x3 : Int32) (x4 : Int32), k19 x1 x2 x3 x4 = some o → AtK X Z rm_X7_newest cX7_newest RX7 5 0 0 (wX Z a m ps im ik asd rb rp mv) 19 [(0, .ref (a 0)), (1, .int x1), (2, .int x2), (3, .int x3), (4, .int x4)] []), ∀ (x1 : Int32) (x2 : Int32) (x4 : Int32) (t0 : Int32), g_X7_newest_57 m k5 k19 x1 x2 x4 t0 = some o → AtK X Z rm_X7_newest cX7_newest RX7 5 0 0 (wX Z a m ps im ik asd rb rp mv) 57 [(0, .ref (a 0)), (1, .int x1), (2, .int x2), (4, .int x4)] [.int t0] := by
    intro k5 hk5 k19 hk19 x1 x2 x4 t0 hg
    unfold g_X7_newest_57 at hg
    refine r_iconst (v := 1) dX7_newest_57 kic_1 ?_
    refine r_goto (tgt := 62) dX7_newest_58 (by decide) ?_
    exact r_sub [0, 1, 2, 3] rfl (J62 k5 hk5 k19 hk19 x1 x2 x4 t0 1 hg)
  have J19 : ∀ (k5 : Int32 → Int32 → Option (Int32)) (hk5 : ∀ (x1 : Int32) (x2 : Int32), k5 x1 x2 = some o → AtK X Z rm_X7_newest cX7_newest RX7 5 0 0 (wX Z a m ps im ik asd rb rp mv) 5 [(0, .ref (a 0)), (1, .int x1), (2, .int x2)] []) (n : Nat), ∀ (x1 : Int32) (x2 : Int32) (x3 : Int32) (x4 : Int32), g_X7_newest_19 m k5 n x1 x2 x3 x4 = some o → AtK X Z rm_X7_newest cX7_newest RX7 5 0 0 (wX Z a m ps im ik asd rb rp mv) 19 [(0, .ref (a 0)), (1, .int x1), (2, .int x2), (3, .int x3), (4, .int x4)] [] := by
    intro k5 hk5 n
    induction n with
    | zero => intro x1 x2 x3 x4 hg; exact nomatch (show (none : Option _) = some o from hg)
    | succ n ih =>
      intro x1 x2 x3 x4 hg
      unfold g_X7_newest_19 at hg
      refine r_iload dX7_newest_19 4 rfl ?_
      refine r_iconst (v := 5) dX7_newest_21 kic_5 ?_
      refine r_icmp_ge (tgt := 70) dX7_newest_22 (by decide) (fun h22 => ?_) (fun h22 => ?_)
      · replace hg := (if_pos h22).symm.trans hg
        refine r_iload_n dX7_newest_70 3 rfl ?_
        refine r_if_eq (tgt := 84) dX7_newest_71 (by decide) (fun h71 => ?_) (fun h71 => ?_)
        · replace hg := (if_pos h71).symm.trans hg
          exact r_sub [0, 1, 2] rfl (J84 k5 hk5 x1 x2 hg)
        · replace hg := (if_neg h71).symm.trans hg
          refine r_iload_n dX7_newest_74 1 rfl ?_
          refine r_bipush (v := (-9)) dX7_newest_75 kbp_m9 ?_
          refine r_icmp_ne (tgt := 84) dX7_newest_77 (by decide) (fun h77 => ?_) (fun h77 => ?_)
          · replace hg := (if_neg h77).symm.trans hg
            exact r_sub [0, 1, 2] rfl (J84 k5 hk5 x1 x2 hg)
          · replace hg := (if_pos h77).symm.trans hg
            refine r_iload_n dX7_newest_80 2 rfl ?_
            refine r_goto (tgt := 85) dX7_newest_81 (by decide) ?_
            exact r_sub [0, 2] rfl (J85 k5 hk5 x2 x2 hg)
      · replace hg := (if_neg h22).symm.trans hg
        refine r_iload_n dX7_newest_25 3 rfl ?_
        refine r_aload_n dX7_newest_26 0 rfl ?_
        refine r_iload dX7_newest_27 4 rfl ?_
        obtain ⟨o29, e29, hg⟩ := ob hg
        refine r_callV (As := [.int x4]) (rest := [.int x3]) (ws' := wX Z a m ps im ik asd rb rp mv) 0 rfl rfl rfl (fun l => c_X7_isWhole Z l a m ps im ik asd rb rp mv x4 o29 e29) qw_731 mv_X7_isWhole (xPk.all rfl) ⟨Nat.le_of_ble_eq_true rfl, Nat.le_of_ble_eq_true rfl⟩ ⟨rfl, rfl⟩ ⟨Nat.zero_le _, Nat.zero_le _⟩ rfl (Nat.le_of_ble_eq_true rfl) rfl dX7_newest_29 ?_
        refine r_if_eq (tgt := 57) dX7_newest_32 (by decide) (fun h32 => ?_) (fun h32 => ?_)
        · replace hg := (if_pos h32).symm.trans hg
          exact r_sub [0, 1, 2, 4] rfl (J57 k5 hk5 (g_X7_newest_19 m k5 n) ih x1 x2 x4 x3 hg)
        · replace hg := (if_neg h32).symm.trans hg
          refine r_aload_n dX7_newest_35 0 rfl ?_
          refine r_iload dX7_newest_36 4 rfl ?_
          refine r_iconst (v := 0) dX7_newest_38 kic_0 ?_
          obtain ⟨o39, e39, hg⟩ := ob hg
          refine r_callV (As := [.int x4, .int 0]) (rest := [.int x3]) (ws' := wX Z a m ps im ik asd rb rp mv) 0 rfl rfl rfl (fun l => c_X7_at Z l a m ps im ik asd rb rp mv x4 0 o39 e39) qw_652 mv_X7_at (xPk.all rfl) ⟨Nat.le_of_ble_eq_true rfl, Nat.le_of_ble_eq_true rfl⟩ ⟨rfl, rfl⟩ ⟨Nat.zero_le _, Nat.zero_le _⟩ rfl (Nat.le_of_ble_eq_true rfl) rfl dX7_newest_39 ?_
          refine r_aload_n dX7_newest_42 0 rfl ?_
          refine r_iload_n dX7_newest_43 2 rfl ?_
          refine r_iconst (v := 0) dX7_newest_44 kic_0 ?_
          obtain ⟨o45, e45, hg⟩ := ob hg
          refine r_callV (As := [.int x2, .int 0]) (rest := [.int o39, .int x3]) (ws' := wX Z a m ps im ik asd rb rp mv) 0 rfl rfl rfl (fun l => c_X7_at Z l a m ps im ik asd rb rp mv x2 0 o45 e45) qw_652 mv_X7_at (xPk.all rfl) ⟨Nat.le_of_ble_eq_true rfl, Nat.le_of_ble_eq_true rfl⟩ ⟨rfl, rfl⟩ ⟨Nat.zero_le _, Nat.zero_le _⟩ rfl (Nat.le_of_ble_eq_true rfl) rfl dX7_newest_45 ?_
          refine r_iconst (v := 1) dX7_newest_48 kic_1 ?_
          refine r_iadd dX7_newest_49 ?_
          refine r_sipush (v := 10000) dX7_newest_50 ksp_10000 ?_
          refine r_irem dX7_newest_53 (by decide) ?_
          refine r_icmp_eq (tgt := 61) dX7_newest_54 (by decide) (fun h54 => ?_) (fun h54 => ?_)
          · replace hg := (if_pos h54).symm.trans hg
            refine r_iconst (v := 0) dX7_newest_61 kic_0 ?_
            exact r_sub [0, 1, 2, 4] rfl (J62 k5 hk5 (g_X7_newest_19 m k5 n) ih x1 x2 x4 x3 0 hg)
          · replace hg := (if_neg h54).symm.trans hg
            exact r_sub [0, 1, 2, 4] rfl (J57 k5 hk5 (g_X7_newest_19 m k5 n) ih x1 x2 x4 x3 hg)
  have J5 : ∀ (n : Nat), ∀ (x1 : Int32) (x2 : Int32), g_X7_newest_5 m n x1 x2 = some o → AtK X Z rm_X7_newest cX7_newest RX7 5 0 0 (wX Z a m ps im ik asd rb rp mv) 5 [(0, .ref (a 0)), (1, .int x1), (2, .int x2)] [] := by
    intro  n
    induction n with
    | zero => intro x1 x2 hg; exact nomatch (show (none : Option _) = some o from hg)
    | succ n ih =>
      intro x1 x2 hg
      unfold g_X7_newest_5 at hg
      refine r_iload_n dX7_newest_5 2 rfl ?_
      refine r_iconst (v := 5) dX7_newest_6 kic_5 ?_
      refine r_icmp_ge (tgt := 92) dX7_newest_7 (by decide) (fun h7 => ?_) (fun h7 => ?_)
      · replace hg := (if_pos h7).symm.trans hg
        refine r_iload_n dX7_newest_92 1 rfl ?_
        exact r_iret (hE _ (Option.some.inj hg)) dX7_newest_93
      · replace hg := (if_neg h7).symm.trans hg
        refine r_aload_n dX7_newest_10 0 rfl ?_
        refine r_iload_n dX7_newest_11 2 rfl ?_
        obtain ⟨o12, e12, hg⟩ := ob hg
        refine r_callV (As := [.int x2]) (rest := []) (ws' := wX Z a m ps im ik asd rb rp mv) 0 rfl rfl rfl (fun l => c_X7_isWhole Z l a m ps im ik asd rb rp mv x2 o12 e12) qw_731 mv_X7_isWhole (xPk.all rfl) ⟨Nat.le_of_ble_eq_true rfl, Nat.le_of_ble_eq_true rfl⟩ ⟨rfl, rfl⟩ ⟨Nat.zero_le _, Nat.zero_le _⟩ rfl (Nat.le_of_ble_eq_true rfl) rfl dX7_newest_12 ?_
        refine r_istore_n (lv' := [(3, .int o12), (0, .ref (a 0)), (1, .int x1), (2, .int x2)]) dX7_newest_15 (by decide) rfl ?_
        refine r_iconst (v := 0) dX7_newest_16 kic_0 ?_
        refine r_istore (lv' := [(4, .int 0), (3, .int o12), (0, .ref (a 0)), (1, .int x1), (2, .int x2)]) dX7_newest_17 (by decide) rfl ?_
        exact r_sub [2, 3, 4, 1, 0] rfl (J19 (g_X7_newest_5 m n) ih 8 x1 x2 o12 0 hg)
  unfold g_X7_newest at hg
  show AtK X Z rm_X7_newest cX7_newest RX7 5 0 0 (wX Z a m ps im ik asd rb rp mv) 0 [(0, .ref (a 0))] []
  refine r_bipush (v := (-9)) dX7_newest_0 kbp_m9 ?_
  refine r_istore_n (lv' := [(1, .int (-9)), (0, .ref (a 0))]) dX7_newest_2 (by decide) rfl ?_
  refine r_iconst (v := 0) dX7_newest_3 kic_0 ?_
  refine r_istore_n (lv' := [(2, .int 0), (1, .int (-9)), (0, .ref (a 0))]) dX7_newest_4 (by decide) rfl ?_
  exact r_sub [2, 1, 0] rfl (J5 8 (-9) 0 hg)

-- TicketJournalModel.follow(II)V
abbrev rm_X7_follow : Room := { frames := 1, cells := 0, slots := 0, locals := 20 }
def g_X7_follow (m : Nat → Int32) (n1 : Int32) (n2 : Int32) : Option ((Nat → Int32)) :=
  (if (n1 / 10000) = 0 then (g_X7_lengthOf (n2 / 1000)).bind fun o95 => some ((upd (upd (upd (upd m 118 (jrem ((jrem n1 10000) + 1) 10000)) 119 ((m 119) + (jrem n2 1000))) 120 ((m 120) + 1)) 121 ((m 121) - o95))) else (if (n1 / 10000) = 1 then some ((upd (upd (upd m 118 (jrem ((jrem n1 10000) + 1) 10000)) 119 ((m 119) - (jrem n2 1000))) 120 ((m 120) - 1))) else (if (n1 / 10000) = 3 then some ((upd (upd (upd m 118 (jrem ((jrem n1 10000) + 1) 10000)) 119 0) 120 0)) else (if (n1 / 10000) = 4 then some ((upd (upd m 118 (jrem ((jrem n1 10000) + 1) 10000)) 121 n2)) else some ((upd m 118 (jrem ((jrem n1 10000) + 1) 10000)))))))
set_option maxHeartbeats 4000000 in
set_option maxRecDepth 100000 in
theorem c_X7_follow (Z : GZ) (l : Launch) (a : Nat → Nat) (m : Nat → Int32) (ps : Nat → Int32) (im : Nat → Int32) (ik : Nat → Int32) (asd : Nat → Int32) (rb : Nat → Int32) (rp : Nat → Int32) (mv : Nat → Int32) (n1 : Int32) (n2 : Int32) (o : ((Nat → Int32))) (hg : g_X7_follow m n1 n2 = some o) : Con Z l yX7_follow cX7_follow 3 none rm_X7_follow [.ref (a 0), .int n1, .int n2] (wX Z a m ps im ik asd rb rp mv) none (wX Z a o ps im ik asd rb rp mv) := by
  refine Con.of (by decide) (Nat.le_of_ble_eq_true rfl) ?_
  intro X hE0
  have hE : ∀ z, z = o → endsX X Z none none (wX Z a z ps im ik asd rb rp mv) := by
    rintro _ rfl; exact hE0
  unfold g_X7_follow at hg
  show AtK X Z rm_X7_follow cX7_follow RX7 3 0 0 (wX Z a m ps im ik asd rb rp mv) 0 [(0, .ref (a 0)), (1, .int n1), (2, .int n2)] []
  refine r_aload_n dX7_follow_0 0 rfl ?_
  refine gf_X7_0 (v := .ref (a 1)) 0 rfl rfl qw_586 dX7_follow_1 ?_
  refine r_bipush (v := 118) dX7_follow_4 kbp_118 ?_
  refine r_iload_n dX7_follow_6 1 rfl ?_
  refine r_sipush (v := 10000) dX7_follow_7 ksp_10000 ?_
  refine r_irem dX7_follow_10 (by decide) ?_
  refine r_iconst (v := 1) dX7_follow_11 kic_1 ?_
  refine r_iadd dX7_follow_12 ?_
  refine r_sipush (v := 10000) dX7_follow_13 ksp_10000 ?_
  refine r_irem dX7_follow_16 (by decide) ?_
  refine r_iast 1 rfl (j := 118) (by decide) (by decide) dX7_follow_17 (ws' := wX Z a (upd m 118 (jrem ((jrem n1 10000) + 1) 10000)) ps im ik asd rb rp mv) rfl ?_
  refine r_iload_n dX7_follow_18 1 rfl ?_
  refine r_sipush (v := 10000) dX7_follow_19 ksp_10000 ?_
  refine r_idiv dX7_follow_22 (by decide) ?_
  by_cases h23_0 : (n1 / 10000) = 0
  · replace hg := (if_pos h23_0).symm.trans hg
    refine r_tableIn (tgt := 56) (off := 33) dX7_follow_23 (by rw [h23_0]; decide) (by rw [h23_0]; decide) (by rw [h23_0]; decide) (by decide) ?_
    refine r_aload_n dX7_follow_56 0 rfl ?_
    refine gf_X7_0 (v := .ref (a 1)) 0 rfl rfl qw_586 dX7_follow_57 ?_
    refine r_bipush (v := 119) dX7_follow_60 kbp_119 ?_
    refine r_dup2 dX7_follow_62 rfl rfl ?_
    refine r_ialdV (f := upd m 118 (jrem ((jrem n1 10000) + 1) 10000)) 1 rfl (j := 119) (by decide) (by decide) (v := m 119) rfl dX7_follow_63 ?_
    refine r_iload_n dX7_follow_64 2 rfl ?_
    refine r_sipush (v := 1000) dX7_follow_65 ksp_1000 ?_
    refine r_irem dX7_follow_68 (by decide) ?_
    refine r_iadd dX7_follow_69 ?_
    refine r_iast 1 rfl (j := 119) (by decide) (by decide) dX7_follow_70 (ws' := wX Z a (upd (upd m 118 (jrem ((jrem n1 10000) + 1) 10000)) 119 ((m 119) + (jrem n2 1000))) ps im ik asd rb rp mv) rfl ?_
    refine r_aload_n dX7_follow_71 0 rfl ?_
    refine gf_X7_0 (v := .ref (a 1)) 0 rfl rfl qw_586 dX7_follow_72 ?_
    refine r_bipush (v := 120) dX7_follow_75 kbp_120 ?_
    refine r_dup2 dX7_follow_77 rfl rfl ?_
    refine r_ialdV (f := upd (upd m 118 (jrem ((jrem n1 10000) + 1) 10000)) 119 ((m 119) + (jrem n2 1000))) 1 rfl (j := 120) (by decide) (by decide) (v := m 120) rfl dX7_follow_78 ?_
    refine r_iconst (v := 1) dX7_follow_79 kic_1 ?_
    refine r_iadd dX7_follow_80 ?_
    refine r_iast 1 rfl (j := 120) (by decide) (by decide) dX7_follow_81 (ws' := wX Z a (upd (upd (upd m 118 (jrem ((jrem n1 10000) + 1) 10000)) 119 ((m 119) + (jrem n2 1000))) 120 ((m 120) + 1)) ps im ik asd rb rp mv) rfl ?_
    refine r_aload_n dX7_follow_82 0 rfl ?_
    refine gf_X7_0 (v := .ref (a 1)) 0 rfl rfl qw_586 dX7_follow_83 ?_
    refine r_bipush (v := 121) dX7_follow_86 kbp_121 ?_
    refine r_dup2 dX7_follow_88 rfl rfl ?_
    refine r_ialdV (f := upd (upd (upd m 118 (jrem ((jrem n1 10000) + 1) 10000)) 119 ((m 119) + (jrem n2 1000))) 120 ((m 120) + 1)) 1 rfl (j := 121) (by decide) (by decide) (v := m 121) rfl dX7_follow_89 ?_
    refine r_iload_n dX7_follow_90 2 rfl ?_
    refine r_sipush (v := 1000) dX7_follow_91 ksp_1000 ?_
    refine r_idiv dX7_follow_94 (by decide) ?_
    obtain ⟨o95, e95, hg⟩ := ob hg
    refine r_callS (As := [.int (n2 / 1000)]) (rest := [.int (m 121), .int 121, .ref (a 1)]) (ws' := wX Z a (upd (upd (upd m 118 (jrem ((jrem n1 10000) + 1) 10000)) 119 ((m 119) + (jrem n2 1000))) 120 ((m 120) + 1)) ps im ik asd rb rp mv) (fun l => c_X7_lengthOf Z l   (n2 / 1000) o95 e95) qw_633 ms_X7_lengthOf xPk.none ⟨Nat.le_of_ble_eq_true rfl, Nat.le_of_ble_eq_true rfl⟩ ⟨rfl, rfl⟩ ⟨Nat.zero_le _, Nat.zero_le _⟩ rfl (Nat.le_of_ble_eq_true rfl) rfl dX7_follow_95 ?_
    refine r_isub dX7_follow_98 ?_
    refine r_iast 1 rfl (j := 121) (by decide) (by decide) dX7_follow_99 (ws' := wX Z a (upd (upd (upd (upd m 118 (jrem ((jrem n1 10000) + 1) 10000)) 119 ((m 119) + (jrem n2 1000))) 120 ((m 120) + 1)) 121 ((m 121) - o95)) ps im ik asd rb rp mv) rfl ?_
    refine r_goto (tgt := 162) dX7_follow_100 (by decide) ?_
    exact r_vret (hE _ (Option.some.inj hg)) dX7_follow_162
  replace hg := (if_neg h23_0).symm.trans hg
  by_cases h23_1 : (n1 / 10000) = 1
  · replace hg := (if_pos h23_1).symm.trans hg
    refine r_tableIn (tgt := 103) (off := 80) dX7_follow_23 (by rw [h23_1]; decide) (by rw [h23_1]; decide) (by rw [h23_1]; decide) (by decide) ?_
    refine r_aload_n dX7_follow_103 0 rfl ?_
    refine gf_X7_0 (v := .ref (a 1)) 0 rfl rfl qw_586 dX7_follow_104 ?_
    refine r_bipush (v := 119) dX7_follow_107 kbp_119 ?_
    refine r_dup2 dX7_follow_109 rfl rfl ?_
    refine r_ialdV (f := upd m 118 (jrem ((jrem n1 10000) + 1) 10000)) 1 rfl (j := 119) (by decide) (by decide) (v := m 119) rfl dX7_follow_110 ?_
    refine r_iload_n dX7_follow_111 2 rfl ?_
    refine r_sipush (v := 1000) dX7_follow_112 ksp_1000 ?_
    refine r_irem dX7_follow_115 (by decide) ?_
    refine r_isub dX7_follow_116 ?_
    refine r_iast 1 rfl (j := 119) (by decide) (by decide) dX7_follow_117 (ws' := wX Z a (upd (upd m 118 (jrem ((jrem n1 10000) + 1) 10000)) 119 ((m 119) - (jrem n2 1000))) ps im ik asd rb rp mv) rfl ?_
    refine r_aload_n dX7_follow_118 0 rfl ?_
    refine gf_X7_0 (v := .ref (a 1)) 0 rfl rfl qw_586 dX7_follow_119 ?_
    refine r_bipush (v := 120) dX7_follow_122 kbp_120 ?_
    refine r_dup2 dX7_follow_124 rfl rfl ?_
    refine r_ialdV (f := upd (upd m 118 (jrem ((jrem n1 10000) + 1) 10000)) 119 ((m 119) - (jrem n2 1000))) 1 rfl (j := 120) (by decide) (by decide) (v := m 120) rfl dX7_follow_125 ?_
    refine r_iconst (v := 1) dX7_follow_126 kic_1 ?_
    refine r_isub dX7_follow_127 ?_
    refine r_iast 1 rfl (j := 120) (by decide) (by decide) dX7_follow_128 (ws' := wX Z a (upd (upd (upd m 118 (jrem ((jrem n1 10000) + 1) 10000)) 119 ((m 119) - (jrem n2 1000))) 120 ((m 120) - 1)) ps im ik asd rb rp mv) rfl ?_
    refine r_goto (tgt := 162) dX7_follow_129 (by decide) ?_
    exact r_vret (hE _ (Option.some.inj hg)) dX7_follow_162
  replace hg := (if_neg h23_1).symm.trans hg
  by_cases h23_3 : (n1 / 10000) = 3
  · replace hg := (if_pos h23_3).symm.trans hg
    refine r_tableIn (tgt := 132) (off := 109) dX7_follow_23 (by rw [h23_3]; decide) (by rw [h23_3]; decide) (by rw [h23_3]; decide) (by decide) ?_
    refine r_aload_n dX7_follow_132 0 rfl ?_
    refine gf_X7_0 (v := .ref (a 1)) 0 rfl rfl qw_586 dX7_follow_133 ?_
    refine r_bipush (v := 119) dX7_follow_136 kbp_119 ?_
    refine r_iconst (v := 0) dX7_follow_138 kic_0 ?_
    refine r_iast 1 rfl (j := 119) (by decide) (by decide) dX7_follow_139 (ws' := wX Z a (upd (upd m 118 (jrem ((jrem n1 10000) + 1) 10000)) 119 0) ps im ik asd rb rp mv) rfl ?_
    refine r_aload_n dX7_follow_140 0 rfl ?_
    refine gf_X7_0 (v := .ref (a 1)) 0 rfl rfl qw_586 dX7_follow_141 ?_
    refine r_bipush (v := 120) dX7_follow_144 kbp_120 ?_
    refine r_iconst (v := 0) dX7_follow_146 kic_0 ?_
    refine r_iast 1 rfl (j := 120) (by decide) (by decide) dX7_follow_147 (ws' := wX Z a (upd (upd (upd m 118 (jrem ((jrem n1 10000) + 1) 10000)) 119 0) 120 0) ps im ik asd rb rp mv) rfl ?_
    refine r_goto (tgt := 162) dX7_follow_148 (by decide) ?_
    exact r_vret (hE _ (Option.some.inj hg)) dX7_follow_162
  replace hg := (if_neg h23_3).symm.trans hg
  by_cases h23_4 : (n1 / 10000) = 4
  · replace hg := (if_pos h23_4).symm.trans hg
    refine r_tableIn (tgt := 151) (off := 128) dX7_follow_23 (by rw [h23_4]; decide) (by rw [h23_4]; decide) (by rw [h23_4]; decide) (by decide) ?_
    refine r_aload_n dX7_follow_151 0 rfl ?_
    refine gf_X7_0 (v := .ref (a 1)) 0 rfl rfl qw_586 dX7_follow_152 ?_
    refine r_bipush (v := 121) dX7_follow_155 kbp_121 ?_
    refine r_iload_n dX7_follow_157 2 rfl ?_
    refine r_iast 1 rfl (j := 121) (by decide) (by decide) dX7_follow_158 (ws' := wX Z a (upd (upd m 118 (jrem ((jrem n1 10000) + 1) 10000)) 121 n2) ps im ik asd rb rp mv) rfl ?_
    refine r_goto (tgt := 162) dX7_follow_159 (by decide) ?_
    exact r_vret (hE _ (Option.some.inj hg)) dX7_follow_162
  replace hg := (if_neg h23_4).symm.trans hg
  by_cases h23_2 : (n1 / 10000) = 2
  · refine r_tableIn (tgt := 162) (off := 139) dX7_follow_23 (by rw [h23_2]; decide) (by rw [h23_2]; decide) (by rw [h23_2]; decide) (by decide) ?_
    exact r_vret (hE _ (Option.some.inj hg)) dX7_follow_162
  have n23_0 : ¬ (n1 / 10000).toInt = 0 := x_nei (by decide) h23_0
  have n23_1 : ¬ (n1 / 10000).toInt = 1 := x_nei (by decide) h23_1
  have n23_3 : ¬ (n1 / 10000).toInt = 3 := x_nei (by decide) h23_3
  have n23_4 : ¬ (n1 / 10000).toInt = 4 := x_nei (by decide) h23_4
  have n23_2 : ¬ (n1 / 10000).toInt = 2 := x_nei (by decide) h23_2
  refine r_tableOut (tgt := 162) dX7_follow_23 (by omega) (by decide) ?_
  exact r_vret (hE _ (Option.some.inj hg)) dX7_follow_162

-- TicketJournalModel.readMemory()V
abbrev rm_X7_readMemory : Room := { frames := 4, cells := 0, slots := 0, locals := 91 }
def g_X7_readMemory_156  (k124 : Int32 → Int32 → (Nat → Int32) → Option ((Nat → Int32))) (x1 : Int32) (x2 : Int32) (m : Nat → Int32) : Option ((Nat → Int32)) :=
  k124 x1 (x2 + 1) m
def g_X7_readMemory_124   : Nat → Int32 → Int32 → (Nat → Int32) → Option ((Nat → Int32))
  | 0 => fun _ _ _ => none
  | n + 1 => fun x1 x2 m => (if 4 ≤ x2 then some (m) else (g_X7_isRecord m x1 x2).bind fun o132 => (if o132 = 0 then g_X7_readMemory_156 (g_X7_readMemory_124 n) x1 x2 m else (g_X7_inPlace m x1 x2 0).bind fun o143 => (g_X7_inPlace m x1 x2 2).bind fun o150 => (g_X7_follow m o143 o150).bind fun o153 => g_X7_readMemory_156 (g_X7_readMemory_124 n) x1 x2 o153))
def g_X7_readMemory_122   (x1 : Int32) (m : Nat → Int32) : Option ((Nat → Int32)) :=
  g_X7_readMemory_124 8 x1 0 m
def g_X7_readMemory_81   : Nat → Int32 → (Nat → Int32) → Option ((Nat → Int32))
  | 0 => fun _ _ => none
  | n + 1 => fun x1 m => (if (m 117) ≤ 0 then g_X7_readMemory_122 x1 m else (g_X7_isEmpty m x1 ((m 117) - 1)).bind fun o102 => (if o102 = 0 then g_X7_readMemory_122 x1 m else (g_X7_readMemory_81 n) x1 (upd m 117 ((m 117) - 1))))
def g_X7_readMemory (m : Nat → Int32)  : Option ((Nat → Int32)) :=
  (g_X7_newest m).bind fun o1 => (g_X7_at (upd (upd m 115 1) 116 o1) o1 1).bind fun o30 => (g_X7_at (upd (upd (upd m 115 1) 116 o1) 119 o30) o1 2).bind fun o43 => (g_X7_at (upd (upd (upd (upd m 115 1) 116 o1) 119 o30) 120 o43) o1 3).bind fun o56 => (g_X7_at (upd (upd (upd (upd (upd m 115 1) 116 o1) 119 o30) 120 o43) 121 o56) o1 4).bind fun o69 => g_X7_readMemory_81 8 o1 (upd (upd (upd (upd (upd (upd (upd m 115 1) 116 o1) 119 o30) 120 o43) 121 o56) 118 o69) 117 4)
set_option maxHeartbeats 4000000 in
set_option maxRecDepth 100000 in
theorem c_X7_readMemory (Z : GZ) (l : Launch) (a : Nat → Nat) (m : Nat → Int32) (ps : Nat → Int32) (im : Nat → Int32) (ik : Nat → Int32) (asd : Nat → Int32) (rb : Nat → Int32) (rp : Nat → Int32) (mv : Nat → Int32)  (o : ((Nat → Int32))) (hg : g_X7_readMemory m = some o) : Con Z l yX7_readMemory cX7_readMemory 3 none rm_X7_readMemory [.ref (a 0)] (wX Z a m ps im ik asd rb rp mv) none (wX Z a o ps im ik asd rb rp mv) := by
  refine Con.of (by decide) (Nat.le_of_ble_eq_true rfl) ?_
  intro X hE0
  have hE : ∀ z, z = o → endsX X Z none none (wX Z a z ps im ik asd rb rp mv) := by
    rintro _ rfl; exact hE0
  have J156 : ∀ (k124 : Int32 → Int32 → (Nat → Int32) → Option ((Nat → Int32))) (hk124 : ∀ (x1 : Int32) (x2 : Int32) (m : Nat → Int32), k124 x1 x2 m = some o → AtK X Z rm_X7_readMemory cX7_readMemory RX7 3 0 0 (wX Z a m ps im ik asd rb rp mv) 124 [(0, .ref (a 0)), (1, .int x1), (2, .int x2)] []), ∀ (x1 : Int32) (x2 : Int32) (m : Nat → Int32), g_X7_readMemory_156 k124 x1 x2 m = some o → AtK X Z rm_X7_readMemory cX7_readMemory RX7 3 0 0 (wX Z a m ps im ik asd rb rp mv) 156 [(0, .ref (a 0)), (1, .int x1), (2, .int x2)] [] := by
    intro k124 hk124 x1 x2 m hg
    unfold g_X7_readMemory_156 at hg
    refine r_iinc (v := (x2 + 1)) (lv' := [(2, .int (x2 + 1)), (0, .ref (a 0)), (1, .int x1)]) dX7_readMemory_156 (k := 2) rfl rfl (by decide) rfl ?_
    refine r_goto (tgt := 124) dX7_readMemory_159 (by decide) ?_
    exact r_sub [1, 2, 0] rfl (hk124 x1 (x2 + 1) m hg)
  have J124 : ∀ (n : Nat), ∀ (x1 : Int32) (x2 : Int32) (m : Nat → Int32), g_X7_readMemory_124 n x1 x2 m = some o → AtK X Z rm_X7_readMemory cX7_readMemory RX7 3 0 0 (wX Z a m ps im ik asd rb rp mv) 124 [(0, .ref (a 0)), (1, .int x1), (2, .int x2)] [] := by
    intro  n
    induction n with
    | zero => intro x1 x2 m hg; exact nomatch (show (none : Option _) = some o from hg)
    | succ n ih =>
      intro x1 x2 m hg
      unfold g_X7_readMemory_124 at hg
      refine r_iload_n dX7_readMemory_124 2 rfl ?_
      refine r_iconst (v := 4) dX7_readMemory_125 kic_4 ?_
      refine r_icmp_ge (tgt := 162) dX7_readMemory_126 (by decide) (fun h126 => ?_) (fun h126 => ?_)
      · replace hg := (if_pos h126).symm.trans hg
        exact r_vret (hE _ (Option.some.inj hg)) dX7_readMemory_162
      · replace hg := (if_neg h126).symm.trans hg
        refine r_aload_n dX7_readMemory_129 0 rfl ?_
        refine r_iload_n dX7_readMemory_130 1 rfl ?_
        refine r_iload_n dX7_readMemory_131 2 rfl ?_
        obtain ⟨o132, e132, hg⟩ := ob hg
        refine r_callV (As := [.int x1, .int x2]) (rest := []) (ws' := wX Z a m ps im ik asd rb rp mv) 0 rfl rfl rfl (fun l => c_X7_isRecord Z l a m ps im ik asd rb rp mv x1 x2 o132 e132) qw_682 mv_X7_isRecord (xPk.all rfl) ⟨Nat.le_of_ble_eq_true rfl, Nat.le_of_ble_eq_true rfl⟩ ⟨rfl, rfl⟩ ⟨Nat.zero_le _, Nat.zero_le _⟩ rfl (Nat.le_of_ble_eq_true rfl) rfl dX7_readMemory_132 ?_
        refine r_if_eq (tgt := 156) dX7_readMemory_135 (by decide) (fun h135 => ?_) (fun h135 => ?_)
        · replace hg := (if_pos h135).symm.trans hg
          exact r_sub [0, 1, 2] rfl (J156 (g_X7_readMemory_124 n) ih x1 x2 m hg)
        · replace hg := (if_neg h135).symm.trans hg
          refine r_aload_n dX7_readMemory_138 0 rfl ?_
          refine r_aload_n dX7_readMemory_139 0 rfl ?_
          refine r_iload_n dX7_readMemory_140 1 rfl ?_
          refine r_iload_n dX7_readMemory_141 2 rfl ?_
          refine r_iconst (v := 0) dX7_readMemory_142 kic_0 ?_
          obtain ⟨o143, e143, hg⟩ := ob hg
          refine r_callV (As := [.int x1, .int x2, .int 0]) (rest := [.ref (a 0)]) (ws' := wX Z a m ps im ik asd rb rp mv) 0 rfl rfl rfl (fun l => c_X7_inPlace Z l a m ps im ik asd rb rp mv x1 x2 0 o143 e143) qw_690 mv_X7_inPlace (xPk.all rfl) ⟨Nat.le_of_ble_eq_true rfl, Nat.le_of_ble_eq_true rfl⟩ ⟨rfl, rfl⟩ ⟨Nat.zero_le _, Nat.zero_le _⟩ rfl (Nat.le_of_ble_eq_true rfl) rfl dX7_readMemory_143 ?_
          refine r_aload_n dX7_readMemory_146 0 rfl ?_
          refine r_iload_n dX7_readMemory_147 1 rfl ?_
          refine r_iload_n dX7_readMemory_148 2 rfl ?_
          refine r_iconst (v := 2) dX7_readMemory_149 kic_2 ?_
          obtain ⟨o150, e150, hg⟩ := ob hg
          refine r_callV (As := [.int x1, .int x2, .int 2]) (rest := [.int o143, .ref (a 0)]) (ws' := wX Z a m ps im ik asd rb rp mv) 0 rfl rfl rfl (fun l => c_X7_inPlace Z l a m ps im ik asd rb rp mv x1 x2 2 o150 e150) qw_690 mv_X7_inPlace (xPk.all rfl) ⟨Nat.le_of_ble_eq_true rfl, Nat.le_of_ble_eq_true rfl⟩ ⟨rfl, rfl⟩ ⟨Nat.zero_le _, Nat.zero_le _⟩ rfl (Nat.le_of_ble_eq_true rfl) rfl dX7_readMemory_150 ?_
          obtain ⟨o153, e153, hg⟩ := ob hg
          refine r_callV (As := [.int o143, .int o150]) (rest := []) (ws' := wX Z a o153 ps im ik asd rb rp mv) 0 rfl rfl rfl (fun l => c_X7_follow Z l a m ps im ik asd rb rp mv o143 o150 o153 e153) qw_751 mv_X7_follow (xPk.all rfl) ⟨Nat.le_of_ble_eq_true rfl, Nat.le_of_ble_eq_true rfl⟩ ⟨rfl, rfl⟩ ⟨Nat.zero_le _, Nat.zero_le _⟩ rfl (Nat.le_of_ble_eq_true rfl) rfl dX7_readMemory_153 ?_
          exact r_sub [0, 1, 2] rfl (J156 (g_X7_readMemory_124 n) ih x1 x2 o153 hg)
  have J122 : ∀ (x1 : Int32) (m : Nat → Int32), g_X7_readMemory_122 x1 m = some o → AtK X Z rm_X7_readMemory cX7_readMemory RX7 3 0 0 (wX Z a m ps im ik asd rb rp mv) 122 [(0, .ref (a 0)), (1, .int x1)] [] := by
    intro x1 m hg
    unfold g_X7_readMemory_122 at hg
    refine r_iconst (v := 0) dX7_readMemory_122 kic_0 ?_
    refine r_istore_n (lv' := [(2, .int 0), (0, .ref (a 0)), (1, .int x1)]) dX7_readMemory_123 (by decide) rfl ?_
    exact r_sub [1, 2, 0] rfl (J124 8 x1 0 m hg)
  have J81 : ∀ (n : Nat), ∀ (x1 : Int32) (m : Nat → Int32), g_X7_readMemory_81 n x1 m = some o → AtK X Z rm_X7_readMemory cX7_readMemory RX7 3 0 0 (wX Z a m ps im ik asd rb rp mv) 81 [(0, .ref (a 0)), (1, .int x1)] [] := by
    intro  n
    induction n with
    | zero => intro x1 m hg; exact nomatch (show (none : Option _) = some o from hg)
    | succ n ih =>
      intro x1 m hg
      unfold g_X7_readMemory_81 at hg
      refine r_aload_n dX7_readMemory_81 0 rfl ?_
      refine gf_X7_0 (v := .ref (a 1)) 0 rfl rfl qw_586 dX7_readMemory_82 ?_
      refine r_bipush (v := 117) dX7_readMemory_85 kbp_117 ?_
      refine r_ialdL 1 rfl (j := 117) (by decide) (by decide) dX7_readMemory_87 ?_
      refine r_if_le (tgt := 122) dX7_readMemory_88 (by decide) (fun h88 => ?_) (fun h88 => ?_)
      · replace hg := (if_pos h88).symm.trans hg
        exact r_sub [0, 1] rfl (J122 x1 m hg)
      · replace hg := (if_neg h88).symm.trans hg
        refine r_aload_n dX7_readMemory_91 0 rfl ?_
        refine r_iload_n dX7_readMemory_92 1 rfl ?_
        refine r_aload_n dX7_readMemory_93 0 rfl ?_
        refine gf_X7_0 (v := .ref (a 1)) 0 rfl rfl qw_586 dX7_readMemory_94 ?_
        refine r_bipush (v := 117) dX7_readMemory_97 kbp_117 ?_
        refine r_ialdL 1 rfl (j := 117) (by decide) (by decide) dX7_readMemory_99 ?_
        refine r_iconst (v := 1) dX7_readMemory_100 kic_1 ?_
        refine r_isub dX7_readMemory_101 ?_
        obtain ⟨o102, e102, hg⟩ := ob hg
        refine r_callV (As := [.int x1, .int ((m 117) - 1)]) (rest := []) (ws' := wX Z a m ps im ik asd rb rp mv) 0 rfl rfl rfl (fun l => c_X7_isEmpty Z l a m ps im ik asd rb rp mv x1 ((m 117) - 1) o102 e102) qw_686 mv_X7_isEmpty (xPk.all rfl) ⟨Nat.le_of_ble_eq_true rfl, Nat.le_of_ble_eq_true rfl⟩ ⟨rfl, rfl⟩ ⟨Nat.zero_le _, Nat.zero_le _⟩ rfl (Nat.le_of_ble_eq_true rfl) rfl dX7_readMemory_102 ?_
        refine r_if_eq (tgt := 122) dX7_readMemory_105 (by decide) (fun h105 => ?_) (fun h105 => ?_)
        · replace hg := (if_pos h105).symm.trans hg
          exact r_sub [0, 1] rfl (J122 x1 m hg)
        · replace hg := (if_neg h105).symm.trans hg
          refine r_aload_n dX7_readMemory_108 0 rfl ?_
          refine gf_X7_0 (v := .ref (a 1)) 0 rfl rfl qw_586 dX7_readMemory_109 ?_
          refine r_bipush (v := 117) dX7_readMemory_112 kbp_117 ?_
          refine r_dup2 dX7_readMemory_114 rfl rfl ?_
          refine r_ialdL 1 rfl (j := 117) (by decide) (by decide) dX7_readMemory_115 ?_
          refine r_iconst (v := 1) dX7_readMemory_116 kic_1 ?_
          refine r_isub dX7_readMemory_117 ?_
          refine r_iast 1 rfl (j := 117) (by decide) (by decide) dX7_readMemory_118 (ws' := wX Z a (upd m 117 ((m 117) - 1)) ps im ik asd rb rp mv) rfl ?_
          refine r_goto (tgt := 81) dX7_readMemory_119 (by decide) ?_
          exact r_sub [0, 1] rfl (ih x1 (upd m 117 ((m 117) - 1)) hg)
  unfold g_X7_readMemory at hg
  show AtK X Z rm_X7_readMemory cX7_readMemory RX7 3 0 0 (wX Z a m ps im ik asd rb rp mv) 0 [(0, .ref (a 0))] []
  refine r_aload_n dX7_readMemory_0 0 rfl ?_
  obtain ⟨o1, e1, hg⟩ := ob hg
  refine r_callV (As := []) (rest := []) (ws' := wX Z a m ps im ik asd rb rp mv) 0 rfl rfl rfl (fun l => c_X7_newest Z l a m ps im ik asd rb rp mv  o1 e1) qw_747 mv_X7_newest (xPk.all rfl) ⟨Nat.le_of_ble_eq_true rfl, Nat.le_of_ble_eq_true rfl⟩ ⟨rfl, rfl⟩ ⟨Nat.zero_le _, Nat.zero_le _⟩ rfl (Nat.le_of_ble_eq_true rfl) rfl dX7_readMemory_1 ?_
  refine r_istore_n (lv' := [(1, .int o1), (0, .ref (a 0))]) dX7_readMemory_4 (by decide) rfl ?_
  refine r_aload_n dX7_readMemory_5 1 rfl ?_
  refine gf_X7_0 (v := .ref (a 1)) 0 rfl rfl qw_586 dX7_readMemory_6 ?_
  refine r_bipush (v := 115) dX7_readMemory_9 kbp_115 ?_
  refine r_iconst (v := 1) dX7_readMemory_11 kic_1 ?_
  refine r_iast 1 rfl (j := 115) (by decide) (by decide) dX7_readMemory_12 (ws' := wX Z a (upd m 115 1) ps im ik asd rb rp mv) rfl ?_
  refine r_aload_n dX7_readMemory_13 1 rfl ?_
  refine gf_X7_0 (v := .ref (a 1)) 0 rfl rfl qw_586 dX7_readMemory_14 ?_
  refine r_bipush (v := 116) dX7_readMemory_17 kbp_116 ?_
  refine r_iload_n dX7_readMemory_19 0 rfl ?_
  refine r_iast 1 rfl (j := 116) (by decide) (by decide) dX7_readMemory_20 (ws' := wX Z a (upd (upd m 115 1) 116 o1) ps im ik asd rb rp mv) rfl ?_
  refine r_aload_n dX7_readMemory_21 1 rfl ?_
  refine gf_X7_0 (v := .ref (a 1)) 0 rfl rfl qw_586 dX7_readMemory_22 ?_
  refine r_bipush (v := 119) dX7_readMemory_25 kbp_119 ?_
  refine r_aload_n dX7_readMemory_27 1 rfl ?_
  refine r_iload_n dX7_readMemory_28 0 rfl ?_
  refine r_iconst (v := 1) dX7_readMemory_29 kic_1 ?_
  obtain ⟨o30, e30, hg⟩ := ob hg
  refine r_callV (As := [.int o1, .int 1]) (rest := [.int 119, .ref (a 1)]) (ws' := wX Z a (upd (upd m 115 1) 116 o1) ps im ik asd rb rp mv) 0 rfl rfl rfl (fun l => c_X7_at Z l a (upd (upd m 115 1) 116 o1) ps im ik asd rb rp mv o1 1 o30 e30) qw_652 mv_X7_at (xPk.all rfl) ⟨Nat.le_of_ble_eq_true rfl, Nat.le_of_ble_eq_true rfl⟩ ⟨rfl, rfl⟩ ⟨Nat.zero_le _, Nat.zero_le _⟩ rfl (Nat.le_of_ble_eq_true rfl) rfl dX7_readMemory_30 ?_
  refine r_iast 1 rfl (j := 119) (by decide) (by decide) dX7_readMemory_33 (ws' := wX Z a (upd (upd (upd m 115 1) 116 o1) 119 o30) ps im ik asd rb rp mv) rfl ?_
  refine r_aload_n dX7_readMemory_34 1 rfl ?_
  refine gf_X7_0 (v := .ref (a 1)) 0 rfl rfl qw_586 dX7_readMemory_35 ?_
  refine r_bipush (v := 120) dX7_readMemory_38 kbp_120 ?_
  refine r_aload_n dX7_readMemory_40 1 rfl ?_
  refine r_iload_n dX7_readMemory_41 0 rfl ?_
  refine r_iconst (v := 2) dX7_readMemory_42 kic_2 ?_
  obtain ⟨o43, e43, hg⟩ := ob hg
  refine r_callV (As := [.int o1, .int 2]) (rest := [.int 120, .ref (a 1)]) (ws' := wX Z a (upd (upd (upd m 115 1) 116 o1) 119 o30) ps im ik asd rb rp mv) 0 rfl rfl rfl (fun l => c_X7_at Z l a (upd (upd (upd m 115 1) 116 o1) 119 o30) ps im ik asd rb rp mv o1 2 o43 e43) qw_652 mv_X7_at (xPk.all rfl) ⟨Nat.le_of_ble_eq_true rfl, Nat.le_of_ble_eq_true rfl⟩ ⟨rfl, rfl⟩ ⟨Nat.zero_le _, Nat.zero_le _⟩ rfl (Nat.le_of_ble_eq_true rfl) rfl dX7_readMemory_43 ?_
  refine r_iast 1 rfl (j := 120) (by decide) (by decide) dX7_readMemory_46 (ws' := wX Z a (upd (upd (upd (upd m 115 1) 116 o1) 119 o30) 120 o43) ps im ik asd rb rp mv) rfl ?_
  refine r_aload_n dX7_readMemory_47 1 rfl ?_
  refine gf_X7_0 (v := .ref (a 1)) 0 rfl rfl qw_586 dX7_readMemory_48 ?_
  refine r_bipush (v := 121) dX7_readMemory_51 kbp_121 ?_
  refine r_aload_n dX7_readMemory_53 1 rfl ?_
  refine r_iload_n dX7_readMemory_54 0 rfl ?_
  refine r_iconst (v := 3) dX7_readMemory_55 kic_3 ?_
  obtain ⟨o56, e56, hg⟩ := ob hg
  refine r_callV (As := [.int o1, .int 3]) (rest := [.int 121, .ref (a 1)]) (ws' := wX Z a (upd (upd (upd (upd m 115 1) 116 o1) 119 o30) 120 o43) ps im ik asd rb rp mv) 0 rfl rfl rfl (fun l => c_X7_at Z l a (upd (upd (upd (upd m 115 1) 116 o1) 119 o30) 120 o43) ps im ik asd rb rp mv o1 3 o56 e56) qw_652 mv_X7_at (xPk.all rfl) ⟨Nat.le_of_ble_eq_true rfl, Nat.le_of_ble_eq_true rfl⟩ ⟨rfl, rfl⟩ ⟨Nat.zero_le _, Nat.zero_le _⟩ rfl (Nat.le_of_ble_eq_true rfl) rfl dX7_readMemory_56 ?_
  refine r_iast 1 rfl (j := 121) (by decide) (by decide) dX7_readMemory_59 (ws' := wX Z a (upd (upd (upd (upd (upd m 115 1) 116 o1) 119 o30) 120 o43) 121 o56) ps im ik asd rb rp mv) rfl ?_
  refine r_aload_n dX7_readMemory_60 1 rfl ?_
  refine gf_X7_0 (v := .ref (a 1)) 0 rfl rfl qw_586 dX7_readMemory_61 ?_
  refine r_bipush (v := 118) dX7_readMemory_64 kbp_118 ?_
  refine r_aload_n dX7_readMemory_66 1 rfl ?_
  refine r_iload_n dX7_readMemory_67 0 rfl ?_
  refine r_iconst (v := 4) dX7_readMemory_68 kic_4 ?_
  obtain ⟨o69, e69, hg⟩ := ob hg
  refine r_callV (As := [.int o1, .int 4]) (rest := [.int 118, .ref (a 1)]) (ws' := wX Z a (upd (upd (upd (upd (upd m 115 1) 116 o1) 119 o30) 120 o43) 121 o56) ps im ik asd rb rp mv) 0 rfl rfl rfl (fun l => c_X7_at Z l a (upd (upd (upd (upd (upd m 115 1) 116 o1) 119 o30) 120 o43) 121 o56) ps im ik asd rb rp mv o1 4 o69 e69) qw_652 mv_X7_at (xPk.all rfl) ⟨Nat.le_of_ble_eq_true rfl, Nat.le_of_ble_eq_true rfl⟩ ⟨rfl, rfl⟩ ⟨Nat.zero_le _, Nat.zero_le _⟩ rfl (Nat.le_of_ble_eq_true rfl) rfl dX7_readMemory_69 ?_
  refine r_iast 1 rfl (j := 118) (by decide) (by decide) dX7_readMemory_72 (ws' := wX Z a (upd (upd (upd (upd (upd (upd m 115 1) 116 o1) 119 o30) 120 o43) 121 o56) 118 o69) ps im ik asd rb rp mv) rfl ?_
  refine r_aload_n dX7_readMemory_73 1 rfl ?_
  refine gf_X7_0 (v := .ref (a 1)) 0 rfl rfl qw_586 dX7_readMemory_74 ?_
  refine r_bipush (v := 117) dX7_readMemory_77 kbp_117 ?_
  refine r_iconst (v := 4) dX7_readMemory_79 kic_4 ?_
  refine r_iast 1 rfl (j := 117) (by decide) (by decide) dX7_readMemory_80 (ws' := wX Z a (upd (upd (upd (upd (upd (upd (upd m 115 1) 116 o1) 119 o30) 120 o43) 121 o56) 118 o69) 117 4) ps im ik asd rb rp mv) rfl ?_
  exact r_sub [1, 0] rfl (J81 8 o1 (upd (upd (upd (upd (upd (upd (upd m 115 1) 116 o1) 119 o30) 120 o43) 121 o56) 118 o69) 117 4) hg)

-- TicketJournalModel.refusal(I)I
abbrev rm_X7_refusal : Room := { frames := 2, cells := 0, slots := 0, locals := 42 }
def g_X7_refusal_41 (m : Nat → Int32)   : Option (Int32) :=
  some ((-2))
def g_X7_refusal (m : Nat → Int32) (n1 : Int32) : Option (Int32) :=
  (g_X7_isSort n1).bind fun o1 => (if o1 = 0 then some ((-1)) else (if (m 115) = 0 then g_X7_refusal_41 m else (if (127 + n1) < 0 ∨ 131 ≤ (127 + n1).toNatClampNeg then none else (if ((m 119) + (m (127 + n1).toNatClampNeg)) ≤ 60000 then (g_X7_lengthOf n1).bind fun o52 => (if o52 ≤ (m 121) then some (0) else some ((-3))) else g_X7_refusal_41 m))))
set_option maxHeartbeats 4000000 in
set_option maxRecDepth 100000 in
theorem c_X7_refusal (Z : GZ) (l : Launch) (a : Nat → Nat) (m : Nat → Int32) (ps : Nat → Int32) (im : Nat → Int32) (ik : Nat → Int32) (asd : Nat → Int32) (rb : Nat → Int32) (rp : Nat → Int32) (mv : Nat → Int32) (n1 : Int32) (o : (Int32)) (hg : g_X7_refusal m n1 = some o) : Con Z l yX7_refusal cX7_refusal 2 (some .int) rm_X7_refusal [.ref (a 0), .int n1] (wX Z a m ps im ik asd rb rp mv) (some (.int o)) (wX Z a m ps im ik asd rb rp mv) := by
  refine Con.of (by decide) (Nat.le_of_ble_eq_true rfl) ?_
  intro X hE0
  have hE : ∀ z, z = o → endsX X Z (some .int) (some (.int z)) (wX Z a m ps im ik asd rb rp mv) := by
    rintro _ rfl; exact hE0
  have J41 : g_X7_refusal_41 m = some o → AtK X Z rm_X7_refusal cX7_refusal RX7 2 0 0 (wX Z a m ps im ik asd rb rp mv) 41 [] [] := by
    intro  hg
    unfold g_X7_refusal_41 at hg
    refine r_bipush (v := (-2)) dX7_refusal_41 kbp_m2 ?_
    exact r_iret (hE _ (Option.some.inj hg)) dX7_refusal_43
  unfold g_X7_refusal at hg
  show AtK X Z rm_X7_refusal cX7_refusal RX7 2 0 0 (wX Z a m ps im ik asd rb rp mv) 0 [(0, .ref (a 0)), (1, .int n1)] []
  refine r_iload_n dX7_refusal_0 1 rfl ?_
  obtain ⟨o1, e1, hg⟩ := ob hg
  refine r_callS (As := [.int n1]) (rest := []) (ws' := wX Z a m ps im ik asd rb rp mv) (fun l => c_X7_isSort Z l   n1 o1 e1) qw_626 ms_X7_isSort xPk.none ⟨Nat.le_of_ble_eq_true rfl, Nat.le_of_ble_eq_true rfl⟩ ⟨rfl, rfl⟩ ⟨Nat.zero_le _, Nat.zero_le _⟩ rfl (Nat.le_of_ble_eq_true rfl) rfl dX7_refusal_1 ?_
  refine r_if_ne (tgt := 9) dX7_refusal_4 (by decide) (fun h4 => ?_) (fun h4 => ?_)
  · replace hg := (if_neg h4).symm.trans hg
    refine r_aload_n dX7_refusal_9 0 rfl ?_
    refine gf_X7_0 (v := .ref (a 1)) 0 rfl rfl qw_586 dX7_refusal_10 ?_
    refine r_bipush (v := 115) dX7_refusal_13 kbp_115 ?_
    refine r_ialdL 1 rfl (j := 115) (by decide) (by decide) dX7_refusal_15 ?_
    refine r_if_eq (tgt := 41) dX7_refusal_16 (by decide) (fun h16 => ?_) (fun h16 => ?_)
    · replace hg := (if_pos h16).symm.trans hg
      exact r_sub [] rfl (J41 hg)
    · replace hg := (if_neg h16).symm.trans hg
      refine r_aload_n dX7_refusal_19 0 rfl ?_
      refine gf_X7_0 (v := .ref (a 1)) 0 rfl rfl qw_586 dX7_refusal_20 ?_
      refine r_bipush (v := 119) dX7_refusal_23 kbp_119 ?_
      refine r_ialdL 1 rfl (j := 119) (by decide) (by decide) dX7_refusal_25 ?_
      refine r_aload_n dX7_refusal_26 0 rfl ?_
      refine gf_X7_0 (v := .ref (a 1)) 0 rfl rfl qw_586 dX7_refusal_27 ?_
      refine r_bipush (v := 127) dX7_refusal_30 kbp_127 ?_
      refine r_iload_n dX7_refusal_32 1 rfl ?_
      refine r_iadd dX7_refusal_33 ?_
      obtain ⟨hi34, hg⟩ := og hg
      refine r_iald 1 rfl hi34 dX7_refusal_34 ?_
      refine r_iadd dX7_refusal_35 ?_
      refine r_ldc qw_632 dX7_refusal_36 ?_
      refine r_icmp_le (tgt := 44) dX7_refusal_38 (by decide) (fun h38 => ?_) (fun h38 => ?_)
      · replace hg := (if_pos h38).symm.trans hg
        refine r_aload_n dX7_refusal_44 0 rfl ?_
        refine gf_X7_0 (v := .ref (a 1)) 0 rfl rfl qw_586 dX7_refusal_45 ?_
        refine r_bipush (v := 121) dX7_refusal_48 kbp_121 ?_
        refine r_ialdL 1 rfl (j := 121) (by decide) (by decide) dX7_refusal_50 ?_
        refine r_iload_n dX7_refusal_51 1 rfl ?_
        obtain ⟨o52, e52, hg⟩ := ob hg
        refine r_callS (As := [.int n1]) (rest := [.int (m 121)]) (ws' := wX Z a m ps im ik asd rb rp mv) (fun l => c_X7_lengthOf Z l   n1 o52 e52) qw_633 ms_X7_lengthOf xPk.none ⟨Nat.le_of_ble_eq_true rfl, Nat.le_of_ble_eq_true rfl⟩ ⟨rfl, rfl⟩ ⟨Nat.zero_le _, Nat.zero_le _⟩ rfl (Nat.le_of_ble_eq_true rfl) rfl dX7_refusal_52 ?_
        refine r_icmp_ge (tgt := 63) dX7_refusal_55 (by decide) (fun h55 => ?_) (fun h55 => ?_)
        · replace hg := (if_pos h55).symm.trans hg
          refine r_iconst (v := 0) dX7_refusal_63 kic_0 ?_
          exact r_iret (hE _ (Option.some.inj hg)) dX7_refusal_64
        · replace hg := (if_neg h55).symm.trans hg
          refine r_bipush (v := (-3)) dX7_refusal_58 kbp_m3 ?_
          refine r_goto (tgt := 64) dX7_refusal_60 (by decide) ?_
          exact r_iret (hE _ (Option.some.inj hg)) dX7_refusal_64
      · replace hg := (if_neg h38).symm.trans hg
        exact r_sub [] rfl (J41 hg)
  · replace hg := (if_pos h4).symm.trans hg
    refine r_iconst (v := (-1)) dX7_refusal_7 kic_m1 ?_
    exact r_iret (hE _ (Option.some.inj hg)) dX7_refusal_8

-- TicketJournalModel.sellNow(I)I
abbrev rm_X7_sellNow : Room := { frames := 4, cells := 0, slots := 0, locals := 95 }
def g_X7_sellNow (m : Nat → Int32) (n1 : Int32) : Option (Int32 × (Nat → Int32)) :=
  (if (127 + n1) < 0 ∨ 131 ≤ (127 + n1).toNatClampNeg then none else (g_X7_lengthOf n1).bind fun o19 => (g_X7_write m 0 (m 122) ((1000 * n1) + (m (127 + n1).toNatClampNeg))).bind fun o40 => (if o40.1 = 0 then some ((-4), o40.2) else (if (o40.2 123) < o19 then (g_X7_write (upd (upd (upd (upd o40.2 119 ((o40.2 119) + (m (127 + n1).toNatClampNeg))) 120 ((o40.2 120) + 1)) 121 ((o40.2 121) - o19)) 123 0) 1 (o40.2 122) ((1000 * n1) + (m (127 + n1).toNatClampNeg))).bind fun o144 => (if o144.1 = 0 then some ((-4), o144.2) else some ((m 118), (upd (upd o144.2 119 ((o144.2 119) - (m (127 + n1).toNatClampNeg))) 120 ((o144.2 120) - 1)))) else some ((m 118), (upd (upd (upd (upd (upd o40.2 119 ((o40.2 119) + (m (127 + n1).toNatClampNeg))) 120 ((o40.2 120) + 1)) 121 ((o40.2 121) - o19)) 123 ((o40.2 123) - o19)) 124 ((o40.2 124) + 1))))))
set_option maxHeartbeats 4000000 in
set_option maxRecDepth 100000 in
theorem c_X7_sellNow (Z : GZ) (l : Launch) (a : Nat → Nat) (m : Nat → Int32) (ps : Nat → Int32) (im : Nat → Int32) (ik : Nat → Int32) (asd : Nat → Int32) (rb : Nat → Int32) (rp : Nat → Int32) (mv : Nat → Int32) (n1 : Int32) (o : (Int32 × (Nat → Int32))) (hg : g_X7_sellNow m n1 = some o) : Con Z l yX7_sellNow cX7_sellNow 5 (some .int) rm_X7_sellNow [.ref (a 0), .int n1] (wX Z a m ps im ik asd rb rp mv) (some (.int o.1)) (wX Z a o.2 ps im ik asd rb rp mv) := by
  refine Con.of (by decide) (Nat.le_of_ble_eq_true rfl) ?_
  intro X hE0
  have hE : ∀ z, z = o → endsX X Z (some .int) (some (.int z.1)) (wX Z a z.2 ps im ik asd rb rp mv) := by
    rintro _ rfl; exact hE0
  unfold g_X7_sellNow at hg
  show AtK X Z rm_X7_sellNow cX7_sellNow RX7 5 0 0 (wX Z a m ps im ik asd rb rp mv) 0 [(0, .ref (a 0)), (1, .int n1)] []
  refine r_aload_n dX7_sellNow_0 0 rfl ?_
  refine gf_X7_0 (v := .ref (a 1)) 0 rfl rfl qw_586 dX7_sellNow_1 ?_
  refine r_bipush (v := 118) dX7_sellNow_4 kbp_118 ?_
  refine r_ialdL 1 rfl (j := 118) (by decide) (by decide) dX7_sellNow_6 ?_
  refine r_istore_n (lv' := [(2, .int (m 118)), (0, .ref (a 0)), (1, .int n1)]) dX7_sellNow_7 (by decide) rfl ?_
  refine r_aload_n dX7_sellNow_8 1 rfl ?_
  refine gf_X7_0 (v := .ref (a 1)) 0 rfl rfl qw_586 dX7_sellNow_9 ?_
  refine r_bipush (v := 127) dX7_sellNow_12 kbp_127 ?_
  refine r_iload_n dX7_sellNow_14 2 rfl ?_
  refine r_iadd dX7_sellNow_15 ?_
  obtain ⟨hi16, hg⟩ := og hg
  refine r_iald 1 rfl hi16 dX7_sellNow_16 ?_
  refine r_istore_n (lv' := [(3, .int (m (127 + n1).toNatClampNeg)), (2, .int (m 118)), (0, .ref (a 0)), (1, .int n1)]) dX7_sellNow_17 (by decide) rfl ?_
  refine r_iload_n dX7_sellNow_18 3 rfl ?_
  obtain ⟨o19, e19, hg⟩ := ob hg
  refine r_callS (As := [.int n1]) (rest := []) (ws' := wX Z a m ps im ik asd rb rp mv) (fun l => c_X7_lengthOf Z l   n1 o19 e19) qw_633 ms_X7_lengthOf xPk.none ⟨Nat.le_of_ble_eq_true rfl, Nat.le_of_ble_eq_true rfl⟩ ⟨rfl, rfl⟩ ⟨Nat.zero_le _, Nat.zero_le _⟩ rfl (Nat.le_of_ble_eq_true rfl) rfl dX7_sellNow_19 ?_
  refine r_istore (lv' := [(4, .int o19), (3, .int (m (127 + n1).toNatClampNeg)), (2, .int (m 118)), (0, .ref (a 0)), (1, .int n1)]) dX7_sellNow_22 (by decide) rfl ?_
  refine r_aload_n dX7_sellNow_24 3 rfl ?_
  refine r_iconst (v := 0) dX7_sellNow_25 kic_0 ?_
  refine r_aload_n dX7_sellNow_26 3 rfl ?_
  refine gf_X7_0 (v := .ref (a 1)) 0 rfl rfl qw_586 dX7_sellNow_27 ?_
  refine r_bipush (v := 122) dX7_sellNow_30 kbp_122 ?_
  refine r_ialdL 1 rfl (j := 122) (by decide) (by decide) dX7_sellNow_32 ?_
  refine r_sipush (v := 1000) dX7_sellNow_33 ksp_1000 ?_
  refine r_iload_n dX7_sellNow_36 4 rfl ?_
  refine r_imul dX7_sellNow_37 ?_
  refine r_iload_n dX7_sellNow_38 1 rfl ?_
  refine r_iadd dX7_sellNow_39 ?_
  obtain ⟨o40, e40, hg⟩ := ob hg
  refine r_callV (As := [.int 0, .int (m 122), .int ((1000 * n1) + (m (127 + n1).toNatClampNeg))]) (rest := []) (ws' := wX Z a o40.2 ps im ik asd rb rp mv) 0 rfl rfl rfl (fun l => c_X7_write Z l a m ps im ik asd rb rp mv 0 (m 122) ((1000 * n1) + (m (127 + n1).toNatClampNeg)) o40 e40) qw_644 mv_X7_write (xPk.all rfl) ⟨Nat.le_of_ble_eq_true rfl, Nat.le_of_ble_eq_true rfl⟩ ⟨rfl, rfl⟩ ⟨Nat.zero_le _, Nat.zero_le _⟩ rfl (Nat.le_of_ble_eq_true rfl) rfl dX7_sellNow_40 ?_
  refine r_if_ne (tgt := 49) dX7_sellNow_43 (by decide) (fun h43 => ?_) (fun h43 => ?_)
  · replace hg := (if_neg h43).symm.trans hg
    refine r_aload_n dX7_sellNow_49 3 rfl ?_
    refine gf_X7_0 (v := .ref (a 1)) 0 rfl rfl qw_586 dX7_sellNow_50 ?_
    refine r_bipush (v := 119) dX7_sellNow_53 kbp_119 ?_
    refine r_dup2 dX7_sellNow_55 rfl rfl ?_
    refine r_ialdL 1 rfl (j := 119) (by decide) (by decide) dX7_sellNow_56 ?_
    refine r_iload_n dX7_sellNow_57 1 rfl ?_
    refine r_iadd dX7_sellNow_58 ?_
    refine r_iast 1 rfl (j := 119) (by decide) (by decide) dX7_sellNow_59 (ws' := wX Z a (upd o40.2 119 ((o40.2 119) + (m (127 + n1).toNatClampNeg))) ps im ik asd rb rp mv) rfl ?_
    refine r_aload_n dX7_sellNow_60 3 rfl ?_
    refine gf_X7_0 (v := .ref (a 1)) 0 rfl rfl qw_586 dX7_sellNow_61 ?_
    refine r_bipush (v := 120) dX7_sellNow_64 kbp_120 ?_
    refine r_dup2 dX7_sellNow_66 rfl rfl ?_
    refine r_ialdV (f := upd o40.2 119 ((o40.2 119) + (m (127 + n1).toNatClampNeg))) 1 rfl (j := 120) (by decide) (by decide) (v := o40.2 120) rfl dX7_sellNow_67 ?_
    refine r_iconst (v := 1) dX7_sellNow_68 kic_1 ?_
    refine r_iadd dX7_sellNow_69 ?_
    refine r_iast 1 rfl (j := 120) (by decide) (by decide) dX7_sellNow_70 (ws' := wX Z a (upd (upd o40.2 119 ((o40.2 119) + (m (127 + n1).toNatClampNeg))) 120 ((o40.2 120) + 1)) ps im ik asd rb rp mv) rfl ?_
    refine r_aload_n dX7_sellNow_71 3 rfl ?_
    refine gf_X7_0 (v := .ref (a 1)) 0 rfl rfl qw_586 dX7_sellNow_72 ?_
    refine r_bipush (v := 121) dX7_sellNow_75 kbp_121 ?_
    refine r_dup2 dX7_sellNow_77 rfl rfl ?_
    refine r_ialdV (f := upd (upd o40.2 119 ((o40.2 119) + (m (127 + n1).toNatClampNeg))) 120 ((o40.2 120) + 1)) 1 rfl (j := 121) (by decide) (by decide) (v := o40.2 121) rfl dX7_sellNow_78 ?_
    refine r_iload dX7_sellNow_79 0 rfl ?_
    refine r_isub dX7_sellNow_81 ?_
    refine r_iast 1 rfl (j := 121) (by decide) (by decide) dX7_sellNow_82 (ws' := wX Z a (upd (upd (upd o40.2 119 ((o40.2 119) + (m (127 + n1).toNatClampNeg))) 120 ((o40.2 120) + 1)) 121 ((o40.2 121) - o19)) ps im ik asd rb rp mv) rfl ?_
    refine r_aload_n dX7_sellNow_83 3 rfl ?_
    refine gf_X7_0 (v := .ref (a 1)) 0 rfl rfl qw_586 dX7_sellNow_84 ?_
    refine r_bipush (v := 123) dX7_sellNow_87 kbp_123 ?_
    refine r_ialdV (f := upd (upd (upd o40.2 119 ((o40.2 119) + (m (127 + n1).toNatClampNeg))) 120 ((o40.2 120) + 1)) 121 ((o40.2 121) - o19)) 1 rfl (j := 123) (by decide) (by decide) (v := o40.2 123) rfl dX7_sellNow_89 ?_
    refine r_iload dX7_sellNow_90 0 rfl ?_
    refine r_icmp_lt (tgt := 120) dX7_sellNow_92 (by decide) (fun h92 => ?_) (fun h92 => ?_)
    · replace hg := (if_pos h92).symm.trans hg
      refine r_aload_n dX7_sellNow_120 3 rfl ?_
      refine gf_X7_0 (v := .ref (a 1)) 0 rfl rfl qw_586 dX7_sellNow_121 ?_
      refine r_bipush (v := 123) dX7_sellNow_124 kbp_123 ?_
      refine r_iconst (v := 0) dX7_sellNow_126 kic_0 ?_
      refine r_iast 1 rfl (j := 123) (by decide) (by decide) dX7_sellNow_127 (ws' := wX Z a (upd (upd (upd (upd o40.2 119 ((o40.2 119) + (m (127 + n1).toNatClampNeg))) 120 ((o40.2 120) + 1)) 121 ((o40.2 121) - o19)) 123 0) ps im ik asd rb rp mv) rfl ?_
      refine r_aload_n dX7_sellNow_128 3 rfl ?_
      refine r_iconst (v := 1) dX7_sellNow_129 kic_1 ?_
      refine r_aload_n dX7_sellNow_130 3 rfl ?_
      refine gf_X7_0 (v := .ref (a 1)) 0 rfl rfl qw_586 dX7_sellNow_131 ?_
      refine r_bipush (v := 122) dX7_sellNow_134 kbp_122 ?_
      refine r_ialdV (f := upd (upd (upd (upd o40.2 119 ((o40.2 119) + (m (127 + n1).toNatClampNeg))) 120 ((o40.2 120) + 1)) 121 ((o40.2 121) - o19)) 123 0) 1 rfl (j := 122) (by decide) (by decide) (v := o40.2 122) rfl dX7_sellNow_136 ?_
      refine r_sipush (v := 1000) dX7_sellNow_137 ksp_1000 ?_
      refine r_iload_n dX7_sellNow_140 4 rfl ?_
      refine r_imul dX7_sellNow_141 ?_
      refine r_iload_n dX7_sellNow_142 1 rfl ?_
      refine r_iadd dX7_sellNow_143 ?_
      obtain ⟨o144, e144, hg⟩ := ob hg
      refine r_callV (As := [.int 1, .int (o40.2 122), .int ((1000 * n1) + (m (127 + n1).toNatClampNeg))]) (rest := []) (ws' := wX Z a o144.2 ps im ik asd rb rp mv) 0 rfl rfl rfl (fun l => c_X7_write Z l a (upd (upd (upd (upd o40.2 119 ((o40.2 119) + (m (127 + n1).toNatClampNeg))) 120 ((o40.2 120) + 1)) 121 ((o40.2 121) - o19)) 123 0) ps im ik asd rb rp mv 1 (o40.2 122) ((1000 * n1) + (m (127 + n1).toNatClampNeg)) o144 e144) qw_644 mv_X7_write (xPk.all rfl) ⟨Nat.le_of_ble_eq_true rfl, Nat.le_of_ble_eq_true rfl⟩ ⟨rfl, rfl⟩ ⟨Nat.zero_le _, Nat.zero_le _⟩ rfl (Nat.le_of_ble_eq_true rfl) rfl dX7_sellNow_144 ?_
      refine r_if_ne (tgt := 153) dX7_sellNow_147 (by decide) (fun h147 => ?_) (fun h147 => ?_)
      · replace hg := (if_neg h147).symm.trans hg
        refine r_aload_n dX7_sellNow_153 3 rfl ?_
        refine gf_X7_0 (v := .ref (a 1)) 0 rfl rfl qw_586 dX7_sellNow_154 ?_
        refine r_bipush (v := 119) dX7_sellNow_157 kbp_119 ?_
        refine r_dup2 dX7_sellNow_159 rfl rfl ?_
        refine r_ialdL 1 rfl (j := 119) (by decide) (by decide) dX7_sellNow_160 ?_
        refine r_iload_n dX7_sellNow_161 1 rfl ?_
        refine r_isub dX7_sellNow_162 ?_
        refine r_iast 1 rfl (j := 119) (by decide) (by decide) dX7_sellNow_163 (ws' := wX Z a (upd o144.2 119 ((o144.2 119) - (m (127 + n1).toNatClampNeg))) ps im ik asd rb rp mv) rfl ?_
        refine r_aload_n dX7_sellNow_164 3 rfl ?_
        refine gf_X7_0 (v := .ref (a 1)) 0 rfl rfl qw_586 dX7_sellNow_165 ?_
        refine r_bipush (v := 120) dX7_sellNow_168 kbp_120 ?_
        refine r_dup2 dX7_sellNow_170 rfl rfl ?_
        refine r_ialdV (f := upd o144.2 119 ((o144.2 119) - (m (127 + n1).toNatClampNeg))) 1 rfl (j := 120) (by decide) (by decide) (v := o144.2 120) rfl dX7_sellNow_171 ?_
        refine r_iconst (v := 1) dX7_sellNow_172 kic_1 ?_
        refine r_isub dX7_sellNow_173 ?_
        refine r_iast 1 rfl (j := 120) (by decide) (by decide) dX7_sellNow_174 (ws' := wX Z a (upd (upd o144.2 119 ((o144.2 119) - (m (127 + n1).toNatClampNeg))) 120 ((o144.2 120) - 1)) ps im ik asd rb rp mv) rfl ?_
        refine r_iload_n dX7_sellNow_175 2 rfl ?_
        exact r_iret (hE _ (Option.some.inj hg)) dX7_sellNow_176
      · replace hg := (if_pos h147).symm.trans hg
        refine r_bipush (v := (-4)) dX7_sellNow_150 kbp_m4 ?_
        exact r_iret (hE _ (Option.some.inj hg)) dX7_sellNow_152
    · replace hg := (if_neg h92).symm.trans hg
      refine r_aload_n dX7_sellNow_95 3 rfl ?_
      refine gf_X7_0 (v := .ref (a 1)) 0 rfl rfl qw_586 dX7_sellNow_96 ?_
      refine r_bipush (v := 123) dX7_sellNow_99 kbp_123 ?_
      refine r_dup2 dX7_sellNow_101 rfl rfl ?_
      refine r_ialdV (f := upd (upd (upd o40.2 119 ((o40.2 119) + (m (127 + n1).toNatClampNeg))) 120 ((o40.2 120) + 1)) 121 ((o40.2 121) - o19)) 1 rfl (j := 123) (by decide) (by decide) (v := o40.2 123) rfl dX7_sellNow_102 ?_
      refine r_iload dX7_sellNow_103 0 rfl ?_
      refine r_isub dX7_sellNow_105 ?_
      refine r_iast 1 rfl (j := 123) (by decide) (by decide) dX7_sellNow_106 (ws' := wX Z a (upd (upd (upd (upd o40.2 119 ((o40.2 119) + (m (127 + n1).toNatClampNeg))) 120 ((o40.2 120) + 1)) 121 ((o40.2 121) - o19)) 123 ((o40.2 123) - o19)) ps im ik asd rb rp mv) rfl ?_
      refine r_aload_n dX7_sellNow_107 3 rfl ?_
      refine gf_X7_0 (v := .ref (a 1)) 0 rfl rfl qw_586 dX7_sellNow_108 ?_
      refine r_bipush (v := 124) dX7_sellNow_111 kbp_124 ?_
      refine r_dup2 dX7_sellNow_113 rfl rfl ?_
      refine r_ialdV (f := upd (upd (upd (upd o40.2 119 ((o40.2 119) + (m (127 + n1).toNatClampNeg))) 120 ((o40.2 120) + 1)) 121 ((o40.2 121) - o19)) 123 ((o40.2 123) - o19)) 1 rfl (j := 124) (by decide) (by decide) (v := o40.2 124) rfl dX7_sellNow_114 ?_
      refine r_iconst (v := 1) dX7_sellNow_115 kic_1 ?_
      refine r_iadd dX7_sellNow_116 ?_
      refine r_iast 1 rfl (j := 124) (by decide) (by decide) dX7_sellNow_117 (ws' := wX Z a (upd (upd (upd (upd (upd o40.2 119 ((o40.2 119) + (m (127 + n1).toNatClampNeg))) 120 ((o40.2 120) + 1)) 121 ((o40.2 121) - o19)) 123 ((o40.2 123) - o19)) 124 ((o40.2 124) + 1)) ps im ik asd rb rp mv) rfl ?_
      refine r_iload_n dX7_sellNow_118 2 rfl ?_
      exact r_iret (hE _ (Option.some.inj hg)) dX7_sellNow_119
  · replace hg := (if_pos h43).symm.trans hg
    refine r_bipush (v := (-4)) dX7_sellNow_46 kbp_m4 ?_
    exact r_iret (hE _ (Option.some.inj hg)) dX7_sellNow_48

-- TicketJournalModel.sell(I)I
abbrev rm_X7_sell : Room := { frames := 5, cells := 0, slots := 0, locals := 119 }
def g_X7_sell (m : Nat → Int32) (ps : Nat → Int32) (mv : Nat → Int32) (n1 : Int32) : Option (Int32 × (Nat → Int32) × (Nat → Int32) × (Nat → Int32)) :=
  (g_X7_refusal m n1).bind fun o2 => (if o2 = 0 then (g_X7_keep m ps mv).bind fun o13 => (g_X7_sellNow m n1).bind fun o18 => some (o18.1, o18.2, o13.1, o13.2) else some (o2, m, ps, mv))
set_option maxHeartbeats 4000000 in
set_option maxRecDepth 100000 in
theorem c_X7_sell (Z : GZ) (l : Launch) (a : Nat → Nat) (m : Nat → Int32) (ps : Nat → Int32) (im : Nat → Int32) (ik : Nat → Int32) (asd : Nat → Int32) (rb : Nat → Int32) (rp : Nat → Int32) (mv : Nat → Int32) (n1 : Int32) (o : (Int32 × (Nat → Int32) × (Nat → Int32) × (Nat → Int32))) (hg : g_X7_sell m ps mv n1 = some o) : Con Z l yX7_sell cX7_sell 3 (some .int) rm_X7_sell [.ref (a 0), .int n1] (wX Z a m ps im ik asd rb rp mv) (some (.int o.1)) (wX Z a o.2.1 o.2.2.1 im ik asd rb rp o.2.2.2) := by
  refine Con.of (by decide) (Nat.le_of_ble_eq_true rfl) ?_
  intro X hE0
  have hE : ∀ z, z = o → endsX X Z (some .int) (some (.int z.1)) (wX Z a z.2.1 z.2.2.1 im ik asd rb rp z.2.2.2) := by
    rintro _ rfl; exact hE0
  unfold g_X7_sell at hg
  show AtK X Z rm_X7_sell cX7_sell RX7 3 0 0 (wX Z a m ps im ik asd rb rp mv) 0 [(0, .ref (a 0)), (1, .int n1)] []
  refine r_aload_n dX7_sell_0 0 rfl ?_
  refine r_iload_n dX7_sell_1 1 rfl ?_
  obtain ⟨o2, e2, hg⟩ := ob hg
  refine r_callV (As := [.int n1]) (rest := []) (ws' := wX Z a m ps im ik asd rb rp mv) 0 rfl rfl rfl (fun l => c_X7_refusal Z l a m ps im ik asd rb rp mv n1 o2 e2) qw_622 mv_X7_refusal (xPk.all rfl) ⟨Nat.le_of_ble_eq_true rfl, Nat.le_of_ble_eq_true rfl⟩ ⟨rfl, rfl⟩ ⟨Nat.zero_le _, Nat.zero_le _⟩ rfl (Nat.le_of_ble_eq_true rfl) rfl dX7_sell_2 ?_
  refine r_istore_n (lv' := [(2, .int o2), (0, .ref (a 0)), (1, .int n1)]) dX7_sell_5 (by decide) rfl ?_
  refine r_iload_n dX7_sell_6 0 rfl ?_
  refine r_if_eq (tgt := 12) dX7_sell_7 (by decide) (fun h7 => ?_) (fun h7 => ?_)
  · replace hg := (if_pos h7).symm.trans hg
    refine r_aload_n dX7_sell_12 1 rfl ?_
    obtain ⟨o13, e13, hg⟩ := ob hg
    refine r_callV (As := []) (rest := []) (ws' := wX Z a m o13.1 im ik asd rb rp o13.2) 0 rfl rfl rfl (fun l => c_X7_keep Z l a m ps im ik asd rb rp mv  o13 e13) qw_636 mv_X7_keep (xPk.all rfl) ⟨Nat.le_of_ble_eq_true rfl, Nat.le_of_ble_eq_true rfl⟩ ⟨rfl, rfl⟩ ⟨Nat.zero_le _, Nat.zero_le _⟩ rfl (Nat.le_of_ble_eq_true rfl) rfl dX7_sell_13 ?_
    refine r_aload_n dX7_sell_16 1 rfl ?_
    refine r_iload_n dX7_sell_17 2 rfl ?_
    obtain ⟨o18, e18, hg⟩ := ob hg
    refine r_callV (As := [.int n1]) (rest := []) (ws' := wX Z a o18.2 o13.1 im ik asd rb rp o13.2) 0 rfl rfl rfl (fun l => c_X7_sellNow Z l a m o13.1 im ik asd rb rp o13.2 n1 o18 e18) qw_640 mv_X7_sellNow (xPk.all rfl) ⟨Nat.le_of_ble_eq_true rfl, Nat.le_of_ble_eq_true rfl⟩ ⟨rfl, rfl⟩ ⟨Nat.zero_le _, Nat.zero_le _⟩ rfl (Nat.le_of_ble_eq_true rfl) rfl dX7_sell_18 ?_
    exact r_iret (hE _ (Option.some.inj hg)) dX7_sell_21
  · replace hg := (if_neg h7).symm.trans hg
    refine r_iload_n dX7_sell_10 0 rfl ?_
    exact r_iret (hE _ (Option.some.inj hg)) dX7_sell_11

-- TicketJournalModel.cancel()I
abbrev rm_X7_cancel : Room := { frames := 4, cells := 0, slots := 0, locals := 95 }
def g_X7_cancel_55   (m : Nat → Int32) (ps : Nat → Int32) (mv : Nat → Int32) : Option (Int32 × (Nat → Int32) × (Nat → Int32) × (Nat → Int32)) :=
  some ((-2), m, ps, mv)
def g_X7_cancel (m : Nat → Int32) (ps : Nat → Int32) (mv : Nat → Int32)  : Option (Int32 × (Nat → Int32) × (Nat → Int32) × (Nat → Int32)) :=
  (if (m 115) = 0 then g_X7_cancel_55 m ps mv else (if ((m 117) - 1) < 0 then g_X7_cancel_55 m ps mv else (g_X7_isRecord m (m 116) ((m 117) - 1)).bind fun o35 => (if o35 = 0 then g_X7_cancel_55 m ps mv else (g_X7_inPlace m (m 116) ((m 117) - 1) 0).bind fun o45 => (if (o45 / 10000) = 0 then (g_X7_keep m ps mv).bind fun o59 => (g_X7_inPlace m (m 116) ((m 117) - 1) 2).bind fun o66 => (g_X7_write m 1 (m 122) o66).bind fun o80 => (if o80.1 = 0 then some ((-4), o80.2, o59.1, o59.2) else some ((jrem o66 1000), (upd (upd o80.2 119 ((o80.2 119) - (jrem o66 1000))) 120 ((o80.2 120) - 1)), o59.1, o59.2)) else g_X7_cancel_55 m ps mv))))
set_option maxHeartbeats 4000000 in
set_option maxRecDepth 100000 in
theorem c_X7_cancel (Z : GZ) (l : Launch) (a : Nat → Nat) (m : Nat → Int32) (ps : Nat → Int32) (im : Nat → Int32) (ik : Nat → Int32) (asd : Nat → Int32) (rb : Nat → Int32) (rp : Nat → Int32) (mv : Nat → Int32)  (o : (Int32 × (Nat → Int32) × (Nat → Int32) × (Nat → Int32))) (hg : g_X7_cancel m ps mv = some o) : Con Z l yX7_cancel cX7_cancel 4 (some .int) rm_X7_cancel [.ref (a 0)] (wX Z a m ps im ik asd rb rp mv) (some (.int o.1)) (wX Z a o.2.1 o.2.2.1 im ik asd rb rp o.2.2.2) := by
  refine Con.of (by decide) (Nat.le_of_ble_eq_true rfl) ?_
  intro X hE0
  have hE : ∀ z, z = o → endsX X Z (some .int) (some (.int z.1)) (wX Z a z.2.1 z.2.2.1 im ik asd rb rp z.2.2.2) := by
    rintro _ rfl; exact hE0
  have J55 : ∀ (m : Nat → Int32) (ps : Nat → Int32) (mv : Nat → Int32), g_X7_cancel_55 m ps mv = some o → AtK X Z rm_X7_cancel cX7_cancel RX7 4 0 0 (wX Z a m ps im ik asd rb rp mv) 55 [] [] := by
    intro m ps mv hg
    unfold g_X7_cancel_55 at hg
    refine r_bipush (v := (-2)) dX7_cancel_55 kbp_m2 ?_
    exact r_iret (hE _ (Option.some.inj hg)) dX7_cancel_57
  unfold g_X7_cancel at hg
  show AtK X Z rm_X7_cancel cX7_cancel RX7 4 0 0 (wX Z a m ps im ik asd rb rp mv) 0 [(0, .ref (a 0))] []
  refine r_aload_n dX7_cancel_0 0 rfl ?_
  refine gf_X7_0 (v := .ref (a 1)) 0 rfl rfl qw_586 dX7_cancel_1 ?_
  refine r_bipush (v := 116) dX7_cancel_4 kbp_116 ?_
  refine r_ialdL 1 rfl (j := 116) (by decide) (by decide) dX7_cancel_6 ?_
  refine r_istore_n (lv' := [(1, .int (m 116)), (0, .ref (a 0))]) dX7_cancel_7 (by decide) rfl ?_
  refine r_aload_n dX7_cancel_8 1 rfl ?_
  refine gf_X7_0 (v := .ref (a 1)) 0 rfl rfl qw_586 dX7_cancel_9 ?_
  refine r_bipush (v := 117) dX7_cancel_12 kbp_117 ?_
  refine r_ialdL 1 rfl (j := 117) (by decide) (by decide) dX7_cancel_14 ?_
  refine r_iconst (v := 1) dX7_cancel_15 kic_1 ?_
  refine r_isub dX7_cancel_16 ?_
  refine r_istore_n (lv' := [(2, .int ((m 117) - 1)), (1, .int (m 116)), (0, .ref (a 0))]) dX7_cancel_17 (by decide) rfl ?_
  refine r_aload_n dX7_cancel_18 2 rfl ?_
  refine gf_X7_0 (v := .ref (a 1)) 0 rfl rfl qw_586 dX7_cancel_19 ?_
  refine r_bipush (v := 115) dX7_cancel_22 kbp_115 ?_
  refine r_ialdL 1 rfl (j := 115) (by decide) (by decide) dX7_cancel_24 ?_
  refine r_if_eq (tgt := 55) dX7_cancel_25 (by decide) (fun h25 => ?_) (fun h25 => ?_)
  · replace hg := (if_pos h25).symm.trans hg
    exact r_sub [] rfl (J55 m ps mv hg)
  · replace hg := (if_neg h25).symm.trans hg
    refine r_iload_n dX7_cancel_28 0 rfl ?_
    refine r_if_lt (tgt := 55) dX7_cancel_29 (by decide) (fun h29 => ?_) (fun h29 => ?_)
    · replace hg := (if_pos h29).symm.trans hg
      exact r_sub [] rfl (J55 m ps mv hg)
    · replace hg := (if_neg h29).symm.trans hg
      refine r_aload_n dX7_cancel_32 2 rfl ?_
      refine r_iload_n dX7_cancel_33 1 rfl ?_
      refine r_iload_n dX7_cancel_34 0 rfl ?_
      obtain ⟨o35, e35, hg⟩ := ob hg
      refine r_callV (As := [.int (m 116), .int ((m 117) - 1)]) (rest := []) (ws' := wX Z a m ps im ik asd rb rp mv) 0 rfl rfl rfl (fun l => c_X7_isRecord Z l a m ps im ik asd rb rp mv (m 116) ((m 117) - 1) o35 e35) qw_682 mv_X7_isRecord (xPk.all rfl) ⟨Nat.le_of_ble_eq_true rfl, Nat.le_of_ble_eq_true rfl⟩ ⟨rfl, rfl⟩ ⟨Nat.zero_le _, Nat.zero_le _⟩ rfl (Nat.le_of_ble_eq_true rfl) rfl dX7_cancel_35 ?_
      refine r_if_eq (tgt := 55) dX7_cancel_38 (by decide) (fun h38 => ?_) (fun h38 => ?_)
      · replace hg := (if_pos h38).symm.trans hg
        exact r_sub [] rfl (J55 m ps mv hg)
      · replace hg := (if_neg h38).symm.trans hg
        refine r_aload_n dX7_cancel_41 2 rfl ?_
        refine r_iload_n dX7_cancel_42 1 rfl ?_
        refine r_iload_n dX7_cancel_43 0 rfl ?_
        refine r_iconst (v := 0) dX7_cancel_44 kic_0 ?_
        obtain ⟨o45, e45, hg⟩ := ob hg
        refine r_callV (As := [.int (m 116), .int ((m 117) - 1), .int 0]) (rest := []) (ws' := wX Z a m ps im ik asd rb rp mv) 0 rfl rfl rfl (fun l => c_X7_inPlace Z l a m ps im ik asd rb rp mv (m 116) ((m 117) - 1) 0 o45 e45) qw_690 mv_X7_inPlace (xPk.all rfl) ⟨Nat.le_of_ble_eq_true rfl, Nat.le_of_ble_eq_true rfl⟩ ⟨rfl, rfl⟩ ⟨Nat.zero_le _, Nat.zero_le _⟩ rfl (Nat.le_of_ble_eq_true rfl) rfl dX7_cancel_45 ?_
        refine r_sipush (v := 10000) dX7_cancel_48 ksp_10000 ?_
        refine r_idiv dX7_cancel_51 (by decide) ?_
        refine r_if_eq (tgt := 58) dX7_cancel_52 (by decide) (fun h52 => ?_) (fun h52 => ?_)
        · replace hg := (if_pos h52).symm.trans hg
          refine r_aload_n dX7_cancel_58 2 rfl ?_
          obtain ⟨o59, e59, hg⟩ := ob hg
          refine r_callV (As := []) (rest := []) (ws' := wX Z a m o59.1 im ik asd rb rp o59.2) 0 rfl rfl rfl (fun l => c_X7_keep Z l a m ps im ik asd rb rp mv  o59 e59) qw_636 mv_X7_keep (xPk.all rfl) ⟨Nat.le_of_ble_eq_true rfl, Nat.le_of_ble_eq_true rfl⟩ ⟨rfl, rfl⟩ ⟨Nat.zero_le _, Nat.zero_le _⟩ rfl (Nat.le_of_ble_eq_true rfl) rfl dX7_cancel_59 ?_
          refine r_aload_n dX7_cancel_62 2 rfl ?_
          refine r_iload_n dX7_cancel_63 1 rfl ?_
          refine r_iload_n dX7_cancel_64 0 rfl ?_
          refine r_iconst (v := 2) dX7_cancel_65 kic_2 ?_
          obtain ⟨o66, e66, hg⟩ := ob hg
          refine r_callV (As := [.int (m 116), .int ((m 117) - 1), .int 2]) (rest := []) (ws' := wX Z a m o59.1 im ik asd rb rp o59.2) 0 rfl rfl rfl (fun l => c_X7_inPlace Z l a m o59.1 im ik asd rb rp o59.2 (m 116) ((m 117) - 1) 2 o66 e66) qw_690 mv_X7_inPlace (xPk.all rfl) ⟨Nat.le_of_ble_eq_true rfl, Nat.le_of_ble_eq_true rfl⟩ ⟨rfl, rfl⟩ ⟨Nat.zero_le _, Nat.zero_le _⟩ rfl (Nat.le_of_ble_eq_true rfl) rfl dX7_cancel_66 ?_
          refine r_istore_n (lv' := [(3, .int o66), (2, .int ((m 117) - 1)), (1, .int (m 116)), (0, .ref (a 0))]) dX7_cancel_69 (by decide) rfl ?_
          refine r_aload_n dX7_cancel_70 3 rfl ?_
          refine r_iconst (v := 1) dX7_cancel_71 kic_1 ?_
          refine r_aload_n dX7_cancel_72 3 rfl ?_
          refine gf_X7_0 (v := .ref (a 1)) 0 rfl rfl qw_586 dX7_cancel_73 ?_
          refine r_bipush (v := 122) dX7_cancel_76 kbp_122 ?_
          refine r_ialdL 1 rfl (j := 122) (by decide) (by decide) dX7_cancel_78 ?_
          refine r_iload_n dX7_cancel_79 0 rfl ?_
          obtain ⟨o80, e80, hg⟩ := ob hg
          refine r_callV (As := [.int 1, .int (m 122), .int o66]) (rest := []) (ws' := wX Z a o80.2 o59.1 im ik asd rb rp o59.2) 0 rfl rfl rfl (fun l => c_X7_write Z l a m o59.1 im ik asd rb rp o59.2 1 (m 122) o66 o80 e80) qw_644 mv_X7_write (xPk.all rfl) ⟨Nat.le_of_ble_eq_true rfl, Nat.le_of_ble_eq_true rfl⟩ ⟨rfl, rfl⟩ ⟨Nat.zero_le _, Nat.zero_le _⟩ rfl (Nat.le_of_ble_eq_true rfl) rfl dX7_cancel_80 ?_
          refine r_if_ne (tgt := 89) dX7_cancel_83 (by decide) (fun h83 => ?_) (fun h83 => ?_)
          · replace hg := (if_neg h83).symm.trans hg
            refine r_aload_n dX7_cancel_89 3 rfl ?_
            refine gf_X7_0 (v := .ref (a 1)) 0 rfl rfl qw_586 dX7_cancel_90 ?_
            refine r_bipush (v := 119) dX7_cancel_93 kbp_119 ?_
            refine r_dup2 dX7_cancel_95 rfl rfl ?_
            refine r_ialdL 1 rfl (j := 119) (by decide) (by decide) dX7_cancel_96 ?_
            refine r_iload_n dX7_cancel_97 0 rfl ?_
            refine r_sipush (v := 1000) dX7_cancel_98 ksp_1000 ?_
            refine r_irem dX7_cancel_101 (by decide) ?_
            refine r_isub dX7_cancel_102 ?_
            refine r_iast 1 rfl (j := 119) (by decide) (by decide) dX7_cancel_103 (ws' := wX Z a (upd o80.2 119 ((o80.2 119) - (jrem o66 1000))) o59.1 im ik asd rb rp o59.2) rfl ?_
            refine r_aload_n dX7_cancel_104 3 rfl ?_
            refine gf_X7_0 (v := .ref (a 1)) 0 rfl rfl qw_586 dX7_cancel_105 ?_
            refine r_bipush (v := 120) dX7_cancel_108 kbp_120 ?_
            refine r_dup2 dX7_cancel_110 rfl rfl ?_
            refine r_ialdV (f := upd o80.2 119 ((o80.2 119) - (jrem o66 1000))) 1 rfl (j := 120) (by decide) (by decide) (v := o80.2 120) rfl dX7_cancel_111 ?_
            refine r_iconst (v := 1) dX7_cancel_112 kic_1 ?_
            refine r_isub dX7_cancel_113 ?_
            refine r_iast 1 rfl (j := 120) (by decide) (by decide) dX7_cancel_114 (ws' := wX Z a (upd (upd o80.2 119 ((o80.2 119) - (jrem o66 1000))) 120 ((o80.2 120) - 1)) o59.1 im ik asd rb rp o59.2) rfl ?_
            refine r_iload_n dX7_cancel_115 0 rfl ?_
            refine r_sipush (v := 1000) dX7_cancel_116 ksp_1000 ?_
            refine r_irem dX7_cancel_119 (by decide) ?_
            exact r_iret (hE _ (Option.some.inj hg)) dX7_cancel_120
          · replace hg := (if_pos h83).symm.trans hg
            refine r_bipush (v := (-4)) dX7_cancel_86 kbp_m4 ?_
            exact r_iret (hE _ (Option.some.inj hg)) dX7_cancel_88
        · replace hg := (if_neg h52).symm.trans hg
          exact r_sub [] rfl (J55 m ps mv hg)

-- TicketJournalModel.close()I
abbrev rm_X7_close : Room := { frames := 4, cells := 0, slots := 0, locals := 95 }
def g_X7_close (m : Nat → Int32) (ps : Nat → Int32) (mv : Nat → Int32)  : Option (Int32 × (Nat → Int32) × (Nat → Int32) × (Nat → Int32)) :=
  (if (m 115) = 0 then some ((-2), m, ps, mv) else (g_X7_keep m ps mv).bind fun o14 => (g_X7_write m 3 (m 122) (m 119)).bind fun o35 => (if o35.1 = 0 then some ((-4), o35.2, o14.1, o14.2) else some ((m 119), (upd (upd o35.2 119 0) 120 0), o14.1, o14.2)))
set_option maxHeartbeats 4000000 in
set_option maxRecDepth 100000 in
theorem c_X7_close (Z : GZ) (l : Launch) (a : Nat → Nat) (m : Nat → Int32) (ps : Nat → Int32) (im : Nat → Int32) (ik : Nat → Int32) (asd : Nat → Int32) (rb : Nat → Int32) (rp : Nat → Int32) (mv : Nat → Int32)  (o : (Int32 × (Nat → Int32) × (Nat → Int32) × (Nat → Int32))) (hg : g_X7_close m ps mv = some o) : Con Z l yX7_close cX7_close 2 (some .int) rm_X7_close [.ref (a 0)] (wX Z a m ps im ik asd rb rp mv) (some (.int o.1)) (wX Z a o.2.1 o.2.2.1 im ik asd rb rp o.2.2.2) := by
  refine Con.of (by decide) (Nat.le_of_ble_eq_true rfl) ?_
  intro X hE0
  have hE : ∀ z, z = o → endsX X Z (some .int) (some (.int z.1)) (wX Z a z.2.1 z.2.2.1 im ik asd rb rp z.2.2.2) := by
    rintro _ rfl; exact hE0
  unfold g_X7_close at hg
  show AtK X Z rm_X7_close cX7_close RX7 2 0 0 (wX Z a m ps im ik asd rb rp mv) 0 [(0, .ref (a 0))] []
  refine r_aload_n dX7_close_0 0 rfl ?_
  refine gf_X7_0 (v := .ref (a 1)) 0 rfl rfl qw_586 dX7_close_1 ?_
  refine r_bipush (v := 115) dX7_close_4 kbp_115 ?_
  refine r_ialdL 1 rfl (j := 115) (by decide) (by decide) dX7_close_6 ?_
  refine r_if_ne (tgt := 13) dX7_close_7 (by decide) (fun h7 => ?_) (fun h7 => ?_)
  · replace hg := (if_neg h7).symm.trans hg
    refine r_aload_n dX7_close_13 0 rfl ?_
    obtain ⟨o14, e14, hg⟩ := ob hg
    refine r_callV (As := []) (rest := []) (ws' := wX Z a m o14.1 im ik asd rb rp o14.2) 0 rfl rfl rfl (fun l => c_X7_keep Z l a m ps im ik asd rb rp mv  o14 e14) qw_636 mv_X7_keep (xPk.all rfl) ⟨Nat.le_of_ble_eq_true rfl, Nat.le_of_ble_eq_true rfl⟩ ⟨rfl, rfl⟩ ⟨Nat.zero_le _, Nat.zero_le _⟩ rfl (Nat.le_of_ble_eq_true rfl) rfl dX7_close_14 ?_
    refine r_aload_n dX7_close_17 0 rfl ?_
    refine gf_X7_0 (v := .ref (a 1)) 0 rfl rfl qw_586 dX7_close_18 ?_
    refine r_bipush (v := 119) dX7_close_21 kbp_119 ?_
    refine r_ialdL 1 rfl (j := 119) (by decide) (by decide) dX7_close_23 ?_
    refine r_istore_n (lv' := [(1, .int (m 119)), (0, .ref (a 0))]) dX7_close_24 (by decide) rfl ?_
    refine r_aload_n dX7_close_25 1 rfl ?_
    refine r_iconst (v := 3) dX7_close_26 kic_3 ?_
    refine r_aload_n dX7_close_27 1 rfl ?_
    refine gf_X7_0 (v := .ref (a 1)) 0 rfl rfl qw_586 dX7_close_28 ?_
    refine r_bipush (v := 122) dX7_close_31 kbp_122 ?_
    refine r_ialdL 1 rfl (j := 122) (by decide) (by decide) dX7_close_33 ?_
    refine r_iload_n dX7_close_34 0 rfl ?_
    obtain ⟨o35, e35, hg⟩ := ob hg
    refine r_callV (As := [.int 3, .int (m 122), .int (m 119)]) (rest := []) (ws' := wX Z a o35.2 o14.1 im ik asd rb rp o14.2) 0 rfl rfl rfl (fun l => c_X7_write Z l a m o14.1 im ik asd rb rp o14.2 3 (m 122) (m 119) o35 e35) qw_644 mv_X7_write (xPk.all rfl) ⟨Nat.le_of_ble_eq_true rfl, Nat.le_of_ble_eq_true rfl⟩ ⟨rfl, rfl⟩ ⟨Nat.zero_le _, Nat.zero_le _⟩ rfl (Nat.le_of_ble_eq_true rfl) rfl dX7_close_35 ?_
    refine r_if_ne (tgt := 44) dX7_close_38 (by decide) (fun h38 => ?_) (fun h38 => ?_)
    · replace hg := (if_neg h38).symm.trans hg
      refine r_aload_n dX7_close_44 1 rfl ?_
      refine gf_X7_0 (v := .ref (a 1)) 0 rfl rfl qw_586 dX7_close_45 ?_
      refine r_bipush (v := 119) dX7_close_48 kbp_119 ?_
      refine r_iconst (v := 0) dX7_close_50 kic_0 ?_
      refine r_iast 1 rfl (j := 119) (by decide) (by decide) dX7_close_51 (ws' := wX Z a (upd o35.2 119 0) o14.1 im ik asd rb rp o14.2) rfl ?_
      refine r_aload_n dX7_close_52 1 rfl ?_
      refine gf_X7_0 (v := .ref (a 1)) 0 rfl rfl qw_586 dX7_close_53 ?_
      refine r_bipush (v := 120) dX7_close_56 kbp_120 ?_
      refine r_iconst (v := 0) dX7_close_58 kic_0 ?_
      refine r_iast 1 rfl (j := 120) (by decide) (by decide) dX7_close_59 (ws' := wX Z a (upd (upd o35.2 119 0) 120 0) o14.1 im ik asd rb rp o14.2) rfl ?_
      refine r_iload_n dX7_close_60 0 rfl ?_
      exact r_iret (hE _ (Option.some.inj hg)) dX7_close_61
    · replace hg := (if_pos h38).symm.trans hg
      refine r_bipush (v := (-4)) dX7_close_41 kbp_m4 ?_
      exact r_iret (hE _ (Option.some.inj hg)) dX7_close_43
  · replace hg := (if_pos h7).symm.trans hg
    refine r_bipush (v := (-2)) dX7_close_10 kbp_m2 ?_
    exact r_iret (hE _ (Option.some.inj hg)) dX7_close_12

-- TicketJournalModel.load(II)I
abbrev rm_X7_load : Room := { frames := 4, cells := 0, slots := 0, locals := 95 }
def g_X7_load_20   (m : Nat → Int32) (ps : Nat → Int32) (mv : Nat → Int32) : Option (Int32 × (Nat → Int32) × (Nat → Int32) × (Nat → Int32)) :=
  some ((-1), m, ps, mv)
def g_X7_load (m : Nat → Int32) (ps : Nat → Int32) (mv : Nat → Int32) (n1 : Int32) (n2 : Int32) : Option (Int32 × (Nat → Int32) × (Nat → Int32) × (Nat → Int32)) :=
  (g_X7_isIn n1 0 50000).bind fun o4 => (if o4 = 0 then g_X7_load_20 m ps mv else (g_X7_isIn n2 0 50000).bind fun o14 => (if o14 = 0 then g_X7_load_20 m ps mv else (if (m 115) = 0 then some ((-2), m, ps, mv) else (g_X7_keep m ps mv).bind fun o36 => (g_X7_write (upd m 123 n2) 4 (m 122) n1).bind fun o65 => (if o65.1 = 0 then some ((-4), o65.2, o36.1, o36.2) else some ((m 123), (upd o65.2 121 n1), o36.1, o36.2)))))
set_option maxHeartbeats 4000000 in
set_option maxRecDepth 100000 in
theorem c_X7_load (Z : GZ) (l : Launch) (a : Nat → Nat) (m : Nat → Int32) (ps : Nat → Int32) (im : Nat → Int32) (ik : Nat → Int32) (asd : Nat → Int32) (rb : Nat → Int32) (rp : Nat → Int32) (mv : Nat → Int32) (n1 : Int32) (n2 : Int32) (o : (Int32 × (Nat → Int32) × (Nat → Int32) × (Nat → Int32))) (hg : g_X7_load m ps mv n1 n2 = some o) : Con Z l yX7_load cX7_load 4 (some .int) rm_X7_load [.ref (a 0), .int n1, .int n2] (wX Z a m ps im ik asd rb rp mv) (some (.int o.1)) (wX Z a o.2.1 o.2.2.1 im ik asd rb rp o.2.2.2) := by
  refine Con.of (by decide) (Nat.le_of_ble_eq_true rfl) ?_
  intro X hE0
  have hE : ∀ z, z = o → endsX X Z (some .int) (some (.int z.1)) (wX Z a z.2.1 z.2.2.1 im ik asd rb rp z.2.2.2) := by
    rintro _ rfl; exact hE0
  have J20 : ∀ (m : Nat → Int32) (ps : Nat → Int32) (mv : Nat → Int32), g_X7_load_20 m ps mv = some o → AtK X Z rm_X7_load cX7_load RX7 4 0 0 (wX Z a m ps im ik asd rb rp mv) 20 [] [] := by
    intro m ps mv hg
    unfold g_X7_load_20 at hg
    refine r_iconst (v := (-1)) dX7_load_20 kic_m1 ?_
    exact r_iret (hE _ (Option.some.inj hg)) dX7_load_21
  unfold g_X7_load at hg
  show AtK X Z rm_X7_load cX7_load RX7 4 0 0 (wX Z a m ps im ik asd rb rp mv) 0 [(0, .ref (a 0)), (1, .int n1), (2, .int n2)] []
  refine r_iload_n dX7_load_0 1 rfl ?_
  refine r_iconst (v := 0) dX7_load_1 kic_0 ?_
  refine r_ldc qw_702 dX7_load_2 ?_
  obtain ⟨o4, e4, hg⟩ := ob hg
  refine r_callS (As := [.int n1, .int 0, .int 50000]) (rest := []) (ws' := wX Z a m ps im ik asd rb rp mv) (fun l => c_X7_isIn Z l   n1 0 50000 o4 e4) qw_629 ms_X7_isIn xPk.none ⟨Nat.le_of_ble_eq_true rfl, Nat.le_of_ble_eq_true rfl⟩ ⟨rfl, rfl⟩ ⟨Nat.zero_le _, Nat.zero_le _⟩ rfl (Nat.le_of_ble_eq_true rfl) rfl dX7_load_4 ?_
  refine r_if_eq (tgt := 20) dX7_load_7 (by decide) (fun h7 => ?_) (fun h7 => ?_)
  · replace hg := (if_pos h7).symm.trans hg
    exact r_sub [] rfl (J20 m ps mv hg)
  · replace hg := (if_neg h7).symm.trans hg
    refine r_iload_n dX7_load_10 2 rfl ?_
    refine r_iconst (v := 0) dX7_load_11 kic_0 ?_
    refine r_ldc qw_702 dX7_load_12 ?_
    obtain ⟨o14, e14, hg⟩ := ob hg
    refine r_callS (As := [.int n2, .int 0, .int 50000]) (rest := []) (ws' := wX Z a m ps im ik asd rb rp mv) (fun l => c_X7_isIn Z l   n2 0 50000 o14 e14) qw_629 ms_X7_isIn xPk.none ⟨Nat.le_of_ble_eq_true rfl, Nat.le_of_ble_eq_true rfl⟩ ⟨rfl, rfl⟩ ⟨Nat.zero_le _, Nat.zero_le _⟩ rfl (Nat.le_of_ble_eq_true rfl) rfl dX7_load_14 ?_
    refine r_if_ne (tgt := 22) dX7_load_17 (by decide) (fun h17 => ?_) (fun h17 => ?_)
    · replace hg := (if_neg h17).symm.trans hg
      refine r_aload_n dX7_load_22 0 rfl ?_
      refine gf_X7_0 (v := .ref (a 1)) 0 rfl rfl qw_586 dX7_load_23 ?_
      refine r_bipush (v := 115) dX7_load_26 kbp_115 ?_
      refine r_ialdL 1 rfl (j := 115) (by decide) (by decide) dX7_load_28 ?_
      refine r_if_ne (tgt := 35) dX7_load_29 (by decide) (fun h29 => ?_) (fun h29 => ?_)
      · replace hg := (if_neg h29).symm.trans hg
        refine r_aload_n dX7_load_35 0 rfl ?_
        obtain ⟨o36, e36, hg⟩ := ob hg
        refine r_callV (As := []) (rest := []) (ws' := wX Z a m o36.1 im ik asd rb rp o36.2) 0 rfl rfl rfl (fun l => c_X7_keep Z l a m ps im ik asd rb rp mv  o36 e36) qw_636 mv_X7_keep (xPk.all rfl) ⟨Nat.le_of_ble_eq_true rfl, Nat.le_of_ble_eq_true rfl⟩ ⟨rfl, rfl⟩ ⟨Nat.zero_le _, Nat.zero_le _⟩ rfl (Nat.le_of_ble_eq_true rfl) rfl dX7_load_36 ?_
        refine r_aload_n dX7_load_39 0 rfl ?_
        refine gf_X7_0 (v := .ref (a 1)) 0 rfl rfl qw_586 dX7_load_40 ?_
        refine r_bipush (v := 123) dX7_load_43 kbp_123 ?_
        refine r_ialdL 1 rfl (j := 123) (by decide) (by decide) dX7_load_45 ?_
        refine r_istore_n (lv' := [(3, .int (m 123)), (0, .ref (a 0)), (1, .int n1), (2, .int n2)]) dX7_load_46 (by decide) rfl ?_
        refine r_aload_n dX7_load_47 1 rfl ?_
        refine gf_X7_0 (v := .ref (a 1)) 0 rfl rfl qw_586 dX7_load_48 ?_
        refine r_bipush (v := 123) dX7_load_51 kbp_123 ?_
        refine r_iload_n dX7_load_53 3 rfl ?_
        refine r_iast 1 rfl (j := 123) (by decide) (by decide) dX7_load_54 (ws' := wX Z a (upd m 123 n2) o36.1 im ik asd rb rp o36.2) rfl ?_
        refine r_aload_n dX7_load_55 1 rfl ?_
        refine r_iconst (v := 4) dX7_load_56 kic_4 ?_
        refine r_aload_n dX7_load_57 1 rfl ?_
        refine gf_X7_0 (v := .ref (a 1)) 0 rfl rfl qw_586 dX7_load_58 ?_
        refine r_bipush (v := 122) dX7_load_61 kbp_122 ?_
        refine r_ialdV (f := upd m 123 n2) 1 rfl (j := 122) (by decide) (by decide) (v := m 122) rfl dX7_load_63 ?_
        refine r_iload_n dX7_load_64 2 rfl ?_
        obtain ⟨o65, e65, hg⟩ := ob hg
        refine r_callV (As := [.int 4, .int (m 122), .int n1]) (rest := []) (ws' := wX Z a o65.2 o36.1 im ik asd rb rp o36.2) 0 rfl rfl rfl (fun l => c_X7_write Z l a (upd m 123 n2) o36.1 im ik asd rb rp o36.2 4 (m 122) n1 o65 e65) qw_644 mv_X7_write (xPk.all rfl) ⟨Nat.le_of_ble_eq_true rfl, Nat.le_of_ble_eq_true rfl⟩ ⟨rfl, rfl⟩ ⟨Nat.zero_le _, Nat.zero_le _⟩ rfl (Nat.le_of_ble_eq_true rfl) rfl dX7_load_65 ?_
        refine r_if_ne (tgt := 74) dX7_load_68 (by decide) (fun h68 => ?_) (fun h68 => ?_)
        · replace hg := (if_neg h68).symm.trans hg
          refine r_aload_n dX7_load_74 1 rfl ?_
          refine gf_X7_0 (v := .ref (a 1)) 0 rfl rfl qw_586 dX7_load_75 ?_
          refine r_bipush (v := 121) dX7_load_78 kbp_121 ?_
          refine r_iload_n dX7_load_80 2 rfl ?_
          refine r_iast 1 rfl (j := 121) (by decide) (by decide) dX7_load_81 (ws' := wX Z a (upd o65.2 121 n1) o36.1 im ik asd rb rp o36.2) rfl ?_
          refine r_iload_n dX7_load_82 0 rfl ?_
          exact r_iret (hE _ (Option.some.inj hg)) dX7_load_83
        · replace hg := (if_pos h68).symm.trans hg
          refine r_bipush (v := (-4)) dX7_load_71 kbp_m4 ?_
          exact r_iret (hE _ (Option.some.inj hg)) dX7_load_73
      · replace hg := (if_pos h29).symm.trans hg
        refine r_bipush (v := (-2)) dX7_load_32 kbp_m2 ?_
        exact r_iret (hE _ (Option.some.inj hg)) dX7_load_34
    · replace hg := (if_pos h17).symm.trans hg
      exact r_sub [] rfl (J20 m ps mv hg)

-- TicketJournalModel.setClock(I)I
abbrev rm_X7_setClock : Room := { frames := 4, cells := 0, slots := 0, locals := 95 }
def g_X7_setClock_84   (x1 : Int32) (x2 : Int32) (m : Nat → Int32) (ps : Nat → Int32) (mv : Nat → Int32) : Option (Int32 × (Nat → Int32) × (Nat → Int32) × (Nat → Int32)) :=
  (if x2 = 0 then some (0, (upd m 122 x1), ps, mv) else some (1, (upd m 122 x1), ps, mv))
def g_X7_setClock_60   (x1 : Int32) (t0 : Int32) (m : Nat → Int32) (ps : Nat → Int32) (mv : Nat → Int32) : Option (Int32 × (Nat → Int32) × (Nat → Int32) × (Nat → Int32)) :=
  (if t0 = 0 then g_X7_setClock_84 x1 t0 m ps mv else (g_X7_write m 2 x1 (m 122)).bind fun o75 => (if o75.1 = 0 then some ((-4), o75.2, ps, mv) else g_X7_setClock_84 x1 t0 o75.2 ps mv))
def g_X7_setClock_55   (x1 : Int32) (m : Nat → Int32) (ps : Nat → Int32) (mv : Nat → Int32) : Option (Int32 × (Nat → Int32) × (Nat → Int32) × (Nat → Int32)) :=
  g_X7_setClock_60 x1 1 m ps mv
def g_X7_setClock (m : Nat → Int32) (ps : Nat → Int32) (mv : Nat → Int32) (n1 : Int32) : Option (Int32 × (Nat → Int32) × (Nat → Int32) × (Nat → Int32)) :=
  (g_X7_isIn n1 0 60000).bind fun o4 => (if o4 = 0 then some ((-1), m, ps, mv) else (if (m 115) = 0 then some ((-2), m, ps, mv) else (g_X7_keep m ps mv).bind fun o26 => (if 5 ≤ (n1 - (m 122)) then g_X7_setClock_55 n1 m o26.1 o26.2 else (if ((m 122) - n1) < 5 then g_X7_setClock_60 n1 0 m o26.1 o26.2 else g_X7_setClock_55 n1 m o26.1 o26.2))))
set_option maxHeartbeats 4000000 in
set_option maxRecDepth 100000 in
theorem c_X7_setClock (Z : GZ) (l : Launch) (a : Nat → Nat) (m : Nat → Int32) (ps : Nat → Int32) (im : Nat → Int32) (ik : Nat → Int32) (asd : Nat → Int32) (rb : Nat → Int32) (rp : Nat → Int32) (mv : Nat → Int32) (n1 : Int32) (o : (Int32 × (Nat → Int32) × (Nat → Int32) × (Nat → Int32))) (hg : g_X7_setClock m ps mv n1 = some o) : Con Z l yX7_setClock cX7_setClock 3 (some .int) rm_X7_setClock [.ref (a 0), .int n1] (wX Z a m ps im ik asd rb rp mv) (some (.int o.1)) (wX Z a o.2.1 o.2.2.1 im ik asd rb rp o.2.2.2) := by
  refine Con.of (by decide) (Nat.le_of_ble_eq_true rfl) ?_
  intro X hE0
  have hE : ∀ z, z = o → endsX X Z (some .int) (some (.int z.1)) (wX Z a z.2.1 z.2.2.1 im ik asd rb rp z.2.2.2) := by
    rintro _ rfl; exact hE0
  have J84 : ∀ (x1 : Int32) (x2 : Int32) (m : Nat → Int32) (ps : Nat → Int32) (mv : Nat → Int32), g_X7_setClock_84 x1 x2 m ps mv = some o → AtK X Z rm_X7_setClock cX7_setClock RX7 3 0 0 (wX Z a m ps im ik asd rb rp mv) 84 [(0, .ref (a 0)), (1, .int x1), (2, .int x2)] [] := by
    intro x1 x2 m ps mv hg
    unfold g_X7_setClock_84 at hg
    refine r_aload_n dX7_setClock_84 0 rfl ?_
    refine gf_X7_0 (v := .ref (a 1)) 0 rfl rfl qw_586 dX7_setClock_85 ?_
    refine r_bipush (v := 122) dX7_setClock_88 kbp_122 ?_
    refine r_iload_n dX7_setClock_90 1 rfl ?_
    refine r_iast 1 rfl (j := 122) (by decide) (by decide) dX7_setClock_91 (ws' := wX Z a (upd m 122 x1) ps im ik asd rb rp mv) rfl ?_
    refine r_iload_n dX7_setClock_92 2 rfl ?_
    refine r_if_eq (tgt := 100) dX7_setClock_93 (by decide) (fun h93 => ?_) (fun h93 => ?_)
    · replace hg := (if_pos h93).symm.trans hg
      refine r_iconst (v := 0) dX7_setClock_100 kic_0 ?_
      exact r_iret (hE _ (Option.some.inj hg)) dX7_setClock_101
    · replace hg := (if_neg h93).symm.trans hg
      refine r_iconst (v := 1) dX7_setClock_96 kic_1 ?_
      refine r_goto (tgt := 101) dX7_setClock_97 (by decide) ?_
      exact r_iret (hE _ (Option.some.inj hg)) dX7_setClock_101
  have J60 : ∀ (x1 : Int32) (t0 : Int32) (m : Nat → Int32) (ps : Nat → Int32) (mv : Nat → Int32), g_X7_setClock_60 x1 t0 m ps mv = some o → AtK X Z rm_X7_setClock cX7_setClock RX7 3 0 0 (wX Z a m ps im ik asd rb rp mv) 60 [(0, .ref (a 0)), (1, .int x1)] [.int t0] := by
    intro x1 t0 m ps mv hg
    unfold g_X7_setClock_60 at hg
    refine r_istore_n (lv' := [(2, .int t0), (0, .ref (a 0)), (1, .int x1)]) dX7_setClock_60 (by decide) rfl ?_
    refine r_iload_n dX7_setClock_61 0 rfl ?_
    refine r_if_eq (tgt := 84) dX7_setClock_62 (by decide) (fun h62 => ?_) (fun h62 => ?_)
    · replace hg := (if_pos h62).symm.trans hg
      exact r_sub [1, 2, 0] rfl (J84 x1 t0 m ps mv hg)
    · replace hg := (if_neg h62).symm.trans hg
      refine r_aload_n dX7_setClock_65 1 rfl ?_
      refine r_iconst (v := 2) dX7_setClock_66 kic_2 ?_
      refine r_iload_n dX7_setClock_67 2 rfl ?_
      refine r_aload_n dX7_setClock_68 1 rfl ?_
      refine gf_X7_0 (v := .ref (a 1)) 0 rfl rfl qw_586 dX7_setClock_69 ?_
      refine r_bipush (v := 122) dX7_setClock_72 kbp_122 ?_
      refine r_ialdL 1 rfl (j := 122) (by decide) (by decide) dX7_setClock_74 ?_
      obtain ⟨o75, e75, hg⟩ := ob hg
      refine r_callV (As := [.int 2, .int x1, .int (m 122)]) (rest := []) (ws' := wX Z a o75.2 ps im ik asd rb rp mv) 0 rfl rfl rfl (fun l => c_X7_write Z l a m ps im ik asd rb rp mv 2 x1 (m 122) o75 e75) qw_644 mv_X7_write (xPk.all rfl) ⟨Nat.le_of_ble_eq_true rfl, Nat.le_of_ble_eq_true rfl⟩ ⟨rfl, rfl⟩ ⟨Nat.zero_le _, Nat.zero_le _⟩ rfl (Nat.le_of_ble_eq_true rfl) rfl dX7_setClock_75 ?_
      refine r_if_ne (tgt := 84) dX7_setClock_78 (by decide) (fun h78 => ?_) (fun h78 => ?_)
      · replace hg := (if_neg h78).symm.trans hg
        exact r_sub [1, 2, 0] rfl (J84 x1 t0 o75.2 ps mv hg)
      · replace hg := (if_pos h78).symm.trans hg
        refine r_bipush (v := (-4)) dX7_setClock_81 kbp_m4 ?_
        exact r_iret (hE _ (Option.some.inj hg)) dX7_setClock_83
  have J55 : ∀ (x1 : Int32) (m : Nat → Int32) (ps : Nat → Int32) (mv : Nat → Int32), g_X7_setClock_55 x1 m ps mv = some o → AtK X Z rm_X7_setClock cX7_setClock RX7 3 0 0 (wX Z a m ps im ik asd rb rp mv) 55 [(0, .ref (a 0)), (1, .int x1)] [] := by
    intro x1 m ps mv hg
    unfold g_X7_setClock_55 at hg
    refine r_iconst (v := 1) dX7_setClock_55 kic_1 ?_
    refine r_goto (tgt := 60) dX7_setClock_56 (by decide) ?_
    exact r_sub [0, 1] rfl (J60 x1 1 m ps mv hg)
  unfold g_X7_setClock at hg
  show AtK X Z rm_X7_setClock cX7_setClock RX7 3 0 0 (wX Z a m ps im ik asd rb rp mv) 0 [(0, .ref (a 0)), (1, .int n1)] []
  refine r_iload_n dX7_setClock_0 1 rfl ?_
  refine r_iconst (v := 0) dX7_setClock_1 kic_0 ?_
  refine r_ldc qw_632 dX7_setClock_2 ?_
  obtain ⟨o4, e4, hg⟩ := ob hg
  refine r_callS (As := [.int n1, .int 0, .int 60000]) (rest := []) (ws' := wX Z a m ps im ik asd rb rp mv) (fun l => c_X7_isIn Z l   n1 0 60000 o4 e4) qw_629 ms_X7_isIn xPk.none ⟨Nat.le_of_ble_eq_true rfl, Nat.le_of_ble_eq_true rfl⟩ ⟨rfl, rfl⟩ ⟨Nat.zero_le _, Nat.zero_le _⟩ rfl (Nat.le_of_ble_eq_true rfl) rfl dX7_setClock_4 ?_
  refine r_if_ne (tgt := 12) dX7_setClock_7 (by decide) (fun h7 => ?_) (fun h7 => ?_)
  · replace hg := (if_neg h7).symm.trans hg
    refine r_aload_n dX7_setClock_12 0 rfl ?_
    refine gf_X7_0 (v := .ref (a 1)) 0 rfl rfl qw_586 dX7_setClock_13 ?_
    refine r_bipush (v := 115) dX7_setClock_16 kbp_115 ?_
    refine r_ialdL 1 rfl (j := 115) (by decide) (by decide) dX7_setClock_18 ?_
    refine r_if_ne (tgt := 25) dX7_setClock_19 (by decide) (fun h19 => ?_) (fun h19 => ?_)
    · replace hg := (if_neg h19).symm.trans hg
      refine r_aload_n dX7_setClock_25 0 rfl ?_
      obtain ⟨o26, e26, hg⟩ := ob hg
      refine r_callV (As := []) (rest := []) (ws' := wX Z a m o26.1 im ik asd rb rp o26.2) 0 rfl rfl rfl (fun l => c_X7_keep Z l a m ps im ik asd rb rp mv  o26 e26) qw_636 mv_X7_keep (xPk.all rfl) ⟨Nat.le_of_ble_eq_true rfl, Nat.le_of_ble_eq_true rfl⟩ ⟨rfl, rfl⟩ ⟨Nat.zero_le _, Nat.zero_le _⟩ rfl (Nat.le_of_ble_eq_true rfl) rfl dX7_setClock_26 ?_
      refine r_iload_n dX7_setClock_29 1 rfl ?_
      refine r_aload_n dX7_setClock_30 0 rfl ?_
      refine gf_X7_0 (v := .ref (a 1)) 0 rfl rfl qw_586 dX7_setClock_31 ?_
      refine r_bipush (v := 122) dX7_setClock_34 kbp_122 ?_
      refine r_ialdL 1 rfl (j := 122) (by decide) (by decide) dX7_setClock_36 ?_
      refine r_isub dX7_setClock_37 ?_
      refine r_iconst (v := 5) dX7_setClock_38 kic_5 ?_
      refine r_icmp_ge (tgt := 55) dX7_setClock_39 (by decide) (fun h39 => ?_) (fun h39 => ?_)
      · replace hg := (if_pos h39).symm.trans hg
        exact r_sub [0, 1] rfl (J55 n1 m o26.1 o26.2 hg)
      · replace hg := (if_neg h39).symm.trans hg
        refine r_aload_n dX7_setClock_42 0 rfl ?_
        refine gf_X7_0 (v := .ref (a 1)) 0 rfl rfl qw_586 dX7_setClock_43 ?_
        refine r_bipush (v := 122) dX7_setClock_46 kbp_122 ?_
        refine r_ialdL 1 rfl (j := 122) (by decide) (by decide) dX7_setClock_48 ?_
        refine r_iload_n dX7_setClock_49 1 rfl ?_
        refine r_isub dX7_setClock_50 ?_
        refine r_iconst (v := 5) dX7_setClock_51 kic_5 ?_
        refine r_icmp_lt (tgt := 59) dX7_setClock_52 (by decide) (fun h52 => ?_) (fun h52 => ?_)
        · replace hg := (if_pos h52).symm.trans hg
          refine r_iconst (v := 0) dX7_setClock_59 kic_0 ?_
          exact r_sub [0, 1] rfl (J60 n1 0 m o26.1 o26.2 hg)
        · replace hg := (if_neg h52).symm.trans hg
          exact r_sub [0, 1] rfl (J55 n1 m o26.1 o26.2 hg)
    · replace hg := (if_pos h19).symm.trans hg
      refine r_bipush (v := (-2)) dX7_setClock_22 kbp_m2 ?_
      exact r_iret (hE _ (Option.some.inj hg)) dX7_setClock_24
  · replace hg := (if_pos h7).symm.trans hg
    refine r_iconst (v := (-1)) dX7_setClock_10 kic_m1 ?_
    exact r_iret (hE _ (Option.some.inj hg)) dX7_setClock_11

-- TicketJournalModel.pass(I)I
abbrev rm_X7_pass : Room := { frames := 1, cells := 0, slots := 0, locals := 22 }
def g_X7_pass_51   (t1 : Int32) (t2 : Int32) (m : Nat → Int32) (ps : Nat → Int32) (mv : Nat → Int32) : Option (Int32 × (Nat → Int32) × (Nat → Int32) × (Nat → Int32)) :=
  (if t1 < 0 ∨ 131 ≤ t1.toNatClampNeg then none else some (((upd m t1.toNatClampNeg t2) 122), (upd m t1.toNatClampNeg t2), ps, mv))
def g_X7_pass (m : Nat → Int32) (ps : Nat → Int32) (mv : Nat → Int32) (n1 : Int32) : Option (Int32 × (Nat → Int32) × (Nat → Int32) × (Nat → Int32)) :=
  (g_X7_isIn n1 1 5000).bind fun o5 => (if o5 = 0 then some ((-1), m, ps, mv) else (g_X7_keep m ps mv).bind fun o14 => (if ((m 122) + n1) ≤ 60000 then g_X7_pass_51 122 ((m 122) + n1) m o14.1 o14.2 else g_X7_pass_51 122 60000 m o14.1 o14.2))
set_option maxHeartbeats 4000000 in
set_option maxRecDepth 100000 in
theorem c_X7_pass (Z : GZ) (l : Launch) (a : Nat → Nat) (m : Nat → Int32) (ps : Nat → Int32) (im : Nat → Int32) (ik : Nat → Int32) (asd : Nat → Int32) (rb : Nat → Int32) (rp : Nat → Int32) (mv : Nat → Int32) (n1 : Int32) (o : (Int32 × (Nat → Int32) × (Nat → Int32) × (Nat → Int32))) (hg : g_X7_pass m ps mv n1 = some o) : Con Z l yX7_pass cX7_pass 2 (some .int) rm_X7_pass [.ref (a 0), .int n1] (wX Z a m ps im ik asd rb rp mv) (some (.int o.1)) (wX Z a o.2.1 o.2.2.1 im ik asd rb rp o.2.2.2) := by
  refine Con.of (by decide) (Nat.le_of_ble_eq_true rfl) ?_
  intro X hE0
  have hE : ∀ z, z = o → endsX X Z (some .int) (some (.int z.1)) (wX Z a z.2.1 z.2.2.1 im ik asd rb rp z.2.2.2) := by
    rintro _ rfl; exact hE0
  have J51 : ∀ (t1 : Int32) (t2 : Int32) (m : Nat → Int32) (ps : Nat → Int32) (mv : Nat → Int32), g_X7_pass_51 t1 t2 m ps mv = some o → AtK X Z rm_X7_pass cX7_pass RX7 2 0 0 (wX Z a m ps im ik asd rb rp mv) 51 [(0, .ref (a 0))] [.int t2, .int t1, .ref (a 1)] := by
    intro t1 t2 m ps mv hg
    unfold g_X7_pass_51 at hg
    obtain ⟨hi51, hg⟩ := og hg
    refine r_iast 1 rfl rfl hi51 dX7_pass_51 (ws' := wX Z a (upd m t1.toNatClampNeg t2) ps im ik asd rb rp mv) rfl ?_
    refine r_aload_n dX7_pass_52 0 rfl ?_
    refine gf_X7_0 (v := .ref (a 1)) 0 rfl rfl qw_586 dX7_pass_53 ?_
    refine r_bipush (v := 122) dX7_pass_56 kbp_122 ?_
    refine r_ialdV (f := upd m t1.toNatClampNeg t2) 1 rfl (j := 122) (by decide) (by decide) (v := (upd m t1.toNatClampNeg t2) 122) rfl dX7_pass_58 ?_
    exact r_iret (hE _ (Option.some.inj hg)) dX7_pass_59
  unfold g_X7_pass at hg
  show AtK X Z rm_X7_pass cX7_pass RX7 2 0 0 (wX Z a m ps im ik asd rb rp mv) 0 [(0, .ref (a 0)), (1, .int n1)] []
  refine r_iload_n dX7_pass_0 1 rfl ?_
  refine r_iconst (v := 1) dX7_pass_1 kic_1 ?_
  refine r_sipush (v := 5000) dX7_pass_2 ksp_5000 ?_
  obtain ⟨o5, e5, hg⟩ := ob hg
  refine r_callS (As := [.int n1, .int 1, .int 5000]) (rest := []) (ws' := wX Z a m ps im ik asd rb rp mv) (fun l => c_X7_isIn Z l   n1 1 5000 o5 e5) qw_629 ms_X7_isIn xPk.none ⟨Nat.le_of_ble_eq_true rfl, Nat.le_of_ble_eq_true rfl⟩ ⟨rfl, rfl⟩ ⟨Nat.zero_le _, Nat.zero_le _⟩ rfl (Nat.le_of_ble_eq_true rfl) rfl dX7_pass_5 ?_
  refine r_if_ne (tgt := 13) dX7_pass_8 (by decide) (fun h8 => ?_) (fun h8 => ?_)
  · replace hg := (if_neg h8).symm.trans hg
    refine r_aload_n dX7_pass_13 0 rfl ?_
    obtain ⟨o14, e14, hg⟩ := ob hg
    refine r_callV (As := []) (rest := []) (ws' := wX Z a m o14.1 im ik asd rb rp o14.2) 0 rfl rfl rfl (fun l => c_X7_keep Z l a m ps im ik asd rb rp mv  o14 e14) qw_636 mv_X7_keep (xPk.all rfl) ⟨Nat.le_of_ble_eq_true rfl, Nat.le_of_ble_eq_true rfl⟩ ⟨rfl, rfl⟩ ⟨Nat.zero_le _, Nat.zero_le _⟩ rfl (Nat.le_of_ble_eq_true rfl) rfl dX7_pass_14 ?_
    refine r_aload_n dX7_pass_17 0 rfl ?_
    refine gf_X7_0 (v := .ref (a 1)) 0 rfl rfl qw_586 dX7_pass_18 ?_
    refine r_bipush (v := 122) dX7_pass_21 kbp_122 ?_
    refine r_aload_n dX7_pass_23 0 rfl ?_
    refine gf_X7_0 (v := .ref (a 1)) 0 rfl rfl qw_586 dX7_pass_24 ?_
    refine r_bipush (v := 122) dX7_pass_27 kbp_122 ?_
    refine r_ialdL 1 rfl (j := 122) (by decide) (by decide) dX7_pass_29 ?_
    refine r_iload_n dX7_pass_30 1 rfl ?_
    refine r_iadd dX7_pass_31 ?_
    refine r_ldc qw_632 dX7_pass_32 ?_
    refine r_icmp_le (tgt := 42) dX7_pass_34 (by decide) (fun h34 => ?_) (fun h34 => ?_)
    · replace hg := (if_pos h34).symm.trans hg
      refine r_aload_n dX7_pass_42 0 rfl ?_
      refine gf_X7_0 (v := .ref (a 1)) 0 rfl rfl qw_586 dX7_pass_43 ?_
      refine r_bipush (v := 122) dX7_pass_46 kbp_122 ?_
      refine r_ialdL 1 rfl (j := 122) (by decide) (by decide) dX7_pass_48 ?_
      refine r_iload_n dX7_pass_49 1 rfl ?_
      refine r_iadd dX7_pass_50 ?_
      exact r_sub [0] rfl (J51 122 ((m 122) + n1) m o14.1 o14.2 hg)
    · replace hg := (if_neg h34).symm.trans hg
      refine r_ldc qw_632 dX7_pass_37 ?_
      refine r_goto (tgt := 51) dX7_pass_39 (by decide) ?_
      exact r_sub [0] rfl (J51 122 60000 m o14.1 o14.2 hg)
  · replace hg := (if_pos h8).symm.trans hg
    refine r_iconst (v := (-1)) dX7_pass_11 kic_m1 ?_
    exact r_iret (hE _ (Option.some.inj hg)) dX7_pass_12

-- TicketJournalModel.setPrice(II)I
abbrev rm_X7_setPrice : Room := { frames := 2, cells := 0, slots := 0, locals := 42 }
def g_X7_setPrice_18   (m : Nat → Int32) (ps : Nat → Int32) (mv : Nat → Int32) : Option (Int32 × (Nat → Int32) × (Nat → Int32) × (Nat → Int32)) :=
  some ((-1), m, ps, mv)
def g_X7_setPrice (m : Nat → Int32) (ps : Nat → Int32) (mv : Nat → Int32) (n1 : Int32) (n2 : Int32) : Option (Int32 × (Nat → Int32) × (Nat → Int32) × (Nat → Int32)) :=
  (g_X7_isSort n1).bind fun o1 => (if o1 = 0 then g_X7_setPrice_18 m ps mv else (g_X7_isIn n2 1 999).bind fun o12 => (if o12 = 0 then g_X7_setPrice_18 m ps mv else (g_X7_keep m ps mv).bind fun o21 => (if (127 + n1) < 0 ∨ 131 ≤ (127 + n1).toNatClampNeg then none else (if (127 + n1) < 0 ∨ 131 ≤ (127 + n1).toNatClampNeg then none else some ((m (127 + n1).toNatClampNeg), (upd m ((127 + n1).toNatClampNeg) n2), o21.1, o21.2)))))
set_option maxHeartbeats 4000000 in
set_option maxRecDepth 100000 in
theorem c_X7_setPrice (Z : GZ) (l : Launch) (a : Nat → Nat) (m : Nat → Int32) (ps : Nat → Int32) (im : Nat → Int32) (ik : Nat → Int32) (asd : Nat → Int32) (rb : Nat → Int32) (rp : Nat → Int32) (mv : Nat → Int32) (n1 : Int32) (n2 : Int32) (o : (Int32 × (Nat → Int32) × (Nat → Int32) × (Nat → Int32))) (hg : g_X7_setPrice m ps mv n1 n2 = some o) : Con Z l yX7_setPrice cX7_setPrice 4 (some .int) rm_X7_setPrice [.ref (a 0), .int n1, .int n2] (wX Z a m ps im ik asd rb rp mv) (some (.int o.1)) (wX Z a o.2.1 o.2.2.1 im ik asd rb rp o.2.2.2) := by
  refine Con.of (by decide) (Nat.le_of_ble_eq_true rfl) ?_
  intro X hE0
  have hE : ∀ z, z = o → endsX X Z (some .int) (some (.int z.1)) (wX Z a z.2.1 z.2.2.1 im ik asd rb rp z.2.2.2) := by
    rintro _ rfl; exact hE0
  have J18 : ∀ (m : Nat → Int32) (ps : Nat → Int32) (mv : Nat → Int32), g_X7_setPrice_18 m ps mv = some o → AtK X Z rm_X7_setPrice cX7_setPrice RX7 4 0 0 (wX Z a m ps im ik asd rb rp mv) 18 [] [] := by
    intro m ps mv hg
    unfold g_X7_setPrice_18 at hg
    refine r_iconst (v := (-1)) dX7_setPrice_18 kic_m1 ?_
    exact r_iret (hE _ (Option.some.inj hg)) dX7_setPrice_19
  unfold g_X7_setPrice at hg
  show AtK X Z rm_X7_setPrice cX7_setPrice RX7 4 0 0 (wX Z a m ps im ik asd rb rp mv) 0 [(0, .ref (a 0)), (1, .int n1), (2, .int n2)] []
  refine r_iload_n dX7_setPrice_0 1 rfl ?_
  obtain ⟨o1, e1, hg⟩ := ob hg
  refine r_callS (As := [.int n1]) (rest := []) (ws' := wX Z a m ps im ik asd rb rp mv) (fun l => c_X7_isSort Z l   n1 o1 e1) qw_626 ms_X7_isSort xPk.none ⟨Nat.le_of_ble_eq_true rfl, Nat.le_of_ble_eq_true rfl⟩ ⟨rfl, rfl⟩ ⟨Nat.zero_le _, Nat.zero_le _⟩ rfl (Nat.le_of_ble_eq_true rfl) rfl dX7_setPrice_1 ?_
  refine r_if_eq (tgt := 18) dX7_setPrice_4 (by decide) (fun h4 => ?_) (fun h4 => ?_)
  · replace hg := (if_pos h4).symm.trans hg
    exact r_sub [] rfl (J18 m ps mv hg)
  · replace hg := (if_neg h4).symm.trans hg
    refine r_iload_n dX7_setPrice_7 2 rfl ?_
    refine r_iconst (v := 1) dX7_setPrice_8 kic_1 ?_
    refine r_sipush (v := 999) dX7_setPrice_9 ksp_999 ?_
    obtain ⟨o12, e12, hg⟩ := ob hg
    refine r_callS (As := [.int n2, .int 1, .int 999]) (rest := []) (ws' := wX Z a m ps im ik asd rb rp mv) (fun l => c_X7_isIn Z l   n2 1 999 o12 e12) qw_629 ms_X7_isIn xPk.none ⟨Nat.le_of_ble_eq_true rfl, Nat.le_of_ble_eq_true rfl⟩ ⟨rfl, rfl⟩ ⟨Nat.zero_le _, Nat.zero_le _⟩ rfl (Nat.le_of_ble_eq_true rfl) rfl dX7_setPrice_12 ?_
    refine r_if_ne (tgt := 20) dX7_setPrice_15 (by decide) (fun h15 => ?_) (fun h15 => ?_)
    · replace hg := (if_neg h15).symm.trans hg
      refine r_aload_n dX7_setPrice_20 0 rfl ?_
      obtain ⟨o21, e21, hg⟩ := ob hg
      refine r_callV (As := []) (rest := []) (ws' := wX Z a m o21.1 im ik asd rb rp o21.2) 0 rfl rfl rfl (fun l => c_X7_keep Z l a m ps im ik asd rb rp mv  o21 e21) qw_636 mv_X7_keep (xPk.all rfl) ⟨Nat.le_of_ble_eq_true rfl, Nat.le_of_ble_eq_true rfl⟩ ⟨rfl, rfl⟩ ⟨Nat.zero_le _, Nat.zero_le _⟩ rfl (Nat.le_of_ble_eq_true rfl) rfl dX7_setPrice_21 ?_
      refine r_aload_n dX7_setPrice_24 0 rfl ?_
      refine gf_X7_0 (v := .ref (a 1)) 0 rfl rfl qw_586 dX7_setPrice_25 ?_
      refine r_bipush (v := 127) dX7_setPrice_28 kbp_127 ?_
      refine r_iload_n dX7_setPrice_30 1 rfl ?_
      refine r_iadd dX7_setPrice_31 ?_
      obtain ⟨hi32, hg⟩ := og hg
      refine r_iald 1 rfl hi32 dX7_setPrice_32 ?_
      refine r_istore_n (lv' := [(3, .int (m (127 + n1).toNatClampNeg)), (0, .ref (a 0)), (1, .int n1), (2, .int n2)]) dX7_setPrice_33 (by decide) rfl ?_
      refine r_aload_n dX7_setPrice_34 1 rfl ?_
      refine gf_X7_0 (v := .ref (a 1)) 0 rfl rfl qw_586 dX7_setPrice_35 ?_
      refine r_bipush (v := 127) dX7_setPrice_38 kbp_127 ?_
      refine r_iload_n dX7_setPrice_40 2 rfl ?_
      refine r_iadd dX7_setPrice_41 ?_
      refine r_iload_n dX7_setPrice_42 3 rfl ?_
      obtain ⟨hi43, hg⟩ := og hg
      refine r_iast 1 rfl rfl hi43 dX7_setPrice_43 (ws' := wX Z a (upd m ((127 + n1).toNatClampNeg) n2) o21.1 im ik asd rb rp o21.2) rfl ?_
      refine r_iload_n dX7_setPrice_44 0 rfl ?_
      exact r_iret (hE _ (Option.some.inj hg)) dX7_setPrice_45
    · replace hg := (if_pos h15).symm.trans hg
      exact r_sub [] rfl (J18 m ps mv hg)

-- TicketJournalModel.cut(I)I
abbrev rm_X7_cut : Room := { frames := 1, cells := 0, slots := 0, locals := 22 }
def g_X7_cut_40   (x2 : Int32) (t1 : Int32) (t2 : Int32) (m : Nat → Int32) (ps : Nat → Int32) (mv : Nat → Int32) : Option (Int32 × (Nat → Int32) × (Nat → Int32) × (Nat → Int32)) :=
  (if t1 < 0 ∨ 131 ≤ t1.toNatClampNeg then none else some (x2, (upd m t1.toNatClampNeg t2), ps, mv))
def g_X7_cut (m : Nat → Int32) (ps : Nat → Int32) (mv : Nat → Int32) (n1 : Int32) : Option (Int32 × (Nat → Int32) × (Nat → Int32) × (Nat → Int32)) :=
  (g_X7_isIn n1 (-1) 100).bind fun o4 => (if o4 = 0 then some ((-1), m, ps, mv) else (g_X7_keep m ps mv).bind fun o13 => (if 0 ≤ n1 then g_X7_cut_40 (m 126) 126 n1 m o13.1 o13.2 else g_X7_cut_40 (m 126) 126 (-9) m o13.1 o13.2))
set_option maxHeartbeats 4000000 in
set_option maxRecDepth 100000 in
theorem c_X7_cut (Z : GZ) (l : Launch) (a : Nat → Nat) (m : Nat → Int32) (ps : Nat → Int32) (im : Nat → Int32) (ik : Nat → Int32) (asd : Nat → Int32) (rb : Nat → Int32) (rp : Nat → Int32) (mv : Nat → Int32) (n1 : Int32) (o : (Int32 × (Nat → Int32) × (Nat → Int32) × (Nat → Int32))) (hg : g_X7_cut m ps mv n1 = some o) : Con Z l yX7_cut cX7_cut 3 (some .int) rm_X7_cut [.ref (a 0), .int n1] (wX Z a m ps im ik asd rb rp mv) (some (.int o.1)) (wX Z a o.2.1 o.2.2.1 im ik asd rb rp o.2.2.2) := by
  refine Con.of (by decide) (Nat.le_of_ble_eq_true rfl) ?_
  intro X hE0
  have hE : ∀ z, z = o → endsX X Z (some .int) (some (.int z.1)) (wX Z a z.2.1 z.2.2.1 im ik asd rb rp z.2.2.2) := by
    rintro _ rfl; exact hE0
  have J40 : ∀ (x2 : Int32) (t1 : Int32) (t2 : Int32) (m : Nat → Int32) (ps : Nat → Int32) (mv : Nat → Int32), g_X7_cut_40 x2 t1 t2 m ps mv = some o → AtK X Z rm_X7_cut cX7_cut RX7 3 0 0 (wX Z a m ps im ik asd rb rp mv) 40 [(2, .int x2)] [.int t2, .int t1, .ref (a 1)] := by
    intro x2 t1 t2 m ps mv hg
    unfold g_X7_cut_40 at hg
    obtain ⟨hi40, hg⟩ := og hg
    refine r_iast 1 rfl rfl hi40 dX7_cut_40 (ws' := wX Z a (upd m t1.toNatClampNeg t2) ps im ik asd rb rp mv) rfl ?_
    refine r_iload_n dX7_cut_41 0 rfl ?_
    exact r_iret (hE _ (Option.some.inj hg)) dX7_cut_42
  unfold g_X7_cut at hg
  show AtK X Z rm_X7_cut cX7_cut RX7 3 0 0 (wX Z a m ps im ik asd rb rp mv) 0 [(0, .ref (a 0)), (1, .int n1)] []
  refine r_iload_n dX7_cut_0 1 rfl ?_
  refine r_iconst (v := (-1)) dX7_cut_1 kic_m1 ?_
  refine r_bipush (v := 100) dX7_cut_2 kbp_100 ?_
  obtain ⟨o4, e4, hg⟩ := ob hg
  refine r_callS (As := [.int n1, .int (-1), .int 100]) (rest := []) (ws' := wX Z a m ps im ik asd rb rp mv) (fun l => c_X7_isIn Z l   n1 (-1) 100 o4 e4) qw_629 ms_X7_isIn xPk.none ⟨Nat.le_of_ble_eq_true rfl, Nat.le_of_ble_eq_true rfl⟩ ⟨rfl, rfl⟩ ⟨Nat.zero_le _, Nat.zero_le _⟩ rfl (Nat.le_of_ble_eq_true rfl) rfl dX7_cut_4 ?_
  refine r_if_ne (tgt := 12) dX7_cut_7 (by decide) (fun h7 => ?_) (fun h7 => ?_)
  · replace hg := (if_neg h7).symm.trans hg
    refine r_aload_n dX7_cut_12 0 rfl ?_
    obtain ⟨o13, e13, hg⟩ := ob hg
    refine r_callV (As := []) (rest := []) (ws' := wX Z a m o13.1 im ik asd rb rp o13.2) 0 rfl rfl rfl (fun l => c_X7_keep Z l a m ps im ik asd rb rp mv  o13 e13) qw_636 mv_X7_keep (xPk.all rfl) ⟨Nat.le_of_ble_eq_true rfl, Nat.le_of_ble_eq_true rfl⟩ ⟨rfl, rfl⟩ ⟨Nat.zero_le _, Nat.zero_le _⟩ rfl (Nat.le_of_ble_eq_true rfl) rfl dX7_cut_13 ?_
    refine r_aload_n dX7_cut_16 0 rfl ?_
    refine gf_X7_0 (v := .ref (a 1)) 0 rfl rfl qw_586 dX7_cut_17 ?_
    refine r_bipush (v := 126) dX7_cut_20 kbp_126 ?_
    refine r_ialdL 1 rfl (j := 126) (by decide) (by decide) dX7_cut_22 ?_
    refine r_istore_n (lv' := [(2, .int (m 126)), (0, .ref (a 0)), (1, .int n1)]) dX7_cut_23 (by decide) rfl ?_
    refine r_aload_n dX7_cut_24 1 rfl ?_
    refine gf_X7_0 (v := .ref (a 1)) 0 rfl rfl qw_586 dX7_cut_25 ?_
    refine r_bipush (v := 126) dX7_cut_28 kbp_126 ?_
    refine r_iload_n dX7_cut_30 2 rfl ?_
    refine r_if_ge (tgt := 39) dX7_cut_31 (by decide) (fun h31 => ?_) (fun h31 => ?_)
    · replace hg := (if_pos h31).symm.trans hg
      refine r_iload_n dX7_cut_39 2 rfl ?_
      exact r_sub [0] rfl (J40 (m 126) 126 n1 m o13.1 o13.2 hg)
    · replace hg := (if_neg h31).symm.trans hg
      refine r_bipush (v := (-9)) dX7_cut_34 kbp_m9 ?_
      refine r_goto (tgt := 40) dX7_cut_36 (by decide) ?_
      exact r_sub [0] rfl (J40 (m 126) 126 (-9) m o13.1 o13.2 hg)
  · replace hg := (if_pos h7).symm.trans hg
    refine r_iconst (v := (-1)) dX7_cut_10 kic_m1 ?_
    exact r_iret (hE _ (Option.some.inj hg)) dX7_cut_11

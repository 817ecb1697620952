-- TicketJournal.isWithin(III)Z
abbrev rm_X6_isWithin : Room := { frames := 0, cells := 0, slots := 0, locals := 0 }
def g_X6_isWithin_14    : Option (Int32) :=
  some (0)
def g_X6_isWithin  (n1 : Int32) (n2 : Int32) (n3 : Int32) : Option (Int32) :=
  (if n1 < n2 then g_X6_isWithin_14 else (if n3 < n1 then g_X6_isWithin_14 else some (1)))
set_option maxHeartbeats 4000000 in
set_option maxRecDepth 100000 in
theorem c_X6_isWithin (Z : GZ) (l : Launch)   (n1 : Int32) (n2 : Int32) (n3 : Int32) (o : (Int32)) (hg : g_X6_isWithin n1 n2 n3 = some o) : Con Z l yX6_isWithin cX6_isWithin 3 (some .boolean) rm_X6_isWithin [.int n1, .int n2, .int n3] (([] : va_W)) (some (.int o)) (([] : va_W)) := by
  refine Con.of (by decide) (Nat.le_of_ble_eq_true rfl) ?_
  intro X hE0
  have hE : ∀ z, z = o → endsX X Z (some .boolean) (some (.int z)) (([] : va_W)) := by
    rintro _ rfl; exact hE0
  have J14 : g_X6_isWithin_14 = some o → AtK X Z rm_X6_isWithin cX6_isWithin RX6 3 0 0 (([] : va_W)) 14 [] [] := by
    intro  hg
    unfold g_X6_isWithin_14 at hg
    refine r_iconst (v := 0) dX6_isWithin_14 kic_0 ?_
    exact r_bret (hE _ (Option.some.inj hg)) (by decide) dX6_isWithin_15
  unfold g_X6_isWithin at hg
  show AtK X Z rm_X6_isWithin cX6_isWithin RX6 3 0 0 (([] : va_W)) 0 [(0, .int n1), (1, .int n2), (2, .int n3)] []
  refine r_iload_n dX6_isWithin_0 0 rfl ?_
  refine r_iload_n dX6_isWithin_1 1 rfl ?_
  refine r_icmp_lt (tgt := 14) dX6_isWithin_2 (by decide) (fun h2 => ?_) (fun h2 => ?_)
  · replace hg := (if_pos h2).symm.trans hg
    exact r_sub [] rfl (J14 hg)
  · replace hg := (if_neg h2).symm.trans hg
    refine r_iload_n dX6_isWithin_5 0 rfl ?_
    refine r_iload_n dX6_isWithin_6 2 rfl ?_
    refine r_icmp_gt (tgt := 14) dX6_isWithin_7 (by decide) (fun h7 => ?_) (fun h7 => ?_)
    · replace hg := (if_pos h7).symm.trans hg
      exact r_sub [] rfl (J14 hg)
    · replace hg := (if_neg h7).symm.trans hg
      refine r_iconst (v := 1) dX6_isWithin_10 kic_1 ?_
      refine r_goto (tgt := 15) dX6_isWithin_11 (by decide) ?_
      exact r_bret (hE _ (Option.some.inj hg)) (by decide) dX6_isWithin_15

-- TicketJournal.isSort(I)Z
abbrev rm_X6_isSort : Room := { frames := 1, cells := 0, slots := 0, locals := 22 }
def g_X6_isSort  (n1 : Int32) : Option (Int32) :=
  (g_X6_isWithin n1 0 3).bind fun o3 => (if ¬ (o3 = 0 ∨ o3 = 1) then none else some (o3))
set_option maxHeartbeats 4000000 in
set_option maxRecDepth 100000 in
theorem c_X6_isSort (Z : GZ) (l : Launch)   (n1 : Int32) (o : (Int32)) (hg : g_X6_isSort n1 = some o) : Con Z l yX6_isSort cX6_isSort 1 (some .boolean) rm_X6_isSort [.int n1] (([] : va_W)) (some (.int o)) (([] : va_W)) := by
  refine Con.of (by decide) (Nat.le_of_ble_eq_true rfl) ?_
  intro X hE0
  have hE : ∀ z, z = o → endsX X Z (some .boolean) (some (.int z)) (([] : va_W)) := by
    rintro _ rfl; exact hE0
  unfold g_X6_isSort at hg
  show AtK X Z rm_X6_isSort cX6_isSort RX6 1 0 0 (([] : va_W)) 0 [(0, .int n1)] []
  refine r_iload_n dX6_isSort_0 0 rfl ?_
  refine r_iconst (v := 0) dX6_isSort_1 kic_0 ?_
  refine r_iconst (v := 3) dX6_isSort_2 kic_3 ?_
  obtain ⟨o3, e3, hg⟩ := ob hg
  refine r_callS (As := [.int n1, .int 0, .int 3]) (rest := []) (ws' := ([] : va_W)) (fun l => c_X6_isWithin Z l   n1 0 3 o3 e3) qw_195 ms_X6_isWithin xPk.none ⟨Nat.le_of_ble_eq_true rfl, Nat.le_of_ble_eq_true rfl⟩ ⟨rfl, rfl⟩ ⟨Nat.zero_le _, Nat.zero_le _⟩ rfl (Nat.le_of_ble_eq_true rfl) rfl dX6_isSort_3 ?_
  obtain ⟨hz6, hg⟩ := og hg
  exact r_bret (hE _ (Option.some.inj hg)) (Decidable.not_not.mp hz6) dX6_isSort_6

-- TicketJournal.isBlock(I)Z
abbrev rm_X6_isBlock : Room := { frames := 1, cells := 0, slots := 0, locals := 22 }
def g_X6_isBlock  (n1 : Int32) : Option (Int32) :=
  (g_X6_isWithin n1 0 4).bind fun o3 => (if ¬ (o3 = 0 ∨ o3 = 1) then none else some (o3))
set_option maxHeartbeats 4000000 in
set_option maxRecDepth 100000 in
theorem c_X6_isBlock (Z : GZ) (l : Launch)   (n1 : Int32) (o : (Int32)) (hg : g_X6_isBlock n1 = some o) : Con Z l yX6_isBlock cX6_isBlock 1 (some .boolean) rm_X6_isBlock [.int n1] (([] : va_W)) (some (.int o)) (([] : va_W)) := by
  refine Con.of (by decide) (Nat.le_of_ble_eq_true rfl) ?_
  intro X hE0
  have hE : ∀ z, z = o → endsX X Z (some .boolean) (some (.int z)) (([] : va_W)) := by
    rintro _ rfl; exact hE0
  unfold g_X6_isBlock at hg
  show AtK X Z rm_X6_isBlock cX6_isBlock RX6 1 0 0 (([] : va_W)) 0 [(0, .int n1)] []
  refine r_iload_n dX6_isBlock_0 0 rfl ?_
  refine r_iconst (v := 0) dX6_isBlock_1 kic_0 ?_
  refine r_iconst (v := 4) dX6_isBlock_2 kic_4 ?_
  obtain ⟨o3, e3, hg⟩ := ob hg
  refine r_callS (As := [.int n1, .int 0, .int 4]) (rest := []) (ws' := ([] : va_W)) (fun l => c_X6_isWithin Z l   n1 0 4 o3 e3) qw_195 ms_X6_isWithin xPk.none ⟨Nat.le_of_ble_eq_true rfl, Nat.le_of_ble_eq_true rfl⟩ ⟨rfl, rfl⟩ ⟨Nat.zero_le _, Nat.zero_le _⟩ rfl (Nat.le_of_ble_eq_true rfl) rfl dX6_isBlock_3 ?_
  obtain ⟨hz6, hg⟩ := og hg
  exact r_bret (hE _ (Option.some.inj hg)) (Decidable.not_not.mp hz6) dX6_isBlock_6

-- TicketJournal.lengthOf(I)I
abbrev rm_X6_lengthOf : Room := { frames := 0, cells := 0, slots := 0, locals := 0 }
def g_X6_lengthOf  (n1 : Int32) : Option (Int32) :=
  some ((40 + (20 * n1)))
set_option maxHeartbeats 4000000 in
set_option maxRecDepth 100000 in
theorem c_X6_lengthOf (Z : GZ) (l : Launch)   (n1 : Int32) (o : (Int32)) (hg : g_X6_lengthOf n1 = some o) : Con Z l yX6_lengthOf cX6_lengthOf 1 (some .int) rm_X6_lengthOf [.int n1] (([] : va_W)) (some (.int o)) (([] : va_W)) := by
  refine Con.of (by decide) (Nat.le_of_ble_eq_true rfl) ?_
  intro X hE0
  have hE : ∀ z, z = o → endsX X Z (some .int) (some (.int z)) (([] : va_W)) := by
    rintro _ rfl; exact hE0
  unfold g_X6_lengthOf at hg
  show AtK X Z rm_X6_lengthOf cX6_lengthOf RX6 1 0 0 (([] : va_W)) 0 [(0, .int n1)] []
  refine r_bipush (v := 40) dX6_lengthOf_0 kbp_40 ?_
  refine r_bipush (v := 20) dX6_lengthOf_2 kbp_20 ?_
  refine r_iload_n dX6_lengthOf_4 0 rfl ?_
  refine r_imul dX6_lengthOf_5 ?_
  refine r_iadd dX6_lengthOf_6 ?_
  exact r_iret (hE _ (Option.some.inj hg)) dX6_lengthOf_7

-- TicketJournal.headerCheck(IIIII)I
abbrev rm_X6_headerCheck : Room := { frames := 0, cells := 0, slots := 0, locals := 0 }
def g_X6_headerCheck  (n1 : Int32) (n2 : Int32) (n3 : Int32) (n4 : Int32) (n5 : Int32) : Option (Int32) :=
  some ((jrem ((((((3 * n1) + (5 * n2)) + (7 * n3)) + (11 * n4)) + (13 * n5)) + 1) 65521))
set_option maxHeartbeats 4000000 in
set_option maxRecDepth 100000 in
theorem c_X6_headerCheck (Z : GZ) (l : Launch)   (n1 : Int32) (n2 : Int32) (n3 : Int32) (n4 : Int32) (n5 : Int32) (o : (Int32)) (hg : g_X6_headerCheck n1 n2 n3 n4 n5 = some o) : Con Z l yX6_headerCheck cX6_headerCheck 5 (some .int) rm_X6_headerCheck [.int n1, .int n2, .int n3, .int n4, .int n5] (([] : va_W)) (some (.int o)) (([] : va_W)) := by
  refine Con.of (by decide) (Nat.le_of_ble_eq_true rfl) ?_
  intro X hE0
  have hE : ∀ z, z = o → endsX X Z (some .int) (some (.int z)) (([] : va_W)) := by
    rintro _ rfl; exact hE0
  unfold g_X6_headerCheck at hg
  show AtK X Z rm_X6_headerCheck cX6_headerCheck RX6 5 0 0 (([] : va_W)) 0 [(0, .int n1), (1, .int n2), (2, .int n3), (3, .int n4), (4, .int n5)] []
  refine r_iconst (v := 3) dX6_headerCheck_0 kic_3 ?_
  refine r_iload_n dX6_headerCheck_1 0 rfl ?_
  refine r_imul dX6_headerCheck_2 ?_
  refine r_iconst (v := 5) dX6_headerCheck_3 kic_5 ?_
  refine r_iload_n dX6_headerCheck_4 1 rfl ?_
  refine r_imul dX6_headerCheck_5 ?_
  refine r_iadd dX6_headerCheck_6 ?_
  refine r_bipush (v := 7) dX6_headerCheck_7 kbp_7 ?_
  refine r_iload_n dX6_headerCheck_9 2 rfl ?_
  refine r_imul dX6_headerCheck_10 ?_
  refine r_iadd dX6_headerCheck_11 ?_
  refine r_bipush (v := 11) dX6_headerCheck_12 kbp_11 ?_
  refine r_iload_n dX6_headerCheck_14 3 rfl ?_
  refine r_imul dX6_headerCheck_15 ?_
  refine r_iadd dX6_headerCheck_16 ?_
  refine r_bipush (v := 13) dX6_headerCheck_17 kbp_13 ?_
  refine r_iload dX6_headerCheck_19 4 rfl ?_
  refine r_imul dX6_headerCheck_21 ?_
  refine r_iadd dX6_headerCheck_22 ?_
  refine r_iconst (v := 1) dX6_headerCheck_23 kic_1 ?_
  refine r_iadd dX6_headerCheck_24 ?_
  refine r_ldc qw_275 dX6_headerCheck_25 ?_
  refine r_irem dX6_headerCheck_27 (by decide) ?_
  exact r_iret (hE _ (Option.some.inj hg)) dX6_headerCheck_28

-- TicketJournal.recordCheck(IIII)I
abbrev rm_X6_recordCheck : Room := { frames := 0, cells := 0, slots := 0, locals := 0 }
def g_X6_recordCheck  (n1 : Int32) (n2 : Int32) (n3 : Int32) (n4 : Int32) : Option (Int32) :=
  some ((jrem (((((3 * n1) + (5 * n2)) + (7 * n3)) + (11 * n4)) + 2) 65521))
set_option maxHeartbeats 4000000 in
set_option maxRecDepth 100000 in
theorem c_X6_recordCheck (Z : GZ) (l : Launch)   (n1 : Int32) (n2 : Int32) (n3 : Int32) (n4 : Int32) (o : (Int32)) (hg : g_X6_recordCheck n1 n2 n3 n4 = some o) : Con Z l yX6_recordCheck cX6_recordCheck 4 (some .int) rm_X6_recordCheck [.int n1, .int n2, .int n3, .int n4] (([] : va_W)) (some (.int o)) (([] : va_W)) := by
  refine Con.of (by decide) (Nat.le_of_ble_eq_true rfl) ?_
  intro X hE0
  have hE : ∀ z, z = o → endsX X Z (some .int) (some (.int z)) (([] : va_W)) := by
    rintro _ rfl; exact hE0
  unfold g_X6_recordCheck at hg
  show AtK X Z rm_X6_recordCheck cX6_recordCheck RX6 4 0 0 (([] : va_W)) 0 [(0, .int n1), (1, .int n2), (2, .int n3), (3, .int n4)] []
  refine r_iconst (v := 3) dX6_recordCheck_0 kic_3 ?_
  refine r_iload_n dX6_recordCheck_1 0 rfl ?_
  refine r_imul dX6_recordCheck_2 ?_
  refine r_iconst (v := 5) dX6_recordCheck_3 kic_5 ?_
  refine r_iload_n dX6_recordCheck_4 1 rfl ?_
  refine r_imul dX6_recordCheck_5 ?_
  refine r_iadd dX6_recordCheck_6 ?_
  refine r_bipush (v := 7) dX6_recordCheck_7 kbp_7 ?_
  refine r_iload_n dX6_recordCheck_9 2 rfl ?_
  refine r_imul dX6_recordCheck_10 ?_
  refine r_iadd dX6_recordCheck_11 ?_
  refine r_bipush (v := 11) dX6_recordCheck_12 kbp_11 ?_
  refine r_iload_n dX6_recordCheck_14 3 rfl ?_
  refine r_imul dX6_recordCheck_15 ?_
  refine r_iadd dX6_recordCheck_16 ?_
  refine r_iconst (v := 2) dX6_recordCheck_17 kic_2 ?_
  refine r_iadd dX6_recordCheck_18 ?_
  refine r_ldc qw_275 dX6_recordCheck_19 ?_
  refine r_irem dX6_recordCheck_21 (by decide) ?_
  exact r_iret (hE _ (Option.some.inj hg)) dX6_recordCheck_22

-- TicketJournal$Flash.spendOperation()Z
abbrev rm_X0_spendOperation : Room := { frames := 0, cells := 0, slots := 0, locals := 0 }
def g_X0_spendOperation_34   (fl : Nat → Int32) : Option (Int32 × (Nat → Int32)) :=
  some (1, (upd fl 0 ((fl 0) + 1)))
def g_X0_spendOperation (fl : Nat → Int32)  : Option (Int32 × (Nat → Int32)) :=
  (if (fl 1) = 0 then some (0, (upd fl 1 (-9))) else (if (fl 1) = (-9) then g_X0_spendOperation_34 fl else g_X0_spendOperation_34 (upd fl 1 ((fl 1) - 1))))
set_option maxHeartbeats 4000000 in
set_option maxRecDepth 100000 in
theorem c_X0_spendOperation (Z : GZ) (l : Launch) (h : Nat) (hw : Nat) (he : Nat) (w : Nat → Int32) (er : Nat → Int32) (fl : Nat → Int32)  (o : (Int32 × (Nat → Int32))) (hg : g_X0_spendOperation fl = some o) : Con Z l yX0_spendOperation cX0_spendOperation 1 (some .boolean) rm_X0_spendOperation [.ref h] (wF Z h hw he w er fl) (some (.int o.1)) (wF Z h hw he w er o.2) := by
  refine Con.of (by decide) (Nat.le_of_ble_eq_true rfl) ?_
  intro X hE0
  have hE : ∀ z, z = o → endsX X Z (some .boolean) (some (.int z.1)) (wF Z h hw he w er z.2) := by
    rintro _ rfl; exact hE0
  have J34 : ∀ (fl : Nat → Int32), g_X0_spendOperation_34 fl = some o → AtK X Z rm_X0_spendOperation cX0_spendOperation RX0 1 0 0 (wF Z h hw he w er fl) 34 [(0, .ref h)] [] := by
    intro fl hg
    unfold g_X0_spendOperation_34 at hg
    refine r_aload_n dX0_spendOperation_34 0 rfl ?_
    refine r_dup dX0_spendOperation_35 rfl ?_
    refine gf_X0_2 (v := .int (fl 0)) 0 rfl rfl qw_45 dX0_spendOperation_36 ?_
    refine r_iconst (v := 1) dX0_spendOperation_39 kic_1 ?_
    refine r_iadd dX0_spendOperation_40 ?_
    refine pf_X0_2 0 rfl (Nat.le_of_ble_eq_true rfl) qw_45 dX0_spendOperation_41 (ws' := wF Z h hw he w er (upd fl 0 ((fl 0) + 1))) rfl ?_
    refine r_iconst (v := 1) dX0_spendOperation_44 kic_1 ?_
    exact r_bret (hE _ (Option.some.inj hg)) (by decide) dX0_spendOperation_45
  unfold g_X0_spendOperation at hg
  show AtK X Z rm_X0_spendOperation cX0_spendOperation RX0 1 0 0 (wF Z h hw he w er fl) 0 [(0, .ref h)] []
  refine r_aload_n dX0_spendOperation_0 0 rfl ?_
  refine gf_X0_3 (v := .int (fl 1)) 0 rfl rfl qw_47 dX0_spendOperation_1 ?_
  refine r_if_ne (tgt := 15) dX0_spendOperation_4 (by decide) (fun h4 => ?_) (fun h4 => ?_)
  · replace hg := (if_neg h4).symm.trans hg
    refine r_aload_n dX0_spendOperation_15 0 rfl ?_
    refine gf_X0_3 (v := .int (fl 1)) 0 rfl rfl qw_47 dX0_spendOperation_16 ?_
    refine r_bipush (v := (-9)) dX0_spendOperation_19 kbp_m9 ?_
    refine r_icmp_eq (tgt := 34) dX0_spendOperation_21 (by decide) (fun h21 => ?_) (fun h21 => ?_)
    · replace hg := (if_pos h21).symm.trans hg
      exact r_sub [0] rfl (J34 fl hg)
    · replace hg := (if_neg h21).symm.trans hg
      refine r_aload_n dX0_spendOperation_24 0 rfl ?_
      refine r_dup dX0_spendOperation_25 rfl ?_
      refine gf_X0_3 (v := .int (fl 1)) 0 rfl rfl qw_47 dX0_spendOperation_26 ?_
      refine r_iconst (v := 1) dX0_spendOperation_29 kic_1 ?_
      refine r_isub dX0_spendOperation_30 ?_
      refine pf_X0_3 0 rfl (Nat.le_of_ble_eq_true rfl) qw_47 dX0_spendOperation_31 (ws' := wF Z h hw he w er (upd fl 1 ((fl 1) - 1))) rfl ?_
      exact r_sub [0] rfl (J34 (upd fl 1 ((fl 1) - 1)) hg)
  · replace hg := (if_pos h4).symm.trans hg
    refine r_aload_n dX0_spendOperation_7 0 rfl ?_
    refine r_bipush (v := (-9)) dX0_spendOperation_8 kbp_m9 ?_
    refine pf_X0_3 0 rfl (Nat.le_of_ble_eq_true rfl) qw_47 dX0_spendOperation_10 (ws' := wF Z h hw he w er (upd fl 1 (-9))) rfl ?_
    refine r_iconst (v := 0) dX0_spendOperation_13 kic_0 ?_
    exact r_bret (hE _ (Option.some.inj hg)) (by decide) dX0_spendOperation_14

-- TicketJournal$Flash.read(II)I
abbrev rm_X0_read : Room := { frames := 0, cells := 0, slots := 0, locals := 0 }
def g_X0_read_29 (w : Nat → Int32)   : Option (Int32) :=
  some (65535)
def g_X0_read (w : Nat → Int32) (n1 : Int32) (n2 : Int32) : Option (Int32) :=
  (if ((n1 * 22) + n2) < 0 then g_X0_read_29 w else (if 110 ≤ ((n1 * 22) + n2) then g_X0_read_29 w else (if ((n1 * 22) + n2) < 0 ∨ 110 ≤ ((n1 * 22) + n2).toNatClampNeg then none else some ((w ((n1 * 22) + n2).toNatClampNeg)))))
set_option maxHeartbeats 4000000 in
set_option maxRecDepth 100000 in
theorem c_X0_read (Z : GZ) (l : Launch) (h : Nat) (hw : Nat) (he : Nat) (w : Nat → Int32) (er : Nat → Int32) (fl : Nat → Int32) (n1 : Int32) (n2 : Int32) (o : (Int32)) (hg : g_X0_read w n1 n2 = some o) : Con Z l yX0_read cX0_read 4 (some .int) rm_X0_read [.ref h, .int n1, .int n2] (wF Z h hw he w er fl) (some (.int o)) (wF Z h hw he w er fl) := by
  refine Con.of (by decide) (Nat.le_of_ble_eq_true rfl) ?_
  intro X hE0
  have hE : ∀ z, z = o → endsX X Z (some .int) (some (.int z)) (wF Z h hw he w er fl) := by
    rintro _ rfl; exact hE0
  have J29 : g_X0_read_29 w = some o → AtK X Z rm_X0_read cX0_read RX0 4 0 0 (wF Z h hw he w er fl) 29 [] [] := by
    intro  hg
    unfold g_X0_read_29 at hg
    refine r_ldc qw_42 dX0_read_29 ?_
    exact r_iret (hE _ (Option.some.inj hg)) dX0_read_31
  unfold g_X0_read at hg
  show AtK X Z rm_X0_read cX0_read RX0 4 0 0 (wF Z h hw he w er fl) 0 [(0, .ref h), (1, .int n1), (2, .int n2)] []
  refine r_iload_n dX0_read_0 1 rfl ?_
  refine r_bipush (v := 22) dX0_read_1 kbp_22 ?_
  refine r_imul dX0_read_3 ?_
  refine r_iload_n dX0_read_4 2 rfl ?_
  refine r_iadd dX0_read_5 ?_
  refine r_istore_n (lv' := [(3, .int ((n1 * 22) + n2)), (0, .ref h), (1, .int n1), (2, .int n2)]) dX0_read_6 (by decide) rfl ?_
  refine r_iload_n dX0_read_7 0 rfl ?_
  refine r_if_lt (tgt := 29) dX0_read_8 (by decide) (fun h8 => ?_) (fun h8 => ?_)
  · replace hg := (if_pos h8).symm.trans hg
    exact r_sub [] rfl (J29 hg)
  · replace hg := (if_neg h8).symm.trans hg
    refine r_iload_n dX0_read_11 0 rfl ?_
    refine r_aload_n dX0_read_12 1 rfl ?_
    refine gf_X0_0 (v := .ref hw) 0 rfl rfl qw_43 dX0_read_13 ?_
    refine r_alen 1 0 rfl rfl (v := 110) (by decide) dX0_read_16 ?_
    refine r_icmp_ge (tgt := 29) dX0_read_17 (by decide) (fun h17 => ?_) (fun h17 => ?_)
    · replace hg := (if_pos h17).symm.trans hg
      exact r_sub [] rfl (J29 hg)
    · replace hg := (if_neg h17).symm.trans hg
      refine r_aload_n dX0_read_20 1 rfl ?_
      refine gf_X0_0 (v := .ref hw) 0 rfl rfl qw_43 dX0_read_21 ?_
      refine r_iload_n dX0_read_24 0 rfl ?_
      obtain ⟨hi25, hg⟩ := og hg
      refine r_iald 1 rfl hi25 dX0_read_25 ?_
      refine r_goto (tgt := 31) dX0_read_26 (by decide) ?_
      exact r_iret (hE _ (Option.some.inj hg)) dX0_read_31

-- TicketJournal$Flash.write(III)Z
abbrev rm_X0_write : Room := { frames := 1, cells := 0, slots := 0, locals := 20 }
def g_X0_write_30   (w : Nat → Int32) (fl : Nat → Int32) : Option (Int32 × (Nat → Int32) × (Nat → Int32)) :=
  some (0, w, fl)
def g_X0_write (w : Nat → Int32) (fl : Nat → Int32) (n1 : Int32) (n2 : Int32) (n3 : Int32) : Option (Int32 × (Nat → Int32) × (Nat → Int32)) :=
  (if ((n1 * 22) + n2) < 0 then g_X0_write_30 w fl else (if 110 ≤ ((n1 * 22) + n2) then g_X0_write_30 w fl else (g_X0_spendOperation fl).bind fun o24 => (if o24.1 = 0 then g_X0_write_30 w o24.2 else (if ((n1 * 22) + n2) < 0 ∨ 110 ≤ ((n1 * 22) + n2).toNatClampNeg then none else some (1, (upd w (((n1 * 22) + n2).toNatClampNeg) n3), o24.2)))))
set_option maxHeartbeats 4000000 in
set_option maxRecDepth 100000 in
theorem c_X0_write (Z : GZ) (l : Launch) (h : Nat) (hw : Nat) (he : Nat) (w : Nat → Int32) (er : Nat → Int32) (fl : Nat → Int32) (n1 : Int32) (n2 : Int32) (n3 : Int32) (o : (Int32 × (Nat → Int32) × (Nat → Int32))) (hg : g_X0_write w fl n1 n2 n3 = some o) : Con Z l yX0_write cX0_write 5 (some .boolean) rm_X0_write [.ref h, .int n1, .int n2, .int n3] (wF Z h hw he w er fl) (some (.int o.1)) (wF Z h hw he o.2.1 er o.2.2) := by
  refine Con.of (by decide) (Nat.le_of_ble_eq_true rfl) ?_
  intro X hE0
  have hE : ∀ z, z = o → endsX X Z (some .boolean) (some (.int z.1)) (wF Z h hw he z.2.1 er z.2.2) := by
    rintro _ rfl; exact hE0
  have J30 : ∀ (w : Nat → Int32) (fl : Nat → Int32), g_X0_write_30 w fl = some o → AtK X Z rm_X0_write cX0_write RX0 5 0 0 (wF Z h hw he w er fl) 30 [] [] := by
    intro w fl hg
    unfold g_X0_write_30 at hg
    refine r_iconst (v := 0) dX0_write_30 kic_0 ?_
    exact r_bret (hE _ (Option.some.inj hg)) (by decide) dX0_write_31
  unfold g_X0_write at hg
  show AtK X Z rm_X0_write cX0_write RX0 5 0 0 (wF Z h hw he w er fl) 0 [(0, .ref h), (1, .int n1), (2, .int n2), (3, .int n3)] []
  refine r_iload_n dX0_write_0 1 rfl ?_
  refine r_bipush (v := 22) dX0_write_1 kbp_22 ?_
  refine r_imul dX0_write_3 ?_
  refine r_iload_n dX0_write_4 2 rfl ?_
  refine r_iadd dX0_write_5 ?_
  refine r_istore (lv' := [(4, .int ((n1 * 22) + n2)), (0, .ref h), (1, .int n1), (2, .int n2), (3, .int n3)]) dX0_write_6 (by decide) rfl ?_
  refine r_iload dX0_write_8 0 rfl ?_
  refine r_if_lt (tgt := 30) dX0_write_10 (by decide) (fun h10 => ?_) (fun h10 => ?_)
  · replace hg := (if_pos h10).symm.trans hg
    exact r_sub [] rfl (J30 w fl hg)
  · replace hg := (if_neg h10).symm.trans hg
    refine r_iload dX0_write_13 0 rfl ?_
    refine r_aload_n dX0_write_15 1 rfl ?_
    refine gf_X0_0 (v := .ref hw) 0 rfl rfl qw_43 dX0_write_16 ?_
    refine r_alen 1 0 rfl rfl (v := 110) (by decide) dX0_write_19 ?_
    refine r_icmp_ge (tgt := 30) dX0_write_20 (by decide) (fun h20 => ?_) (fun h20 => ?_)
    · replace hg := (if_pos h20).symm.trans hg
      exact r_sub [] rfl (J30 w fl hg)
    · replace hg := (if_neg h20).symm.trans hg
      refine r_aload_n dX0_write_23 1 rfl ?_
      obtain ⟨o24, e24, hg⟩ := ob hg
      refine r_callV (As := []) (rest := []) (ws' := wF Z h hw he w er o24.2) 0 rfl rfl rfl (fun l => c_X0_spendOperation Z l h hw he w er fl  o24 e24) qw_280 mv_X0_spendOperation (xPk.all rfl) ⟨Nat.le_of_ble_eq_true rfl, Nat.le_of_ble_eq_true rfl⟩ ⟨rfl, rfl⟩ ⟨Nat.zero_le _, Nat.zero_le _⟩ rfl (Nat.le_of_ble_eq_true rfl) rfl dX0_write_24 ?_
      refine r_if_ne (tgt := 32) dX0_write_27 (by decide) (fun h27 => ?_) (fun h27 => ?_)
      · replace hg := (if_neg h27).symm.trans hg
        refine r_aload_n dX0_write_32 1 rfl ?_
        refine gf_X0_0 (v := .ref hw) 0 rfl rfl qw_43 dX0_write_33 ?_
        refine r_iload dX0_write_36 0 rfl ?_
        refine r_iload_n dX0_write_38 4 rfl ?_
        obtain ⟨hi39, hg⟩ := og hg
        refine r_iast 1 rfl rfl hi39 dX0_write_39 (ws' := wF Z h hw he (upd w (((n1 * 22) + n2).toNatClampNeg) n3) er o24.2) rfl ?_
        refine r_iconst (v := 1) dX0_write_40 kic_1 ?_
        exact r_bret (hE _ (Option.some.inj hg)) (by decide) dX0_write_41
      · replace hg := (if_pos h27).symm.trans hg
        exact r_sub [] rfl (J30 w o24.2 hg)

-- TicketJournal$Flash.erase(I)Z
abbrev rm_X0_erase : Room := { frames := 1, cells := 0, slots := 0, locals := 20 }
def g_X0_erase_20   (w : Nat → Int32) (er : Nat → Int32) (fl : Nat → Int32) : Option (Int32 × (Nat → Int32) × (Nat → Int32) × (Nat → Int32)) :=
  some (0, w, er, fl)
def g_X0_erase_60   (x1 : Int32) (w : Nat → Int32) (er : Nat → Int32) (fl : Nat → Int32) : Option (Int32 × (Nat → Int32) × (Nat → Int32) × (Nat → Int32)) :=
  (if x1 < 0 ∨ 5 ≤ x1.toNatClampNeg then none else (if x1 < 0 ∨ 5 ≤ x1.toNatClampNeg then none else some (1, w, (upd er x1.toNatClampNeg ((er x1.toNatClampNeg) + 1)), fl)))
def g_X0_erase_27   : Nat → Int32 → Int32 → (Nat → Int32) → (Nat → Int32) → (Nat → Int32) → Option (Int32 × (Nat → Int32) × (Nat → Int32) × (Nat → Int32))
  | 0 => fun _ _ _ _ _ => none
  | n + 1 => fun x1 x2 w er fl => (if ((x1 + 1) * 22) ≤ x2 then g_X0_erase_60 x1 w er fl else (if 110 ≤ x2 then g_X0_erase_60 x1 w er fl else (if x2 < 0 ∨ 110 ≤ x2.toNatClampNeg then none else (g_X0_erase_27 n) x1 (x2 + 1) (upd w x2.toNatClampNeg 65535) er fl)))
def g_X0_erase (w : Nat → Int32) (er : Nat → Int32) (fl : Nat → Int32) (n1 : Int32) : Option (Int32 × (Nat → Int32) × (Nat → Int32) × (Nat → Int32)) :=
  (if n1 < 0 then g_X0_erase_20 w er fl else (if 5 ≤ n1 then g_X0_erase_20 w er fl else (g_X0_spendOperation fl).bind fun o14 => (if o14.1 = 0 then g_X0_erase_20 w er o14.2 else g_X0_erase_27 120 n1 (n1 * 22) w er o14.2)))
set_option maxHeartbeats 4000000 in
set_option maxRecDepth 100000 in
theorem c_X0_erase (Z : GZ) (l : Launch) (h : Nat) (hw : Nat) (he : Nat) (w : Nat → Int32) (er : Nat → Int32) (fl : Nat → Int32) (n1 : Int32) (o : (Int32 × (Nat → Int32) × (Nat → Int32) × (Nat → Int32))) (hg : g_X0_erase w er fl n1 = some o) : Con Z l yX0_erase cX0_erase 3 (some .boolean) rm_X0_erase [.ref h, .int n1] (wF Z h hw he w er fl) (some (.int o.1)) (wF Z h hw he o.2.1 o.2.2.1 o.2.2.2) := by
  refine Con.of (by decide) (Nat.le_of_ble_eq_true rfl) ?_
  intro X hE0
  have hE : ∀ z, z = o → endsX X Z (some .boolean) (some (.int z.1)) (wF Z h hw he z.2.1 z.2.2.1 z.2.2.2) := by
    rintro _ rfl; exact hE0
  have J20 : ∀ (w : Nat → Int32) (er : Nat → Int32) (fl : Nat → Int32), g_X0_erase_20 w er fl = some o → AtK X Z rm_X0_erase cX0_erase RX0 3 0 0 (wF Z h hw he w er fl) 20 [] [] := by
    intro w er fl hg
    unfold g_X0_erase_20 at hg
    refine r_iconst (v := 0) dX0_erase_20 kic_0 ?_
    exact r_bret (hE _ (Option.some.inj hg)) (by decide) dX0_erase_21
  have J60 : ∀ (x1 : Int32) (w : Nat → Int32) (er : Nat → Int32) (fl : Nat → Int32), g_X0_erase_60 x1 w er fl = some o → AtK X Z rm_X0_erase cX0_erase RX0 3 0 0 (wF Z h hw he w er fl) 60 [(0, .ref h), (1, .int x1)] [] := by
    intro x1 w er fl hg
    unfold g_X0_erase_60 at hg
    refine r_aload_n dX0_erase_60 0 rfl ?_
    refine gf_X0_1 (v := .ref he) 0 rfl rfl qw_44 dX0_erase_61 ?_
    refine r_iload_n dX0_erase_64 1 rfl ?_
    refine r_dup2 dX0_erase_65 rfl rfl ?_
    obtain ⟨hi66, hg⟩ := og hg
    refine r_iald 2 rfl hi66 dX0_erase_66 ?_
    refine r_iconst (v := 1) dX0_erase_67 kic_1 ?_
    refine r_iadd dX0_erase_68 ?_
    obtain ⟨hi69, hg⟩ := og hg
    refine r_iast 2 rfl rfl hi69 dX0_erase_69 (ws' := wF Z h hw he w (upd er x1.toNatClampNeg ((er x1.toNatClampNeg) + 1)) fl) rfl ?_
    refine r_iconst (v := 1) dX0_erase_70 kic_1 ?_
    exact r_bret (hE _ (Option.some.inj hg)) (by decide) dX0_erase_71
  have J27 : ∀ (n : Nat), ∀ (x1 : Int32) (x2 : Int32) (w : Nat → Int32) (er : Nat → Int32) (fl : Nat → Int32), g_X0_erase_27 n x1 x2 w er fl = some o → AtK X Z rm_X0_erase cX0_erase RX0 3 0 0 (wF Z h hw he w er fl) 27 [(0, .ref h), (1, .int x1), (2, .int x2)] [] := by
    intro  n
    induction n with
    | zero => intro x1 x2 w er fl hg; exact nomatch (show (none : Option _) = some o from hg)
    | succ n ih =>
      intro x1 x2 w er fl hg
      unfold g_X0_erase_27 at hg
      refine r_iload_n dX0_erase_27 2 rfl ?_
      refine r_iload_n dX0_erase_28 1 rfl ?_
      refine r_iconst (v := 1) dX0_erase_29 kic_1 ?_
      refine r_iadd dX0_erase_30 ?_
      refine r_bipush (v := 22) dX0_erase_31 kbp_22 ?_
      refine r_imul dX0_erase_33 ?_
      refine r_icmp_ge (tgt := 60) dX0_erase_34 (by decide) (fun h34 => ?_) (fun h34 => ?_)
      · replace hg := (if_pos h34).symm.trans hg
        exact r_sub [0, 1] rfl (J60 x1 w er fl hg)
      · replace hg := (if_neg h34).symm.trans hg
        refine r_iload_n dX0_erase_37 2 rfl ?_
        refine r_aload_n dX0_erase_38 0 rfl ?_
        refine gf_X0_0 (v := .ref hw) 0 rfl rfl qw_43 dX0_erase_39 ?_
        refine r_alen 1 0 rfl rfl (v := 110) (by decide) dX0_erase_42 ?_
        refine r_icmp_ge (tgt := 60) dX0_erase_43 (by decide) (fun h43 => ?_) (fun h43 => ?_)
        · replace hg := (if_pos h43).symm.trans hg
          exact r_sub [0, 1] rfl (J60 x1 w er fl hg)
        · replace hg := (if_neg h43).symm.trans hg
          refine r_aload_n dX0_erase_46 0 rfl ?_
          refine gf_X0_0 (v := .ref hw) 0 rfl rfl qw_43 dX0_erase_47 ?_
          refine r_iload_n dX0_erase_50 2 rfl ?_
          refine r_ldc qw_42 dX0_erase_51 ?_
          obtain ⟨hi53, hg⟩ := og hg
          refine r_iast 1 rfl rfl hi53 dX0_erase_53 (ws' := wF Z h hw he (upd w x2.toNatClampNeg 65535) er fl) rfl ?_
          refine r_iinc (v := (x2 + 1)) (lv' := [(2, .int (x2 + 1)), (0, .ref h), (1, .int x1)]) dX0_erase_54 (k := 2) rfl rfl (by decide) rfl ?_
          refine r_goto (tgt := 27) dX0_erase_57 (by decide) ?_
          exact r_sub [1, 2, 0] rfl (ih x1 (x2 + 1) (upd w x2.toNatClampNeg 65535) er fl hg)
  unfold g_X0_erase at hg
  show AtK X Z rm_X0_erase cX0_erase RX0 3 0 0 (wF Z h hw he w er fl) 0 [(0, .ref h), (1, .int n1)] []
  refine r_iload_n dX0_erase_0 1 rfl ?_
  refine r_if_lt (tgt := 20) dX0_erase_1 (by decide) (fun h1 => ?_) (fun h1 => ?_)
  · replace hg := (if_pos h1).symm.trans hg
    exact r_sub [] rfl (J20 w er fl hg)
  · replace hg := (if_neg h1).symm.trans hg
    refine r_iload_n dX0_erase_4 1 rfl ?_
    refine r_aload_n dX0_erase_5 0 rfl ?_
    refine gf_X0_1 (v := .ref he) 0 rfl rfl qw_44 dX0_erase_6 ?_
    refine r_alen 2 0 rfl rfl (v := 5) (by decide) dX0_erase_9 ?_
    refine r_icmp_ge (tgt := 20) dX0_erase_10 (by decide) (fun h10 => ?_) (fun h10 => ?_)
    · replace hg := (if_pos h10).symm.trans hg
      exact r_sub [] rfl (J20 w er fl hg)
    · replace hg := (if_neg h10).symm.trans hg
      refine r_aload_n dX0_erase_13 0 rfl ?_
      obtain ⟨o14, e14, hg⟩ := ob hg
      refine r_callV (As := []) (rest := []) (ws' := wF Z h hw he w er o14.2) 0 rfl rfl rfl (fun l => c_X0_spendOperation Z l h hw he w er fl  o14 e14) qw_280 mv_X0_spendOperation (xPk.all rfl) ⟨Nat.le_of_ble_eq_true rfl, Nat.le_of_ble_eq_true rfl⟩ ⟨rfl, rfl⟩ ⟨Nat.zero_le _, Nat.zero_le _⟩ rfl (Nat.le_of_ble_eq_true rfl) rfl dX0_erase_14 ?_
      refine r_if_ne (tgt := 22) dX0_erase_17 (by decide) (fun h17 => ?_) (fun h17 => ?_)
      · replace hg := (if_neg h17).symm.trans hg
        refine r_iload_n dX0_erase_22 1 rfl ?_
        refine r_bipush (v := 22) dX0_erase_23 kbp_22 ?_
        refine r_imul dX0_erase_25 ?_
        refine r_istore_n (lv' := [(2, .int (n1 * 22)), (0, .ref h), (1, .int n1)]) dX0_erase_26 (by decide) rfl ?_
        exact r_sub [1, 2, 0] rfl (J27 120 n1 (n1 * 22) w er o14.2 hg)
      · replace hg := (if_pos h17).symm.trans hg
        exact r_sub [] rfl (J20 w er o14.2 hg)

-- TicketJournal$Flash.erasuresOf(I)I
abbrev rm_X0_erasuresOf : Room := { frames := 0, cells := 0, slots := 0, locals := 0 }
def g_X0_erasuresOf_22 (er : Nat → Int32)   : Option (Int32) :=
  some (0)
def g_X0_erasuresOf (er : Nat → Int32) (n1 : Int32) : Option (Int32) :=
  (if n1 < 0 then g_X0_erasuresOf_22 er else (if 5 ≤ n1 then g_X0_erasuresOf_22 er else (if n1 < 0 ∨ 5 ≤ n1.toNatClampNeg then none else some ((er n1.toNatClampNeg)))))
set_option maxHeartbeats 4000000 in
set_option maxRecDepth 100000 in
theorem c_X0_erasuresOf (Z : GZ) (l : Launch) (h : Nat) (hw : Nat) (he : Nat) (w : Nat → Int32) (er : Nat → Int32) (fl : Nat → Int32) (n1 : Int32) (o : (Int32)) (hg : g_X0_erasuresOf er n1 = some o) : Con Z l yX0_erasuresOf cX0_erasuresOf 2 (some .int) rm_X0_erasuresOf [.ref h, .int n1] (wF Z h hw he w er fl) (some (.int o)) (wF Z h hw he w er fl) := by
  refine Con.of (by decide) (Nat.le_of_ble_eq_true rfl) ?_
  intro X hE0
  have hE : ∀ z, z = o → endsX X Z (some .int) (some (.int z)) (wF Z h hw he w er fl) := by
    rintro _ rfl; exact hE0
  have J22 : g_X0_erasuresOf_22 er = some o → AtK X Z rm_X0_erasuresOf cX0_erasuresOf RX0 2 0 0 (wF Z h hw he w er fl) 22 [] [] := by
    intro  hg
    unfold g_X0_erasuresOf_22 at hg
    refine r_iconst (v := 0) dX0_erasuresOf_22 kic_0 ?_
    exact r_iret (hE _ (Option.some.inj hg)) dX0_erasuresOf_23
  unfold g_X0_erasuresOf at hg
  show AtK X Z rm_X0_erasuresOf cX0_erasuresOf RX0 2 0 0 (wF Z h hw he w er fl) 0 [(0, .ref h), (1, .int n1)] []
  refine r_iload_n dX0_erasuresOf_0 1 rfl ?_
  refine r_if_lt (tgt := 22) dX0_erasuresOf_1 (by decide) (fun h1 => ?_) (fun h1 => ?_)
  · replace hg := (if_pos h1).symm.trans hg
    exact r_sub [] rfl (J22 hg)
  · replace hg := (if_neg h1).symm.trans hg
    refine r_iload_n dX0_erasuresOf_4 1 rfl ?_
    refine r_aload_n dX0_erasuresOf_5 0 rfl ?_
    refine gf_X0_1 (v := .ref he) 0 rfl rfl qw_44 dX0_erasuresOf_6 ?_
    refine r_alen 2 0 rfl rfl (v := 5) (by decide) dX0_erasuresOf_9 ?_
    refine r_icmp_ge (tgt := 22) dX0_erasuresOf_10 (by decide) (fun h10 => ?_) (fun h10 => ?_)
    · replace hg := (if_pos h10).symm.trans hg
      exact r_sub [] rfl (J22 hg)
    · replace hg := (if_neg h10).symm.trans hg
      refine r_aload_n dX0_erasuresOf_13 0 rfl ?_
      refine gf_X0_1 (v := .ref he) 0 rfl rfl qw_44 dX0_erasuresOf_14 ?_
      refine r_iload_n dX0_erasuresOf_17 1 rfl ?_
      obtain ⟨hi18, hg⟩ := og hg
      refine r_iald 2 rfl hi18 dX0_erasuresOf_18 ?_
      refine r_goto (tgt := 23) dX0_erasuresOf_19 (by decide) ?_
      exact r_iret (hE _ (Option.some.inj hg)) dX0_erasuresOf_23

-- TicketJournal$Flash.recordWord(III)I
abbrev rm_X0_recordWord : Room := { frames := 1, cells := 0, slots := 0, locals := 23 }
def g_X0_recordWord (w : Nat → Int32) (n1 : Int32) (n2 : Int32) (n3 : Int32) : Option (Int32) :=
  (g_X0_read w n1 ((6 + (n2 * 4)) + n3)).bind fun o10 => some (o10)
set_option maxHeartbeats 4000000 in
set_option maxRecDepth 100000 in
theorem c_X0_recordWord (Z : GZ) (l : Launch) (h : Nat) (hw : Nat) (he : Nat) (w : Nat → Int32) (er : Nat → Int32) (fl : Nat → Int32) (n1 : Int32) (n2 : Int32) (n3 : Int32) (o : (Int32)) (hg : g_X0_recordWord w n1 n2 n3 = some o) : Con Z l yX0_recordWord cX0_recordWord 4 (some .int) rm_X0_recordWord [.ref h, .int n1, .int n2, .int n3] (wF Z h hw he w er fl) (some (.int o)) (wF Z h hw he w er fl) := by
  refine Con.of (by decide) (Nat.le_of_ble_eq_true rfl) ?_
  intro X hE0
  have hE : ∀ z, z = o → endsX X Z (some .int) (some (.int z)) (wF Z h hw he w er fl) := by
    rintro _ rfl; exact hE0
  unfold g_X0_recordWord at hg
  show AtK X Z rm_X0_recordWord cX0_recordWord RX0 4 0 0 (wF Z h hw he w er fl) 0 [(0, .ref h), (1, .int n1), (2, .int n2), (3, .int n3)] []
  refine r_aload_n dX0_recordWord_0 0 rfl ?_
  refine r_iload_n dX0_recordWord_1 1 rfl ?_
  refine r_bipush (v := 6) dX0_recordWord_2 kbp_6 ?_
  refine r_iload_n dX0_recordWord_4 2 rfl ?_
  refine r_iconst (v := 4) dX0_recordWord_5 kic_4 ?_
  refine r_imul dX0_recordWord_6 ?_
  refine r_iadd dX0_recordWord_7 ?_
  refine r_iload_n dX0_recordWord_8 3 rfl ?_
  refine r_iadd dX0_recordWord_9 ?_
  obtain ⟨o10, e10, hg⟩ := ob hg
  refine r_callV (As := [.int n1, .int ((6 + (n2 * 4)) + n3)]) (rest := []) (ws' := wF Z h hw he w er fl) 0 rfl rfl rfl (fun l => c_X0_read Z l h hw he w er fl n1 ((6 + (n2 * 4)) + n3) o10 e10) qw_328 mv_X0_read (xPk.all rfl) ⟨Nat.le_of_ble_eq_true rfl, Nat.le_of_ble_eq_true rfl⟩ ⟨rfl, rfl⟩ ⟨Nat.zero_le _, Nat.zero_le _⟩ rfl (Nat.le_of_ble_eq_true rfl) rfl dX0_recordWord_10 ?_
  exact r_iret (hE _ (Option.some.inj hg)) dX0_recordWord_13

-- TicketJournal$Flash.isWhole(I)Z
abbrev rm_X0_isWhole : Room := { frames := 1, cells := 0, slots := 0, locals := 24 }
def g_X0_isWhole_2 (w : Nat → Int32)  : Nat → Int32 → Int32 → Option (Int32)
  | 0 => fun _ _ => none
  | n + 1 => fun x1 x2 => (if 5 ≤ x2 then (g_X0_read w x1 0).bind fun o29 => (g_X0_read w x1 1).bind fun o35 => (g_X0_read w x1 2).bind fun o41 => (g_X0_read w x1 3).bind fun o47 => (g_X0_read w x1 4).bind fun o53 => (g_X6_headerCheck o29 o35 o41 o47 o53).bind fun o56 => (g_X0_read w x1 5).bind fun o63 => (if o63 = o56 then some (1) else some (0)) else (g_X0_read w x1 x2).bind fun o10 => (if o10 = 65535 then some (0) else (g_X0_isWhole_2 w n) x1 (x2 + 1)))
def g_X0_isWhole (w : Nat → Int32) (n1 : Int32) : Option (Int32) :=
  g_X0_isWhole_2 w 12 n1 0
set_option maxHeartbeats 4000000 in
set_option maxRecDepth 100000 in
theorem c_X0_isWhole (Z : GZ) (l : Launch) (h : Nat) (hw : Nat) (he : Nat) (w : Nat → Int32) (er : Nat → Int32) (fl : Nat → Int32) (n1 : Int32) (o : (Int32)) (hg : g_X0_isWhole w n1 = some o) : Con Z l yX0_isWhole cX0_isWhole 3 (some .boolean) rm_X0_isWhole [.ref h, .int n1] (wF Z h hw he w er fl) (some (.int o)) (wF Z h hw he w er fl) := by
  refine Con.of (by decide) (Nat.le_of_ble_eq_true rfl) ?_
  intro X hE0
  have hE : ∀ z, z = o → endsX X Z (some .boolean) (some (.int z)) (wF Z h hw he w er fl) := by
    rintro _ rfl; exact hE0
  have J2 : ∀ (n : Nat), ∀ (x1 : Int32) (x2 : Int32), g_X0_isWhole_2 w n x1 x2 = some o → AtK X Z rm_X0_isWhole cX0_isWhole RX0 3 0 0 (wF Z h hw he w er fl) 2 [(0, .ref h), (1, .int x1), (2, .int x2)] [] := by
    intro  n
    induction n with
    | zero => intro x1 x2 hg; exact nomatch (show (none : Option _) = some o from hg)
    | succ n ih =>
      intro x1 x2 hg
      unfold g_X0_isWhole_2 at hg
      refine r_iload_n dX0_isWhole_2 2 rfl ?_
      refine r_iconst (v := 5) dX0_isWhole_3 kic_5 ?_
      refine r_icmp_ge (tgt := 26) dX0_isWhole_4 (by decide) (fun h4 => ?_) (fun h4 => ?_)
      · replace hg := (if_pos h4).symm.trans hg
        refine r_aload_n dX0_isWhole_26 0 rfl ?_
        refine r_iload_n dX0_isWhole_27 1 rfl ?_
        refine r_iconst (v := 0) dX0_isWhole_28 kic_0 ?_
        obtain ⟨o29, e29, hg⟩ := ob hg
        refine r_callV (As := [.int x1, .int 0]) (rest := []) (ws' := wF Z h hw he w er fl) 0 rfl rfl rfl (fun l => c_X0_read Z l h hw he w er fl x1 0 o29 e29) qw_328 mv_X0_read (xPk.all rfl) ⟨Nat.le_of_ble_eq_true rfl, Nat.le_of_ble_eq_true rfl⟩ ⟨rfl, rfl⟩ ⟨Nat.zero_le _, Nat.zero_le _⟩ rfl (Nat.le_of_ble_eq_true rfl) rfl dX0_isWhole_29 ?_
        refine r_aload_n dX0_isWhole_32 0 rfl ?_
        refine r_iload_n dX0_isWhole_33 1 rfl ?_
        refine r_iconst (v := 1) dX0_isWhole_34 kic_1 ?_
        obtain ⟨o35, e35, hg⟩ := ob hg
        refine r_callV (As := [.int x1, .int 1]) (rest := [.int o29]) (ws' := wF Z h hw he w er fl) 0 rfl rfl rfl (fun l => c_X0_read Z l h hw he w er fl x1 1 o35 e35) qw_328 mv_X0_read (xPk.all rfl) ⟨Nat.le_of_ble_eq_true rfl, Nat.le_of_ble_eq_true rfl⟩ ⟨rfl, rfl⟩ ⟨Nat.zero_le _, Nat.zero_le _⟩ rfl (Nat.le_of_ble_eq_true rfl) rfl dX0_isWhole_35 ?_
        refine r_aload_n dX0_isWhole_38 0 rfl ?_
        refine r_iload_n dX0_isWhole_39 1 rfl ?_
        refine r_iconst (v := 2) dX0_isWhole_40 kic_2 ?_
        obtain ⟨o41, e41, hg⟩ := ob hg
        refine r_callV (As := [.int x1, .int 2]) (rest := [.int o35, .int o29]) (ws' := wF Z h hw he w er fl) 0 rfl rfl rfl (fun l => c_X0_read Z l h hw he w er fl x1 2 o41 e41) qw_328 mv_X0_read (xPk.all rfl) ⟨Nat.le_of_ble_eq_true rfl, Nat.le_of_ble_eq_true rfl⟩ ⟨rfl, rfl⟩ ⟨Nat.zero_le _, Nat.zero_le _⟩ rfl (Nat.le_of_ble_eq_true rfl) rfl dX0_isWhole_41 ?_
        refine r_aload_n dX0_isWhole_44 0 rfl ?_
        refine r_iload_n dX0_isWhole_45 1 rfl ?_
        refine r_iconst (v := 3) dX0_isWhole_46 kic_3 ?_
        obtain ⟨o47, e47, hg⟩ := ob hg
        refine r_callV (As := [.int x1, .int 3]) (rest := [.int o41, .int o35, .int o29]) (ws' := wF Z h hw he w er fl) 0 rfl rfl rfl (fun l => c_X0_read Z l h hw he w er fl x1 3 o47 e47) qw_328 mv_X0_read (xPk.all rfl) ⟨Nat.le_of_ble_eq_true rfl, Nat.le_of_ble_eq_true rfl⟩ ⟨rfl, rfl⟩ ⟨Nat.zero_le _, Nat.zero_le _⟩ rfl (Nat.le_of_ble_eq_true rfl) rfl dX0_isWhole_47 ?_
        refine r_aload_n dX0_isWhole_50 0 rfl ?_
        refine r_iload_n dX0_isWhole_51 1 rfl ?_
        refine r_iconst (v := 4) dX0_isWhole_52 kic_4 ?_
        obtain ⟨o53, e53, hg⟩ := ob hg
        refine r_callV (As := [.int x1, .int 4]) (rest := [.int o47, .int o41, .int o35, .int o29]) (ws' := wF Z h hw he w er fl) 0 rfl rfl rfl (fun l => c_X0_read Z l h hw he w er fl x1 4 o53 e53) qw_328 mv_X0_read (xPk.all rfl) ⟨Nat.le_of_ble_eq_true rfl, Nat.le_of_ble_eq_true rfl⟩ ⟨rfl, rfl⟩ ⟨Nat.zero_le _, Nat.zero_le _⟩ rfl (Nat.le_of_ble_eq_true rfl) rfl dX0_isWhole_53 ?_
        obtain ⟨o56, e56, hg⟩ := ob hg
        refine r_callSN (As := [.int o29, .int o35, .int o41, .int o47, .int o53]) (rest := []) (ws' := wF Z h hw he w er fl) (fun l => c_X6_headerCheck Z l   o29 o35 o41 o47 o53 o56 e56) qw_403 ms_X6_headerCheck xPk.none ⟨Nat.le_of_ble_eq_true rfl, Nat.le_of_ble_eq_true rfl⟩ ⟨rfl, rfl⟩ ⟨Nat.zero_le _, Nat.zero_le _⟩ rfl (Nat.le_of_ble_eq_true rfl) rfl dX0_isWhole_56 ?_
        refine r_istore_n (lv' := [(2, .int o56), (0, .ref h), (1, .int x1)]) dX0_isWhole_59 (by decide) rfl ?_
        refine r_aload_n dX0_isWhole_60 1 rfl ?_
        refine r_iload_n dX0_isWhole_61 2 rfl ?_
        refine r_iconst (v := 5) dX0_isWhole_62 kic_5 ?_
        obtain ⟨o63, e63, hg⟩ := ob hg
        refine r_callV (As := [.int x1, .int 5]) (rest := []) (ws' := wF Z h hw he w er fl) 0 rfl rfl rfl (fun l => c_X0_read Z l h hw he w er fl x1 5 o63 e63) qw_328 mv_X0_read (xPk.all rfl) ⟨Nat.le_of_ble_eq_true rfl, Nat.le_of_ble_eq_true rfl⟩ ⟨rfl, rfl⟩ ⟨Nat.zero_le _, Nat.zero_le _⟩ rfl (Nat.le_of_ble_eq_true rfl) rfl dX0_isWhole_63 ?_
        refine r_iload_n dX0_isWhole_66 0 rfl ?_
        refine r_icmp_ne (tgt := 74) dX0_isWhole_67 (by decide) (fun h67 => ?_) (fun h67 => ?_)
        · replace hg := (if_neg h67).symm.trans hg
          refine r_iconst (v := 0) dX0_isWhole_74 kic_0 ?_
          exact r_bret (hE _ (Option.some.inj hg)) (by decide) dX0_isWhole_75
        · replace hg := (if_pos h67).symm.trans hg
          refine r_iconst (v := 1) dX0_isWhole_70 kic_1 ?_
          refine r_goto (tgt := 75) dX0_isWhole_71 (by decide) ?_
          exact r_bret (hE _ (Option.some.inj hg)) (by decide) dX0_isWhole_75
      · replace hg := (if_neg h4).symm.trans hg
        refine r_aload_n dX0_isWhole_7 0 rfl ?_
        refine r_iload_n dX0_isWhole_8 1 rfl ?_
        refine r_iload_n dX0_isWhole_9 2 rfl ?_
        obtain ⟨o10, e10, hg⟩ := ob hg
        refine r_callV (As := [.int x1, .int x2]) (rest := []) (ws' := wF Z h hw he w er fl) 0 rfl rfl rfl (fun l => c_X0_read Z l h hw he w er fl x1 x2 o10 e10) qw_328 mv_X0_read (xPk.all rfl) ⟨Nat.le_of_ble_eq_true rfl, Nat.le_of_ble_eq_true rfl⟩ ⟨rfl, rfl⟩ ⟨Nat.zero_le _, Nat.zero_le _⟩ rfl (Nat.le_of_ble_eq_true rfl) rfl dX0_isWhole_10 ?_
        refine r_ldc qw_42 dX0_isWhole_13 ?_
        refine r_icmp_ne (tgt := 20) dX0_isWhole_15 (by decide) (fun h15 => ?_) (fun h15 => ?_)
        · replace hg := (if_neg h15).symm.trans hg
          refine r_iinc (v := (x2 + 1)) (lv' := [(2, .int (x2 + 1)), (0, .ref h), (1, .int x1)]) dX0_isWhole_20 (k := 2) rfl rfl (by decide) rfl ?_
          refine r_goto (tgt := 2) dX0_isWhole_23 (by decide) ?_
          exact r_sub [1, 2, 0] rfl (ih x1 (x2 + 1) hg)
        · replace hg := (if_pos h15).symm.trans hg
          refine r_iconst (v := 0) dX0_isWhole_18 kic_0 ?_
          exact r_bret (hE _ (Option.some.inj hg)) (by decide) dX0_isWhole_19
  unfold g_X0_isWhole at hg
  show AtK X Z rm_X0_isWhole cX0_isWhole RX0 3 0 0 (wF Z h hw he w er fl) 0 [(0, .ref h), (1, .int n1)] []
  refine r_iconst (v := 0) dX0_isWhole_0 kic_0 ?_
  refine r_istore_n (lv' := [(2, .int 0), (0, .ref h), (1, .int n1)]) dX0_isWhole_1 (by decide) rfl ?_
  exact r_sub [1, 2, 0] rfl (J2 12 n1 0 hg)

-- TicketJournal$Flash.isEmpty(II)Z
abbrev rm_X0_isEmpty : Room := { frames := 2, cells := 0, slots := 0, locals := 46 }
def g_X0_isEmpty_2 (w : Nat → Int32)  : Nat → Int32 → Int32 → Int32 → Option (Int32)
  | 0 => fun _ _ _ => none
  | n + 1 => fun x1 x2 x3 => (if 4 ≤ x3 then some (1) else (g_X0_recordWord w x1 x2 x3).bind fun o11 => (if o11 = 65535 then (g_X0_isEmpty_2 w n) x1 x2 (x3 + 1) else some (0)))
def g_X0_isEmpty (w : Nat → Int32) (n1 : Int32) (n2 : Int32) : Option (Int32) :=
  g_X0_isEmpty_2 w 12 n1 n2 0
set_option maxHeartbeats 4000000 in
set_option maxRecDepth 100000 in
theorem c_X0_isEmpty (Z : GZ) (l : Launch) (h : Nat) (hw : Nat) (he : Nat) (w : Nat → Int32) (er : Nat → Int32) (fl : Nat → Int32) (n1 : Int32) (n2 : Int32) (o : (Int32)) (hg : g_X0_isEmpty w n1 n2 = some o) : Con Z l yX0_isEmpty cX0_isEmpty 4 (some .boolean) rm_X0_isEmpty [.ref h, .int n1, .int n2] (wF Z h hw he w er fl) (some (.int o)) (wF Z h hw he w er fl) := by
  refine Con.of (by decide) (Nat.le_of_ble_eq_true rfl) ?_
  intro X hE0
  have hE : ∀ z, z = o → endsX X Z (some .boolean) (some (.int z)) (wF Z h hw he w er fl) := by
    rintro _ rfl; exact hE0
  have J2 : ∀ (n : Nat), ∀ (x1 : Int32) (x2 : Int32) (x3 : Int32), g_X0_isEmpty_2 w n x1 x2 x3 = some o → AtK X Z rm_X0_isEmpty cX0_isEmpty RX0 4 0 0 (wF Z h hw he w er fl) 2 [(0, .ref h), (1, .int x1), (2, .int x2), (3, .int x3)] [] := by
    intro  n
    induction n with
    | zero => intro x1 x2 x3 hg; exact nomatch (show (none : Option _) = some o from hg)
    | succ n ih =>
      intro x1 x2 x3 hg
      unfold g_X0_isEmpty_2 at hg
      refine r_iload_n dX0_isEmpty_2 3 rfl ?_
      refine r_iconst (v := 4) dX0_isEmpty_3 kic_4 ?_
      refine r_icmp_ge (tgt := 27) dX0_isEmpty_4 (by decide) (fun h4 => ?_) (fun h4 => ?_)
      · replace hg := (if_pos h4).symm.trans hg
        refine r_iconst (v := 1) dX0_isEmpty_27 kic_1 ?_
        exact r_bret (hE _ (Option.some.inj hg)) (by decide) dX0_isEmpty_28
      · replace hg := (if_neg h4).symm.trans hg
        refine r_aload_n dX0_isEmpty_7 0 rfl ?_
        refine r_iload_n dX0_isEmpty_8 1 rfl ?_
        refine r_iload_n dX0_isEmpty_9 2 rfl ?_
        refine r_iload_n dX0_isEmpty_10 3 rfl ?_
        obtain ⟨o11, e11, hg⟩ := ob hg
        refine r_callV (As := [.int x1, .int x2, .int x3]) (rest := []) (ws' := wF Z h hw he w er fl) 0 rfl rfl rfl (fun l => c_X0_recordWord Z l h hw he w er fl x1 x2 x3 o11 e11) qw_324 mv_X0_recordWord (xPk.all rfl) ⟨Nat.le_of_ble_eq_true rfl, Nat.le_of_ble_eq_true rfl⟩ ⟨rfl, rfl⟩ ⟨Nat.zero_le _, Nat.zero_le _⟩ rfl (Nat.le_of_ble_eq_true rfl) rfl dX0_isEmpty_11 ?_
        refine r_ldc qw_42 dX0_isEmpty_14 ?_
        refine r_icmp_eq (tgt := 21) dX0_isEmpty_16 (by decide) (fun h16 => ?_) (fun h16 => ?_)
        · replace hg := (if_pos h16).symm.trans hg
          refine r_iinc (v := (x3 + 1)) (lv' := [(3, .int (x3 + 1)), (0, .ref h), (1, .int x1), (2, .int x2)]) dX0_isEmpty_21 (k := 3) rfl rfl (by decide) rfl ?_
          refine r_goto (tgt := 2) dX0_isEmpty_24 (by decide) ?_
          exact r_sub [1, 2, 3, 0] rfl (ih x1 x2 (x3 + 1) hg)
        · replace hg := (if_neg h16).symm.trans hg
          refine r_iconst (v := 0) dX0_isEmpty_19 kic_0 ?_
          exact r_bret (hE _ (Option.some.inj hg)) (by decide) dX0_isEmpty_20
  unfold g_X0_isEmpty at hg
  show AtK X Z rm_X0_isEmpty cX0_isEmpty RX0 4 0 0 (wF Z h hw he w er fl) 0 [(0, .ref h), (1, .int n1), (2, .int n2)] []
  refine r_iconst (v := 0) dX0_isEmpty_0 kic_0 ?_
  refine r_istore_n (lv' := [(3, .int 0), (0, .ref h), (1, .int n1), (2, .int n2)]) dX0_isEmpty_1 (by decide) rfl ?_
  exact r_sub [1, 2, 3, 0] rfl (J2 12 n1 n2 0 hg)

-- TicketJournal$Flash.stateOf(II)I
abbrev rm_X0_stateOf : Room := { frames := 3, cells := 0, slots := 0, locals := 69 }
def g_X0_stateOf (w : Nat → Int32) (n1 : Int32) (n2 : Int32) : Option (Int32) :=
  (g_X0_isEmpty w n1 n2).bind fun o3 => (if o3 = 0 then (g_X0_recordWord w n1 n2 0).bind fun o15 => (g_X0_recordWord w n1 n2 1).bind fun o22 => (g_X0_recordWord w n1 n2 2).bind fun o29 => (g_X0_read w n1 0).bind fun o35 => (g_X6_recordCheck o15 o22 o29 o35).bind fun o38 => (g_X0_recordWord w n1 n2 3).bind fun o46 => (if o46 = o38 then some (1) else some (2)) else some (0))
set_option maxHeartbeats 4000000 in
set_option maxRecDepth 100000 in
theorem c_X0_stateOf (Z : GZ) (l : Launch) (h : Nat) (hw : Nat) (he : Nat) (w : Nat → Int32) (er : Nat → Int32) (fl : Nat → Int32) (n1 : Int32) (n2 : Int32) (o : (Int32)) (hg : g_X0_stateOf w n1 n2 = some o) : Con Z l yX0_stateOf cX0_stateOf 4 (some .int) rm_X0_stateOf [.ref h, .int n1, .int n2] (wF Z h hw he w er fl) (some (.int o)) (wF Z h hw he w er fl) := by
  refine Con.of (by decide) (Nat.le_of_ble_eq_true rfl) ?_
  intro X hE0
  have hE : ∀ z, z = o → endsX X Z (some .int) (some (.int z)) (wF Z h hw he w er fl) := by
    rintro _ rfl; exact hE0
  unfold g_X0_stateOf at hg
  show AtK X Z rm_X0_stateOf cX0_stateOf RX0 4 0 0 (wF Z h hw he w er fl) 0 [(0, .ref h), (1, .int n1), (2, .int n2)] []
  refine r_aload_n dX0_stateOf_0 0 rfl ?_
  refine r_iload_n dX0_stateOf_1 1 rfl ?_
  refine r_iload_n dX0_stateOf_2 2 rfl ?_
  obtain ⟨o3, e3, hg⟩ := ob hg
  refine r_callV (As := [.int n1, .int n2]) (rest := []) (ws' := wF Z h hw he w er fl) 0 rfl rfl rfl (fun l => c_X0_isEmpty Z l h hw he w er fl n1 n2 o3 e3) qw_320 mv_X0_isEmpty (xPk.all rfl) ⟨Nat.le_of_ble_eq_true rfl, Nat.le_of_ble_eq_true rfl⟩ ⟨rfl, rfl⟩ ⟨Nat.zero_le _, Nat.zero_le _⟩ rfl (Nat.le_of_ble_eq_true rfl) rfl dX0_stateOf_3 ?_
  refine r_if_eq (tgt := 11) dX0_stateOf_6 (by decide) (fun h6 => ?_) (fun h6 => ?_)
  · replace hg := (if_pos h6).symm.trans hg
    refine r_aload_n dX0_stateOf_11 0 rfl ?_
    refine r_iload_n dX0_stateOf_12 1 rfl ?_
    refine r_iload_n dX0_stateOf_13 2 rfl ?_
    refine r_iconst (v := 0) dX0_stateOf_14 kic_0 ?_
    obtain ⟨o15, e15, hg⟩ := ob hg
    refine r_callV (As := [.int n1, .int n2, .int 0]) (rest := []) (ws' := wF Z h hw he w er fl) 0 rfl rfl rfl (fun l => c_X0_recordWord Z l h hw he w er fl n1 n2 0 o15 e15) qw_324 mv_X0_recordWord (xPk.all rfl) ⟨Nat.le_of_ble_eq_true rfl, Nat.le_of_ble_eq_true rfl⟩ ⟨rfl, rfl⟩ ⟨Nat.zero_le _, Nat.zero_le _⟩ rfl (Nat.le_of_ble_eq_true rfl) rfl dX0_stateOf_15 ?_
    refine r_aload_n dX0_stateOf_18 0 rfl ?_
    refine r_iload_n dX0_stateOf_19 1 rfl ?_
    refine r_iload_n dX0_stateOf_20 2 rfl ?_
    refine r_iconst (v := 1) dX0_stateOf_21 kic_1 ?_
    obtain ⟨o22, e22, hg⟩ := ob hg
    refine r_callV (As := [.int n1, .int n2, .int 1]) (rest := [.int o15]) (ws' := wF Z h hw he w er fl) 0 rfl rfl rfl (fun l => c_X0_recordWord Z l h hw he w er fl n1 n2 1 o22 e22) qw_324 mv_X0_recordWord (xPk.all rfl) ⟨Nat.le_of_ble_eq_true rfl, Nat.le_of_ble_eq_true rfl⟩ ⟨rfl, rfl⟩ ⟨Nat.zero_le _, Nat.zero_le _⟩ rfl (Nat.le_of_ble_eq_true rfl) rfl dX0_stateOf_22 ?_
    refine r_aload_n dX0_stateOf_25 0 rfl ?_
    refine r_iload_n dX0_stateOf_26 1 rfl ?_
    refine r_iload_n dX0_stateOf_27 2 rfl ?_
    refine r_iconst (v := 2) dX0_stateOf_28 kic_2 ?_
    obtain ⟨o29, e29, hg⟩ := ob hg
    refine r_callV (As := [.int n1, .int n2, .int 2]) (rest := [.int o22, .int o15]) (ws' := wF Z h hw he w er fl) 0 rfl rfl rfl (fun l => c_X0_recordWord Z l h hw he w er fl n1 n2 2 o29 e29) qw_324 mv_X0_recordWord (xPk.all rfl) ⟨Nat.le_of_ble_eq_true rfl, Nat.le_of_ble_eq_true rfl⟩ ⟨rfl, rfl⟩ ⟨Nat.zero_le _, Nat.zero_le _⟩ rfl (Nat.le_of_ble_eq_true rfl) rfl dX0_stateOf_29 ?_
    refine r_aload_n dX0_stateOf_32 0 rfl ?_
    refine r_iload_n dX0_stateOf_33 1 rfl ?_
    refine r_iconst (v := 0) dX0_stateOf_34 kic_0 ?_
    obtain ⟨o35, e35, hg⟩ := ob hg
    refine r_callV (As := [.int n1, .int 0]) (rest := [.int o29, .int o22, .int o15]) (ws' := wF Z h hw he w er fl) 0 rfl rfl rfl (fun l => c_X0_read Z l h hw he w er fl n1 0 o35 e35) qw_328 mv_X0_read (xPk.all rfl) ⟨Nat.le_of_ble_eq_true rfl, Nat.le_of_ble_eq_true rfl⟩ ⟨rfl, rfl⟩ ⟨Nat.zero_le _, Nat.zero_le _⟩ rfl (Nat.le_of_ble_eq_true rfl) rfl dX0_stateOf_35 ?_
    obtain ⟨o38, e38, hg⟩ := ob hg
    refine r_callSN (As := [.int o15, .int o22, .int o29, .int o35]) (rest := []) (ws' := wF Z h hw he w er fl) (fun l => c_X6_recordCheck Z l   o15 o22 o29 o35 o38 e38) qw_329 ms_X6_recordCheck xPk.none ⟨Nat.le_of_ble_eq_true rfl, Nat.le_of_ble_eq_true rfl⟩ ⟨rfl, rfl⟩ ⟨Nat.zero_le _, Nat.zero_le _⟩ rfl (Nat.le_of_ble_eq_true rfl) rfl dX0_stateOf_38 ?_
    refine r_istore_n (lv' := [(3, .int o38), (0, .ref h), (1, .int n1), (2, .int n2)]) dX0_stateOf_41 (by decide) rfl ?_
    refine r_aload_n dX0_stateOf_42 1 rfl ?_
    refine r_iload_n dX0_stateOf_43 2 rfl ?_
    refine r_iload_n dX0_stateOf_44 3 rfl ?_
    refine r_iconst (v := 3) dX0_stateOf_45 kic_3 ?_
    obtain ⟨o46, e46, hg⟩ := ob hg
    refine r_callV (As := [.int n1, .int n2, .int 3]) (rest := []) (ws' := wF Z h hw he w er fl) 0 rfl rfl rfl (fun l => c_X0_recordWord Z l h hw he w er fl n1 n2 3 o46 e46) qw_324 mv_X0_recordWord (xPk.all rfl) ⟨Nat.le_of_ble_eq_true rfl, Nat.le_of_ble_eq_true rfl⟩ ⟨rfl, rfl⟩ ⟨Nat.zero_le _, Nat.zero_le _⟩ rfl (Nat.le_of_ble_eq_true rfl) rfl dX0_stateOf_46 ?_
    refine r_iload_n dX0_stateOf_49 0 rfl ?_
    refine r_icmp_ne (tgt := 57) dX0_stateOf_50 (by decide) (fun h50 => ?_) (fun h50 => ?_)
    · replace hg := (if_neg h50).symm.trans hg
      refine r_iconst (v := 2) dX0_stateOf_57 kic_2 ?_
      exact r_iret (hE _ (Option.some.inj hg)) dX0_stateOf_58
    · replace hg := (if_pos h50).symm.trans hg
      refine r_iconst (v := 1) dX0_stateOf_53 kic_1 ?_
      refine r_goto (tgt := 58) dX0_stateOf_54 (by decide) ?_
      exact r_iret (hE _ (Option.some.inj hg)) dX0_stateOf_58
  · replace hg := (if_neg h6).symm.trans hg
    refine r_iconst (v := 0) dX0_stateOf_9 kic_0 ?_
    exact r_iret (hE _ (Option.some.inj hg)) dX0_stateOf_10

-- TicketJournal$Flash.tallyIn(II)I
abbrev rm_X0_tallyIn : Room := { frames := 4, cells := 0, slots := 0, locals := 92 }
def g_X0_tallyIn_35 (w : Nat → Int32) (k15 : Int32 → Int32 → Int32 → Int32 → Option (Int32)) (x1 : Int32) (x2 : Int32) (x3 : Int32) (x4 : Int32) : Option (Int32) :=
  k15 x1 x2 x3 (x4 + 1)
def g_X0_tallyIn_15 (w : Nat → Int32)  : Nat → Int32 → Int32 → Int32 → Int32 → Option (Int32)
  | 0 => fun _ _ _ _ => none
  | n + 1 => fun x1 x2 x3 x4 => (if 4 ≤ x4 then some (x3) else (g_X0_stateOf w x1 x4).bind fun o25 => (if o25 = x2 then g_X0_tallyIn_35 w (g_X0_tallyIn_15 w n) x1 x2 (x3 + 1) x4 else g_X0_tallyIn_35 w (g_X0_tallyIn_15 w n) x1 x2 x3 x4))
def g_X0_tallyIn (w : Nat → Int32) (n1 : Int32) (n2 : Int32) : Option (Int32) :=
  (g_X0_isWhole w n1).bind fun o2 => (if o2 = 0 then some (0) else g_X0_tallyIn_15 w 12 n1 n2 0 0)
set_option maxHeartbeats 4000000 in
set_option maxRecDepth 100000 in
theorem c_X0_tallyIn (Z : GZ) (l : Launch) (h : Nat) (hw : Nat) (he : Nat) (w : Nat → Int32) (er : Nat → Int32) (fl : Nat → Int32) (n1 : Int32) (n2 : Int32) (o : (Int32)) (hg : g_X0_tallyIn w n1 n2 = some o) : Con Z l yX0_tallyIn cX0_tallyIn 5 (some .int) rm_X0_tallyIn [.ref h, .int n1, .int n2] (wF Z h hw he w er fl) (some (.int o)) (wF Z h hw he w er fl) := by
  refine Con.of (by decide) (Nat.le_of_ble_eq_true rfl) ?_
  intro X hE0
  have hE : ∀ z, z = o → endsX X Z (some .int) (some (.int z)) (wF Z h hw he w er fl) := by
    rintro _ rfl; exact hE0
  have J35 : ∀ (k15 : Int32 → Int32 → Int32 → Int32 → Option (Int32)) (hk15 : ∀ (x1 : Int32) (x2 : Int32) (x3 : Int32) (x4 : Int32), k15 x1 x2 x3 x4 = some o → AtK X Z rm_X0_tallyIn cX0_tallyIn RX0 5 0 0 (wF Z h hw he w er fl) 15 [(0, .ref h), (1, .int x1), (2, .int x2), (3, .int x3), (4, .int x4)] []), ∀ (x1 : Int32) (x2 : Int32) (x3 : Int32) (x4 : Int32), g_X0_tallyIn_35 w k15 x1 x2 x3 x4 = some o → AtK X Z rm_X0_tallyIn cX0_tallyIn RX0 5 0 0 (wF Z h hw he w er fl) 35 [(0, .ref h), (1, .int x1), (2, .int x2), (3, .int x3), (4, .int x4)] [] := by
    intro k15 hk15 x1 x2 x3 x4 hg
    unfold g_X0_tallyIn_35 at hg
    refine r_iinc (v := (x4 + 1)) (lv' := [(4, .int (x4 + 1)), (0, .ref h), (1, .int x1), (2, .int x2), (3, .int x3)]) dX0_tallyIn_35 (k := 4) rfl rfl (by decide) rfl ?_
    refine r_goto (tgt := 15) dX0_tallyIn_38 (by decide) ?_
    exact r_sub [1, 2, 3, 4, 0] rfl (hk15 x1 x2 x3 (x4 + 1) hg)
  have J15 : ∀ (n : Nat), ∀ (x1 : Int32) (x2 : Int32) (x3 : Int32) (x4 : Int32), g_X0_tallyIn_15 w n x1 x2 x3 x4 = some o → AtK X Z rm_X0_tallyIn cX0_tallyIn RX0 5 0 0 (wF Z h hw he w er fl) 15 [(0, .ref h), (1, .int x1), (2, .int x2), (3, .int x3), (4, .int x4)] [] := by
    intro  n
    induction n with
    | zero => intro x1 x2 x3 x4 hg; exact nomatch (show (none : Option _) = some o from hg)
    | succ n ih =>
      intro x1 x2 x3 x4 hg
      unfold g_X0_tallyIn_15 at hg
      refine r_iload dX0_tallyIn_15 4 rfl ?_
      refine r_iconst (v := 4) dX0_tallyIn_17 kic_4 ?_
      refine r_icmp_ge (tgt := 41) dX0_tallyIn_18 (by decide) (fun h18 => ?_) (fun h18 => ?_)
      · replace hg := (if_pos h18).symm.trans hg
        refine r_iload_n dX0_tallyIn_41 3 rfl ?_
        exact r_iret (hE _ (Option.some.inj hg)) dX0_tallyIn_42
      · replace hg := (if_neg h18).symm.trans hg
        refine r_aload_n dX0_tallyIn_21 0 rfl ?_
        refine r_iload_n dX0_tallyIn_22 1 rfl ?_
        refine r_iload dX0_tallyIn_23 4 rfl ?_
        obtain ⟨o25, e25, hg⟩ := ob hg
        refine r_callV (As := [.int x1, .int x4]) (rest := []) (ws' := wF Z h hw he w er fl) 0 rfl rfl rfl (fun l => c_X0_stateOf Z l h hw he w er fl x1 x4 o25 e25) qw_404 mv_X0_stateOf (xPk.all rfl) ⟨Nat.le_of_ble_eq_true rfl, Nat.le_of_ble_eq_true rfl⟩ ⟨rfl, rfl⟩ ⟨Nat.zero_le _, Nat.zero_le _⟩ rfl (Nat.le_of_ble_eq_true rfl) rfl dX0_tallyIn_25 ?_
        refine r_iload_n dX0_tallyIn_28 2 rfl ?_
        refine r_icmp_ne (tgt := 35) dX0_tallyIn_29 (by decide) (fun h29 => ?_) (fun h29 => ?_)
        · replace hg := (if_neg h29).symm.trans hg
          exact r_sub [0, 1, 2, 3, 4] rfl (J35 (g_X0_tallyIn_15 w n) ih x1 x2 x3 x4 hg)
        · replace hg := (if_pos h29).symm.trans hg
          refine r_iinc (v := (x3 + 1)) (lv' := [(3, .int (x3 + 1)), (0, .ref h), (1, .int x1), (2, .int x2), (4, .int x4)]) dX0_tallyIn_32 (k := 3) rfl rfl (by decide) rfl ?_
          exact r_sub [1, 2, 3, 0, 4] rfl (J35 (g_X0_tallyIn_15 w n) ih x1 x2 (x3 + 1) x4 hg)
  unfold g_X0_tallyIn at hg
  show AtK X Z rm_X0_tallyIn cX0_tallyIn RX0 5 0 0 (wF Z h hw he w er fl) 0 [(0, .ref h), (1, .int n1), (2, .int n2)] []
  refine r_aload_n dX0_tallyIn_0 0 rfl ?_
  refine r_iload_n dX0_tallyIn_1 1 rfl ?_
  obtain ⟨o2, e2, hg⟩ := ob hg
  refine r_callV (As := [.int n1]) (rest := []) (ws' := wF Z h hw he w er fl) 0 rfl rfl rfl (fun l => c_X0_isWhole Z l h hw he w er fl n1 o2 e2) qw_399 mv_X0_isWhole (xPk.all rfl) ⟨Nat.le_of_ble_eq_true rfl, Nat.le_of_ble_eq_true rfl⟩ ⟨rfl, rfl⟩ ⟨Nat.zero_le _, Nat.zero_le _⟩ rfl (Nat.le_of_ble_eq_true rfl) rfl dX0_tallyIn_2 ?_
  refine r_if_ne (tgt := 10) dX0_tallyIn_5 (by decide) (fun h5 => ?_) (fun h5 => ?_)
  · replace hg := (if_neg h5).symm.trans hg
    refine r_iconst (v := 0) dX0_tallyIn_10 kic_0 ?_
    refine r_istore_n (lv' := [(3, .int 0), (0, .ref h), (1, .int n1), (2, .int n2)]) dX0_tallyIn_11 (by decide) rfl ?_
    refine r_iconst (v := 0) dX0_tallyIn_12 kic_0 ?_
    refine r_istore (lv' := [(4, .int 0), (3, .int 0), (0, .ref h), (1, .int n1), (2, .int n2)]) dX0_tallyIn_13 (by decide) rfl ?_
    exact r_sub [2, 3, 4, 1, 0] rfl (J15 12 n1 n2 0 0 hg)
  · replace hg := (if_pos h5).symm.trans hg
    refine r_iconst (v := 0) dX0_tallyIn_8 kic_0 ?_
    exact r_iret (hE _ (Option.some.inj hg)) dX0_tallyIn_9

-- TicketJournal$Flash.tally(I)I
abbrev rm_X0_tally : Room := { frames := 5, cells := 0, slots := 0, locals := 116 }
def g_X0_tally_4 (w : Nat → Int32)  : Nat → Int32 → Int32 → Int32 → Option (Int32)
  | 0 => fun _ _ _ => none
  | n + 1 => fun x1 x2 x3 => (if 5 ≤ x3 then some (x2) else (g_X0_tallyIn w x3 x1).bind fun o13 => (g_X0_tally_4 w n) x1 (x2 + o13) (x3 + 1))
def g_X0_tally (w : Nat → Int32) (n1 : Int32) : Option (Int32) :=
  g_X0_tally_4 w 12 n1 0 0
set_option maxHeartbeats 4000000 in
set_option maxRecDepth 100000 in
theorem c_X0_tally (Z : GZ) (l : Launch) (h : Nat) (hw : Nat) (he : Nat) (w : Nat → Int32) (er : Nat → Int32) (fl : Nat → Int32) (n1 : Int32) (o : (Int32)) (hg : g_X0_tally w n1 = some o) : Con Z l yX0_tally cX0_tally 4 (some .int) rm_X0_tally [.ref h, .int n1] (wF Z h hw he w er fl) (some (.int o)) (wF Z h hw he w er fl) := by
  refine Con.of (by decide) (Nat.le_of_ble_eq_true rfl) ?_
  intro X hE0
  have hE : ∀ z, z = o → endsX X Z (some .int) (some (.int z)) (wF Z h hw he w er fl) := by
    rintro _ rfl; exact hE0
  have J4 : ∀ (n : Nat), ∀ (x1 : Int32) (x2 : Int32) (x3 : Int32), g_X0_tally_4 w n x1 x2 x3 = some o → AtK X Z rm_X0_tally cX0_tally RX0 4 0 0 (wF Z h hw he w er fl) 4 [(0, .ref h), (1, .int x1), (2, .int x2), (3, .int x3)] [] := by
    intro  n
    induction n with
    | zero => intro x1 x2 x3 hg; exact nomatch (show (none : Option _) = some o from hg)
    | succ n ih =>
      intro x1 x2 x3 hg
      unfold g_X0_tally_4 at hg
      refine r_iload_n dX0_tally_4 3 rfl ?_
      refine r_iconst (v := 5) dX0_tally_5 kic_5 ?_
      refine r_icmp_ge (tgt := 24) dX0_tally_6 (by decide) (fun h6 => ?_) (fun h6 => ?_)
      · replace hg := (if_pos h6).symm.trans hg
        refine r_iload_n dX0_tally_24 2 rfl ?_
        exact r_iret (hE _ (Option.some.inj hg)) dX0_tally_25
      · replace hg := (if_neg h6).symm.trans hg
        refine r_iload_n dX0_tally_9 2 rfl ?_
        refine r_aload_n dX0_tally_10 0 rfl ?_
        refine r_iload_n dX0_tally_11 3 rfl ?_
        refine r_iload_n dX0_tally_12 1 rfl ?_
        obtain ⟨o13, e13, hg⟩ := ob hg
        refine r_callV (As := [.int x3, .int x1]) (rest := [.int x2]) (ws' := wF Z h hw he w er fl) 0 rfl rfl rfl (fun l => c_X0_tallyIn Z l h hw he w er fl x3 x1 o13 e13) qw_395 mv_X0_tallyIn (xPk.all rfl) ⟨Nat.le_of_ble_eq_true rfl, Nat.le_of_ble_eq_true rfl⟩ ⟨rfl, rfl⟩ ⟨Nat.zero_le _, Nat.zero_le _⟩ rfl (Nat.le_of_ble_eq_true rfl) rfl dX0_tally_13 ?_
        refine r_iadd dX0_tally_16 ?_
        refine r_istore_n (lv' := [(2, .int (x2 + o13)), (0, .ref h), (1, .int x1), (3, .int x3)]) dX0_tally_17 (by decide) rfl ?_
        refine r_iinc (v := (x3 + 1)) (lv' := [(3, .int (x3 + 1)), (2, .int (x2 + o13)), (0, .ref h), (1, .int x1)]) dX0_tally_18 (k := 3) rfl rfl (by decide) rfl ?_
        refine r_goto (tgt := 4) dX0_tally_21 (by decide) ?_
        exact r_sub [2, 3, 1, 0] rfl (ih x1 (x2 + o13) (x3 + 1) hg)
  unfold g_X0_tally at hg
  show AtK X Z rm_X0_tally cX0_tally RX0 4 0 0 (wF Z h hw he w er fl) 0 [(0, .ref h), (1, .int n1)] []
  refine r_iconst (v := 0) dX0_tally_0 kic_0 ?_
  refine r_istore_n (lv' := [(2, .int 0), (0, .ref h), (1, .int n1)]) dX0_tally_1 (by decide) rfl ?_
  refine r_iconst (v := 0) dX0_tally_2 kic_0 ?_
  refine r_istore_n (lv' := [(3, .int 0), (2, .int 0), (0, .ref h), (1, .int n1)]) dX0_tally_3 (by decide) rfl ?_
  exact r_sub [2, 3, 1, 0] rfl (J4 12 n1 0 0 hg)

-- TicketJournal$Flash.isFollowed(I)Z
abbrev rm_X0_isFollowed : Room := { frames := 2, cells := 0, slots := 0, locals := 46 }
def g_X0_isFollowed_40 (w : Nat → Int32) (k15 : Int32 → Int32 → Option (Int32)) (x2 : Int32) (x3 : Int32) : Option (Int32) :=
  k15 x2 (x3 + 1)
def g_X0_isFollowed_15 (w : Nat → Int32)  : Nat → Int32 → Int32 → Option (Int32)
  | 0 => fun _ _ => none
  | n + 1 => fun x2 x3 => (if 5 ≤ x3 then some (0) else (g_X0_read w x3 0).bind fun o23 => (if o23 = x2 then (g_X0_isWhole w x3).bind fun o32 => (if o32 = 0 then g_X0_isFollowed_40 w (g_X0_isFollowed_15 w n) x2 x3 else some (1)) else g_X0_isFollowed_40 w (g_X0_isFollowed_15 w n) x2 x3))
def g_X0_isFollowed (w : Nat → Int32) (n1 : Int32) : Option (Int32) :=
  (g_X0_read w n1 0).bind fun o3 => g_X0_isFollowed_15 w 12 (jrem (o3 + 1) 10000) 0
set_option maxHeartbeats 4000000 in
set_option maxRecDepth 100000 in
theorem c_X0_isFollowed (Z : GZ) (l : Launch) (h : Nat) (hw : Nat) (he : Nat) (w : Nat → Int32) (er : Nat → Int32) (fl : Nat → Int32) (n1 : Int32) (o : (Int32)) (hg : g_X0_isFollowed w n1 = some o) : Con Z l yX0_isFollowed cX0_isFollowed 4 (some .boolean) rm_X0_isFollowed [.ref h, .int n1] (wF Z h hw he w er fl) (some (.int o)) (wF Z h hw he w er fl) := by
  refine Con.of (by decide) (Nat.le_of_ble_eq_true rfl) ?_
  intro X hE0
  have hE : ∀ z, z = o → endsX X Z (some .boolean) (some (.int z)) (wF Z h hw he w er fl) := by
    rintro _ rfl; exact hE0
  have J40 : ∀ (k15 : Int32 → Int32 → Option (Int32)) (hk15 : ∀ (x2 : Int32) (x3 : Int32), k15 x2 x3 = some o → AtK X Z rm_X0_isFollowed cX0_isFollowed RX0 4 0 0 (wF Z h hw he w er fl) 15 [(0, .ref h), (2, .int x2), (3, .int x3)] []), ∀ (x2 : Int32) (x3 : Int32), g_X0_isFollowed_40 w k15 x2 x3 = some o → AtK X Z rm_X0_isFollowed cX0_isFollowed RX0 4 0 0 (wF Z h hw he w er fl) 40 [(0, .ref h), (2, .int x2), (3, .int x3)] [] := by
    intro k15 hk15 x2 x3 hg
    unfold g_X0_isFollowed_40 at hg
    refine r_iinc (v := (x3 + 1)) (lv' := [(3, .int (x3 + 1)), (0, .ref h), (2, .int x2)]) dX0_isFollowed_40 (k := 2) rfl rfl (by decide) rfl ?_
    refine r_goto (tgt := 15) dX0_isFollowed_43 (by decide) ?_
    exact r_sub [1, 2, 0] rfl (hk15 x2 (x3 + 1) hg)
  have J15 : ∀ (n : Nat), ∀ (x2 : Int32) (x3 : Int32), g_X0_isFollowed_15 w n x2 x3 = some o → AtK X Z rm_X0_isFollowed cX0_isFollowed RX0 4 0 0 (wF Z h hw he w er fl) 15 [(0, .ref h), (2, .int x2), (3, .int x3)] [] := by
    intro  n
    induction n with
    | zero => intro x2 x3 hg; exact nomatch (show (none : Option _) = some o from hg)
    | succ n ih =>
      intro x2 x3 hg
      unfold g_X0_isFollowed_15 at hg
      refine r_iload_n dX0_isFollowed_15 2 rfl ?_
      refine r_iconst (v := 5) dX0_isFollowed_16 kic_5 ?_
      refine r_icmp_ge (tgt := 46) dX0_isFollowed_17 (by decide) (fun h17 => ?_) (fun h17 => ?_)
      · replace hg := (if_pos h17).symm.trans hg
        refine r_iconst (v := 0) dX0_isFollowed_46 kic_0 ?_
        exact r_bret (hE _ (Option.some.inj hg)) (by decide) dX0_isFollowed_47
      · replace hg := (if_neg h17).symm.trans hg
        refine r_aload_n dX0_isFollowed_20 0 rfl ?_
        refine r_iload_n dX0_isFollowed_21 2 rfl ?_
        refine r_iconst (v := 0) dX0_isFollowed_22 kic_0 ?_
        obtain ⟨o23, e23, hg⟩ := ob hg
        refine r_callV (As := [.int x3, .int 0]) (rest := []) (ws' := wF Z h hw he w er fl) 0 rfl rfl rfl (fun l => c_X0_read Z l h hw he w er fl x3 0 o23 e23) qw_328 mv_X0_read (xPk.all rfl) ⟨Nat.le_of_ble_eq_true rfl, Nat.le_of_ble_eq_true rfl⟩ ⟨rfl, rfl⟩ ⟨Nat.zero_le _, Nat.zero_le _⟩ rfl (Nat.le_of_ble_eq_true rfl) rfl dX0_isFollowed_23 ?_
        refine r_iload_n dX0_isFollowed_26 1 rfl ?_
        refine r_icmp_ne (tgt := 40) dX0_isFollowed_27 (by decide) (fun h27 => ?_) (fun h27 => ?_)
        · replace hg := (if_neg h27).symm.trans hg
          exact r_sub [0, 1, 2] rfl (J40 (g_X0_isFollowed_15 w n) ih x2 x3 hg)
        · replace hg := (if_pos h27).symm.trans hg
          refine r_aload_n dX0_isFollowed_30 0 rfl ?_
          refine r_iload_n dX0_isFollowed_31 2 rfl ?_
          obtain ⟨o32, e32, hg⟩ := ob hg
          refine r_callV (As := [.int x3]) (rest := []) (ws' := wF Z h hw he w er fl) 0 rfl rfl rfl (fun l => c_X0_isWhole Z l h hw he w er fl x3 o32 e32) qw_399 mv_X0_isWhole (xPk.all rfl) ⟨Nat.le_of_ble_eq_true rfl, Nat.le_of_ble_eq_true rfl⟩ ⟨rfl, rfl⟩ ⟨Nat.zero_le _, Nat.zero_le _⟩ rfl (Nat.le_of_ble_eq_true rfl) rfl dX0_isFollowed_32 ?_
          refine r_if_eq (tgt := 40) dX0_isFollowed_35 (by decide) (fun h35 => ?_) (fun h35 => ?_)
          · replace hg := (if_pos h35).symm.trans hg
            exact r_sub [0, 1, 2] rfl (J40 (g_X0_isFollowed_15 w n) ih x2 x3 hg)
          · replace hg := (if_neg h35).symm.trans hg
            refine r_iconst (v := 1) dX0_isFollowed_38 kic_1 ?_
            exact r_bret (hE _ (Option.some.inj hg)) (by decide) dX0_isFollowed_39
  unfold g_X0_isFollowed at hg
  show AtK X Z rm_X0_isFollowed cX0_isFollowed RX0 4 0 0 (wF Z h hw he w er fl) 0 [(0, .ref h), (1, .int n1)] []
  refine r_aload_n dX0_isFollowed_0 0 rfl ?_
  refine r_iload_n dX0_isFollowed_1 1 rfl ?_
  refine r_iconst (v := 0) dX0_isFollowed_2 kic_0 ?_
  obtain ⟨o3, e3, hg⟩ := ob hg
  refine r_callV (As := [.int n1, .int 0]) (rest := []) (ws' := wF Z h hw he w er fl) 0 rfl rfl rfl (fun l => c_X0_read Z l h hw he w er fl n1 0 o3 e3) qw_328 mv_X0_read (xPk.all rfl) ⟨Nat.le_of_ble_eq_true rfl, Nat.le_of_ble_eq_true rfl⟩ ⟨rfl, rfl⟩ ⟨Nat.zero_le _, Nat.zero_le _⟩ rfl (Nat.le_of_ble_eq_true rfl) rfl dX0_isFollowed_3 ?_
  refine r_iconst (v := 1) dX0_isFollowed_6 kic_1 ?_
  refine r_iadd dX0_isFollowed_7 ?_
  refine r_sipush (v := 10000) dX0_isFollowed_8 ksp_10000 ?_
  refine r_irem dX0_isFollowed_11 (by decide) ?_
  refine r_istore_n (lv' := [(2, .int (jrem (o3 + 1) 10000)), (0, .ref h), (1, .int n1)]) dX0_isFollowed_12 (by decide) rfl ?_
  refine r_iconst (v := 0) dX0_isFollowed_13 kic_0 ?_
  refine r_istore_n (lv' := [(3, .int 0), (2, .int (jrem (o3 + 1) 10000)), (0, .ref h), (1, .int n1)]) dX0_isFollowed_14 (by decide) rfl ?_
  exact r_sub [2, 1, 0] rfl (J15 12 (jrem (o3 + 1) 10000) 0 hg)

-- TicketJournal$Flash.newestBlock()I
abbrev rm_X0_newestBlock : Room := { frames := 3, cells := 0, slots := 0, locals := 69 }
def g_X0_newestBlock_25 (w : Nat → Int32) (k2 : Int32 → Option (Int32)) (x1 : Int32) : Option (Int32) :=
  k2 (x1 + 1)
def g_X0_newestBlock_2 (w : Nat → Int32)  : Nat → Int32 → Option (Int32)
  | 0 => fun _ => none
  | n + 1 => fun x1 => (if 5 ≤ x1 then some (0) else (g_X0_isWhole w x1).bind fun o9 => (if o9 = 0 then g_X0_newestBlock_25 w (g_X0_newestBlock_2 w n) x1 else (g_X0_isFollowed w x1).bind fun o17 => (if o17 = 0 then some (x1) else g_X0_newestBlock_25 w (g_X0_newestBlock_2 w n) x1)))
def g_X0_newestBlock (w : Nat → Int32)  : Option (Int32) :=
  g_X0_newestBlock_2 w 12 0
set_option maxHeartbeats 4000000 in
set_option maxRecDepth 100000 in
theorem c_X0_newestBlock (Z : GZ) (l : Launch) (h : Nat) (hw : Nat) (he : Nat) (w : Nat → Int32) (er : Nat → Int32) (fl : Nat → Int32)  (o : (Int32)) (hg : g_X0_newestBlock w = some o) : Con Z l yX0_newestBlock cX0_newestBlock 2 (some .int) rm_X0_newestBlock [.ref h] (wF Z h hw he w er fl) (some (.int o)) (wF Z h hw he w er fl) := by
  refine Con.of (by decide) (Nat.le_of_ble_eq_true rfl) ?_
  intro X hE0
  have hE : ∀ z, z = o → endsX X Z (some .int) (some (.int z)) (wF Z h hw he w er fl) := by
    rintro _ rfl; exact hE0
  have J25 : ∀ (k2 : Int32 → Option (Int32)) (hk2 : ∀ (x1 : Int32), k2 x1 = some o → AtK X Z rm_X0_newestBlock cX0_newestBlock RX0 2 0 0 (wF Z h hw he w er fl) 2 [(0, .ref h), (1, .int x1)] []), ∀ (x1 : Int32), g_X0_newestBlock_25 w k2 x1 = some o → AtK X Z rm_X0_newestBlock cX0_newestBlock RX0 2 0 0 (wF Z h hw he w er fl) 25 [(0, .ref h), (1, .int x1)] [] := by
    intro k2 hk2 x1 hg
    unfold g_X0_newestBlock_25 at hg
    refine r_iinc (v := (x1 + 1)) (lv' := [(1, .int (x1 + 1)), (0, .ref h)]) dX0_newestBlock_25 (k := 1) rfl rfl (by decide) rfl ?_
    refine r_goto (tgt := 2) dX0_newestBlock_28 (by decide) ?_
    exact r_sub [1, 0] rfl (hk2 (x1 + 1) hg)
  have J2 : ∀ (n : Nat), ∀ (x1 : Int32), g_X0_newestBlock_2 w n x1 = some o → AtK X Z rm_X0_newestBlock cX0_newestBlock RX0 2 0 0 (wF Z h hw he w er fl) 2 [(0, .ref h), (1, .int x1)] [] := by
    intro  n
    induction n with
    | zero => intro x1 hg; exact nomatch (show (none : Option _) = some o from hg)
    | succ n ih =>
      intro x1 hg
      unfold g_X0_newestBlock_2 at hg
      refine r_iload_n dX0_newestBlock_2 1 rfl ?_
      refine r_iconst (v := 5) dX0_newestBlock_3 kic_5 ?_
      refine r_icmp_ge (tgt := 31) dX0_newestBlock_4 (by decide) (fun h4 => ?_) (fun h4 => ?_)
      · replace hg := (if_pos h4).symm.trans hg
        refine r_iconst (v := 0) dX0_newestBlock_31 kic_0 ?_
        exact r_iret (hE _ (Option.some.inj hg)) dX0_newestBlock_32
      · replace hg := (if_neg h4).symm.trans hg
        refine r_aload_n dX0_newestBlock_7 0 rfl ?_
        refine r_iload_n dX0_newestBlock_8 1 rfl ?_
        obtain ⟨o9, e9, hg⟩ := ob hg
        refine r_callV (As := [.int x1]) (rest := []) (ws' := wF Z h hw he w er fl) 0 rfl rfl rfl (fun l => c_X0_isWhole Z l h hw he w er fl x1 o9 e9) qw_399 mv_X0_isWhole (xPk.all rfl) ⟨Nat.le_of_ble_eq_true rfl, Nat.le_of_ble_eq_true rfl⟩ ⟨rfl, rfl⟩ ⟨Nat.zero_le _, Nat.zero_le _⟩ rfl (Nat.le_of_ble_eq_true rfl) rfl dX0_newestBlock_9 ?_
        refine r_if_eq (tgt := 25) dX0_newestBlock_12 (by decide) (fun h12 => ?_) (fun h12 => ?_)
        · replace hg := (if_pos h12).symm.trans hg
          exact r_sub [0, 1] rfl (J25 (g_X0_newestBlock_2 w n) ih x1 hg)
        · replace hg := (if_neg h12).symm.trans hg
          refine r_aload_n dX0_newestBlock_15 0 rfl ?_
          refine r_iload_n dX0_newestBlock_16 1 rfl ?_
          obtain ⟨o17, e17, hg⟩ := ob hg
          refine r_callV (As := [.int x1]) (rest := []) (ws' := wF Z h hw he w er fl) 0 rfl rfl rfl (fun l => c_X0_isFollowed Z l h hw he w er fl x1 o17 e17) qw_421 mv_X0_isFollowed (xPk.all rfl) ⟨Nat.le_of_ble_eq_true rfl, Nat.le_of_ble_eq_true rfl⟩ ⟨rfl, rfl⟩ ⟨Nat.zero_le _, Nat.zero_le _⟩ rfl (Nat.le_of_ble_eq_true rfl) rfl dX0_newestBlock_17 ?_
          refine r_if_ne (tgt := 25) dX0_newestBlock_20 (by decide) (fun h20 => ?_) (fun h20 => ?_)
          · replace hg := (if_neg h20).symm.trans hg
            exact r_sub [0, 1] rfl (J25 (g_X0_newestBlock_2 w n) ih x1 hg)
          · replace hg := (if_pos h20).symm.trans hg
            refine r_iload_n dX0_newestBlock_23 1 rfl ?_
            exact r_iret (hE _ (Option.some.inj hg)) dX0_newestBlock_24
  unfold g_X0_newestBlock at hg
  show AtK X Z rm_X0_newestBlock cX0_newestBlock RX0 2 0 0 (wF Z h hw he w er fl) 0 [(0, .ref h)] []
  refine r_iconst (v := 0) dX0_newestBlock_0 kic_0 ?_
  refine r_istore_n (lv' := [(1, .int 0), (0, .ref h)]) dX0_newestBlock_1 (by decide) rfl ?_
  exact r_sub [1, 0] rfl (J2 12 0 hg)

-- TicketJournal$Flash.nextPlaceIn(I)I
abbrev rm_X0_nextPlaceIn : Room := { frames := 3, cells := 0, slots := 0, locals := 69 }
def g_X0_nextPlaceIn_23 (w : Nat → Int32)  (x2 : Int32) : Option (Int32) :=
  some (x2)
def g_X0_nextPlaceIn_2 (w : Nat → Int32)  : Nat → Int32 → Int32 → Option (Int32)
  | 0 => fun _ _ => none
  | n + 1 => fun x1 x2 => (if x2 ≤ 0 then g_X0_nextPlaceIn_23 w x2 else (g_X0_isEmpty w x1 (x2 - 1)).bind fun o11 => (if o11 = 0 then g_X0_nextPlaceIn_23 w x2 else (g_X0_nextPlaceIn_2 w n) x1 (x2 + (-1))))
def g_X0_nextPlaceIn (w : Nat → Int32) (n1 : Int32) : Option (Int32) :=
  g_X0_nextPlaceIn_2 w 12 n1 4
set_option maxHeartbeats 4000000 in
set_option maxRecDepth 100000 in
theorem c_X0_nextPlaceIn (Z : GZ) (l : Launch) (h : Nat) (hw : Nat) (he : Nat) (w : Nat → Int32) (er : Nat → Int32) (fl : Nat → Int32) (n1 : Int32) (o : (Int32)) (hg : g_X0_nextPlaceIn w n1 = some o) : Con Z l yX0_nextPlaceIn cX0_nextPlaceIn 3 (some .int) rm_X0_nextPlaceIn [.ref h, .int n1] (wF Z h hw he w er fl) (some (.int o)) (wF Z h hw he w er fl) := by
  refine Con.of (by decide) (Nat.le_of_ble_eq_true rfl) ?_
  intro X hE0
  have hE : ∀ z, z = o → endsX X Z (some .int) (some (.int z)) (wF Z h hw he w er fl) := by
    rintro _ rfl; exact hE0
  have J23 : ∀ (x2 : Int32), g_X0_nextPlaceIn_23 w x2 = some o → AtK X Z rm_X0_nextPlaceIn cX0_nextPlaceIn RX0 3 0 0 (wF Z h hw he w er fl) 23 [(2, .int x2)] [] := by
    intro x2 hg
    unfold g_X0_nextPlaceIn_23 at hg
    refine r_iload_n dX0_nextPlaceIn_23 0 rfl ?_
    exact r_iret (hE _ (Option.some.inj hg)) dX0_nextPlaceIn_24
  have J2 : ∀ (n : Nat), ∀ (x1 : Int32) (x2 : Int32), g_X0_nextPlaceIn_2 w n x1 x2 = some o → AtK X Z rm_X0_nextPlaceIn cX0_nextPlaceIn RX0 3 0 0 (wF Z h hw he w er fl) 2 [(0, .ref h), (1, .int x1), (2, .int x2)] [] := by
    intro  n
    induction n with
    | zero => intro x1 x2 hg; exact nomatch (show (none : Option _) = some o from hg)
    | succ n ih =>
      intro x1 x2 hg
      unfold g_X0_nextPlaceIn_2 at hg
      refine r_iload_n dX0_nextPlaceIn_2 2 rfl ?_
      refine r_if_le (tgt := 23) dX0_nextPlaceIn_3 (by decide) (fun h3 => ?_) (fun h3 => ?_)
      · replace hg := (if_pos h3).symm.trans hg
        exact r_sub [2] rfl (J23 x2 hg)
      · replace hg := (if_neg h3).symm.trans hg
        refine r_aload_n dX0_nextPlaceIn_6 0 rfl ?_
        refine r_iload_n dX0_nextPlaceIn_7 1 rfl ?_
        refine r_iload_n dX0_nextPlaceIn_8 2 rfl ?_
        refine r_iconst (v := 1) dX0_nextPlaceIn_9 kic_1 ?_
        refine r_isub dX0_nextPlaceIn_10 ?_
        obtain ⟨o11, e11, hg⟩ := ob hg
        refine r_callV (As := [.int x1, .int (x2 - 1)]) (rest := []) (ws' := wF Z h hw he w er fl) 0 rfl rfl rfl (fun l => c_X0_isEmpty Z l h hw he w er fl x1 (x2 - 1) o11 e11) qw_320 mv_X0_isEmpty (xPk.all rfl) ⟨Nat.le_of_ble_eq_true rfl, Nat.le_of_ble_eq_true rfl⟩ ⟨rfl, rfl⟩ ⟨Nat.zero_le _, Nat.zero_le _⟩ rfl (Nat.le_of_ble_eq_true rfl) rfl dX0_nextPlaceIn_11 ?_
        refine r_if_eq (tgt := 23) dX0_nextPlaceIn_14 (by decide) (fun h14 => ?_) (fun h14 => ?_)
        · replace hg := (if_pos h14).symm.trans hg
          exact r_sub [2] rfl (J23 x2 hg)
        · replace hg := (if_neg h14).symm.trans hg
          refine r_iinc (v := (x2 + (-1))) (lv' := [(2, .int (x2 + (-1))), (0, .ref h), (1, .int x1)]) dX0_nextPlaceIn_17 (k := 2) rfl rfl (by decide) rfl ?_
          refine r_goto (tgt := 2) dX0_nextPlaceIn_20 (by decide) ?_
          exact r_sub [1, 2, 0] rfl (ih x1 (x2 + (-1)) hg)
  unfold g_X0_nextPlaceIn at hg
  show AtK X Z rm_X0_nextPlaceIn cX0_nextPlaceIn RX0 3 0 0 (wF Z h hw he w er fl) 0 [(0, .ref h), (1, .int n1)] []
  refine r_iconst (v := 4) dX0_nextPlaceIn_0 kic_4 ?_
  refine r_istore_n (lv' := [(2, .int 4), (0, .ref h), (1, .int n1)]) dX0_nextPlaceIn_1 (by decide) rfl ?_
  exact r_sub [1, 2, 0] rfl (J2 12 n1 4 hg)

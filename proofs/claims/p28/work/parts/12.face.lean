-- TicketJournal.isImage(I)Z
abbrev rm_X6_isImage : Room := { frames := 0, cells := 0, slots := 0, locals := 0 }
def g_X6_isImage_26    : Option (Int32) :=
  some (0)
def g_X6_isImage  (n1 : Int32) : Option (Int32) :=
  (if n1 < 0 then g_X6_isImage_26 else (if 2 ≤ n1 then g_X6_isImage_26 else (if n1 = 0 then some (1) else (if n1 = 1 then some (1) else none))))
set_option maxHeartbeats 4000000 in
set_option maxRecDepth 100000 in
theorem c_X6_isImage (Z : GZ) (l : Launch) (t : Nat) (pr0 : Nat) (tr0 : Nat) (hj : Nat) (hq : Nat) (hi : Nat) (IH : Nat → Nat)  (n1 : Int32) (o : (Int32)) (hg : g_X6_isImage n1 = some o) : Con Z l yX6_isImage cX6_isImage 2 (some .boolean) rm_X6_isImage [.ref t, .int n1] (wT Z t pr0 tr0 hj hq hi ++ (wI0 Z hi IH)) (some (.int o)) (wT Z t pr0 tr0 hj hq hi ++ (wI0 Z hi IH)) := by
  refine Con.of (by decide) (Nat.le_of_ble_eq_true rfl) ?_
  intro X hE0
  have hE : ∀ z, z = o → endsX X Z (some .boolean) (some (.int z)) (wT Z t pr0 tr0 hj hq hi ++ (wI0 Z hi IH)) := by
    rintro _ rfl; exact hE0
  have J26 : g_X6_isImage_26 = some o → AtK X Z rm_X6_isImage cX6_isImage RX6 2 0 0 (wT Z t pr0 tr0 hj hq hi ++ (wI0 Z hi IH)) 26 [] [] := by
    intro  hg
    unfold g_X6_isImage_26 at hg
    refine r_iconst (v := 0) dX6_isImage_26 kic_0 ?_
    exact r_bret (hE _ (Option.some.inj hg)) (by decide) dX6_isImage_27
  unfold g_X6_isImage at hg
  show AtK X Z rm_X6_isImage cX6_isImage RX6 2 0 0 (wT Z t pr0 tr0 hj hq hi ++ (wI0 Z hi IH)) 0 [(0, .ref t), (1, .int n1)] []
  refine r_iload_n dX6_isImage_0 1 rfl ?_
  refine r_if_lt (tgt := 26) dX6_isImage_1 (by decide) (fun h1 => ?_) (fun h1 => ?_)
  · replace hg := (if_pos h1).symm.trans hg
    exact r_sub [] rfl (J26 hg)
  · replace hg := (if_neg h1).symm.trans hg
    refine r_iload_n dX6_isImage_4 1 rfl ?_
    refine r_aload_n dX6_isImage_5 0 rfl ?_
    refine gf_X6_4 (v := .ref hi) 0 rfl rfl qw_179 dX6_isImage_6 ?_
    refine r_alen 1 2 rfl rfl (v := 2) (by decide) dX6_isImage_9 ?_
    refine r_icmp_ge (tgt := 26) dX6_isImage_10 (by decide) (fun h10 => ?_) (fun h10 => ?_)
    · replace hg := (if_pos h10).symm.trans hg
      exact r_sub [] rfl (J26 hg)
    · replace hg := (if_neg h10).symm.trans hg
      refine r_aload_n dX6_isImage_13 0 rfl ?_
      refine gf_X6_4 (v := .ref hi) 0 rfl rfl qw_179 dX6_isImage_14 ?_
      refine r_iload_n dX6_isImage_17 1 rfl ?_
      by_cases h18_0 : n1 = 0
      · replace hg := (if_pos h18_0).symm.trans hg
        refine r_aald 1 2 rfl rfl (by rw [h18_0]; decide) (v := .ref (IH 0)) (by rw [h18_0]; rfl) dX6_isImage_18 ?_
        refine r_ifnull dX6_isImage_19 ?_
        refine r_iconst (v := 1) dX6_isImage_22 kic_1 ?_
        refine r_goto (tgt := 27) dX6_isImage_23 (by decide) ?_
        exact r_bret (hE _ (Option.some.inj hg)) (by decide) dX6_isImage_27
      replace hg := (if_neg h18_0).symm.trans hg
      by_cases h18_1 : n1 = 1
      · replace hg := (if_pos h18_1).symm.trans hg
        refine r_aald 1 2 rfl rfl (by rw [h18_1]; decide) (v := .ref (IH 1)) (by rw [h18_1]; rfl) dX6_isImage_18 ?_
        refine r_ifnull dX6_isImage_19 ?_
        refine r_iconst (v := 1) dX6_isImage_22 kic_1 ?_
        refine r_goto (tgt := 27) dX6_isImage_23 (by decide) ?_
        exact r_bret (hE _ (Option.some.inj hg)) (by decide) dX6_isImage_27
      replace hg := (if_neg h18_1).symm.trans hg
      exact nomatch (show (none : Option _) = some o from hg)

-- TicketJournal.word(II)I
abbrev rm_X6_word : Room := { frames := 2, cells := 0, slots := 0, locals := 42 }
def g_X6_word_32 (w : Nat → Int32)   : Option (Int32) :=
  some ((-1))
def g_X6_word (w : Nat → Int32) (n1 : Int32) (n2 : Int32) : Option (Int32) :=
  (g_X6_isBlock n1).bind fun o1 => (if o1 = 0 then g_X6_word_32 w else (g_X6_isWithin n2 0 21).bind fun o11 => (if o11 = 0 then g_X6_word_32 w else (g_X0_read w n1 n2).bind fun o26 => some (o26)))
set_option maxHeartbeats 4000000 in
set_option maxRecDepth 100000 in
theorem c_X6_word (Z : GZ) (l : Launch) (t : Nat) (tr0 : Nat) (hj : Nat) (hq : Nat) (hi : Nat) (a : Nat → Nat) (w : Nat → Int32) (er : Nat → Int32) (fl : Nat → Int32) (me : Nat → Int32) (p : Nat → Int32) (pr : Nat → Int32) (n1 : Int32) (n2 : Int32) (o : (Int32)) (hg : g_X6_word w n1 n2 = some o) : Con Z l yX6_word cX6_word 3 (some .int) rm_X6_word [.ref t, .int n1, .int n2] (wT Z t (a 0) tr0 hj hq hi ++ (wP Z a w er fl me p pr)) (some (.int o)) (wT Z t (a 0) tr0 hj hq hi ++ (wP Z a w er fl me p pr)) := by
  refine Con.of (by decide) (Nat.le_of_ble_eq_true rfl) ?_
  intro X hE0
  have hE : ∀ z, z = o → endsX X Z (some .int) (some (.int z)) (wT Z t (a 0) tr0 hj hq hi ++ (wP Z a w er fl me p pr)) := by
    rintro _ rfl; exact hE0
  have J32 : g_X6_word_32 w = some o → AtK X Z rm_X6_word cX6_word RX6 3 0 0 (wT Z t (a 0) tr0 hj hq hi ++ (wP Z a w er fl me p pr)) 32 [] [] := by
    intro  hg
    unfold g_X6_word_32 at hg
    refine r_iconst (v := (-1)) dX6_word_32 kic_m1 ?_
    exact r_iret (hE _ (Option.some.inj hg)) dX6_word_33
  unfold g_X6_word at hg
  show AtK X Z rm_X6_word cX6_word RX6 3 0 0 (wT Z t (a 0) tr0 hj hq hi ++ (wP Z a w er fl me p pr)) 0 [(0, .ref t), (1, .int n1), (2, .int n2)] []
  refine r_iload_n dX6_word_0 1 rfl ?_
  obtain ⟨o1, e1, hg⟩ := ob hg
  refine r_callS (As := [.int n1]) (rest := []) (ws' := wT Z t (a 0) tr0 hj hq hi ++ (wP Z a w er fl me p pr)) (fun l => c_X6_isBlock Z l   n1 o1 e1) qw_494 ms_X6_isBlock xPk.none ⟨Nat.le_of_ble_eq_true rfl, Nat.le_of_ble_eq_true rfl⟩ ⟨rfl, rfl⟩ ⟨Nat.zero_le _, Nat.zero_le _⟩ rfl (Nat.le_of_ble_eq_true rfl) rfl dX6_word_1 ?_
  refine r_if_eq (tgt := 32) dX6_word_4 (by decide) (fun h4 => ?_) (fun h4 => ?_)
  · replace hg := (if_pos h4).symm.trans hg
    exact r_sub [] rfl (J32 hg)
  · replace hg := (if_neg h4).symm.trans hg
    refine r_iload_n dX6_word_7 2 rfl ?_
    refine r_iconst (v := 0) dX6_word_8 kic_0 ?_
    refine r_bipush (v := 21) dX6_word_9 kbp_21 ?_
    obtain ⟨o11, e11, hg⟩ := ob hg
    refine r_callS (As := [.int n2, .int 0, .int 21]) (rest := []) (ws' := wT Z t (a 0) tr0 hj hq hi ++ (wP Z a w er fl me p pr)) (fun l => c_X6_isWithin Z l   n2 0 21 o11 e11) qw_195 ms_X6_isWithin xPk.none ⟨Nat.le_of_ble_eq_true rfl, Nat.le_of_ble_eq_true rfl⟩ ⟨rfl, rfl⟩ ⟨Nat.zero_le _, Nat.zero_le _⟩ rfl (Nat.le_of_ble_eq_true rfl) rfl dX6_word_11 ?_
    refine r_if_eq (tgt := 32) dX6_word_14 (by decide) (fun h14 => ?_) (fun h14 => ?_)
    · replace hg := (if_pos h14).symm.trans hg
      exact r_sub [] rfl (J32 hg)
    · replace hg := (if_neg h14).symm.trans hg
      refine r_aload_n dX6_word_17 0 rfl ?_
      refine gf_X6_0 (v := .ref (a 0)) 0 rfl rfl qw_175 dX6_word_18 ?_
      refine gfN_X5_0 (v := .ref (a 1)) 1 rfl rfl qw_97 dX6_word_21 ?_
      refine r_iload_n dX6_word_24 1 rfl ?_
      refine r_iload_n dX6_word_25 2 rfl ?_
      obtain ⟨o26, e26, hg⟩ := ob hg
      refine r_callV (As := [.int n1, .int n2]) (rest := []) (ws' := wT Z t (a 0) tr0 hj hq hi ++ (wP Z a w er fl me p pr)) 0 rfl rfl rfl (fun l => c_X0_read Z l (a 1) (a 2) (a 3) w er fl n1 n2 o26 e26) qw_498 mv_X0_read (xPk.idx [2, 3, 4] rfl rfl rfl rfl rfl) ⟨Nat.le_of_ble_eq_true rfl, Nat.le_of_ble_eq_true rfl⟩ ⟨rfl, rfl⟩ ⟨Nat.zero_le _, Nat.zero_le _⟩ rfl (Nat.le_of_ble_eq_true rfl) rfl dX6_word_26 ?_
      refine r_goto (tgt := 33) dX6_word_29 (by decide) ?_
      exact r_iret (hE _ (Option.some.inj hg)) dX6_word_33

-- TicketJournal.block(II)I
abbrev rm_X6_block : Room := { frames := 5, cells := 0, slots := 0, locals := 116 }
def g_X6_block (w : Nat → Int32) (er : Nat → Int32) (n1 : Int32) (n2 : Int32) : Option (Int32) :=
  (g_X6_isBlock n1).bind fun o1 => (if o1 = 0 then some ((-1)) else (if n2 = 0 then (g_X0_isWhole w n1).bind fun o54 => (if o54 = 0 then some (0) else some (1)) else (if n2 = 1 then (g_X0_isWhole w n1).bind fun o68 => (if o68 = 0 then some ((-9)) else (g_X0_read w n1 0).bind fun o77 => some (o77)) else (if n2 = 2 then (g_X0_tallyIn w n1 1).bind fun o89 => some (o89) else (if n2 = 3 then (g_X0_tallyIn w n1 2).bind fun o96 => some (o96) else (if n2 = 4 then (g_X0_erasuresOf er n1).bind fun o102 => some (o102) else some ((-1))))))))
set_option maxHeartbeats 4000000 in
set_option maxRecDepth 100000 in
theorem c_X6_block (Z : GZ) (l : Launch) (t : Nat) (tr0 : Nat) (hj : Nat) (hq : Nat) (hi : Nat) (a : Nat → Nat) (w : Nat → Int32) (er : Nat → Int32) (fl : Nat → Int32) (me : Nat → Int32) (p : Nat → Int32) (pr : Nat → Int32) (n1 : Int32) (n2 : Int32) (o : (Int32)) (hg : g_X6_block w er n1 n2 = some o) : Con Z l yX6_block cX6_block 4 (some .int) rm_X6_block [.ref t, .int n1, .int n2] (wT Z t (a 0) tr0 hj hq hi ++ (wP Z a w er fl me p pr)) (some (.int o)) (wT Z t (a 0) tr0 hj hq hi ++ (wP Z a w er fl me p pr)) := by
  refine Con.of (by decide) (Nat.le_of_ble_eq_true rfl) ?_
  intro X hE0
  have hE : ∀ z, z = o → endsX X Z (some .int) (some (.int z)) (wT Z t (a 0) tr0 hj hq hi ++ (wP Z a w er fl me p pr)) := by
    rintro _ rfl; exact hE0
  unfold g_X6_block at hg
  show AtK X Z rm_X6_block cX6_block RX6 4 0 0 (wT Z t (a 0) tr0 hj hq hi ++ (wP Z a w er fl me p pr)) 0 [(0, .ref t), (1, .int n1), (2, .int n2)] []
  refine r_iload_n dX6_block_0 1 rfl ?_
  obtain ⟨o1, e1, hg⟩ := ob hg
  refine r_callS (As := [.int n1]) (rest := []) (ws' := wT Z t (a 0) tr0 hj hq hi ++ (wP Z a w er fl me p pr)) (fun l => c_X6_isBlock Z l   n1 o1 e1) qw_494 ms_X6_isBlock xPk.none ⟨Nat.le_of_ble_eq_true rfl, Nat.le_of_ble_eq_true rfl⟩ ⟨rfl, rfl⟩ ⟨Nat.zero_le _, Nat.zero_le _⟩ rfl (Nat.le_of_ble_eq_true rfl) rfl dX6_block_1 ?_
  refine r_if_ne (tgt := 9) dX6_block_4 (by decide) (fun h4 => ?_) (fun h4 => ?_)
  · replace hg := (if_neg h4).symm.trans hg
    refine r_aload_n dX6_block_9 0 rfl ?_
    refine gf_X6_0 (v := .ref (a 0)) 0 rfl rfl qw_175 dX6_block_10 ?_
    refine gfN_X5_0 (v := .ref (a 1)) 1 rfl rfl qw_97 dX6_block_13 ?_
    refine r_astore_n (lv' := [(3, .ref (a 1)), (0, .ref t), (1, .int n1), (2, .int n2)]) dX6_block_16 (by decide) rfl ?_
    refine r_iload_n dX6_block_17 3 rfl ?_
    by_cases h18_0 : n2 = 0
    · replace hg := (if_pos h18_0).symm.trans hg
      refine r_tableIn (tgt := 52) (off := 34) dX6_block_18 (by rw [h18_0]; decide) (by rw [h18_0]; decide) (by rw [h18_0]; decide) (by decide) ?_
      refine r_aload_n dX6_block_52 0 rfl ?_
      refine r_iload_n dX6_block_53 2 rfl ?_
      obtain ⟨o54, e54, hg⟩ := ob hg
      refine r_callV (As := [.int n1]) (rest := []) (ws' := wT Z t (a 0) tr0 hj hq hi ++ (wP Z a w er fl me p pr)) 0 rfl rfl rfl (fun l => c_X0_isWhole Z l (a 1) (a 2) (a 3) w er fl n1 o54 e54) qw_497 mv_X0_isWhole (xPk.idx [2, 3, 4] rfl rfl rfl rfl rfl) ⟨Nat.le_of_ble_eq_true rfl, Nat.le_of_ble_eq_true rfl⟩ ⟨rfl, rfl⟩ ⟨Nat.zero_le _, Nat.zero_le _⟩ rfl (Nat.le_of_ble_eq_true rfl) rfl dX6_block_54 ?_
      refine r_if_eq (tgt := 64) dX6_block_57 (by decide) (fun h57 => ?_) (fun h57 => ?_)
      · replace hg := (if_pos h57).symm.trans hg
        refine r_iconst (v := 0) dX6_block_64 kic_0 ?_
        exact r_iret (hE _ (Option.some.inj hg)) dX6_block_65
      · replace hg := (if_neg h57).symm.trans hg
        refine r_iconst (v := 1) dX6_block_60 kic_1 ?_
        refine r_goto (tgt := 65) dX6_block_61 (by decide) ?_
        exact r_iret (hE _ (Option.some.inj hg)) dX6_block_65
    replace hg := (if_neg h18_0).symm.trans hg
    by_cases h18_1 : n2 = 1
    · replace hg := (if_pos h18_1).symm.trans hg
      refine r_tableIn (tgt := 66) (off := 48) dX6_block_18 (by rw [h18_1]; decide) (by rw [h18_1]; decide) (by rw [h18_1]; decide) (by decide) ?_
      refine r_aload_n dX6_block_66 0 rfl ?_
      refine r_iload_n dX6_block_67 2 rfl ?_
      obtain ⟨o68, e68, hg⟩ := ob hg
      refine r_callV (As := [.int n1]) (rest := []) (ws' := wT Z t (a 0) tr0 hj hq hi ++ (wP Z a w er fl me p pr)) 0 rfl rfl rfl (fun l => c_X0_isWhole Z l (a 1) (a 2) (a 3) w er fl n1 o68 e68) qw_497 mv_X0_isWhole (xPk.idx [2, 3, 4] rfl rfl rfl rfl rfl) ⟨Nat.le_of_ble_eq_true rfl, Nat.le_of_ble_eq_true rfl⟩ ⟨rfl, rfl⟩ ⟨Nat.zero_le _, Nat.zero_le _⟩ rfl (Nat.le_of_ble_eq_true rfl) rfl dX6_block_68 ?_
      refine r_if_eq (tgt := 83) dX6_block_71 (by decide) (fun h71 => ?_) (fun h71 => ?_)
      · replace hg := (if_pos h71).symm.trans hg
        refine r_bipush (v := (-9)) dX6_block_83 kbp_m9 ?_
        exact r_iret (hE _ (Option.some.inj hg)) dX6_block_85
      · replace hg := (if_neg h71).symm.trans hg
        refine r_aload_n dX6_block_74 0 rfl ?_
        refine r_iload_n dX6_block_75 2 rfl ?_
        refine r_iconst (v := 0) dX6_block_76 kic_0 ?_
        obtain ⟨o77, e77, hg⟩ := ob hg
        refine r_callV (As := [.int n1, .int 0]) (rest := []) (ws' := wT Z t (a 0) tr0 hj hq hi ++ (wP Z a w er fl me p pr)) 0 rfl rfl rfl (fun l => c_X0_read Z l (a 1) (a 2) (a 3) w er fl n1 0 o77 e77) qw_498 mv_X0_read (xPk.idx [2, 3, 4] rfl rfl rfl rfl rfl) ⟨Nat.le_of_ble_eq_true rfl, Nat.le_of_ble_eq_true rfl⟩ ⟨rfl, rfl⟩ ⟨Nat.zero_le _, Nat.zero_le _⟩ rfl (Nat.le_of_ble_eq_true rfl) rfl dX6_block_77 ?_
        refine r_goto (tgt := 85) dX6_block_80 (by decide) ?_
        exact r_iret (hE _ (Option.some.inj hg)) dX6_block_85
    replace hg := (if_neg h18_1).symm.trans hg
    by_cases h18_2 : n2 = 2
    · replace hg := (if_pos h18_2).symm.trans hg
      refine r_tableIn (tgt := 86) (off := 68) dX6_block_18 (by rw [h18_2]; decide) (by rw [h18_2]; decide) (by rw [h18_2]; decide) (by decide) ?_
      refine r_aload_n dX6_block_86 0 rfl ?_
      refine r_iload_n dX6_block_87 2 rfl ?_
      refine r_iconst (v := 1) dX6_block_88 kic_1 ?_
      obtain ⟨o89, e89, hg⟩ := ob hg
      refine r_callV (As := [.int n1, .int 1]) (rest := []) (ws' := wT Z t (a 0) tr0 hj hq hi ++ (wP Z a w er fl me p pr)) 0 rfl rfl rfl (fun l => c_X0_tallyIn Z l (a 1) (a 2) (a 3) w er fl n1 1 o89 e89) qw_499 mv_X0_tallyIn (xPk.idx [2, 3, 4] rfl rfl rfl rfl rfl) ⟨Nat.le_of_ble_eq_true rfl, Nat.le_of_ble_eq_true rfl⟩ ⟨rfl, rfl⟩ ⟨Nat.zero_le _, Nat.zero_le _⟩ rfl (Nat.le_of_ble_eq_true rfl) rfl dX6_block_89 ?_
      exact r_iret (hE _ (Option.some.inj hg)) dX6_block_92
    replace hg := (if_neg h18_2).symm.trans hg
    by_cases h18_3 : n2 = 3
    · replace hg := (if_pos h18_3).symm.trans hg
      refine r_tableIn (tgt := 93) (off := 75) dX6_block_18 (by rw [h18_3]; decide) (by rw [h18_3]; decide) (by rw [h18_3]; decide) (by decide) ?_
      refine r_aload_n dX6_block_93 0 rfl ?_
      refine r_iload_n dX6_block_94 2 rfl ?_
      refine r_iconst (v := 2) dX6_block_95 kic_2 ?_
      obtain ⟨o96, e96, hg⟩ := ob hg
      refine r_callV (As := [.int n1, .int 2]) (rest := []) (ws' := wT Z t (a 0) tr0 hj hq hi ++ (wP Z a w er fl me p pr)) 0 rfl rfl rfl (fun l => c_X0_tallyIn Z l (a 1) (a 2) (a 3) w er fl n1 2 o96 e96) qw_499 mv_X0_tallyIn (xPk.idx [2, 3, 4] rfl rfl rfl rfl rfl) ⟨Nat.le_of_ble_eq_true rfl, Nat.le_of_ble_eq_true rfl⟩ ⟨rfl, rfl⟩ ⟨Nat.zero_le _, Nat.zero_le _⟩ rfl (Nat.le_of_ble_eq_true rfl) rfl dX6_block_96 ?_
      exact r_iret (hE _ (Option.some.inj hg)) dX6_block_99
    replace hg := (if_neg h18_3).symm.trans hg
    by_cases h18_4 : n2 = 4
    · replace hg := (if_pos h18_4).symm.trans hg
      refine r_tableIn (tgt := 100) (off := 82) dX6_block_18 (by rw [h18_4]; decide) (by rw [h18_4]; decide) (by rw [h18_4]; decide) (by decide) ?_
      refine r_aload_n dX6_block_100 0 rfl ?_
      refine r_iload_n dX6_block_101 2 rfl ?_
      obtain ⟨o102, e102, hg⟩ := ob hg
      refine r_callV (As := [.int n1]) (rest := []) (ws' := wT Z t (a 0) tr0 hj hq hi ++ (wP Z a w er fl me p pr)) 0 rfl rfl rfl (fun l => c_X0_erasuresOf Z l (a 1) (a 2) (a 3) w er fl n1 o102 e102) qw_500 mv_X0_erasuresOf (xPk.idx [2, 3, 4] rfl rfl rfl rfl rfl) ⟨Nat.le_of_ble_eq_true rfl, Nat.le_of_ble_eq_true rfl⟩ ⟨rfl, rfl⟩ ⟨Nat.zero_le _, Nat.zero_le _⟩ rfl (Nat.le_of_ble_eq_true rfl) rfl dX6_block_102 ?_
      exact r_iret (hE _ (Option.some.inj hg)) dX6_block_105
    replace hg := (if_neg h18_4).symm.trans hg
    have n18_0 : ¬ n2.toInt = 0 := x_nei (by decide) h18_0
    have n18_1 : ¬ n2.toInt = 1 := x_nei (by decide) h18_1
    have n18_2 : ¬ n2.toInt = 2 := x_nei (by decide) h18_2
    have n18_3 : ¬ n2.toInt = 3 := x_nei (by decide) h18_3
    have n18_4 : ¬ n2.toInt = 4 := x_nei (by decide) h18_4
    refine r_tableOut (tgt := 106) dX6_block_18 (by omega) (by decide) ?_
    refine r_iconst (v := (-1)) dX6_block_106 kic_m1 ?_
    exact r_iret (hE _ (Option.some.inj hg)) dX6_block_107
  · replace hg := (if_pos h4).symm.trans hg
    refine r_iconst (v := (-1)) dX6_block_7 kic_m1 ?_
    exact r_iret (hE _ (Option.some.inj hg)) dX6_block_8

-- TicketJournal.knownNumber(I)I
abbrev rm_X6_knownNumber : Room := { frames := 0, cells := 0, slots := 0, locals := 0 }
def g_X6_knownNumber (me : Nat → Int32) (pr : Nat → Int32) (n1 : Int32) : Option (Int32) :=
  (if (pr 0) = 0 then some ((-9)) else (if n1 = 2 then some ((me 2)) else (if n1 = 3 then some ((me 3)) else (if n1 = 4 then some ((me 4)) else (if n1 = 5 then some ((me 5)) else (if n1 = 6 then some ((me 0)) else some ((me 1))))))))
set_option maxHeartbeats 4000000 in
set_option maxRecDepth 100000 in
theorem c_X6_knownNumber (Z : GZ) (l : Launch) (t : Nat) (tr0 : Nat) (hj : Nat) (hq : Nat) (hi : Nat) (a : Nat → Nat) (w : Nat → Int32) (er : Nat → Int32) (fl : Nat → Int32) (me : Nat → Int32) (p : Nat → Int32) (pr : Nat → Int32) (n1 : Int32) (o : (Int32)) (hg : g_X6_knownNumber me pr n1 = some o) : Con Z l yX6_knownNumber cX6_knownNumber 2 (some .int) rm_X6_knownNumber [.ref t, .int n1] (wT Z t (a 0) tr0 hj hq hi ++ (wP Z a w er fl me p pr)) (some (.int o)) (wT Z t (a 0) tr0 hj hq hi ++ (wP Z a w er fl me p pr)) := by
  refine Con.of (by decide) (Nat.le_of_ble_eq_true rfl) ?_
  intro X hE0
  have hE : ∀ z, z = o → endsX X Z (some .int) (some (.int z)) (wT Z t (a 0) tr0 hj hq hi ++ (wP Z a w er fl me p pr)) := by
    rintro _ rfl; exact hE0
  unfold g_X6_knownNumber at hg
  show AtK X Z rm_X6_knownNumber cX6_knownNumber RX6 2 0 0 (wT Z t (a 0) tr0 hj hq hi ++ (wP Z a w er fl me p pr)) 0 [(0, .ref t), (1, .int n1)] []
  refine r_aload_n dX6_knownNumber_0 0 rfl ?_
  refine gf_X6_0 (v := .ref (a 0)) 0 rfl rfl qw_175 dX6_knownNumber_1 ?_
  refine gfN_X5_3 (v := .int (pr 0)) 1 rfl rfl qw_102 dX6_knownNumber_4 ?_
  refine r_if_ne (tgt := 13) dX6_knownNumber_7 (by decide) (fun h7 => ?_) (fun h7 => ?_)
  · replace hg := (if_neg h7).symm.trans hg
    refine r_iload_n dX6_knownNumber_13 1 rfl ?_
    by_cases h14_2 : n1 = 2
    · replace hg := (if_pos h14_2).symm.trans hg
      refine r_tableIn (tgt := 48) (off := 34) dX6_knownNumber_14 (by rw [h14_2]; decide) (by rw [h14_2]; decide) (by rw [h14_2]; decide) (by decide) ?_
      refine r_aload_n dX6_knownNumber_48 0 rfl ?_
      refine gf_X6_0 (v := .ref (a 0)) 0 rfl rfl qw_175 dX6_knownNumber_49 ?_
      refine gfN_X5_1 (v := .ref (a 4)) 1 rfl rfl qw_99 dX6_knownNumber_52 ?_
      refine gfN_X3_2 (v := .int (me 2)) 5 rfl rfl qw_73 dX6_knownNumber_55 ?_
      exact r_iret (hE _ (Option.some.inj hg)) dX6_knownNumber_58
    replace hg := (if_neg h14_2).symm.trans hg
    by_cases h14_3 : n1 = 3
    · replace hg := (if_pos h14_3).symm.trans hg
      refine r_tableIn (tgt := 59) (off := 45) dX6_knownNumber_14 (by rw [h14_3]; decide) (by rw [h14_3]; decide) (by rw [h14_3]; decide) (by decide) ?_
      refine r_aload_n dX6_knownNumber_59 0 rfl ?_
      refine gf_X6_0 (v := .ref (a 0)) 0 rfl rfl qw_175 dX6_knownNumber_60 ?_
      refine gfN_X5_1 (v := .ref (a 4)) 1 rfl rfl qw_99 dX6_knownNumber_63 ?_
      refine gfN_X3_3 (v := .int (me 3)) 5 rfl rfl qw_76 dX6_knownNumber_66 ?_
      exact r_iret (hE _ (Option.some.inj hg)) dX6_knownNumber_69
    replace hg := (if_neg h14_3).symm.trans hg
    by_cases h14_4 : n1 = 4
    · replace hg := (if_pos h14_4).symm.trans hg
      refine r_tableIn (tgt := 70) (off := 56) dX6_knownNumber_14 (by rw [h14_4]; decide) (by rw [h14_4]; decide) (by rw [h14_4]; decide) (by decide) ?_
      refine r_aload_n dX6_knownNumber_70 0 rfl ?_
      refine gf_X6_0 (v := .ref (a 0)) 0 rfl rfl qw_175 dX6_knownNumber_71 ?_
      refine gfN_X5_1 (v := .ref (a 4)) 1 rfl rfl qw_99 dX6_knownNumber_74 ?_
      refine gfN_X3_4 (v := .int (me 4)) 5 rfl rfl qw_78 dX6_knownNumber_77 ?_
      exact r_iret (hE _ (Option.some.inj hg)) dX6_knownNumber_80
    replace hg := (if_neg h14_4).symm.trans hg
    by_cases h14_5 : n1 = 5
    · replace hg := (if_pos h14_5).symm.trans hg
      refine r_tableIn (tgt := 81) (off := 67) dX6_knownNumber_14 (by rw [h14_5]; decide) (by rw [h14_5]; decide) (by rw [h14_5]; decide) (by decide) ?_
      refine r_aload_n dX6_knownNumber_81 0 rfl ?_
      refine gf_X6_0 (v := .ref (a 0)) 0 rfl rfl qw_175 dX6_knownNumber_82 ?_
      refine gfN_X5_1 (v := .ref (a 4)) 1 rfl rfl qw_99 dX6_knownNumber_85 ?_
      refine gfN_X3_5 (v := .int (me 5)) 5 rfl rfl qw_82 dX6_knownNumber_88 ?_
      exact r_iret (hE _ (Option.some.inj hg)) dX6_knownNumber_91
    replace hg := (if_neg h14_5).symm.trans hg
    by_cases h14_6 : n1 = 6
    · replace hg := (if_pos h14_6).symm.trans hg
      refine r_tableIn (tgt := 92) (off := 78) dX6_knownNumber_14 (by rw [h14_6]; decide) (by rw [h14_6]; decide) (by rw [h14_6]; decide) (by decide) ?_
      refine r_aload_n dX6_knownNumber_92 0 rfl ?_
      refine gf_X6_0 (v := .ref (a 0)) 0 rfl rfl qw_175 dX6_knownNumber_93 ?_
      refine gfN_X5_1 (v := .ref (a 4)) 1 rfl rfl qw_99 dX6_knownNumber_96 ?_
      refine gfN_X3_0 (v := .int (me 0)) 5 rfl rfl qw_67 dX6_knownNumber_99 ?_
      exact r_iret (hE _ (Option.some.inj hg)) dX6_knownNumber_102
    replace hg := (if_neg h14_6).symm.trans hg
    have n14_2 : ¬ n1.toInt = 2 := x_nei (by decide) h14_2
    have n14_3 : ¬ n1.toInt = 3 := x_nei (by decide) h14_3
    have n14_4 : ¬ n1.toInt = 4 := x_nei (by decide) h14_4
    have n14_5 : ¬ n1.toInt = 5 := x_nei (by decide) h14_5
    have n14_6 : ¬ n1.toInt = 6 := x_nei (by decide) h14_6
    refine r_tableOut (tgt := 103) dX6_knownNumber_14 (by omega) (by decide) ?_
    refine r_aload_n dX6_knownNumber_103 0 rfl ?_
    refine gf_X6_0 (v := .ref (a 0)) 0 rfl rfl qw_175 dX6_knownNumber_104 ?_
    refine gfN_X5_1 (v := .ref (a 4)) 1 rfl rfl qw_99 dX6_knownNumber_107 ?_
    refine gfN_X3_1 (v := .int (me 1)) 5 rfl rfl qw_70 dX6_knownNumber_110 ?_
    exact r_iret (hE _ (Option.some.inj hg)) dX6_knownNumber_113
  · replace hg := (if_pos h7).symm.trans hg
    refine r_bipush (v := (-9)) dX6_knownNumber_10 kbp_m9 ?_
    exact r_iret (hE _ (Option.some.inj hg)) dX6_knownNumber_12

-- TicketJournal.told(I)I
abbrev rm_X6_told : Room := { frames := 1, cells := 0, slots := 0, locals := 22 }
def g_X6_told (fl : Nat → Int32) (me : Nat → Int32) (pr : Nat → Int32) (pv : Nat → Int32) (n1 : Int32) : Option (Int32) :=
  (if n1 = 0 then (if (pr 0) = 0 then some (0) else some (1)) else (if n1 = 1 then some ((pr 1)) else (if n1 = 8 then some ((pr 2)) else (if n1 = 9 then some ((pr 3)) else (if n1 = 10 then some ((fl 0)) else (if n1 = 11 then some ((fl 1)) else (if n1 = 12 then some ((pv 1)) else (g_X6_isWithin n1 2 7).bind fun o142 => (if o142 = 0 then some ((-1)) else (g_X6_knownNumber me pr n1).bind fun o150 => some (o150)))))))))
set_option maxHeartbeats 4000000 in
set_option maxRecDepth 100000 in
theorem c_X6_told (Z : GZ) (l : Launch) (t : Nat) (tr0 : Nat) (hj : Nat) (hq : Nat) (hi : Nat) (a : Nat → Nat) (hs : Nat) (w : Nat → Int32) (er : Nat → Int32) (fl : Nat → Int32) (me : Nat → Int32) (p : Nat → Int32) (pr : Nat → Int32) (pv : Nat → Int32) (n1 : Int32) (o : (Int32)) (hg : g_X6_told fl me pr pv n1 = some o) : Con Z l yX6_told cX6_told 2 (some .int) rm_X6_told [.ref t, .int n1] (wT Z t (a 0) tr0 hj hq hi ++ (wP Z a w er fl me p pr ++ (wQ1 Z hq hs pv))) (some (.int o)) (wT Z t (a 0) tr0 hj hq hi ++ (wP Z a w er fl me p pr ++ (wQ1 Z hq hs pv))) := by
  refine Con.of (by decide) (Nat.le_of_ble_eq_true rfl) ?_
  intro X hE0
  have hE : ∀ z, z = o → endsX X Z (some .int) (some (.int z)) (wT Z t (a 0) tr0 hj hq hi ++ (wP Z a w er fl me p pr ++ (wQ1 Z hq hs pv))) := by
    rintro _ rfl; exact hE0
  unfold g_X6_told at hg
  show AtK X Z rm_X6_told cX6_told RX6 2 0 0 (wT Z t (a 0) tr0 hj hq hi ++ (wP Z a w er fl me p pr ++ (wQ1 Z hq hs pv))) 0 [(0, .ref t), (1, .int n1)] []
  refine r_iload_n dX6_told_0 1 rfl ?_
  by_cases h1_0 : n1 = 0
  · replace hg := (if_pos h1_0).symm.trans hg
    refine r_tableIn (tgt := 68) (off := 67) dX6_told_1 (by rw [h1_0]; decide) (by rw [h1_0]; decide) (by rw [h1_0]; decide) (by decide) ?_
    refine r_aload_n dX6_told_68 0 rfl ?_
    refine gf_X6_0 (v := .ref (a 0)) 0 rfl rfl qw_175 dX6_told_69 ?_
    refine gfN_X5_3 (v := .int (pr 0)) 1 rfl rfl qw_102 dX6_told_72 ?_
    refine r_if_eq (tgt := 82) dX6_told_75 (by decide) (fun h75 => ?_) (fun h75 => ?_)
    · replace hg := (if_pos h75).symm.trans hg
      refine r_iconst (v := 0) dX6_told_82 kic_0 ?_
      exact r_iret (hE _ (Option.some.inj hg)) dX6_told_83
    · replace hg := (if_neg h75).symm.trans hg
      refine r_iconst (v := 1) dX6_told_78 kic_1 ?_
      refine r_goto (tgt := 83) dX6_told_79 (by decide) ?_
      exact r_iret (hE _ (Option.some.inj hg)) dX6_told_83
  replace hg := (if_neg h1_0).symm.trans hg
  by_cases h1_1 : n1 = 1
  · replace hg := (if_pos h1_1).symm.trans hg
    refine r_tableIn (tgt := 84) (off := 83) dX6_told_1 (by rw [h1_1]; decide) (by rw [h1_1]; decide) (by rw [h1_1]; decide) (by decide) ?_
    refine r_aload_n dX6_told_84 0 rfl ?_
    refine gf_X6_0 (v := .ref (a 0)) 0 rfl rfl qw_175 dX6_told_85 ?_
    refine gfN_X5_4 (v := .int (pr 1)) 1 rfl rfl qw_104 dX6_told_88 ?_
    exact r_iret (hE _ (Option.some.inj hg)) dX6_told_91
  replace hg := (if_neg h1_1).symm.trans hg
  by_cases h1_8 : n1 = 8
  · replace hg := (if_pos h1_8).symm.trans hg
    refine r_tableIn (tgt := 92) (off := 91) dX6_told_1 (by rw [h1_8]; decide) (by rw [h1_8]; decide) (by rw [h1_8]; decide) (by decide) ?_
    refine r_aload_n dX6_told_92 0 rfl ?_
    refine gf_X6_0 (v := .ref (a 0)) 0 rfl rfl qw_175 dX6_told_93 ?_
    refine gfN_X5_5 (v := .int (pr 2)) 1 rfl rfl qw_106 dX6_told_96 ?_
    exact r_iret (hE _ (Option.some.inj hg)) dX6_told_99
  replace hg := (if_neg h1_8).symm.trans hg
  by_cases h1_9 : n1 = 9
  · replace hg := (if_pos h1_9).symm.trans hg
    refine r_tableIn (tgt := 100) (off := 99) dX6_told_1 (by rw [h1_9]; decide) (by rw [h1_9]; decide) (by rw [h1_9]; decide) (by decide) ?_
    refine r_aload_n dX6_told_100 0 rfl ?_
    refine gf_X6_0 (v := .ref (a 0)) 0 rfl rfl qw_175 dX6_told_101 ?_
    refine gfN_X5_6 (v := .int (pr 3)) 1 rfl rfl qw_108 dX6_told_104 ?_
    exact r_iret (hE _ (Option.some.inj hg)) dX6_told_107
  replace hg := (if_neg h1_9).symm.trans hg
  by_cases h1_10 : n1 = 10
  · replace hg := (if_pos h1_10).symm.trans hg
    refine r_tableIn (tgt := 108) (off := 107) dX6_told_1 (by rw [h1_10]; decide) (by rw [h1_10]; decide) (by rw [h1_10]; decide) (by decide) ?_
    refine r_aload_n dX6_told_108 0 rfl ?_
    refine gf_X6_0 (v := .ref (a 0)) 0 rfl rfl qw_175 dX6_told_109 ?_
    refine gfN_X5_0 (v := .ref (a 1)) 1 rfl rfl qw_97 dX6_told_112 ?_
    refine gfN_X0_2 (v := .int (fl 0)) 2 rfl rfl qw_46 dX6_told_115 ?_
    exact r_iret (hE _ (Option.some.inj hg)) dX6_told_118
  replace hg := (if_neg h1_10).symm.trans hg
  by_cases h1_11 : n1 = 11
  · replace hg := (if_pos h1_11).symm.trans hg
    refine r_tableIn (tgt := 119) (off := 118) dX6_told_1 (by rw [h1_11]; decide) (by rw [h1_11]; decide) (by rw [h1_11]; decide) (by decide) ?_
    refine r_aload_n dX6_told_119 0 rfl ?_
    refine gf_X6_0 (v := .ref (a 0)) 0 rfl rfl qw_175 dX6_told_120 ?_
    refine gfN_X5_0 (v := .ref (a 1)) 1 rfl rfl qw_97 dX6_told_123 ?_
    refine gfN_X0_3 (v := .int (fl 1)) 2 rfl rfl qw_48 dX6_told_126 ?_
    exact r_iret (hE _ (Option.some.inj hg)) dX6_told_129
  replace hg := (if_neg h1_11).symm.trans hg
  by_cases h1_12 : n1 = 12
  · replace hg := (if_pos h1_12).symm.trans hg
    refine r_tableIn (tgt := 130) (off := 129) dX6_told_1 (by rw [h1_12]; decide) (by rw [h1_12]; decide) (by rw [h1_12]; decide) (by decide) ?_
    refine r_aload_n dX6_told_130 0 rfl ?_
    refine gf_X6_3 (v := .ref hq) 0 rfl rfl qw_178 dX6_told_131 ?_
    refine gfN_X4_2 (v := .int (pv 1)) 7 rfl rfl qw_149 dX6_told_134 ?_
    exact r_iret (hE _ (Option.some.inj hg)) dX6_told_137
  replace hg := (if_neg h1_12).symm.trans hg
  by_cases h1_2 : n1 = 2
  · refine r_tableIn (tgt := 138) (off := 137) dX6_told_1 (by rw [h1_2]; decide) (by rw [h1_2]; decide) (by rw [h1_2]; decide) (by decide) ?_
    refine r_iload_n dX6_told_138 1 rfl ?_
    refine r_iconst (v := 2) dX6_told_139 kic_2 ?_
    refine r_bipush (v := 7) dX6_told_140 kbp_7 ?_
    obtain ⟨o142, e142, hg⟩ := ob hg
    refine r_callS (As := [.int n1, .int 2, .int 7]) (rest := []) (ws' := wT Z t (a 0) tr0 hj hq hi ++ (wP Z a w er fl me p pr ++ (wQ1 Z hq hs pv))) (fun l => c_X6_isWithin Z l   n1 2 7 o142 e142) qw_195 ms_X6_isWithin xPk.none ⟨Nat.le_of_ble_eq_true rfl, Nat.le_of_ble_eq_true rfl⟩ ⟨rfl, rfl⟩ ⟨Nat.zero_le _, Nat.zero_le _⟩ rfl (Nat.le_of_ble_eq_true rfl) rfl dX6_told_142 ?_
    refine r_if_eq (tgt := 156) dX6_told_145 (by decide) (fun h145 => ?_) (fun h145 => ?_)
    · replace hg := (if_pos h145).symm.trans hg
      refine r_iconst (v := (-1)) dX6_told_156 kic_m1 ?_
      exact r_iret (hE _ (Option.some.inj hg)) dX6_told_157
    · replace hg := (if_neg h145).symm.trans hg
      refine r_aload_n dX6_told_148 0 rfl ?_
      refine r_iload_n dX6_told_149 1 rfl ?_
      obtain ⟨o150, e150, hg⟩ := ob hg
      refine r_callV (As := [.int n1]) (rest := []) (ws' := wT Z t (a 0) tr0 hj hq hi ++ (wP Z a w er fl me p pr ++ (wQ1 Z hq hs pv))) 0 rfl rfl rfl (fun l => c_X6_knownNumber Z l t tr0 hj hq hi a w er fl me p pr n1 o150 e150) qw_198 mv_X6_knownNumber (xPk.idx [0, 1, 2, 3, 4, 5, 6] rfl rfl rfl rfl rfl) ⟨Nat.le_of_ble_eq_true rfl, Nat.le_of_ble_eq_true rfl⟩ ⟨rfl, rfl⟩ ⟨Nat.zero_le _, Nat.zero_le _⟩ rfl (Nat.le_of_ble_eq_true rfl) rfl dX6_told_150 ?_
      refine r_goto (tgt := 157) dX6_told_153 (by decide) ?_
      exact r_iret (hE _ (Option.some.inj hg)) dX6_told_157
  by_cases h1_3 : n1 = 3
  · refine r_tableIn (tgt := 138) (off := 137) dX6_told_1 (by rw [h1_3]; decide) (by rw [h1_3]; decide) (by rw [h1_3]; decide) (by decide) ?_
    refine r_iload_n dX6_told_138 1 rfl ?_
    refine r_iconst (v := 2) dX6_told_139 kic_2 ?_
    refine r_bipush (v := 7) dX6_told_140 kbp_7 ?_
    obtain ⟨o142, e142, hg⟩ := ob hg
    refine r_callS (As := [.int n1, .int 2, .int 7]) (rest := []) (ws' := wT Z t (a 0) tr0 hj hq hi ++ (wP Z a w er fl me p pr ++ (wQ1 Z hq hs pv))) (fun l => c_X6_isWithin Z l   n1 2 7 o142 e142) qw_195 ms_X6_isWithin xPk.none ⟨Nat.le_of_ble_eq_true rfl, Nat.le_of_ble_eq_true rfl⟩ ⟨rfl, rfl⟩ ⟨Nat.zero_le _, Nat.zero_le _⟩ rfl (Nat.le_of_ble_eq_true rfl) rfl dX6_told_142 ?_
    refine r_if_eq (tgt := 156) dX6_told_145 (by decide) (fun h145 => ?_) (fun h145 => ?_)
    · replace hg := (if_pos h145).symm.trans hg
      refine r_iconst (v := (-1)) dX6_told_156 kic_m1 ?_
      exact r_iret (hE _ (Option.some.inj hg)) dX6_told_157
    · replace hg := (if_neg h145).symm.trans hg
      refine r_aload_n dX6_told_148 0 rfl ?_
      refine r_iload_n dX6_told_149 1 rfl ?_
      obtain ⟨o150, e150, hg⟩ := ob hg
      refine r_callV (As := [.int n1]) (rest := []) (ws' := wT Z t (a 0) tr0 hj hq hi ++ (wP Z a w er fl me p pr ++ (wQ1 Z hq hs pv))) 0 rfl rfl rfl (fun l => c_X6_knownNumber Z l t tr0 hj hq hi a w er fl me p pr n1 o150 e150) qw_198 mv_X6_knownNumber (xPk.idx [0, 1, 2, 3, 4, 5, 6] rfl rfl rfl rfl rfl) ⟨Nat.le_of_ble_eq_true rfl, Nat.le_of_ble_eq_true rfl⟩ ⟨rfl, rfl⟩ ⟨Nat.zero_le _, Nat.zero_le _⟩ rfl (Nat.le_of_ble_eq_true rfl) rfl dX6_told_150 ?_
      refine r_goto (tgt := 157) dX6_told_153 (by decide) ?_
      exact r_iret (hE _ (Option.some.inj hg)) dX6_told_157
  by_cases h1_4 : n1 = 4
  · refine r_tableIn (tgt := 138) (off := 137) dX6_told_1 (by rw [h1_4]; decide) (by rw [h1_4]; decide) (by rw [h1_4]; decide) (by decide) ?_
    refine r_iload_n dX6_told_138 1 rfl ?_
    refine r_iconst (v := 2) dX6_told_139 kic_2 ?_
    refine r_bipush (v := 7) dX6_told_140 kbp_7 ?_
    obtain ⟨o142, e142, hg⟩ := ob hg
    refine r_callS (As := [.int n1, .int 2, .int 7]) (rest := []) (ws' := wT Z t (a 0) tr0 hj hq hi ++ (wP Z a w er fl me p pr ++ (wQ1 Z hq hs pv))) (fun l => c_X6_isWithin Z l   n1 2 7 o142 e142) qw_195 ms_X6_isWithin xPk.none ⟨Nat.le_of_ble_eq_true rfl, Nat.le_of_ble_eq_true rfl⟩ ⟨rfl, rfl⟩ ⟨Nat.zero_le _, Nat.zero_le _⟩ rfl (Nat.le_of_ble_eq_true rfl) rfl dX6_told_142 ?_
    refine r_if_eq (tgt := 156) dX6_told_145 (by decide) (fun h145 => ?_) (fun h145 => ?_)
    · replace hg := (if_pos h145).symm.trans hg
      refine r_iconst (v := (-1)) dX6_told_156 kic_m1 ?_
      exact r_iret (hE _ (Option.some.inj hg)) dX6_told_157
    · replace hg := (if_neg h145).symm.trans hg
      refine r_aload_n dX6_told_148 0 rfl ?_
      refine r_iload_n dX6_told_149 1 rfl ?_
      obtain ⟨o150, e150, hg⟩ := ob hg
      refine r_callV (As := [.int n1]) (rest := []) (ws' := wT Z t (a 0) tr0 hj hq hi ++ (wP Z a w er fl me p pr ++ (wQ1 Z hq hs pv))) 0 rfl rfl rfl (fun l => c_X6_knownNumber Z l t tr0 hj hq hi a w er fl me p pr n1 o150 e150) qw_198 mv_X6_knownNumber (xPk.idx [0, 1, 2, 3, 4, 5, 6] rfl rfl rfl rfl rfl) ⟨Nat.le_of_ble_eq_true rfl, Nat.le_of_ble_eq_true rfl⟩ ⟨rfl, rfl⟩ ⟨Nat.zero_le _, Nat.zero_le _⟩ rfl (Nat.le_of_ble_eq_true rfl) rfl dX6_told_150 ?_
      refine r_goto (tgt := 157) dX6_told_153 (by decide) ?_
      exact r_iret (hE _ (Option.some.inj hg)) dX6_told_157
  by_cases h1_5 : n1 = 5
  · refine r_tableIn (tgt := 138) (off := 137) dX6_told_1 (by rw [h1_5]; decide) (by rw [h1_5]; decide) (by rw [h1_5]; decide) (by decide) ?_
    refine r_iload_n dX6_told_138 1 rfl ?_
    refine r_iconst (v := 2) dX6_told_139 kic_2 ?_
    refine r_bipush (v := 7) dX6_told_140 kbp_7 ?_
    obtain ⟨o142, e142, hg⟩ := ob hg
    refine r_callS (As := [.int n1, .int 2, .int 7]) (rest := []) (ws' := wT Z t (a 0) tr0 hj hq hi ++ (wP Z a w er fl me p pr ++ (wQ1 Z hq hs pv))) (fun l => c_X6_isWithin Z l   n1 2 7 o142 e142) qw_195 ms_X6_isWithin xPk.none ⟨Nat.le_of_ble_eq_true rfl, Nat.le_of_ble_eq_true rfl⟩ ⟨rfl, rfl⟩ ⟨Nat.zero_le _, Nat.zero_le _⟩ rfl (Nat.le_of_ble_eq_true rfl) rfl dX6_told_142 ?_
    refine r_if_eq (tgt := 156) dX6_told_145 (by decide) (fun h145 => ?_) (fun h145 => ?_)
    · replace hg := (if_pos h145).symm.trans hg
      refine r_iconst (v := (-1)) dX6_told_156 kic_m1 ?_
      exact r_iret (hE _ (Option.some.inj hg)) dX6_told_157
    · replace hg := (if_neg h145).symm.trans hg
      refine r_aload_n dX6_told_148 0 rfl ?_
      refine r_iload_n dX6_told_149 1 rfl ?_
      obtain ⟨o150, e150, hg⟩ := ob hg
      refine r_callV (As := [.int n1]) (rest := []) (ws' := wT Z t (a 0) tr0 hj hq hi ++ (wP Z a w er fl me p pr ++ (wQ1 Z hq hs pv))) 0 rfl rfl rfl (fun l => c_X6_knownNumber Z l t tr0 hj hq hi a w er fl me p pr n1 o150 e150) qw_198 mv_X6_knownNumber (xPk.idx [0, 1, 2, 3, 4, 5, 6] rfl rfl rfl rfl rfl) ⟨Nat.le_of_ble_eq_true rfl, Nat.le_of_ble_eq_true rfl⟩ ⟨rfl, rfl⟩ ⟨Nat.zero_le _, Nat.zero_le _⟩ rfl (Nat.le_of_ble_eq_true rfl) rfl dX6_told_150 ?_
      refine r_goto (tgt := 157) dX6_told_153 (by decide) ?_
      exact r_iret (hE _ (Option.some.inj hg)) dX6_told_157
  by_cases h1_6 : n1 = 6
  · refine r_tableIn (tgt := 138) (off := 137) dX6_told_1 (by rw [h1_6]; decide) (by rw [h1_6]; decide) (by rw [h1_6]; decide) (by decide) ?_
    refine r_iload_n dX6_told_138 1 rfl ?_
    refine r_iconst (v := 2) dX6_told_139 kic_2 ?_
    refine r_bipush (v := 7) dX6_told_140 kbp_7 ?_
    obtain ⟨o142, e142, hg⟩ := ob hg
    refine r_callS (As := [.int n1, .int 2, .int 7]) (rest := []) (ws' := wT Z t (a 0) tr0 hj hq hi ++ (wP Z a w er fl me p pr ++ (wQ1 Z hq hs pv))) (fun l => c_X6_isWithin Z l   n1 2 7 o142 e142) qw_195 ms_X6_isWithin xPk.none ⟨Nat.le_of_ble_eq_true rfl, Nat.le_of_ble_eq_true rfl⟩ ⟨rfl, rfl⟩ ⟨Nat.zero_le _, Nat.zero_le _⟩ rfl (Nat.le_of_ble_eq_true rfl) rfl dX6_told_142 ?_
    refine r_if_eq (tgt := 156) dX6_told_145 (by decide) (fun h145 => ?_) (fun h145 => ?_)
    · replace hg := (if_pos h145).symm.trans hg
      refine r_iconst (v := (-1)) dX6_told_156 kic_m1 ?_
      exact r_iret (hE _ (Option.some.inj hg)) dX6_told_157
    · replace hg := (if_neg h145).symm.trans hg
      refine r_aload_n dX6_told_148 0 rfl ?_
      refine r_iload_n dX6_told_149 1 rfl ?_
      obtain ⟨o150, e150, hg⟩ := ob hg
      refine r_callV (As := [.int n1]) (rest := []) (ws' := wT Z t (a 0) tr0 hj hq hi ++ (wP Z a w er fl me p pr ++ (wQ1 Z hq hs pv))) 0 rfl rfl rfl (fun l => c_X6_knownNumber Z l t tr0 hj hq hi a w er fl me p pr n1 o150 e150) qw_198 mv_X6_knownNumber (xPk.idx [0, 1, 2, 3, 4, 5, 6] rfl rfl rfl rfl rfl) ⟨Nat.le_of_ble_eq_true rfl, Nat.le_of_ble_eq_true rfl⟩ ⟨rfl, rfl⟩ ⟨Nat.zero_le _, Nat.zero_le _⟩ rfl (Nat.le_of_ble_eq_true rfl) rfl dX6_told_150 ?_
      refine r_goto (tgt := 157) dX6_told_153 (by decide) ?_
      exact r_iret (hE _ (Option.some.inj hg)) dX6_told_157
  by_cases h1_7 : n1 = 7
  · refine r_tableIn (tgt := 138) (off := 137) dX6_told_1 (by rw [h1_7]; decide) (by rw [h1_7]; decide) (by rw [h1_7]; decide) (by decide) ?_
    refine r_iload_n dX6_told_138 1 rfl ?_
    refine r_iconst (v := 2) dX6_told_139 kic_2 ?_
    refine r_bipush (v := 7) dX6_told_140 kbp_7 ?_
    obtain ⟨o142, e142, hg⟩ := ob hg
    refine r_callS (As := [.int n1, .int 2, .int 7]) (rest := []) (ws' := wT Z t (a 0) tr0 hj hq hi ++ (wP Z a w er fl me p pr ++ (wQ1 Z hq hs pv))) (fun l => c_X6_isWithin Z l   n1 2 7 o142 e142) qw_195 ms_X6_isWithin xPk.none ⟨Nat.le_of_ble_eq_true rfl, Nat.le_of_ble_eq_true rfl⟩ ⟨rfl, rfl⟩ ⟨Nat.zero_le _, Nat.zero_le _⟩ rfl (Nat.le_of_ble_eq_true rfl) rfl dX6_told_142 ?_
    refine r_if_eq (tgt := 156) dX6_told_145 (by decide) (fun h145 => ?_) (fun h145 => ?_)
    · replace hg := (if_pos h145).symm.trans hg
      refine r_iconst (v := (-1)) dX6_told_156 kic_m1 ?_
      exact r_iret (hE _ (Option.some.inj hg)) dX6_told_157
    · replace hg := (if_neg h145).symm.trans hg
      refine r_aload_n dX6_told_148 0 rfl ?_
      refine r_iload_n dX6_told_149 1 rfl ?_
      obtain ⟨o150, e150, hg⟩ := ob hg
      refine r_callV (As := [.int n1]) (rest := []) (ws' := wT Z t (a 0) tr0 hj hq hi ++ (wP Z a w er fl me p pr ++ (wQ1 Z hq hs pv))) 0 rfl rfl rfl (fun l => c_X6_knownNumber Z l t tr0 hj hq hi a w er fl me p pr n1 o150 e150) qw_198 mv_X6_knownNumber (xPk.idx [0, 1, 2, 3, 4, 5, 6] rfl rfl rfl rfl rfl) ⟨Nat.le_of_ble_eq_true rfl, Nat.le_of_ble_eq_true rfl⟩ ⟨rfl, rfl⟩ ⟨Nat.zero_le _, Nat.zero_le _⟩ rfl (Nat.le_of_ble_eq_true rfl) rfl dX6_told_150 ?_
      refine r_goto (tgt := 157) dX6_told_153 (by decide) ?_
      exact r_iret (hE _ (Option.some.inj hg)) dX6_told_157
  have n1_0 : ¬ n1.toInt = 0 := x_nei (by decide) h1_0
  have n1_1 : ¬ n1.toInt = 1 := x_nei (by decide) h1_1
  have n1_8 : ¬ n1.toInt = 8 := x_nei (by decide) h1_8
  have n1_9 : ¬ n1.toInt = 9 := x_nei (by decide) h1_9
  have n1_10 : ¬ n1.toInt = 10 := x_nei (by decide) h1_10
  have n1_11 : ¬ n1.toInt = 11 := x_nei (by decide) h1_11
  have n1_12 : ¬ n1.toInt = 12 := x_nei (by decide) h1_12
  have n1_2 : ¬ n1.toInt = 2 := x_nei (by decide) h1_2
  have n1_3 : ¬ n1.toInt = 3 := x_nei (by decide) h1_3
  have n1_4 : ¬ n1.toInt = 4 := x_nei (by decide) h1_4
  have n1_5 : ¬ n1.toInt = 5 := x_nei (by decide) h1_5
  have n1_6 : ¬ n1.toInt = 6 := x_nei (by decide) h1_6
  have n1_7 : ¬ n1.toInt = 7 := x_nei (by decide) h1_7
  refine r_tableOut (tgt := 138) dX6_told_1 (by omega) (by decide) ?_
  refine r_iload_n dX6_told_138 1 rfl ?_
  refine r_iconst (v := 2) dX6_told_139 kic_2 ?_
  refine r_bipush (v := 7) dX6_told_140 kbp_7 ?_
  obtain ⟨o142, e142, hg⟩ := ob hg
  refine r_callS (As := [.int n1, .int 2, .int 7]) (rest := []) (ws' := wT Z t (a 0) tr0 hj hq hi ++ (wP Z a w er fl me p pr ++ (wQ1 Z hq hs pv))) (fun l => c_X6_isWithin Z l   n1 2 7 o142 e142) qw_195 ms_X6_isWithin xPk.none ⟨Nat.le_of_ble_eq_true rfl, Nat.le_of_ble_eq_true rfl⟩ ⟨rfl, rfl⟩ ⟨Nat.zero_le _, Nat.zero_le _⟩ rfl (Nat.le_of_ble_eq_true rfl) rfl dX6_told_142 ?_
  refine r_if_eq (tgt := 156) dX6_told_145 (by decide) (fun h145 => ?_) (fun h145 => ?_)
  · replace hg := (if_pos h145).symm.trans hg
    refine r_iconst (v := (-1)) dX6_told_156 kic_m1 ?_
    exact r_iret (hE _ (Option.some.inj hg)) dX6_told_157
  · replace hg := (if_neg h145).symm.trans hg
    refine r_aload_n dX6_told_148 0 rfl ?_
    refine r_iload_n dX6_told_149 1 rfl ?_
    obtain ⟨o150, e150, hg⟩ := ob hg
    refine r_callV (As := [.int n1]) (rest := []) (ws' := wT Z t (a 0) tr0 hj hq hi ++ (wP Z a w er fl me p pr ++ (wQ1 Z hq hs pv))) 0 rfl rfl rfl (fun l => c_X6_knownNumber Z l t tr0 hj hq hi a w er fl me p pr n1 o150 e150) qw_198 mv_X6_knownNumber (xPk.idx [0, 1, 2, 3, 4, 5, 6] rfl rfl rfl rfl rfl) ⟨Nat.le_of_ble_eq_true rfl, Nat.le_of_ble_eq_true rfl⟩ ⟨rfl, rfl⟩ ⟨Nat.zero_le _, Nat.zero_le _⟩ rfl (Nat.le_of_ble_eq_true rfl) rfl dX6_told_150 ?_
    refine r_goto (tgt := 157) dX6_told_153 (by decide) ?_
    exact r_iret (hE _ (Option.some.inj hg)) dX6_told_157

-- TicketJournal.trySale(II)V
abbrev rm_X6_trySale : Room := { frames := 5, cells := 0, slots := 0, locals := 118 }
def g_X6_trySale (w : Nat → Int32) (er : Nat → Int32) (fl : Nat → Int32) (me : Nat → Int32) (p : Nat → Int32) (pr : Nat → Int32) (wt : Nat → Int32) (ert : Nat → Int32) (flt : Nat → Int32) (met : Nat → Int32) (pt : Nat → Int32) (prt : Nat → Int32) (n1 : Int32) (n2 : Int32) : Option ((Nat → Int32) × (Nat → Int32) × (Nat → Int32) × (Nat → Int32) × (Nat → Int32) × (Nat → Int32)) :=
  (g_X5_copyFrom wt ert flt met pt prt w er fl me p pr).bind fun o8 => (g_X5_issueTicket o8.1 o8.2.1 (upd o8.2.2.1 1 n2) o8.2.2.2.1 o8.2.2.2.2.1 o8.2.2.2.2.2 n1).bind fun o27 => some (o27.2.1, o27.2.2.1, o27.2.2.2.1, o27.2.2.2.2.1, o8.2.2.2.2.1, o27.2.2.2.2.2)
set_option maxHeartbeats 4000000 in
set_option maxRecDepth 100000 in
theorem c_X6_trySale (Z : GZ) (l : Launch) (t : Nat) (hj : Nat) (hq : Nat) (hi : Nat) (a : Nat → Nat) (b : Nat → Nat) (w : Nat → Int32) (er : Nat → Int32) (fl : Nat → Int32) (me : Nat → Int32) (p : Nat → Int32) (pr : Nat → Int32) (wt : Nat → Int32) (ert : Nat → Int32) (flt : Nat → Int32) (met : Nat → Int32) (pt : Nat → Int32) (prt : Nat → Int32) (n1 : Int32) (n2 : Int32) (o : ((Nat → Int32) × (Nat → Int32) × (Nat → Int32) × (Nat → Int32) × (Nat → Int32) × (Nat → Int32))) (hg : g_X6_trySale w er fl me p pr wt ert flt met pt prt n1 n2 = some o) : Con Z l yX6_trySale cX6_trySale 3 none rm_X6_trySale [.ref t, .int n1, .int n2] (wT Z t (a 0) (b 0) hj hq hi ++ (wP Z a w er fl me p pr ++ (wP Z b wt ert flt met pt prt))) none (wT Z t (a 0) (b 0) hj hq hi ++ (wP Z a w er fl me p pr ++ (wP Z b o.1 o.2.1 o.2.2.1 o.2.2.2.1 o.2.2.2.2.1 o.2.2.2.2.2))) := by
  refine Con.of (by decide) (Nat.le_of_ble_eq_true rfl) ?_
  intro X hE0
  have hE : ∀ z, z = o → endsX X Z none none (wT Z t (a 0) (b 0) hj hq hi ++ (wP Z a w er fl me p pr ++ (wP Z b z.1 z.2.1 z.2.2.1 z.2.2.2.1 z.2.2.2.2.1 z.2.2.2.2.2))) := by
    rintro _ rfl; exact hE0
  unfold g_X6_trySale at hg
  show AtK X Z rm_X6_trySale cX6_trySale RX6 3 0 0 (wT Z t (a 0) (b 0) hj hq hi ++ (wP Z a w er fl me p pr ++ (wP Z b wt ert flt met pt prt))) 0 [(0, .ref t), (1, .int n1), (2, .int n2)] []
  refine r_aload_n dX6_trySale_0 0 rfl ?_
  refine gf_X6_1 (v := .ref (b 0)) 0 rfl rfl qw_176 dX6_trySale_1 ?_
  refine r_aload_n dX6_trySale_4 0 rfl ?_
  refine gf_X6_0 (v := .ref (a 0)) 0 rfl rfl qw_175 dX6_trySale_5 ?_
  obtain ⟨o8, e8, hg⟩ := ob hg
  refine r_callV (As := [.ref (a 0)]) (rest := []) (ws' := wT Z t (a 0) (b 0) hj hq hi ++ (wP Z a w er fl me p pr ++ (wP Z b o8.1 o8.2.1 o8.2.2.1 o8.2.2.2.1 o8.2.2.2.2.1 o8.2.2.2.2.2))) 0 rfl rfl rfl (fun l => c_X5_copyFrom Z l b a wt ert flt met pt prt w er fl me p pr  o8 e8) qw_458 mv_X5_copyFrom (xPk.idx [7, 8, 9, 10, 11, 12, 1, 2, 3, 4, 5, 6] rfl rfl rfl rfl rfl) ⟨Nat.le_of_ble_eq_true rfl, Nat.le_of_ble_eq_true rfl⟩ ⟨rfl, rfl⟩ ⟨Nat.zero_le _, Nat.zero_le _⟩ rfl (Nat.le_of_ble_eq_true rfl) rfl dX6_trySale_8 ?_
  refine r_aload_n dX6_trySale_11 0 rfl ?_
  refine gf_X6_1 (v := .ref (b 0)) 0 rfl rfl qw_176 dX6_trySale_12 ?_
  refine gfN_X5_0 (v := .ref (b 1)) 7 rfl rfl qw_97 dX6_trySale_15 ?_
  refine r_iload_n dX6_trySale_18 2 rfl ?_
  refine pfN_X0_3 8 rfl (Nat.le_of_ble_eq_true rfl) qw_48 dX6_trySale_19 (ws' := wT Z t (a 0) (b 0) hj hq hi ++ (wP Z a w er fl me p pr ++ (wP Z b o8.1 o8.2.1 (upd o8.2.2.1 1 n2) o8.2.2.2.1 o8.2.2.2.2.1 o8.2.2.2.2.2))) rfl ?_
  refine r_aload_n dX6_trySale_22 0 rfl ?_
  refine gf_X6_1 (v := .ref (b 0)) 0 rfl rfl qw_176 dX6_trySale_23 ?_
  refine r_iload_n dX6_trySale_26 1 rfl ?_
  obtain ⟨o27, e27, hg⟩ := ob hg
  refine r_callV (As := [.int n1]) (rest := []) (ws' := wT Z t (a 0) (b 0) hj hq hi ++ (wP Z a w er fl me p pr ++ (wP Z b o27.2.1 o27.2.2.1 o27.2.2.2.1 o27.2.2.2.2.1 o8.2.2.2.2.1 o27.2.2.2.2.2))) 0 rfl rfl rfl (fun l => c_X5_issueTicket Z l b o8.1 o8.2.1 (upd o8.2.2.1 1 n2) o8.2.2.2.1 o8.2.2.2.2.1 o8.2.2.2.2.2 n1 o27 e27) qw_256 mv_X5_issueTicket (xPk.idx [7, 8, 9, 10, 11, 12] rfl rfl rfl rfl rfl) ⟨Nat.le_of_ble_eq_true rfl, Nat.le_of_ble_eq_true rfl⟩ ⟨rfl, rfl⟩ ⟨Nat.zero_le _, Nat.zero_le _⟩ rfl (Nat.le_of_ble_eq_true rfl) rfl dX6_trySale_27 ?_
  refine r_pop dX6_trySale_30 rfl ?_
  exact r_vret (hE _ (Option.some.inj hg)) dX6_trySale_31

-- TicketJournal.operations(I)I
abbrev rm_X6_operations : Room := { frames := 6, cells := 0, slots := 0, locals := 140 }
def g_X6_operations (w : Nat → Int32) (er : Nat → Int32) (fl : Nat → Int32) (me : Nat → Int32) (p : Nat → Int32) (pr : Nat → Int32) (wt : Nat → Int32) (ert : Nat → Int32) (flt : Nat → Int32) (met : Nat → Int32) (pt : Nat → Int32) (prt : Nat → Int32) (n1 : Int32) : Option (Int32 × (Nat → Int32) × (Nat → Int32) × (Nat → Int32) × (Nat → Int32) × (Nat → Int32) × (Nat → Int32)) :=
  (g_X5_refusalOf me p pr n1).bind fun o5 => (if o5 = 0 then (g_X6_trySale w er fl me p pr wt ert flt met pt prt n1 (-9)).bind fun o19 => some (((o19.2.2.1 0) - (fl 0)), o19.1, o19.2.1, o19.2.2.1, o19.2.2.2.1, o19.2.2.2.2.1, o19.2.2.2.2.2) else some (o5, wt, ert, flt, met, pt, prt))
set_option maxHeartbeats 4000000 in
set_option maxRecDepth 100000 in
theorem c_X6_operations (Z : GZ) (l : Launch) (t : Nat) (hj : Nat) (hq : Nat) (hi : Nat) (a : Nat → Nat) (b : Nat → Nat) (w : Nat → Int32) (er : Nat → Int32) (fl : Nat → Int32) (me : Nat → Int32) (p : Nat → Int32) (pr : Nat → Int32) (wt : Nat → Int32) (ert : Nat → Int32) (flt : Nat → Int32) (met : Nat → Int32) (pt : Nat → Int32) (prt : Nat → Int32) (n1 : Int32) (o : (Int32 × (Nat → Int32) × (Nat → Int32) × (Nat → Int32) × (Nat → Int32) × (Nat → Int32) × (Nat → Int32))) (hg : g_X6_operations w er fl me p pr wt ert flt met pt prt n1 = some o) : Con Z l yX6_operations cX6_operations 3 (some .int) rm_X6_operations [.ref t, .int n1] (wT Z t (a 0) (b 0) hj hq hi ++ (wP Z a w er fl me p pr ++ (wP Z b wt ert flt met pt prt))) (some (.int o.1)) (wT Z t (a 0) (b 0) hj hq hi ++ (wP Z a w er fl me p pr ++ (wP Z b o.2.1 o.2.2.1 o.2.2.2.1 o.2.2.2.2.1 o.2.2.2.2.2.1 o.2.2.2.2.2.2))) := by
  refine Con.of (by decide) (Nat.le_of_ble_eq_true rfl) ?_
  intro X hE0
  have hE : ∀ z, z = o → endsX X Z (some .int) (some (.int z.1)) (wT Z t (a 0) (b 0) hj hq hi ++ (wP Z a w er fl me p pr ++ (wP Z b z.2.1 z.2.2.1 z.2.2.2.1 z.2.2.2.2.1 z.2.2.2.2.2.1 z.2.2.2.2.2.2))) := by
    rintro _ rfl; exact hE0
  unfold g_X6_operations at hg
  show AtK X Z rm_X6_operations cX6_operations RX6 3 0 0 (wT Z t (a 0) (b 0) hj hq hi ++ (wP Z a w er fl me p pr ++ (wP Z b wt ert flt met pt prt))) 0 [(0, .ref t), (1, .int n1)] []
  refine r_aload_n dX6_operations_0 0 rfl ?_
  refine gf_X6_0 (v := .ref (a 0)) 0 rfl rfl qw_175 dX6_operations_1 ?_
  refine r_iload_n dX6_operations_4 1 rfl ?_
  obtain ⟨o5, e5, hg⟩ := ob hg
  refine r_callV (As := [.int n1]) (rest := []) (ws' := wT Z t (a 0) (b 0) hj hq hi ++ (wP Z a w er fl me p pr ++ (wP Z b wt ert flt met pt prt))) 0 rfl rfl rfl (fun l => c_X5_refusalOf Z l a w er fl me p pr n1 o5 e5) qw_217 mv_X5_refusalOf (xPk.idx [1, 2, 3, 4, 5, 6] rfl rfl rfl rfl rfl) ⟨Nat.le_of_ble_eq_true rfl, Nat.le_of_ble_eq_true rfl⟩ ⟨rfl, rfl⟩ ⟨Nat.zero_le _, Nat.zero_le _⟩ rfl (Nat.le_of_ble_eq_true rfl) rfl dX6_operations_5 ?_
  refine r_istore_n (lv' := [(2, .int o5), (0, .ref t), (1, .int n1)]) dX6_operations_8 (by decide) rfl ?_
  refine r_iload_n dX6_operations_9 0 rfl ?_
  refine r_if_eq (tgt := 15) dX6_operations_10 (by decide) (fun h10 => ?_) (fun h10 => ?_)
  · replace hg := (if_pos h10).symm.trans hg
    refine r_aload_n dX6_operations_15 1 rfl ?_
    refine r_iload_n dX6_operations_16 2 rfl ?_
    refine r_bipush (v := (-9)) dX6_operations_17 kbp_m9 ?_
    obtain ⟨o19, e19, hg⟩ := ob hg
    refine r_callV (As := [.int n1, .int (-9)]) (rest := []) (ws' := wT Z t (a 0) (b 0) hj hq hi ++ (wP Z a w er fl me p pr ++ (wP Z b o19.1 o19.2.1 o19.2.2.1 o19.2.2.2.1 o19.2.2.2.2.1 o19.2.2.2.2.2))) 0 rfl rfl rfl (fun l => c_X6_trySale Z l t hj hq hi a b w er fl me p pr wt ert flt met pt prt n1 (-9) o19 e19) qw_537 mv_X6_trySale (xPk.all rfl) ⟨Nat.le_of_ble_eq_true rfl, Nat.le_of_ble_eq_true rfl⟩ ⟨rfl, rfl⟩ ⟨Nat.zero_le _, Nat.zero_le _⟩ rfl (Nat.le_of_ble_eq_true rfl) rfl dX6_operations_19 ?_
    refine r_aload_n dX6_operations_22 1 rfl ?_
    refine gf_X6_1 (v := .ref (b 0)) 0 rfl rfl qw_176 dX6_operations_23 ?_
    refine gfN_X5_0 (v := .ref (b 1)) 7 rfl rfl qw_97 dX6_operations_26 ?_
    refine gfN_X0_2 (v := .int (o19.2.2.1 0)) 8 rfl rfl qw_46 dX6_operations_29 ?_
    refine r_aload_n dX6_operations_32 1 rfl ?_
    refine gf_X6_0 (v := .ref (a 0)) 0 rfl rfl qw_175 dX6_operations_33 ?_
    refine gfN_X5_0 (v := .ref (a 1)) 1 rfl rfl qw_97 dX6_operations_36 ?_
    refine gfN_X0_2 (v := .int (fl 0)) 2 rfl rfl qw_46 dX6_operations_39 ?_
    refine r_isub dX6_operations_42 ?_
    exact r_iret (hE _ (Option.some.inj hg)) dX6_operations_43
  · replace hg := (if_neg h10).symm.trans hg
    refine r_iload_n dX6_operations_13 0 rfl ?_
    exact r_iret (hE _ (Option.some.inj hg)) dX6_operations_14

-- TicketJournal.after(III)I
abbrev rm_X6_after : Room := { frames := 6, cells := 0, slots := 0, locals := 140 }
def g_X6_after_19 (w : Nat → Int32) (er : Nat → Int32) (fl : Nat → Int32) (me : Nat → Int32) (p : Nat → Int32) (pr : Nat → Int32)  (wt : Nat → Int32) (ert : Nat → Int32) (flt : Nat → Int32) (met : Nat → Int32) (pt : Nat → Int32) (prt : Nat → Int32) : Option (Int32 × (Nat → Int32) × (Nat → Int32) × (Nat → Int32) × (Nat → Int32) × (Nat → Int32) × (Nat → Int32)) :=
  some ((-1), wt, ert, flt, met, pt, prt)
def g_X6_after_62 (w : Nat → Int32) (er : Nat → Int32) (fl : Nat → Int32) (me : Nat → Int32) (p : Nat → Int32) (pr : Nat → Int32)  (x3 : Int32) (wt : Nat → Int32) (ert : Nat → Int32) (flt : Nat → Int32) (met : Nat → Int32) (pt : Nat → Int32) (prt : Nat → Int32) : Option (Int32 × (Nat → Int32) × (Nat → Int32) × (Nat → Int32) × (Nat → Int32) × (Nat → Int32) × (Nat → Int32)) :=
  (if x3 = 0 then (g_X0_tally wt 1).bind fun o100 => some (o100, wt, ert, flt, met, pt, prt) else (if x3 = 1 then (g_X0_tally wt 2).bind fun o112 => some (o112, wt, ert, flt, met, pt, prt) else (if x3 = 2 then some ((met 2), wt, ert, flt, met, pt, prt) else (if x3 = 3 then some ((met 3), wt, ert, flt, met, pt, prt) else some ((met 0), wt, ert, flt, met, pt, prt)))))
def g_X6_after (w : Nat → Int32) (er : Nat → Int32) (fl : Nat → Int32) (me : Nat → Int32) (p : Nat → Int32) (pr : Nat → Int32) (wt : Nat → Int32) (ert : Nat → Int32) (flt : Nat → Int32) (met : Nat → Int32) (pt : Nat → Int32) (prt : Nat → Int32) (n1 : Int32) (n2 : Int32) (n3 : Int32) : Option (Int32 × (Nat → Int32) × (Nat → Int32) × (Nat → Int32) × (Nat → Int32) × (Nat → Int32) × (Nat → Int32)) :=
  (g_X6_isWithin n2 0 30).bind fun o4 => (if o4 = 0 then g_X6_after_19 w er fl me p pr wt ert flt met pt prt else (g_X6_isWithin n3 0 4).bind fun o13 => (if o13 = 0 then g_X6_after_19 w er fl me p pr wt ert flt met pt prt else (g_X5_refusalOf me p pr n1).bind fun o26 => (if o26 = 0 then (g_X6_trySale w er fl me p pr wt ert flt met pt prt n1 n2).bind fun o42 => (if (o42.2.2.2.2.2 0) = 0 then (g_X5_wake o42.1 o42.2.2.2.1 o42.2.2.2.2.2).bind fun o59 => g_X6_after_62 w er fl me p pr n3 o42.1 o42.2.1 o42.2.2.1 o59.1 o42.2.2.2.2.1 o59.2 else g_X6_after_62 w er fl me p pr n3 o42.1 o42.2.1 o42.2.2.1 o42.2.2.2.1 o42.2.2.2.2.1 o42.2.2.2.2.2) else some (o26, wt, ert, flt, met, pt, prt))))
set_option maxHeartbeats 4000000 in
set_option maxRecDepth 100000 in
theorem c_X6_after (Z : GZ) (l : Launch) (t : Nat) (hj : Nat) (hq : Nat) (hi : Nat) (a : Nat → Nat) (b : Nat → Nat) (w : Nat → Int32) (er : Nat → Int32) (fl : Nat → Int32) (me : Nat → Int32) (p : Nat → Int32) (pr : Nat → Int32) (wt : Nat → Int32) (ert : Nat → Int32) (flt : Nat → Int32) (met : Nat → Int32) (pt : Nat → Int32) (prt : Nat → Int32) (n1 : Int32) (n2 : Int32) (n3 : Int32) (o : (Int32 × (Nat → Int32) × (Nat → Int32) × (Nat → Int32) × (Nat → Int32) × (Nat → Int32) × (Nat → Int32))) (hg : g_X6_after w er fl me p pr wt ert flt met pt prt n1 n2 n3 = some o) : Con Z l yX6_after cX6_after 5 (some .int) rm_X6_after [.ref t, .int n1, .int n2, .int n3] (wT Z t (a 0) (b 0) hj hq hi ++ (wP Z a w er fl me p pr ++ (wP Z b wt ert flt met pt prt))) (some (.int o.1)) (wT Z t (a 0) (b 0) hj hq hi ++ (wP Z a w er fl me p pr ++ (wP Z b o.2.1 o.2.2.1 o.2.2.2.1 o.2.2.2.2.1 o.2.2.2.2.2.1 o.2.2.2.2.2.2))) := by
  refine Con.of (by decide) (Nat.le_of_ble_eq_true rfl) ?_
  intro X hE0
  have hE : ∀ z, z = o → endsX X Z (some .int) (some (.int z.1)) (wT Z t (a 0) (b 0) hj hq hi ++ (wP Z a w er fl me p pr ++ (wP Z b z.2.1 z.2.2.1 z.2.2.2.1 z.2.2.2.2.1 z.2.2.2.2.2.1 z.2.2.2.2.2.2))) := by
    rintro _ rfl; exact hE0
  have J19 : ∀ (wt : Nat → Int32) (ert : Nat → Int32) (flt : Nat → Int32) (met : Nat → Int32) (pt : Nat → Int32) (prt : Nat → Int32), g_X6_after_19 w er fl me p pr wt ert flt met pt prt = some o → AtK X Z rm_X6_after cX6_after RX6 5 0 0 (wT Z t (a 0) (b 0) hj hq hi ++ (wP Z a w er fl me p pr ++ (wP Z b wt ert flt met pt prt))) 19 [] [] := by
    intro wt ert flt met pt prt hg
    unfold g_X6_after_19 at hg
    refine r_iconst (v := (-1)) dX6_after_19 kic_m1 ?_
    exact r_iret (hE _ (Option.some.inj hg)) dX6_after_20
  have J62 : ∀ (x3 : Int32) (wt : Nat → Int32) (ert : Nat → Int32) (flt : Nat → Int32) (met : Nat → Int32) (pt : Nat → Int32) (prt : Nat → Int32), g_X6_after_62 w er fl me p pr x3 wt ert flt met pt prt = some o → AtK X Z rm_X6_after cX6_after RX6 5 0 0 (wT Z t (a 0) (b 0) hj hq hi ++ (wP Z a w er fl me p pr ++ (wP Z b wt ert flt met pt prt))) 62 [(0, .ref t), (3, .int x3)] [] := by
    intro x3 wt ert flt met pt prt hg
    unfold g_X6_after_62 at hg
    refine r_iload_n dX6_after_62 1 rfl ?_
    by_cases h63_0 : x3 = 0
    · replace hg := (if_pos h63_0).symm.trans hg
      refine r_tableIn (tgt := 92) (off := 29) dX6_after_63 (by rw [h63_0]; decide) (by rw [h63_0]; decide) (by rw [h63_0]; decide) (by decide) ?_
      refine r_aload_n dX6_after_92 0 rfl ?_
      refine gf_X6_1 (v := .ref (b 0)) 0 rfl rfl qw_176 dX6_after_93 ?_
      refine gfN_X5_0 (v := .ref (b 1)) 7 rfl rfl qw_97 dX6_after_96 ?_
      refine r_iconst (v := 1) dX6_after_99 kic_1 ?_
      obtain ⟨o100, e100, hg⟩ := ob hg
      refine r_callV (As := [.int 1]) (rest := []) (ws' := wT Z t (a 0) (b 0) hj hq hi ++ (wP Z a w er fl me p pr ++ (wP Z b wt ert flt met pt prt))) 0 rfl rfl rfl (fun l => c_X0_tally Z l (b 1) (b 2) (b 3) wt ert flt 1 o100 e100) qw_391 mv_X0_tally (xPk.idx [8, 9, 10] rfl rfl rfl rfl rfl) ⟨Nat.le_of_ble_eq_true rfl, Nat.le_of_ble_eq_true rfl⟩ ⟨rfl, rfl⟩ ⟨Nat.zero_le _, Nat.zero_le _⟩ rfl (Nat.le_of_ble_eq_true rfl) rfl dX6_after_100 ?_
      exact r_iret (hE _ (Option.some.inj hg)) dX6_after_103
    replace hg := (if_neg h63_0).symm.trans hg
    by_cases h63_1 : x3 = 1
    · replace hg := (if_pos h63_1).symm.trans hg
      refine r_tableIn (tgt := 104) (off := 41) dX6_after_63 (by rw [h63_1]; decide) (by rw [h63_1]; decide) (by rw [h63_1]; decide) (by decide) ?_
      refine r_aload_n dX6_after_104 0 rfl ?_
      refine gf_X6_1 (v := .ref (b 0)) 0 rfl rfl qw_176 dX6_after_105 ?_
      refine gfN_X5_0 (v := .ref (b 1)) 7 rfl rfl qw_97 dX6_after_108 ?_
      refine r_iconst (v := 2) dX6_after_111 kic_2 ?_
      obtain ⟨o112, e112, hg⟩ := ob hg
      refine r_callV (As := [.int 2]) (rest := []) (ws' := wT Z t (a 0) (b 0) hj hq hi ++ (wP Z a w er fl me p pr ++ (wP Z b wt ert flt met pt prt))) 0 rfl rfl rfl (fun l => c_X0_tally Z l (b 1) (b 2) (b 3) wt ert flt 2 o112 e112) qw_391 mv_X0_tally (xPk.idx [8, 9, 10] rfl rfl rfl rfl rfl) ⟨Nat.le_of_ble_eq_true rfl, Nat.le_of_ble_eq_true rfl⟩ ⟨rfl, rfl⟩ ⟨Nat.zero_le _, Nat.zero_le _⟩ rfl (Nat.le_of_ble_eq_true rfl) rfl dX6_after_112 ?_
      exact r_iret (hE _ (Option.some.inj hg)) dX6_after_115
    replace hg := (if_neg h63_1).symm.trans hg
    by_cases h63_2 : x3 = 2
    · replace hg := (if_pos h63_2).symm.trans hg
      refine r_tableIn (tgt := 116) (off := 53) dX6_after_63 (by rw [h63_2]; decide) (by rw [h63_2]; decide) (by rw [h63_2]; decide) (by decide) ?_
      refine r_aload_n dX6_after_116 0 rfl ?_
      refine gf_X6_1 (v := .ref (b 0)) 0 rfl rfl qw_176 dX6_after_117 ?_
      refine gfN_X5_1 (v := .ref (b 4)) 7 rfl rfl qw_99 dX6_after_120 ?_
      refine gfN_X3_2 (v := .int (met 2)) 11 rfl rfl qw_73 dX6_after_123 ?_
      exact r_iret (hE _ (Option.some.inj hg)) dX6_after_126
    replace hg := (if_neg h63_2).symm.trans hg
    by_cases h63_3 : x3 = 3
    · replace hg := (if_pos h63_3).symm.trans hg
      refine r_tableIn (tgt := 127) (off := 64) dX6_after_63 (by rw [h63_3]; decide) (by rw [h63_3]; decide) (by rw [h63_3]; decide) (by decide) ?_
      refine r_aload_n dX6_after_127 0 rfl ?_
      refine gf_X6_1 (v := .ref (b 0)) 0 rfl rfl qw_176 dX6_after_128 ?_
      refine gfN_X5_1 (v := .ref (b 4)) 7 rfl rfl qw_99 dX6_after_131 ?_
      refine gfN_X3_3 (v := .int (met 3)) 11 rfl rfl qw_76 dX6_after_134 ?_
      exact r_iret (hE _ (Option.some.inj hg)) dX6_after_137
    replace hg := (if_neg h63_3).symm.trans hg
    have n63_0 : ¬ x3.toInt = 0 := x_nei (by decide) h63_0
    have n63_1 : ¬ x3.toInt = 1 := x_nei (by decide) h63_1
    have n63_2 : ¬ x3.toInt = 2 := x_nei (by decide) h63_2
    have n63_3 : ¬ x3.toInt = 3 := x_nei (by decide) h63_3
    refine r_tableOut (tgt := 138) dX6_after_63 (by omega) (by decide) ?_
    refine r_aload_n dX6_after_138 0 rfl ?_
    refine gf_X6_1 (v := .ref (b 0)) 0 rfl rfl qw_176 dX6_after_139 ?_
    refine gfN_X5_1 (v := .ref (b 4)) 7 rfl rfl qw_99 dX6_after_142 ?_
    refine gfN_X3_0 (v := .int (met 0)) 11 rfl rfl qw_67 dX6_after_145 ?_
    exact r_iret (hE _ (Option.some.inj hg)) dX6_after_148
  unfold g_X6_after at hg
  show AtK X Z rm_X6_after cX6_after RX6 5 0 0 (wT Z t (a 0) (b 0) hj hq hi ++ (wP Z a w er fl me p pr ++ (wP Z b wt ert flt met pt prt))) 0 [(0, .ref t), (1, .int n1), (2, .int n2), (3, .int n3)] []
  refine r_iload_n dX6_after_0 2 rfl ?_
  refine r_iconst (v := 0) dX6_after_1 kic_0 ?_
  refine r_bipush (v := 30) dX6_after_2 kbp_30 ?_
  obtain ⟨o4, e4, hg⟩ := ob hg
  refine r_callS (As := [.int n2, .int 0, .int 30]) (rest := []) (ws' := wT Z t (a 0) (b 0) hj hq hi ++ (wP Z a w er fl me p pr ++ (wP Z b wt ert flt met pt prt))) (fun l => c_X6_isWithin Z l   n2 0 30 o4 e4) qw_195 ms_X6_isWithin xPk.none ⟨Nat.le_of_ble_eq_true rfl, Nat.le_of_ble_eq_true rfl⟩ ⟨rfl, rfl⟩ ⟨Nat.zero_le _, Nat.zero_le _⟩ rfl (Nat.le_of_ble_eq_true rfl) rfl dX6_after_4 ?_
  refine r_if_eq (tgt := 19) dX6_after_7 (by decide) (fun h7 => ?_) (fun h7 => ?_)
  · replace hg := (if_pos h7).symm.trans hg
    exact r_sub [] rfl (J19 wt ert flt met pt prt hg)
  · replace hg := (if_neg h7).symm.trans hg
    refine r_iload_n dX6_after_10 3 rfl ?_
    refine r_iconst (v := 0) dX6_after_11 kic_0 ?_
    refine r_iconst (v := 4) dX6_after_12 kic_4 ?_
    obtain ⟨o13, e13, hg⟩ := ob hg
    refine r_callS (As := [.int n3, .int 0, .int 4]) (rest := []) (ws' := wT Z t (a 0) (b 0) hj hq hi ++ (wP Z a w er fl me p pr ++ (wP Z b wt ert flt met pt prt))) (fun l => c_X6_isWithin Z l   n3 0 4 o13 e13) qw_195 ms_X6_isWithin xPk.none ⟨Nat.le_of_ble_eq_true rfl, Nat.le_of_ble_eq_true rfl⟩ ⟨rfl, rfl⟩ ⟨Nat.zero_le _, Nat.zero_le _⟩ rfl (Nat.le_of_ble_eq_true rfl) rfl dX6_after_13 ?_
    refine r_if_ne (tgt := 21) dX6_after_16 (by decide) (fun h16 => ?_) (fun h16 => ?_)
    · replace hg := (if_neg h16).symm.trans hg
      refine r_aload_n dX6_after_21 0 rfl ?_
      refine gf_X6_0 (v := .ref (a 0)) 0 rfl rfl qw_175 dX6_after_22 ?_
      refine r_iload_n dX6_after_25 1 rfl ?_
      obtain ⟨o26, e26, hg⟩ := ob hg
      refine r_callV (As := [.int n1]) (rest := []) (ws' := wT Z t (a 0) (b 0) hj hq hi ++ (wP Z a w er fl me p pr ++ (wP Z b wt ert flt met pt prt))) 0 rfl rfl rfl (fun l => c_X5_refusalOf Z l a w er fl me p pr n1 o26 e26) qw_217 mv_X5_refusalOf (xPk.idx [1, 2, 3, 4, 5, 6] rfl rfl rfl rfl rfl) ⟨Nat.le_of_ble_eq_true rfl, Nat.le_of_ble_eq_true rfl⟩ ⟨rfl, rfl⟩ ⟨Nat.zero_le _, Nat.zero_le _⟩ rfl (Nat.le_of_ble_eq_true rfl) rfl dX6_after_26 ?_
      refine r_istore (lv' := [(4, .int o26), (0, .ref t), (1, .int n1), (2, .int n2), (3, .int n3)]) dX6_after_29 (by decide) rfl ?_
      refine r_iload dX6_after_31 0 rfl ?_
      refine r_if_eq (tgt := 39) dX6_after_33 (by decide) (fun h33 => ?_) (fun h33 => ?_)
      · replace hg := (if_pos h33).symm.trans hg
        refine r_aload_n dX6_after_39 1 rfl ?_
        refine r_iload_n dX6_after_40 2 rfl ?_
        refine r_iload_n dX6_after_41 3 rfl ?_
        obtain ⟨o42, e42, hg⟩ := ob hg
        refine r_callV (As := [.int n1, .int n2]) (rest := []) (ws' := wT Z t (a 0) (b 0) hj hq hi ++ (wP Z a w er fl me p pr ++ (wP Z b o42.1 o42.2.1 o42.2.2.1 o42.2.2.2.1 o42.2.2.2.2.1 o42.2.2.2.2.2))) 0 rfl rfl rfl (fun l => c_X6_trySale Z l t hj hq hi a b w er fl me p pr wt ert flt met pt prt n1 n2 o42 e42) qw_537 mv_X6_trySale (xPk.all rfl) ⟨Nat.le_of_ble_eq_true rfl, Nat.le_of_ble_eq_true rfl⟩ ⟨rfl, rfl⟩ ⟨Nat.zero_le _, Nat.zero_le _⟩ rfl (Nat.le_of_ble_eq_true rfl) rfl dX6_after_42 ?_
        refine r_aload_n dX6_after_45 1 rfl ?_
        refine gf_X6_1 (v := .ref (b 0)) 0 rfl rfl qw_176 dX6_after_46 ?_
        refine gfN_X5_3 (v := .int (o42.2.2.2.2.2 0)) 7 rfl rfl qw_102 dX6_after_49 ?_
        refine r_if_ne (tgt := 62) dX6_after_52 (by decide) (fun h52 => ?_) (fun h52 => ?_)
        · replace hg := (if_neg h52).symm.trans hg
          exact r_sub [1, 4] rfl (J62 n3 o42.1 o42.2.1 o42.2.2.1 o42.2.2.2.1 o42.2.2.2.2.1 o42.2.2.2.2.2 hg)
        · replace hg := (if_pos h52).symm.trans hg
          refine r_aload_n dX6_after_55 1 rfl ?_
          refine gf_X6_1 (v := .ref (b 0)) 0 rfl rfl qw_176 dX6_after_56 ?_
          obtain ⟨o59, e59, hg⟩ := ob hg
          refine r_callV (As := []) (rest := []) (ws' := wT Z t (a 0) (b 0) hj hq hi ++ (wP Z a w er fl me p pr ++ (wP Z b o42.1 o42.2.1 o42.2.2.1 o59.1 o42.2.2.2.2.1 o59.2))) 0 rfl rfl rfl (fun l => c_X5_wake Z l b o42.1 o42.2.1 o42.2.2.1 o42.2.2.2.1 o42.2.2.2.2.1 o42.2.2.2.2.2  o59 e59) qw_409 mv_X5_wake (xPk.idx [7, 8, 9, 10, 11, 12] rfl rfl rfl rfl rfl) ⟨Nat.le_of_ble_eq_true rfl, Nat.le_of_ble_eq_true rfl⟩ ⟨rfl, rfl⟩ ⟨Nat.zero_le _, Nat.zero_le _⟩ rfl (Nat.le_of_ble_eq_true rfl) rfl dX6_after_59 ?_
          exact r_sub [1, 4] rfl (J62 n3 o42.1 o42.2.1 o42.2.2.1 o59.1 o42.2.2.2.2.1 o59.2 hg)
      · replace hg := (if_neg h33).symm.trans hg
        refine r_iload dX6_after_36 0 rfl ?_
        exact r_iret (hE _ (Option.some.inj hg)) dX6_after_38
    · replace hg := (if_pos h16).symm.trans hg
      exact r_sub [] rfl (J19 wt ert flt met pt prt hg)

-- TicketJournal.needed(I)I
abbrev rm_X6_needed : Room := { frames := 3, cells := 0, slots := 0, locals := 63 }
def g_X6_needed (me : Nat → Int32) (p : Nat → Int32) (pr : Nat → Int32) (n1 : Int32) : Option (Int32) :=
  (g_X5_refusalOf me p pr n1).bind fun o5 => (if o5 = 0 then (if (me 1) = 4 then some (11) else some (4)) else some (o5))
set_option maxHeartbeats 4000000 in
set_option maxRecDepth 100000 in
theorem c_X6_needed (Z : GZ) (l : Launch) (t : Nat) (tr0 : Nat) (hj : Nat) (hq : Nat) (hi : Nat) (a : Nat → Nat) (w : Nat → Int32) (er : Nat → Int32) (fl : Nat → Int32) (me : Nat → Int32) (p : Nat → Int32) (pr : Nat → Int32) (n1 : Int32) (o : (Int32)) (hg : g_X6_needed me p pr n1 = some o) : Con Z l yX6_needed cX6_needed 3 (some .int) rm_X6_needed [.ref t, .int n1] (wT Z t (a 0) tr0 hj hq hi ++ (wP Z a w er fl me p pr)) (some (.int o)) (wT Z t (a 0) tr0 hj hq hi ++ (wP Z a w er fl me p pr)) := by
  refine Con.of (by decide) (Nat.le_of_ble_eq_true rfl) ?_
  intro X hE0
  have hE : ∀ z, z = o → endsX X Z (some .int) (some (.int z)) (wT Z t (a 0) tr0 hj hq hi ++ (wP Z a w er fl me p pr)) := by
    rintro _ rfl; exact hE0
  unfold g_X6_needed at hg
  show AtK X Z rm_X6_needed cX6_needed RX6 3 0 0 (wT Z t (a 0) tr0 hj hq hi ++ (wP Z a w er fl me p pr)) 0 [(0, .ref t), (1, .int n1)] []
  refine r_aload_n dX6_needed_0 0 rfl ?_
  refine gf_X6_0 (v := .ref (a 0)) 0 rfl rfl qw_175 dX6_needed_1 ?_
  refine r_iload_n dX6_needed_4 1 rfl ?_
  obtain ⟨o5, e5, hg⟩ := ob hg
  refine r_callV (As := [.int n1]) (rest := []) (ws' := wT Z t (a 0) tr0 hj hq hi ++ (wP Z a w er fl me p pr)) 0 rfl rfl rfl (fun l => c_X5_refusalOf Z l a w er fl me p pr n1 o5 e5) qw_217 mv_X5_refusalOf (xPk.idx [1, 2, 3, 4, 5, 6] rfl rfl rfl rfl rfl) ⟨Nat.le_of_ble_eq_true rfl, Nat.le_of_ble_eq_true rfl⟩ ⟨rfl, rfl⟩ ⟨Nat.zero_le _, Nat.zero_le _⟩ rfl (Nat.le_of_ble_eq_true rfl) rfl dX6_needed_5 ?_
  refine r_istore_n (lv' := [(2, .int o5), (0, .ref t), (1, .int n1)]) dX6_needed_8 (by decide) rfl ?_
  refine r_iload_n dX6_needed_9 0 rfl ?_
  refine r_if_eq (tgt := 15) dX6_needed_10 (by decide) (fun h10 => ?_) (fun h10 => ?_)
  · replace hg := (if_pos h10).symm.trans hg
    refine r_aload_n dX6_needed_15 1 rfl ?_
    refine gf_X6_0 (v := .ref (a 0)) 0 rfl rfl qw_175 dX6_needed_16 ?_
    refine gfN_X5_1 (v := .ref (a 4)) 1 rfl rfl qw_99 dX6_needed_19 ?_
    refine gfN_X3_1 (v := .int (me 1)) 5 rfl rfl qw_70 dX6_needed_22 ?_
    refine r_iconst (v := 4) dX6_needed_25 kic_4 ?_
    refine r_icmp_ne (tgt := 34) dX6_needed_26 (by decide) (fun h26 => ?_) (fun h26 => ?_)
    · replace hg := (if_neg h26).symm.trans hg
      refine r_iconst (v := 4) dX6_needed_34 kic_4 ?_
      exact r_iret (hE _ (Option.some.inj hg)) dX6_needed_35
    · replace hg := (if_pos h26).symm.trans hg
      refine r_bipush (v := 11) dX6_needed_29 kbp_11 ?_
      refine r_goto (tgt := 35) dX6_needed_31 (by decide) ?_
      exact r_iret (hE _ (Option.some.inj hg)) dX6_needed_35
  · replace hg := (if_neg h10).symm.trans hg
    refine r_iload_n dX6_needed_13 0 rfl ?_
    exact r_iret (hE _ (Option.some.inj hg)) dX6_needed_14

-- TicketJournal.records(I)I
abbrev rm_X6_records : Room := { frames := 6, cells := 0, slots := 0, locals := 139 }
def g_X6_records (w : Nat → Int32) (d : Nat → Int32) (jc : Int32) (n1 : Int32) : Option (Int32 × (Nat → Int32) × (Int32)) :=
  (if n1 = (-2) then (g_X0_tally w 2).bind fun o36 => some (o36, d, jc) else (if n1 = (-1) then (g_X0_tally w 1).bind fun o48 => some (o48, d, jc) else (g_X6_isWithin n1 0 4).bind fun o55 => (if o55 = 0 then some ((-1), d, jc) else (g_X2_gather d jc w).bind fun o72 => (g_X2_countOf o72.1 o72.2 n1).bind fun o76 => some (o76, o72.1, o72.2))))
set_option maxHeartbeats 4000000 in
set_option maxRecDepth 100000 in
theorem c_X6_records (Z : GZ) (l : Launch) (t : Nat) (tr0 : Nat) (hq : Nat) (hi : Nat) (a : Nat → Nat) (hj : Nat) (hd : Nat) (w : Nat → Int32) (er : Nat → Int32) (fl : Nat → Int32) (me : Nat → Int32) (p : Nat → Int32) (pr : Nat → Int32) (d : Nat → Int32) (jc : Int32) (n1 : Int32) (o : (Int32 × (Nat → Int32) × (Int32))) (hg : g_X6_records w d jc n1 = some o) : Con Z l yX6_records cX6_records 2 (some .int) rm_X6_records [.ref t, .int n1] (wT Z t (a 0) tr0 hj hq hi ++ (wP Z a w er fl me p pr ++ (wJ Z hj hd d jc))) (some (.int o.1)) (wT Z t (a 0) tr0 hj hq hi ++ (wP Z a w er fl me p pr ++ (wJ Z hj hd o.2.1 o.2.2))) := by
  refine Con.of (by decide) (Nat.le_of_ble_eq_true rfl) ?_
  intro X hE0
  have hE : ∀ z, z = o → endsX X Z (some .int) (some (.int z.1)) (wT Z t (a 0) tr0 hj hq hi ++ (wP Z a w er fl me p pr ++ (wJ Z hj hd z.2.1 z.2.2))) := by
    rintro _ rfl; exact hE0
  unfold g_X6_records at hg
  show AtK X Z rm_X6_records cX6_records RX6 2 0 0 (wT Z t (a 0) tr0 hj hq hi ++ (wP Z a w er fl me p pr ++ (wJ Z hj hd d jc))) 0 [(0, .ref t), (1, .int n1)] []
  refine r_iload_n dX6_records_0 1 rfl ?_
  by_cases h1_m2 : n1 = (-2)
  · replace hg := (if_pos h1_m2).symm.trans hg
    refine r_lookup (tgt := 28) (off := 27) dX6_records_1 (by decide) (by rw [h1_m2]; decide) (by decide) ?_
    refine r_aload_n dX6_records_28 0 rfl ?_
    refine gf_X6_0 (v := .ref (a 0)) 0 rfl rfl qw_175 dX6_records_29 ?_
    refine gfN_X5_0 (v := .ref (a 1)) 1 rfl rfl qw_97 dX6_records_32 ?_
    refine r_iconst (v := 2) dX6_records_35 kic_2 ?_
    obtain ⟨o36, e36, hg⟩ := ob hg
    refine r_callV (As := [.int 2]) (rest := []) (ws' := wT Z t (a 0) tr0 hj hq hi ++ (wP Z a w er fl me p pr ++ (wJ Z hj hd d jc))) 0 rfl rfl rfl (fun l => c_X0_tally Z l (a 1) (a 2) (a 3) w er fl 2 o36 e36) qw_391 mv_X0_tally (xPk.idx [2, 3, 4] rfl rfl rfl rfl rfl) ⟨Nat.le_of_ble_eq_true rfl, Nat.le_of_ble_eq_true rfl⟩ ⟨rfl, rfl⟩ ⟨Nat.zero_le _, Nat.zero_le _⟩ rfl (Nat.le_of_ble_eq_true rfl) rfl dX6_records_36 ?_
    exact r_iret (hE _ (Option.some.inj hg)) dX6_records_39
  replace hg := (if_neg h1_m2).symm.trans hg
  by_cases h1_m1 : n1 = (-1)
  · replace hg := (if_pos h1_m1).symm.trans hg
    refine r_lookup (tgt := 40) (off := 39) dX6_records_1 (by decide) (by rw [h1_m1]; decide) (by decide) ?_
    refine r_aload_n dX6_records_40 0 rfl ?_
    refine gf_X6_0 (v := .ref (a 0)) 0 rfl rfl qw_175 dX6_records_41 ?_
    refine gfN_X5_0 (v := .ref (a 1)) 1 rfl rfl qw_97 dX6_records_44 ?_
    refine r_iconst (v := 1) dX6_records_47 kic_1 ?_
    obtain ⟨o48, e48, hg⟩ := ob hg
    refine r_callV (As := [.int 1]) (rest := []) (ws' := wT Z t (a 0) tr0 hj hq hi ++ (wP Z a w er fl me p pr ++ (wJ Z hj hd d jc))) 0 rfl rfl rfl (fun l => c_X0_tally Z l (a 1) (a 2) (a 3) w er fl 1 o48 e48) qw_391 mv_X0_tally (xPk.idx [2, 3, 4] rfl rfl rfl rfl rfl) ⟨Nat.le_of_ble_eq_true rfl, Nat.le_of_ble_eq_true rfl⟩ ⟨rfl, rfl⟩ ⟨Nat.zero_le _, Nat.zero_le _⟩ rfl (Nat.le_of_ble_eq_true rfl) rfl dX6_records_48 ?_
    exact r_iret (hE _ (Option.some.inj hg)) dX6_records_51
  replace hg := (if_neg h1_m1).symm.trans hg
  have n1_m2 : ¬ n1.toInt = (-2) := x_nei (by decide) h1_m2
  have n1_m1 : ¬ n1.toInt = (-1) := x_nei (by decide) h1_m1
  refine r_lookup (tgt := 52) (off := 51) dX6_records_1 (by decide) (by simp [Op.lookupswitch.offset, Ne.symm n1_m2, Ne.symm n1_m1]) (by decide) ?_
  refine r_iload_n dX6_records_52 1 rfl ?_
  refine r_iconst (v := 0) dX6_records_53 kic_0 ?_
  refine r_iconst (v := 4) dX6_records_54 kic_4 ?_
  obtain ⟨o55, e55, hg⟩ := ob hg
  refine r_callS (As := [.int n1, .int 0, .int 4]) (rest := []) (ws' := wT Z t (a 0) tr0 hj hq hi ++ (wP Z a w er fl me p pr ++ (wJ Z hj hd d jc))) (fun l => c_X6_isWithin Z l   n1 0 4 o55 e55) qw_195 ms_X6_isWithin xPk.none ⟨Nat.le_of_ble_eq_true rfl, Nat.le_of_ble_eq_true rfl⟩ ⟨rfl, rfl⟩ ⟨Nat.zero_le _, Nat.zero_le _⟩ rfl (Nat.le_of_ble_eq_true rfl) rfl dX6_records_55 ?_
  refine r_if_eq (tgt := 82) dX6_records_58 (by decide) (fun h58 => ?_) (fun h58 => ?_)
  · replace hg := (if_pos h58).symm.trans hg
    refine r_iconst (v := (-1)) dX6_records_82 kic_m1 ?_
    exact r_iret (hE _ (Option.some.inj hg)) dX6_records_83
  · replace hg := (if_neg h58).symm.trans hg
    refine r_aload_n dX6_records_61 0 rfl ?_
    refine gf_X6_2 (v := .ref hj) 0 rfl rfl qw_177 dX6_records_62 ?_
    refine r_aload_n dX6_records_65 0 rfl ?_
    refine gf_X6_0 (v := .ref (a 0)) 0 rfl rfl qw_175 dX6_records_66 ?_
    refine gfN_X5_0 (v := .ref (a 1)) 1 rfl rfl qw_97 dX6_records_69 ?_
    obtain ⟨o72, e72, hg⟩ := ob hg
    refine r_callV (As := [.ref (a 1)]) (rest := []) (ws' := wT Z t (a 0) tr0 hj hq hi ++ (wP Z a w er fl me p pr ++ (wJ Z hj hd o72.1 o72.2))) 0 rfl rfl rfl (fun l => c_X2_gather Z l hj hd (a 1) (a 2) (a 3) d jc w er fl  o72 e72) qw_466 mv_X2_gather (xPk.idx [7, 8, 2, 3, 4] rfl rfl rfl rfl rfl) ⟨Nat.le_of_ble_eq_true rfl, Nat.le_of_ble_eq_true rfl⟩ ⟨rfl, rfl⟩ ⟨Nat.zero_le _, Nat.zero_le _⟩ rfl (Nat.le_of_ble_eq_true rfl) rfl dX6_records_72 ?_
    refine r_iload_n dX6_records_75 1 rfl ?_
    obtain ⟨o76, e76, hg⟩ := ob hg
    refine r_callV (As := [.int n1]) (rest := []) (ws' := wT Z t (a 0) tr0 hj hq hi ++ (wP Z a w er fl me p pr ++ (wJ Z hj hd o72.1 o72.2))) 0 rfl rfl rfl (fun l => c_X2_countOf Z l hj hd o72.1 o72.2 n1 o76 e76) qw_482 mv_X2_countOf (xPk.idx [7, 8] rfl rfl rfl rfl rfl) ⟨Nat.le_of_ble_eq_true rfl, Nat.le_of_ble_eq_true rfl⟩ ⟨rfl, rfl⟩ ⟨Nat.zero_le _, Nat.zero_le _⟩ rfl (Nat.le_of_ble_eq_true rfl) rfl dX6_records_76 ?_
    refine r_goto (tgt := 83) dX6_records_79 (by decide) ?_
    exact r_iret (hE _ (Option.some.inj hg)) dX6_records_83

-- TicketJournal.record(II)I
abbrev rm_X6_record : Room := { frames := 5, cells := 0, slots := 0, locals := 118 }
def g_X6_record_13 (w : Nat → Int32)  (d : Nat → Int32) (jc : Int32) : Option (Int32 × (Nat → Int32) × (Int32)) :=
  some ((-1), d, jc)
def g_X6_record (w : Nat → Int32) (d : Nat → Int32) (jc : Int32) (n1 : Int32) (n2 : Int32) : Option (Int32 × (Nat → Int32) × (Int32)) :=
  (if n1 < 0 then g_X6_record_13 w d jc else (g_X6_isWithin n2 0 5).bind fun o7 => (if o7 = 0 then g_X6_record_13 w d jc else (g_X2_gather d jc w).bind fun o26 => (g_X2_detail o26.1 o26.2 n1 n2).bind fun o31 => some (o31, o26.1, o26.2)))
set_option maxHeartbeats 4000000 in
set_option maxRecDepth 100000 in
theorem c_X6_record (Z : GZ) (l : Launch) (t : Nat) (tr0 : Nat) (hq : Nat) (hi : Nat) (a : Nat → Nat) (hj : Nat) (hd : Nat) (w : Nat → Int32) (er : Nat → Int32) (fl : Nat → Int32) (me : Nat → Int32) (p : Nat → Int32) (pr : Nat → Int32) (d : Nat → Int32) (jc : Int32) (n1 : Int32) (n2 : Int32) (o : (Int32 × (Nat → Int32) × (Int32))) (hg : g_X6_record w d jc n1 n2 = some o) : Con Z l yX6_record cX6_record 3 (some .int) rm_X6_record [.ref t, .int n1, .int n2] (wT Z t (a 0) tr0 hj hq hi ++ (wP Z a w er fl me p pr ++ (wJ Z hj hd d jc))) (some (.int o.1)) (wT Z t (a 0) tr0 hj hq hi ++ (wP Z a w er fl me p pr ++ (wJ Z hj hd o.2.1 o.2.2))) := by
  refine Con.of (by decide) (Nat.le_of_ble_eq_true rfl) ?_
  intro X hE0
  have hE : ∀ z, z = o → endsX X Z (some .int) (some (.int z.1)) (wT Z t (a 0) tr0 hj hq hi ++ (wP Z a w er fl me p pr ++ (wJ Z hj hd z.2.1 z.2.2))) := by
    rintro _ rfl; exact hE0
  have J13 : ∀ (d : Nat → Int32) (jc : Int32), g_X6_record_13 w d jc = some o → AtK X Z rm_X6_record cX6_record RX6 3 0 0 (wT Z t (a 0) tr0 hj hq hi ++ (wP Z a w er fl me p pr ++ (wJ Z hj hd d jc))) 13 [] [] := by
    intro d jc hg
    unfold g_X6_record_13 at hg
    refine r_iconst (v := (-1)) dX6_record_13 kic_m1 ?_
    exact r_iret (hE _ (Option.some.inj hg)) dX6_record_14
  unfold g_X6_record at hg
  show AtK X Z rm_X6_record cX6_record RX6 3 0 0 (wT Z t (a 0) tr0 hj hq hi ++ (wP Z a w er fl me p pr ++ (wJ Z hj hd d jc))) 0 [(0, .ref t), (1, .int n1), (2, .int n2)] []
  refine r_iload_n dX6_record_0 1 rfl ?_
  refine r_if_lt (tgt := 13) dX6_record_1 (by decide) (fun h1 => ?_) (fun h1 => ?_)
  · replace hg := (if_pos h1).symm.trans hg
    exact r_sub [] rfl (J13 d jc hg)
  · replace hg := (if_neg h1).symm.trans hg
    refine r_iload_n dX6_record_4 2 rfl ?_
    refine r_iconst (v := 0) dX6_record_5 kic_0 ?_
    refine r_iconst (v := 5) dX6_record_6 kic_5 ?_
    obtain ⟨o7, e7, hg⟩ := ob hg
    refine r_callS (As := [.int n2, .int 0, .int 5]) (rest := []) (ws' := wT Z t (a 0) tr0 hj hq hi ++ (wP Z a w er fl me p pr ++ (wJ Z hj hd d jc))) (fun l => c_X6_isWithin Z l   n2 0 5 o7 e7) qw_195 ms_X6_isWithin xPk.none ⟨Nat.le_of_ble_eq_true rfl, Nat.le_of_ble_eq_true rfl⟩ ⟨rfl, rfl⟩ ⟨Nat.zero_le _, Nat.zero_le _⟩ rfl (Nat.le_of_ble_eq_true rfl) rfl dX6_record_7 ?_
    refine r_if_ne (tgt := 15) dX6_record_10 (by decide) (fun h10 => ?_) (fun h10 => ?_)
    · replace hg := (if_neg h10).symm.trans hg
      refine r_aload_n dX6_record_15 0 rfl ?_
      refine gf_X6_2 (v := .ref hj) 0 rfl rfl qw_177 dX6_record_16 ?_
      refine r_aload_n dX6_record_19 0 rfl ?_
      refine gf_X6_0 (v := .ref (a 0)) 0 rfl rfl qw_175 dX6_record_20 ?_
      refine gfN_X5_0 (v := .ref (a 1)) 1 rfl rfl qw_97 dX6_record_23 ?_
      obtain ⟨o26, e26, hg⟩ := ob hg
      refine r_callV (As := [.ref (a 1)]) (rest := []) (ws' := wT Z t (a 0) tr0 hj hq hi ++ (wP Z a w er fl me p pr ++ (wJ Z hj hd o26.1 o26.2))) 0 rfl rfl rfl (fun l => c_X2_gather Z l hj hd (a 1) (a 2) (a 3) d jc w er fl  o26 e26) qw_466 mv_X2_gather (xPk.idx [7, 8, 2, 3, 4] rfl rfl rfl rfl rfl) ⟨Nat.le_of_ble_eq_true rfl, Nat.le_of_ble_eq_true rfl⟩ ⟨rfl, rfl⟩ ⟨Nat.zero_le _, Nat.zero_le _⟩ rfl (Nat.le_of_ble_eq_true rfl) rfl dX6_record_26 ?_
      refine r_iload_n dX6_record_29 1 rfl ?_
      refine r_iload_n dX6_record_30 2 rfl ?_
      obtain ⟨o31, e31, hg⟩ := ob hg
      refine r_callV (As := [.int n1, .int n2]) (rest := []) (ws' := wT Z t (a 0) tr0 hj hq hi ++ (wP Z a w er fl me p pr ++ (wJ Z hj hd o26.1 o26.2))) 0 rfl rfl rfl (fun l => c_X2_detail Z l hj hd o26.1 o26.2 n1 n2 o31 e31) qw_522 mv_X2_detail (xPk.idx [7, 8] rfl rfl rfl rfl rfl) ⟨Nat.le_of_ble_eq_true rfl, Nat.le_of_ble_eq_true rfl⟩ ⟨rfl, rfl⟩ ⟨Nat.zero_le _, Nat.zero_le _⟩ rfl (Nat.le_of_ble_eq_true rfl) rfl dX6_record_31 ?_
      exact r_iret (hE _ (Option.some.inj hg)) dX6_record_34
    · replace hg := (if_pos h10).symm.trans hg
      exact r_sub [] rfl (J13 d jc hg)

-- TicketJournal.takings(I)I
abbrev rm_X6_takings : Room := { frames := 5, cells := 0, slots := 0, locals := 118 }
def g_X6_takings_14 (w : Nat → Int32)  (x1 : Int32) (d : Nat → Int32) (jc : Int32) : Option (Int32 × (Nat → Int32) × (Int32)) :=
  (g_X2_gather d jc w).bind fun o25 => (g_X2_pricesOf o25.1 o25.2 0 x1).bind fun o32 => (g_X2_pricesOf o25.1 o25.2 1 x1).bind fun o38 => some ((o32 - o38), o25.1, o25.2)
def g_X6_takings (w : Nat → Int32) (d : Nat → Int32) (jc : Int32) (n1 : Int32) : Option (Int32 × (Nat → Int32) × (Int32)) :=
  (if n1 = (-1) then g_X6_takings_14 w n1 d jc else (g_X6_isSort n1).bind fun o6 => (if o6 = 0 then some ((-1), d, jc) else g_X6_takings_14 w n1 d jc))
set_option maxHeartbeats 4000000 in
set_option maxRecDepth 100000 in
theorem c_X6_takings (Z : GZ) (l : Launch) (t : Nat) (tr0 : Nat) (hq : Nat) (hi : Nat) (a : Nat → Nat) (hj : Nat) (hd : Nat) (w : Nat → Int32) (er : Nat → Int32) (fl : Nat → Int32) (me : Nat → Int32) (p : Nat → Int32) (pr : Nat → Int32) (d : Nat → Int32) (jc : Int32) (n1 : Int32) (o : (Int32 × (Nat → Int32) × (Int32))) (hg : g_X6_takings w d jc n1 = some o) : Con Z l yX6_takings cX6_takings 3 (some .int) rm_X6_takings [.ref t, .int n1] (wT Z t (a 0) tr0 hj hq hi ++ (wP Z a w er fl me p pr ++ (wJ Z hj hd d jc))) (some (.int o.1)) (wT Z t (a 0) tr0 hj hq hi ++ (wP Z a w er fl me p pr ++ (wJ Z hj hd o.2.1 o.2.2))) := by
  refine Con.of (by decide) (Nat.le_of_ble_eq_true rfl) ?_
  intro X hE0
  have hE : ∀ z, z = o → endsX X Z (some .int) (some (.int z.1)) (wT Z t (a 0) tr0 hj hq hi ++ (wP Z a w er fl me p pr ++ (wJ Z hj hd z.2.1 z.2.2))) := by
    rintro _ rfl; exact hE0
  have J14 : ∀ (x1 : Int32) (d : Nat → Int32) (jc : Int32), g_X6_takings_14 w x1 d jc = some o → AtK X Z rm_X6_takings cX6_takings RX6 3 0 0 (wT Z t (a 0) tr0 hj hq hi ++ (wP Z a w er fl me p pr ++ (wJ Z hj hd d jc))) 14 [(0, .ref t), (1, .int x1)] [] := by
    intro x1 d jc hg
    unfold g_X6_takings_14 at hg
    refine r_aload_n dX6_takings_14 0 rfl ?_
    refine gf_X6_2 (v := .ref hj) 0 rfl rfl qw_177 dX6_takings_15 ?_
    refine r_aload_n dX6_takings_18 0 rfl ?_
    refine gf_X6_0 (v := .ref (a 0)) 0 rfl rfl qw_175 dX6_takings_19 ?_
    refine gfN_X5_0 (v := .ref (a 1)) 1 rfl rfl qw_97 dX6_takings_22 ?_
    obtain ⟨o25, e25, hg⟩ := ob hg
    refine r_callV (As := [.ref (a 1)]) (rest := []) (ws' := wT Z t (a 0) tr0 hj hq hi ++ (wP Z a w er fl me p pr ++ (wJ Z hj hd o25.1 o25.2))) 0 rfl rfl rfl (fun l => c_X2_gather Z l hj hd (a 1) (a 2) (a 3) d jc w er fl  o25 e25) qw_466 mv_X2_gather (xPk.idx [7, 8, 2, 3, 4] rfl rfl rfl rfl rfl) ⟨Nat.le_of_ble_eq_true rfl, Nat.le_of_ble_eq_true rfl⟩ ⟨rfl, rfl⟩ ⟨Nat.zero_le _, Nat.zero_le _⟩ rfl (Nat.le_of_ble_eq_true rfl) rfl dX6_takings_25 ?_
    refine r_astore_n (lv' := [(2, .ref hj), (0, .ref t), (1, .int x1)]) dX6_takings_28 (by decide) rfl ?_
    refine r_aload_n dX6_takings_29 0 rfl ?_
    refine r_iconst (v := 0) dX6_takings_30 kic_0 ?_
    refine r_iload_n dX6_takings_31 2 rfl ?_
    obtain ⟨o32, e32, hg⟩ := ob hg
    refine r_callV (As := [.int 0, .int x1]) (rest := []) (ws' := wT Z t (a 0) tr0 hj hq hi ++ (wP Z a w er fl me p pr ++ (wJ Z hj hd o25.1 o25.2))) 0 rfl rfl rfl (fun l => c_X2_pricesOf Z l hj hd o25.1 o25.2 0 x1 o32 e32) qw_514 mv_X2_pricesOf (xPk.idx [7, 8] rfl rfl rfl rfl rfl) ⟨Nat.le_of_ble_eq_true rfl, Nat.le_of_ble_eq_true rfl⟩ ⟨rfl, rfl⟩ ⟨Nat.zero_le _, Nat.zero_le _⟩ rfl (Nat.le_of_ble_eq_true rfl) rfl dX6_takings_32 ?_
    refine r_aload_n dX6_takings_35 0 rfl ?_
    refine r_iconst (v := 1) dX6_takings_36 kic_1 ?_
    refine r_iload_n dX6_takings_37 2 rfl ?_
    obtain ⟨o38, e38, hg⟩ := ob hg
    refine r_callV (As := [.int 1, .int x1]) (rest := [.int o32]) (ws' := wT Z t (a 0) tr0 hj hq hi ++ (wP Z a w er fl me p pr ++ (wJ Z hj hd o25.1 o25.2))) 0 rfl rfl rfl (fun l => c_X2_pricesOf Z l hj hd o25.1 o25.2 1 x1 o38 e38) qw_514 mv_X2_pricesOf (xPk.idx [7, 8] rfl rfl rfl rfl rfl) ⟨Nat.le_of_ble_eq_true rfl, Nat.le_of_ble_eq_true rfl⟩ ⟨rfl, rfl⟩ ⟨Nat.zero_le _, Nat.zero_le _⟩ rfl (Nat.le_of_ble_eq_true rfl) rfl dX6_takings_38 ?_
    refine r_isub dX6_takings_41 ?_
    exact r_iret (hE _ (Option.some.inj hg)) dX6_takings_42
  unfold g_X6_takings at hg
  show AtK X Z rm_X6_takings cX6_takings RX6 3 0 0 (wT Z t (a 0) tr0 hj hq hi ++ (wP Z a w er fl me p pr ++ (wJ Z hj hd d jc))) 0 [(0, .ref t), (1, .int n1)] []
  refine r_iload_n dX6_takings_0 1 rfl ?_
  refine r_iconst (v := (-1)) dX6_takings_1 kic_m1 ?_
  refine r_icmp_eq (tgt := 14) dX6_takings_2 (by decide) (fun h2 => ?_) (fun h2 => ?_)
  · replace hg := (if_pos h2).symm.trans hg
    exact r_sub [0, 1] rfl (J14 n1 d jc hg)
  · replace hg := (if_neg h2).symm.trans hg
    refine r_iload_n dX6_takings_5 1 rfl ?_
    obtain ⟨o6, e6, hg⟩ := ob hg
    refine r_callS (As := [.int n1]) (rest := []) (ws' := wT Z t (a 0) tr0 hj hq hi ++ (wP Z a w er fl me p pr ++ (wJ Z hj hd d jc))) (fun l => c_X6_isSort Z l   n1 o6 e6) qw_376 ms_X6_isSort xPk.none ⟨Nat.le_of_ble_eq_true rfl, Nat.le_of_ble_eq_true rfl⟩ ⟨rfl, rfl⟩ ⟨Nat.zero_le _, Nat.zero_le _⟩ rfl (Nat.le_of_ble_eq_true rfl) rfl dX6_takings_6 ?_
    refine r_if_ne (tgt := 14) dX6_takings_9 (by decide) (fun h9 => ?_) (fun h9 => ?_)
    · replace hg := (if_neg h9).symm.trans hg
      exact r_sub [0, 1] rfl (J14 n1 d jc hg)
    · replace hg := (if_pos h9).symm.trans hg
      refine r_iconst (v := (-1)) dX6_takings_12 kic_m1 ?_
      exact r_iret (hE _ (Option.some.inj hg)) dX6_takings_13

-- TicketJournal.sell(I)I
abbrev rm_X6_sell : Room := { frames := 5, cells := 0, slots := 0, locals := 118 }
def g_X6_sell (w : Nat → Int32) (er : Nat → Int32) (fl : Nat → Int32) (me : Nat → Int32) (p : Nat → Int32) (pr : Nat → Int32) (pv : Nat → Int32) (W8 : Nat → Nat → Int32) (E8 : Nat → Nat → Int32) (F8 : Nat → Nat → Int32) (M8 : Nat → Nat → Int32) (P8 : Nat → Nat → Int32) (R8 : Nat → Nat → Int32) (n1 : Int32) : Option (Int32 × (Nat → Int32) × (Nat → Int32) × (Nat → Int32) × (Nat → Int32) × (Nat → Int32) × (Nat → Int32) × (Nat → Nat → Int32) × (Nat → Nat → Int32) × (Nat → Nat → Int32) × (Nat → Nat → Int32) × (Nat → Nat → Int32) × (Nat → Nat → Int32)) :=
  (g_X5_refusalOf me p pr n1).bind fun o5 => (if o5 = 0 then (g_X4_remember pv W8 E8 F8 M8 P8 R8 w er fl me p pr).bind fun o23 => (g_X5_issueTicket w er fl me p pr n1).bind fun o31 => some (o31.1, o31.2.1, o31.2.2.1, o31.2.2.2.1, o31.2.2.2.2.1, o31.2.2.2.2.2, o23.1, o23.2.1, o23.2.2.1, o23.2.2.2.1, o23.2.2.2.2.1, o23.2.2.2.2.2.1, o23.2.2.2.2.2.2) else some (o5, w, er, fl, me, pr, pv, W8, E8, F8, M8, P8, R8))
set_option maxHeartbeats 4000000 in
set_option maxRecDepth 100000 in
theorem c_X6_sell (Z : GZ) (l : Launch) (t : Nat) (tr0 : Nat) (hj : Nat) (hi : Nat) (a : Nat → Nat) (hq : Nat) (hs : Nat) (AD : Nat → Nat → Nat) (w : Nat → Int32) (er : Nat → Int32) (fl : Nat → Int32) (me : Nat → Int32) (p : Nat → Int32) (pr : Nat → Int32) (pv : Nat → Int32) (W8 : Nat → Nat → Int32) (E8 : Nat → Nat → Int32) (F8 : Nat → Nat → Int32) (M8 : Nat → Nat → Int32) (P8 : Nat → Nat → Int32) (R8 : Nat → Nat → Int32) (n1 : Int32) (o : (Int32 × (Nat → Int32) × (Nat → Int32) × (Nat → Int32) × (Nat → Int32) × (Nat → Int32) × (Nat → Int32) × (Nat → Nat → Int32) × (Nat → Nat → Int32) × (Nat → Nat → Int32) × (Nat → Nat → Int32) × (Nat → Nat → Int32) × (Nat → Nat → Int32))) (hg : g_X6_sell w er fl me p pr pv W8 E8 F8 M8 P8 R8 n1 = some o) : Con Z l yX6_sell cX6_sell 3 (some .int) rm_X6_sell [.ref t, .int n1] (wT Z t (a 0) tr0 hj hq hi ++ (wP Z a w er fl me p pr ++ (wQ Z hq hs AD pv W8 E8 F8 M8 P8 R8))) (some (.int o.1)) (wT Z t (a 0) tr0 hj hq hi ++ (wP Z a o.2.1 o.2.2.1 o.2.2.2.1 o.2.2.2.2.1 p o.2.2.2.2.2.1 ++ (wQ Z hq hs AD o.2.2.2.2.2.2.1 o.2.2.2.2.2.2.2.1 o.2.2.2.2.2.2.2.2.1 o.2.2.2.2.2.2.2.2.2.1 o.2.2.2.2.2.2.2.2.2.2.1 o.2.2.2.2.2.2.2.2.2.2.2.1 o.2.2.2.2.2.2.2.2.2.2.2.2))) := by
  refine Con.of (by decide) (Nat.le_of_ble_eq_true rfl) ?_
  intro X hE0
  have hE : ∀ z, z = o → endsX X Z (some .int) (some (.int z.1)) (wT Z t (a 0) tr0 hj hq hi ++ (wP Z a z.2.1 z.2.2.1 z.2.2.2.1 z.2.2.2.2.1 p z.2.2.2.2.2.1 ++ (wQ Z hq hs AD z.2.2.2.2.2.2.1 z.2.2.2.2.2.2.2.1 z.2.2.2.2.2.2.2.2.1 z.2.2.2.2.2.2.2.2.2.1 z.2.2.2.2.2.2.2.2.2.2.1 z.2.2.2.2.2.2.2.2.2.2.2.1 z.2.2.2.2.2.2.2.2.2.2.2.2))) := by
    rintro _ rfl; exact hE0
  unfold g_X6_sell at hg
  show AtK X Z rm_X6_sell cX6_sell RX6 3 0 0 (wT Z t (a 0) tr0 hj hq hi ++ (wP Z a w er fl me p pr ++ (wQ Z hq hs AD pv W8 E8 F8 M8 P8 R8))) 0 [(0, .ref t), (1, .int n1)] []
  refine r_aload_n dX6_sell_0 0 rfl ?_
  refine gf_X6_0 (v := .ref (a 0)) 0 rfl rfl qw_175 dX6_sell_1 ?_
  refine r_iload_n dX6_sell_4 1 rfl ?_
  obtain ⟨o5, e5, hg⟩ := ob hg
  refine r_callV (As := [.int n1]) (rest := []) (ws' := wT Z t (a 0) tr0 hj hq hi ++ (wP Z a w er fl me p pr ++ (wQ Z hq hs AD pv W8 E8 F8 M8 P8 R8))) 0 rfl rfl rfl (fun l => c_X5_refusalOf Z l a w er fl me p pr n1 o5 e5) qw_217 mv_X5_refusalOf (xPk.idx [1, 2, 3, 4, 5, 6] rfl rfl rfl rfl rfl) ⟨Nat.le_of_ble_eq_true rfl, Nat.le_of_ble_eq_true rfl⟩ ⟨rfl, rfl⟩ ⟨Nat.zero_le _, Nat.zero_le _⟩ rfl (Nat.le_of_ble_eq_true rfl) rfl dX6_sell_5 ?_
  refine r_istore_n (lv' := [(2, .int o5), (0, .ref t), (1, .int n1)]) dX6_sell_8 (by decide) rfl ?_
  refine r_iload_n dX6_sell_9 0 rfl ?_
  refine r_if_eq (tgt := 15) dX6_sell_10 (by decide) (fun h10 => ?_) (fun h10 => ?_)
  · replace hg := (if_pos h10).symm.trans hg
    refine r_aload_n dX6_sell_15 1 rfl ?_
    refine gf_X6_3 (v := .ref hq) 0 rfl rfl qw_178 dX6_sell_16 ?_
    refine r_aload_n dX6_sell_19 1 rfl ?_
    refine gf_X6_0 (v := .ref (a 0)) 0 rfl rfl qw_175 dX6_sell_20 ?_
    obtain ⟨o23, e23, hg⟩ := ob hg
    refine r_callV (As := [.ref (a 0)]) (rest := []) (ws' := wT Z t (a 0) tr0 hj hq hi ++ (wP Z a w er fl me p pr ++ (wQ Z hq hs AD o23.1 o23.2.1 o23.2.2.1 o23.2.2.2.1 o23.2.2.2.2.1 o23.2.2.2.2.2.1 o23.2.2.2.2.2.2))) 0 rfl rfl rfl (fun l => c_X4_rememberQ Z l hq hs AD a pv W8 E8 F8 M8 P8 R8 w er fl me p pr  o23 e23) qw_232 mv_X4_remember (xPk.seg2r (wT Z t (a 0) tr0 hj hq hi) (wP Z a w er fl me p pr) (wP Z a w er fl me p pr) (([] : va_W)) (wQ Z hq hs AD pv W8 E8 F8 M8 P8 R8) (wQ Z hq hs AD o23.1 o23.2.1 o23.2.2.1 o23.2.2.2.1 o23.2.2.2.2.1 o23.2.2.2.2.2.1 o23.2.2.2.2.2.2) (([] : va_W)) (by simp only [List.append_assoc, List.append_nil, List.nil_append]) (by simp only [List.append_assoc, List.append_nil, List.nil_append]) rfl wQ_dom) ⟨Nat.le_of_ble_eq_true rfl, Nat.le_of_ble_eq_true rfl⟩ ⟨rfl, rfl⟩ ⟨Nat.zero_le _, Nat.zero_le _⟩ rfl (Nat.le_of_ble_eq_true rfl) rfl dX6_sell_23 ?_
    refine r_aload_n dX6_sell_26 1 rfl ?_
    refine gf_X6_0 (v := .ref (a 0)) 0 rfl rfl qw_175 dX6_sell_27 ?_
    refine r_iload_n dX6_sell_30 2 rfl ?_
    obtain ⟨o31, e31, hg⟩ := ob hg
    refine r_callV (As := [.int n1]) (rest := []) (ws' := wT Z t (a 0) tr0 hj hq hi ++ (wP Z a o31.2.1 o31.2.2.1 o31.2.2.2.1 o31.2.2.2.2.1 p o31.2.2.2.2.2 ++ (wQ Z hq hs AD o23.1 o23.2.1 o23.2.2.1 o23.2.2.2.1 o23.2.2.2.2.1 o23.2.2.2.2.2.1 o23.2.2.2.2.2.2))) 0 rfl rfl rfl (fun l => c_X5_issueTicket Z l a w er fl me p pr n1 o31 e31) qw_256 mv_X5_issueTicket (xPk.idx [1, 2, 3, 4, 5, 6] rfl rfl rfl rfl rfl) ⟨Nat.le_of_ble_eq_true rfl, Nat.le_of_ble_eq_true rfl⟩ ⟨rfl, rfl⟩ ⟨Nat.zero_le _, Nat.zero_le _⟩ rfl (Nat.le_of_ble_eq_true rfl) rfl dX6_sell_31 ?_
    exact r_iret (hE _ (Option.some.inj hg)) dX6_sell_34
  · replace hg := (if_neg h10).symm.trans hg
    refine r_iload_n dX6_sell_13 0 rfl ?_
    exact r_iret (hE _ (Option.some.inj hg)) dX6_sell_14

-- TicketJournal.cancel()I
abbrev rm_X6_cancel : Room := { frames := 5, cells := 0, slots := 0, locals := 116 }
def g_X6_cancel_20 (p : Nat → Int32)  (w : Nat → Int32) (er : Nat → Int32) (fl : Nat → Int32) (me : Nat → Int32) (pr : Nat → Int32) (pv : Nat → Int32) (W8 : Nat → Nat → Int32) (E8 : Nat → Nat → Int32) (F8 : Nat → Nat → Int32) (M8 : Nat → Nat → Int32) (P8 : Nat → Nat → Int32) (R8 : Nat → Nat → Int32) : Option (Int32 × (Nat → Int32) × (Nat → Int32) × (Nat → Int32) × (Nat → Int32) × (Nat → Int32) × (Nat → Int32) × (Nat → Nat → Int32) × (Nat → Nat → Int32) × (Nat → Nat → Int32) × (Nat → Nat → Int32) × (Nat → Nat → Int32) × (Nat → Nat → Int32)) :=
  some ((-2), w, er, fl, me, pr, pv, W8, E8, F8, M8, P8, R8)
def g_X6_cancel (w : Nat → Int32) (er : Nat → Int32) (fl : Nat → Int32) (me : Nat → Int32) (p : Nat → Int32) (pr : Nat → Int32) (pv : Nat → Int32) (W8 : Nat → Nat → Int32) (E8 : Nat → Nat → Int32) (F8 : Nat → Nat → Int32) (M8 : Nat → Nat → Int32) (P8 : Nat → Nat → Int32) (R8 : Nat → Nat → Int32)  : Option (Int32 × (Nat → Int32) × (Nat → Int32) × (Nat → Int32) × (Nat → Int32) × (Nat → Int32) × (Nat → Int32) × (Nat → Nat → Int32) × (Nat → Nat → Int32) × (Nat → Nat → Int32) × (Nat → Nat → Int32) × (Nat → Nat → Int32) × (Nat → Nat → Int32)) :=
  (if (pr 0) = 0 then g_X6_cancel_20 p w er fl me pr pv W8 E8 F8 M8 P8 R8 else (g_X5_endsWithTicket w me).bind fun o14 => (if o14 = 0 then g_X6_cancel_20 p w er fl me pr pv W8 E8 F8 M8 P8 R8 else (g_X4_remember pv W8 E8 F8 M8 P8 R8 w er fl me p pr).bind fun o31 => (g_X5_cancelLatest w er fl me pr).bind fun o38 => some (o38.1, o38.2.1, o38.2.2.1, o38.2.2.2.1, o38.2.2.2.2.1, o38.2.2.2.2.2, o31.1, o31.2.1, o31.2.2.1, o31.2.2.2.1, o31.2.2.2.2.1, o31.2.2.2.2.2.1, o31.2.2.2.2.2.2)))
set_option maxHeartbeats 4000000 in
set_option maxRecDepth 100000 in
theorem c_X6_cancel (Z : GZ) (l : Launch) (t : Nat) (tr0 : Nat) (hj : Nat) (hi : Nat) (a : Nat → Nat) (hq : Nat) (hs : Nat) (AD : Nat → Nat → Nat) (w : Nat → Int32) (er : Nat → Int32) (fl : Nat → Int32) (me : Nat → Int32) (p : Nat → Int32) (pr : Nat → Int32) (pv : Nat → Int32) (W8 : Nat → Nat → Int32) (E8 : Nat → Nat → Int32) (F8 : Nat → Nat → Int32) (M8 : Nat → Nat → Int32) (P8 : Nat → Nat → Int32) (R8 : Nat → Nat → Int32)  (o : (Int32 × (Nat → Int32) × (Nat → Int32) × (Nat → Int32) × (Nat → Int32) × (Nat → Int32) × (Nat → Int32) × (Nat → Nat → Int32) × (Nat → Nat → Int32) × (Nat → Nat → Int32) × (Nat → Nat → Int32) × (Nat → Nat → Int32) × (Nat → Nat → Int32))) (hg : g_X6_cancel w er fl me p pr pv W8 E8 F8 M8 P8 R8 = some o) : Con Z l yX6_cancel cX6_cancel 1 (some .int) rm_X6_cancel [.ref t] (wT Z t (a 0) tr0 hj hq hi ++ (wP Z a w er fl me p pr ++ (wQ Z hq hs AD pv W8 E8 F8 M8 P8 R8))) (some (.int o.1)) (wT Z t (a 0) tr0 hj hq hi ++ (wP Z a o.2.1 o.2.2.1 o.2.2.2.1 o.2.2.2.2.1 p o.2.2.2.2.2.1 ++ (wQ Z hq hs AD o.2.2.2.2.2.2.1 o.2.2.2.2.2.2.2.1 o.2.2.2.2.2.2.2.2.1 o.2.2.2.2.2.2.2.2.2.1 o.2.2.2.2.2.2.2.2.2.2.1 o.2.2.2.2.2.2.2.2.2.2.2.1 o.2.2.2.2.2.2.2.2.2.2.2.2))) := by
  refine Con.of (by decide) (Nat.le_of_ble_eq_true rfl) ?_
  intro X hE0
  have hE : ∀ z, z = o → endsX X Z (some .int) (some (.int z.1)) (wT Z t (a 0) tr0 hj hq hi ++ (wP Z a z.2.1 z.2.2.1 z.2.2.2.1 z.2.2.2.2.1 p z.2.2.2.2.2.1 ++ (wQ Z hq hs AD z.2.2.2.2.2.2.1 z.2.2.2.2.2.2.2.1 z.2.2.2.2.2.2.2.2.1 z.2.2.2.2.2.2.2.2.2.1 z.2.2.2.2.2.2.2.2.2.2.1 z.2.2.2.2.2.2.2.2.2.2.2.1 z.2.2.2.2.2.2.2.2.2.2.2.2))) := by
    rintro _ rfl; exact hE0
  have J20 : ∀ (w : Nat → Int32) (er : Nat → Int32) (fl : Nat → Int32) (me : Nat → Int32) (pr : Nat → Int32) (pv : Nat → Int32) (W8 : Nat → Nat → Int32) (E8 : Nat → Nat → Int32) (F8 : Nat → Nat → Int32) (M8 : Nat → Nat → Int32) (P8 : Nat → Nat → Int32) (R8 : Nat → Nat → Int32), g_X6_cancel_20 p w er fl me pr pv W8 E8 F8 M8 P8 R8 = some o → AtK X Z rm_X6_cancel cX6_cancel RX6 1 0 0 (wT Z t (a 0) tr0 hj hq hi ++ (wP Z a w er fl me p pr ++ (wQ Z hq hs AD pv W8 E8 F8 M8 P8 R8))) 20 [] [] := by
    intro w er fl me pr pv W8 E8 F8 M8 P8 R8 hg
    unfold g_X6_cancel_20 at hg
    refine r_bipush (v := (-2)) dX6_cancel_20 kbp_m2 ?_
    exact r_iret (hE _ (Option.some.inj hg)) dX6_cancel_22
  unfold g_X6_cancel at hg
  show AtK X Z rm_X6_cancel cX6_cancel RX6 1 0 0 (wT Z t (a 0) tr0 hj hq hi ++ (wP Z a w er fl me p pr ++ (wQ Z hq hs AD pv W8 E8 F8 M8 P8 R8))) 0 [(0, .ref t)] []
  refine r_aload_n dX6_cancel_0 0 rfl ?_
  refine gf_X6_0 (v := .ref (a 0)) 0 rfl rfl qw_175 dX6_cancel_1 ?_
  refine gfN_X5_3 (v := .int (pr 0)) 1 rfl rfl qw_102 dX6_cancel_4 ?_
  refine r_if_eq (tgt := 20) dX6_cancel_7 (by decide) (fun h7 => ?_) (fun h7 => ?_)
  · replace hg := (if_pos h7).symm.trans hg
    exact r_sub [] rfl (J20 w er fl me pr pv W8 E8 F8 M8 P8 R8 hg)
  · replace hg := (if_neg h7).symm.trans hg
    refine r_aload_n dX6_cancel_10 0 rfl ?_
    refine gf_X6_0 (v := .ref (a 0)) 0 rfl rfl qw_175 dX6_cancel_11 ?_
    obtain ⟨o14, e14, hg⟩ := ob hg
    refine r_callV (As := []) (rest := []) (ws' := wT Z t (a 0) tr0 hj hq hi ++ (wP Z a w er fl me p pr ++ (wQ Z hq hs AD pv W8 E8 F8 M8 P8 R8))) 0 rfl rfl rfl (fun l => c_X5_endsWithTicket Z l a w er fl me p pr  o14 e14) qw_312 mv_X5_endsWithTicket (xPk.idx [1, 2, 3, 4, 5, 6] rfl rfl rfl rfl rfl) ⟨Nat.le_of_ble_eq_true rfl, Nat.le_of_ble_eq_true rfl⟩ ⟨rfl, rfl⟩ ⟨Nat.zero_le _, Nat.zero_le _⟩ rfl (Nat.le_of_ble_eq_true rfl) rfl dX6_cancel_14 ?_
    refine r_if_ne (tgt := 23) dX6_cancel_17 (by decide) (fun h17 => ?_) (fun h17 => ?_)
    · replace hg := (if_neg h17).symm.trans hg
      refine r_aload_n dX6_cancel_23 0 rfl ?_
      refine gf_X6_3 (v := .ref hq) 0 rfl rfl qw_178 dX6_cancel_24 ?_
      refine r_aload_n dX6_cancel_27 0 rfl ?_
      refine gf_X6_0 (v := .ref (a 0)) 0 rfl rfl qw_175 dX6_cancel_28 ?_
      obtain ⟨o31, e31, hg⟩ := ob hg
      refine r_callV (As := [.ref (a 0)]) (rest := []) (ws' := wT Z t (a 0) tr0 hj hq hi ++ (wP Z a w er fl me p pr ++ (wQ Z hq hs AD o31.1 o31.2.1 o31.2.2.1 o31.2.2.2.1 o31.2.2.2.2.1 o31.2.2.2.2.2.1 o31.2.2.2.2.2.2))) 0 rfl rfl rfl (fun l => c_X4_rememberQ Z l hq hs AD a pv W8 E8 F8 M8 P8 R8 w er fl me p pr  o31 e31) qw_232 mv_X4_remember (xPk.seg2r (wT Z t (a 0) tr0 hj hq hi) (wP Z a w er fl me p pr) (wP Z a w er fl me p pr) (([] : va_W)) (wQ Z hq hs AD pv W8 E8 F8 M8 P8 R8) (wQ Z hq hs AD o31.1 o31.2.1 o31.2.2.1 o31.2.2.2.1 o31.2.2.2.2.1 o31.2.2.2.2.2.1 o31.2.2.2.2.2.2) (([] : va_W)) (by simp only [List.append_assoc, List.append_nil, List.nil_append]) (by simp only [List.append_assoc, List.append_nil, List.nil_append]) rfl wQ_dom) ⟨Nat.le_of_ble_eq_true rfl, Nat.le_of_ble_eq_true rfl⟩ ⟨rfl, rfl⟩ ⟨Nat.zero_le _, Nat.zero_le _⟩ rfl (Nat.le_of_ble_eq_true rfl) rfl dX6_cancel_31 ?_
      refine r_aload_n dX6_cancel_34 0 rfl ?_
      refine gf_X6_0 (v := .ref (a 0)) 0 rfl rfl qw_175 dX6_cancel_35 ?_
      obtain ⟨o38, e38, hg⟩ := ob hg
      refine r_callV (As := []) (rest := []) (ws' := wT Z t (a 0) tr0 hj hq hi ++ (wP Z a o38.2.1 o38.2.2.1 o38.2.2.2.1 o38.2.2.2.2.1 p o38.2.2.2.2.2 ++ (wQ Z hq hs AD o31.1 o31.2.1 o31.2.2.1 o31.2.2.2.1 o31.2.2.2.2.1 o31.2.2.2.2.2.1 o31.2.2.2.2.2.2))) 0 rfl rfl rfl (fun l => c_X5_cancelLatest Z l a w er fl me p pr  o38 e38) qw_331 mv_X5_cancelLatest (xPk.idx [1, 2, 3, 4, 5, 6] rfl rfl rfl rfl rfl) ⟨Nat.le_of_ble_eq_true rfl, Nat.le_of_ble_eq_true rfl⟩ ⟨rfl, rfl⟩ ⟨Nat.zero_le _, Nat.zero_le _⟩ rfl (Nat.le_of_ble_eq_true rfl) rfl dX6_cancel_38 ?_
      exact r_iret (hE _ (Option.some.inj hg)) dX6_cancel_41
    · replace hg := (if_pos h17).symm.trans hg
      exact r_sub [] rfl (J20 w er fl me pr pv W8 E8 F8 M8 P8 R8 hg)

-- TicketJournal.close()I
abbrev rm_X6_close : Room := { frames := 5, cells := 0, slots := 0, locals := 116 }
def g_X6_close (w : Nat → Int32) (er : Nat → Int32) (fl : Nat → Int32) (me : Nat → Int32) (p : Nat → Int32) (pr : Nat → Int32) (pv : Nat → Int32) (W8 : Nat → Nat → Int32) (E8 : Nat → Nat → Int32) (F8 : Nat → Nat → Int32) (M8 : Nat → Nat → Int32) (P8 : Nat → Nat → Int32) (R8 : Nat → Nat → Int32)  : Option (Int32 × (Nat → Int32) × (Nat → Int32) × (Nat → Int32) × (Nat → Int32) × (Nat → Int32) × (Nat → Int32) × (Nat → Nat → Int32) × (Nat → Nat → Int32) × (Nat → Nat → Int32) × (Nat → Nat → Int32) × (Nat → Nat → Int32) × (Nat → Nat → Int32)) :=
  (if (pr 0) = 0 then some ((-2), w, er, fl, me, pr, pv, W8, E8, F8, M8, P8, R8) else (g_X4_remember pv W8 E8 F8 M8 P8 R8 w er fl me p pr).bind fun o21 => (g_X5_closeDay w er fl me pr).bind fun o28 => some (o28.1, o28.2.1, o28.2.2.1, o28.2.2.2.1, o28.2.2.2.2.1, o28.2.2.2.2.2, o21.1, o21.2.1, o21.2.2.1, o21.2.2.2.1, o21.2.2.2.2.1, o21.2.2.2.2.2.1, o21.2.2.2.2.2.2))
set_option maxHeartbeats 4000000 in
set_option maxRecDepth 100000 in
theorem c_X6_close (Z : GZ) (l : Launch) (t : Nat) (tr0 : Nat) (hj : Nat) (hi : Nat) (a : Nat → Nat) (hq : Nat) (hs : Nat) (AD : Nat → Nat → Nat) (w : Nat → Int32) (er : Nat → Int32) (fl : Nat → Int32) (me : Nat → Int32) (p : Nat → Int32) (pr : Nat → Int32) (pv : Nat → Int32) (W8 : Nat → Nat → Int32) (E8 : Nat → Nat → Int32) (F8 : Nat → Nat → Int32) (M8 : Nat → Nat → Int32) (P8 : Nat → Nat → Int32) (R8 : Nat → Nat → Int32)  (o : (Int32 × (Nat → Int32) × (Nat → Int32) × (Nat → Int32) × (Nat → Int32) × (Nat → Int32) × (Nat → Int32) × (Nat → Nat → Int32) × (Nat → Nat → Int32) × (Nat → Nat → Int32) × (Nat → Nat → Int32) × (Nat → Nat → Int32) × (Nat → Nat → Int32))) (hg : g_X6_close w er fl me p pr pv W8 E8 F8 M8 P8 R8 = some o) : Con Z l yX6_close cX6_close 1 (some .int) rm_X6_close [.ref t] (wT Z t (a 0) tr0 hj hq hi ++ (wP Z a w er fl me p pr ++ (wQ Z hq hs AD pv W8 E8 F8 M8 P8 R8))) (some (.int o.1)) (wT Z t (a 0) tr0 hj hq hi ++ (wP Z a o.2.1 o.2.2.1 o.2.2.2.1 o.2.2.2.2.1 p o.2.2.2.2.2.1 ++ (wQ Z hq hs AD o.2.2.2.2.2.2.1 o.2.2.2.2.2.2.2.1 o.2.2.2.2.2.2.2.2.1 o.2.2.2.2.2.2.2.2.2.1 o.2.2.2.2.2.2.2.2.2.2.1 o.2.2.2.2.2.2.2.2.2.2.2.1 o.2.2.2.2.2.2.2.2.2.2.2.2))) := by
  refine Con.of (by decide) (Nat.le_of_ble_eq_true rfl) ?_
  intro X hE0
  have hE : ∀ z, z = o → endsX X Z (some .int) (some (.int z.1)) (wT Z t (a 0) tr0 hj hq hi ++ (wP Z a z.2.1 z.2.2.1 z.2.2.2.1 z.2.2.2.2.1 p z.2.2.2.2.2.1 ++ (wQ Z hq hs AD z.2.2.2.2.2.2.1 z.2.2.2.2.2.2.2.1 z.2.2.2.2.2.2.2.2.1 z.2.2.2.2.2.2.2.2.2.1 z.2.2.2.2.2.2.2.2.2.2.1 z.2.2.2.2.2.2.2.2.2.2.2.1 z.2.2.2.2.2.2.2.2.2.2.2.2))) := by
    rintro _ rfl; exact hE0
  unfold g_X6_close at hg
  show AtK X Z rm_X6_close cX6_close RX6 1 0 0 (wT Z t (a 0) tr0 hj hq hi ++ (wP Z a w er fl me p pr ++ (wQ Z hq hs AD pv W8 E8 F8 M8 P8 R8))) 0 [(0, .ref t)] []
  refine r_aload_n dX6_close_0 0 rfl ?_
  refine gf_X6_0 (v := .ref (a 0)) 0 rfl rfl qw_175 dX6_close_1 ?_
  refine gfN_X5_3 (v := .int (pr 0)) 1 rfl rfl qw_102 dX6_close_4 ?_
  refine r_if_ne (tgt := 13) dX6_close_7 (by decide) (fun h7 => ?_) (fun h7 => ?_)
  · replace hg := (if_neg h7).symm.trans hg
    refine r_aload_n dX6_close_13 0 rfl ?_
    refine gf_X6_3 (v := .ref hq) 0 rfl rfl qw_178 dX6_close_14 ?_
    refine r_aload_n dX6_close_17 0 rfl ?_
    refine gf_X6_0 (v := .ref (a 0)) 0 rfl rfl qw_175 dX6_close_18 ?_
    obtain ⟨o21, e21, hg⟩ := ob hg
    refine r_callV (As := [.ref (a 0)]) (rest := []) (ws' := wT Z t (a 0) tr0 hj hq hi ++ (wP Z a w er fl me p pr ++ (wQ Z hq hs AD o21.1 o21.2.1 o21.2.2.1 o21.2.2.2.1 o21.2.2.2.2.1 o21.2.2.2.2.2.1 o21.2.2.2.2.2.2))) 0 rfl rfl rfl (fun l => c_X4_rememberQ Z l hq hs AD a pv W8 E8 F8 M8 P8 R8 w er fl me p pr  o21 e21) qw_232 mv_X4_remember (xPk.seg2r (wT Z t (a 0) tr0 hj hq hi) (wP Z a w er fl me p pr) (wP Z a w er fl me p pr) (([] : va_W)) (wQ Z hq hs AD pv W8 E8 F8 M8 P8 R8) (wQ Z hq hs AD o21.1 o21.2.1 o21.2.2.1 o21.2.2.2.1 o21.2.2.2.2.1 o21.2.2.2.2.2.1 o21.2.2.2.2.2.2) (([] : va_W)) (by simp only [List.append_assoc, List.append_nil, List.nil_append]) (by simp only [List.append_assoc, List.append_nil, List.nil_append]) rfl wQ_dom) ⟨Nat.le_of_ble_eq_true rfl, Nat.le_of_ble_eq_true rfl⟩ ⟨rfl, rfl⟩ ⟨Nat.zero_le _, Nat.zero_le _⟩ rfl (Nat.le_of_ble_eq_true rfl) rfl dX6_close_21 ?_
    refine r_aload_n dX6_close_24 0 rfl ?_
    refine gf_X6_0 (v := .ref (a 0)) 0 rfl rfl qw_175 dX6_close_25 ?_
    obtain ⟨o28, e28, hg⟩ := ob hg
    refine r_callV (As := []) (rest := []) (ws' := wT Z t (a 0) tr0 hj hq hi ++ (wP Z a o28.2.1 o28.2.2.1 o28.2.2.2.1 o28.2.2.2.2.1 p o28.2.2.2.2.2 ++ (wQ Z hq hs AD o21.1 o21.2.1 o21.2.2.1 o21.2.2.2.1 o21.2.2.2.2.1 o21.2.2.2.2.2.1 o21.2.2.2.2.2.2))) 0 rfl rfl rfl (fun l => c_X5_closeDay Z l a w er fl me p pr  o28 e28) qw_339 mv_X5_closeDay (xPk.idx [1, 2, 3, 4, 5, 6] rfl rfl rfl rfl rfl) ⟨Nat.le_of_ble_eq_true rfl, Nat.le_of_ble_eq_true rfl⟩ ⟨rfl, rfl⟩ ⟨Nat.zero_le _, Nat.zero_le _⟩ rfl (Nat.le_of_ble_eq_true rfl) rfl dX6_close_28 ?_
    exact r_iret (hE _ (Option.some.inj hg)) dX6_close_31
  · replace hg := (if_pos h7).symm.trans hg
    refine r_bipush (v := (-2)) dX6_close_10 kbp_m2 ?_
    exact r_iret (hE _ (Option.some.inj hg)) dX6_close_12

-- TicketJournal.load(II)I
abbrev rm_X6_load : Room := { frames := 5, cells := 0, slots := 0, locals := 118 }
def g_X6_load_20 (p : Nat → Int32)  (w : Nat → Int32) (er : Nat → Int32) (fl : Nat → Int32) (me : Nat → Int32) (pr : Nat → Int32) (pv : Nat → Int32) (W8 : Nat → Nat → Int32) (E8 : Nat → Nat → Int32) (F8 : Nat → Nat → Int32) (M8 : Nat → Nat → Int32) (P8 : Nat → Nat → Int32) (R8 : Nat → Nat → Int32) : Option (Int32 × (Nat → Int32) × (Nat → Int32) × (Nat → Int32) × (Nat → Int32) × (Nat → Int32) × (Nat → Int32) × (Nat → Nat → Int32) × (Nat → Nat → Int32) × (Nat → Nat → Int32) × (Nat → Nat → Int32) × (Nat → Nat → Int32) × (Nat → Nat → Int32)) :=
  some ((-1), w, er, fl, me, pr, pv, W8, E8, F8, M8, P8, R8)
def g_X6_load (w : Nat → Int32) (er : Nat → Int32) (fl : Nat → Int32) (me : Nat → Int32) (p : Nat → Int32) (pr : Nat → Int32) (pv : Nat → Int32) (W8 : Nat → Nat → Int32) (E8 : Nat → Nat → Int32) (F8 : Nat → Nat → Int32) (M8 : Nat → Nat → Int32) (P8 : Nat → Nat → Int32) (R8 : Nat → Nat → Int32) (n1 : Int32) (n2 : Int32) : Option (Int32 × (Nat → Int32) × (Nat → Int32) × (Nat → Int32) × (Nat → Int32) × (Nat → Int32) × (Nat → Int32) × (Nat → Nat → Int32) × (Nat → Nat → Int32) × (Nat → Nat → Int32) × (Nat → Nat → Int32) × (Nat → Nat → Int32) × (Nat → Nat → Int32)) :=
  (g_X6_isWithin n1 0 50000).bind fun o4 => (if o4 = 0 then g_X6_load_20 p w er fl me pr pv W8 E8 F8 M8 P8 R8 else (g_X6_isWithin n2 0 50000).bind fun o14 => (if o14 = 0 then g_X6_load_20 p w er fl me pr pv W8 E8 F8 M8 P8 R8 else (if (pr 0) = 0 then some ((-2), w, er, fl, me, pr, pv, W8, E8, F8, M8, P8, R8) else (g_X4_remember pv W8 E8 F8 M8 P8 R8 w er fl me p pr).bind fun o43 => (g_X5_putInPaper w er fl me pr n1 n2).bind fun o52 => some (o52.1, o52.2.1, o52.2.2.1, o52.2.2.2.1, o52.2.2.2.2.1, o52.2.2.2.2.2, o43.1, o43.2.1, o43.2.2.1, o43.2.2.2.1, o43.2.2.2.2.1, o43.2.2.2.2.2.1, o43.2.2.2.2.2.2))))
set_option maxHeartbeats 4000000 in
set_option maxRecDepth 100000 in
theorem c_X6_load (Z : GZ) (l : Launch) (t : Nat) (tr0 : Nat) (hj : Nat) (hi : Nat) (a : Nat → Nat) (hq : Nat) (hs : Nat) (AD : Nat → Nat → Nat) (w : Nat → Int32) (er : Nat → Int32) (fl : Nat → Int32) (me : Nat → Int32) (p : Nat → Int32) (pr : Nat → Int32) (pv : Nat → Int32) (W8 : Nat → Nat → Int32) (E8 : Nat → Nat → Int32) (F8 : Nat → Nat → Int32) (M8 : Nat → Nat → Int32) (P8 : Nat → Nat → Int32) (R8 : Nat → Nat → Int32) (n1 : Int32) (n2 : Int32) (o : (Int32 × (Nat → Int32) × (Nat → Int32) × (Nat → Int32) × (Nat → Int32) × (Nat → Int32) × (Nat → Int32) × (Nat → Nat → Int32) × (Nat → Nat → Int32) × (Nat → Nat → Int32) × (Nat → Nat → Int32) × (Nat → Nat → Int32) × (Nat → Nat → Int32))) (hg : g_X6_load w er fl me p pr pv W8 E8 F8 M8 P8 R8 n1 n2 = some o) : Con Z l yX6_load cX6_load 3 (some .int) rm_X6_load [.ref t, .int n1, .int n2] (wT Z t (a 0) tr0 hj hq hi ++ (wP Z a w er fl me p pr ++ (wQ Z hq hs AD pv W8 E8 F8 M8 P8 R8))) (some (.int o.1)) (wT Z t (a 0) tr0 hj hq hi ++ (wP Z a o.2.1 o.2.2.1 o.2.2.2.1 o.2.2.2.2.1 p o.2.2.2.2.2.1 ++ (wQ Z hq hs AD o.2.2.2.2.2.2.1 o.2.2.2.2.2.2.2.1 o.2.2.2.2.2.2.2.2.1 o.2.2.2.2.2.2.2.2.2.1 o.2.2.2.2.2.2.2.2.2.2.1 o.2.2.2.2.2.2.2.2.2.2.2.1 o.2.2.2.2.2.2.2.2.2.2.2.2))) := by
  refine Con.of (by decide) (Nat.le_of_ble_eq_true rfl) ?_
  intro X hE0
  have hE : ∀ z, z = o → endsX X Z (some .int) (some (.int z.1)) (wT Z t (a 0) tr0 hj hq hi ++ (wP Z a z.2.1 z.2.2.1 z.2.2.2.1 z.2.2.2.2.1 p z.2.2.2.2.2.1 ++ (wQ Z hq hs AD z.2.2.2.2.2.2.1 z.2.2.2.2.2.2.2.1 z.2.2.2.2.2.2.2.2.1 z.2.2.2.2.2.2.2.2.2.1 z.2.2.2.2.2.2.2.2.2.2.1 z.2.2.2.2.2.2.2.2.2.2.2.1 z.2.2.2.2.2.2.2.2.2.2.2.2))) := by
    rintro _ rfl; exact hE0
  have J20 : ∀ (w : Nat → Int32) (er : Nat → Int32) (fl : Nat → Int32) (me : Nat → Int32) (pr : Nat → Int32) (pv : Nat → Int32) (W8 : Nat → Nat → Int32) (E8 : Nat → Nat → Int32) (F8 : Nat → Nat → Int32) (M8 : Nat → Nat → Int32) (P8 : Nat → Nat → Int32) (R8 : Nat → Nat → Int32), g_X6_load_20 p w er fl me pr pv W8 E8 F8 M8 P8 R8 = some o → AtK X Z rm_X6_load cX6_load RX6 3 0 0 (wT Z t (a 0) tr0 hj hq hi ++ (wP Z a w er fl me p pr ++ (wQ Z hq hs AD pv W8 E8 F8 M8 P8 R8))) 20 [] [] := by
    intro w er fl me pr pv W8 E8 F8 M8 P8 R8 hg
    unfold g_X6_load_20 at hg
    refine r_iconst (v := (-1)) dX6_load_20 kic_m1 ?_
    exact r_iret (hE _ (Option.some.inj hg)) dX6_load_21
  unfold g_X6_load at hg
  show AtK X Z rm_X6_load cX6_load RX6 3 0 0 (wT Z t (a 0) tr0 hj hq hi ++ (wP Z a w er fl me p pr ++ (wQ Z hq hs AD pv W8 E8 F8 M8 P8 R8))) 0 [(0, .ref t), (1, .int n1), (2, .int n2)] []
  refine r_iload_n dX6_load_0 1 rfl ?_
  refine r_iconst (v := 0) dX6_load_1 kic_0 ?_
  refine r_ldc qw_347 dX6_load_2 ?_
  obtain ⟨o4, e4, hg⟩ := ob hg
  refine r_callS (As := [.int n1, .int 0, .int 50000]) (rest := []) (ws' := wT Z t (a 0) tr0 hj hq hi ++ (wP Z a w er fl me p pr ++ (wQ Z hq hs AD pv W8 E8 F8 M8 P8 R8))) (fun l => c_X6_isWithin Z l   n1 0 50000 o4 e4) qw_195 ms_X6_isWithin xPk.none ⟨Nat.le_of_ble_eq_true rfl, Nat.le_of_ble_eq_true rfl⟩ ⟨rfl, rfl⟩ ⟨Nat.zero_le _, Nat.zero_le _⟩ rfl (Nat.le_of_ble_eq_true rfl) rfl dX6_load_4 ?_
  refine r_if_eq (tgt := 20) dX6_load_7 (by decide) (fun h7 => ?_) (fun h7 => ?_)
  · replace hg := (if_pos h7).symm.trans hg
    exact r_sub [] rfl (J20 w er fl me pr pv W8 E8 F8 M8 P8 R8 hg)
  · replace hg := (if_neg h7).symm.trans hg
    refine r_iload_n dX6_load_10 2 rfl ?_
    refine r_iconst (v := 0) dX6_load_11 kic_0 ?_
    refine r_ldc qw_347 dX6_load_12 ?_
    obtain ⟨o14, e14, hg⟩ := ob hg
    refine r_callS (As := [.int n2, .int 0, .int 50000]) (rest := []) (ws' := wT Z t (a 0) tr0 hj hq hi ++ (wP Z a w er fl me p pr ++ (wQ Z hq hs AD pv W8 E8 F8 M8 P8 R8))) (fun l => c_X6_isWithin Z l   n2 0 50000 o14 e14) qw_195 ms_X6_isWithin xPk.none ⟨Nat.le_of_ble_eq_true rfl, Nat.le_of_ble_eq_true rfl⟩ ⟨rfl, rfl⟩ ⟨Nat.zero_le _, Nat.zero_le _⟩ rfl (Nat.le_of_ble_eq_true rfl) rfl dX6_load_14 ?_
    refine r_if_ne (tgt := 22) dX6_load_17 (by decide) (fun h17 => ?_) (fun h17 => ?_)
    · replace hg := (if_neg h17).symm.trans hg
      refine r_aload_n dX6_load_22 0 rfl ?_
      refine gf_X6_0 (v := .ref (a 0)) 0 rfl rfl qw_175 dX6_load_23 ?_
      refine gfN_X5_3 (v := .int (pr 0)) 1 rfl rfl qw_102 dX6_load_26 ?_
      refine r_if_ne (tgt := 35) dX6_load_29 (by decide) (fun h29 => ?_) (fun h29 => ?_)
      · replace hg := (if_neg h29).symm.trans hg
        refine r_aload_n dX6_load_35 0 rfl ?_
        refine gf_X6_3 (v := .ref hq) 0 rfl rfl qw_178 dX6_load_36 ?_
        refine r_aload_n dX6_load_39 0 rfl ?_
        refine gf_X6_0 (v := .ref (a 0)) 0 rfl rfl qw_175 dX6_load_40 ?_
        obtain ⟨o43, e43, hg⟩ := ob hg
        refine r_callV (As := [.ref (a 0)]) (rest := []) (ws' := wT Z t (a 0) tr0 hj hq hi ++ (wP Z a w er fl me p pr ++ (wQ Z hq hs AD o43.1 o43.2.1 o43.2.2.1 o43.2.2.2.1 o43.2.2.2.2.1 o43.2.2.2.2.2.1 o43.2.2.2.2.2.2))) 0 rfl rfl rfl (fun l => c_X4_rememberQ Z l hq hs AD a pv W8 E8 F8 M8 P8 R8 w er fl me p pr  o43 e43) qw_232 mv_X4_remember (xPk.seg2r (wT Z t (a 0) tr0 hj hq hi) (wP Z a w er fl me p pr) (wP Z a w er fl me p pr) (([] : va_W)) (wQ Z hq hs AD pv W8 E8 F8 M8 P8 R8) (wQ Z hq hs AD o43.1 o43.2.1 o43.2.2.1 o43.2.2.2.1 o43.2.2.2.2.1 o43.2.2.2.2.2.1 o43.2.2.2.2.2.2) (([] : va_W)) (by simp only [List.append_assoc, List.append_nil, List.nil_append]) (by simp only [List.append_assoc, List.append_nil, List.nil_append]) rfl wQ_dom) ⟨Nat.le_of_ble_eq_true rfl, Nat.le_of_ble_eq_true rfl⟩ ⟨rfl, rfl⟩ ⟨Nat.zero_le _, Nat.zero_le _⟩ rfl (Nat.le_of_ble_eq_true rfl) rfl dX6_load_43 ?_
        refine r_aload_n dX6_load_46 0 rfl ?_
        refine gf_X6_0 (v := .ref (a 0)) 0 rfl rfl qw_175 dX6_load_47 ?_
        refine r_iload_n dX6_load_50 1 rfl ?_
        refine r_iload_n dX6_load_51 2 rfl ?_
        obtain ⟨o52, e52, hg⟩ := ob hg
        refine r_callV (As := [.int n1, .int n2]) (rest := []) (ws' := wT Z t (a 0) tr0 hj hq hi ++ (wP Z a o52.2.1 o52.2.2.1 o52.2.2.2.1 o52.2.2.2.2.1 p o52.2.2.2.2.2 ++ (wQ Z hq hs AD o43.1 o43.2.1 o43.2.2.1 o43.2.2.2.1 o43.2.2.2.2.1 o43.2.2.2.2.2.1 o43.2.2.2.2.2.2))) 0 rfl rfl rfl (fun l => c_X5_putInPaper Z l a w er fl me p pr n1 n2 o52 e52) qw_348 mv_X5_putInPaper (xPk.idx [1, 2, 3, 4, 5, 6] rfl rfl rfl rfl rfl) ⟨Nat.le_of_ble_eq_true rfl, Nat.le_of_ble_eq_true rfl⟩ ⟨rfl, rfl⟩ ⟨Nat.zero_le _, Nat.zero_le _⟩ rfl (Nat.le_of_ble_eq_true rfl) rfl dX6_load_52 ?_
        exact r_iret (hE _ (Option.some.inj hg)) dX6_load_55
      · replace hg := (if_pos h29).symm.trans hg
        refine r_bipush (v := (-2)) dX6_load_32 kbp_m2 ?_
        exact r_iret (hE _ (Option.some.inj hg)) dX6_load_34
    · replace hg := (if_pos h17).symm.trans hg
      exact r_sub [] rfl (J20 w er fl me pr pv W8 E8 F8 M8 P8 R8 hg)

-- TicketJournal.setClock(I)I
abbrev rm_X6_setClock : Room := { frames := 5, cells := 0, slots := 0, locals := 117 }
def g_X6_setClock (w : Nat → Int32) (er : Nat → Int32) (fl : Nat → Int32) (me : Nat → Int32) (p : Nat → Int32) (pr : Nat → Int32) (pv : Nat → Int32) (W8 : Nat → Nat → Int32) (E8 : Nat → Nat → Int32) (F8 : Nat → Nat → Int32) (M8 : Nat → Nat → Int32) (P8 : Nat → Nat → Int32) (R8 : Nat → Nat → Int32) (n1 : Int32) : Option (Int32 × (Nat → Int32) × (Nat → Int32) × (Nat → Int32) × (Nat → Int32) × (Nat → Int32) × (Nat → Int32) × (Nat → Nat → Int32) × (Nat → Nat → Int32) × (Nat → Nat → Int32) × (Nat → Nat → Int32) × (Nat → Nat → Int32) × (Nat → Nat → Int32)) :=
  (g_X6_isWithin n1 0 60000).bind fun o4 => (if o4 = 0 then some ((-1), w, er, fl, me, pr, pv, W8, E8, F8, M8, P8, R8) else (if (pr 0) = 0 then some ((-2), w, er, fl, me, pr, pv, W8, E8, F8, M8, P8, R8) else (g_X4_remember pv W8 E8 F8 M8 P8 R8 w er fl me p pr).bind fun o33 => (g_X5_moveClock w er fl me pr n1).bind fun o41 => some (o41.1, o41.2.1, o41.2.2.1, o41.2.2.2.1, o41.2.2.2.2.1, o41.2.2.2.2.2, o33.1, o33.2.1, o33.2.2.1, o33.2.2.2.1, o33.2.2.2.2.1, o33.2.2.2.2.2.1, o33.2.2.2.2.2.2)))
set_option maxHeartbeats 4000000 in
set_option maxRecDepth 100000 in
theorem c_X6_setClock (Z : GZ) (l : Launch) (t : Nat) (tr0 : Nat) (hj : Nat) (hi : Nat) (a : Nat → Nat) (hq : Nat) (hs : Nat) (AD : Nat → Nat → Nat) (w : Nat → Int32) (er : Nat → Int32) (fl : Nat → Int32) (me : Nat → Int32) (p : Nat → Int32) (pr : Nat → Int32) (pv : Nat → Int32) (W8 : Nat → Nat → Int32) (E8 : Nat → Nat → Int32) (F8 : Nat → Nat → Int32) (M8 : Nat → Nat → Int32) (P8 : Nat → Nat → Int32) (R8 : Nat → Nat → Int32) (n1 : Int32) (o : (Int32 × (Nat → Int32) × (Nat → Int32) × (Nat → Int32) × (Nat → Int32) × (Nat → Int32) × (Nat → Int32) × (Nat → Nat → Int32) × (Nat → Nat → Int32) × (Nat → Nat → Int32) × (Nat → Nat → Int32) × (Nat → Nat → Int32) × (Nat → Nat → Int32))) (hg : g_X6_setClock w er fl me p pr pv W8 E8 F8 M8 P8 R8 n1 = some o) : Con Z l yX6_setClock cX6_setClock 2 (some .int) rm_X6_setClock [.ref t, .int n1] (wT Z t (a 0) tr0 hj hq hi ++ (wP Z a w er fl me p pr ++ (wQ Z hq hs AD pv W8 E8 F8 M8 P8 R8))) (some (.int o.1)) (wT Z t (a 0) tr0 hj hq hi ++ (wP Z a o.2.1 o.2.2.1 o.2.2.2.1 o.2.2.2.2.1 p o.2.2.2.2.2.1 ++ (wQ Z hq hs AD o.2.2.2.2.2.2.1 o.2.2.2.2.2.2.2.1 o.2.2.2.2.2.2.2.2.1 o.2.2.2.2.2.2.2.2.2.1 o.2.2.2.2.2.2.2.2.2.2.1 o.2.2.2.2.2.2.2.2.2.2.2.1 o.2.2.2.2.2.2.2.2.2.2.2.2))) := by
  refine Con.of (by decide) (Nat.le_of_ble_eq_true rfl) ?_
  intro X hE0
  have hE : ∀ z, z = o → endsX X Z (some .int) (some (.int z.1)) (wT Z t (a 0) tr0 hj hq hi ++ (wP Z a z.2.1 z.2.2.1 z.2.2.2.1 z.2.2.2.2.1 p z.2.2.2.2.2.1 ++ (wQ Z hq hs AD z.2.2.2.2.2.2.1 z.2.2.2.2.2.2.2.1 z.2.2.2.2.2.2.2.2.1 z.2.2.2.2.2.2.2.2.2.1 z.2.2.2.2.2.2.2.2.2.2.1 z.2.2.2.2.2.2.2.2.2.2.2.1 z.2.2.2.2.2.2.2.2.2.2.2.2))) := by
    rintro _ rfl; exact hE0
  unfold g_X6_setClock at hg
  show AtK X Z rm_X6_setClock cX6_setClock RX6 2 0 0 (wT Z t (a 0) tr0 hj hq hi ++ (wP Z a w er fl me p pr ++ (wQ Z hq hs AD pv W8 E8 F8 M8 P8 R8))) 0 [(0, .ref t), (1, .int n1)] []
  refine r_iload_n dX6_setClock_0 1 rfl ?_
  refine r_iconst (v := 0) dX6_setClock_1 kic_0 ?_
  refine r_ldc qw_357 dX6_setClock_2 ?_
  obtain ⟨o4, e4, hg⟩ := ob hg
  refine r_callS (As := [.int n1, .int 0, .int 60000]) (rest := []) (ws' := wT Z t (a 0) tr0 hj hq hi ++ (wP Z a w er fl me p pr ++ (wQ Z hq hs AD pv W8 E8 F8 M8 P8 R8))) (fun l => c_X6_isWithin Z l   n1 0 60000 o4 e4) qw_195 ms_X6_isWithin xPk.none ⟨Nat.le_of_ble_eq_true rfl, Nat.le_of_ble_eq_true rfl⟩ ⟨rfl, rfl⟩ ⟨Nat.zero_le _, Nat.zero_le _⟩ rfl (Nat.le_of_ble_eq_true rfl) rfl dX6_setClock_4 ?_
  refine r_if_ne (tgt := 12) dX6_setClock_7 (by decide) (fun h7 => ?_) (fun h7 => ?_)
  · replace hg := (if_neg h7).symm.trans hg
    refine r_aload_n dX6_setClock_12 0 rfl ?_
    refine gf_X6_0 (v := .ref (a 0)) 0 rfl rfl qw_175 dX6_setClock_13 ?_
    refine gfN_X5_3 (v := .int (pr 0)) 1 rfl rfl qw_102 dX6_setClock_16 ?_
    refine r_if_ne (tgt := 25) dX6_setClock_19 (by decide) (fun h19 => ?_) (fun h19 => ?_)
    · replace hg := (if_neg h19).symm.trans hg
      refine r_aload_n dX6_setClock_25 0 rfl ?_
      refine gf_X6_3 (v := .ref hq) 0 rfl rfl qw_178 dX6_setClock_26 ?_
      refine r_aload_n dX6_setClock_29 0 rfl ?_
      refine gf_X6_0 (v := .ref (a 0)) 0 rfl rfl qw_175 dX6_setClock_30 ?_
      obtain ⟨o33, e33, hg⟩ := ob hg
      refine r_callV (As := [.ref (a 0)]) (rest := []) (ws' := wT Z t (a 0) tr0 hj hq hi ++ (wP Z a w er fl me p pr ++ (wQ Z hq hs AD o33.1 o33.2.1 o33.2.2.1 o33.2.2.2.1 o33.2.2.2.2.1 o33.2.2.2.2.2.1 o33.2.2.2.2.2.2))) 0 rfl rfl rfl (fun l => c_X4_rememberQ Z l hq hs AD a pv W8 E8 F8 M8 P8 R8 w er fl me p pr  o33 e33) qw_232 mv_X4_remember (xPk.seg2r (wT Z t (a 0) tr0 hj hq hi) (wP Z a w er fl me p pr) (wP Z a w er fl me p pr) (([] : va_W)) (wQ Z hq hs AD pv W8 E8 F8 M8 P8 R8) (wQ Z hq hs AD o33.1 o33.2.1 o33.2.2.1 o33.2.2.2.1 o33.2.2.2.2.1 o33.2.2.2.2.2.1 o33.2.2.2.2.2.2) (([] : va_W)) (by simp only [List.append_assoc, List.append_nil, List.nil_append]) (by simp only [List.append_assoc, List.append_nil, List.nil_append]) rfl wQ_dom) ⟨Nat.le_of_ble_eq_true rfl, Nat.le_of_ble_eq_true rfl⟩ ⟨rfl, rfl⟩ ⟨Nat.zero_le _, Nat.zero_le _⟩ rfl (Nat.le_of_ble_eq_true rfl) rfl dX6_setClock_33 ?_
      refine r_aload_n dX6_setClock_36 0 rfl ?_
      refine gf_X6_0 (v := .ref (a 0)) 0 rfl rfl qw_175 dX6_setClock_37 ?_
      refine r_iload_n dX6_setClock_40 1 rfl ?_
      obtain ⟨o41, e41, hg⟩ := ob hg
      refine r_callV (As := [.int n1]) (rest := []) (ws' := wT Z t (a 0) tr0 hj hq hi ++ (wP Z a o41.2.1 o41.2.2.1 o41.2.2.2.1 o41.2.2.2.2.1 p o41.2.2.2.2.2 ++ (wQ Z hq hs AD o33.1 o33.2.1 o33.2.2.1 o33.2.2.2.1 o33.2.2.2.2.1 o33.2.2.2.2.2.1 o33.2.2.2.2.2.2))) 0 rfl rfl rfl (fun l => c_X5_moveClock Z l a w er fl me p pr n1 o41 e41) qw_358 mv_X5_moveClock (xPk.idx [1, 2, 3, 4, 5, 6] rfl rfl rfl rfl rfl) ⟨Nat.le_of_ble_eq_true rfl, Nat.le_of_ble_eq_true rfl⟩ ⟨rfl, rfl⟩ ⟨Nat.zero_le _, Nat.zero_le _⟩ rfl (Nat.le_of_ble_eq_true rfl) rfl dX6_setClock_41 ?_
      exact r_iret (hE _ (Option.some.inj hg)) dX6_setClock_44
    · replace hg := (if_pos h19).symm.trans hg
      refine r_bipush (v := (-2)) dX6_setClock_22 kbp_m2 ?_
      exact r_iret (hE _ (Option.some.inj hg)) dX6_setClock_24
  · replace hg := (if_pos h7).symm.trans hg
    refine r_iconst (v := (-1)) dX6_setClock_10 kic_m1 ?_
    exact r_iret (hE _ (Option.some.inj hg)) dX6_setClock_11

-- TicketJournal.pass(I)I
abbrev rm_X6_pass : Room := { frames := 4, cells := 0, slots := 0, locals := 104 }
def g_X6_pass (w : Nat → Int32) (er : Nat → Int32) (fl : Nat → Int32) (me : Nat → Int32) (p : Nat → Int32) (pr : Nat → Int32) (pv : Nat → Int32) (W8 : Nat → Nat → Int32) (E8 : Nat → Nat → Int32) (F8 : Nat → Nat → Int32) (M8 : Nat → Nat → Int32) (P8 : Nat → Nat → Int32) (R8 : Nat → Nat → Int32) (n1 : Int32) : Option (Int32 × (Nat → Int32) × (Nat → Int32) × (Nat → Nat → Int32) × (Nat → Nat → Int32) × (Nat → Nat → Int32) × (Nat → Nat → Int32) × (Nat → Nat → Int32) × (Nat → Nat → Int32)) :=
  (g_X6_isWithin n1 1 5000).bind fun o5 => (if o5 = 0 then some ((-1), pr, pv, W8, E8, F8, M8, P8, R8) else (g_X4_remember pv W8 E8 F8 M8 P8 R8 w er fl me p pr).bind fun o21 => some ((if 60000 < ((pr 1) + n1) then 60000 else ((pr 1) + n1)), (upd pr 1 (if 60000 < ((pr 1) + n1) then 60000 else ((pr 1) + n1))), o21.1, o21.2.1, o21.2.2.1, o21.2.2.2.1, o21.2.2.2.2.1, o21.2.2.2.2.2.1, o21.2.2.2.2.2.2))
set_option maxHeartbeats 4000000 in
set_option maxRecDepth 100000 in
theorem c_X6_pass (Z : GZ) (l : Launch) (t : Nat) (tr0 : Nat) (hj : Nat) (hi : Nat) (a : Nat → Nat) (hq : Nat) (hs : Nat) (AD : Nat → Nat → Nat) (w : Nat → Int32) (er : Nat → Int32) (fl : Nat → Int32) (me : Nat → Int32) (p : Nat → Int32) (pr : Nat → Int32) (pv : Nat → Int32) (W8 : Nat → Nat → Int32) (E8 : Nat → Nat → Int32) (F8 : Nat → Nat → Int32) (M8 : Nat → Nat → Int32) (P8 : Nat → Nat → Int32) (R8 : Nat → Nat → Int32) (n1 : Int32) (o : (Int32 × (Nat → Int32) × (Nat → Int32) × (Nat → Nat → Int32) × (Nat → Nat → Int32) × (Nat → Nat → Int32) × (Nat → Nat → Int32) × (Nat → Nat → Int32) × (Nat → Nat → Int32))) (hg : g_X6_pass w er fl me p pr pv W8 E8 F8 M8 P8 R8 n1 = some o) : Con Z l yX6_pass cX6_pass 2 (some .int) rm_X6_pass [.ref t, .int n1] (wT Z t (a 0) tr0 hj hq hi ++ (wP Z a w er fl me p pr ++ (wQ Z hq hs AD pv W8 E8 F8 M8 P8 R8))) (some (.int o.1)) (wT Z t (a 0) tr0 hj hq hi ++ (wP Z a w er fl me p o.2.1 ++ (wQ Z hq hs AD o.2.2.1 o.2.2.2.1 o.2.2.2.2.1 o.2.2.2.2.2.1 o.2.2.2.2.2.2.1 o.2.2.2.2.2.2.2.1 o.2.2.2.2.2.2.2.2))) := by
  refine Con.of (by decide) (Nat.le_of_ble_eq_true rfl) ?_
  intro X hE0
  have hE : ∀ z, z = o → endsX X Z (some .int) (some (.int z.1)) (wT Z t (a 0) tr0 hj hq hi ++ (wP Z a w er fl me p z.2.1 ++ (wQ Z hq hs AD z.2.2.1 z.2.2.2.1 z.2.2.2.2.1 z.2.2.2.2.2.1 z.2.2.2.2.2.2.1 z.2.2.2.2.2.2.2.1 z.2.2.2.2.2.2.2.2))) := by
    rintro _ rfl; exact hE0
  unfold g_X6_pass at hg
  show AtK X Z rm_X6_pass cX6_pass RX6 2 0 0 (wT Z t (a 0) tr0 hj hq hi ++ (wP Z a w er fl me p pr ++ (wQ Z hq hs AD pv W8 E8 F8 M8 P8 R8))) 0 [(0, .ref t), (1, .int n1)] []
  refine r_iload_n dX6_pass_0 1 rfl ?_
  refine r_iconst (v := 1) dX6_pass_1 kic_1 ?_
  refine r_sipush (v := 5000) dX6_pass_2 ksp_5000 ?_
  obtain ⟨o5, e5, hg⟩ := ob hg
  refine r_callS (As := [.int n1, .int 1, .int 5000]) (rest := []) (ws' := wT Z t (a 0) tr0 hj hq hi ++ (wP Z a w er fl me p pr ++ (wQ Z hq hs AD pv W8 E8 F8 M8 P8 R8))) (fun l => c_X6_isWithin Z l   n1 1 5000 o5 e5) qw_195 ms_X6_isWithin xPk.none ⟨Nat.le_of_ble_eq_true rfl, Nat.le_of_ble_eq_true rfl⟩ ⟨rfl, rfl⟩ ⟨Nat.zero_le _, Nat.zero_le _⟩ rfl (Nat.le_of_ble_eq_true rfl) rfl dX6_pass_5 ?_
  refine r_if_ne (tgt := 13) dX6_pass_8 (by decide) (fun h8 => ?_) (fun h8 => ?_)
  · replace hg := (if_neg h8).symm.trans hg
    refine r_aload_n dX6_pass_13 0 rfl ?_
    refine gf_X6_3 (v := .ref hq) 0 rfl rfl qw_178 dX6_pass_14 ?_
    refine r_aload_n dX6_pass_17 0 rfl ?_
    refine gf_X6_0 (v := .ref (a 0)) 0 rfl rfl qw_175 dX6_pass_18 ?_
    obtain ⟨o21, e21, hg⟩ := ob hg
    refine r_callV (As := [.ref (a 0)]) (rest := []) (ws' := wT Z t (a 0) tr0 hj hq hi ++ (wP Z a w er fl me p pr ++ (wQ Z hq hs AD o21.1 o21.2.1 o21.2.2.1 o21.2.2.2.1 o21.2.2.2.2.1 o21.2.2.2.2.2.1 o21.2.2.2.2.2.2))) 0 rfl rfl rfl (fun l => c_X4_rememberQ Z l hq hs AD a pv W8 E8 F8 M8 P8 R8 w er fl me p pr  o21 e21) qw_232 mv_X4_remember (xPk.seg2r (wT Z t (a 0) tr0 hj hq hi) (wP Z a w er fl me p pr) (wP Z a w er fl me p pr) (([] : va_W)) (wQ Z hq hs AD pv W8 E8 F8 M8 P8 R8) (wQ Z hq hs AD o21.1 o21.2.1 o21.2.2.1 o21.2.2.2.1 o21.2.2.2.2.1 o21.2.2.2.2.2.1 o21.2.2.2.2.2.2) (([] : va_W)) (by simp only [List.append_assoc, List.append_nil, List.nil_append]) (by simp only [List.append_assoc, List.append_nil, List.nil_append]) rfl wQ_dom) ⟨Nat.le_of_ble_eq_true rfl, Nat.le_of_ble_eq_true rfl⟩ ⟨rfl, rfl⟩ ⟨Nat.zero_le _, Nat.zero_le _⟩ rfl (Nat.le_of_ble_eq_true rfl) rfl dX6_pass_21 ?_
    refine r_aload_n dX6_pass_24 0 rfl ?_
    refine gf_X6_0 (v := .ref (a 0)) 0 rfl rfl qw_175 dX6_pass_25 ?_
    refine r_aload_n dX6_pass_28 0 rfl ?_
    refine gf_X6_0 (v := .ref (a 0)) 0 rfl rfl qw_175 dX6_pass_29 ?_
    refine gfN_X5_4 (v := .int (pr 1)) 1 rfl rfl qw_104 dX6_pass_32 ?_
    refine r_iload_n dX6_pass_35 1 rfl ?_
    refine r_iadd dX6_pass_36 ?_
    refine r_ldc qw_357 dX6_pass_37 ?_
    refine r_mmin qw_369 qw_370 qw_21 qw_371 (Nat.le_of_ble_eq_true rfl) (Nat.le_of_ble_eq_true rfl) (Nat.zero_le _) (Nat.zero_le _) dX6_pass_39 ?_
    refine pfN_X5_4 1 rfl (Nat.le_of_ble_eq_true rfl) qw_104 dX6_pass_42 (ws' := wT Z t (a 0) tr0 hj hq hi ++ (wP Z a w er fl me p (upd pr 1 (if 60000 < ((pr 1) + n1) then 60000 else ((pr 1) + n1))) ++ (wQ Z hq hs AD o21.1 o21.2.1 o21.2.2.1 o21.2.2.2.1 o21.2.2.2.2.1 o21.2.2.2.2.2.1 o21.2.2.2.2.2.2))) rfl ?_
    refine r_aload_n dX6_pass_45 0 rfl ?_
    refine gf_X6_0 (v := .ref (a 0)) 0 rfl rfl qw_175 dX6_pass_46 ?_
    refine gfN_X5_4 (v := .int (if 60000 < ((pr 1) + n1) then 60000 else ((pr 1) + n1))) 1 rfl rfl qw_104 dX6_pass_49 ?_
    exact r_iret (hE _ (Option.some.inj hg)) dX6_pass_52
  · replace hg := (if_pos h8).symm.trans hg
    refine r_iconst (v := (-1)) dX6_pass_11 kic_m1 ?_
    exact r_iret (hE _ (Option.some.inj hg)) dX6_pass_12

-- TicketJournal.setPrice(II)I
abbrev rm_X6_setPrice : Room := { frames := 4, cells := 0, slots := 0, locals := 104 }
def g_X6_setPrice_18 (w : Nat → Int32) (er : Nat → Int32) (fl : Nat → Int32) (me : Nat → Int32) (pr : Nat → Int32)  (p : Nat → Int32) (pv : Nat → Int32) (W8 : Nat → Nat → Int32) (E8 : Nat → Nat → Int32) (F8 : Nat → Nat → Int32) (M8 : Nat → Nat → Int32) (P8 : Nat → Nat → Int32) (R8 : Nat → Nat → Int32) : Option (Int32 × (Nat → Int32) × (Nat → Int32) × (Nat → Nat → Int32) × (Nat → Nat → Int32) × (Nat → Nat → Int32) × (Nat → Nat → Int32) × (Nat → Nat → Int32) × (Nat → Nat → Int32)) :=
  some ((-1), p, pv, W8, E8, F8, M8, P8, R8)
def g_X6_setPrice (w : Nat → Int32) (er : Nat → Int32) (fl : Nat → Int32) (me : Nat → Int32) (p : Nat → Int32) (pr : Nat → Int32) (pv : Nat → Int32) (W8 : Nat → Nat → Int32) (E8 : Nat → Nat → Int32) (F8 : Nat → Nat → Int32) (M8 : Nat → Nat → Int32) (P8 : Nat → Nat → Int32) (R8 : Nat → Nat → Int32) (n1 : Int32) (n2 : Int32) : Option (Int32 × (Nat → Int32) × (Nat → Int32) × (Nat → Nat → Int32) × (Nat → Nat → Int32) × (Nat → Nat → Int32) × (Nat → Nat → Int32) × (Nat → Nat → Int32) × (Nat → Nat → Int32)) :=
  (g_X6_isSort n1).bind fun o1 => (if o1 = 0 then g_X6_setPrice_18 w er fl me pr p pv W8 E8 F8 M8 P8 R8 else (g_X6_isWithin n2 1 999).bind fun o12 => (if o12 = 0 then g_X6_setPrice_18 w er fl me pr p pv W8 E8 F8 M8 P8 R8 else (g_X4_remember pv W8 E8 F8 M8 P8 R8 w er fl me p pr).bind fun o28 => (g_X5_priceOf p n1).bind fun o36 => (g_X5_changePrice p n1 n2).bind fun o46 => some (o36, o46, o28.1, o28.2.1, o28.2.2.1, o28.2.2.2.1, o28.2.2.2.2.1, o28.2.2.2.2.2.1, o28.2.2.2.2.2.2)))
set_option maxHeartbeats 4000000 in
set_option maxRecDepth 100000 in
theorem c_X6_setPrice (Z : GZ) (l : Launch) (t : Nat) (tr0 : Nat) (hj : Nat) (hi : Nat) (a : Nat → Nat) (hq : Nat) (hs : Nat) (AD : Nat → Nat → Nat) (w : Nat → Int32) (er : Nat → Int32) (fl : Nat → Int32) (me : Nat → Int32) (p : Nat → Int32) (pr : Nat → Int32) (pv : Nat → Int32) (W8 : Nat → Nat → Int32) (E8 : Nat → Nat → Int32) (F8 : Nat → Nat → Int32) (M8 : Nat → Nat → Int32) (P8 : Nat → Nat → Int32) (R8 : Nat → Nat → Int32) (n1 : Int32) (n2 : Int32) (o : (Int32 × (Nat → Int32) × (Nat → Int32) × (Nat → Nat → Int32) × (Nat → Nat → Int32) × (Nat → Nat → Int32) × (Nat → Nat → Int32) × (Nat → Nat → Int32) × (Nat → Nat → Int32))) (hg : g_X6_setPrice w er fl me p pr pv W8 E8 F8 M8 P8 R8 n1 n2 = some o) : Con Z l yX6_setPrice cX6_setPrice 4 (some .int) rm_X6_setPrice [.ref t, .int n1, .int n2] (wT Z t (a 0) tr0 hj hq hi ++ (wP Z a w er fl me p pr ++ (wQ Z hq hs AD pv W8 E8 F8 M8 P8 R8))) (some (.int o.1)) (wT Z t (a 0) tr0 hj hq hi ++ (wP Z a w er fl me o.2.1 pr ++ (wQ Z hq hs AD o.2.2.1 o.2.2.2.1 o.2.2.2.2.1 o.2.2.2.2.2.1 o.2.2.2.2.2.2.1 o.2.2.2.2.2.2.2.1 o.2.2.2.2.2.2.2.2))) := by
  refine Con.of (by decide) (Nat.le_of_ble_eq_true rfl) ?_
  intro X hE0
  have hE : ∀ z, z = o → endsX X Z (some .int) (some (.int z.1)) (wT Z t (a 0) tr0 hj hq hi ++ (wP Z a w er fl me z.2.1 pr ++ (wQ Z hq hs AD z.2.2.1 z.2.2.2.1 z.2.2.2.2.1 z.2.2.2.2.2.1 z.2.2.2.2.2.2.1 z.2.2.2.2.2.2.2.1 z.2.2.2.2.2.2.2.2))) := by
    rintro _ rfl; exact hE0
  have J18 : ∀ (p : Nat → Int32) (pv : Nat → Int32) (W8 : Nat → Nat → Int32) (E8 : Nat → Nat → Int32) (F8 : Nat → Nat → Int32) (M8 : Nat → Nat → Int32) (P8 : Nat → Nat → Int32) (R8 : Nat → Nat → Int32), g_X6_setPrice_18 w er fl me pr p pv W8 E8 F8 M8 P8 R8 = some o → AtK X Z rm_X6_setPrice cX6_setPrice RX6 4 0 0 (wT Z t (a 0) tr0 hj hq hi ++ (wP Z a w er fl me p pr ++ (wQ Z hq hs AD pv W8 E8 F8 M8 P8 R8))) 18 [] [] := by
    intro p pv W8 E8 F8 M8 P8 R8 hg
    unfold g_X6_setPrice_18 at hg
    refine r_iconst (v := (-1)) dX6_setPrice_18 kic_m1 ?_
    exact r_iret (hE _ (Option.some.inj hg)) dX6_setPrice_19
  unfold g_X6_setPrice at hg
  show AtK X Z rm_X6_setPrice cX6_setPrice RX6 4 0 0 (wT Z t (a 0) tr0 hj hq hi ++ (wP Z a w er fl me p pr ++ (wQ Z hq hs AD pv W8 E8 F8 M8 P8 R8))) 0 [(0, .ref t), (1, .int n1), (2, .int n2)] []
  refine r_iload_n dX6_setPrice_0 1 rfl ?_
  obtain ⟨o1, e1, hg⟩ := ob hg
  refine r_callS (As := [.int n1]) (rest := []) (ws' := wT Z t (a 0) tr0 hj hq hi ++ (wP Z a w er fl me p pr ++ (wQ Z hq hs AD pv W8 E8 F8 M8 P8 R8))) (fun l => c_X6_isSort Z l   n1 o1 e1) qw_376 ms_X6_isSort xPk.none ⟨Nat.le_of_ble_eq_true rfl, Nat.le_of_ble_eq_true rfl⟩ ⟨rfl, rfl⟩ ⟨Nat.zero_le _, Nat.zero_le _⟩ rfl (Nat.le_of_ble_eq_true rfl) rfl dX6_setPrice_1 ?_
  refine r_if_eq (tgt := 18) dX6_setPrice_4 (by decide) (fun h4 => ?_) (fun h4 => ?_)
  · replace hg := (if_pos h4).symm.trans hg
    exact r_sub [] rfl (J18 p pv W8 E8 F8 M8 P8 R8 hg)
  · replace hg := (if_neg h4).symm.trans hg
    refine r_iload_n dX6_setPrice_7 2 rfl ?_
    refine r_iconst (v := 1) dX6_setPrice_8 kic_1 ?_
    refine r_sipush (v := 999) dX6_setPrice_9 ksp_999 ?_
    obtain ⟨o12, e12, hg⟩ := ob hg
    refine r_callS (As := [.int n2, .int 1, .int 999]) (rest := []) (ws' := wT Z t (a 0) tr0 hj hq hi ++ (wP Z a w er fl me p pr ++ (wQ Z hq hs AD pv W8 E8 F8 M8 P8 R8))) (fun l => c_X6_isWithin Z l   n2 1 999 o12 e12) qw_195 ms_X6_isWithin xPk.none ⟨Nat.le_of_ble_eq_true rfl, Nat.le_of_ble_eq_true rfl⟩ ⟨rfl, rfl⟩ ⟨Nat.zero_le _, Nat.zero_le _⟩ rfl (Nat.le_of_ble_eq_true rfl) rfl dX6_setPrice_12 ?_
    refine r_if_ne (tgt := 20) dX6_setPrice_15 (by decide) (fun h15 => ?_) (fun h15 => ?_)
    · replace hg := (if_neg h15).symm.trans hg
      refine r_aload_n dX6_setPrice_20 0 rfl ?_
      refine gf_X6_3 (v := .ref hq) 0 rfl rfl qw_178 dX6_setPrice_21 ?_
      refine r_aload_n dX6_setPrice_24 0 rfl ?_
      refine gf_X6_0 (v := .ref (a 0)) 0 rfl rfl qw_175 dX6_setPrice_25 ?_
      obtain ⟨o28, e28, hg⟩ := ob hg
      refine r_callV (As := [.ref (a 0)]) (rest := []) (ws' := wT Z t (a 0) tr0 hj hq hi ++ (wP Z a w er fl me p pr ++ (wQ Z hq hs AD o28.1 o28.2.1 o28.2.2.1 o28.2.2.2.1 o28.2.2.2.2.1 o28.2.2.2.2.2.1 o28.2.2.2.2.2.2))) 0 rfl rfl rfl (fun l => c_X4_rememberQ Z l hq hs AD a pv W8 E8 F8 M8 P8 R8 w er fl me p pr  o28 e28) qw_232 mv_X4_remember (xPk.seg2r (wT Z t (a 0) tr0 hj hq hi) (wP Z a w er fl me p pr) (wP Z a w er fl me p pr) (([] : va_W)) (wQ Z hq hs AD pv W8 E8 F8 M8 P8 R8) (wQ Z hq hs AD o28.1 o28.2.1 o28.2.2.1 o28.2.2.2.1 o28.2.2.2.2.1 o28.2.2.2.2.2.1 o28.2.2.2.2.2.2) (([] : va_W)) (by simp only [List.append_assoc, List.append_nil, List.nil_append]) (by simp only [List.append_assoc, List.append_nil, List.nil_append]) rfl wQ_dom) ⟨Nat.le_of_ble_eq_true rfl, Nat.le_of_ble_eq_true rfl⟩ ⟨rfl, rfl⟩ ⟨Nat.zero_le _, Nat.zero_le _⟩ rfl (Nat.le_of_ble_eq_true rfl) rfl dX6_setPrice_28 ?_
      refine r_aload_n dX6_setPrice_31 0 rfl ?_
      refine gf_X6_0 (v := .ref (a 0)) 0 rfl rfl qw_175 dX6_setPrice_32 ?_
      refine r_iload_n dX6_setPrice_35 1 rfl ?_
      obtain ⟨o36, e36, hg⟩ := ob hg
      refine r_callV (As := [.int n1]) (rest := []) (ws' := wT Z t (a 0) tr0 hj hq hi ++ (wP Z a w er fl me p pr ++ (wQ Z hq hs AD o28.1 o28.2.1 o28.2.2.1 o28.2.2.2.1 o28.2.2.2.2.1 o28.2.2.2.2.2.1 o28.2.2.2.2.2.2))) 0 rfl rfl rfl (fun l => c_X5_priceOf Z l a w er fl me p pr n1 o36 e36) qw_377 mv_X5_priceOf (xPk.idx [1, 2, 3, 4, 5, 6] rfl rfl rfl rfl rfl) ⟨Nat.le_of_ble_eq_true rfl, Nat.le_of_ble_eq_true rfl⟩ ⟨rfl, rfl⟩ ⟨Nat.zero_le _, Nat.zero_le _⟩ rfl (Nat.le_of_ble_eq_true rfl) rfl dX6_setPrice_36 ?_
      refine r_istore_n (lv' := [(3, .int o36), (0, .ref t), (1, .int n1), (2, .int n2)]) dX6_setPrice_39 (by decide) rfl ?_
      refine r_aload_n dX6_setPrice_40 1 rfl ?_
      refine gf_X6_0 (v := .ref (a 0)) 0 rfl rfl qw_175 dX6_setPrice_41 ?_
      refine r_iload_n dX6_setPrice_44 2 rfl ?_
      refine r_iload_n dX6_setPrice_45 3 rfl ?_
      obtain ⟨o46, e46, hg⟩ := ob hg
      refine r_callV (As := [.int n1, .int n2]) (rest := []) (ws' := wT Z t (a 0) tr0 hj hq hi ++ (wP Z a w er fl me o46 pr ++ (wQ Z hq hs AD o28.1 o28.2.1 o28.2.2.1 o28.2.2.2.1 o28.2.2.2.2.1 o28.2.2.2.2.2.1 o28.2.2.2.2.2.2))) 0 rfl rfl rfl (fun l => c_X5_changePrice Z l a w er fl me p pr n1 n2 o46 e46) qw_378 mv_X5_changePrice (xPk.idx [1, 2, 3, 4, 5, 6] rfl rfl rfl rfl rfl) ⟨Nat.le_of_ble_eq_true rfl, Nat.le_of_ble_eq_true rfl⟩ ⟨rfl, rfl⟩ ⟨Nat.zero_le _, Nat.zero_le _⟩ rfl (Nat.le_of_ble_eq_true rfl) rfl dX6_setPrice_46 ?_
      refine r_iload_n dX6_setPrice_49 0 rfl ?_
      exact r_iret (hE _ (Option.some.inj hg)) dX6_setPrice_50
    · replace hg := (if_pos h15).symm.trans hg
      exact r_sub [] rfl (J18 p pv W8 E8 F8 M8 P8 R8 hg)

-- TicketJournal.cut(I)I
abbrev rm_X6_cut : Room := { frames := 4, cells := 0, slots := 0, locals := 104 }
def g_X6_cut_51 (w : Nat → Int32) (er : Nat → Int32) (me : Nat → Int32) (p : Nat → Int32) (pr : Nat → Int32)  (x2 : Int32) (t1 : Int32) (fl : Nat → Int32) (pv : Nat → Int32) (W8 : Nat → Nat → Int32) (E8 : Nat → Nat → Int32) (F8 : Nat → Nat → Int32) (M8 : Nat → Nat → Int32) (P8 : Nat → Nat → Int32) (R8 : Nat → Nat → Int32) : Option (Int32 × (Nat → Int32) × (Nat → Int32) × (Nat → Nat → Int32) × (Nat → Nat → Int32) × (Nat → Nat → Int32) × (Nat → Nat → Int32) × (Nat → Nat → Int32) × (Nat → Nat → Int32)) :=
  some (x2, (upd fl 1 t1), pv, W8, E8, F8, M8, P8, R8)
def g_X6_cut (w : Nat → Int32) (er : Nat → Int32) (fl : Nat → Int32) (me : Nat → Int32) (p : Nat → Int32) (pr : Nat → Int32) (pv : Nat → Int32) (W8 : Nat → Nat → Int32) (E8 : Nat → Nat → Int32) (F8 : Nat → Nat → Int32) (M8 : Nat → Nat → Int32) (P8 : Nat → Nat → Int32) (R8 : Nat → Nat → Int32) (n1 : Int32) : Option (Int32 × (Nat → Int32) × (Nat → Int32) × (Nat → Nat → Int32) × (Nat → Nat → Int32) × (Nat → Nat → Int32) × (Nat → Nat → Int32) × (Nat → Nat → Int32) × (Nat → Nat → Int32)) :=
  (g_X6_isWithin n1 (-1) 100).bind fun o4 => (if o4 = 0 then some ((-1), fl, pv, W8, E8, F8, M8, P8, R8) else (g_X4_remember pv W8 E8 F8 M8 P8 R8 w er fl me p pr).bind fun o20 => (if 0 ≤ n1 then g_X6_cut_51 w er me p pr (fl 1) n1 fl o20.1 o20.2.1 o20.2.2.1 o20.2.2.2.1 o20.2.2.2.2.1 o20.2.2.2.2.2.1 o20.2.2.2.2.2.2 else g_X6_cut_51 w er me p pr (fl 1) (-9) fl o20.1 o20.2.1 o20.2.2.1 o20.2.2.2.1 o20.2.2.2.2.1 o20.2.2.2.2.2.1 o20.2.2.2.2.2.2))
set_option maxHeartbeats 4000000 in
set_option maxRecDepth 100000 in
theorem c_X6_cut (Z : GZ) (l : Launch) (t : Nat) (tr0 : Nat) (hj : Nat) (hi : Nat) (a : Nat → Nat) (hq : Nat) (hs : Nat) (AD : Nat → Nat → Nat) (w : Nat → Int32) (er : Nat → Int32) (fl : Nat → Int32) (me : Nat → Int32) (p : Nat → Int32) (pr : Nat → Int32) (pv : Nat → Int32) (W8 : Nat → Nat → Int32) (E8 : Nat → Nat → Int32) (F8 : Nat → Nat → Int32) (M8 : Nat → Nat → Int32) (P8 : Nat → Nat → Int32) (R8 : Nat → Nat → Int32) (n1 : Int32) (o : (Int32 × (Nat → Int32) × (Nat → Int32) × (Nat → Nat → Int32) × (Nat → Nat → Int32) × (Nat → Nat → Int32) × (Nat → Nat → Int32) × (Nat → Nat → Int32) × (Nat → Nat → Int32))) (hg : g_X6_cut w er fl me p pr pv W8 E8 F8 M8 P8 R8 n1 = some o) : Con Z l yX6_cut cX6_cut 3 (some .int) rm_X6_cut [.ref t, .int n1] (wT Z t (a 0) tr0 hj hq hi ++ (wP Z a w er fl me p pr ++ (wQ Z hq hs AD pv W8 E8 F8 M8 P8 R8))) (some (.int o.1)) (wT Z t (a 0) tr0 hj hq hi ++ (wP Z a w er o.2.1 me p pr ++ (wQ Z hq hs AD o.2.2.1 o.2.2.2.1 o.2.2.2.2.1 o.2.2.2.2.2.1 o.2.2.2.2.2.2.1 o.2.2.2.2.2.2.2.1 o.2.2.2.2.2.2.2.2))) := by
  refine Con.of (by decide) (Nat.le_of_ble_eq_true rfl) ?_
  intro X hE0
  have hE : ∀ z, z = o → endsX X Z (some .int) (some (.int z.1)) (wT Z t (a 0) tr0 hj hq hi ++ (wP Z a w er z.2.1 me p pr ++ (wQ Z hq hs AD z.2.2.1 z.2.2.2.1 z.2.2.2.2.1 z.2.2.2.2.2.1 z.2.2.2.2.2.2.1 z.2.2.2.2.2.2.2.1 z.2.2.2.2.2.2.2.2))) := by
    rintro _ rfl; exact hE0
  have J51 : ∀ (x2 : Int32) (t1 : Int32) (fl : Nat → Int32) (pv : Nat → Int32) (W8 : Nat → Nat → Int32) (E8 : Nat → Nat → Int32) (F8 : Nat → Nat → Int32) (M8 : Nat → Nat → Int32) (P8 : Nat → Nat → Int32) (R8 : Nat → Nat → Int32), g_X6_cut_51 w er me p pr x2 t1 fl pv W8 E8 F8 M8 P8 R8 = some o → AtK X Z rm_X6_cut cX6_cut RX6 3 0 0 (wT Z t (a 0) tr0 hj hq hi ++ (wP Z a w er fl me p pr ++ (wQ Z hq hs AD pv W8 E8 F8 M8 P8 R8))) 51 [(2, .int x2)] [.int t1, .ref (a 1)] := by
    intro x2 t1 fl pv W8 E8 F8 M8 P8 R8 hg
    unfold g_X6_cut_51 at hg
    refine pfN_X0_3 2 rfl (Nat.le_of_ble_eq_true rfl) qw_48 dX6_cut_51 (ws' := wT Z t (a 0) tr0 hj hq hi ++ (wP Z a w er (upd fl 1 t1) me p pr ++ (wQ Z hq hs AD pv W8 E8 F8 M8 P8 R8))) rfl ?_
    refine r_iload_n dX6_cut_54 0 rfl ?_
    exact r_iret (hE _ (Option.some.inj hg)) dX6_cut_55
  unfold g_X6_cut at hg
  show AtK X Z rm_X6_cut cX6_cut RX6 3 0 0 (wT Z t (a 0) tr0 hj hq hi ++ (wP Z a w er fl me p pr ++ (wQ Z hq hs AD pv W8 E8 F8 M8 P8 R8))) 0 [(0, .ref t), (1, .int n1)] []
  refine r_iload_n dX6_cut_0 1 rfl ?_
  refine r_iconst (v := (-1)) dX6_cut_1 kic_m1 ?_
  refine r_bipush (v := 100) dX6_cut_2 kbp_100 ?_
  obtain ⟨o4, e4, hg⟩ := ob hg
  refine r_callS (As := [.int n1, .int (-1), .int 100]) (rest := []) (ws' := wT Z t (a 0) tr0 hj hq hi ++ (wP Z a w er fl me p pr ++ (wQ Z hq hs AD pv W8 E8 F8 M8 P8 R8))) (fun l => c_X6_isWithin Z l   n1 (-1) 100 o4 e4) qw_195 ms_X6_isWithin xPk.none ⟨Nat.le_of_ble_eq_true rfl, Nat.le_of_ble_eq_true rfl⟩ ⟨rfl, rfl⟩ ⟨Nat.zero_le _, Nat.zero_le _⟩ rfl (Nat.le_of_ble_eq_true rfl) rfl dX6_cut_4 ?_
  refine r_if_ne (tgt := 12) dX6_cut_7 (by decide) (fun h7 => ?_) (fun h7 => ?_)
  · replace hg := (if_neg h7).symm.trans hg
    refine r_aload_n dX6_cut_12 0 rfl ?_
    refine gf_X6_3 (v := .ref hq) 0 rfl rfl qw_178 dX6_cut_13 ?_
    refine r_aload_n dX6_cut_16 0 rfl ?_
    refine gf_X6_0 (v := .ref (a 0)) 0 rfl rfl qw_175 dX6_cut_17 ?_
    obtain ⟨o20, e20, hg⟩ := ob hg
    refine r_callV (As := [.ref (a 0)]) (rest := []) (ws' := wT Z t (a 0) tr0 hj hq hi ++ (wP Z a w er fl me p pr ++ (wQ Z hq hs AD o20.1 o20.2.1 o20.2.2.1 o20.2.2.2.1 o20.2.2.2.2.1 o20.2.2.2.2.2.1 o20.2.2.2.2.2.2))) 0 rfl rfl rfl (fun l => c_X4_rememberQ Z l hq hs AD a pv W8 E8 F8 M8 P8 R8 w er fl me p pr  o20 e20) qw_232 mv_X4_remember (xPk.seg2r (wT Z t (a 0) tr0 hj hq hi) (wP Z a w er fl me p pr) (wP Z a w er fl me p pr) (([] : va_W)) (wQ Z hq hs AD pv W8 E8 F8 M8 P8 R8) (wQ Z hq hs AD o20.1 o20.2.1 o20.2.2.1 o20.2.2.2.1 o20.2.2.2.2.1 o20.2.2.2.2.2.1 o20.2.2.2.2.2.2) (([] : va_W)) (by simp only [List.append_assoc, List.append_nil, List.nil_append]) (by simp only [List.append_assoc, List.append_nil, List.nil_append]) rfl wQ_dom) ⟨Nat.le_of_ble_eq_true rfl, Nat.le_of_ble_eq_true rfl⟩ ⟨rfl, rfl⟩ ⟨Nat.zero_le _, Nat.zero_le _⟩ rfl (Nat.le_of_ble_eq_true rfl) rfl dX6_cut_20 ?_
    refine r_aload_n dX6_cut_23 0 rfl ?_
    refine gf_X6_0 (v := .ref (a 0)) 0 rfl rfl qw_175 dX6_cut_24 ?_
    refine gfN_X5_0 (v := .ref (a 1)) 1 rfl rfl qw_97 dX6_cut_27 ?_
    refine gfN_X0_3 (v := .int (fl 1)) 2 rfl rfl qw_48 dX6_cut_30 ?_
    refine r_istore_n (lv' := [(2, .int (fl 1)), (0, .ref t), (1, .int n1)]) dX6_cut_33 (by decide) rfl ?_
    refine r_aload_n dX6_cut_34 1 rfl ?_
    refine gf_X6_0 (v := .ref (a 0)) 0 rfl rfl qw_175 dX6_cut_35 ?_
    refine gfN_X5_0 (v := .ref (a 1)) 1 rfl rfl qw_97 dX6_cut_38 ?_
    refine r_iload_n dX6_cut_41 2 rfl ?_
    refine r_if_ge (tgt := 50) dX6_cut_42 (by decide) (fun h42 => ?_) (fun h42 => ?_)
    · replace hg := (if_pos h42).symm.trans hg
      refine r_iload_n dX6_cut_50 2 rfl ?_
      exact r_sub [0] rfl (J51 (fl 1) n1 fl o20.1 o20.2.1 o20.2.2.1 o20.2.2.2.1 o20.2.2.2.2.1 o20.2.2.2.2.2.1 o20.2.2.2.2.2.2 hg)
    · replace hg := (if_neg h42).symm.trans hg
      refine r_bipush (v := (-9)) dX6_cut_45 kbp_m9 ?_
      refine r_goto (tgt := 51) dX6_cut_47 (by decide) ?_
      exact r_sub [0] rfl (J51 (fl 1) (-9) fl o20.1 o20.2.1 o20.2.2.1 o20.2.2.2.1 o20.2.2.2.2.1 o20.2.2.2.2.2.1 o20.2.2.2.2.2.2 hg)
  · replace hg := (if_pos h7).symm.trans hg
    refine r_iconst (v := (-1)) dX6_cut_10 kic_m1 ?_
    exact r_iret (hE _ (Option.some.inj hg)) dX6_cut_11

-- TicketJournal.off()I
abbrev rm_X6_off : Room := { frames := 6, cells := 0, slots := 0, locals := 139 }
def g_X6_off (w : Nat → Int32) (er : Nat → Int32) (fl : Nat → Int32) (me : Nat → Int32) (p : Nat → Int32) (pr : Nat → Int32) (pv : Nat → Int32) (W8 : Nat → Nat → Int32) (E8 : Nat → Nat → Int32) (F8 : Nat → Nat → Int32) (M8 : Nat → Nat → Int32) (P8 : Nat → Nat → Int32) (R8 : Nat → Nat → Int32)  : Option (Int32 × (Nat → Int32) × (Nat → Int32) × (Nat → Int32) × (Nat → Nat → Int32) × (Nat → Nat → Int32) × (Nat → Nat → Int32) × (Nat → Nat → Int32) × (Nat → Nat → Int32) × (Nat → Nat → Int32)) :=
  (if (pr 0) = 0 then some ((-2), me, pr, pv, W8, E8, F8, M8, P8, R8) else (g_X4_remember pv W8 E8 F8 M8 P8 R8 w er fl me p pr).bind fun o21 => (g_X5_losePower me pr).bind fun o28 => (g_X0_tally w 1).bind fun o39 => some (o39, o28.1, o28.2, o21.1, o21.2.1, o21.2.2.1, o21.2.2.2.1, o21.2.2.2.2.1, o21.2.2.2.2.2.1, o21.2.2.2.2.2.2))
set_option maxHeartbeats 4000000 in
set_option maxRecDepth 100000 in
theorem c_X6_off (Z : GZ) (l : Launch) (t : Nat) (tr0 : Nat) (hj : Nat) (hi : Nat) (a : Nat → Nat) (hq : Nat) (hs : Nat) (AD : Nat → Nat → Nat) (w : Nat → Int32) (er : Nat → Int32) (fl : Nat → Int32) (me : Nat → Int32) (p : Nat → Int32) (pr : Nat → Int32) (pv : Nat → Int32) (W8 : Nat → Nat → Int32) (E8 : Nat → Nat → Int32) (F8 : Nat → Nat → Int32) (M8 : Nat → Nat → Int32) (P8 : Nat → Nat → Int32) (R8 : Nat → Nat → Int32)  (o : (Int32 × (Nat → Int32) × (Nat → Int32) × (Nat → Int32) × (Nat → Nat → Int32) × (Nat → Nat → Int32) × (Nat → Nat → Int32) × (Nat → Nat → Int32) × (Nat → Nat → Int32) × (Nat → Nat → Int32))) (hg : g_X6_off w er fl me p pr pv W8 E8 F8 M8 P8 R8 = some o) : Con Z l yX6_off cX6_off 1 (some .int) rm_X6_off [.ref t] (wT Z t (a 0) tr0 hj hq hi ++ (wP Z a w er fl me p pr ++ (wQ Z hq hs AD pv W8 E8 F8 M8 P8 R8))) (some (.int o.1)) (wT Z t (a 0) tr0 hj hq hi ++ (wP Z a w er fl o.2.1 p o.2.2.1 ++ (wQ Z hq hs AD o.2.2.2.1 o.2.2.2.2.1 o.2.2.2.2.2.1 o.2.2.2.2.2.2.1 o.2.2.2.2.2.2.2.1 o.2.2.2.2.2.2.2.2.1 o.2.2.2.2.2.2.2.2.2))) := by
  refine Con.of (by decide) (Nat.le_of_ble_eq_true rfl) ?_
  intro X hE0
  have hE : ∀ z, z = o → endsX X Z (some .int) (some (.int z.1)) (wT Z t (a 0) tr0 hj hq hi ++ (wP Z a w er fl z.2.1 p z.2.2.1 ++ (wQ Z hq hs AD z.2.2.2.1 z.2.2.2.2.1 z.2.2.2.2.2.1 z.2.2.2.2.2.2.1 z.2.2.2.2.2.2.2.1 z.2.2.2.2.2.2.2.2.1 z.2.2.2.2.2.2.2.2.2))) := by
    rintro _ rfl; exact hE0
  unfold g_X6_off at hg
  show AtK X Z rm_X6_off cX6_off RX6 1 0 0 (wT Z t (a 0) tr0 hj hq hi ++ (wP Z a w er fl me p pr ++ (wQ Z hq hs AD pv W8 E8 F8 M8 P8 R8))) 0 [(0, .ref t)] []
  refine r_aload_n dX6_off_0 0 rfl ?_
  refine gf_X6_0 (v := .ref (a 0)) 0 rfl rfl qw_175 dX6_off_1 ?_
  refine gfN_X5_3 (v := .int (pr 0)) 1 rfl rfl qw_102 dX6_off_4 ?_
  refine r_if_ne (tgt := 13) dX6_off_7 (by decide) (fun h7 => ?_) (fun h7 => ?_)
  · replace hg := (if_neg h7).symm.trans hg
    refine r_aload_n dX6_off_13 0 rfl ?_
    refine gf_X6_3 (v := .ref hq) 0 rfl rfl qw_178 dX6_off_14 ?_
    refine r_aload_n dX6_off_17 0 rfl ?_
    refine gf_X6_0 (v := .ref (a 0)) 0 rfl rfl qw_175 dX6_off_18 ?_
    obtain ⟨o21, e21, hg⟩ := ob hg
    refine r_callV (As := [.ref (a 0)]) (rest := []) (ws' := wT Z t (a 0) tr0 hj hq hi ++ (wP Z a w er fl me p pr ++ (wQ Z hq hs AD o21.1 o21.2.1 o21.2.2.1 o21.2.2.2.1 o21.2.2.2.2.1 o21.2.2.2.2.2.1 o21.2.2.2.2.2.2))) 0 rfl rfl rfl (fun l => c_X4_rememberQ Z l hq hs AD a pv W8 E8 F8 M8 P8 R8 w er fl me p pr  o21 e21) qw_232 mv_X4_remember (xPk.seg2r (wT Z t (a 0) tr0 hj hq hi) (wP Z a w er fl me p pr) (wP Z a w er fl me p pr) (([] : va_W)) (wQ Z hq hs AD pv W8 E8 F8 M8 P8 R8) (wQ Z hq hs AD o21.1 o21.2.1 o21.2.2.1 o21.2.2.2.1 o21.2.2.2.2.1 o21.2.2.2.2.2.1 o21.2.2.2.2.2.2) (([] : va_W)) (by simp only [List.append_assoc, List.append_nil, List.nil_append]) (by simp only [List.append_assoc, List.append_nil, List.nil_append]) rfl wQ_dom) ⟨Nat.le_of_ble_eq_true rfl, Nat.le_of_ble_eq_true rfl⟩ ⟨rfl, rfl⟩ ⟨Nat.zero_le _, Nat.zero_le _⟩ rfl (Nat.le_of_ble_eq_true rfl) rfl dX6_off_21 ?_
    refine r_aload_n dX6_off_24 0 rfl ?_
    refine gf_X6_0 (v := .ref (a 0)) 0 rfl rfl qw_175 dX6_off_25 ?_
    obtain ⟨o28, e28, hg⟩ := ob hg
    refine r_callV (As := []) (rest := []) (ws' := wT Z t (a 0) tr0 hj hq hi ++ (wP Z a w er fl o28.1 p o28.2 ++ (wQ Z hq hs AD o21.1 o21.2.1 o21.2.2.1 o21.2.2.2.1 o21.2.2.2.2.1 o21.2.2.2.2.2.1 o21.2.2.2.2.2.2))) 0 rfl rfl rfl (fun l => c_X5_losePower Z l a w er fl me p pr  o28 e28) qw_390 mv_X5_losePower (xPk.idx [1, 2, 3, 4, 5, 6] rfl rfl rfl rfl rfl) ⟨Nat.le_of_ble_eq_true rfl, Nat.le_of_ble_eq_true rfl⟩ ⟨rfl, rfl⟩ ⟨Nat.zero_le _, Nat.zero_le _⟩ rfl (Nat.le_of_ble_eq_true rfl) rfl dX6_off_28 ?_
    refine r_aload_n dX6_off_31 0 rfl ?_
    refine gf_X6_0 (v := .ref (a 0)) 0 rfl rfl qw_175 dX6_off_32 ?_
    refine gfN_X5_0 (v := .ref (a 1)) 1 rfl rfl qw_97 dX6_off_35 ?_
    refine r_iconst (v := 1) dX6_off_38 kic_1 ?_
    obtain ⟨o39, e39, hg⟩ := ob hg
    refine r_callV (As := [.int 1]) (rest := []) (ws' := wT Z t (a 0) tr0 hj hq hi ++ (wP Z a w er fl o28.1 p o28.2 ++ (wQ Z hq hs AD o21.1 o21.2.1 o21.2.2.1 o21.2.2.2.1 o21.2.2.2.2.1 o21.2.2.2.2.2.1 o21.2.2.2.2.2.2))) 0 rfl rfl rfl (fun l => c_X0_tally Z l (a 1) (a 2) (a 3) w er fl 1 o39 e39) qw_391 mv_X0_tally (xPk.idx [2, 3, 4] rfl rfl rfl rfl rfl) ⟨Nat.le_of_ble_eq_true rfl, Nat.le_of_ble_eq_true rfl⟩ ⟨rfl, rfl⟩ ⟨Nat.zero_le _, Nat.zero_le _⟩ rfl (Nat.le_of_ble_eq_true rfl) rfl dX6_off_39 ?_
    exact r_iret (hE _ (Option.some.inj hg)) dX6_off_42
  · replace hg := (if_pos h7).symm.trans hg
    refine r_bipush (v := (-2)) dX6_off_10 kbp_m2 ?_
    exact r_iret (hE _ (Option.some.inj hg)) dX6_off_12

-- TicketJournal.start()I
abbrev rm_X6_start : Room := { frames := 6, cells := 0, slots := 0, locals := 134 }
def g_X6_start (w : Nat → Int32) (er : Nat → Int32) (fl : Nat → Int32) (me : Nat → Int32) (p : Nat → Int32) (pr : Nat → Int32) (pv : Nat → Int32) (W8 : Nat → Nat → Int32) (E8 : Nat → Nat → Int32) (F8 : Nat → Nat → Int32) (M8 : Nat → Nat → Int32) (P8 : Nat → Nat → Int32) (R8 : Nat → Nat → Int32)  : Option (Int32 × (Nat → Int32) × (Nat → Int32) × (Nat → Int32) × (Nat → Nat → Int32) × (Nat → Nat → Int32) × (Nat → Nat → Int32) × (Nat → Nat → Int32) × (Nat → Nat → Int32) × (Nat → Nat → Int32)) :=
  (if (pr 0) = 0 then (g_X4_remember pv W8 E8 F8 M8 P8 R8 w er fl me p pr).bind fun o21 => (g_X5_wake w me pr).bind fun o28 => some ((o28.1 2), o28.1, o28.2, o21.1, o21.2.1, o21.2.2.1, o21.2.2.2.1, o21.2.2.2.2.1, o21.2.2.2.2.2.1, o21.2.2.2.2.2.2) else some ((-2), me, pr, pv, W8, E8, F8, M8, P8, R8))
set_option maxHeartbeats 4000000 in
set_option maxRecDepth 100000 in
theorem c_X6_start (Z : GZ) (l : Launch) (t : Nat) (tr0 : Nat) (hj : Nat) (hi : Nat) (a : Nat → Nat) (hq : Nat) (hs : Nat) (AD : Nat → Nat → Nat) (w : Nat → Int32) (er : Nat → Int32) (fl : Nat → Int32) (me : Nat → Int32) (p : Nat → Int32) (pr : Nat → Int32) (pv : Nat → Int32) (W8 : Nat → Nat → Int32) (E8 : Nat → Nat → Int32) (F8 : Nat → Nat → Int32) (M8 : Nat → Nat → Int32) (P8 : Nat → Nat → Int32) (R8 : Nat → Nat → Int32)  (o : (Int32 × (Nat → Int32) × (Nat → Int32) × (Nat → Int32) × (Nat → Nat → Int32) × (Nat → Nat → Int32) × (Nat → Nat → Int32) × (Nat → Nat → Int32) × (Nat → Nat → Int32) × (Nat → Nat → Int32))) (hg : g_X6_start w er fl me p pr pv W8 E8 F8 M8 P8 R8 = some o) : Con Z l yX6_start cX6_start 1 (some .int) rm_X6_start [.ref t] (wT Z t (a 0) tr0 hj hq hi ++ (wP Z a w er fl me p pr ++ (wQ Z hq hs AD pv W8 E8 F8 M8 P8 R8))) (some (.int o.1)) (wT Z t (a 0) tr0 hj hq hi ++ (wP Z a w er fl o.2.1 p o.2.2.1 ++ (wQ Z hq hs AD o.2.2.2.1 o.2.2.2.2.1 o.2.2.2.2.2.1 o.2.2.2.2.2.2.1 o.2.2.2.2.2.2.2.1 o.2.2.2.2.2.2.2.2.1 o.2.2.2.2.2.2.2.2.2))) := by
  refine Con.of (by decide) (Nat.le_of_ble_eq_true rfl) ?_
  intro X hE0
  have hE : ∀ z, z = o → endsX X Z (some .int) (some (.int z.1)) (wT Z t (a 0) tr0 hj hq hi ++ (wP Z a w er fl z.2.1 p z.2.2.1 ++ (wQ Z hq hs AD z.2.2.2.1 z.2.2.2.2.1 z.2.2.2.2.2.1 z.2.2.2.2.2.2.1 z.2.2.2.2.2.2.2.1 z.2.2.2.2.2.2.2.2.1 z.2.2.2.2.2.2.2.2.2))) := by
    rintro _ rfl; exact hE0
  unfold g_X6_start at hg
  show AtK X Z rm_X6_start cX6_start RX6 1 0 0 (wT Z t (a 0) tr0 hj hq hi ++ (wP Z a w er fl me p pr ++ (wQ Z hq hs AD pv W8 E8 F8 M8 P8 R8))) 0 [(0, .ref t)] []
  refine r_aload_n dX6_start_0 0 rfl ?_
  refine gf_X6_0 (v := .ref (a 0)) 0 rfl rfl qw_175 dX6_start_1 ?_
  refine gfN_X5_3 (v := .int (pr 0)) 1 rfl rfl qw_102 dX6_start_4 ?_
  refine r_if_eq (tgt := 13) dX6_start_7 (by decide) (fun h7 => ?_) (fun h7 => ?_)
  · replace hg := (if_pos h7).symm.trans hg
    refine r_aload_n dX6_start_13 0 rfl ?_
    refine gf_X6_3 (v := .ref hq) 0 rfl rfl qw_178 dX6_start_14 ?_
    refine r_aload_n dX6_start_17 0 rfl ?_
    refine gf_X6_0 (v := .ref (a 0)) 0 rfl rfl qw_175 dX6_start_18 ?_
    obtain ⟨o21, e21, hg⟩ := ob hg
    refine r_callV (As := [.ref (a 0)]) (rest := []) (ws' := wT Z t (a 0) tr0 hj hq hi ++ (wP Z a w er fl me p pr ++ (wQ Z hq hs AD o21.1 o21.2.1 o21.2.2.1 o21.2.2.2.1 o21.2.2.2.2.1 o21.2.2.2.2.2.1 o21.2.2.2.2.2.2))) 0 rfl rfl rfl (fun l => c_X4_rememberQ Z l hq hs AD a pv W8 E8 F8 M8 P8 R8 w er fl me p pr  o21 e21) qw_232 mv_X4_remember (xPk.seg2r (wT Z t (a 0) tr0 hj hq hi) (wP Z a w er fl me p pr) (wP Z a w er fl me p pr) (([] : va_W)) (wQ Z hq hs AD pv W8 E8 F8 M8 P8 R8) (wQ Z hq hs AD o21.1 o21.2.1 o21.2.2.1 o21.2.2.2.1 o21.2.2.2.2.1 o21.2.2.2.2.2.1 o21.2.2.2.2.2.2) (([] : va_W)) (by simp only [List.append_assoc, List.append_nil, List.nil_append]) (by simp only [List.append_assoc, List.append_nil, List.nil_append]) rfl wQ_dom) ⟨Nat.le_of_ble_eq_true rfl, Nat.le_of_ble_eq_true rfl⟩ ⟨rfl, rfl⟩ ⟨Nat.zero_le _, Nat.zero_le _⟩ rfl (Nat.le_of_ble_eq_true rfl) rfl dX6_start_21 ?_
    refine r_aload_n dX6_start_24 0 rfl ?_
    refine gf_X6_0 (v := .ref (a 0)) 0 rfl rfl qw_175 dX6_start_25 ?_
    obtain ⟨o28, e28, hg⟩ := ob hg
    refine r_callV (As := []) (rest := []) (ws' := wT Z t (a 0) tr0 hj hq hi ++ (wP Z a w er fl o28.1 p o28.2 ++ (wQ Z hq hs AD o21.1 o21.2.1 o21.2.2.1 o21.2.2.2.1 o21.2.2.2.2.1 o21.2.2.2.2.2.1 o21.2.2.2.2.2.2))) 0 rfl rfl rfl (fun l => c_X5_wake Z l a w er fl me p pr  o28 e28) qw_409 mv_X5_wake (xPk.idx [1, 2, 3, 4, 5, 6] rfl rfl rfl rfl rfl) ⟨Nat.le_of_ble_eq_true rfl, Nat.le_of_ble_eq_true rfl⟩ ⟨rfl, rfl⟩ ⟨Nat.zero_le _, Nat.zero_le _⟩ rfl (Nat.le_of_ble_eq_true rfl) rfl dX6_start_28 ?_
    refine r_aload_n dX6_start_31 0 rfl ?_
    refine gf_X6_0 (v := .ref (a 0)) 0 rfl rfl qw_175 dX6_start_32 ?_
    refine gfN_X5_1 (v := .ref (a 4)) 1 rfl rfl qw_99 dX6_start_35 ?_
    refine gfN_X3_2 (v := .int (o28.1 2)) 5 rfl rfl qw_73 dX6_start_38 ?_
    exact r_iret (hE _ (Option.some.inj hg)) dX6_start_41
  · replace hg := (if_neg h7).symm.trans hg
    refine r_bipush (v := (-2)) dX6_start_10 kbp_m2 ?_
    exact r_iret (hE _ (Option.some.inj hg)) dX6_start_12

-- TicketJournal.undo()I
abbrev rm_X6_undo : Room := { frames := 4, cells := 0, slots := 0, locals := 104 }
def g_X6_undo (w : Nat → Int32) (er : Nat → Int32) (fl : Nat → Int32) (me : Nat → Int32) (p : Nat → Int32) (pr : Nat → Int32) (pv : Nat → Int32) (W8 : Nat → Nat → Int32) (E8 : Nat → Nat → Int32) (F8 : Nat → Nat → Int32) (M8 : Nat → Nat → Int32) (P8 : Nat → Nat → Int32) (R8 : Nat → Nat → Int32)  : Option (Int32 × (Nat → Int32) × (Nat → Int32) × (Nat → Int32) × (Nat → Int32) × (Nat → Int32) × (Nat → Int32) × (Nat → Int32)) :=
  (if (pv 1) = 0 then some ((-2), w, er, fl, me, p, pr, pv) else (g_X4_restore w er fl me p pr pv W8 E8 F8 M8 P8 R8).bind fun o21 => some ((o21.2.2.2.2.2.2 1), o21.1, o21.2.1, o21.2.2.1, o21.2.2.2.1, o21.2.2.2.2.1, o21.2.2.2.2.2.1, o21.2.2.2.2.2.2))
set_option maxHeartbeats 4000000 in
set_option maxRecDepth 100000 in
theorem c_X6_undo (Z : GZ) (l : Launch) (t : Nat) (tr0 : Nat) (hj : Nat) (hi : Nat) (a : Nat → Nat) (hq : Nat) (hs : Nat) (AD : Nat → Nat → Nat) (w : Nat → Int32) (er : Nat → Int32) (fl : Nat → Int32) (me : Nat → Int32) (p : Nat → Int32) (pr : Nat → Int32) (pv : Nat → Int32) (W8 : Nat → Nat → Int32) (E8 : Nat → Nat → Int32) (F8 : Nat → Nat → Int32) (M8 : Nat → Nat → Int32) (P8 : Nat → Nat → Int32) (R8 : Nat → Nat → Int32)  (o : (Int32 × (Nat → Int32) × (Nat → Int32) × (Nat → Int32) × (Nat → Int32) × (Nat → Int32) × (Nat → Int32) × (Nat → Int32))) (hg : g_X6_undo w er fl me p pr pv W8 E8 F8 M8 P8 R8 = some o) : Con Z l yX6_undo cX6_undo 1 (some .int) rm_X6_undo [.ref t] (wT Z t (a 0) tr0 hj hq hi ++ (wP Z a w er fl me p pr ++ (wQ Z hq hs AD pv W8 E8 F8 M8 P8 R8))) (some (.int o.1)) (wT Z t (a 0) tr0 hj hq hi ++ (wP Z a o.2.1 o.2.2.1 o.2.2.2.1 o.2.2.2.2.1 o.2.2.2.2.2.1 o.2.2.2.2.2.2.1 ++ (wQ Z hq hs AD o.2.2.2.2.2.2.2 W8 E8 F8 M8 P8 R8))) := by
  refine Con.of (by decide) (Nat.le_of_ble_eq_true rfl) ?_
  intro X hE0
  have hE : ∀ z, z = o → endsX X Z (some .int) (some (.int z.1)) (wT Z t (a 0) tr0 hj hq hi ++ (wP Z a z.2.1 z.2.2.1 z.2.2.2.1 z.2.2.2.2.1 z.2.2.2.2.2.1 z.2.2.2.2.2.2.1 ++ (wQ Z hq hs AD z.2.2.2.2.2.2.2 W8 E8 F8 M8 P8 R8))) := by
    rintro _ rfl; exact hE0
  unfold g_X6_undo at hg
  show AtK X Z rm_X6_undo cX6_undo RX6 1 0 0 (wT Z t (a 0) tr0 hj hq hi ++ (wP Z a w er fl me p pr ++ (wQ Z hq hs AD pv W8 E8 F8 M8 P8 R8))) 0 [(0, .ref t)] []
  refine r_aload_n dX6_undo_0 0 rfl ?_
  refine gf_X6_3 (v := .ref hq) 0 rfl rfl qw_178 dX6_undo_1 ?_
  refine gfN_X4_2 (v := .int (pv 1)) 7 rfl rfl qw_149 dX6_undo_4 ?_
  refine r_if_ne (tgt := 13) dX6_undo_7 (by decide) (fun h7 => ?_) (fun h7 => ?_)
  · replace hg := (if_neg h7).symm.trans hg
    refine r_aload_n dX6_undo_13 0 rfl ?_
    refine gf_X6_3 (v := .ref hq) 0 rfl rfl qw_178 dX6_undo_14 ?_
    refine r_aload_n dX6_undo_17 0 rfl ?_
    refine gf_X6_0 (v := .ref (a 0)) 0 rfl rfl qw_175 dX6_undo_18 ?_
    obtain ⟨o21, e21, hg⟩ := ob hg
    refine r_callV (As := [.ref (a 0)]) (rest := []) (ws' := wT Z t (a 0) tr0 hj hq hi ++ (wP Z a o21.1 o21.2.1 o21.2.2.1 o21.2.2.2.1 o21.2.2.2.2.1 o21.2.2.2.2.2.1 ++ (wQ Z hq hs AD o21.2.2.2.2.2.2 W8 E8 F8 M8 P8 R8))) 6 rfl rfl rfl (fun l => c_X4_restoreQ Z l a hq hs AD w er fl me p pr pv W8 E8 F8 M8 P8 R8  o21 e21) qw_437 mv_X4_restore (xPk.seg2 (wT Z t (a 0) tr0 hj hq hi) (wP Z a w er fl me p pr) (wP Z a o21.1 o21.2.1 o21.2.2.1 o21.2.2.2.1 o21.2.2.2.2.1 o21.2.2.2.2.2.1) (([] : va_W)) (wQ Z hq hs AD pv W8 E8 F8 M8 P8 R8) (wQ Z hq hs AD o21.2.2.2.2.2.2 W8 E8 F8 M8 P8 R8) (([] : va_W)) (by simp only [List.append_assoc, List.append_nil, List.nil_append]) (by simp only [List.append_assoc, List.append_nil, List.nil_append]) rfl wQ_dom) ⟨Nat.le_of_ble_eq_true rfl, Nat.le_of_ble_eq_true rfl⟩ ⟨rfl, rfl⟩ ⟨Nat.zero_le _, Nat.zero_le _⟩ rfl (Nat.le_of_ble_eq_true rfl) rfl dX6_undo_21 ?_
    refine r_aload_n dX6_undo_24 0 rfl ?_
    refine gf_X6_3 (v := .ref hq) 0 rfl rfl qw_178 dX6_undo_25 ?_
    refine gfN_X4_2 (v := .int (o21.2.2.2.2.2.2 1)) 7 rfl rfl qw_149 dX6_undo_28 ?_
    exact r_iret (hE _ (Option.some.inj hg)) dX6_undo_31
  · replace hg := (if_pos h7).symm.trans hg
    refine r_bipush (v := (-2)) dX6_undo_10 kbp_m2 ?_
    exact r_iret (hE _ (Option.some.inj hg)) dX6_undo_12

-- TicketJournal.keep(I)I
abbrev rm_X6_keep : Room := { frames := 6, cells := 0, slots := 0, locals := 139 }
def g_X6_keep (w : Nat → Int32) (er : Nat → Int32) (fl : Nat → Int32) (me : Nat → Int32) (p : Nat → Int32) (pr : Nat → Int32) (fi : Nat → Nat → Int32) (WI : Nat → Nat → Int32) (EI : Nat → Nat → Int32) (FI : Nat → Nat → Int32) (MI : Nat → Nat → Int32) (PI : Nat → Nat → Int32) (RI : Nat → Nat → Int32) (n1 : Int32) : Option (Int32 × (Nat → Nat → Int32) × (Nat → Nat → Int32) × (Nat → Nat → Int32) × (Nat → Nat → Int32) × (Nat → Nat → Int32) × (Nat → Nat → Int32) × (Nat → Nat → Int32)) :=
  (g_X6_isImage n1).bind fun o2 => (if o2 = 0 then some ((-1), fi, WI, EI, FI, MI, PI, RI) else (if n1 = 0 then (g_X1_store (fi 0) (WI 0) (EI 0) (FI 0) (MI 0) (PI 0) (RI 0) w er fl me p pr).bind fun o20 => (g_X0_tally w 1).bind fun o31 => some (o31, (va_up fi 0 o20.1), (va_up WI 0 o20.2.1), (va_up EI 0 o20.2.2.1), (va_up FI 0 o20.2.2.2.1), (va_up MI 0 o20.2.2.2.2.1), (va_up PI 0 o20.2.2.2.2.2.1), (va_up RI 0 o20.2.2.2.2.2.2)) else (if n1 = 1 then (g_X1_store (fi 1) (WI 1) (EI 1) (FI 1) (MI 1) (PI 1) (RI 1) w er fl me p pr).bind fun o20 => (g_X0_tally w 1).bind fun o31 => some (o31, (va_up fi 1 o20.1), (va_up WI 1 o20.2.1), (va_up EI 1 o20.2.2.1), (va_up FI 1 o20.2.2.2.1), (va_up MI 1 o20.2.2.2.2.1), (va_up PI 1 o20.2.2.2.2.2.1), (va_up RI 1 o20.2.2.2.2.2.2)) else none)))
set_option maxHeartbeats 4000000 in
set_option maxRecDepth 100000 in
theorem c_X6_keep (Z : GZ) (l : Launch) (t : Nat) (tr0 : Nat) (hj : Nat) (hq : Nat) (a : Nat → Nat) (hi : Nat) (IH : Nat → Nat) (IA : Nat → Nat → Nat) (w : Nat → Int32) (er : Nat → Int32) (fl : Nat → Int32) (me : Nat → Int32) (p : Nat → Int32) (pr : Nat → Int32) (fi : Nat → Nat → Int32) (WI : Nat → Nat → Int32) (EI : Nat → Nat → Int32) (FI : Nat → Nat → Int32) (MI : Nat → Nat → Int32) (PI : Nat → Nat → Int32) (RI : Nat → Nat → Int32) (n1 : Int32) (o : (Int32 × (Nat → Nat → Int32) × (Nat → Nat → Int32) × (Nat → Nat → Int32) × (Nat → Nat → Int32) × (Nat → Nat → Int32) × (Nat → Nat → Int32) × (Nat → Nat → Int32))) (hg : g_X6_keep w er fl me p pr fi WI EI FI MI PI RI n1 = some o) : Con Z l yX6_keep cX6_keep 2 (some .int) rm_X6_keep [.ref t, .int n1] (wT Z t (a 0) tr0 hj hq hi ++ (wP Z a w er fl me p pr ++ (wI Z hi IH IA fi WI EI FI MI PI RI))) (some (.int o.1)) (wT Z t (a 0) tr0 hj hq hi ++ (wP Z a w er fl me p pr ++ (wI Z hi IH IA o.2.1 o.2.2.1 o.2.2.2.1 o.2.2.2.2.1 o.2.2.2.2.2.1 o.2.2.2.2.2.2.1 o.2.2.2.2.2.2.2))) := by
  refine Con.of (by decide) (Nat.le_of_ble_eq_true rfl) ?_
  intro X hE0
  have hE : ∀ z, z = o → endsX X Z (some .int) (some (.int z.1)) (wT Z t (a 0) tr0 hj hq hi ++ (wP Z a w er fl me p pr ++ (wI Z hi IH IA z.2.1 z.2.2.1 z.2.2.2.1 z.2.2.2.2.1 z.2.2.2.2.2.1 z.2.2.2.2.2.2.1 z.2.2.2.2.2.2.2))) := by
    rintro _ rfl; exact hE0
  unfold g_X6_keep at hg
  show AtK X Z rm_X6_keep cX6_keep RX6 2 0 0 (wT Z t (a 0) tr0 hj hq hi ++ (wP Z a w er fl me p pr ++ (wI Z hi IH IA fi WI EI FI MI PI RI))) 0 [(0, .ref t), (1, .int n1)] []
  refine r_aload_n dX6_keep_0 0 rfl ?_
  refine r_iload_n dX6_keep_1 1 rfl ?_
  obtain ⟨o2, e2, hg⟩ := ob hg
  refine r_callV (As := [.int n1]) (rest := []) (ws' := wT Z t (a 0) tr0 hj hq hi ++ (wP Z a w er fl me p pr ++ (wI Z hi IH IA fi WI EI FI MI PI RI))) 0 rfl rfl rfl (fun l => c_X6_isImage Z l t (a 0) tr0 hj hq hi IH  n1 o2 e2) qw_445 mv_X6_isImage (xPk.idx [0, 7] rfl rfl rfl rfl rfl) ⟨Nat.le_of_ble_eq_true rfl, Nat.le_of_ble_eq_true rfl⟩ ⟨rfl, rfl⟩ ⟨Nat.zero_le _, Nat.zero_le _⟩ rfl (Nat.le_of_ble_eq_true rfl) rfl dX6_keep_2 ?_
  refine r_if_ne (tgt := 10) dX6_keep_5 (by decide) (fun h5 => ?_) (fun h5 => ?_)
  · replace hg := (if_neg h5).symm.trans hg
    refine r_aload_n dX6_keep_10 0 rfl ?_
    refine gf_X6_4 (v := .ref hi) 0 rfl rfl qw_179 dX6_keep_11 ?_
    refine r_iload_n dX6_keep_14 1 rfl ?_
    by_cases h15_0 : n1 = 0
    · replace hg := (if_pos h15_0).symm.trans hg
      refine r_aald 7 2 rfl rfl (by rw [h15_0]; decide) (v := .ref (IH 0)) (by rw [h15_0]; rfl) dX6_keep_15 ?_
      refine r_aload_n dX6_keep_16 0 rfl ?_
      refine gf_X6_0 (v := .ref (a 0)) 0 rfl rfl qw_175 dX6_keep_17 ?_
      obtain ⟨o20, e20, hg⟩ := ob hg
      refine r_callV (As := [.ref (a 0)]) (rest := []) (ws' := wT Z t (a 0) tr0 hj hq hi ++ (wP Z a w er fl me p pr ++ (wI Z hi IH IA (va_up fi 0 o20.1) (va_up WI 0 o20.2.1) (va_up EI 0 o20.2.2.1) (va_up FI 0 o20.2.2.2.1) (va_up MI 0 o20.2.2.2.2.1) (va_up PI 0 o20.2.2.2.2.2.1) (va_up RI 0 o20.2.2.2.2.2.2)))) 0 rfl rfl rfl (fun l => c_X1_store Z l (IH 0) (IA 0) a (fi 0) (WI 0) (EI 0) (FI 0) (MI 0) (PI 0) (RI 0) w er fl me p pr  o20 e20) qw_449 mv_X1_store (xPk.idx [8, 10, 11, 12, 13, 14, 15, 1, 2, 3, 4, 5, 6] rfl rfl rfl rfl rfl) ⟨Nat.le_of_ble_eq_true rfl, Nat.le_of_ble_eq_true rfl⟩ ⟨rfl, rfl⟩ ⟨Nat.zero_le _, Nat.zero_le _⟩ rfl (Nat.le_of_ble_eq_true rfl) rfl dX6_keep_20 ?_
      refine r_aload_n dX6_keep_23 0 rfl ?_
      refine gf_X6_0 (v := .ref (a 0)) 0 rfl rfl qw_175 dX6_keep_24 ?_
      refine gfN_X5_0 (v := .ref (a 1)) 1 rfl rfl qw_97 dX6_keep_27 ?_
      refine r_iconst (v := 1) dX6_keep_30 kic_1 ?_
      obtain ⟨o31, e31, hg⟩ := ob hg
      refine r_callV (As := [.int 1]) (rest := []) (ws' := wT Z t (a 0) tr0 hj hq hi ++ (wP Z a w er fl me p pr ++ (wI Z hi IH IA (va_up fi 0 o20.1) (va_up WI 0 o20.2.1) (va_up EI 0 o20.2.2.1) (va_up FI 0 o20.2.2.2.1) (va_up MI 0 o20.2.2.2.2.1) (va_up PI 0 o20.2.2.2.2.2.1) (va_up RI 0 o20.2.2.2.2.2.2)))) 0 rfl rfl rfl (fun l => c_X0_tally Z l (a 1) (a 2) (a 3) w er fl 1 o31 e31) qw_391 mv_X0_tally (xPk.idx [2, 3, 4] rfl rfl rfl rfl rfl) ⟨Nat.le_of_ble_eq_true rfl, Nat.le_of_ble_eq_true rfl⟩ ⟨rfl, rfl⟩ ⟨Nat.zero_le _, Nat.zero_le _⟩ rfl (Nat.le_of_ble_eq_true rfl) rfl dX6_keep_31 ?_
      exact r_iret (hE _ (Option.some.inj hg)) dX6_keep_34
    replace hg := (if_neg h15_0).symm.trans hg
    by_cases h15_1 : n1 = 1
    · replace hg := (if_pos h15_1).symm.trans hg
      refine r_aald 7 2 rfl rfl (by rw [h15_1]; decide) (v := .ref (IH 1)) (by rw [h15_1]; rfl) dX6_keep_15 ?_
      refine r_aload_n dX6_keep_16 0 rfl ?_
      refine gf_X6_0 (v := .ref (a 0)) 0 rfl rfl qw_175 dX6_keep_17 ?_
      obtain ⟨o20, e20, hg⟩ := ob hg
      refine r_callV (As := [.ref (a 0)]) (rest := []) (ws' := wT Z t (a 0) tr0 hj hq hi ++ (wP Z a w er fl me p pr ++ (wI Z hi IH IA (va_up fi 1 o20.1) (va_up WI 1 o20.2.1) (va_up EI 1 o20.2.2.1) (va_up FI 1 o20.2.2.2.1) (va_up MI 1 o20.2.2.2.2.1) (va_up PI 1 o20.2.2.2.2.2.1) (va_up RI 1 o20.2.2.2.2.2.2)))) 0 rfl rfl rfl (fun l => c_X1_store Z l (IH 1) (IA 1) a (fi 1) (WI 1) (EI 1) (FI 1) (MI 1) (PI 1) (RI 1) w er fl me p pr  o20 e20) qw_449 mv_X1_store (xPk.idx [9, 16, 17, 18, 19, 20, 21, 1, 2, 3, 4, 5, 6] rfl rfl rfl rfl rfl) ⟨Nat.le_of_ble_eq_true rfl, Nat.le_of_ble_eq_true rfl⟩ ⟨rfl, rfl⟩ ⟨Nat.zero_le _, Nat.zero_le _⟩ rfl (Nat.le_of_ble_eq_true rfl) rfl dX6_keep_20 ?_
      refine r_aload_n dX6_keep_23 0 rfl ?_
      refine gf_X6_0 (v := .ref (a 0)) 0 rfl rfl qw_175 dX6_keep_24 ?_
      refine gfN_X5_0 (v := .ref (a 1)) 1 rfl rfl qw_97 dX6_keep_27 ?_
      refine r_iconst (v := 1) dX6_keep_30 kic_1 ?_
      obtain ⟨o31, e31, hg⟩ := ob hg
      refine r_callV (As := [.int 1]) (rest := []) (ws' := wT Z t (a 0) tr0 hj hq hi ++ (wP Z a w er fl me p pr ++ (wI Z hi IH IA (va_up fi 1 o20.1) (va_up WI 1 o20.2.1) (va_up EI 1 o20.2.2.1) (va_up FI 1 o20.2.2.2.1) (va_up MI 1 o20.2.2.2.2.1) (va_up PI 1 o20.2.2.2.2.2.1) (va_up RI 1 o20.2.2.2.2.2.2)))) 0 rfl rfl rfl (fun l => c_X0_tally Z l (a 1) (a 2) (a 3) w er fl 1 o31 e31) qw_391 mv_X0_tally (xPk.idx [2, 3, 4] rfl rfl rfl rfl rfl) ⟨Nat.le_of_ble_eq_true rfl, Nat.le_of_ble_eq_true rfl⟩ ⟨rfl, rfl⟩ ⟨Nat.zero_le _, Nat.zero_le _⟩ rfl (Nat.le_of_ble_eq_true rfl) rfl dX6_keep_31 ?_
      exact r_iret (hE _ (Option.some.inj hg)) dX6_keep_34
    replace hg := (if_neg h15_1).symm.trans hg
    exact nomatch (show (none : Option _) = some o from hg)
  · replace hg := (if_pos h5).symm.trans hg
    refine r_iconst (v := (-1)) dX6_keep_8 kic_m1 ?_
    exact r_iret (hE _ (Option.some.inj hg)) dX6_keep_9

-- TicketJournal.back(I)I
abbrev rm_X6_back : Room := { frames := 6, cells := 0, slots := 0, locals := 139 }
def g_X6_back (w : Nat → Int32) (er : Nat → Int32) (fl : Nat → Int32) (me : Nat → Int32) (p : Nat → Int32) (pr : Nat → Int32) (fi : Nat → Nat → Int32) (WI : Nat → Nat → Int32) (EI : Nat → Nat → Int32) (FI : Nat → Nat → Int32) (MI : Nat → Nat → Int32) (PI : Nat → Nat → Int32) (RI : Nat → Nat → Int32) (pv : Nat → Int32) (W8 : Nat → Nat → Int32) (E8 : Nat → Nat → Int32) (F8 : Nat → Nat → Int32) (M8 : Nat → Nat → Int32) (P8 : Nat → Nat → Int32) (R8 : Nat → Nat → Int32) (n1 : Int32) : Option (Int32 × (Nat → Int32) × (Nat → Int32) × (Nat → Int32) × (Nat → Int32) × (Nat → Int32) × (Nat → Int32) × (Nat → Int32) × (Nat → Nat → Int32) × (Nat → Nat → Int32) × (Nat → Nat → Int32) × (Nat → Nat → Int32) × (Nat → Nat → Int32) × (Nat → Nat → Int32)) :=
  (g_X6_isImage n1).bind fun o2 => (if o2 = 0 then some ((-1), w, er, fl, me, p, pr, pv, W8, E8, F8, M8, P8, R8) else (if n1 = 0 then (if ((fi 0) 0) = 0 then some ((-2), w, er, fl, me, p, pr, pv, W8, E8, F8, M8, P8, R8) else (g_X4_remember pv W8 E8 F8 M8 P8 R8 w er fl me p pr).bind fun o33 => (if n1 = 0 then (g_X5_copyFrom w er fl me p pr (WI 0) (EI 0) (FI 0) (MI 0) (PI 0) (RI 0)).bind fun o49 => (g_X0_tally o49.1 1).bind fun o60 => some (o60, o49.1, o49.2.1, o49.2.2.1, o49.2.2.2.1, o49.2.2.2.2.1, o49.2.2.2.2.2, o33.1, o33.2.1, o33.2.2.1, o33.2.2.2.1, o33.2.2.2.2.1, o33.2.2.2.2.2.1, o33.2.2.2.2.2.2) else (if n1 = 1 then (g_X5_copyFrom w er fl me p pr (WI 1) (EI 1) (FI 1) (MI 1) (PI 1) (RI 1)).bind fun o49 => (g_X0_tally o49.1 1).bind fun o60 => some (o60, o49.1, o49.2.1, o49.2.2.1, o49.2.2.2.1, o49.2.2.2.2.1, o49.2.2.2.2.2, o33.1, o33.2.1, o33.2.2.1, o33.2.2.2.1, o33.2.2.2.2.1, o33.2.2.2.2.2.1, o33.2.2.2.2.2.2) else none))) else (if n1 = 1 then (if ((fi 1) 0) = 0 then some ((-2), w, er, fl, me, p, pr, pv, W8, E8, F8, M8, P8, R8) else (g_X4_remember pv W8 E8 F8 M8 P8 R8 w er fl me p pr).bind fun o33 => (if n1 = 0 then (g_X5_copyFrom w er fl me p pr (WI 0) (EI 0) (FI 0) (MI 0) (PI 0) (RI 0)).bind fun o49 => (g_X0_tally o49.1 1).bind fun o60 => some (o60, o49.1, o49.2.1, o49.2.2.1, o49.2.2.2.1, o49.2.2.2.2.1, o49.2.2.2.2.2, o33.1, o33.2.1, o33.2.2.1, o33.2.2.2.1, o33.2.2.2.2.1, o33.2.2.2.2.2.1, o33.2.2.2.2.2.2) else (if n1 = 1 then (g_X5_copyFrom w er fl me p pr (WI 1) (EI 1) (FI 1) (MI 1) (PI 1) (RI 1)).bind fun o49 => (g_X0_tally o49.1 1).bind fun o60 => some (o60, o49.1, o49.2.1, o49.2.2.1, o49.2.2.2.1, o49.2.2.2.2.1, o49.2.2.2.2.2, o33.1, o33.2.1, o33.2.2.1, o33.2.2.2.1, o33.2.2.2.2.1, o33.2.2.2.2.2.1, o33.2.2.2.2.2.2) else none))) else none)))
set_option maxHeartbeats 4000000 in
set_option maxRecDepth 100000 in
theorem c_X6_back (Z : GZ) (l : Launch) (t : Nat) (tr0 : Nat) (hj : Nat) (a : Nat → Nat) (hi : Nat) (IH : Nat → Nat) (IA : Nat → Nat → Nat) (hq : Nat) (hs : Nat) (AD : Nat → Nat → Nat) (w : Nat → Int32) (er : Nat → Int32) (fl : Nat → Int32) (me : Nat → Int32) (p : Nat → Int32) (pr : Nat → Int32) (fi : Nat → Nat → Int32) (WI : Nat → Nat → Int32) (EI : Nat → Nat → Int32) (FI : Nat → Nat → Int32) (MI : Nat → Nat → Int32) (PI : Nat → Nat → Int32) (RI : Nat → Nat → Int32) (pv : Nat → Int32) (W8 : Nat → Nat → Int32) (E8 : Nat → Nat → Int32) (F8 : Nat → Nat → Int32) (M8 : Nat → Nat → Int32) (P8 : Nat → Nat → Int32) (R8 : Nat → Nat → Int32) (n1 : Int32) (o : (Int32 × (Nat → Int32) × (Nat → Int32) × (Nat → Int32) × (Nat → Int32) × (Nat → Int32) × (Nat → Int32) × (Nat → Int32) × (Nat → Nat → Int32) × (Nat → Nat → Int32) × (Nat → Nat → Int32) × (Nat → Nat → Int32) × (Nat → Nat → Int32) × (Nat → Nat → Int32))) (hg : g_X6_back w er fl me p pr fi WI EI FI MI PI RI pv W8 E8 F8 M8 P8 R8 n1 = some o) : Con Z l yX6_back cX6_back 2 (some .int) rm_X6_back [.ref t, .int n1] (wT Z t (a 0) tr0 hj hq hi ++ (wP Z a w er fl me p pr ++ (wI Z hi IH IA fi WI EI FI MI PI RI ++ (wQ Z hq hs AD pv W8 E8 F8 M8 P8 R8)))) (some (.int o.1)) (wT Z t (a 0) tr0 hj hq hi ++ (wP Z a o.2.1 o.2.2.1 o.2.2.2.1 o.2.2.2.2.1 o.2.2.2.2.2.1 o.2.2.2.2.2.2.1 ++ (wI Z hi IH IA fi WI EI FI MI PI RI ++ (wQ Z hq hs AD o.2.2.2.2.2.2.2.1 o.2.2.2.2.2.2.2.2.1 o.2.2.2.2.2.2.2.2.2.1 o.2.2.2.2.2.2.2.2.2.2.1 o.2.2.2.2.2.2.2.2.2.2.2.1 o.2.2.2.2.2.2.2.2.2.2.2.2.1 o.2.2.2.2.2.2.2.2.2.2.2.2.2)))) := by
  refine Con.of (by decide) (Nat.le_of_ble_eq_true rfl) ?_
  intro X hE0
  have hE : ∀ z, z = o → endsX X Z (some .int) (some (.int z.1)) (wT Z t (a 0) tr0 hj hq hi ++ (wP Z a z.2.1 z.2.2.1 z.2.2.2.1 z.2.2.2.2.1 z.2.2.2.2.2.1 z.2.2.2.2.2.2.1 ++ (wI Z hi IH IA fi WI EI FI MI PI RI ++ (wQ Z hq hs AD z.2.2.2.2.2.2.2.1 z.2.2.2.2.2.2.2.2.1 z.2.2.2.2.2.2.2.2.2.1 z.2.2.2.2.2.2.2.2.2.2.1 z.2.2.2.2.2.2.2.2.2.2.2.1 z.2.2.2.2.2.2.2.2.2.2.2.2.1 z.2.2.2.2.2.2.2.2.2.2.2.2.2)))) := by
    rintro _ rfl; exact hE0
  unfold g_X6_back at hg
  show AtK X Z rm_X6_back cX6_back RX6 2 0 0 (wT Z t (a 0) tr0 hj hq hi ++ (wP Z a w er fl me p pr ++ (wI Z hi IH IA fi WI EI FI MI PI RI ++ (wQ Z hq hs AD pv W8 E8 F8 M8 P8 R8)))) 0 [(0, .ref t), (1, .int n1)] []
  refine r_aload_n dX6_back_0 0 rfl ?_
  refine r_iload_n dX6_back_1 1 rfl ?_
  obtain ⟨o2, e2, hg⟩ := ob hg
  refine r_callV (As := [.int n1]) (rest := []) (ws' := wT Z t (a 0) tr0 hj hq hi ++ (wP Z a w er fl me p pr ++ (wI Z hi IH IA fi WI EI FI MI PI RI ++ (wQ Z hq hs AD pv W8 E8 F8 M8 P8 R8)))) 0 rfl rfl rfl (fun l => c_X6_isImage Z l t (a 0) tr0 hj hq hi IH  n1 o2 e2) qw_445 mv_X6_isImage (xPk.idx [0, 7] rfl rfl rfl rfl rfl) ⟨Nat.le_of_ble_eq_true rfl, Nat.le_of_ble_eq_true rfl⟩ ⟨rfl, rfl⟩ ⟨Nat.zero_le _, Nat.zero_le _⟩ rfl (Nat.le_of_ble_eq_true rfl) rfl dX6_back_2 ?_
  refine r_if_ne (tgt := 10) dX6_back_5 (by decide) (fun h5 => ?_) (fun h5 => ?_)
  · replace hg := (if_neg h5).symm.trans hg
    refine r_aload_n dX6_back_10 0 rfl ?_
    refine gf_X6_4 (v := .ref hi) 0 rfl rfl qw_179 dX6_back_11 ?_
    refine r_iload_n dX6_back_14 1 rfl ?_
    by_cases h15_0 : n1 = 0
    · replace hg := (if_pos h15_0).symm.trans hg
      refine r_aald 7 2 rfl rfl (by rw [h15_0]; decide) (v := .ref (IH 0)) (by rw [h15_0]; rfl) dX6_back_15 ?_
      refine gfN_X1_1 (v := .int ((fi 0) 0)) 8 rfl rfl qw_169 dX6_back_16 ?_
      refine r_if_ne (tgt := 25) dX6_back_19 (by decide) (fun h19 => ?_) (fun h19 => ?_)
      · replace hg := (if_neg h19).symm.trans hg
        refine r_aload_n dX6_back_25 0 rfl ?_
        refine gf_X6_3 (v := .ref hq) 0 rfl rfl qw_178 dX6_back_26 ?_
        refine r_aload_n dX6_back_29 0 rfl ?_
        refine gf_X6_0 (v := .ref (a 0)) 0 rfl rfl qw_175 dX6_back_30 ?_
        obtain ⟨o33, e33, hg⟩ := ob hg
        refine r_callV (As := [.ref (a 0)]) (rest := []) (ws' := wT Z t (a 0) tr0 hj hq hi ++ (wP Z a w er fl me p pr ++ (wI Z hi IH IA fi WI EI FI MI PI RI ++ (wQ Z hq hs AD o33.1 o33.2.1 o33.2.2.1 o33.2.2.2.1 o33.2.2.2.2.1 o33.2.2.2.2.2.1 o33.2.2.2.2.2.2)))) 0 rfl rfl rfl (fun l => c_X4_rememberQ Z l hq hs AD a pv W8 E8 F8 M8 P8 R8 w er fl me p pr  o33 e33) qw_232 mv_X4_remember (xPk.seg2r (wT Z t (a 0) tr0 hj hq hi) (wP Z a w er fl me p pr) (wP Z a w er fl me p pr) (wI Z hi IH IA fi WI EI FI MI PI RI) (wQ Z hq hs AD pv W8 E8 F8 M8 P8 R8) (wQ Z hq hs AD o33.1 o33.2.1 o33.2.2.1 o33.2.2.2.1 o33.2.2.2.2.1 o33.2.2.2.2.2.1 o33.2.2.2.2.2.2) (([] : va_W)) (by simp only [List.append_assoc, List.append_nil, List.nil_append]) (by simp only [List.append_assoc, List.append_nil, List.nil_append]) rfl wQ_dom) ⟨Nat.le_of_ble_eq_true rfl, Nat.le_of_ble_eq_true rfl⟩ ⟨rfl, rfl⟩ ⟨Nat.zero_le _, Nat.zero_le _⟩ rfl (Nat.le_of_ble_eq_true rfl) rfl dX6_back_33 ?_
        refine r_aload_n dX6_back_36 0 rfl ?_
        refine gf_X6_0 (v := .ref (a 0)) 0 rfl rfl qw_175 dX6_back_37 ?_
        refine r_aload_n dX6_back_40 0 rfl ?_
        refine gf_X6_4 (v := .ref hi) 0 rfl rfl qw_179 dX6_back_41 ?_
        refine r_iload_n dX6_back_44 1 rfl ?_
        by_cases h45_0 : n1 = 0
        · replace hg := (if_pos h45_0).symm.trans hg
          refine r_aald 7 2 rfl rfl (by rw [h45_0]; decide) (v := .ref (IH 0)) (by rw [h45_0]; rfl) dX6_back_45 ?_
          refine gfN_X1_0 (v := .ref (IA 0 0)) 8 rfl rfl qw_167 dX6_back_46 ?_
          obtain ⟨o49, e49, hg⟩ := ob hg
          refine r_callV (As := [.ref (IA 0 0)]) (rest := []) (ws' := wT Z t (a 0) tr0 hj hq hi ++ (wP Z a o49.1 o49.2.1 o49.2.2.1 o49.2.2.2.1 o49.2.2.2.2.1 o49.2.2.2.2.2 ++ (wI Z hi IH IA fi WI EI FI MI PI RI ++ (wQ Z hq hs AD o33.1 o33.2.1 o33.2.2.1 o33.2.2.2.1 o33.2.2.2.2.1 o33.2.2.2.2.2.1 o33.2.2.2.2.2.2)))) 0 rfl rfl rfl (fun l => c_X5_copyFrom Z l a (IA 0) w er fl me p pr (WI 0) (EI 0) (FI 0) (MI 0) (PI 0) (RI 0)  o49 e49) qw_458 mv_X5_copyFrom (xPk.idx [1, 2, 3, 4, 5, 6, 10, 11, 12, 13, 14, 15] rfl rfl rfl rfl rfl) ⟨Nat.le_of_ble_eq_true rfl, Nat.le_of_ble_eq_true rfl⟩ ⟨rfl, rfl⟩ ⟨Nat.zero_le _, Nat.zero_le _⟩ rfl (Nat.le_of_ble_eq_true rfl) rfl dX6_back_49 ?_
          refine r_aload_n dX6_back_52 0 rfl ?_
          refine gf_X6_0 (v := .ref (a 0)) 0 rfl rfl qw_175 dX6_back_53 ?_
          refine gfN_X5_0 (v := .ref (a 1)) 1 rfl rfl qw_97 dX6_back_56 ?_
          refine r_iconst (v := 1) dX6_back_59 kic_1 ?_
          obtain ⟨o60, e60, hg⟩ := ob hg
          refine r_callV (As := [.int 1]) (rest := []) (ws' := wT Z t (a 0) tr0 hj hq hi ++ (wP Z a o49.1 o49.2.1 o49.2.2.1 o49.2.2.2.1 o49.2.2.2.2.1 o49.2.2.2.2.2 ++ (wI Z hi IH IA fi WI EI FI MI PI RI ++ (wQ Z hq hs AD o33.1 o33.2.1 o33.2.2.1 o33.2.2.2.1 o33.2.2.2.2.1 o33.2.2.2.2.2.1 o33.2.2.2.2.2.2)))) 0 rfl rfl rfl (fun l => c_X0_tally Z l (a 1) (a 2) (a 3) o49.1 o49.2.1 o49.2.2.1 1 o60 e60) qw_391 mv_X0_tally (xPk.idx [2, 3, 4] rfl rfl rfl rfl rfl) ⟨Nat.le_of_ble_eq_true rfl, Nat.le_of_ble_eq_true rfl⟩ ⟨rfl, rfl⟩ ⟨Nat.zero_le _, Nat.zero_le _⟩ rfl (Nat.le_of_ble_eq_true rfl) rfl dX6_back_60 ?_
          exact r_iret (hE _ (Option.some.inj hg)) dX6_back_63
        replace hg := (if_neg h45_0).symm.trans hg
        by_cases h45_1 : n1 = 1
        · replace hg := (if_pos h45_1).symm.trans hg
          refine r_aald 7 2 rfl rfl (by rw [h45_1]; decide) (v := .ref (IH 1)) (by rw [h45_1]; rfl) dX6_back_45 ?_
          refine gfN_X1_0 (v := .ref (IA 1 0)) 9 rfl rfl qw_167 dX6_back_46 ?_
          obtain ⟨o49, e49, hg⟩ := ob hg
          refine r_callV (As := [.ref (IA 1 0)]) (rest := []) (ws' := wT Z t (a 0) tr0 hj hq hi ++ (wP Z a o49.1 o49.2.1 o49.2.2.1 o49.2.2.2.1 o49.2.2.2.2.1 o49.2.2.2.2.2 ++ (wI Z hi IH IA fi WI EI FI MI PI RI ++ (wQ Z hq hs AD o33.1 o33.2.1 o33.2.2.1 o33.2.2.2.1 o33.2.2.2.2.1 o33.2.2.2.2.2.1 o33.2.2.2.2.2.2)))) 0 rfl rfl rfl (fun l => c_X5_copyFrom Z l a (IA 1) w er fl me p pr (WI 1) (EI 1) (FI 1) (MI 1) (PI 1) (RI 1)  o49 e49) qw_458 mv_X5_copyFrom (xPk.idx [1, 2, 3, 4, 5, 6, 16, 17, 18, 19, 20, 21] rfl rfl rfl rfl rfl) ⟨Nat.le_of_ble_eq_true rfl, Nat.le_of_ble_eq_true rfl⟩ ⟨rfl, rfl⟩ ⟨Nat.zero_le _, Nat.zero_le _⟩ rfl (Nat.le_of_ble_eq_true rfl) rfl dX6_back_49 ?_
          refine r_aload_n dX6_back_52 0 rfl ?_
          refine gf_X6_0 (v := .ref (a 0)) 0 rfl rfl qw_175 dX6_back_53 ?_
          refine gfN_X5_0 (v := .ref (a 1)) 1 rfl rfl qw_97 dX6_back_56 ?_
          refine r_iconst (v := 1) dX6_back_59 kic_1 ?_
          obtain ⟨o60, e60, hg⟩ := ob hg
          refine r_callV (As := [.int 1]) (rest := []) (ws' := wT Z t (a 0) tr0 hj hq hi ++ (wP Z a o49.1 o49.2.1 o49.2.2.1 o49.2.2.2.1 o49.2.2.2.2.1 o49.2.2.2.2.2 ++ (wI Z hi IH IA fi WI EI FI MI PI RI ++ (wQ Z hq hs AD o33.1 o33.2.1 o33.2.2.1 o33.2.2.2.1 o33.2.2.2.2.1 o33.2.2.2.2.2.1 o33.2.2.2.2.2.2)))) 0 rfl rfl rfl (fun l => c_X0_tally Z l (a 1) (a 2) (a 3) o49.1 o49.2.1 o49.2.2.1 1 o60 e60) qw_391 mv_X0_tally (xPk.idx [2, 3, 4] rfl rfl rfl rfl rfl) ⟨Nat.le_of_ble_eq_true rfl, Nat.le_of_ble_eq_true rfl⟩ ⟨rfl, rfl⟩ ⟨Nat.zero_le _, Nat.zero_le _⟩ rfl (Nat.le_of_ble_eq_true rfl) rfl dX6_back_60 ?_
          exact r_iret (hE _ (Option.some.inj hg)) dX6_back_63
        replace hg := (if_neg h45_1).symm.trans hg
        exact nomatch (show (none : Option _) = some o from hg)
      · replace hg := (if_pos h19).symm.trans hg
        refine r_bipush (v := (-2)) dX6_back_22 kbp_m2 ?_
        exact r_iret (hE _ (Option.some.inj hg)) dX6_back_24
    replace hg := (if_neg h15_0).symm.trans hg
    by_cases h15_1 : n1 = 1
    · replace hg := (if_pos h15_1).symm.trans hg
      refine r_aald 7 2 rfl rfl (by rw [h15_1]; decide) (v := .ref (IH 1)) (by rw [h15_1]; rfl) dX6_back_15 ?_
      refine gfN_X1_1 (v := .int ((fi 1) 0)) 9 rfl rfl qw_169 dX6_back_16 ?_
      refine r_if_ne (tgt := 25) dX6_back_19 (by decide) (fun h19 => ?_) (fun h19 => ?_)
      · replace hg := (if_neg h19).symm.trans hg
        refine r_aload_n dX6_back_25 0 rfl ?_
        refine gf_X6_3 (v := .ref hq) 0 rfl rfl qw_178 dX6_back_26 ?_
        refine r_aload_n dX6_back_29 0 rfl ?_
        refine gf_X6_0 (v := .ref (a 0)) 0 rfl rfl qw_175 dX6_back_30 ?_
        obtain ⟨o33, e33, hg⟩ := ob hg
        refine r_callV (As := [.ref (a 0)]) (rest := []) (ws' := wT Z t (a 0) tr0 hj hq hi ++ (wP Z a w er fl me p pr ++ (wI Z hi IH IA fi WI EI FI MI PI RI ++ (wQ Z hq hs AD o33.1 o33.2.1 o33.2.2.1 o33.2.2.2.1 o33.2.2.2.2.1 o33.2.2.2.2.2.1 o33.2.2.2.2.2.2)))) 0 rfl rfl rfl (fun l => c_X4_rememberQ Z l hq hs AD a pv W8 E8 F8 M8 P8 R8 w er fl me p pr  o33 e33) qw_232 mv_X4_remember (xPk.seg2r (wT Z t (a 0) tr0 hj hq hi) (wP Z a w er fl me p pr) (wP Z a w er fl me p pr) (wI Z hi IH IA fi WI EI FI MI PI RI) (wQ Z hq hs AD pv W8 E8 F8 M8 P8 R8) (wQ Z hq hs AD o33.1 o33.2.1 o33.2.2.1 o33.2.2.2.1 o33.2.2.2.2.1 o33.2.2.2.2.2.1 o33.2.2.2.2.2.2) (([] : va_W)) (by simp only [List.append_assoc, List.append_nil, List.nil_append]) (by simp only [List.append_assoc, List.append_nil, List.nil_append]) rfl wQ_dom) ⟨Nat.le_of_ble_eq_true rfl, Nat.le_of_ble_eq_true rfl⟩ ⟨rfl, rfl⟩ ⟨Nat.zero_le _, Nat.zero_le _⟩ rfl (Nat.le_of_ble_eq_true rfl) rfl dX6_back_33 ?_
        refine r_aload_n dX6_back_36 0 rfl ?_
        refine gf_X6_0 (v := .ref (a 0)) 0 rfl rfl qw_175 dX6_back_37 ?_
        refine r_aload_n dX6_back_40 0 rfl ?_
        refine gf_X6_4 (v := .ref hi) 0 rfl rfl qw_179 dX6_back_41 ?_
        refine r_iload_n dX6_back_44 1 rfl ?_
        by_cases h45_0 : n1 = 0
        · replace hg := (if_pos h45_0).symm.trans hg
          refine r_aald 7 2 rfl rfl (by rw [h45_0]; decide) (v := .ref (IH 0)) (by rw [h45_0]; rfl) dX6_back_45 ?_
          refine gfN_X1_0 (v := .ref (IA 0 0)) 8 rfl rfl qw_167 dX6_back_46 ?_
          obtain ⟨o49, e49, hg⟩ := ob hg
          refine r_callV (As := [.ref (IA 0 0)]) (rest := []) (ws' := wT Z t (a 0) tr0 hj hq hi ++ (wP Z a o49.1 o49.2.1 o49.2.2.1 o49.2.2.2.1 o49.2.2.2.2.1 o49.2.2.2.2.2 ++ (wI Z hi IH IA fi WI EI FI MI PI RI ++ (wQ Z hq hs AD o33.1 o33.2.1 o33.2.2.1 o33.2.2.2.1 o33.2.2.2.2.1 o33.2.2.2.2.2.1 o33.2.2.2.2.2.2)))) 0 rfl rfl rfl (fun l => c_X5_copyFrom Z l a (IA 0) w er fl me p pr (WI 0) (EI 0) (FI 0) (MI 0) (PI 0) (RI 0)  o49 e49) qw_458 mv_X5_copyFrom (xPk.idx [1, 2, 3, 4, 5, 6, 10, 11, 12, 13, 14, 15] rfl rfl rfl rfl rfl) ⟨Nat.le_of_ble_eq_true rfl, Nat.le_of_ble_eq_true rfl⟩ ⟨rfl, rfl⟩ ⟨Nat.zero_le _, Nat.zero_le _⟩ rfl (Nat.le_of_ble_eq_true rfl) rfl dX6_back_49 ?_
          refine r_aload_n dX6_back_52 0 rfl ?_
          refine gf_X6_0 (v := .ref (a 0)) 0 rfl rfl qw_175 dX6_back_53 ?_
          refine gfN_X5_0 (v := .ref (a 1)) 1 rfl rfl qw_97 dX6_back_56 ?_
          refine r_iconst (v := 1) dX6_back_59 kic_1 ?_
          obtain ⟨o60, e60, hg⟩ := ob hg
          refine r_callV (As := [.int 1]) (rest := []) (ws' := wT Z t (a 0) tr0 hj hq hi ++ (wP Z a o49.1 o49.2.1 o49.2.2.1 o49.2.2.2.1 o49.2.2.2.2.1 o49.2.2.2.2.2 ++ (wI Z hi IH IA fi WI EI FI MI PI RI ++ (wQ Z hq hs AD o33.1 o33.2.1 o33.2.2.1 o33.2.2.2.1 o33.2.2.2.2.1 o33.2.2.2.2.2.1 o33.2.2.2.2.2.2)))) 0 rfl rfl rfl (fun l => c_X0_tally Z l (a 1) (a 2) (a 3) o49.1 o49.2.1 o49.2.2.1 1 o60 e60) qw_391 mv_X0_tally (xPk.idx [2, 3, 4] rfl rfl rfl rfl rfl) ⟨Nat.le_of_ble_eq_true rfl, Nat.le_of_ble_eq_true rfl⟩ ⟨rfl, rfl⟩ ⟨Nat.zero_le _, Nat.zero_le _⟩ rfl (Nat.le_of_ble_eq_true rfl) rfl dX6_back_60 ?_
          exact r_iret (hE _ (Option.some.inj hg)) dX6_back_63
        replace hg := (if_neg h45_0).symm.trans hg
        by_cases h45_1 : n1 = 1
        · replace hg := (if_pos h45_1).symm.trans hg
          refine r_aald 7 2 rfl rfl (by rw [h45_1]; decide) (v := .ref (IH 1)) (by rw [h45_1]; rfl) dX6_back_45 ?_
          refine gfN_X1_0 (v := .ref (IA 1 0)) 9 rfl rfl qw_167 dX6_back_46 ?_
          obtain ⟨o49, e49, hg⟩ := ob hg
          refine r_callV (As := [.ref (IA 1 0)]) (rest := []) (ws' := wT Z t (a 0) tr0 hj hq hi ++ (wP Z a o49.1 o49.2.1 o49.2.2.1 o49.2.2.2.1 o49.2.2.2.2.1 o49.2.2.2.2.2 ++ (wI Z hi IH IA fi WI EI FI MI PI RI ++ (wQ Z hq hs AD o33.1 o33.2.1 o33.2.2.1 o33.2.2.2.1 o33.2.2.2.2.1 o33.2.2.2.2.2.1 o33.2.2.2.2.2.2)))) 0 rfl rfl rfl (fun l => c_X5_copyFrom Z l a (IA 1) w er fl me p pr (WI 1) (EI 1) (FI 1) (MI 1) (PI 1) (RI 1)  o49 e49) qw_458 mv_X5_copyFrom (xPk.idx [1, 2, 3, 4, 5, 6, 16, 17, 18, 19, 20, 21] rfl rfl rfl rfl rfl) ⟨Nat.le_of_ble_eq_true rfl, Nat.le_of_ble_eq_true rfl⟩ ⟨rfl, rfl⟩ ⟨Nat.zero_le _, Nat.zero_le _⟩ rfl (Nat.le_of_ble_eq_true rfl) rfl dX6_back_49 ?_
          refine r_aload_n dX6_back_52 0 rfl ?_
          refine gf_X6_0 (v := .ref (a 0)) 0 rfl rfl qw_175 dX6_back_53 ?_
          refine gfN_X5_0 (v := .ref (a 1)) 1 rfl rfl qw_97 dX6_back_56 ?_
          refine r_iconst (v := 1) dX6_back_59 kic_1 ?_
          obtain ⟨o60, e60, hg⟩ := ob hg
          refine r_callV (As := [.int 1]) (rest := []) (ws' := wT Z t (a 0) tr0 hj hq hi ++ (wP Z a o49.1 o49.2.1 o49.2.2.1 o49.2.2.2.1 o49.2.2.2.2.1 o49.2.2.2.2.2 ++ (wI Z hi IH IA fi WI EI FI MI PI RI ++ (wQ Z hq hs AD o33.1 o33.2.1 o33.2.2.1 o33.2.2.2.1 o33.2.2.2.2.1 o33.2.2.2.2.2.1 o33.2.2.2.2.2.2)))) 0 rfl rfl rfl (fun l => c_X0_tally Z l (a 1) (a 2) (a 3) o49.1 o49.2.1 o49.2.2.1 1 o60 e60) qw_391 mv_X0_tally (xPk.idx [2, 3, 4] rfl rfl rfl rfl rfl) ⟨Nat.le_of_ble_eq_true rfl, Nat.le_of_ble_eq_true rfl⟩ ⟨rfl, rfl⟩ ⟨Nat.zero_le _, Nat.zero_le _⟩ rfl (Nat.le_of_ble_eq_true rfl) rfl dX6_back_60 ?_
          exact r_iret (hE _ (Option.some.inj hg)) dX6_back_63
        replace hg := (if_neg h45_1).symm.trans hg
        exact nomatch (show (none : Option _) = some o from hg)
      · replace hg := (if_pos h19).symm.trans hg
        refine r_bipush (v := (-2)) dX6_back_22 kbp_m2 ?_
        exact r_iret (hE _ (Option.some.inj hg)) dX6_back_24
    replace hg := (if_neg h15_1).symm.trans hg
    exact nomatch (show (none : Option _) = some o from hg)
  · replace hg := (if_pos h5).symm.trans hg
    refine r_iconst (v := (-1)) dX6_back_8 kic_m1 ?_
    exact r_iret (hE _ (Option.some.inj hg)) dX6_back_9

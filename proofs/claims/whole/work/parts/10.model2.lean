-- TicketJournalModel.countIn(II)I
abbrev rm_X7_countIn : Room := { frames := 5, cells := 0, slots := 0, locals := 113 }
def g_X7_countIn_92 (m : Nat → Int32)  (x3 : Int32) : Option (Int32) :=
  some (x3)
def g_X7_countIn_84 (m : Nat → Int32) (k5 : Int32 → Int32 → Int32 → Int32 → Option (Int32)) (x1 : Int32) (x2 : Int32) (x4 : Int32) (t0 : Int32) (t1 : Int32) : Option (Int32) :=
  k5 x1 x2 (t0 + t1) (x4 + 1)
def g_X7_countIn_71 (m : Nat → Int32) (k5 : Int32 → Int32 → Int32 → Int32 → Option (Int32)) (x1 : Int32) (x2 : Int32) (x3 : Int32) (x4 : Int32) (t0 : Int32) : Option (Int32) :=
  (if t0 = 0 then g_X7_countIn_84 m k5 x1 x2 x4 x3 0 else g_X7_countIn_84 m k5 x1 x2 x4 x3 1)
def g_X7_countIn_70 (m : Nat → Int32) (k5 : Int32 → Int32 → Int32 → Int32 → Option (Int32)) (x1 : Int32) (x2 : Int32) (x3 : Int32) (x4 : Int32) : Option (Int32) :=
  g_X7_countIn_71 m k5 x1 x2 x3 x4 0
def g_X7_countIn_66 (m : Nat → Int32) (k5 : Int32 → Int32 → Int32 → Int32 → Option (Int32)) (x1 : Int32) (x2 : Int32) (x3 : Int32) (x4 : Int32) : Option (Int32) :=
  g_X7_countIn_71 m k5 x1 x2 x3 x4 1
def g_X7_countIn_5 (m : Nat → Int32)  : Nat → Int32 → Int32 → Int32 → Int32 → Option (Int32)
  | 0 => fun _ _ _ _ => none
  | n + 1 => fun x1 x2 x3 x4 => (if 4 ≤ x4 then g_X7_countIn_92 m x3 else (g_X7_isWhole m x1).bind fun o13 => (if o13 = 0 then g_X7_countIn_92 m x3 else (if x2 = (-2) then (g_X7_isTorn m x1 x4).bind fun o29 => g_X7_countIn_71 m (g_X7_countIn_5 m n) x1 x2 x3 x4 o29 else (g_X7_isRecord m x1 x4).bind fun o39 => (if o39 = 0 then g_X7_countIn_70 m (g_X7_countIn_5 m n) x1 x2 x3 x4 else (if x2 = (-1) then g_X7_countIn_66 m (g_X7_countIn_5 m n) x1 x2 x3 x4 else (g_X7_inPlace m x1 x4 0).bind fun o55 => (if (o55 / 10000) = x2 then g_X7_countIn_66 m (g_X7_countIn_5 m n) x1 x2 x3 x4 else g_X7_countIn_70 m (g_X7_countIn_5 m n) x1 x2 x3 x4))))))
def g_X7_countIn (m : Nat → Int32) (n1 : Int32) (n2 : Int32) : Option (Int32) :=
  g_X7_countIn_5 m 8 n1 n2 0 0
set_option maxHeartbeats 4000000 in
set_option maxRecDepth 100000 in
theorem c_X7_countIn (Z : GZ) (l : Launch) (a : Nat → Nat) (m : Nat → Int32) (ps : Nat → Int32) (im : Nat → Int32) (ik : Nat → Int32) (asd : Nat → Int32) (rb : Nat → Int32) (rp : Nat → Int32) (mv : Nat → Int32) (n1 : Int32) (n2 : Int32) (o : (Int32)) (hg : g_X7_countIn m n1 n2 = some o) : Con Z l yX7_countIn cX7_countIn 6 (some .int) rm_X7_countIn [.ref (a 0), .int n1, .int n2] (wX Z a m ps im ik asd rb rp mv) (some (.int o)) (wX Z a m ps im ik asd rb rp mv) := by
  refine Con.of (by decide) (Nat.le_of_ble_eq_true rfl) ?_
  intro X hE0
  have hE : ∀ z, z = o → endsX X Z (some .int) (some (.int z)) (wX Z a m ps im ik asd rb rp mv) := by
    rintro _ rfl; exact hE0
  have J92 : ∀ (x3 : Int32), g_X7_countIn_92 m x3 = some o → AtK X Z rm_X7_countIn cX7_countIn RX7 6 0 0 (wX Z a m ps im ik asd rb rp mv) 92 [(3, .int x3)] [] := by
    intro x3 hg
    unfold g_X7_countIn_92 at hg
    refine r_iload_n dX7_countIn_92 0 rfl ?_
    exact r_iret (hE _ (Option.some.inj hg)) dX7_countIn_93
  have J84 : ∀ (k5 : Int32 → Int32 → Int32 → Int32 → Option (Int32)) (hk5 : ∀ (x1 : Int32) (x2 : Int32) (x3 : Int32) (x4 : Int32), k5 x1 x2 x3 x4 = some o → AtK X Z rm_X7_countIn cX7_countIn RX7 6 0 0 (wX Z a m ps im ik asd rb rp mv) 5 [(0, .ref (a 0)), (1, .int x1), (2, .int x2), (3, .int x3), (4, .int x4)] []), ∀ (x1 : Int32) (x2 : Int32) (x4 : Int32) (t0 : Int32) (t1 : Int32), g_X7_countIn_84 m k5 x1 x2 x4 t0 t1 = some o → AtK X Z rm_X7_countIn cX7_countIn RX7 6 0 0 (wX Z a m ps im ik asd rb rp mv) 84 [(0, .ref (a 0)), (1, .int x1), (2, .int x2), (4, .int x4)] [.int t1, .int t0] := by
    intro k5 hk5 x1 x2 x4 t0 t1 hg
    unfold g_X7_countIn_84 at hg
    refine r_iadd dX7_countIn_84 ?_
    refine r_istore_n (lv' := [(3, .int (t0 + t1)), (0, .ref (a 0)), (1, .int x1), (2, .int x2), (4, .int x4)]) dX7_countIn_85 (by decide) rfl ?_
    refine r_iinc (v := (x4 + 1)) (lv' := [(4, .int (x4 + 1)), (3, .int (t0 + t1)), (0, .ref (a 0)), (1, .int x1), (2, .int x2)]) dX7_countIn_86 (k := 4) rfl rfl (by decide) rfl ?_
    refine r_goto (tgt := 5) dX7_countIn_89 (by decide) ?_
    exact r_sub [2, 3, 4, 1, 0] rfl (hk5 x1 x2 (t0 + t1) (x4 + 1) hg)
  have J71 : ∀ (k5 : Int32 → Int32 → Int32 → Int32 → Option (Int32)) (hk5 : ∀ (x1 : Int32) (x2 : Int32) (x3 : Int32) (x4 : Int32), k5 x1 x2 x3 x4 = some o → AtK X Z rm_X7_countIn cX7_countIn RX7 6 0 0 (wX Z a m ps im ik asd rb rp mv) 5 [(0, .ref (a 0)), (1, .int x1), (2, .int x2), (3, .int x3), (4, .int x4)] []), ∀ (x1 : Int32) (x2 : Int32) (x3 : Int32) (x4 : Int32) (t0 : Int32), g_X7_countIn_71 m k5 x1 x2 x3 x4 t0 = some o → AtK X Z rm_X7_countIn cX7_countIn RX7 6 0 0 (wX Z a m ps im ik asd rb rp mv) 71 [(0, .ref (a 0)), (1, .int x1), (2, .int x2), (3, .int x3), (4, .int x4)] [.int t0] := by
    intro k5 hk5 x1 x2 x3 x4 t0 hg
    unfold g_X7_countIn_71 at hg
    refine r_istore (lv' := [(5, .int t0), (0, .ref (a 0)), (1, .int x1), (2, .int x2), (3, .int x3), (4, .int x4)]) dX7_countIn_71 (by decide) rfl ?_
    refine r_iload_n dX7_countIn_73 4 rfl ?_
    refine r_iload dX7_countIn_74 0 rfl ?_
    refine r_if_eq (tgt := 83) dX7_countIn_76 (by decide) (fun h76 => ?_) (fun h76 => ?_)
    · replace hg := (if_pos h76).symm.trans hg
      refine r_iconst (v := 0) dX7_countIn_83 kic_0 ?_
      exact r_sub [1, 2, 3, 5] rfl (J84 k5 hk5 x1 x2 x4 x3 0 hg)
    · replace hg := (if_neg h76).symm.trans hg
      refine r_iconst (v := 1) dX7_countIn_79 kic_1 ?_
      refine r_goto (tgt := 84) dX7_countIn_80 (by decide) ?_
      exact r_sub [1, 2, 3, 5] rfl (J84 k5 hk5 x1 x2 x4 x3 1 hg)
  have J70 : ∀ (k5 : Int32 → Int32 → Int32 → Int32 → Option (Int32)) (hk5 : ∀ (x1 : Int32) (x2 : Int32) (x3 : Int32) (x4 : Int32), k5 x1 x2 x3 x4 = some o → AtK X Z rm_X7_countIn cX7_countIn RX7 6 0 0 (wX Z a m ps im ik asd rb rp mv) 5 [(0, .ref (a 0)), (1, .int x1), (2, .int x2), (3, .int x3), (4, .int x4)] []), ∀ (x1 : Int32) (x2 : Int32) (x3 : Int32) (x4 : Int32), g_X7_countIn_70 m k5 x1 x2 x3 x4 = some o → AtK X Z rm_X7_countIn cX7_countIn RX7 6 0 0 (wX Z a m ps im ik asd rb rp mv) 70 [(0, .ref (a 0)), (1, .int x1), (2, .int x2), (3, .int x3), (4, .int x4)] [] := by
    intro k5 hk5 x1 x2 x3 x4 hg
    unfold g_X7_countIn_70 at hg
    refine r_iconst (v := 0) dX7_countIn_70 kic_0 ?_
    exact r_sub [0, 1, 2, 3, 4] rfl (J71 k5 hk5 x1 x2 x3 x4 0 hg)
  have J66 : ∀ (k5 : Int32 → Int32 → Int32 → Int32 → Option (Int32)) (hk5 : ∀ (x1 : Int32) (x2 : Int32) (x3 : Int32) (x4 : Int32), k5 x1 x2 x3 x4 = some o → AtK X Z rm_X7_countIn cX7_countIn RX7 6 0 0 (wX Z a m ps im ik asd rb rp mv) 5 [(0, .ref (a 0)), (1, .int x1), (2, .int x2), (3, .int x3), (4, .int x4)] []), ∀ (x1 : Int32) (x2 : Int32) (x3 : Int32) (x4 : Int32), g_X7_countIn_66 m k5 x1 x2 x3 x4 = some o → AtK X Z rm_X7_countIn cX7_countIn RX7 6 0 0 (wX Z a m ps im ik asd rb rp mv) 66 [(0, .ref (a 0)), (1, .int x1), (2, .int x2), (3, .int x3), (4, .int x4)] [] := by
    intro k5 hk5 x1 x2 x3 x4 hg
    unfold g_X7_countIn_66 at hg
    refine r_iconst (v := 1) dX7_countIn_66 kic_1 ?_
    refine r_goto (tgt := 71) dX7_countIn_67 (by decide) ?_
    exact r_sub [0, 1, 2, 3, 4] rfl (J71 k5 hk5 x1 x2 x3 x4 1 hg)
  have J5 : ∀ (n : Nat), ∀ (x1 : Int32) (x2 : Int32) (x3 : Int32) (x4 : Int32), g_X7_countIn_5 m n x1 x2 x3 x4 = some o → AtK X Z rm_X7_countIn cX7_countIn RX7 6 0 0 (wX Z a m ps im ik asd rb rp mv) 5 [(0, .ref (a 0)), (1, .int x1), (2, .int x2), (3, .int x3), (4, .int x4)] [] := by
    intro  n
    induction n with
    | zero => intro x1 x2 x3 x4 hg; exact nomatch (show (none : Option _) = some o from hg)
    | succ n ih =>
      intro x1 x2 x3 x4 hg
      unfold g_X7_countIn_5 at hg
      refine r_iload dX7_countIn_5 4 rfl ?_
      refine r_iconst (v := 4) dX7_countIn_7 kic_4 ?_
      refine r_icmp_ge (tgt := 92) dX7_countIn_8 (by decide) (fun h8 => ?_) (fun h8 => ?_)
      · replace hg := (if_pos h8).symm.trans hg
        exact r_sub [3] rfl (J92 x3 hg)
      · replace hg := (if_neg h8).symm.trans hg
        refine r_aload_n dX7_countIn_11 0 rfl ?_
        refine r_iload_n dX7_countIn_12 1 rfl ?_
        obtain ⟨o13, e13, hg⟩ := ob hg
        refine r_callV (As := [.int x1]) (rest := []) (ws' := wX Z a m ps im ik asd rb rp mv) 0 rfl rfl rfl (fun l => c_X7_isWhole Z l a m ps im ik asd rb rp mv x1 o13 e13) qw_731 mv_X7_isWhole (xPk.all rfl) ⟨Nat.le_of_ble_eq_true rfl, Nat.le_of_ble_eq_true rfl⟩ ⟨rfl, rfl⟩ ⟨Nat.zero_le _, Nat.zero_le _⟩ rfl (Nat.le_of_ble_eq_true rfl) rfl dX7_countIn_13 ?_
        refine r_if_eq (tgt := 92) dX7_countIn_16 (by decide) (fun h16 => ?_) (fun h16 => ?_)
        · replace hg := (if_pos h16).symm.trans hg
          exact r_sub [3] rfl (J92 x3 hg)
        · replace hg := (if_neg h16).symm.trans hg
          refine r_iload_n dX7_countIn_19 2 rfl ?_
          refine r_bipush (v := (-2)) dX7_countIn_20 kbp_m2 ?_
          refine r_icmp_ne (tgt := 35) dX7_countIn_22 (by decide) (fun h22 => ?_) (fun h22 => ?_)
          · replace hg := (if_neg h22).symm.trans hg
            refine r_aload_n dX7_countIn_35 0 rfl ?_
            refine r_iload_n dX7_countIn_36 1 rfl ?_
            refine r_iload dX7_countIn_37 4 rfl ?_
            obtain ⟨o39, e39, hg⟩ := ob hg
            refine r_callV (As := [.int x1, .int x4]) (rest := []) (ws' := wX Z a m ps im ik asd rb rp mv) 0 rfl rfl rfl (fun l => c_X7_isRecord Z l a m ps im ik asd rb rp mv x1 x4 o39 e39) qw_682 mv_X7_isRecord (xPk.all rfl) ⟨Nat.le_of_ble_eq_true rfl, Nat.le_of_ble_eq_true rfl⟩ ⟨rfl, rfl⟩ ⟨Nat.zero_le _, Nat.zero_le _⟩ rfl (Nat.le_of_ble_eq_true rfl) rfl dX7_countIn_39 ?_
            refine r_if_eq (tgt := 70) dX7_countIn_42 (by decide) (fun h42 => ?_) (fun h42 => ?_)
            · replace hg := (if_pos h42).symm.trans hg
              exact r_sub [0, 1, 2, 3, 4] rfl (J70 (g_X7_countIn_5 m n) ih x1 x2 x3 x4 hg)
            · replace hg := (if_neg h42).symm.trans hg
              refine r_iload_n dX7_countIn_45 2 rfl ?_
              refine r_iconst (v := (-1)) dX7_countIn_46 kic_m1 ?_
              refine r_icmp_eq (tgt := 66) dX7_countIn_47 (by decide) (fun h47 => ?_) (fun h47 => ?_)
              · replace hg := (if_pos h47).symm.trans hg
                exact r_sub [0, 1, 2, 3, 4] rfl (J66 (g_X7_countIn_5 m n) ih x1 x2 x3 x4 hg)
              · replace hg := (if_neg h47).symm.trans hg
                refine r_aload_n dX7_countIn_50 0 rfl ?_
                refine r_iload_n dX7_countIn_51 1 rfl ?_
                refine r_iload dX7_countIn_52 4 rfl ?_
                refine r_iconst (v := 0) dX7_countIn_54 kic_0 ?_
                obtain ⟨o55, e55, hg⟩ := ob hg
                refine r_callV (As := [.int x1, .int x4, .int 0]) (rest := []) (ws' := wX Z a m ps im ik asd rb rp mv) 0 rfl rfl rfl (fun l => c_X7_inPlace Z l a m ps im ik asd rb rp mv x1 x4 0 o55 e55) qw_690 mv_X7_inPlace (xPk.all rfl) ⟨Nat.le_of_ble_eq_true rfl, Nat.le_of_ble_eq_true rfl⟩ ⟨rfl, rfl⟩ ⟨Nat.zero_le _, Nat.zero_le _⟩ rfl (Nat.le_of_ble_eq_true rfl) rfl dX7_countIn_55 ?_
                refine r_sipush (v := 10000) dX7_countIn_58 ksp_10000 ?_
                refine r_idiv dX7_countIn_61 (by decide) ?_
                refine r_iload_n dX7_countIn_62 2 rfl ?_
                refine r_icmp_ne (tgt := 70) dX7_countIn_63 (by decide) (fun h63 => ?_) (fun h63 => ?_)
                · replace hg := (if_neg h63).symm.trans hg
                  exact r_sub [0, 1, 2, 3, 4] rfl (J70 (g_X7_countIn_5 m n) ih x1 x2 x3 x4 hg)
                · replace hg := (if_pos h63).symm.trans hg
                  exact r_sub [0, 1, 2, 3, 4] rfl (J66 (g_X7_countIn_5 m n) ih x1 x2 x3 x4 hg)
          · replace hg := (if_pos h22).symm.trans hg
            refine r_aload_n dX7_countIn_25 0 rfl ?_
            refine r_iload_n dX7_countIn_26 1 rfl ?_
            refine r_iload dX7_countIn_27 4 rfl ?_
            obtain ⟨o29, e29, hg⟩ := ob hg
            refine r_callV (As := [.int x1, .int x4]) (rest := []) (ws' := wX Z a m ps im ik asd rb rp mv) 0 rfl rfl rfl (fun l => c_X7_isTorn Z l a m ps im ik asd rb rp mv x1 x4 o29 e29) qw_735 mv_X7_isTorn (xPk.all rfl) ⟨Nat.le_of_ble_eq_true rfl, Nat.le_of_ble_eq_true rfl⟩ ⟨rfl, rfl⟩ ⟨Nat.zero_le _, Nat.zero_le _⟩ rfl (Nat.le_of_ble_eq_true rfl) rfl dX7_countIn_29 ?_
            refine r_goto (tgt := 71) dX7_countIn_32 (by decide) ?_
            exact r_sub [0, 1, 2, 3, 4] rfl (J71 (g_X7_countIn_5 m n) ih x1 x2 x3 x4 o29 hg)
  unfold g_X7_countIn at hg
  show AtK X Z rm_X7_countIn cX7_countIn RX7 6 0 0 (wX Z a m ps im ik asd rb rp mv) 0 [(0, .ref (a 0)), (1, .int n1), (2, .int n2)] []
  refine r_iconst (v := 0) dX7_countIn_0 kic_0 ?_
  refine r_istore_n (lv' := [(3, .int 0), (0, .ref (a 0)), (1, .int n1), (2, .int n2)]) dX7_countIn_1 (by decide) rfl ?_
  refine r_iconst (v := 0) dX7_countIn_2 kic_0 ?_
  refine r_istore (lv' := [(4, .int 0), (3, .int 0), (0, .ref (a 0)), (1, .int n1), (2, .int n2)]) dX7_countIn_3 (by decide) rfl ?_
  exact r_sub [2, 3, 4, 1, 0] rfl (J5 8 n1 n2 0 0 hg)

-- TicketJournalModel.count(I)I
abbrev rm_X7_count : Room := { frames := 6, cells := 0, slots := 0, locals := 138 }
def g_X7_count_4 (m : Nat → Int32)  : Nat → Int32 → Int32 → Int32 → Option (Int32)
  | 0 => fun _ _ _ => none
  | n + 1 => fun x1 x2 x3 => (if 5 ≤ x3 then some (x2) else (g_X7_countIn m x3 x1).bind fun o13 => (g_X7_count_4 m n) x1 (x2 + o13) (x3 + 1))
def g_X7_count (m : Nat → Int32) (n1 : Int32) : Option (Int32) :=
  g_X7_count_4 m 8 n1 0 0
set_option maxHeartbeats 4000000 in
set_option maxRecDepth 100000 in
theorem c_X7_count (Z : GZ) (l : Launch) (a : Nat → Nat) (m : Nat → Int32) (ps : Nat → Int32) (im : Nat → Int32) (ik : Nat → Int32) (asd : Nat → Int32) (rb : Nat → Int32) (rp : Nat → Int32) (mv : Nat → Int32) (n1 : Int32) (o : (Int32)) (hg : g_X7_count m n1 = some o) : Con Z l yX7_count cX7_count 4 (some .int) rm_X7_count [.ref (a 0), .int n1] (wX Z a m ps im ik asd rb rp mv) (some (.int o)) (wX Z a m ps im ik asd rb rp mv) := by
  refine Con.of (by decide) (Nat.le_of_ble_eq_true rfl) ?_
  intro X hE0
  have hE : ∀ z, z = o → endsX X Z (some .int) (some (.int z)) (wX Z a m ps im ik asd rb rp mv) := by
    rintro _ rfl; exact hE0
  have J4 : ∀ (n : Nat), ∀ (x1 : Int32) (x2 : Int32) (x3 : Int32), g_X7_count_4 m n x1 x2 x3 = some o → AtK X Z rm_X7_count cX7_count RX7 4 0 0 (wX Z a m ps im ik asd rb rp mv) 4 [(0, .ref (a 0)), (1, .int x1), (2, .int x2), (3, .int x3)] [] := by
    intro  n
    induction n with
    | zero => intro x1 x2 x3 hg; exact nomatch (show (none : Option _) = some o from hg)
    | succ n ih =>
      intro x1 x2 x3 hg
      unfold g_X7_count_4 at hg
      refine r_iload_n dX7_count_4 3 rfl ?_
      refine r_iconst (v := 5) dX7_count_5 kic_5 ?_
      refine r_icmp_ge (tgt := 24) dX7_count_6 (by decide) (fun h6 => ?_) (fun h6 => ?_)
      · replace hg := (if_pos h6).symm.trans hg
        refine r_iload_n dX7_count_24 2 rfl ?_
        exact r_iret (hE _ (Option.some.inj hg)) dX7_count_25
      · replace hg := (if_neg h6).symm.trans hg
        refine r_iload_n dX7_count_9 2 rfl ?_
        refine r_aload_n dX7_count_10 0 rfl ?_
        refine r_iload_n dX7_count_11 3 rfl ?_
        refine r_iload_n dX7_count_12 1 rfl ?_
        obtain ⟨o13, e13, hg⟩ := ob hg
        refine r_callV (As := [.int x3, .int x1]) (rest := [.int x2]) (ws' := wX Z a m ps im ik asd rb rp mv) 0 rfl rfl rfl (fun l => c_X7_countIn Z l a m ps im ik asd rb rp mv x3 x1 o13 e13) qw_727 mv_X7_countIn (xPk.all rfl) ⟨Nat.le_of_ble_eq_true rfl, Nat.le_of_ble_eq_true rfl⟩ ⟨rfl, rfl⟩ ⟨Nat.zero_le _, Nat.zero_le _⟩ rfl (Nat.le_of_ble_eq_true rfl) rfl dX7_count_13 ?_
        refine r_iadd dX7_count_16 ?_
        refine r_istore_n (lv' := [(2, .int (x2 + o13)), (0, .ref (a 0)), (1, .int x1), (3, .int x3)]) dX7_count_17 (by decide) rfl ?_
        refine r_iinc (v := (x3 + 1)) (lv' := [(3, .int (x3 + 1)), (2, .int (x2 + o13)), (0, .ref (a 0)), (1, .int x1)]) dX7_count_18 (k := 3) rfl rfl (by decide) rfl ?_
        refine r_goto (tgt := 4) dX7_count_21 (by decide) ?_
        exact r_sub [2, 3, 1, 0] rfl (ih x1 (x2 + o13) (x3 + 1) hg)
  unfold g_X7_count at hg
  show AtK X Z rm_X7_count cX7_count RX7 4 0 0 (wX Z a m ps im ik asd rb rp mv) 0 [(0, .ref (a 0)), (1, .int n1)] []
  refine r_iconst (v := 0) dX7_count_0 kic_0 ?_
  refine r_istore_n (lv' := [(2, .int 0), (0, .ref (a 0)), (1, .int n1)]) dX7_count_1 (by decide) rfl ?_
  refine r_iconst (v := 0) dX7_count_2 kic_0 ?_
  refine r_istore_n (lv' := [(3, .int 0), (2, .int 0), (0, .ref (a 0)), (1, .int n1)]) dX7_count_3 (by decide) rfl ?_
  exact r_sub [2, 3, 1, 0] rfl (J4 8 n1 0 0 hg)

-- TicketJournalModel.off()I
abbrev rm_X7_off : Room := { frames := 7, cells := 0, slots := 0, locals := 161 }
def g_X7_off (m : Nat → Int32) (ps : Nat → Int32) (mv : Nat → Int32)  : Option (Int32 × (Nat → Int32) × (Nat → Int32) × (Nat → Int32)) :=
  (if (m 115) = 0 then some ((-2), m, ps, mv) else (g_X7_keep m ps mv).bind fun o14 => (g_X7_count (upd m 115 0) (-1)).bind fun o27 => some (o27, (upd m 115 0), o14.1, o14.2))
set_option maxHeartbeats 4000000 in
set_option maxRecDepth 100000 in
theorem c_X7_off (Z : GZ) (l : Launch) (a : Nat → Nat) (m : Nat → Int32) (ps : Nat → Int32) (im : Nat → Int32) (ik : Nat → Int32) (asd : Nat → Int32) (rb : Nat → Int32) (rp : Nat → Int32) (mv : Nat → Int32)  (o : (Int32 × (Nat → Int32) × (Nat → Int32) × (Nat → Int32))) (hg : g_X7_off m ps mv = some o) : Con Z l yX7_off cX7_off 1 (some .int) rm_X7_off [.ref (a 0)] (wX Z a m ps im ik asd rb rp mv) (some (.int o.1)) (wX Z a o.2.1 o.2.2.1 im ik asd rb rp o.2.2.2) := by
  refine Con.of (by decide) (Nat.le_of_ble_eq_true rfl) ?_
  intro X hE0
  have hE : ∀ z, z = o → endsX X Z (some .int) (some (.int z.1)) (wX Z a z.2.1 z.2.2.1 im ik asd rb rp z.2.2.2) := by
    rintro _ rfl; exact hE0
  unfold g_X7_off at hg
  show AtK X Z rm_X7_off cX7_off RX7 1 0 0 (wX Z a m ps im ik asd rb rp mv) 0 [(0, .ref (a 0))] []
  refine r_aload_n dX7_off_0 0 rfl ?_
  refine gf_X7_0 (v := .ref (a 1)) 0 rfl rfl qw_586 dX7_off_1 ?_
  refine r_bipush (v := 115) dX7_off_4 kbp_115 ?_
  refine r_ialdL 1 rfl (j := 115) (by decide) (by decide) dX7_off_6 ?_
  refine r_if_ne (tgt := 13) dX7_off_7 (by decide) (fun h7 => ?_) (fun h7 => ?_)
  · replace hg := (if_neg h7).symm.trans hg
    refine r_aload_n dX7_off_13 0 rfl ?_
    obtain ⟨o14, e14, hg⟩ := ob hg
    refine r_callV (As := []) (rest := []) (ws' := wX Z a m o14.1 im ik asd rb rp o14.2) 0 rfl rfl rfl (fun l => c_X7_keep Z l a m ps im ik asd rb rp mv  o14 e14) qw_636 mv_X7_keep (xPk.all rfl) ⟨Nat.le_of_ble_eq_true rfl, Nat.le_of_ble_eq_true rfl⟩ ⟨rfl, rfl⟩ ⟨Nat.zero_le _, Nat.zero_le _⟩ rfl (Nat.le_of_ble_eq_true rfl) rfl dX7_off_14 ?_
    refine r_aload_n dX7_off_17 0 rfl ?_
    refine gf_X7_0 (v := .ref (a 1)) 0 rfl rfl qw_586 dX7_off_18 ?_
    refine r_bipush (v := 115) dX7_off_21 kbp_115 ?_
    refine r_iconst (v := 0) dX7_off_23 kic_0 ?_
    refine r_iast 1 rfl (j := 115) (by decide) (by decide) dX7_off_24 (ws' := wX Z a (upd m 115 0) o14.1 im ik asd rb rp o14.2) rfl ?_
    refine r_aload_n dX7_off_25 0 rfl ?_
    refine r_iconst (v := (-1)) dX7_off_26 kic_m1 ?_
    obtain ⟨o27, e27, hg⟩ := ob hg
    refine r_callV (As := [.int (-1)]) (rest := []) (ws' := wX Z a (upd m 115 0) o14.1 im ik asd rb rp o14.2) 0 rfl rfl rfl (fun l => c_X7_count Z l a (upd m 115 0) o14.1 im ik asd rb rp o14.2 (-1) o27 e27) qw_723 mv_X7_count (xPk.all rfl) ⟨Nat.le_of_ble_eq_true rfl, Nat.le_of_ble_eq_true rfl⟩ ⟨rfl, rfl⟩ ⟨Nat.zero_le _, Nat.zero_le _⟩ rfl (Nat.le_of_ble_eq_true rfl) rfl dX7_off_27 ?_
    exact r_iret (hE _ (Option.some.inj hg)) dX7_off_30
  · replace hg := (if_pos h7).symm.trans hg
    refine r_bipush (v := (-2)) dX7_off_10 kbp_m2 ?_
    exact r_iret (hE _ (Option.some.inj hg)) dX7_off_12

-- TicketJournalModel.start()I
abbrev rm_X7_start : Room := { frames := 5, cells := 0, slots := 0, locals := 113 }
def g_X7_start (m : Nat → Int32) (ps : Nat → Int32) (mv : Nat → Int32)  : Option (Int32 × (Nat → Int32) × (Nat → Int32) × (Nat → Int32)) :=
  (if (m 115) = 1 then some ((-2), m, ps, mv) else (g_X7_keep m ps mv).bind fun o15 => (g_X7_readMemory m).bind fun o19 => some ((o19 118), o19, o15.1, o15.2))
set_option maxHeartbeats 4000000 in
set_option maxRecDepth 100000 in
theorem c_X7_start (Z : GZ) (l : Launch) (a : Nat → Nat) (m : Nat → Int32) (ps : Nat → Int32) (im : Nat → Int32) (ik : Nat → Int32) (asd : Nat → Int32) (rb : Nat → Int32) (rp : Nat → Int32) (mv : Nat → Int32)  (o : (Int32 × (Nat → Int32) × (Nat → Int32) × (Nat → Int32))) (hg : g_X7_start m ps mv = some o) : Con Z l yX7_start cX7_start 1 (some .int) rm_X7_start [.ref (a 0)] (wX Z a m ps im ik asd rb rp mv) (some (.int o.1)) (wX Z a o.2.1 o.2.2.1 im ik asd rb rp o.2.2.2) := by
  refine Con.of (by decide) (Nat.le_of_ble_eq_true rfl) ?_
  intro X hE0
  have hE : ∀ z, z = o → endsX X Z (some .int) (some (.int z.1)) (wX Z a z.2.1 z.2.2.1 im ik asd rb rp z.2.2.2) := by
    rintro _ rfl; exact hE0
  unfold g_X7_start at hg
  show AtK X Z rm_X7_start cX7_start RX7 1 0 0 (wX Z a m ps im ik asd rb rp mv) 0 [(0, .ref (a 0))] []
  refine r_aload_n dX7_start_0 0 rfl ?_
  refine gf_X7_0 (v := .ref (a 1)) 0 rfl rfl qw_586 dX7_start_1 ?_
  refine r_bipush (v := 115) dX7_start_4 kbp_115 ?_
  refine r_ialdL 1 rfl (j := 115) (by decide) (by decide) dX7_start_6 ?_
  refine r_iconst (v := 1) dX7_start_7 kic_1 ?_
  refine r_icmp_ne (tgt := 14) dX7_start_8 (by decide) (fun h8 => ?_) (fun h8 => ?_)
  · replace hg := (if_neg h8).symm.trans hg
    refine r_aload_n dX7_start_14 0 rfl ?_
    obtain ⟨o15, e15, hg⟩ := ob hg
    refine r_callV (As := []) (rest := []) (ws' := wX Z a m o15.1 im ik asd rb rp o15.2) 0 rfl rfl rfl (fun l => c_X7_keep Z l a m ps im ik asd rb rp mv  o15 e15) qw_636 mv_X7_keep (xPk.all rfl) ⟨Nat.le_of_ble_eq_true rfl, Nat.le_of_ble_eq_true rfl⟩ ⟨rfl, rfl⟩ ⟨Nat.zero_le _, Nat.zero_le _⟩ rfl (Nat.le_of_ble_eq_true rfl) rfl dX7_start_15 ?_
    refine r_aload_n dX7_start_18 0 rfl ?_
    obtain ⟨o19, e19, hg⟩ := ob hg
    refine r_callV (As := []) (rest := []) (ws' := wX Z a o19 o15.1 im ik asd rb rp o15.2) 0 rfl rfl rfl (fun l => c_X7_readMemory Z l a m o15.1 im ik asd rb rp o15.2  o19 e19) qw_743 mv_X7_readMemory (xPk.all rfl) ⟨Nat.le_of_ble_eq_true rfl, Nat.le_of_ble_eq_true rfl⟩ ⟨rfl, rfl⟩ ⟨Nat.zero_le _, Nat.zero_le _⟩ rfl (Nat.le_of_ble_eq_true rfl) rfl dX7_start_19 ?_
    refine r_aload_n dX7_start_22 0 rfl ?_
    refine gf_X7_0 (v := .ref (a 1)) 0 rfl rfl qw_586 dX7_start_23 ?_
    refine r_bipush (v := 118) dX7_start_26 kbp_118 ?_
    refine r_ialdL 1 rfl (j := 118) (by decide) (by decide) dX7_start_28 ?_
    exact r_iret (hE _ (Option.some.inj hg)) dX7_start_29
  · replace hg := (if_pos h8).symm.trans hg
    refine r_bipush (v := (-2)) dX7_start_11 kbp_m2 ?_
    exact r_iret (hE _ (Option.some.inj hg)) dX7_start_13

-- TicketJournalModel.told(I)I
abbrev rm_X7_told : Room := { frames := 1, cells := 0, slots := 0, locals := 22 }
def g_X7_told_35 (m : Nat → Int32) (mv : Nat → Int32)  (x1 : Int32) : Option (Int32) :=
  (if x1 = 0 then some ((m 115)) else (if x1 = 1 then some ((m 122)) else (if x1 = 2 then some ((m 118)) else (if x1 = 3 then some ((m 119)) else (if x1 = 4 then some ((m 120)) else (if x1 = 5 then some ((m 121)) else (if x1 = 6 then some ((m 116)) else (if x1 = 7 then some ((m 117)) else (if x1 = 8 then some ((m 123)) else (if x1 = 9 then some ((m 124)) else (if x1 = 10 then some ((m 125)) else (if x1 = 11 then some ((m 126)) else some ((mv 0))))))))))))))
def g_X7_told (m : Nat → Int32) (mv : Nat → Int32) (n1 : Int32) : Option (Int32) :=
  (g_X7_isIn n1 0 12).bind fun o4 => (if o4 = 0 then some ((-1)) else (g_X7_isIn n1 2 7).bind fun o16 => (if o16 = 0 then g_X7_told_35 m mv n1 else (if (m 115) = 0 then some ((-9)) else g_X7_told_35 m mv n1)))
set_option maxHeartbeats 4000000 in
set_option maxRecDepth 100000 in
theorem c_X7_told (Z : GZ) (l : Launch) (a : Nat → Nat) (m : Nat → Int32) (ps : Nat → Int32) (im : Nat → Int32) (ik : Nat → Int32) (asd : Nat → Int32) (rb : Nat → Int32) (rp : Nat → Int32) (mv : Nat → Int32) (n1 : Int32) (o : (Int32)) (hg : g_X7_told m mv n1 = some o) : Con Z l yX7_told cX7_told 2 (some .int) rm_X7_told [.ref (a 0), .int n1] (wX Z a m ps im ik asd rb rp mv) (some (.int o)) (wX Z a m ps im ik asd rb rp mv) := by
  refine Con.of (by decide) (Nat.le_of_ble_eq_true rfl) ?_
  intro X hE0
  have hE : ∀ z, z = o → endsX X Z (some .int) (some (.int z)) (wX Z a m ps im ik asd rb rp mv) := by
    rintro _ rfl; exact hE0
  have J35 : ∀ (x1 : Int32), g_X7_told_35 m mv x1 = some o → AtK X Z rm_X7_told cX7_told RX7 2 0 0 (wX Z a m ps im ik asd rb rp mv) 35 [(0, .ref (a 0)), (1, .int x1)] [] := by
    intro x1 hg
    unfold g_X7_told_35 at hg
    refine r_iload_n dX7_told_35 1 rfl ?_
    by_cases h36_0 : x1 = 0
    · replace hg := (if_pos h36_0).symm.trans hg
      refine r_tableIn (tgt := 100) (off := 64) dX7_told_36 (by rw [h36_0]; decide) (by rw [h36_0]; decide) (by rw [h36_0]; decide) (by decide) ?_
      refine r_aload_n dX7_told_100 0 rfl ?_
      refine gf_X7_0 (v := .ref (a 1)) 0 rfl rfl qw_586 dX7_told_101 ?_
      refine r_bipush (v := 115) dX7_told_104 kbp_115 ?_
      refine r_ialdL 1 rfl (j := 115) (by decide) (by decide) dX7_told_106 ?_
      exact r_iret (hE _ (Option.some.inj hg)) dX7_told_107
    replace hg := (if_neg h36_0).symm.trans hg
    by_cases h36_1 : x1 = 1
    · replace hg := (if_pos h36_1).symm.trans hg
      refine r_tableIn (tgt := 108) (off := 72) dX7_told_36 (by rw [h36_1]; decide) (by rw [h36_1]; decide) (by rw [h36_1]; decide) (by decide) ?_
      refine r_aload_n dX7_told_108 0 rfl ?_
      refine gf_X7_0 (v := .ref (a 1)) 0 rfl rfl qw_586 dX7_told_109 ?_
      refine r_bipush (v := 122) dX7_told_112 kbp_122 ?_
      refine r_ialdL 1 rfl (j := 122) (by decide) (by decide) dX7_told_114 ?_
      exact r_iret (hE _ (Option.some.inj hg)) dX7_told_115
    replace hg := (if_neg h36_1).symm.trans hg
    by_cases h36_2 : x1 = 2
    · replace hg := (if_pos h36_2).symm.trans hg
      refine r_tableIn (tgt := 116) (off := 80) dX7_told_36 (by rw [h36_2]; decide) (by rw [h36_2]; decide) (by rw [h36_2]; decide) (by decide) ?_
      refine r_aload_n dX7_told_116 0 rfl ?_
      refine gf_X7_0 (v := .ref (a 1)) 0 rfl rfl qw_586 dX7_told_117 ?_
      refine r_bipush (v := 118) dX7_told_120 kbp_118 ?_
      refine r_ialdL 1 rfl (j := 118) (by decide) (by decide) dX7_told_122 ?_
      exact r_iret (hE _ (Option.some.inj hg)) dX7_told_123
    replace hg := (if_neg h36_2).symm.trans hg
    by_cases h36_3 : x1 = 3
    · replace hg := (if_pos h36_3).symm.trans hg
      refine r_tableIn (tgt := 124) (off := 88) dX7_told_36 (by rw [h36_3]; decide) (by rw [h36_3]; decide) (by rw [h36_3]; decide) (by decide) ?_
      refine r_aload_n dX7_told_124 0 rfl ?_
      refine gf_X7_0 (v := .ref (a 1)) 0 rfl rfl qw_586 dX7_told_125 ?_
      refine r_bipush (v := 119) dX7_told_128 kbp_119 ?_
      refine r_ialdL 1 rfl (j := 119) (by decide) (by decide) dX7_told_130 ?_
      exact r_iret (hE _ (Option.some.inj hg)) dX7_told_131
    replace hg := (if_neg h36_3).symm.trans hg
    by_cases h36_4 : x1 = 4
    · replace hg := (if_pos h36_4).symm.trans hg
      refine r_tableIn (tgt := 132) (off := 96) dX7_told_36 (by rw [h36_4]; decide) (by rw [h36_4]; decide) (by rw [h36_4]; decide) (by decide) ?_
      refine r_aload_n dX7_told_132 0 rfl ?_
      refine gf_X7_0 (v := .ref (a 1)) 0 rfl rfl qw_586 dX7_told_133 ?_
      refine r_bipush (v := 120) dX7_told_136 kbp_120 ?_
      refine r_ialdL 1 rfl (j := 120) (by decide) (by decide) dX7_told_138 ?_
      exact r_iret (hE _ (Option.some.inj hg)) dX7_told_139
    replace hg := (if_neg h36_4).symm.trans hg
    by_cases h36_5 : x1 = 5
    · replace hg := (if_pos h36_5).symm.trans hg
      refine r_tableIn (tgt := 140) (off := 104) dX7_told_36 (by rw [h36_5]; decide) (by rw [h36_5]; decide) (by rw [h36_5]; decide) (by decide) ?_
      refine r_aload_n dX7_told_140 0 rfl ?_
      refine gf_X7_0 (v := .ref (a 1)) 0 rfl rfl qw_586 dX7_told_141 ?_
      refine r_bipush (v := 121) dX7_told_144 kbp_121 ?_
      refine r_ialdL 1 rfl (j := 121) (by decide) (by decide) dX7_told_146 ?_
      exact r_iret (hE _ (Option.some.inj hg)) dX7_told_147
    replace hg := (if_neg h36_5).symm.trans hg
    by_cases h36_6 : x1 = 6
    · replace hg := (if_pos h36_6).symm.trans hg
      refine r_tableIn (tgt := 148) (off := 112) dX7_told_36 (by rw [h36_6]; decide) (by rw [h36_6]; decide) (by rw [h36_6]; decide) (by decide) ?_
      refine r_aload_n dX7_told_148 0 rfl ?_
      refine gf_X7_0 (v := .ref (a 1)) 0 rfl rfl qw_586 dX7_told_149 ?_
      refine r_bipush (v := 116) dX7_told_152 kbp_116 ?_
      refine r_ialdL 1 rfl (j := 116) (by decide) (by decide) dX7_told_154 ?_
      exact r_iret (hE _ (Option.some.inj hg)) dX7_told_155
    replace hg := (if_neg h36_6).symm.trans hg
    by_cases h36_7 : x1 = 7
    · replace hg := (if_pos h36_7).symm.trans hg
      refine r_tableIn (tgt := 156) (off := 120) dX7_told_36 (by rw [h36_7]; decide) (by rw [h36_7]; decide) (by rw [h36_7]; decide) (by decide) ?_
      refine r_aload_n dX7_told_156 0 rfl ?_
      refine gf_X7_0 (v := .ref (a 1)) 0 rfl rfl qw_586 dX7_told_157 ?_
      refine r_bipush (v := 117) dX7_told_160 kbp_117 ?_
      refine r_ialdL 1 rfl (j := 117) (by decide) (by decide) dX7_told_162 ?_
      exact r_iret (hE _ (Option.some.inj hg)) dX7_told_163
    replace hg := (if_neg h36_7).symm.trans hg
    by_cases h36_8 : x1 = 8
    · replace hg := (if_pos h36_8).symm.trans hg
      refine r_tableIn (tgt := 164) (off := 128) dX7_told_36 (by rw [h36_8]; decide) (by rw [h36_8]; decide) (by rw [h36_8]; decide) (by decide) ?_
      refine r_aload_n dX7_told_164 0 rfl ?_
      refine gf_X7_0 (v := .ref (a 1)) 0 rfl rfl qw_586 dX7_told_165 ?_
      refine r_bipush (v := 123) dX7_told_168 kbp_123 ?_
      refine r_ialdL 1 rfl (j := 123) (by decide) (by decide) dX7_told_170 ?_
      exact r_iret (hE _ (Option.some.inj hg)) dX7_told_171
    replace hg := (if_neg h36_8).symm.trans hg
    by_cases h36_9 : x1 = 9
    · replace hg := (if_pos h36_9).symm.trans hg
      refine r_tableIn (tgt := 172) (off := 136) dX7_told_36 (by rw [h36_9]; decide) (by rw [h36_9]; decide) (by rw [h36_9]; decide) (by decide) ?_
      refine r_aload_n dX7_told_172 0 rfl ?_
      refine gf_X7_0 (v := .ref (a 1)) 0 rfl rfl qw_586 dX7_told_173 ?_
      refine r_bipush (v := 124) dX7_told_176 kbp_124 ?_
      refine r_ialdL 1 rfl (j := 124) (by decide) (by decide) dX7_told_178 ?_
      exact r_iret (hE _ (Option.some.inj hg)) dX7_told_179
    replace hg := (if_neg h36_9).symm.trans hg
    by_cases h36_10 : x1 = 10
    · replace hg := (if_pos h36_10).symm.trans hg
      refine r_tableIn (tgt := 180) (off := 144) dX7_told_36 (by rw [h36_10]; decide) (by rw [h36_10]; decide) (by rw [h36_10]; decide) (by decide) ?_
      refine r_aload_n dX7_told_180 0 rfl ?_
      refine gf_X7_0 (v := .ref (a 1)) 0 rfl rfl qw_586 dX7_told_181 ?_
      refine r_bipush (v := 125) dX7_told_184 kbp_125 ?_
      refine r_ialdL 1 rfl (j := 125) (by decide) (by decide) dX7_told_186 ?_
      exact r_iret (hE _ (Option.some.inj hg)) dX7_told_187
    replace hg := (if_neg h36_10).symm.trans hg
    by_cases h36_11 : x1 = 11
    · replace hg := (if_pos h36_11).symm.trans hg
      refine r_tableIn (tgt := 188) (off := 152) dX7_told_36 (by rw [h36_11]; decide) (by rw [h36_11]; decide) (by rw [h36_11]; decide) (by decide) ?_
      refine r_aload_n dX7_told_188 0 rfl ?_
      refine gf_X7_0 (v := .ref (a 1)) 0 rfl rfl qw_586 dX7_told_189 ?_
      refine r_bipush (v := 126) dX7_told_192 kbp_126 ?_
      refine r_ialdL 1 rfl (j := 126) (by decide) (by decide) dX7_told_194 ?_
      exact r_iret (hE _ (Option.some.inj hg)) dX7_told_195
    replace hg := (if_neg h36_11).symm.trans hg
    have n36_0 : ¬ x1.toInt = 0 := x_nei (by decide) h36_0
    have n36_1 : ¬ x1.toInt = 1 := x_nei (by decide) h36_1
    have n36_2 : ¬ x1.toInt = 2 := x_nei (by decide) h36_2
    have n36_3 : ¬ x1.toInt = 3 := x_nei (by decide) h36_3
    have n36_4 : ¬ x1.toInt = 4 := x_nei (by decide) h36_4
    have n36_5 : ¬ x1.toInt = 5 := x_nei (by decide) h36_5
    have n36_6 : ¬ x1.toInt = 6 := x_nei (by decide) h36_6
    have n36_7 : ¬ x1.toInt = 7 := x_nei (by decide) h36_7
    have n36_8 : ¬ x1.toInt = 8 := x_nei (by decide) h36_8
    have n36_9 : ¬ x1.toInt = 9 := x_nei (by decide) h36_9
    have n36_10 : ¬ x1.toInt = 10 := x_nei (by decide) h36_10
    have n36_11 : ¬ x1.toInt = 11 := x_nei (by decide) h36_11
    refine r_tableOut (tgt := 196) dX7_told_36 (by omega) (by decide) ?_
    refine r_aload_n dX7_told_196 0 rfl ?_
    refine gf_X7_2 (v := .int (mv 0)) 0 rfl rfl qw_588 dX7_told_197 ?_
    exact r_iret (hE _ (Option.some.inj hg)) dX7_told_200
  unfold g_X7_told at hg
  show AtK X Z rm_X7_told cX7_told RX7 2 0 0 (wX Z a m ps im ik asd rb rp mv) 0 [(0, .ref (a 0)), (1, .int n1)] []
  refine r_iload_n dX7_told_0 1 rfl ?_
  refine r_iconst (v := 0) dX7_told_1 kic_0 ?_
  refine r_bipush (v := 12) dX7_told_2 kbp_12 ?_
  obtain ⟨o4, e4, hg⟩ := ob hg
  refine r_callS (As := [.int n1, .int 0, .int 12]) (rest := []) (ws' := wX Z a m ps im ik asd rb rp mv) (fun l => c_X7_isIn Z l   n1 0 12 o4 e4) qw_629 ms_X7_isIn xPk.none ⟨Nat.le_of_ble_eq_true rfl, Nat.le_of_ble_eq_true rfl⟩ ⟨rfl, rfl⟩ ⟨Nat.zero_le _, Nat.zero_le _⟩ rfl (Nat.le_of_ble_eq_true rfl) rfl dX7_told_4 ?_
  refine r_if_ne (tgt := 12) dX7_told_7 (by decide) (fun h7 => ?_) (fun h7 => ?_)
  · replace hg := (if_neg h7).symm.trans hg
    refine r_iload_n dX7_told_12 1 rfl ?_
    refine r_iconst (v := 2) dX7_told_13 kic_2 ?_
    refine r_bipush (v := 7) dX7_told_14 kbp_7 ?_
    obtain ⟨o16, e16, hg⟩ := ob hg
    refine r_callS (As := [.int n1, .int 2, .int 7]) (rest := []) (ws' := wX Z a m ps im ik asd rb rp mv) (fun l => c_X7_isIn Z l   n1 2 7 o16 e16) qw_629 ms_X7_isIn xPk.none ⟨Nat.le_of_ble_eq_true rfl, Nat.le_of_ble_eq_true rfl⟩ ⟨rfl, rfl⟩ ⟨Nat.zero_le _, Nat.zero_le _⟩ rfl (Nat.le_of_ble_eq_true rfl) rfl dX7_told_16 ?_
    refine r_if_eq (tgt := 35) dX7_told_19 (by decide) (fun h19 => ?_) (fun h19 => ?_)
    · replace hg := (if_pos h19).symm.trans hg
      exact r_sub [0, 1] rfl (J35 n1 hg)
    · replace hg := (if_neg h19).symm.trans hg
      refine r_aload_n dX7_told_22 0 rfl ?_
      refine gf_X7_0 (v := .ref (a 1)) 0 rfl rfl qw_586 dX7_told_23 ?_
      refine r_bipush (v := 115) dX7_told_26 kbp_115 ?_
      refine r_ialdL 1 rfl (j := 115) (by decide) (by decide) dX7_told_28 ?_
      refine r_if_ne (tgt := 35) dX7_told_29 (by decide) (fun h29 => ?_) (fun h29 => ?_)
      · replace hg := (if_neg h29).symm.trans hg
        exact r_sub [0, 1] rfl (J35 n1 hg)
      · replace hg := (if_pos h29).symm.trans hg
        refine r_bipush (v := (-9)) dX7_told_32 kbp_m9 ?_
        exact r_iret (hE _ (Option.some.inj hg)) dX7_told_34
  · replace hg := (if_pos h7).symm.trans hg
    refine r_iconst (v := (-1)) dX7_told_10 kic_m1 ?_
    exact r_iret (hE _ (Option.some.inj hg)) dX7_told_11

-- TicketJournalModel.price(I)I
abbrev rm_X7_price : Room := { frames := 2, cells := 0, slots := 0, locals := 42 }
def g_X7_price (m : Nat → Int32) (n1 : Int32) : Option (Int32) :=
  (g_X7_isSort n1).bind fun o1 => (if o1 = 0 then some ((-1)) else (if (127 + n1) < 0 ∨ 131 ≤ (127 + n1).toNatClampNeg then none else some ((m (127 + n1).toNatClampNeg))))
set_option maxHeartbeats 4000000 in
set_option maxRecDepth 100000 in
theorem c_X7_price (Z : GZ) (l : Launch) (a : Nat → Nat) (m : Nat → Int32) (ps : Nat → Int32) (im : Nat → Int32) (ik : Nat → Int32) (asd : Nat → Int32) (rb : Nat → Int32) (rp : Nat → Int32) (mv : Nat → Int32) (n1 : Int32) (o : (Int32)) (hg : g_X7_price m n1 = some o) : Con Z l yX7_price cX7_price 2 (some .int) rm_X7_price [.ref (a 0), .int n1] (wX Z a m ps im ik asd rb rp mv) (some (.int o)) (wX Z a m ps im ik asd rb rp mv) := by
  refine Con.of (by decide) (Nat.le_of_ble_eq_true rfl) ?_
  intro X hE0
  have hE : ∀ z, z = o → endsX X Z (some .int) (some (.int z)) (wX Z a m ps im ik asd rb rp mv) := by
    rintro _ rfl; exact hE0
  unfold g_X7_price at hg
  show AtK X Z rm_X7_price cX7_price RX7 2 0 0 (wX Z a m ps im ik asd rb rp mv) 0 [(0, .ref (a 0)), (1, .int n1)] []
  refine r_iload_n dX7_price_0 1 rfl ?_
  obtain ⟨o1, e1, hg⟩ := ob hg
  refine r_callS (As := [.int n1]) (rest := []) (ws' := wX Z a m ps im ik asd rb rp mv) (fun l => c_X7_isSort Z l   n1 o1 e1) qw_626 ms_X7_isSort xPk.none ⟨Nat.le_of_ble_eq_true rfl, Nat.le_of_ble_eq_true rfl⟩ ⟨rfl, rfl⟩ ⟨Nat.zero_le _, Nat.zero_le _⟩ rfl (Nat.le_of_ble_eq_true rfl) rfl dX7_price_1 ?_
  refine r_if_eq (tgt := 19) dX7_price_4 (by decide) (fun h4 => ?_) (fun h4 => ?_)
  · replace hg := (if_pos h4).symm.trans hg
    refine r_iconst (v := (-1)) dX7_price_19 kic_m1 ?_
    exact r_iret (hE _ (Option.some.inj hg)) dX7_price_20
  · replace hg := (if_neg h4).symm.trans hg
    refine r_aload_n dX7_price_7 0 rfl ?_
    refine gf_X7_0 (v := .ref (a 1)) 0 rfl rfl qw_586 dX7_price_8 ?_
    refine r_bipush (v := 127) dX7_price_11 kbp_127 ?_
    refine r_iload_n dX7_price_13 1 rfl ?_
    refine r_iadd dX7_price_14 ?_
    obtain ⟨hi15, hg⟩ := og hg
    refine r_iald 1 rfl hi15 dX7_price_15 ?_
    refine r_goto (tgt := 20) dX7_price_16 (by decide) ?_
    exact r_iret (hE _ (Option.some.inj hg)) dX7_price_20

-- TicketJournalModel.word(II)I
abbrev rm_X7_word : Room := { frames := 2, cells := 0, slots := 0, locals := 42 }
def g_X7_word_26 (m : Nat → Int32)   : Option (Int32) :=
  some ((-1))
def g_X7_word (m : Nat → Int32) (n1 : Int32) (n2 : Int32) : Option (Int32) :=
  (g_X7_isBlock n1).bind fun o1 => (if o1 = 0 then g_X7_word_26 m else (g_X7_isIn n2 0 21).bind fun o11 => (if o11 = 0 then g_X7_word_26 m else (g_X7_at m n1 n2).bind fun o20 => some (o20)))
set_option maxHeartbeats 4000000 in
set_option maxRecDepth 100000 in
theorem c_X7_word (Z : GZ) (l : Launch) (a : Nat → Nat) (m : Nat → Int32) (ps : Nat → Int32) (im : Nat → Int32) (ik : Nat → Int32) (asd : Nat → Int32) (rb : Nat → Int32) (rp : Nat → Int32) (mv : Nat → Int32) (n1 : Int32) (n2 : Int32) (o : (Int32)) (hg : g_X7_word m n1 n2 = some o) : Con Z l yX7_word cX7_word 3 (some .int) rm_X7_word [.ref (a 0), .int n1, .int n2] (wX Z a m ps im ik asd rb rp mv) (some (.int o)) (wX Z a m ps im ik asd rb rp mv) := by
  refine Con.of (by decide) (Nat.le_of_ble_eq_true rfl) ?_
  intro X hE0
  have hE : ∀ z, z = o → endsX X Z (some .int) (some (.int z)) (wX Z a m ps im ik asd rb rp mv) := by
    rintro _ rfl; exact hE0
  have J26 : g_X7_word_26 m = some o → AtK X Z rm_X7_word cX7_word RX7 3 0 0 (wX Z a m ps im ik asd rb rp mv) 26 [] [] := by
    intro  hg
    unfold g_X7_word_26 at hg
    refine r_iconst (v := (-1)) dX7_word_26 kic_m1 ?_
    exact r_iret (hE _ (Option.some.inj hg)) dX7_word_27
  unfold g_X7_word at hg
  show AtK X Z rm_X7_word cX7_word RX7 3 0 0 (wX Z a m ps im ik asd rb rp mv) 0 [(0, .ref (a 0)), (1, .int n1), (2, .int n2)] []
  refine r_iload_n dX7_word_0 1 rfl ?_
  obtain ⟨o1, e1, hg⟩ := ob hg
  refine r_callS (As := [.int n1]) (rest := []) (ws' := wX Z a m ps im ik asd rb rp mv) (fun l => c_X7_isBlock Z l   n1 o1 e1) qw_767 ms_X7_isBlock xPk.none ⟨Nat.le_of_ble_eq_true rfl, Nat.le_of_ble_eq_true rfl⟩ ⟨rfl, rfl⟩ ⟨Nat.zero_le _, Nat.zero_le _⟩ rfl (Nat.le_of_ble_eq_true rfl) rfl dX7_word_1 ?_
  refine r_if_eq (tgt := 26) dX7_word_4 (by decide) (fun h4 => ?_) (fun h4 => ?_)
  · replace hg := (if_pos h4).symm.trans hg
    exact r_sub [] rfl (J26 hg)
  · replace hg := (if_neg h4).symm.trans hg
    refine r_iload_n dX7_word_7 2 rfl ?_
    refine r_iconst (v := 0) dX7_word_8 kic_0 ?_
    refine r_bipush (v := 21) dX7_word_9 kbp_21 ?_
    obtain ⟨o11, e11, hg⟩ := ob hg
    refine r_callS (As := [.int n2, .int 0, .int 21]) (rest := []) (ws' := wX Z a m ps im ik asd rb rp mv) (fun l => c_X7_isIn Z l   n2 0 21 o11 e11) qw_629 ms_X7_isIn xPk.none ⟨Nat.le_of_ble_eq_true rfl, Nat.le_of_ble_eq_true rfl⟩ ⟨rfl, rfl⟩ ⟨Nat.zero_le _, Nat.zero_le _⟩ rfl (Nat.le_of_ble_eq_true rfl) rfl dX7_word_11 ?_
    refine r_if_eq (tgt := 26) dX7_word_14 (by decide) (fun h14 => ?_) (fun h14 => ?_)
    · replace hg := (if_pos h14).symm.trans hg
      exact r_sub [] rfl (J26 hg)
    · replace hg := (if_neg h14).symm.trans hg
      refine r_aload_n dX7_word_17 0 rfl ?_
      refine r_iload_n dX7_word_18 1 rfl ?_
      refine r_iload_n dX7_word_19 2 rfl ?_
      obtain ⟨o20, e20, hg⟩ := ob hg
      refine r_callV (As := [.int n1, .int n2]) (rest := []) (ws' := wX Z a m ps im ik asd rb rp mv) 0 rfl rfl rfl (fun l => c_X7_at Z l a m ps im ik asd rb rp mv n1 n2 o20 e20) qw_652 mv_X7_at (xPk.all rfl) ⟨Nat.le_of_ble_eq_true rfl, Nat.le_of_ble_eq_true rfl⟩ ⟨rfl, rfl⟩ ⟨Nat.zero_le _, Nat.zero_le _⟩ rfl (Nat.le_of_ble_eq_true rfl) rfl dX7_word_20 ?_
      refine r_goto (tgt := 27) dX7_word_23 (by decide) ?_
      exact r_iret (hE _ (Option.some.inj hg)) dX7_word_27

-- TicketJournalModel.block(II)I
abbrev rm_X7_block : Room := { frames := 6, cells := 0, slots := 0, locals := 138 }
def g_X7_block_16 (m : Nat → Int32)   : Option (Int32) :=
  some ((-1))
def g_X7_block (m : Nat → Int32) (n1 : Int32) (n2 : Int32) : Option (Int32) :=
  (g_X7_isBlock n1).bind fun o1 => (if o1 = 0 then g_X7_block_16 m else (g_X7_isIn n2 0 4).bind fun o10 => (if o10 = 0 then g_X7_block_16 m else (if n2 = 0 then (g_X7_isWhole m n1).bind fun o50 => (if o50 = 0 then some (0) else some (1)) else (if n2 = 1 then (g_X7_isWhole m n1).bind fun o64 => (if o64 = 0 then some ((-9)) else (g_X7_at m n1 0).bind fun o73 => some (o73)) else (if n2 = 2 then (g_X7_countIn m n1 (-1)).bind fun o85 => some (o85) else (if n2 = 3 then (g_X7_countIn m n1 (-2)).bind fun o93 => some (o93) else (if (110 + n1) < 0 ∨ 131 ≤ (110 + n1).toNatClampNeg then none else some ((m (110 + n1).toNatClampNeg)))))))))
set_option maxHeartbeats 4000000 in
set_option maxRecDepth 100000 in
theorem c_X7_block (Z : GZ) (l : Launch) (a : Nat → Nat) (m : Nat → Int32) (ps : Nat → Int32) (im : Nat → Int32) (ik : Nat → Int32) (asd : Nat → Int32) (rb : Nat → Int32) (rp : Nat → Int32) (mv : Nat → Int32) (n1 : Int32) (n2 : Int32) (o : (Int32)) (hg : g_X7_block m n1 n2 = some o) : Con Z l yX7_block cX7_block 3 (some .int) rm_X7_block [.ref (a 0), .int n1, .int n2] (wX Z a m ps im ik asd rb rp mv) (some (.int o)) (wX Z a m ps im ik asd rb rp mv) := by
  refine Con.of (by decide) (Nat.le_of_ble_eq_true rfl) ?_
  intro X hE0
  have hE : ∀ z, z = o → endsX X Z (some .int) (some (.int z)) (wX Z a m ps im ik asd rb rp mv) := by
    rintro _ rfl; exact hE0
  have J16 : g_X7_block_16 m = some o → AtK X Z rm_X7_block cX7_block RX7 3 0 0 (wX Z a m ps im ik asd rb rp mv) 16 [] [] := by
    intro  hg
    unfold g_X7_block_16 at hg
    refine r_iconst (v := (-1)) dX7_block_16 kic_m1 ?_
    exact r_iret (hE _ (Option.some.inj hg)) dX7_block_17
  unfold g_X7_block at hg
  show AtK X Z rm_X7_block cX7_block RX7 3 0 0 (wX Z a m ps im ik asd rb rp mv) 0 [(0, .ref (a 0)), (1, .int n1), (2, .int n2)] []
  refine r_iload_n dX7_block_0 1 rfl ?_
  obtain ⟨o1, e1, hg⟩ := ob hg
  refine r_callS (As := [.int n1]) (rest := []) (ws' := wX Z a m ps im ik asd rb rp mv) (fun l => c_X7_isBlock Z l   n1 o1 e1) qw_767 ms_X7_isBlock xPk.none ⟨Nat.le_of_ble_eq_true rfl, Nat.le_of_ble_eq_true rfl⟩ ⟨rfl, rfl⟩ ⟨Nat.zero_le _, Nat.zero_le _⟩ rfl (Nat.le_of_ble_eq_true rfl) rfl dX7_block_1 ?_
  refine r_if_eq (tgt := 16) dX7_block_4 (by decide) (fun h4 => ?_) (fun h4 => ?_)
  · replace hg := (if_pos h4).symm.trans hg
    exact r_sub [] rfl (J16 hg)
  · replace hg := (if_neg h4).symm.trans hg
    refine r_iload_n dX7_block_7 2 rfl ?_
    refine r_iconst (v := 0) dX7_block_8 kic_0 ?_
    refine r_iconst (v := 4) dX7_block_9 kic_4 ?_
    obtain ⟨o10, e10, hg⟩ := ob hg
    refine r_callS (As := [.int n2, .int 0, .int 4]) (rest := []) (ws' := wX Z a m ps im ik asd rb rp mv) (fun l => c_X7_isIn Z l   n2 0 4 o10 e10) qw_629 ms_X7_isIn xPk.none ⟨Nat.le_of_ble_eq_true rfl, Nat.le_of_ble_eq_true rfl⟩ ⟨rfl, rfl⟩ ⟨Nat.zero_le _, Nat.zero_le _⟩ rfl (Nat.le_of_ble_eq_true rfl) rfl dX7_block_10 ?_
    refine r_if_ne (tgt := 18) dX7_block_13 (by decide) (fun h13 => ?_) (fun h13 => ?_)
    · replace hg := (if_neg h13).symm.trans hg
      refine r_iload_n dX7_block_18 2 rfl ?_
      by_cases h19_0 : n2 = 0
      · replace hg := (if_pos h19_0).symm.trans hg
        refine r_tableIn (tgt := 48) (off := 29) dX7_block_19 (by rw [h19_0]; decide) (by rw [h19_0]; decide) (by rw [h19_0]; decide) (by decide) ?_
        refine r_aload_n dX7_block_48 0 rfl ?_
        refine r_iload_n dX7_block_49 1 rfl ?_
        obtain ⟨o50, e50, hg⟩ := ob hg
        refine r_callV (As := [.int n1]) (rest := []) (ws' := wX Z a m ps im ik asd rb rp mv) 0 rfl rfl rfl (fun l => c_X7_isWhole Z l a m ps im ik asd rb rp mv n1 o50 e50) qw_731 mv_X7_isWhole (xPk.all rfl) ⟨Nat.le_of_ble_eq_true rfl, Nat.le_of_ble_eq_true rfl⟩ ⟨rfl, rfl⟩ ⟨Nat.zero_le _, Nat.zero_le _⟩ rfl (Nat.le_of_ble_eq_true rfl) rfl dX7_block_50 ?_
        refine r_if_eq (tgt := 60) dX7_block_53 (by decide) (fun h53 => ?_) (fun h53 => ?_)
        · replace hg := (if_pos h53).symm.trans hg
          refine r_iconst (v := 0) dX7_block_60 kic_0 ?_
          exact r_iret (hE _ (Option.some.inj hg)) dX7_block_61
        · replace hg := (if_neg h53).symm.trans hg
          refine r_iconst (v := 1) dX7_block_56 kic_1 ?_
          refine r_goto (tgt := 61) dX7_block_57 (by decide) ?_
          exact r_iret (hE _ (Option.some.inj hg)) dX7_block_61
      replace hg := (if_neg h19_0).symm.trans hg
      by_cases h19_1 : n2 = 1
      · replace hg := (if_pos h19_1).symm.trans hg
        refine r_tableIn (tgt := 62) (off := 43) dX7_block_19 (by rw [h19_1]; decide) (by rw [h19_1]; decide) (by rw [h19_1]; decide) (by decide) ?_
        refine r_aload_n dX7_block_62 0 rfl ?_
        refine r_iload_n dX7_block_63 1 rfl ?_
        obtain ⟨o64, e64, hg⟩ := ob hg
        refine r_callV (As := [.int n1]) (rest := []) (ws' := wX Z a m ps im ik asd rb rp mv) 0 rfl rfl rfl (fun l => c_X7_isWhole Z l a m ps im ik asd rb rp mv n1 o64 e64) qw_731 mv_X7_isWhole (xPk.all rfl) ⟨Nat.le_of_ble_eq_true rfl, Nat.le_of_ble_eq_true rfl⟩ ⟨rfl, rfl⟩ ⟨Nat.zero_le _, Nat.zero_le _⟩ rfl (Nat.le_of_ble_eq_true rfl) rfl dX7_block_64 ?_
        refine r_if_eq (tgt := 79) dX7_block_67 (by decide) (fun h67 => ?_) (fun h67 => ?_)
        · replace hg := (if_pos h67).symm.trans hg
          refine r_bipush (v := (-9)) dX7_block_79 kbp_m9 ?_
          exact r_iret (hE _ (Option.some.inj hg)) dX7_block_81
        · replace hg := (if_neg h67).symm.trans hg
          refine r_aload_n dX7_block_70 0 rfl ?_
          refine r_iload_n dX7_block_71 1 rfl ?_
          refine r_iconst (v := 0) dX7_block_72 kic_0 ?_
          obtain ⟨o73, e73, hg⟩ := ob hg
          refine r_callV (As := [.int n1, .int 0]) (rest := []) (ws' := wX Z a m ps im ik asd rb rp mv) 0 rfl rfl rfl (fun l => c_X7_at Z l a m ps im ik asd rb rp mv n1 0 o73 e73) qw_652 mv_X7_at (xPk.all rfl) ⟨Nat.le_of_ble_eq_true rfl, Nat.le_of_ble_eq_true rfl⟩ ⟨rfl, rfl⟩ ⟨Nat.zero_le _, Nat.zero_le _⟩ rfl (Nat.le_of_ble_eq_true rfl) rfl dX7_block_73 ?_
          refine r_goto (tgt := 81) dX7_block_76 (by decide) ?_
          exact r_iret (hE _ (Option.some.inj hg)) dX7_block_81
      replace hg := (if_neg h19_1).symm.trans hg
      by_cases h19_2 : n2 = 2
      · replace hg := (if_pos h19_2).symm.trans hg
        refine r_tableIn (tgt := 82) (off := 63) dX7_block_19 (by rw [h19_2]; decide) (by rw [h19_2]; decide) (by rw [h19_2]; decide) (by decide) ?_
        refine r_aload_n dX7_block_82 0 rfl ?_
        refine r_iload_n dX7_block_83 1 rfl ?_
        refine r_iconst (v := (-1)) dX7_block_84 kic_m1 ?_
        obtain ⟨o85, e85, hg⟩ := ob hg
        refine r_callV (As := [.int n1, .int (-1)]) (rest := []) (ws' := wX Z a m ps im ik asd rb rp mv) 0 rfl rfl rfl (fun l => c_X7_countIn Z l a m ps im ik asd rb rp mv n1 (-1) o85 e85) qw_727 mv_X7_countIn (xPk.all rfl) ⟨Nat.le_of_ble_eq_true rfl, Nat.le_of_ble_eq_true rfl⟩ ⟨rfl, rfl⟩ ⟨Nat.zero_le _, Nat.zero_le _⟩ rfl (Nat.le_of_ble_eq_true rfl) rfl dX7_block_85 ?_
        exact r_iret (hE _ (Option.some.inj hg)) dX7_block_88
      replace hg := (if_neg h19_2).symm.trans hg
      by_cases h19_3 : n2 = 3
      · replace hg := (if_pos h19_3).symm.trans hg
        refine r_tableIn (tgt := 89) (off := 70) dX7_block_19 (by rw [h19_3]; decide) (by rw [h19_3]; decide) (by rw [h19_3]; decide) (by decide) ?_
        refine r_aload_n dX7_block_89 0 rfl ?_
        refine r_iload_n dX7_block_90 1 rfl ?_
        refine r_bipush (v := (-2)) dX7_block_91 kbp_m2 ?_
        obtain ⟨o93, e93, hg⟩ := ob hg
        refine r_callV (As := [.int n1, .int (-2)]) (rest := []) (ws' := wX Z a m ps im ik asd rb rp mv) 0 rfl rfl rfl (fun l => c_X7_countIn Z l a m ps im ik asd rb rp mv n1 (-2) o93 e93) qw_727 mv_X7_countIn (xPk.all rfl) ⟨Nat.le_of_ble_eq_true rfl, Nat.le_of_ble_eq_true rfl⟩ ⟨rfl, rfl⟩ ⟨Nat.zero_le _, Nat.zero_le _⟩ rfl (Nat.le_of_ble_eq_true rfl) rfl dX7_block_93 ?_
        exact r_iret (hE _ (Option.some.inj hg)) dX7_block_96
      replace hg := (if_neg h19_3).symm.trans hg
      have n19_0 : ¬ n2.toInt = 0 := x_nei (by decide) h19_0
      have n19_1 : ¬ n2.toInt = 1 := x_nei (by decide) h19_1
      have n19_2 : ¬ n2.toInt = 2 := x_nei (by decide) h19_2
      have n19_3 : ¬ n2.toInt = 3 := x_nei (by decide) h19_3
      refine r_tableOut (tgt := 97) dX7_block_19 (by omega) (by decide) ?_
      refine r_aload_n dX7_block_97 0 rfl ?_
      refine gf_X7_0 (v := .ref (a 1)) 0 rfl rfl qw_586 dX7_block_98 ?_
      refine r_bipush (v := 110) dX7_block_101 kbp_110 ?_
      refine r_iload_n dX7_block_103 1 rfl ?_
      refine r_iadd dX7_block_104 ?_
      obtain ⟨hi105, hg⟩ := og hg
      refine r_iald 1 rfl hi105 dX7_block_105 ?_
      exact r_iret (hE _ (Option.some.inj hg)) dX7_block_106
    · replace hg := (if_pos h13).symm.trans hg
      exact r_sub [] rfl (J16 hg)

-- TicketJournalModel.layBlock(I)V
abbrev rm_X7_layBlock : Room := { frames := 4, cells := 0, slots := 0, locals := 91 }
def g_X7_layBlock_46 (m : Nat → Int32) (k2 : Int32 → Int32 → (Nat → Int32) → (Nat → Int32) → (Nat → Int32) → Option ((Nat → Int32) × (Nat → Int32) × (Nat → Int32))) (x1 : Int32) (x2 : Int32) (rb : Nat → Int32) (rp : Nat → Int32) (mv : Nat → Int32) : Option ((Nat → Int32) × (Nat → Int32) × (Nat → Int32)) :=
  k2 x1 (x2 + 1) rb rp mv
def g_X7_layBlock_2 (m : Nat → Int32)  : Nat → Int32 → Int32 → (Nat → Int32) → (Nat → Int32) → (Nat → Int32) → Option ((Nat → Int32) × (Nat → Int32) × (Nat → Int32))
  | 0 => fun _ _ _ _ _ => none
  | n + 1 => fun x1 x2 rb rp mv => (if 4 ≤ x2 then some (rb, rp, mv) else (g_X7_isRecord m x1 x2).bind fun o10 => (if o10 = 0 then g_X7_layBlock_46 m (g_X7_layBlock_2 m n) x1 x2 rb rp mv else (if (mv 1) < 0 ∨ 20 ≤ (mv 1).toNatClampNeg then none else (if (mv 1) < 0 ∨ 20 ≤ (mv 1).toNatClampNeg then none else g_X7_layBlock_46 m (g_X7_layBlock_2 m n) x1 x2 (upd rb ((mv 1).toNatClampNeg) x1) (upd rp ((mv 1).toNatClampNeg) x2) (upd mv 1 ((mv 1) + 1))))))
def g_X7_layBlock (m : Nat → Int32) (rb : Nat → Int32) (rp : Nat → Int32) (mv : Nat → Int32) (n1 : Int32) : Option ((Nat → Int32) × (Nat → Int32) × (Nat → Int32)) :=
  g_X7_layBlock_2 m 8 n1 0 rb rp mv
set_option maxHeartbeats 4000000 in
set_option maxRecDepth 100000 in
theorem c_X7_layBlock (Z : GZ) (l : Launch) (a : Nat → Nat) (m : Nat → Int32) (ps : Nat → Int32) (im : Nat → Int32) (ik : Nat → Int32) (asd : Nat → Int32) (rb : Nat → Int32) (rp : Nat → Int32) (mv : Nat → Int32) (n1 : Int32) (o : ((Nat → Int32) × (Nat → Int32) × (Nat → Int32))) (hg : g_X7_layBlock m rb rp mv n1 = some o) : Con Z l yX7_layBlock cX7_layBlock 3 none rm_X7_layBlock [.ref (a 0), .int n1] (wX Z a m ps im ik asd rb rp mv) none (wX Z a m ps im ik asd o.1 o.2.1 o.2.2) := by
  refine Con.of (by decide) (Nat.le_of_ble_eq_true rfl) ?_
  intro X hE0
  have hE : ∀ z, z = o → endsX X Z none none (wX Z a m ps im ik asd z.1 z.2.1 z.2.2) := by
    rintro _ rfl; exact hE0
  have J46 : ∀ (k2 : Int32 → Int32 → (Nat → Int32) → (Nat → Int32) → (Nat → Int32) → Option ((Nat → Int32) × (Nat → Int32) × (Nat → Int32))) (hk2 : ∀ (x1 : Int32) (x2 : Int32) (rb : Nat → Int32) (rp : Nat → Int32) (mv : Nat → Int32), k2 x1 x2 rb rp mv = some o → AtK X Z rm_X7_layBlock cX7_layBlock RX7 3 0 0 (wX Z a m ps im ik asd rb rp mv) 2 [(0, .ref (a 0)), (1, .int x1), (2, .int x2)] []), ∀ (x1 : Int32) (x2 : Int32) (rb : Nat → Int32) (rp : Nat → Int32) (mv : Nat → Int32), g_X7_layBlock_46 m k2 x1 x2 rb rp mv = some o → AtK X Z rm_X7_layBlock cX7_layBlock RX7 3 0 0 (wX Z a m ps im ik asd rb rp mv) 46 [(0, .ref (a 0)), (1, .int x1), (2, .int x2)] [] := by
    intro k2 hk2 x1 x2 rb rp mv hg
    unfold g_X7_layBlock_46 at hg
    refine r_iinc (v := (x2 + 1)) (lv' := [(2, .int (x2 + 1)), (0, .ref (a 0)), (1, .int x1)]) dX7_layBlock_46 (k := 2) rfl rfl (by decide) rfl ?_
    refine r_goto (tgt := 2) dX7_layBlock_49 (by decide) ?_
    exact r_sub [1, 2, 0] rfl (hk2 x1 (x2 + 1) rb rp mv hg)
  have J2 : ∀ (n : Nat), ∀ (x1 : Int32) (x2 : Int32) (rb : Nat → Int32) (rp : Nat → Int32) (mv : Nat → Int32), g_X7_layBlock_2 m n x1 x2 rb rp mv = some o → AtK X Z rm_X7_layBlock cX7_layBlock RX7 3 0 0 (wX Z a m ps im ik asd rb rp mv) 2 [(0, .ref (a 0)), (1, .int x1), (2, .int x2)] [] := by
    intro  n
    induction n with
    | zero => intro x1 x2 rb rp mv hg; exact nomatch (show (none : Option _) = some o from hg)
    | succ n ih =>
      intro x1 x2 rb rp mv hg
      unfold g_X7_layBlock_2 at hg
      refine r_iload_n dX7_layBlock_2 2 rfl ?_
      refine r_iconst (v := 4) dX7_layBlock_3 kic_4 ?_
      refine r_icmp_ge (tgt := 52) dX7_layBlock_4 (by decide) (fun h4 => ?_) (fun h4 => ?_)
      · replace hg := (if_pos h4).symm.trans hg
        exact r_vret (hE _ (Option.some.inj hg)) dX7_layBlock_52
      · replace hg := (if_neg h4).symm.trans hg
        refine r_aload_n dX7_layBlock_7 0 rfl ?_
        refine r_iload_n dX7_layBlock_8 1 rfl ?_
        refine r_iload_n dX7_layBlock_9 2 rfl ?_
        obtain ⟨o10, e10, hg⟩ := ob hg
        refine r_callV (As := [.int x1, .int x2]) (rest := []) (ws' := wX Z a m ps im ik asd rb rp mv) 0 rfl rfl rfl (fun l => c_X7_isRecord Z l a m ps im ik asd rb rp mv x1 x2 o10 e10) qw_682 mv_X7_isRecord (xPk.all rfl) ⟨Nat.le_of_ble_eq_true rfl, Nat.le_of_ble_eq_true rfl⟩ ⟨rfl, rfl⟩ ⟨Nat.zero_le _, Nat.zero_le _⟩ rfl (Nat.le_of_ble_eq_true rfl) rfl dX7_layBlock_10 ?_
        refine r_if_eq (tgt := 46) dX7_layBlock_13 (by decide) (fun h13 => ?_) (fun h13 => ?_)
        · replace hg := (if_pos h13).symm.trans hg
          exact r_sub [0, 1, 2] rfl (J46 (g_X7_layBlock_2 m n) ih x1 x2 rb rp mv hg)
        · replace hg := (if_neg h13).symm.trans hg
          refine r_aload_n dX7_layBlock_16 0 rfl ?_
          refine gf_X7_6 (v := .ref (a 6)) 0 rfl rfl qw_592 dX7_layBlock_17 ?_
          refine r_aload_n dX7_layBlock_20 0 rfl ?_
          refine gf_X7_8 (v := .int (mv 1)) 0 rfl rfl qw_594 dX7_layBlock_21 ?_
          refine r_iload_n dX7_layBlock_24 1 rfl ?_
          obtain ⟨hi25, hg⟩ := og hg
          refine r_iast 6 rfl rfl hi25 dX7_layBlock_25 (ws' := wX Z a m ps im ik asd (upd rb ((mv 1).toNatClampNeg) x1) rp mv) rfl ?_
          refine r_aload_n dX7_layBlock_26 0 rfl ?_
          refine gf_X7_7 (v := .ref (a 7)) 0 rfl rfl qw_593 dX7_layBlock_27 ?_
          refine r_aload_n dX7_layBlock_30 0 rfl ?_
          refine gf_X7_8 (v := .int (mv 1)) 0 rfl rfl qw_594 dX7_layBlock_31 ?_
          refine r_iload_n dX7_layBlock_34 2 rfl ?_
          obtain ⟨hi35, hg⟩ := og hg
          refine r_iast 7 rfl rfl hi35 dX7_layBlock_35 (ws' := wX Z a m ps im ik asd (upd rb ((mv 1).toNatClampNeg) x1) (upd rp ((mv 1).toNatClampNeg) x2) mv) rfl ?_
          refine r_aload_n dX7_layBlock_36 0 rfl ?_
          refine r_dup dX7_layBlock_37 rfl ?_
          refine gf_X7_8 (v := .int (mv 1)) 0 rfl rfl qw_594 dX7_layBlock_38 ?_
          refine r_iconst (v := 1) dX7_layBlock_41 kic_1 ?_
          refine r_iadd dX7_layBlock_42 ?_
          refine pf_X7_8 0 rfl (Nat.le_of_ble_eq_true rfl) qw_594 dX7_layBlock_43 (ws' := wX Z a m ps im ik asd (upd rb ((mv 1).toNatClampNeg) x1) (upd rp ((mv 1).toNatClampNeg) x2) (upd mv 1 ((mv 1) + 1))) rfl ?_
          exact r_sub [0, 1, 2] rfl (J46 (g_X7_layBlock_2 m n) ih x1 x2 (upd rb ((mv 1).toNatClampNeg) x1) (upd rp ((mv 1).toNatClampNeg) x2) (upd mv 1 ((mv 1) + 1)) hg)
  unfold g_X7_layBlock at hg
  show AtK X Z rm_X7_layBlock cX7_layBlock RX7 3 0 0 (wX Z a m ps im ik asd rb rp mv) 0 [(0, .ref (a 0)), (1, .int n1)] []
  refine r_iconst (v := 0) dX7_layBlock_0 kic_0 ?_
  refine r_istore_n (lv' := [(2, .int 0), (0, .ref (a 0)), (1, .int n1)]) dX7_layBlock_1 (by decide) rfl ?_
  exact r_sub [1, 2, 0] rfl (J2 8 n1 0 rb rp mv hg)

-- TicketJournalModel.layRecords()V
abbrev rm_X7_layRecords : Room := { frames := 5, cells := 0, slots := 0, locals := 113 }
def g_X7_layRecords_61 (m : Nat → Int32) (k17 : Int32 → Int32 → (Nat → Int32) → (Nat → Int32) → (Nat → Int32) → Option ((Nat → Int32) × (Nat → Int32) × (Nat → Int32))) (k23 : Int32 → Int32 → Int32 → (Nat → Int32) → (Nat → Int32) → (Nat → Int32) → Option ((Nat → Int32) × (Nat → Int32) × (Nat → Int32))) (x1 : Int32) (x2 : Int32) (x3 : Int32) (rb : Nat → Int32) (rp : Nat → Int32) (mv : Nat → Int32) : Option ((Nat → Int32) × (Nat → Int32) × (Nat → Int32)) :=
  k23 x1 x2 (x3 + 1) rb rp mv
def g_X7_layRecords_23 (m : Nat → Int32) (k17 : Int32 → Int32 → (Nat → Int32) → (Nat → Int32) → (Nat → Int32) → Option ((Nat → Int32) × (Nat → Int32) × (Nat → Int32))) : Nat → Int32 → Int32 → Int32 → (Nat → Int32) → (Nat → Int32) → (Nat → Int32) → Option ((Nat → Int32) × (Nat → Int32) × (Nat → Int32))
  | 0 => fun _ _ _ _ _ _ => none
  | n + 1 => fun x1 x2 x3 rb rp mv => (if 5 ≤ x3 then k17 x1 (x2 + (-1)) rb rp mv else (g_X7_isWhole m x3).bind fun o30 => (if o30 = 0 then g_X7_layRecords_61 m k17 (g_X7_layRecords_23 m k17 n) x1 x2 x3 rb rp mv else (g_X7_at m x3 0).bind fun o40 => (if (jrem ((x1 - o40) + 10000) 10000) = x2 then (g_X7_layBlock m rb rp mv x3).bind fun o58 => g_X7_layRecords_61 m k17 (g_X7_layRecords_23 m k17 n) x1 x2 x3 o58.1 o58.2.1 o58.2.2 else g_X7_layRecords_61 m k17 (g_X7_layRecords_23 m k17 n) x1 x2 x3 rb rp mv)))
def g_X7_layRecords_17 (m : Nat → Int32)  : Nat → Int32 → Int32 → (Nat → Int32) → (Nat → Int32) → (Nat → Int32) → Option ((Nat → Int32) × (Nat → Int32) × (Nat → Int32))
  | 0 => fun _ _ _ _ _ => none
  | n + 1 => fun x1 x2 rb rp mv => (if x2 < 0 then some (rb, rp, mv) else g_X7_layRecords_23 m (g_X7_layRecords_17 m n) 8 x1 x2 0 rb rp mv)
def g_X7_layRecords (m : Nat → Int32) (rb : Nat → Int32) (rp : Nat → Int32) (mv : Nat → Int32)  : Option ((Nat → Int32) × (Nat → Int32) × (Nat → Int32)) :=
  (g_X7_newest m).bind fun o7 => (g_X7_at m o7 0).bind fun o11 => g_X7_layRecords_17 m 8 o11 4 rb rp (upd mv 1 0)
set_option maxHeartbeats 4000000 in
set_option maxRecDepth 100000 in
theorem c_X7_layRecords (Z : GZ) (l : Launch) (a : Nat → Nat) (m : Nat → Int32) (ps : Nat → Int32) (im : Nat → Int32) (ik : Nat → Int32) (asd : Nat → Int32) (rb : Nat → Int32) (rp : Nat → Int32) (mv : Nat → Int32)  (o : ((Nat → Int32) × (Nat → Int32) × (Nat → Int32))) (hg : g_X7_layRecords m rb rp mv = some o) : Con Z l yX7_layRecords cX7_layRecords 4 none rm_X7_layRecords [.ref (a 0)] (wX Z a m ps im ik asd rb rp mv) none (wX Z a m ps im ik asd o.1 o.2.1 o.2.2) := by
  refine Con.of (by decide) (Nat.le_of_ble_eq_true rfl) ?_
  intro X hE0
  have hE : ∀ z, z = o → endsX X Z none none (wX Z a m ps im ik asd z.1 z.2.1 z.2.2) := by
    rintro _ rfl; exact hE0
  have J61 : ∀ (k17 : Int32 → Int32 → (Nat → Int32) → (Nat → Int32) → (Nat → Int32) → Option ((Nat → Int32) × (Nat → Int32) × (Nat → Int32))) (hk17 : ∀ (x1 : Int32) (x2 : Int32) (rb : Nat → Int32) (rp : Nat → Int32) (mv : Nat → Int32), k17 x1 x2 rb rp mv = some o → AtK X Z rm_X7_layRecords cX7_layRecords RX7 4 0 0 (wX Z a m ps im ik asd rb rp mv) 17 [(0, .ref (a 0)), (1, .int x1), (2, .int x2)] []) (k23 : Int32 → Int32 → Int32 → (Nat → Int32) → (Nat → Int32) → (Nat → Int32) → Option ((Nat → Int32) × (Nat → Int32) × (Nat → Int32))) (hk23 : ∀ (x1 : Int32) (x2 : Int32) (x3 : Int32) (rb : Nat → Int32) (rp : Nat → Int32) (mv : Nat → Int32), k23 x1 x2 x3 rb rp mv = some o → AtK X Z rm_X7_layRecords cX7_layRecords RX7 4 0 0 (wX Z a m ps im ik asd rb rp mv) 23 [(0, .ref (a 0)), (1, .int x1), (2, .int x2), (3, .int x3)] []), ∀ (x1 : Int32) (x2 : Int32) (x3 : Int32) (rb : Nat → Int32) (rp : Nat → Int32) (mv : Nat → Int32), g_X7_layRecords_61 m k17 k23 x1 x2 x3 rb rp mv = some o → AtK X Z rm_X7_layRecords cX7_layRecords RX7 4 0 0 (wX Z a m ps im ik asd rb rp mv) 61 [(0, .ref (a 0)), (1, .int x1), (2, .int x2), (3, .int x3)] [] := by
    intro k17 hk17 k23 hk23 x1 x2 x3 rb rp mv hg
    unfold g_X7_layRecords_61 at hg
    refine r_iinc (v := (x3 + 1)) (lv' := [(3, .int (x3 + 1)), (0, .ref (a 0)), (1, .int x1), (2, .int x2)]) dX7_layRecords_61 (k := 3) rfl rfl (by decide) rfl ?_
    refine r_goto (tgt := 23) dX7_layRecords_64 (by decide) ?_
    exact r_sub [1, 2, 3, 0] rfl (hk23 x1 x2 (x3 + 1) rb rp mv hg)
  have J23 : ∀ (k17 : Int32 → Int32 → (Nat → Int32) → (Nat → Int32) → (Nat → Int32) → Option ((Nat → Int32) × (Nat → Int32) × (Nat → Int32))) (hk17 : ∀ (x1 : Int32) (x2 : Int32) (rb : Nat → Int32) (rp : Nat → Int32) (mv : Nat → Int32), k17 x1 x2 rb rp mv = some o → AtK X Z rm_X7_layRecords cX7_layRecords RX7 4 0 0 (wX Z a m ps im ik asd rb rp mv) 17 [(0, .ref (a 0)), (1, .int x1), (2, .int x2)] []) (n : Nat), ∀ (x1 : Int32) (x2 : Int32) (x3 : Int32) (rb : Nat → Int32) (rp : Nat → Int32) (mv : Nat → Int32), g_X7_layRecords_23 m k17 n x1 x2 x3 rb rp mv = some o → AtK X Z rm_X7_layRecords cX7_layRecords RX7 4 0 0 (wX Z a m ps im ik asd rb rp mv) 23 [(0, .ref (a 0)), (1, .int x1), (2, .int x2), (3, .int x3)] [] := by
    intro k17 hk17 n
    induction n with
    | zero => intro x1 x2 x3 rb rp mv hg; exact nomatch (show (none : Option _) = some o from hg)
    | succ n ih =>
      intro x1 x2 x3 rb rp mv hg
      unfold g_X7_layRecords_23 at hg
      refine r_iload_n dX7_layRecords_23 3 rfl ?_
      refine r_iconst (v := 5) dX7_layRecords_24 kic_5 ?_
      refine r_icmp_ge (tgt := 67) dX7_layRecords_25 (by decide) (fun h25 => ?_) (fun h25 => ?_)
      · replace hg := (if_pos h25).symm.trans hg
        refine r_iinc (v := (x2 + (-1))) (lv' := [(2, .int (x2 + (-1))), (0, .ref (a 0)), (1, .int x1), (3, .int x3)]) dX7_layRecords_67 (k := 2) rfl rfl (by decide) rfl ?_
        refine r_goto (tgt := 17) dX7_layRecords_70 (by decide) ?_
        exact r_sub [1, 2, 0] rfl (hk17 x1 (x2 + (-1)) rb rp mv hg)
      · replace hg := (if_neg h25).symm.trans hg
        refine r_aload_n dX7_layRecords_28 0 rfl ?_
        refine r_iload_n dX7_layRecords_29 3 rfl ?_
        obtain ⟨o30, e30, hg⟩ := ob hg
        refine r_callV (As := [.int x3]) (rest := []) (ws' := wX Z a m ps im ik asd rb rp mv) 0 rfl rfl rfl (fun l => c_X7_isWhole Z l a m ps im ik asd rb rp mv x3 o30 e30) qw_731 mv_X7_isWhole (xPk.all rfl) ⟨Nat.le_of_ble_eq_true rfl, Nat.le_of_ble_eq_true rfl⟩ ⟨rfl, rfl⟩ ⟨Nat.zero_le _, Nat.zero_le _⟩ rfl (Nat.le_of_ble_eq_true rfl) rfl dX7_layRecords_30 ?_
        refine r_if_eq (tgt := 61) dX7_layRecords_33 (by decide) (fun h33 => ?_) (fun h33 => ?_)
        · replace hg := (if_pos h33).symm.trans hg
          exact r_sub [0, 1, 2, 3] rfl (J61 k17 hk17 (g_X7_layRecords_23 m k17 n) ih x1 x2 x3 rb rp mv hg)
        · replace hg := (if_neg h33).symm.trans hg
          refine r_iload_n dX7_layRecords_36 1 rfl ?_
          refine r_aload_n dX7_layRecords_37 0 rfl ?_
          refine r_iload_n dX7_layRecords_38 3 rfl ?_
          refine r_iconst (v := 0) dX7_layRecords_39 kic_0 ?_
          obtain ⟨o40, e40, hg⟩ := ob hg
          refine r_callV (As := [.int x3, .int 0]) (rest := [.int x1]) (ws' := wX Z a m ps im ik asd rb rp mv) 0 rfl rfl rfl (fun l => c_X7_at Z l a m ps im ik asd rb rp mv x3 0 o40 e40) qw_652 mv_X7_at (xPk.all rfl) ⟨Nat.le_of_ble_eq_true rfl, Nat.le_of_ble_eq_true rfl⟩ ⟨rfl, rfl⟩ ⟨Nat.zero_le _, Nat.zero_le _⟩ rfl (Nat.le_of_ble_eq_true rfl) rfl dX7_layRecords_40 ?_
          refine r_isub dX7_layRecords_43 ?_
          refine r_sipush (v := 10000) dX7_layRecords_44 ksp_10000 ?_
          refine r_iadd dX7_layRecords_47 ?_
          refine r_sipush (v := 10000) dX7_layRecords_48 ksp_10000 ?_
          refine r_irem dX7_layRecords_51 (by decide) ?_
          refine r_iload_n dX7_layRecords_52 2 rfl ?_
          refine r_icmp_ne (tgt := 61) dX7_layRecords_53 (by decide) (fun h53 => ?_) (fun h53 => ?_)
          · replace hg := (if_neg h53).symm.trans hg
            exact r_sub [0, 1, 2, 3] rfl (J61 k17 hk17 (g_X7_layRecords_23 m k17 n) ih x1 x2 x3 rb rp mv hg)
          · replace hg := (if_pos h53).symm.trans hg
            refine r_aload_n dX7_layRecords_56 0 rfl ?_
            refine r_iload_n dX7_layRecords_57 3 rfl ?_
            obtain ⟨o58, e58, hg⟩ := ob hg
            refine r_callV (As := [.int x3]) (rest := []) (ws' := wX Z a m ps im ik asd o58.1 o58.2.1 o58.2.2) 0 rfl rfl rfl (fun l => c_X7_layBlock Z l a m ps im ik asd rb rp mv x3 o58 e58) qw_786 mv_X7_layBlock (xPk.all rfl) ⟨Nat.le_of_ble_eq_true rfl, Nat.le_of_ble_eq_true rfl⟩ ⟨rfl, rfl⟩ ⟨Nat.zero_le _, Nat.zero_le _⟩ rfl (Nat.le_of_ble_eq_true rfl) rfl dX7_layRecords_58 ?_
            exact r_sub [0, 1, 2, 3] rfl (J61 k17 hk17 (g_X7_layRecords_23 m k17 n) ih x1 x2 x3 o58.1 o58.2.1 o58.2.2 hg)
  have J17 : ∀ (n : Nat), ∀ (x1 : Int32) (x2 : Int32) (rb : Nat → Int32) (rp : Nat → Int32) (mv : Nat → Int32), g_X7_layRecords_17 m n x1 x2 rb rp mv = some o → AtK X Z rm_X7_layRecords cX7_layRecords RX7 4 0 0 (wX Z a m ps im ik asd rb rp mv) 17 [(0, .ref (a 0)), (1, .int x1), (2, .int x2)] [] := by
    intro  n
    induction n with
    | zero => intro x1 x2 rb rp mv hg; exact nomatch (show (none : Option _) = some o from hg)
    | succ n ih =>
      intro x1 x2 rb rp mv hg
      unfold g_X7_layRecords_17 at hg
      refine r_iload_n dX7_layRecords_17 2 rfl ?_
      refine r_if_lt (tgt := 73) dX7_layRecords_18 (by decide) (fun h18 => ?_) (fun h18 => ?_)
      · replace hg := (if_pos h18).symm.trans hg
        exact r_vret (hE _ (Option.some.inj hg)) dX7_layRecords_73
      · replace hg := (if_neg h18).symm.trans hg
        refine r_iconst (v := 0) dX7_layRecords_21 kic_0 ?_
        refine r_istore_n (lv' := [(3, .int 0), (0, .ref (a 0)), (1, .int x1), (2, .int x2)]) dX7_layRecords_22 (by decide) rfl ?_
        exact r_sub [1, 2, 3, 0] rfl (J23 (g_X7_layRecords_17 m n) ih 8 x1 x2 0 rb rp mv hg)
  unfold g_X7_layRecords at hg
  show AtK X Z rm_X7_layRecords cX7_layRecords RX7 4 0 0 (wX Z a m ps im ik asd rb rp mv) 0 [(0, .ref (a 0))] []
  refine r_aload_n dX7_layRecords_0 0 rfl ?_
  refine r_iconst (v := 0) dX7_layRecords_1 kic_0 ?_
  refine pf_X7_8 0 rfl (Nat.le_of_ble_eq_true rfl) qw_594 dX7_layRecords_2 (ws' := wX Z a m ps im ik asd rb rp (upd mv 1 0)) rfl ?_
  refine r_aload_n dX7_layRecords_5 0 rfl ?_
  refine r_aload_n dX7_layRecords_6 0 rfl ?_
  obtain ⟨o7, e7, hg⟩ := ob hg
  refine r_callV (As := []) (rest := [.ref (a 0)]) (ws' := wX Z a m ps im ik asd rb rp (upd mv 1 0)) 0 rfl rfl rfl (fun l => c_X7_newest Z l a m ps im ik asd rb rp (upd mv 1 0)  o7 e7) qw_747 mv_X7_newest (xPk.all rfl) ⟨Nat.le_of_ble_eq_true rfl, Nat.le_of_ble_eq_true rfl⟩ ⟨rfl, rfl⟩ ⟨Nat.zero_le _, Nat.zero_le _⟩ rfl (Nat.le_of_ble_eq_true rfl) rfl dX7_layRecords_7 ?_
  refine r_iconst (v := 0) dX7_layRecords_10 kic_0 ?_
  obtain ⟨o11, e11, hg⟩ := ob hg
  refine r_callV (As := [.int o7, .int 0]) (rest := []) (ws' := wX Z a m ps im ik asd rb rp (upd mv 1 0)) 0 rfl rfl rfl (fun l => c_X7_at Z l a m ps im ik asd rb rp (upd mv 1 0) o7 0 o11 e11) qw_652 mv_X7_at (xPk.all rfl) ⟨Nat.le_of_ble_eq_true rfl, Nat.le_of_ble_eq_true rfl⟩ ⟨rfl, rfl⟩ ⟨Nat.zero_le _, Nat.zero_le _⟩ rfl (Nat.le_of_ble_eq_true rfl) rfl dX7_layRecords_11 ?_
  refine r_istore_n (lv' := [(1, .int o11), (0, .ref (a 0))]) dX7_layRecords_14 (by decide) rfl ?_
  refine r_iconst (v := 4) dX7_layRecords_15 kic_4 ?_
  refine r_istore_n (lv' := [(2, .int 4), (1, .int o11), (0, .ref (a 0))]) dX7_layRecords_16 (by decide) rfl ?_
  exact r_sub [2, 1, 0] rfl (J17 8 o11 4 rb rp (upd mv 1 0) hg)

-- TicketJournalModel.of(II)I
abbrev rm_X7_of : Room := { frames := 2, cells := 0, slots := 0, locals := 45 }
def g_X7_of (m : Nat → Int32) (rb : Nat → Int32) (rp : Nat → Int32) (n1 : Int32) (n2 : Int32) : Option (Int32) :=
  (if n1 < 0 ∨ 20 ≤ n1.toNatClampNeg then none else (if n1 < 0 ∨ 20 ≤ n1.toNatClampNeg then none else (g_X7_inPlace m (rb n1.toNatClampNeg) (rp n1.toNatClampNeg) n2).bind fun o14 => some (o14)))
set_option maxHeartbeats 4000000 in
set_option maxRecDepth 100000 in
theorem c_X7_of (Z : GZ) (l : Launch) (a : Nat → Nat) (m : Nat → Int32) (ps : Nat → Int32) (im : Nat → Int32) (ik : Nat → Int32) (asd : Nat → Int32) (rb : Nat → Int32) (rp : Nat → Int32) (mv : Nat → Int32) (n1 : Int32) (n2 : Int32) (o : (Int32)) (hg : g_X7_of m rb rp n1 n2 = some o) : Con Z l yX7_of cX7_of 3 (some .int) rm_X7_of [.ref (a 0), .int n1, .int n2] (wX Z a m ps im ik asd rb rp mv) (some (.int o)) (wX Z a m ps im ik asd rb rp mv) := by
  refine Con.of (by decide) (Nat.le_of_ble_eq_true rfl) ?_
  intro X hE0
  have hE : ∀ z, z = o → endsX X Z (some .int) (some (.int z)) (wX Z a m ps im ik asd rb rp mv) := by
    rintro _ rfl; exact hE0
  unfold g_X7_of at hg
  show AtK X Z rm_X7_of cX7_of RX7 3 0 0 (wX Z a m ps im ik asd rb rp mv) 0 [(0, .ref (a 0)), (1, .int n1), (2, .int n2)] []
  refine r_aload_n dX7_of_0 0 rfl ?_
  refine r_aload_n dX7_of_1 0 rfl ?_
  refine gf_X7_6 (v := .ref (a 6)) 0 rfl rfl qw_592 dX7_of_2 ?_
  refine r_iload_n dX7_of_5 1 rfl ?_
  obtain ⟨hi6, hg⟩ := og hg
  refine r_iald 6 rfl hi6 dX7_of_6 ?_
  refine r_aload_n dX7_of_7 0 rfl ?_
  refine gf_X7_7 (v := .ref (a 7)) 0 rfl rfl qw_593 dX7_of_8 ?_
  refine r_iload_n dX7_of_11 1 rfl ?_
  obtain ⟨hi12, hg⟩ := og hg
  refine r_iald 7 rfl hi12 dX7_of_12 ?_
  refine r_iload_n dX7_of_13 2 rfl ?_
  obtain ⟨o14, e14, hg⟩ := ob hg
  refine r_callV (As := [.int (rb n1.toNatClampNeg), .int (rp n1.toNatClampNeg), .int n2]) (rest := []) (ws' := wX Z a m ps im ik asd rb rp mv) 0 rfl rfl rfl (fun l => c_X7_inPlace Z l a m ps im ik asd rb rp mv (rb n1.toNatClampNeg) (rp n1.toNatClampNeg) n2 o14 e14) qw_690 mv_X7_inPlace (xPk.all rfl) ⟨Nat.le_of_ble_eq_true rfl, Nat.le_of_ble_eq_true rfl⟩ ⟨rfl, rfl⟩ ⟨Nat.zero_le _, Nat.zero_le _⟩ rfl (Nat.le_of_ble_eq_true rfl) rfl dX7_of_14 ?_
  exact r_iret (hE _ (Option.some.inj hg)) dX7_of_17

-- TicketJournalModel.records(I)I
abbrev rm_X7_records : Room := { frames := 7, cells := 0, slots := 0, locals := 161 }
def g_X7_records (m : Nat → Int32) (n1 : Int32) : Option (Int32) :=
  (g_X7_isIn n1 (-2) 4).bind fun o4 => (if o4 = 0 then some ((-1)) else (g_X7_count m n1).bind fun o12 => some (o12))
set_option maxHeartbeats 4000000 in
set_option maxRecDepth 100000 in
theorem c_X7_records (Z : GZ) (l : Launch) (a : Nat → Nat) (m : Nat → Int32) (ps : Nat → Int32) (im : Nat → Int32) (ik : Nat → Int32) (asd : Nat → Int32) (rb : Nat → Int32) (rp : Nat → Int32) (mv : Nat → Int32) (n1 : Int32) (o : (Int32)) (hg : g_X7_records m n1 = some o) : Con Z l yX7_records cX7_records 2 (some .int) rm_X7_records [.ref (a 0), .int n1] (wX Z a m ps im ik asd rb rp mv) (some (.int o)) (wX Z a m ps im ik asd rb rp mv) := by
  refine Con.of (by decide) (Nat.le_of_ble_eq_true rfl) ?_
  intro X hE0
  have hE : ∀ z, z = o → endsX X Z (some .int) (some (.int z)) (wX Z a m ps im ik asd rb rp mv) := by
    rintro _ rfl; exact hE0
  unfold g_X7_records at hg
  show AtK X Z rm_X7_records cX7_records RX7 2 0 0 (wX Z a m ps im ik asd rb rp mv) 0 [(0, .ref (a 0)), (1, .int n1)] []
  refine r_iload_n dX7_records_0 1 rfl ?_
  refine r_bipush (v := (-2)) dX7_records_1 kbp_m2 ?_
  refine r_iconst (v := 4) dX7_records_3 kic_4 ?_
  obtain ⟨o4, e4, hg⟩ := ob hg
  refine r_callS (As := [.int n1, .int (-2), .int 4]) (rest := []) (ws' := wX Z a m ps im ik asd rb rp mv) (fun l => c_X7_isIn Z l   n1 (-2) 4 o4 e4) qw_629 ms_X7_isIn xPk.none ⟨Nat.le_of_ble_eq_true rfl, Nat.le_of_ble_eq_true rfl⟩ ⟨rfl, rfl⟩ ⟨Nat.zero_le _, Nat.zero_le _⟩ rfl (Nat.le_of_ble_eq_true rfl) rfl dX7_records_4 ?_
  refine r_if_eq (tgt := 18) dX7_records_7 (by decide) (fun h7 => ?_) (fun h7 => ?_)
  · replace hg := (if_pos h7).symm.trans hg
    refine r_iconst (v := (-1)) dX7_records_18 kic_m1 ?_
    exact r_iret (hE _ (Option.some.inj hg)) dX7_records_19
  · replace hg := (if_neg h7).symm.trans hg
    refine r_aload_n dX7_records_10 0 rfl ?_
    refine r_iload_n dX7_records_11 1 rfl ?_
    obtain ⟨o12, e12, hg⟩ := ob hg
    refine r_callV (As := [.int n1]) (rest := []) (ws' := wX Z a m ps im ik asd rb rp mv) 0 rfl rfl rfl (fun l => c_X7_count Z l a m ps im ik asd rb rp mv n1 o12 e12) qw_723 mv_X7_count (xPk.all rfl) ⟨Nat.le_of_ble_eq_true rfl, Nat.le_of_ble_eq_true rfl⟩ ⟨rfl, rfl⟩ ⟨Nat.zero_le _, Nat.zero_le _⟩ rfl (Nat.le_of_ble_eq_true rfl) rfl dX7_records_12 ?_
    refine r_goto (tgt := 19) dX7_records_15 (by decide) ?_
    exact r_iret (hE _ (Option.some.inj hg)) dX7_records_19

-- TicketJournalModel.record(II)I
abbrev rm_X7_record : Room := { frames := 6, cells := 0, slots := 0, locals := 136 }
def g_X7_record_13 (m : Nat → Int32)  (rb : Nat → Int32) (rp : Nat → Int32) (mv : Nat → Int32) : Option (Int32 × (Nat → Int32) × (Nat → Int32) × (Nat → Int32)) :=
  some ((-1), rb, rp, mv)
def g_X7_record (m : Nat → Int32) (rb : Nat → Int32) (rp : Nat → Int32) (mv : Nat → Int32) (n1 : Int32) (n2 : Int32) : Option (Int32 × (Nat → Int32) × (Nat → Int32) × (Nat → Int32)) :=
  (if n1 < 0 then g_X7_record_13 m rb rp mv else (g_X7_isIn n2 0 5).bind fun o7 => (if o7 = 0 then g_X7_record_13 m rb rp mv else (g_X7_layRecords m rb rp mv).bind fun o16 => (if n1 < (o16.2.2 1) then (if n2 = 0 then (g_X7_of m o16.1 o16.2.1 n1 0).bind fun o67 => some ((jrem o67 10000), o16.1, o16.2.1, o16.2.2) else (if n2 = 1 then (g_X7_of m o16.1 o16.2.1 n1 0).bind fun o78 => some ((o78 / 10000), o16.1, o16.2.1, o16.2.2) else (if n2 = 2 then (g_X7_of m o16.1 o16.2.1 n1 1).bind fun o89 => some (o89, o16.1, o16.2.1, o16.2.2) else (if n2 = 3 then (g_X7_of m o16.1 o16.2.1 n1 2).bind fun o96 => some (o96, o16.1, o16.2.1, o16.2.2) else (if n2 = 4 then (if n1 < 0 ∨ 20 ≤ n1.toNatClampNeg then none else some ((o16.1 n1.toNatClampNeg), o16.1, o16.2.1, o16.2.2)) else (if n1 < 0 ∨ 20 ≤ n1.toNatClampNeg then none else some ((o16.2.1 n1.toNatClampNeg), o16.1, o16.2.1, o16.2.2))))))) else some ((-9), o16.1, o16.2.1, o16.2.2))))
set_option maxHeartbeats 4000000 in
set_option maxRecDepth 100000 in
theorem c_X7_record (Z : GZ) (l : Launch) (a : Nat → Nat) (m : Nat → Int32) (ps : Nat → Int32) (im : Nat → Int32) (ik : Nat → Int32) (asd : Nat → Int32) (rb : Nat → Int32) (rp : Nat → Int32) (mv : Nat → Int32) (n1 : Int32) (n2 : Int32) (o : (Int32 × (Nat → Int32) × (Nat → Int32) × (Nat → Int32))) (hg : g_X7_record m rb rp mv n1 n2 = some o) : Con Z l yX7_record cX7_record 3 (some .int) rm_X7_record [.ref (a 0), .int n1, .int n2] (wX Z a m ps im ik asd rb rp mv) (some (.int o.1)) (wX Z a m ps im ik asd o.2.1 o.2.2.1 o.2.2.2) := by
  refine Con.of (by decide) (Nat.le_of_ble_eq_true rfl) ?_
  intro X hE0
  have hE : ∀ z, z = o → endsX X Z (some .int) (some (.int z.1)) (wX Z a m ps im ik asd z.2.1 z.2.2.1 z.2.2.2) := by
    rintro _ rfl; exact hE0
  have J13 : ∀ (rb : Nat → Int32) (rp : Nat → Int32) (mv : Nat → Int32), g_X7_record_13 m rb rp mv = some o → AtK X Z rm_X7_record cX7_record RX7 3 0 0 (wX Z a m ps im ik asd rb rp mv) 13 [] [] := by
    intro rb rp mv hg
    unfold g_X7_record_13 at hg
    refine r_iconst (v := (-1)) dX7_record_13 kic_m1 ?_
    exact r_iret (hE _ (Option.some.inj hg)) dX7_record_14
  unfold g_X7_record at hg
  show AtK X Z rm_X7_record cX7_record RX7 3 0 0 (wX Z a m ps im ik asd rb rp mv) 0 [(0, .ref (a 0)), (1, .int n1), (2, .int n2)] []
  refine r_iload_n dX7_record_0 1 rfl ?_
  refine r_if_lt (tgt := 13) dX7_record_1 (by decide) (fun h1 => ?_) (fun h1 => ?_)
  · replace hg := (if_pos h1).symm.trans hg
    exact r_sub [] rfl (J13 rb rp mv hg)
  · replace hg := (if_neg h1).symm.trans hg
    refine r_iload_n dX7_record_4 2 rfl ?_
    refine r_iconst (v := 0) dX7_record_5 kic_0 ?_
    refine r_iconst (v := 5) dX7_record_6 kic_5 ?_
    obtain ⟨o7, e7, hg⟩ := ob hg
    refine r_callS (As := [.int n2, .int 0, .int 5]) (rest := []) (ws' := wX Z a m ps im ik asd rb rp mv) (fun l => c_X7_isIn Z l   n2 0 5 o7 e7) qw_629 ms_X7_isIn xPk.none ⟨Nat.le_of_ble_eq_true rfl, Nat.le_of_ble_eq_true rfl⟩ ⟨rfl, rfl⟩ ⟨Nat.zero_le _, Nat.zero_le _⟩ rfl (Nat.le_of_ble_eq_true rfl) rfl dX7_record_7 ?_
    refine r_if_ne (tgt := 15) dX7_record_10 (by decide) (fun h10 => ?_) (fun h10 => ?_)
    · replace hg := (if_neg h10).symm.trans hg
      refine r_aload_n dX7_record_15 0 rfl ?_
      obtain ⟨o16, e16, hg⟩ := ob hg
      refine r_callV (As := []) (rest := []) (ws' := wX Z a m ps im ik asd o16.1 o16.2.1 o16.2.2) 0 rfl rfl rfl (fun l => c_X7_layRecords Z l a m ps im ik asd rb rp mv  o16 e16) qw_782 mv_X7_layRecords (xPk.all rfl) ⟨Nat.le_of_ble_eq_true rfl, Nat.le_of_ble_eq_true rfl⟩ ⟨rfl, rfl⟩ ⟨Nat.zero_le _, Nat.zero_le _⟩ rfl (Nat.le_of_ble_eq_true rfl) rfl dX7_record_16 ?_
      refine r_iload_n dX7_record_19 1 rfl ?_
      refine r_aload_n dX7_record_20 0 rfl ?_
      refine gf_X7_8 (v := .int (o16.2.2 1)) 0 rfl rfl qw_594 dX7_record_21 ?_
      refine r_icmp_lt (tgt := 30) dX7_record_24 (by decide) (fun h24 => ?_) (fun h24 => ?_)
      · replace hg := (if_pos h24).symm.trans hg
        refine r_iload_n dX7_record_30 2 rfl ?_
        by_cases h31_0 : n2 = 0
        · replace hg := (if_pos h31_0).symm.trans hg
          refine r_tableIn (tgt := 64) (off := 33) dX7_record_31 (by rw [h31_0]; decide) (by rw [h31_0]; decide) (by rw [h31_0]; decide) (by decide) ?_
          refine r_aload_n dX7_record_64 0 rfl ?_
          refine r_iload_n dX7_record_65 1 rfl ?_
          refine r_iconst (v := 0) dX7_record_66 kic_0 ?_
          obtain ⟨o67, e67, hg⟩ := ob hg
          refine r_callV (As := [.int n1, .int 0]) (rest := []) (ws' := wX Z a m ps im ik asd o16.1 o16.2.1 o16.2.2) 0 rfl rfl rfl (fun l => c_X7_of Z l a m ps im ik asd o16.1 o16.2.1 o16.2.2 n1 0 o67 e67) qw_790 mv_X7_of (xPk.all rfl) ⟨Nat.le_of_ble_eq_true rfl, Nat.le_of_ble_eq_true rfl⟩ ⟨rfl, rfl⟩ ⟨Nat.zero_le _, Nat.zero_le _⟩ rfl (Nat.le_of_ble_eq_true rfl) rfl dX7_record_67 ?_
          refine r_sipush (v := 10000) dX7_record_70 ksp_10000 ?_
          refine r_irem dX7_record_73 (by decide) ?_
          exact r_iret (hE _ (Option.some.inj hg)) dX7_record_74
        replace hg := (if_neg h31_0).symm.trans hg
        by_cases h31_1 : n2 = 1
        · replace hg := (if_pos h31_1).symm.trans hg
          refine r_tableIn (tgt := 75) (off := 44) dX7_record_31 (by rw [h31_1]; decide) (by rw [h31_1]; decide) (by rw [h31_1]; decide) (by decide) ?_
          refine r_aload_n dX7_record_75 0 rfl ?_
          refine r_iload_n dX7_record_76 1 rfl ?_
          refine r_iconst (v := 0) dX7_record_77 kic_0 ?_
          obtain ⟨o78, e78, hg⟩ := ob hg
          refine r_callV (As := [.int n1, .int 0]) (rest := []) (ws' := wX Z a m ps im ik asd o16.1 o16.2.1 o16.2.2) 0 rfl rfl rfl (fun l => c_X7_of Z l a m ps im ik asd o16.1 o16.2.1 o16.2.2 n1 0 o78 e78) qw_790 mv_X7_of (xPk.all rfl) ⟨Nat.le_of_ble_eq_true rfl, Nat.le_of_ble_eq_true rfl⟩ ⟨rfl, rfl⟩ ⟨Nat.zero_le _, Nat.zero_le _⟩ rfl (Nat.le_of_ble_eq_true rfl) rfl dX7_record_78 ?_
          refine r_sipush (v := 10000) dX7_record_81 ksp_10000 ?_
          refine r_idiv dX7_record_84 (by decide) ?_
          exact r_iret (hE _ (Option.some.inj hg)) dX7_record_85
        replace hg := (if_neg h31_1).symm.trans hg
        by_cases h31_2 : n2 = 2
        · replace hg := (if_pos h31_2).symm.trans hg
          refine r_tableIn (tgt := 86) (off := 55) dX7_record_31 (by rw [h31_2]; decide) (by rw [h31_2]; decide) (by rw [h31_2]; decide) (by decide) ?_
          refine r_aload_n dX7_record_86 0 rfl ?_
          refine r_iload_n dX7_record_87 1 rfl ?_
          refine r_iconst (v := 1) dX7_record_88 kic_1 ?_
          obtain ⟨o89, e89, hg⟩ := ob hg
          refine r_callV (As := [.int n1, .int 1]) (rest := []) (ws' := wX Z a m ps im ik asd o16.1 o16.2.1 o16.2.2) 0 rfl rfl rfl (fun l => c_X7_of Z l a m ps im ik asd o16.1 o16.2.1 o16.2.2 n1 1 o89 e89) qw_790 mv_X7_of (xPk.all rfl) ⟨Nat.le_of_ble_eq_true rfl, Nat.le_of_ble_eq_true rfl⟩ ⟨rfl, rfl⟩ ⟨Nat.zero_le _, Nat.zero_le _⟩ rfl (Nat.le_of_ble_eq_true rfl) rfl dX7_record_89 ?_
          exact r_iret (hE _ (Option.some.inj hg)) dX7_record_92
        replace hg := (if_neg h31_2).symm.trans hg
        by_cases h31_3 : n2 = 3
        · replace hg := (if_pos h31_3).symm.trans hg
          refine r_tableIn (tgt := 93) (off := 62) dX7_record_31 (by rw [h31_3]; decide) (by rw [h31_3]; decide) (by rw [h31_3]; decide) (by decide) ?_
          refine r_aload_n dX7_record_93 0 rfl ?_
          refine r_iload_n dX7_record_94 1 rfl ?_
          refine r_iconst (v := 2) dX7_record_95 kic_2 ?_
          obtain ⟨o96, e96, hg⟩ := ob hg
          refine r_callV (As := [.int n1, .int 2]) (rest := []) (ws' := wX Z a m ps im ik asd o16.1 o16.2.1 o16.2.2) 0 rfl rfl rfl (fun l => c_X7_of Z l a m ps im ik asd o16.1 o16.2.1 o16.2.2 n1 2 o96 e96) qw_790 mv_X7_of (xPk.all rfl) ⟨Nat.le_of_ble_eq_true rfl, Nat.le_of_ble_eq_true rfl⟩ ⟨rfl, rfl⟩ ⟨Nat.zero_le _, Nat.zero_le _⟩ rfl (Nat.le_of_ble_eq_true rfl) rfl dX7_record_96 ?_
          exact r_iret (hE _ (Option.some.inj hg)) dX7_record_99
        replace hg := (if_neg h31_3).symm.trans hg
        by_cases h31_4 : n2 = 4
        · replace hg := (if_pos h31_4).symm.trans hg
          refine r_tableIn (tgt := 100) (off := 69) dX7_record_31 (by rw [h31_4]; decide) (by rw [h31_4]; decide) (by rw [h31_4]; decide) (by decide) ?_
          refine r_aload_n dX7_record_100 0 rfl ?_
          refine gf_X7_6 (v := .ref (a 6)) 0 rfl rfl qw_592 dX7_record_101 ?_
          refine r_iload_n dX7_record_104 1 rfl ?_
          obtain ⟨hi105, hg⟩ := og hg
          refine r_iald 6 rfl hi105 dX7_record_105 ?_
          exact r_iret (hE _ (Option.some.inj hg)) dX7_record_106
        replace hg := (if_neg h31_4).symm.trans hg
        have n31_0 : ¬ n2.toInt = 0 := x_nei (by decide) h31_0
        have n31_1 : ¬ n2.toInt = 1 := x_nei (by decide) h31_1
        have n31_2 : ¬ n2.toInt = 2 := x_nei (by decide) h31_2
        have n31_3 : ¬ n2.toInt = 3 := x_nei (by decide) h31_3
        have n31_4 : ¬ n2.toInt = 4 := x_nei (by decide) h31_4
        refine r_tableOut (tgt := 107) dX7_record_31 (by omega) (by decide) ?_
        refine r_aload_n dX7_record_107 0 rfl ?_
        refine gf_X7_7 (v := .ref (a 7)) 0 rfl rfl qw_593 dX7_record_108 ?_
        refine r_iload_n dX7_record_111 1 rfl ?_
        obtain ⟨hi112, hg⟩ := og hg
        refine r_iald 7 rfl hi112 dX7_record_112 ?_
        exact r_iret (hE _ (Option.some.inj hg)) dX7_record_113
      · replace hg := (if_neg h24).symm.trans hg
        refine r_bipush (v := (-9)) dX7_record_27 kbp_m9 ?_
        exact r_iret (hE _ (Option.some.inj hg)) dX7_record_29
    · replace hg := (if_pos h10).symm.trans hg
      exact r_sub [] rfl (J13 rb rp mv hg)

-- TicketJournalModel.takings(I)I
abbrev rm_X7_takings : Room := { frames := 6, cells := 0, slots := 0, locals := 136 }
def g_X7_takings_110 (m : Nat → Int32) (k19 : Int32 → Int32 → Int32 → (Nat → Int32) → (Nat → Int32) → (Nat → Int32) → Option (Int32 × (Nat → Int32) × (Nat → Int32) × (Nat → Int32))) (x1 : Int32) (x3 : Int32) (t0 : Int32) (t1 : Int32) (rb : Nat → Int32) (rp : Nat → Int32) (mv : Nat → Int32) : Option (Int32 × (Nat → Int32) × (Nat → Int32) × (Nat → Int32)) :=
  k19 x1 (t0 + t1) (x3 + 1) rb rp mv
def g_X7_takings_69 (m : Nat → Int32) (k19 : Int32 → Int32 → Int32 → (Nat → Int32) → (Nat → Int32) → (Nat → Int32) → Option (Int32 × (Nat → Int32) × (Nat → Int32) × (Nat → Int32))) (x1 : Int32) (x2 : Int32) (x3 : Int32) (x4 : Int32) (t0 : Int32) (rb : Nat → Int32) (rp : Nat → Int32) (mv : Nat → Int32) : Option (Int32 × (Nat → Int32) × (Nat → Int32) × (Nat → Int32)) :=
  (if t0 = 0 then g_X7_takings_110 m k19 x1 x3 x2 0 rb rp mv else (if x4 = 0 then (g_X7_of m rb rp x3 2).bind fun o89 => g_X7_takings_110 m k19 x1 x3 x2 (jrem o89 1000) rb rp mv else (g_X7_of m rb rp x3 2).bind fun o102 => g_X7_takings_110 m k19 x1 x3 x2 (-(jrem o102 1000)) rb rp mv))
def g_X7_takings_68 (m : Nat → Int32) (k19 : Int32 → Int32 → Int32 → (Nat → Int32) → (Nat → Int32) → (Nat → Int32) → Option (Int32 × (Nat → Int32) × (Nat → Int32) × (Nat → Int32))) (x1 : Int32) (x2 : Int32) (x3 : Int32) (x4 : Int32) (rb : Nat → Int32) (rp : Nat → Int32) (mv : Nat → Int32) : Option (Int32 × (Nat → Int32) × (Nat → Int32) × (Nat → Int32)) :=
  g_X7_takings_69 m k19 x1 x2 x3 x4 0 rb rp mv
def g_X7_takings_64 (m : Nat → Int32) (k19 : Int32 → Int32 → Int32 → (Nat → Int32) → (Nat → Int32) → (Nat → Int32) → Option (Int32 × (Nat → Int32) × (Nat → Int32) × (Nat → Int32))) (x1 : Int32) (x2 : Int32) (x3 : Int32) (x4 : Int32) (rb : Nat → Int32) (rp : Nat → Int32) (mv : Nat → Int32) : Option (Int32 × (Nat → Int32) × (Nat → Int32) × (Nat → Int32)) :=
  g_X7_takings_69 m k19 x1 x2 x3 x4 1 rb rp mv
def g_X7_takings_19 (m : Nat → Int32)  : Nat → Int32 → Int32 → Int32 → (Nat → Int32) → (Nat → Int32) → (Nat → Int32) → Option (Int32 × (Nat → Int32) × (Nat → Int32) × (Nat → Int32))
  | 0 => fun _ _ _ _ _ _ => none
  | n + 1 => fun x1 x2 x3 rb rp mv => (if (mv 1) ≤ x3 then some (x2, rb, rp, mv) else (g_X7_of m rb rp x3 0).bind fun o30 => (if 2 ≤ (o30 / 10000) then g_X7_takings_68 m (g_X7_takings_19 m n) x1 x2 x3 (o30 / 10000) rb rp mv else (if x1 = (-1) then g_X7_takings_64 m (g_X7_takings_19 m n) x1 x2 x3 (o30 / 10000) rb rp mv else (g_X7_of m rb rp x3 2).bind fun o53 => (if (o53 / 1000) = x1 then g_X7_takings_64 m (g_X7_takings_19 m n) x1 x2 x3 (o30 / 10000) rb rp mv else g_X7_takings_68 m (g_X7_takings_19 m n) x1 x2 x3 (o30 / 10000) rb rp mv))))
def g_X7_takings (m : Nat → Int32) (rb : Nat → Int32) (rp : Nat → Int32) (mv : Nat → Int32) (n1 : Int32) : Option (Int32 × (Nat → Int32) × (Nat → Int32) × (Nat → Int32)) :=
  (g_X7_isIn n1 (-1) 3).bind fun o3 => (if o3 = 0 then some ((-1), rb, rp, mv) else (g_X7_layRecords m rb rp mv).bind fun o12 => g_X7_takings_19 m 30 n1 0 0 o12.1 o12.2.1 o12.2.2)
set_option maxHeartbeats 4000000 in
set_option maxRecDepth 100000 in
theorem c_X7_takings (Z : GZ) (l : Launch) (a : Nat → Nat) (m : Nat → Int32) (ps : Nat → Int32) (im : Nat → Int32) (ik : Nat → Int32) (asd : Nat → Int32) (rb : Nat → Int32) (rp : Nat → Int32) (mv : Nat → Int32) (n1 : Int32) (o : (Int32 × (Nat → Int32) × (Nat → Int32) × (Nat → Int32))) (hg : g_X7_takings m rb rp mv n1 = some o) : Con Z l yX7_takings cX7_takings 6 (some .int) rm_X7_takings [.ref (a 0), .int n1] (wX Z a m ps im ik asd rb rp mv) (some (.int o.1)) (wX Z a m ps im ik asd o.2.1 o.2.2.1 o.2.2.2) := by
  refine Con.of (by decide) (Nat.le_of_ble_eq_true rfl) ?_
  intro X hE0
  have hE : ∀ z, z = o → endsX X Z (some .int) (some (.int z.1)) (wX Z a m ps im ik asd z.2.1 z.2.2.1 z.2.2.2) := by
    rintro _ rfl; exact hE0
  have J110 : ∀ (k19 : Int32 → Int32 → Int32 → (Nat → Int32) → (Nat → Int32) → (Nat → Int32) → Option (Int32 × (Nat → Int32) × (Nat → Int32) × (Nat → Int32))) (hk19 : ∀ (x1 : Int32) (x2 : Int32) (x3 : Int32) (rb : Nat → Int32) (rp : Nat → Int32) (mv : Nat → Int32), k19 x1 x2 x3 rb rp mv = some o → AtK X Z rm_X7_takings cX7_takings RX7 6 0 0 (wX Z a m ps im ik asd rb rp mv) 19 [(0, .ref (a 0)), (1, .int x1), (2, .int x2), (3, .int x3)] []), ∀ (x1 : Int32) (x3 : Int32) (t0 : Int32) (t1 : Int32) (rb : Nat → Int32) (rp : Nat → Int32) (mv : Nat → Int32), g_X7_takings_110 m k19 x1 x3 t0 t1 rb rp mv = some o → AtK X Z rm_X7_takings cX7_takings RX7 6 0 0 (wX Z a m ps im ik asd rb rp mv) 110 [(0, .ref (a 0)), (1, .int x1), (3, .int x3)] [.int t1, .int t0] := by
    intro k19 hk19 x1 x3 t0 t1 rb rp mv hg
    unfold g_X7_takings_110 at hg
    refine r_iadd dX7_takings_110 ?_
    refine r_istore_n (lv' := [(2, .int (t0 + t1)), (0, .ref (a 0)), (1, .int x1), (3, .int x3)]) dX7_takings_111 (by decide) rfl ?_
    refine r_iinc (v := (x3 + 1)) (lv' := [(3, .int (x3 + 1)), (2, .int (t0 + t1)), (0, .ref (a 0)), (1, .int x1)]) dX7_takings_112 (k := 3) rfl rfl (by decide) rfl ?_
    refine r_goto (tgt := 19) dX7_takings_115 (by decide) ?_
    exact r_sub [2, 3, 1, 0] rfl (hk19 x1 (t0 + t1) (x3 + 1) rb rp mv hg)
  have J69 : ∀ (k19 : Int32 → Int32 → Int32 → (Nat → Int32) → (Nat → Int32) → (Nat → Int32) → Option (Int32 × (Nat → Int32) × (Nat → Int32) × (Nat → Int32))) (hk19 : ∀ (x1 : Int32) (x2 : Int32) (x3 : Int32) (rb : Nat → Int32) (rp : Nat → Int32) (mv : Nat → Int32), k19 x1 x2 x3 rb rp mv = some o → AtK X Z rm_X7_takings cX7_takings RX7 6 0 0 (wX Z a m ps im ik asd rb rp mv) 19 [(0, .ref (a 0)), (1, .int x1), (2, .int x2), (3, .int x3)] []), ∀ (x1 : Int32) (x2 : Int32) (x3 : Int32) (x4 : Int32) (t0 : Int32) (rb : Nat → Int32) (rp : Nat → Int32) (mv : Nat → Int32), g_X7_takings_69 m k19 x1 x2 x3 x4 t0 rb rp mv = some o → AtK X Z rm_X7_takings cX7_takings RX7 6 0 0 (wX Z a m ps im ik asd rb rp mv) 69 [(0, .ref (a 0)), (1, .int x1), (2, .int x2), (3, .int x3), (4, .int x4)] [.int t0] := by
    intro k19 hk19 x1 x2 x3 x4 t0 rb rp mv hg
    unfold g_X7_takings_69 at hg
    refine r_istore (lv' := [(5, .int t0), (0, .ref (a 0)), (1, .int x1), (2, .int x2), (3, .int x3), (4, .int x4)]) dX7_takings_69 (by decide) rfl ?_
    refine r_iload_n dX7_takings_71 3 rfl ?_
    refine r_iload dX7_takings_72 0 rfl ?_
    refine r_if_ne (tgt := 81) dX7_takings_74 (by decide) (fun h74 => ?_) (fun h74 => ?_)
    · replace hg := (if_neg h74).symm.trans hg
      refine r_iload dX7_takings_81 5 rfl ?_
      refine r_if_ne (tgt := 99) dX7_takings_83 (by decide) (fun h83 => ?_) (fun h83 => ?_)
      · replace hg := (if_neg h83).symm.trans hg
        refine r_aload_n dX7_takings_99 1 rfl ?_
        refine r_iload_n dX7_takings_100 4 rfl ?_
        refine r_iconst (v := 2) dX7_takings_101 kic_2 ?_
        obtain ⟨o102, e102, hg⟩ := ob hg
        refine r_callV (As := [.int x3, .int 2]) (rest := [.int x2]) (ws' := wX Z a m ps im ik asd rb rp mv) 0 rfl rfl rfl (fun l => c_X7_of Z l a m ps im ik asd rb rp mv x3 2 o102 e102) qw_790 mv_X7_of (xPk.all rfl) ⟨Nat.le_of_ble_eq_true rfl, Nat.le_of_ble_eq_true rfl⟩ ⟨rfl, rfl⟩ ⟨Nat.zero_le _, Nat.zero_le _⟩ rfl (Nat.le_of_ble_eq_true rfl) rfl dX7_takings_102 ?_
        refine r_sipush (v := 1000) dX7_takings_105 ksp_1000 ?_
        refine r_irem dX7_takings_108 (by decide) ?_
        refine r_ineg dX7_takings_109 ?_
        exact r_sub [1, 2, 4] rfl (J110 k19 hk19 x1 x3 x2 (-(jrem o102 1000)) rb rp mv hg)
      · replace hg := (if_pos h83).symm.trans hg
        refine r_aload_n dX7_takings_86 1 rfl ?_
        refine r_iload_n dX7_takings_87 4 rfl ?_
        refine r_iconst (v := 2) dX7_takings_88 kic_2 ?_
        obtain ⟨o89, e89, hg⟩ := ob hg
        refine r_callV (As := [.int x3, .int 2]) (rest := [.int x2]) (ws' := wX Z a m ps im ik asd rb rp mv) 0 rfl rfl rfl (fun l => c_X7_of Z l a m ps im ik asd rb rp mv x3 2 o89 e89) qw_790 mv_X7_of (xPk.all rfl) ⟨Nat.le_of_ble_eq_true rfl, Nat.le_of_ble_eq_true rfl⟩ ⟨rfl, rfl⟩ ⟨Nat.zero_le _, Nat.zero_le _⟩ rfl (Nat.le_of_ble_eq_true rfl) rfl dX7_takings_89 ?_
        refine r_sipush (v := 1000) dX7_takings_92 ksp_1000 ?_
        refine r_irem dX7_takings_95 (by decide) ?_
        refine r_goto (tgt := 110) dX7_takings_96 (by decide) ?_
        exact r_sub [1, 2, 4] rfl (J110 k19 hk19 x1 x3 x2 (jrem o89 1000) rb rp mv hg)
    · replace hg := (if_pos h74).symm.trans hg
      refine r_iconst (v := 0) dX7_takings_77 kic_0 ?_
      refine r_goto (tgt := 110) dX7_takings_78 (by decide) ?_
      exact r_sub [1, 2, 4] rfl (J110 k19 hk19 x1 x3 x2 0 rb rp mv hg)
  have J68 : ∀ (k19 : Int32 → Int32 → Int32 → (Nat → Int32) → (Nat → Int32) → (Nat → Int32) → Option (Int32 × (Nat → Int32) × (Nat → Int32) × (Nat → Int32))) (hk19 : ∀ (x1 : Int32) (x2 : Int32) (x3 : Int32) (rb : Nat → Int32) (rp : Nat → Int32) (mv : Nat → Int32), k19 x1 x2 x3 rb rp mv = some o → AtK X Z rm_X7_takings cX7_takings RX7 6 0 0 (wX Z a m ps im ik asd rb rp mv) 19 [(0, .ref (a 0)), (1, .int x1), (2, .int x2), (3, .int x3)] []), ∀ (x1 : Int32) (x2 : Int32) (x3 : Int32) (x4 : Int32) (rb : Nat → Int32) (rp : Nat → Int32) (mv : Nat → Int32), g_X7_takings_68 m k19 x1 x2 x3 x4 rb rp mv = some o → AtK X Z rm_X7_takings cX7_takings RX7 6 0 0 (wX Z a m ps im ik asd rb rp mv) 68 [(0, .ref (a 0)), (1, .int x1), (2, .int x2), (3, .int x3), (4, .int x4)] [] := by
    intro k19 hk19 x1 x2 x3 x4 rb rp mv hg
    unfold g_X7_takings_68 at hg
    refine r_iconst (v := 0) dX7_takings_68 kic_0 ?_
    exact r_sub [0, 1, 2, 3, 4] rfl (J69 k19 hk19 x1 x2 x3 x4 0 rb rp mv hg)
  have J64 : ∀ (k19 : Int32 → Int32 → Int32 → (Nat → Int32) → (Nat → Int32) → (Nat → Int32) → Option (Int32 × (Nat → Int32) × (Nat → Int32) × (Nat → Int32))) (hk19 : ∀ (x1 : Int32) (x2 : Int32) (x3 : Int32) (rb : Nat → Int32) (rp : Nat → Int32) (mv : Nat → Int32), k19 x1 x2 x3 rb rp mv = some o → AtK X Z rm_X7_takings cX7_takings RX7 6 0 0 (wX Z a m ps im ik asd rb rp mv) 19 [(0, .ref (a 0)), (1, .int x1), (2, .int x2), (3, .int x3)] []), ∀ (x1 : Int32) (x2 : Int32) (x3 : Int32) (x4 : Int32) (rb : Nat → Int32) (rp : Nat → Int32) (mv : Nat → Int32), g_X7_takings_64 m k19 x1 x2 x3 x4 rb rp mv = some o → AtK X Z rm_X7_takings cX7_takings RX7 6 0 0 (wX Z a m ps im ik asd rb rp mv) 64 [(0, .ref (a 0)), (1, .int x1), (2, .int x2), (3, .int x3), (4, .int x4)] [] := by
    intro k19 hk19 x1 x2 x3 x4 rb rp mv hg
    unfold g_X7_takings_64 at hg
    refine r_iconst (v := 1) dX7_takings_64 kic_1 ?_
    refine r_goto (tgt := 69) dX7_takings_65 (by decide) ?_
    exact r_sub [0, 1, 2, 3, 4] rfl (J69 k19 hk19 x1 x2 x3 x4 1 rb rp mv hg)
  have J19 : ∀ (n : Nat), ∀ (x1 : Int32) (x2 : Int32) (x3 : Int32) (rb : Nat → Int32) (rp : Nat → Int32) (mv : Nat → Int32), g_X7_takings_19 m n x1 x2 x3 rb rp mv = some o → AtK X Z rm_X7_takings cX7_takings RX7 6 0 0 (wX Z a m ps im ik asd rb rp mv) 19 [(0, .ref (a 0)), (1, .int x1), (2, .int x2), (3, .int x3)] [] := by
    intro  n
    induction n with
    | zero => intro x1 x2 x3 rb rp mv hg; exact nomatch (show (none : Option _) = some o from hg)
    | succ n ih =>
      intro x1 x2 x3 rb rp mv hg
      unfold g_X7_takings_19 at hg
      refine r_iload_n dX7_takings_19 3 rfl ?_
      refine r_aload_n dX7_takings_20 0 rfl ?_
      refine gf_X7_8 (v := .int (mv 1)) 0 rfl rfl qw_594 dX7_takings_21 ?_
      refine r_icmp_ge (tgt := 118) dX7_takings_24 (by decide) (fun h24 => ?_) (fun h24 => ?_)
      · replace hg := (if_pos h24).symm.trans hg
        refine r_iload_n dX7_takings_118 2 rfl ?_
        exact r_iret (hE _ (Option.some.inj hg)) dX7_takings_119
      · replace hg := (if_neg h24).symm.trans hg
        refine r_aload_n dX7_takings_27 0 rfl ?_
        refine r_iload_n dX7_takings_28 3 rfl ?_
        refine r_iconst (v := 0) dX7_takings_29 kic_0 ?_
        obtain ⟨o30, e30, hg⟩ := ob hg
        refine r_callV (As := [.int x3, .int 0]) (rest := []) (ws' := wX Z a m ps im ik asd rb rp mv) 0 rfl rfl rfl (fun l => c_X7_of Z l a m ps im ik asd rb rp mv x3 0 o30 e30) qw_790 mv_X7_of (xPk.all rfl) ⟨Nat.le_of_ble_eq_true rfl, Nat.le_of_ble_eq_true rfl⟩ ⟨rfl, rfl⟩ ⟨Nat.zero_le _, Nat.zero_le _⟩ rfl (Nat.le_of_ble_eq_true rfl) rfl dX7_takings_30 ?_
        refine r_sipush (v := 10000) dX7_takings_33 ksp_10000 ?_
        refine r_idiv dX7_takings_36 (by decide) ?_
        refine r_istore (lv' := [(4, .int (o30 / 10000)), (0, .ref (a 0)), (1, .int x1), (2, .int x2), (3, .int x3)]) dX7_takings_37 (by decide) rfl ?_
        refine r_iload dX7_takings_39 0 rfl ?_
        refine r_iconst (v := 2) dX7_takings_41 kic_2 ?_
        refine r_icmp_ge (tgt := 68) dX7_takings_42 (by decide) (fun h42 => ?_) (fun h42 => ?_)
        · replace hg := (if_pos h42).symm.trans hg
          exact r_sub [1, 2, 3, 4, 0] rfl (J68 (g_X7_takings_19 m n) ih x1 x2 x3 (o30 / 10000) rb rp mv hg)
        · replace hg := (if_neg h42).symm.trans hg
          refine r_iload_n dX7_takings_45 2 rfl ?_
          refine r_iconst (v := (-1)) dX7_takings_46 kic_m1 ?_
          refine r_icmp_eq (tgt := 64) dX7_takings_47 (by decide) (fun h47 => ?_) (fun h47 => ?_)
          · replace hg := (if_pos h47).symm.trans hg
            exact r_sub [1, 2, 3, 4, 0] rfl (J64 (g_X7_takings_19 m n) ih x1 x2 x3 (o30 / 10000) rb rp mv hg)
          · replace hg := (if_neg h47).symm.trans hg
            refine r_aload_n dX7_takings_50 1 rfl ?_
            refine r_iload_n dX7_takings_51 4 rfl ?_
            refine r_iconst (v := 2) dX7_takings_52 kic_2 ?_
            obtain ⟨o53, e53, hg⟩ := ob hg
            refine r_callV (As := [.int x3, .int 2]) (rest := []) (ws' := wX Z a m ps im ik asd rb rp mv) 0 rfl rfl rfl (fun l => c_X7_of Z l a m ps im ik asd rb rp mv x3 2 o53 e53) qw_790 mv_X7_of (xPk.all rfl) ⟨Nat.le_of_ble_eq_true rfl, Nat.le_of_ble_eq_true rfl⟩ ⟨rfl, rfl⟩ ⟨Nat.zero_le _, Nat.zero_le _⟩ rfl (Nat.le_of_ble_eq_true rfl) rfl dX7_takings_53 ?_
            refine r_sipush (v := 1000) dX7_takings_56 ksp_1000 ?_
            refine r_idiv dX7_takings_59 (by decide) ?_
            refine r_iload_n dX7_takings_60 2 rfl ?_
            refine r_icmp_ne (tgt := 68) dX7_takings_61 (by decide) (fun h61 => ?_) (fun h61 => ?_)
            · replace hg := (if_neg h61).symm.trans hg
              exact r_sub [1, 2, 3, 4, 0] rfl (J68 (g_X7_takings_19 m n) ih x1 x2 x3 (o30 / 10000) rb rp mv hg)
            · replace hg := (if_pos h61).symm.trans hg
              exact r_sub [1, 2, 3, 4, 0] rfl (J64 (g_X7_takings_19 m n) ih x1 x2 x3 (o30 / 10000) rb rp mv hg)
  unfold g_X7_takings at hg
  show AtK X Z rm_X7_takings cX7_takings RX7 6 0 0 (wX Z a m ps im ik asd rb rp mv) 0 [(0, .ref (a 0)), (1, .int n1)] []
  refine r_iload_n dX7_takings_0 1 rfl ?_
  refine r_iconst (v := (-1)) dX7_takings_1 kic_m1 ?_
  refine r_iconst (v := 3) dX7_takings_2 kic_3 ?_
  obtain ⟨o3, e3, hg⟩ := ob hg
  refine r_callS (As := [.int n1, .int (-1), .int 3]) (rest := []) (ws' := wX Z a m ps im ik asd rb rp mv) (fun l => c_X7_isIn Z l   n1 (-1) 3 o3 e3) qw_629 ms_X7_isIn xPk.none ⟨Nat.le_of_ble_eq_true rfl, Nat.le_of_ble_eq_true rfl⟩ ⟨rfl, rfl⟩ ⟨Nat.zero_le _, Nat.zero_le _⟩ rfl (Nat.le_of_ble_eq_true rfl) rfl dX7_takings_3 ?_
  refine r_if_ne (tgt := 11) dX7_takings_6 (by decide) (fun h6 => ?_) (fun h6 => ?_)
  · replace hg := (if_neg h6).symm.trans hg
    refine r_aload_n dX7_takings_11 0 rfl ?_
    obtain ⟨o12, e12, hg⟩ := ob hg
    refine r_callV (As := []) (rest := []) (ws' := wX Z a m ps im ik asd o12.1 o12.2.1 o12.2.2) 0 rfl rfl rfl (fun l => c_X7_layRecords Z l a m ps im ik asd rb rp mv  o12 e12) qw_782 mv_X7_layRecords (xPk.all rfl) ⟨Nat.le_of_ble_eq_true rfl, Nat.le_of_ble_eq_true rfl⟩ ⟨rfl, rfl⟩ ⟨Nat.zero_le _, Nat.zero_le _⟩ rfl (Nat.le_of_ble_eq_true rfl) rfl dX7_takings_12 ?_
    refine r_iconst (v := 0) dX7_takings_15 kic_0 ?_
    refine r_istore_n (lv' := [(2, .int 0), (0, .ref (a 0)), (1, .int n1)]) dX7_takings_16 (by decide) rfl ?_
    refine r_iconst (v := 0) dX7_takings_17 kic_0 ?_
    refine r_istore_n (lv' := [(3, .int 0), (2, .int 0), (0, .ref (a 0)), (1, .int n1)]) dX7_takings_18 (by decide) rfl ?_
    exact r_sub [2, 3, 1, 0] rfl (J19 30 n1 0 0 o12.1 o12.2.1 o12.2.2 hg)
  · replace hg := (if_pos h6).symm.trans hg
    refine r_iconst (v := (-1)) dX7_takings_9 kic_m1 ?_
    exact r_iret (hE _ (Option.some.inj hg)) dX7_takings_10

-- TicketJournalModel.times(I)I
abbrev rm_X7_times : Room := { frames := 6, cells := 0, slots := 0, locals := 136 }
def g_X7_times_125 (m : Nat → Int32) (k25 : Int32 → Int32 → Int32 → Int32 → Int32 → (Nat → Int32) → (Nat → Int32) → (Nat → Int32) → Option (Int32 × (Nat → Int32) × (Nat → Int32) × (Nat → Int32))) (x1 : Int32) (x2 : Int32) (x3 : Int32) (x5 : Int32) (t0 : Int32) (t1 : Int32) (rb : Nat → Int32) (rp : Nat → Int32) (mv : Nat → Int32) : Option (Int32 × (Nat → Int32) × (Nat → Int32) × (Nat → Int32)) :=
  k25 x1 x2 x3 (t0 + t1) (x5 + 1) rb rp mv
def g_X7_times_84 (m : Nat → Int32) (k25 : Int32 → Int32 → Int32 → Int32 → Int32 → (Nat → Int32) → (Nat → Int32) → (Nat → Int32) → Option (Int32 × (Nat → Int32) × (Nat → Int32) × (Nat → Int32))) (x1 : Int32) (x2 : Int32) (x4 : Int32) (x5 : Int32) (t0 : Int32) (rb : Nat → Int32) (rp : Nat → Int32) (mv : Nat → Int32) : Option (Int32 × (Nat → Int32) × (Nat → Int32) × (Nat → Int32)) :=
  (g_X7_of m rb rp x5 0).bind fun o91 => (g_X7_of m rb rp (x5 - 1) 0).bind fun o104 => (if (jrem o91 10000) = (jrem ((jrem o104 10000) + 1) 10000) then g_X7_times_125 m k25 x1 x2 t0 x5 x4 0 rb rp mv else g_X7_times_125 m k25 x1 x2 t0 x5 x4 1 rb rp mv)
def g_X7_times_78 (m : Nat → Int32) (k25 : Int32 → Int32 → Int32 → Int32 → Int32 → (Nat → Int32) → (Nat → Int32) → (Nat → Int32) → Option (Int32 × (Nat → Int32) × (Nat → Int32) × (Nat → Int32))) (x1 : Int32) (x2 : Int32) (x4 : Int32) (x5 : Int32) (x6 : Int32) (rb : Nat → Int32) (rp : Nat → Int32) (mv : Nat → Int32) : Option (Int32 × (Nat → Int32) × (Nat → Int32) × (Nat → Int32)) :=
  g_X7_times_84 m k25 x1 x2 x4 x5 x6 rb rp mv
def g_X7_times_64 (m : Nat → Int32) (k25 : Int32 → Int32 → Int32 → Int32 → Int32 → (Nat → Int32) → (Nat → Int32) → (Nat → Int32) → Option (Int32 × (Nat → Int32) × (Nat → Int32) × (Nat → Int32))) (x1 : Int32) (x3 : Int32) (x4 : Int32) (x5 : Int32) (x6 : Int32) (t0 : Int32) (t1 : Int32) (rb : Nat → Int32) (rp : Nat → Int32) (mv : Nat → Int32) : Option (Int32 × (Nat → Int32) × (Nat → Int32) × (Nat → Int32)) :=
  (if x5 = 1 then g_X7_times_78 m k25 x1 (t0 + t1) x4 x5 x6 rb rp mv else (if x6 ≤ x3 then g_X7_times_84 m k25 x1 (t0 + t1) x4 x5 x3 rb rp mv else g_X7_times_78 m k25 x1 (t0 + t1) x4 x5 x6 rb rp mv))
def g_X7_times_25 (m : Nat → Int32)  : Nat → Int32 → Int32 → Int32 → Int32 → Int32 → (Nat → Int32) → (Nat → Int32) → (Nat → Int32) → Option (Int32 × (Nat → Int32) × (Nat → Int32) × (Nat → Int32))
  | 0 => fun _ _ _ _ _ _ _ _ => none
  | n + 1 => fun x1 x2 x3 x4 x5 rb rp mv => (if (mv 1) ≤ x5 then (if x1 = 0 then some (x2, rb, rp, mv) else (if x1 = 1 then some (x3, rb, rp, mv) else some (x4, rb, rp, mv))) else (g_X7_of m rb rp x5 1).bind fun o38 => (g_X7_of m rb rp (x5 - 1) 1).bind fun o47 => (if 0 ≤ (o38 - o47) then g_X7_times_64 m (g_X7_times_25 m n) x1 x3 x4 x5 (o38 - o47) x2 0 rb rp mv else g_X7_times_64 m (g_X7_times_25 m n) x1 x3 x4 x5 (o38 - o47) x2 1 rb rp mv))
def g_X7_times (m : Nat → Int32) (rb : Nat → Int32) (rp : Nat → Int32) (mv : Nat → Int32) (n1 : Int32) : Option (Int32 × (Nat → Int32) × (Nat → Int32) × (Nat → Int32)) :=
  (g_X7_isIn n1 0 2).bind fun o3 => (if o3 = 0 then some ((-1), rb, rp, mv) else (g_X7_layRecords m rb rp mv).bind fun o12 => g_X7_times_25 m 30 n1 0 0 0 1 o12.1 o12.2.1 o12.2.2)
set_option maxHeartbeats 4000000 in
set_option maxRecDepth 100000 in
theorem c_X7_times (Z : GZ) (l : Launch) (a : Nat → Nat) (m : Nat → Int32) (ps : Nat → Int32) (im : Nat → Int32) (ik : Nat → Int32) (asd : Nat → Int32) (rb : Nat → Int32) (rp : Nat → Int32) (mv : Nat → Int32) (n1 : Int32) (o : (Int32 × (Nat → Int32) × (Nat → Int32) × (Nat → Int32))) (hg : g_X7_times m rb rp mv n1 = some o) : Con Z l yX7_times cX7_times 7 (some .int) rm_X7_times [.ref (a 0), .int n1] (wX Z a m ps im ik asd rb rp mv) (some (.int o.1)) (wX Z a m ps im ik asd o.2.1 o.2.2.1 o.2.2.2) := by
  refine Con.of (by decide) (Nat.le_of_ble_eq_true rfl) ?_
  intro X hE0
  have hE : ∀ z, z = o → endsX X Z (some .int) (some (.int z.1)) (wX Z a m ps im ik asd z.2.1 z.2.2.1 z.2.2.2) := by
    rintro _ rfl; exact hE0
  have J125 : ∀ (k25 : Int32 → Int32 → Int32 → Int32 → Int32 → (Nat → Int32) → (Nat → Int32) → (Nat → Int32) → Option (Int32 × (Nat → Int32) × (Nat → Int32) × (Nat → Int32))) (hk25 : ∀ (x1 : Int32) (x2 : Int32) (x3 : Int32) (x4 : Int32) (x5 : Int32) (rb : Nat → Int32) (rp : Nat → Int32) (mv : Nat → Int32), k25 x1 x2 x3 x4 x5 rb rp mv = some o → AtK X Z rm_X7_times cX7_times RX7 7 0 0 (wX Z a m ps im ik asd rb rp mv) 25 [(0, .ref (a 0)), (1, .int x1), (2, .int x2), (3, .int x3), (4, .int x4), (5, .int x5)] []), ∀ (x1 : Int32) (x2 : Int32) (x3 : Int32) (x5 : Int32) (t0 : Int32) (t1 : Int32) (rb : Nat → Int32) (rp : Nat → Int32) (mv : Nat → Int32), g_X7_times_125 m k25 x1 x2 x3 x5 t0 t1 rb rp mv = some o → AtK X Z rm_X7_times cX7_times RX7 7 0 0 (wX Z a m ps im ik asd rb rp mv) 125 [(0, .ref (a 0)), (1, .int x1), (2, .int x2), (3, .int x3), (5, .int x5)] [.int t1, .int t0] := by
    intro k25 hk25 x1 x2 x3 x5 t0 t1 rb rp mv hg
    unfold g_X7_times_125 at hg
    refine r_iadd dX7_times_125 ?_
    refine r_istore (lv' := [(4, .int (t0 + t1)), (0, .ref (a 0)), (1, .int x1), (2, .int x2), (3, .int x3), (5, .int x5)]) dX7_times_126 (by decide) rfl ?_
    refine r_iinc (v := (x5 + 1)) (lv' := [(5, .int (x5 + 1)), (4, .int (t0 + t1)), (0, .ref (a 0)), (1, .int x1), (2, .int x2), (3, .int x3)]) dX7_times_128 (k := 5) rfl rfl (by decide) rfl ?_
    refine r_goto (tgt := 25) dX7_times_131 (by decide) ?_
    exact r_sub [2, 3, 4, 5, 1, 0] rfl (hk25 x1 x2 x3 (t0 + t1) (x5 + 1) rb rp mv hg)
  have J84 : ∀ (k25 : Int32 → Int32 → Int32 → Int32 → Int32 → (Nat → Int32) → (Nat → Int32) → (Nat → Int32) → Option (Int32 × (Nat → Int32) × (Nat → Int32) × (Nat → Int32))) (hk25 : ∀ (x1 : Int32) (x2 : Int32) (x3 : Int32) (x4 : Int32) (x5 : Int32) (rb : Nat → Int32) (rp : Nat → Int32) (mv : Nat → Int32), k25 x1 x2 x3 x4 x5 rb rp mv = some o → AtK X Z rm_X7_times cX7_times RX7 7 0 0 (wX Z a m ps im ik asd rb rp mv) 25 [(0, .ref (a 0)), (1, .int x1), (2, .int x2), (3, .int x3), (4, .int x4), (5, .int x5)] []), ∀ (x1 : Int32) (x2 : Int32) (x4 : Int32) (x5 : Int32) (t0 : Int32) (rb : Nat → Int32) (rp : Nat → Int32) (mv : Nat → Int32), g_X7_times_84 m k25 x1 x2 x4 x5 t0 rb rp mv = some o → AtK X Z rm_X7_times cX7_times RX7 7 0 0 (wX Z a m ps im ik asd rb rp mv) 84 [(0, .ref (a 0)), (1, .int x1), (2, .int x2), (4, .int x4), (5, .int x5)] [.int t0] := by
    intro k25 hk25 x1 x2 x4 x5 t0 rb rp mv hg
    unfold g_X7_times_84 at hg
    refine r_istore_n (lv' := [(3, .int t0), (0, .ref (a 0)), (1, .int x1), (2, .int x2), (4, .int x4), (5, .int x5)]) dX7_times_84 (by decide) rfl ?_
    refine r_iload dX7_times_85 4 rfl ?_
    refine r_aload_n dX7_times_87 1 rfl ?_
    refine r_iload dX7_times_88 5 rfl ?_
    refine r_iconst (v := 0) dX7_times_90 kic_0 ?_
    obtain ⟨o91, e91, hg⟩ := ob hg
    refine r_callV (As := [.int x5, .int 0]) (rest := [.int x4]) (ws' := wX Z a m ps im ik asd rb rp mv) 0 rfl rfl rfl (fun l => c_X7_of Z l a m ps im ik asd rb rp mv x5 0 o91 e91) qw_790 mv_X7_of (xPk.all rfl) ⟨Nat.le_of_ble_eq_true rfl, Nat.le_of_ble_eq_true rfl⟩ ⟨rfl, rfl⟩ ⟨Nat.zero_le _, Nat.zero_le _⟩ rfl (Nat.le_of_ble_eq_true rfl) rfl dX7_times_91 ?_
    refine r_sipush (v := 10000) dX7_times_94 ksp_10000 ?_
    refine r_irem dX7_times_97 (by decide) ?_
    refine r_aload_n dX7_times_98 1 rfl ?_
    refine r_iload dX7_times_99 5 rfl ?_
    refine r_iconst (v := 1) dX7_times_101 kic_1 ?_
    refine r_isub dX7_times_102 ?_
    refine r_iconst (v := 0) dX7_times_103 kic_0 ?_
    obtain ⟨o104, e104, hg⟩ := ob hg
    refine r_callV (As := [.int (x5 - 1), .int 0]) (rest := [.int (jrem o91 10000), .int x4]) (ws' := wX Z a m ps im ik asd rb rp mv) 0 rfl rfl rfl (fun l => c_X7_of Z l a m ps im ik asd rb rp mv (x5 - 1) 0 o104 e104) qw_790 mv_X7_of (xPk.all rfl) ⟨Nat.le_of_ble_eq_true rfl, Nat.le_of_ble_eq_true rfl⟩ ⟨rfl, rfl⟩ ⟨Nat.zero_le _, Nat.zero_le _⟩ rfl (Nat.le_of_ble_eq_true rfl) rfl dX7_times_104 ?_
    refine r_sipush (v := 10000) dX7_times_107 ksp_10000 ?_
    refine r_irem dX7_times_110 (by decide) ?_
    refine r_iconst (v := 1) dX7_times_111 kic_1 ?_
    refine r_iadd dX7_times_112 ?_
    refine r_sipush (v := 10000) dX7_times_113 ksp_10000 ?_
    refine r_irem dX7_times_116 (by decide) ?_
    refine r_icmp_eq (tgt := 124) dX7_times_117 (by decide) (fun h117 => ?_) (fun h117 => ?_)
    · replace hg := (if_pos h117).symm.trans hg
      refine r_iconst (v := 0) dX7_times_124 kic_0 ?_
      exact r_sub [1, 2, 3, 0, 5] rfl (J125 k25 hk25 x1 x2 t0 x5 x4 0 rb rp mv hg)
    · replace hg := (if_neg h117).symm.trans hg
      refine r_iconst (v := 1) dX7_times_120 kic_1 ?_
      refine r_goto (tgt := 125) dX7_times_121 (by decide) ?_
      exact r_sub [1, 2, 3, 0, 5] rfl (J125 k25 hk25 x1 x2 t0 x5 x4 1 rb rp mv hg)
  have J78 : ∀ (k25 : Int32 → Int32 → Int32 → Int32 → Int32 → (Nat → Int32) → (Nat → Int32) → (Nat → Int32) → Option (Int32 × (Nat → Int32) × (Nat → Int32) × (Nat → Int32))) (hk25 : ∀ (x1 : Int32) (x2 : Int32) (x3 : Int32) (x4 : Int32) (x5 : Int32) (rb : Nat → Int32) (rp : Nat → Int32) (mv : Nat → Int32), k25 x1 x2 x3 x4 x5 rb rp mv = some o → AtK X Z rm_X7_times cX7_times RX7 7 0 0 (wX Z a m ps im ik asd rb rp mv) 25 [(0, .ref (a 0)), (1, .int x1), (2, .int x2), (3, .int x3), (4, .int x4), (5, .int x5)] []), ∀ (x1 : Int32) (x2 : Int32) (x4 : Int32) (x5 : Int32) (x6 : Int32) (rb : Nat → Int32) (rp : Nat → Int32) (mv : Nat → Int32), g_X7_times_78 m k25 x1 x2 x4 x5 x6 rb rp mv = some o → AtK X Z rm_X7_times cX7_times RX7 7 0 0 (wX Z a m ps im ik asd rb rp mv) 78 [(0, .ref (a 0)), (1, .int x1), (2, .int x2), (4, .int x4), (5, .int x5), (6, .int x6)] [] := by
    intro k25 hk25 x1 x2 x4 x5 x6 rb rp mv hg
    unfold g_X7_times_78 at hg
    refine r_iload dX7_times_78 5 rfl ?_
    refine r_goto (tgt := 84) dX7_times_80 (by decide) ?_
    exact r_sub [0, 1, 2, 3, 4] rfl (J84 k25 hk25 x1 x2 x4 x5 x6 rb rp mv hg)
  have J64 : ∀ (k25 : Int32 → Int32 → Int32 → Int32 → Int32 → (Nat → Int32) → (Nat → Int32) → (Nat → Int32) → Option (Int32 × (Nat → Int32) × (Nat → Int32) × (Nat → Int32))) (hk25 : ∀ (x1 : Int32) (x2 : Int32) (x3 : Int32) (x4 : Int32) (x5 : Int32) (rb : Nat → Int32) (rp : Nat → Int32) (mv : Nat → Int32), k25 x1 x2 x3 x4 x5 rb rp mv = some o → AtK X Z rm_X7_times cX7_times RX7 7 0 0 (wX Z a m ps im ik asd rb rp mv) 25 [(0, .ref (a 0)), (1, .int x1), (2, .int x2), (3, .int x3), (4, .int x4), (5, .int x5)] []), ∀ (x1 : Int32) (x3 : Int32) (x4 : Int32) (x5 : Int32) (x6 : Int32) (t0 : Int32) (t1 : Int32) (rb : Nat → Int32) (rp : Nat → Int32) (mv : Nat → Int32), g_X7_times_64 m k25 x1 x3 x4 x5 x6 t0 t1 rb rp mv = some o → AtK X Z rm_X7_times cX7_times RX7 7 0 0 (wX Z a m ps im ik asd rb rp mv) 64 [(0, .ref (a 0)), (1, .int x1), (3, .int x3), (4, .int x4), (5, .int x5), (6, .int x6)] [.int t1, .int t0] := by
    intro k25 hk25 x1 x3 x4 x5 x6 t0 t1 rb rp mv hg
    unfold g_X7_times_64 at hg
    refine r_iadd dX7_times_64 ?_
    refine r_istore_n (lv' := [(2, .int (t0 + t1)), (0, .ref (a 0)), (1, .int x1), (3, .int x3), (4, .int x4), (5, .int x5), (6, .int x6)]) dX7_times_65 (by decide) rfl ?_
    refine r_iload dX7_times_66 5 rfl ?_
    refine r_iconst (v := 1) dX7_times_68 kic_1 ?_
    refine r_icmp_eq (tgt := 78) dX7_times_69 (by decide) (fun h69 => ?_) (fun h69 => ?_)
    · replace hg := (if_pos h69).symm.trans hg
      exact r_sub [1, 2, 0, 4, 5, 6] rfl (J78 k25 hk25 x1 (t0 + t1) x4 x5 x6 rb rp mv hg)
    · replace hg := (if_neg h69).symm.trans hg
      refine r_iload dX7_times_72 6 rfl ?_
      refine r_iload_n dX7_times_74 3 rfl ?_
      refine r_icmp_le (tgt := 83) dX7_times_75 (by decide) (fun h75 => ?_) (fun h75 => ?_)
      · replace hg := (if_pos h75).symm.trans hg
        refine r_iload_n dX7_times_83 3 rfl ?_
        exact r_sub [1, 2, 0, 4, 5] rfl (J84 k25 hk25 x1 (t0 + t1) x4 x5 x3 rb rp mv hg)
      · replace hg := (if_neg h75).symm.trans hg
        exact r_sub [1, 2, 0, 4, 5, 6] rfl (J78 k25 hk25 x1 (t0 + t1) x4 x5 x6 rb rp mv hg)
  have J25 : ∀ (n : Nat), ∀ (x1 : Int32) (x2 : Int32) (x3 : Int32) (x4 : Int32) (x5 : Int32) (rb : Nat → Int32) (rp : Nat → Int32) (mv : Nat → Int32), g_X7_times_25 m n x1 x2 x3 x4 x5 rb rp mv = some o → AtK X Z rm_X7_times cX7_times RX7 7 0 0 (wX Z a m ps im ik asd rb rp mv) 25 [(0, .ref (a 0)), (1, .int x1), (2, .int x2), (3, .int x3), (4, .int x4), (5, .int x5)] [] := by
    intro  n
    induction n with
    | zero => intro x1 x2 x3 x4 x5 rb rp mv hg; exact nomatch (show (none : Option _) = some o from hg)
    | succ n ih =>
      intro x1 x2 x3 x4 x5 rb rp mv hg
      unfold g_X7_times_25 at hg
      refine r_iload dX7_times_25 5 rfl ?_
      refine r_aload_n dX7_times_27 0 rfl ?_
      refine gf_X7_8 (v := .int (mv 1)) 0 rfl rfl qw_594 dX7_times_28 ?_
      refine r_icmp_ge (tgt := 134) dX7_times_31 (by decide) (fun h31 => ?_) (fun h31 => ?_)
      · replace hg := (if_pos h31).symm.trans hg
        refine r_iload_n dX7_times_134 1 rfl ?_
        refine r_if_ne (tgt := 142) dX7_times_135 (by decide) (fun h135 => ?_) (fun h135 => ?_)
        · replace hg := (if_neg h135).symm.trans hg
          refine r_iload_n dX7_times_142 1 rfl ?_
          refine r_iconst (v := 1) dX7_times_143 kic_1 ?_
          refine r_icmp_ne (tgt := 151) dX7_times_144 (by decide) (fun h144 => ?_) (fun h144 => ?_)
          · replace hg := (if_neg h144).symm.trans hg
            refine r_iload dX7_times_151 4 rfl ?_
            exact r_iret (hE _ (Option.some.inj hg)) dX7_times_153
          · replace hg := (if_pos h144).symm.trans hg
            refine r_iload_n dX7_times_147 3 rfl ?_
            refine r_goto (tgt := 153) dX7_times_148 (by decide) ?_
            exact r_iret (hE _ (Option.some.inj hg)) dX7_times_153
        · replace hg := (if_pos h135).symm.trans hg
          refine r_iload_n dX7_times_138 2 rfl ?_
          refine r_goto (tgt := 153) dX7_times_139 (by decide) ?_
          exact r_iret (hE _ (Option.some.inj hg)) dX7_times_153
      · replace hg := (if_neg h31).symm.trans hg
        refine r_aload_n dX7_times_34 0 rfl ?_
        refine r_iload dX7_times_35 5 rfl ?_
        refine r_iconst (v := 1) dX7_times_37 kic_1 ?_
        obtain ⟨o38, e38, hg⟩ := ob hg
        refine r_callV (As := [.int x5, .int 1]) (rest := []) (ws' := wX Z a m ps im ik asd rb rp mv) 0 rfl rfl rfl (fun l => c_X7_of Z l a m ps im ik asd rb rp mv x5 1 o38 e38) qw_790 mv_X7_of (xPk.all rfl) ⟨Nat.le_of_ble_eq_true rfl, Nat.le_of_ble_eq_true rfl⟩ ⟨rfl, rfl⟩ ⟨Nat.zero_le _, Nat.zero_le _⟩ rfl (Nat.le_of_ble_eq_true rfl) rfl dX7_times_38 ?_
        refine r_aload_n dX7_times_41 0 rfl ?_
        refine r_iload dX7_times_42 5 rfl ?_
        refine r_iconst (v := 1) dX7_times_44 kic_1 ?_
        refine r_isub dX7_times_45 ?_
        refine r_iconst (v := 1) dX7_times_46 kic_1 ?_
        obtain ⟨o47, e47, hg⟩ := ob hg
        refine r_callV (As := [.int (x5 - 1), .int 1]) (rest := [.int o38]) (ws' := wX Z a m ps im ik asd rb rp mv) 0 rfl rfl rfl (fun l => c_X7_of Z l a m ps im ik asd rb rp mv (x5 - 1) 1 o47 e47) qw_790 mv_X7_of (xPk.all rfl) ⟨Nat.le_of_ble_eq_true rfl, Nat.le_of_ble_eq_true rfl⟩ ⟨rfl, rfl⟩ ⟨Nat.zero_le _, Nat.zero_le _⟩ rfl (Nat.le_of_ble_eq_true rfl) rfl dX7_times_47 ?_
        refine r_isub dX7_times_50 ?_
        refine r_istore (lv' := [(6, .int (o38 - o47)), (0, .ref (a 0)), (1, .int x1), (2, .int x2), (3, .int x3), (4, .int x4), (5, .int x5)]) dX7_times_51 (by decide) rfl ?_
        refine r_iload_n dX7_times_53 3 rfl ?_
        refine r_iload dX7_times_54 0 rfl ?_
        refine r_if_ge (tgt := 63) dX7_times_56 (by decide) (fun h56 => ?_) (fun h56 => ?_)
        · replace hg := (if_pos h56).symm.trans hg
          refine r_iconst (v := 0) dX7_times_63 kic_0 ?_
          exact r_sub [1, 2, 4, 5, 6, 0] rfl (J64 (g_X7_times_25 m n) ih x1 x3 x4 x5 (o38 - o47) x2 0 rb rp mv hg)
        · replace hg := (if_neg h56).symm.trans hg
          refine r_iconst (v := 1) dX7_times_59 kic_1 ?_
          refine r_goto (tgt := 64) dX7_times_60 (by decide) ?_
          exact r_sub [1, 2, 4, 5, 6, 0] rfl (J64 (g_X7_times_25 m n) ih x1 x3 x4 x5 (o38 - o47) x2 1 rb rp mv hg)
  unfold g_X7_times at hg
  show AtK X Z rm_X7_times cX7_times RX7 7 0 0 (wX Z a m ps im ik asd rb rp mv) 0 [(0, .ref (a 0)), (1, .int n1)] []
  refine r_iload_n dX7_times_0 1 rfl ?_
  refine r_iconst (v := 0) dX7_times_1 kic_0 ?_
  refine r_iconst (v := 2) dX7_times_2 kic_2 ?_
  obtain ⟨o3, e3, hg⟩ := ob hg
  refine r_callS (As := [.int n1, .int 0, .int 2]) (rest := []) (ws' := wX Z a m ps im ik asd rb rp mv) (fun l => c_X7_isIn Z l   n1 0 2 o3 e3) qw_629 ms_X7_isIn xPk.none ⟨Nat.le_of_ble_eq_true rfl, Nat.le_of_ble_eq_true rfl⟩ ⟨rfl, rfl⟩ ⟨Nat.zero_le _, Nat.zero_le _⟩ rfl (Nat.le_of_ble_eq_true rfl) rfl dX7_times_3 ?_
  refine r_if_ne (tgt := 11) dX7_times_6 (by decide) (fun h6 => ?_) (fun h6 => ?_)
  · replace hg := (if_neg h6).symm.trans hg
    refine r_aload_n dX7_times_11 0 rfl ?_
    obtain ⟨o12, e12, hg⟩ := ob hg
    refine r_callV (As := []) (rest := []) (ws' := wX Z a m ps im ik asd o12.1 o12.2.1 o12.2.2) 0 rfl rfl rfl (fun l => c_X7_layRecords Z l a m ps im ik asd rb rp mv  o12 e12) qw_782 mv_X7_layRecords (xPk.all rfl) ⟨Nat.le_of_ble_eq_true rfl, Nat.le_of_ble_eq_true rfl⟩ ⟨rfl, rfl⟩ ⟨Nat.zero_le _, Nat.zero_le _⟩ rfl (Nat.le_of_ble_eq_true rfl) rfl dX7_times_12 ?_
    refine r_iconst (v := 0) dX7_times_15 kic_0 ?_
    refine r_istore_n (lv' := [(2, .int 0), (0, .ref (a 0)), (1, .int n1)]) dX7_times_16 (by decide) rfl ?_
    refine r_iconst (v := 0) dX7_times_17 kic_0 ?_
    refine r_istore_n (lv' := [(3, .int 0), (2, .int 0), (0, .ref (a 0)), (1, .int n1)]) dX7_times_18 (by decide) rfl ?_
    refine r_iconst (v := 0) dX7_times_19 kic_0 ?_
    refine r_istore (lv' := [(4, .int 0), (3, .int 0), (2, .int 0), (0, .ref (a 0)), (1, .int n1)]) dX7_times_20 (by decide) rfl ?_
    refine r_iconst (v := 1) dX7_times_22 kic_1 ?_
    refine r_istore (lv' := [(5, .int 1), (4, .int 0), (3, .int 0), (2, .int 0), (0, .ref (a 0)), (1, .int n1)]) dX7_times_23 (by decide) rfl ?_
    exact r_sub [4, 5, 3, 2, 1, 0] rfl (J25 30 n1 0 0 0 1 o12.1 o12.2.1 o12.2.2 hg)
  · replace hg := (if_pos h6).symm.trans hg
    refine r_iconst (v := (-1)) dX7_times_9 kic_m1 ?_
    exact r_iret (hE _ (Option.some.inj hg)) dX7_times_10

-- TicketJournalModel.putAside()V
abbrev rm_X7_putAside : Room := { frames := 0, cells := 0, slots := 0, locals := 0 }
def g_X7_putAside_2 (m : Nat → Int32)  : Nat → Int32 → (Nat → Int32) → Option ((Nat → Int32))
  | 0 => fun _ _ => none
  | n + 1 => fun x1 asd => (if 131 ≤ x1 then some (asd) else (if x1 < 0 ∨ 131 ≤ x1.toNatClampNeg then none else (if x1 < 0 ∨ 131 ≤ x1.toNatClampNeg then none else (g_X7_putAside_2 m n) (x1 + 1) (upd asd x1.toNatClampNeg (m x1.toNatClampNeg)))))
def g_X7_putAside (m : Nat → Int32) (asd : Nat → Int32)  : Option ((Nat → Int32)) :=
  g_X7_putAside_2 m 140 0 asd
set_option maxHeartbeats 4000000 in
set_option maxRecDepth 100000 in
theorem c_X7_putAside (Z : GZ) (l : Launch) (a : Nat → Nat) (m : Nat → Int32) (ps : Nat → Int32) (im : Nat → Int32) (ik : Nat → Int32) (asd : Nat → Int32) (rb : Nat → Int32) (rp : Nat → Int32) (mv : Nat → Int32)  (o : ((Nat → Int32))) (hg : g_X7_putAside m asd = some o) : Con Z l yX7_putAside cX7_putAside 2 none rm_X7_putAside [.ref (a 0)] (wX Z a m ps im ik asd rb rp mv) none (wX Z a m ps im ik o rb rp mv) := by
  refine Con.of (by decide) (Nat.le_of_ble_eq_true rfl) ?_
  intro X hE0
  have hE : ∀ z, z = o → endsX X Z none none (wX Z a m ps im ik z rb rp mv) := by
    rintro _ rfl; exact hE0
  have J2 : ∀ (n : Nat), ∀ (x1 : Int32) (asd : Nat → Int32), g_X7_putAside_2 m n x1 asd = some o → AtK X Z rm_X7_putAside cX7_putAside RX7 2 0 0 (wX Z a m ps im ik asd rb rp mv) 2 [(0, .ref (a 0)), (1, .int x1)] [] := by
    intro  n
    induction n with
    | zero => intro x1 asd hg; exact nomatch (show (none : Option _) = some o from hg)
    | succ n ih =>
      intro x1 asd hg
      unfold g_X7_putAside_2 at hg
      refine r_iload_n dX7_putAside_2 1 rfl ?_
      refine r_sipush (v := 131) dX7_putAside_3 ksp_131 ?_
      refine r_icmp_ge (tgt := 27) dX7_putAside_6 (by decide) (fun h6 => ?_) (fun h6 => ?_)
      · replace hg := (if_pos h6).symm.trans hg
        exact r_vret (hE _ (Option.some.inj hg)) dX7_putAside_27
      · replace hg := (if_neg h6).symm.trans hg
        refine r_aload_n dX7_putAside_9 0 rfl ?_
        refine gf_X7_5 (v := .ref (a 5)) 0 rfl rfl qw_591 dX7_putAside_10 ?_
        refine r_iload_n dX7_putAside_13 1 rfl ?_
        refine r_aload_n dX7_putAside_14 0 rfl ?_
        refine gf_X7_0 (v := .ref (a 1)) 0 rfl rfl qw_586 dX7_putAside_15 ?_
        refine r_iload_n dX7_putAside_18 1 rfl ?_
        obtain ⟨hi19, hg⟩ := og hg
        refine r_iald 1 rfl hi19 dX7_putAside_19 ?_
        obtain ⟨hi20, hg⟩ := og hg
        refine r_iast 5 rfl rfl hi20 dX7_putAside_20 (ws' := wX Z a m ps im ik (upd asd x1.toNatClampNeg (m x1.toNatClampNeg)) rb rp mv) rfl ?_
        refine r_iinc (v := (x1 + 1)) (lv' := [(1, .int (x1 + 1)), (0, .ref (a 0))]) dX7_putAside_21 (k := 1) rfl rfl (by decide) rfl ?_
        refine r_goto (tgt := 2) dX7_putAside_24 (by decide) ?_
        exact r_sub [1, 0] rfl (ih (x1 + 1) (upd asd x1.toNatClampNeg (m x1.toNatClampNeg)) hg)
  unfold g_X7_putAside at hg
  show AtK X Z rm_X7_putAside cX7_putAside RX7 2 0 0 (wX Z a m ps im ik asd rb rp mv) 0 [(0, .ref (a 0))] []
  refine r_iconst (v := 0) dX7_putAside_0 kic_0 ?_
  refine r_istore_n (lv' := [(1, .int 0), (0, .ref (a 0))]) dX7_putAside_1 (by decide) rfl ?_
  exact r_sub [1, 0] rfl (J2 140 0 asd hg)

-- TicketJournalModel.putBack()V
abbrev rm_X7_putBack : Room := { frames := 0, cells := 0, slots := 0, locals := 0 }
def g_X7_putBack_2 (asd : Nat → Int32)  : Nat → Int32 → (Nat → Int32) → Option ((Nat → Int32))
  | 0 => fun _ _ => none
  | n + 1 => fun x1 m => (if 131 ≤ x1 then some (m) else (if x1 < 0 ∨ 131 ≤ x1.toNatClampNeg then none else (if x1 < 0 ∨ 131 ≤ x1.toNatClampNeg then none else (g_X7_putBack_2 asd n) (x1 + 1) (upd m x1.toNatClampNeg (asd x1.toNatClampNeg)))))
def g_X7_putBack (m : Nat → Int32) (asd : Nat → Int32)  : Option ((Nat → Int32)) :=
  g_X7_putBack_2 asd 140 0 m
set_option maxHeartbeats 4000000 in
set_option maxRecDepth 100000 in
theorem c_X7_putBack (Z : GZ) (l : Launch) (a : Nat → Nat) (m : Nat → Int32) (ps : Nat → Int32) (im : Nat → Int32) (ik : Nat → Int32) (asd : Nat → Int32) (rb : Nat → Int32) (rp : Nat → Int32) (mv : Nat → Int32)  (o : ((Nat → Int32))) (hg : g_X7_putBack m asd = some o) : Con Z l yX7_putBack cX7_putBack 2 none rm_X7_putBack [.ref (a 0)] (wX Z a m ps im ik asd rb rp mv) none (wX Z a o ps im ik asd rb rp mv) := by
  refine Con.of (by decide) (Nat.le_of_ble_eq_true rfl) ?_
  intro X hE0
  have hE : ∀ z, z = o → endsX X Z none none (wX Z a z ps im ik asd rb rp mv) := by
    rintro _ rfl; exact hE0
  have J2 : ∀ (n : Nat), ∀ (x1 : Int32) (m : Nat → Int32), g_X7_putBack_2 asd n x1 m = some o → AtK X Z rm_X7_putBack cX7_putBack RX7 2 0 0 (wX Z a m ps im ik asd rb rp mv) 2 [(0, .ref (a 0)), (1, .int x1)] [] := by
    intro  n
    induction n with
    | zero => intro x1 m hg; exact nomatch (show (none : Option _) = some o from hg)
    | succ n ih =>
      intro x1 m hg
      unfold g_X7_putBack_2 at hg
      refine r_iload_n dX7_putBack_2 1 rfl ?_
      refine r_sipush (v := 131) dX7_putBack_3 ksp_131 ?_
      refine r_icmp_ge (tgt := 27) dX7_putBack_6 (by decide) (fun h6 => ?_) (fun h6 => ?_)
      · replace hg := (if_pos h6).symm.trans hg
        exact r_vret (hE _ (Option.some.inj hg)) dX7_putBack_27
      · replace hg := (if_neg h6).symm.trans hg
        refine r_aload_n dX7_putBack_9 0 rfl ?_
        refine gf_X7_0 (v := .ref (a 1)) 0 rfl rfl qw_586 dX7_putBack_10 ?_
        refine r_iload_n dX7_putBack_13 1 rfl ?_
        refine r_aload_n dX7_putBack_14 0 rfl ?_
        refine gf_X7_5 (v := .ref (a 5)) 0 rfl rfl qw_591 dX7_putBack_15 ?_
        refine r_iload_n dX7_putBack_18 1 rfl ?_
        obtain ⟨hi19, hg⟩ := og hg
        refine r_iald 5 rfl hi19 dX7_putBack_19 ?_
        obtain ⟨hi20, hg⟩ := og hg
        refine r_iast 1 rfl rfl hi20 dX7_putBack_20 (ws' := wX Z a (upd m x1.toNatClampNeg (asd x1.toNatClampNeg)) ps im ik asd rb rp mv) rfl ?_
        refine r_iinc (v := (x1 + 1)) (lv' := [(1, .int (x1 + 1)), (0, .ref (a 0))]) dX7_putBack_21 (k := 1) rfl rfl (by decide) rfl ?_
        refine r_goto (tgt := 2) dX7_putBack_24 (by decide) ?_
        exact r_sub [1, 0] rfl (ih (x1 + 1) (upd m x1.toNatClampNeg (asd x1.toNatClampNeg)) hg)
  unfold g_X7_putBack at hg
  show AtK X Z rm_X7_putBack cX7_putBack RX7 2 0 0 (wX Z a m ps im ik asd rb rp mv) 0 [(0, .ref (a 0))] []
  refine r_iconst (v := 0) dX7_putBack_0 kic_0 ?_
  refine r_istore_n (lv' := [(1, .int 0), (0, .ref (a 0))]) dX7_putBack_1 (by decide) rfl ?_
  exact r_sub [1, 0] rfl (J2 140 0 m hg)

-- TicketJournalModel.operations(I)I
abbrev rm_X7_operations : Room := { frames := 5, cells := 0, slots := 0, locals := 119 }
def g_X7_operations (m : Nat → Int32) (asd : Nat → Int32) (n1 : Int32) : Option (Int32 × (Nat → Int32) × (Nat → Int32)) :=
  (g_X7_refusal m n1).bind fun o2 => (if o2 = 0 then (g_X7_putAside m asd).bind fun o13 => (g_X7_sellNow (upd m 126 (-9)) n1).bind fun o35 => (g_X7_putBack o35.2 o13).bind fun o52 => some (((o35.2 125) - (m 125)), o52, o13) else some (o2, m, asd))
set_option maxHeartbeats 4000000 in
set_option maxRecDepth 100000 in
theorem c_X7_operations (Z : GZ) (l : Launch) (a : Nat → Nat) (m : Nat → Int32) (ps : Nat → Int32) (im : Nat → Int32) (ik : Nat → Int32) (asd : Nat → Int32) (rb : Nat → Int32) (rp : Nat → Int32) (mv : Nat → Int32) (n1 : Int32) (o : (Int32 × (Nat → Int32) × (Nat → Int32))) (hg : g_X7_operations m asd n1 = some o) : Con Z l yX7_operations cX7_operations 6 (some .int) rm_X7_operations [.ref (a 0), .int n1] (wX Z a m ps im ik asd rb rp mv) (some (.int o.1)) (wX Z a o.2.1 ps im ik o.2.2 rb rp mv) := by
  refine Con.of (by decide) (Nat.le_of_ble_eq_true rfl) ?_
  intro X hE0
  have hE : ∀ z, z = o → endsX X Z (some .int) (some (.int z.1)) (wX Z a z.2.1 ps im ik z.2.2 rb rp mv) := by
    rintro _ rfl; exact hE0
  unfold g_X7_operations at hg
  show AtK X Z rm_X7_operations cX7_operations RX7 6 0 0 (wX Z a m ps im ik asd rb rp mv) 0 [(0, .ref (a 0)), (1, .int n1)] []
  refine r_aload_n dX7_operations_0 0 rfl ?_
  refine r_iload_n dX7_operations_1 1 rfl ?_
  obtain ⟨o2, e2, hg⟩ := ob hg
  refine r_callV (As := [.int n1]) (rest := []) (ws' := wX Z a m ps im ik asd rb rp mv) 0 rfl rfl rfl (fun l => c_X7_refusal Z l a m ps im ik asd rb rp mv n1 o2 e2) qw_622 mv_X7_refusal (xPk.all rfl) ⟨Nat.le_of_ble_eq_true rfl, Nat.le_of_ble_eq_true rfl⟩ ⟨rfl, rfl⟩ ⟨Nat.zero_le _, Nat.zero_le _⟩ rfl (Nat.le_of_ble_eq_true rfl) rfl dX7_operations_2 ?_
  refine r_istore_n (lv' := [(2, .int o2), (0, .ref (a 0)), (1, .int n1)]) dX7_operations_5 (by decide) rfl ?_
  refine r_iload_n dX7_operations_6 0 rfl ?_
  refine r_if_eq (tgt := 12) dX7_operations_7 (by decide) (fun h7 => ?_) (fun h7 => ?_)
  · replace hg := (if_pos h7).symm.trans hg
    refine r_aload_n dX7_operations_12 1 rfl ?_
    obtain ⟨o13, e13, hg⟩ := ob hg
    refine r_callV (As := []) (rest := []) (ws' := wX Z a m ps im ik o13 rb rp mv) 0 rfl rfl rfl (fun l => c_X7_putAside Z l a m ps im ik asd rb rp mv  o13 e13) qw_810 mv_X7_putAside (xPk.all rfl) ⟨Nat.le_of_ble_eq_true rfl, Nat.le_of_ble_eq_true rfl⟩ ⟨rfl, rfl⟩ ⟨Nat.zero_le _, Nat.zero_le _⟩ rfl (Nat.le_of_ble_eq_true rfl) rfl dX7_operations_13 ?_
    refine r_aload_n dX7_operations_16 1 rfl ?_
    refine gf_X7_0 (v := .ref (a 1)) 0 rfl rfl qw_586 dX7_operations_17 ?_
    refine r_bipush (v := 126) dX7_operations_20 kbp_126 ?_
    refine r_bipush (v := (-9)) dX7_operations_22 kbp_m9 ?_
    refine r_iast 1 rfl (j := 126) (by decide) (by decide) dX7_operations_24 (ws' := wX Z a (upd m 126 (-9)) ps im ik o13 rb rp mv) rfl ?_
    refine r_aload_n dX7_operations_25 1 rfl ?_
    refine gf_X7_0 (v := .ref (a 1)) 0 rfl rfl qw_586 dX7_operations_26 ?_
    refine r_bipush (v := 125) dX7_operations_29 kbp_125 ?_
    refine r_ialdV (f := upd m 126 (-9)) 1 rfl (j := 125) (by decide) (by decide) (v := m 125) rfl dX7_operations_31 ?_
    refine r_istore_n (lv' := [(3, .int (m 125)), (2, .int o2), (0, .ref (a 0)), (1, .int n1)]) dX7_operations_32 (by decide) rfl ?_
    refine r_aload_n dX7_operations_33 2 rfl ?_
    refine r_iload_n dX7_operations_34 3 rfl ?_
    obtain ⟨o35, e35, hg⟩ := ob hg
    refine r_callV (As := [.int n1]) (rest := []) (ws' := wX Z a o35.2 ps im ik o13 rb rp mv) 0 rfl rfl rfl (fun l => c_X7_sellNow Z l a (upd m 126 (-9)) ps im ik o13 rb rp mv n1 o35 e35) qw_640 mv_X7_sellNow (xPk.all rfl) ⟨Nat.le_of_ble_eq_true rfl, Nat.le_of_ble_eq_true rfl⟩ ⟨rfl, rfl⟩ ⟨Nat.zero_le _, Nat.zero_le _⟩ rfl (Nat.le_of_ble_eq_true rfl) rfl dX7_operations_35 ?_
    refine r_istore (lv' := [(4, .int o35.1), (3, .int (m 125)), (2, .int o2), (0, .ref (a 0)), (1, .int n1)]) dX7_operations_38 (by decide) rfl ?_
    refine r_aload_n dX7_operations_40 3 rfl ?_
    refine gf_X7_0 (v := .ref (a 1)) 0 rfl rfl qw_586 dX7_operations_41 ?_
    refine r_bipush (v := 125) dX7_operations_44 kbp_125 ?_
    refine r_ialdL 1 rfl (j := 125) (by decide) (by decide) dX7_operations_46 ?_
    refine r_iload_n dX7_operations_47 1 rfl ?_
    refine r_isub dX7_operations_48 ?_
    refine r_istore (lv' := [(5, .int ((o35.2 125) - (m 125))), (4, .int o35.1), (3, .int (m 125)), (2, .int o2), (0, .ref (a 0)), (1, .int n1)]) dX7_operations_49 (by decide) rfl ?_
    refine r_aload_n dX7_operations_51 4 rfl ?_
    obtain ⟨o52, e52, hg⟩ := ob hg
    refine r_callV (As := []) (rest := []) (ws' := wX Z a o52 ps im ik o13 rb rp mv) 0 rfl rfl rfl (fun l => c_X7_putBack Z l a o35.2 ps im ik o13 rb rp mv  o52 e52) qw_814 mv_X7_putBack (xPk.all rfl) ⟨Nat.le_of_ble_eq_true rfl, Nat.le_of_ble_eq_true rfl⟩ ⟨rfl, rfl⟩ ⟨Nat.zero_le _, Nat.zero_le _⟩ rfl (Nat.le_of_ble_eq_true rfl) rfl dX7_operations_52 ?_
    refine r_iload dX7_operations_55 0 rfl ?_
    exact r_iret (hE _ (Option.some.inj hg)) dX7_operations_57
  · replace hg := (if_neg h7).symm.trans hg
    refine r_iload_n dX7_operations_10 0 rfl ?_
    exact r_iret (hE _ (Option.some.inj hg)) dX7_operations_11

-- TicketJournalModel.after(III)I
abbrev rm_X7_after : Room := { frames := 7, cells := 0, slots := 0, locals := 161 }
def g_X7_after_26   (m : Nat → Int32) (asd : Nat → Int32) : Option (Int32 × (Nat → Int32) × (Nat → Int32)) :=
  some ((-1), m, asd)
def g_X7_after_139   (t0 : Int32) (m : Nat → Int32) (asd : Nat → Int32) : Option (Int32 × (Nat → Int32) × (Nat → Int32)) :=
  (g_X7_putBack m asd).bind fun o142 => some (t0, o142, asd)
def g_X7_after_76   (x3 : Int32) (m : Nat → Int32) (asd : Nat → Int32) : Option (Int32 × (Nat → Int32) × (Nat → Int32)) :=
  (if x3 = 0 then (g_X7_count m (-1)).bind fun o82 => g_X7_after_139 o82 m asd else (if x3 = 1 then (g_X7_count m (-2)).bind fun o96 => g_X7_after_139 o96 m asd else (if x3 = 2 then g_X7_after_139 (m 118) m asd else (if x3 = 3 then g_X7_after_139 (m 119) m asd else g_X7_after_139 (m 116) m asd))))
def g_X7_after (m : Nat → Int32) (asd : Nat → Int32) (n1 : Int32) (n2 : Int32) (n3 : Int32) : Option (Int32 × (Nat → Int32) × (Nat → Int32)) :=
  (g_X7_isSort n1).bind fun o1 => (if o1 = 0 then g_X7_after_26 m asd else (g_X7_isIn n2 0 30).bind fun o11 => (if o11 = 0 then g_X7_after_26 m asd else (g_X7_isIn n3 0 4).bind fun o20 => (if o20 = 0 then g_X7_after_26 m asd else (g_X7_refusal m n1).bind fun o30 => (if o30 = 0 then (g_X7_putAside m asd).bind fun o44 => (g_X7_sellNow (upd m 126 n2) n1).bind fun o57 => (if (o57.2 115) = 0 then (g_X7_readMemory o57.2).bind fun o73 => g_X7_after_76 n3 o73 o44 else g_X7_after_76 n3 o57.2 o44) else some (o30, m, asd)))))
set_option maxHeartbeats 4000000 in
set_option maxRecDepth 100000 in
theorem c_X7_after (Z : GZ) (l : Launch) (a : Nat → Nat) (m : Nat → Int32) (ps : Nat → Int32) (im : Nat → Int32) (ik : Nat → Int32) (asd : Nat → Int32) (rb : Nat → Int32) (rp : Nat → Int32) (mv : Nat → Int32) (n1 : Int32) (n2 : Int32) (n3 : Int32) (o : (Int32 × (Nat → Int32) × (Nat → Int32))) (hg : g_X7_after m asd n1 n2 n3 = some o) : Con Z l yX7_after cX7_after 7 (some .int) rm_X7_after [.ref (a 0), .int n1, .int n2, .int n3] (wX Z a m ps im ik asd rb rp mv) (some (.int o.1)) (wX Z a o.2.1 ps im ik o.2.2 rb rp mv) := by
  refine Con.of (by decide) (Nat.le_of_ble_eq_true rfl) ?_
  intro X hE0
  have hE : ∀ z, z = o → endsX X Z (some .int) (some (.int z.1)) (wX Z a z.2.1 ps im ik z.2.2 rb rp mv) := by
    rintro _ rfl; exact hE0
  have J26 : ∀ (m : Nat → Int32) (asd : Nat → Int32), g_X7_after_26 m asd = some o → AtK X Z rm_X7_after cX7_after RX7 7 0 0 (wX Z a m ps im ik asd rb rp mv) 26 [] [] := by
    intro m asd hg
    unfold g_X7_after_26 at hg
    refine r_iconst (v := (-1)) dX7_after_26 kic_m1 ?_
    exact r_iret (hE _ (Option.some.inj hg)) dX7_after_27
  have J139 : ∀ (t0 : Int32) (m : Nat → Int32) (asd : Nat → Int32), g_X7_after_139 t0 m asd = some o → AtK X Z rm_X7_after cX7_after RX7 7 0 0 (wX Z a m ps im ik asd rb rp mv) 139 [(0, .ref (a 0))] [.int t0] := by
    intro t0 m asd hg
    unfold g_X7_after_139 at hg
    refine r_istore (lv' := [(6, .int t0), (0, .ref (a 0))]) dX7_after_139 (by decide) rfl ?_
    refine r_aload_n dX7_after_141 1 rfl ?_
    obtain ⟨o142, e142, hg⟩ := ob hg
    refine r_callV (As := []) (rest := []) (ws' := wX Z a o142 ps im ik asd rb rp mv) 0 rfl rfl rfl (fun l => c_X7_putBack Z l a m ps im ik asd rb rp mv  o142 e142) qw_814 mv_X7_putBack (xPk.all rfl) ⟨Nat.le_of_ble_eq_true rfl, Nat.le_of_ble_eq_true rfl⟩ ⟨rfl, rfl⟩ ⟨Nat.zero_le _, Nat.zero_le _⟩ rfl (Nat.le_of_ble_eq_true rfl) rfl dX7_after_142 ?_
    refine r_iload dX7_after_145 0 rfl ?_
    exact r_iret (hE _ (Option.some.inj hg)) dX7_after_147
  have J76 : ∀ (x3 : Int32) (m : Nat → Int32) (asd : Nat → Int32), g_X7_after_76 x3 m asd = some o → AtK X Z rm_X7_after cX7_after RX7 7 0 0 (wX Z a m ps im ik asd rb rp mv) 76 [(0, .ref (a 0)), (3, .int x3)] [] := by
    intro x3 m asd hg
    unfold g_X7_after_76 at hg
    refine r_iload_n dX7_after_76 1 rfl ?_
    refine r_if_ne (tgt := 88) dX7_after_77 (by decide) (fun h77 => ?_) (fun h77 => ?_)
    · replace hg := (if_neg h77).symm.trans hg
      refine r_iload_n dX7_after_88 1 rfl ?_
      refine r_iconst (v := 1) dX7_after_89 kic_1 ?_
      refine r_icmp_ne (tgt := 102) dX7_after_90 (by decide) (fun h90 => ?_) (fun h90 => ?_)
      · replace hg := (if_neg h90).symm.trans hg
        refine r_iload_n dX7_after_102 1 rfl ?_
        refine r_iconst (v := 2) dX7_after_103 kic_2 ?_
        refine r_icmp_ne (tgt := 117) dX7_after_104 (by decide) (fun h104 => ?_) (fun h104 => ?_)
        · replace hg := (if_neg h104).symm.trans hg
          refine r_iload_n dX7_after_117 1 rfl ?_
          refine r_iconst (v := 3) dX7_after_118 kic_3 ?_
          refine r_icmp_ne (tgt := 132) dX7_after_119 (by decide) (fun h119 => ?_) (fun h119 => ?_)
          · replace hg := (if_neg h119).symm.trans hg
            refine r_aload_n dX7_after_132 0 rfl ?_
            refine gf_X7_0 (v := .ref (a 1)) 0 rfl rfl qw_586 dX7_after_133 ?_
            refine r_bipush (v := 116) dX7_after_136 kbp_116 ?_
            refine r_ialdL 1 rfl (j := 116) (by decide) (by decide) dX7_after_138 ?_
            exact r_sub [0] rfl (J139 (m 116) m asd hg)
          · replace hg := (if_pos h119).symm.trans hg
            refine r_aload_n dX7_after_122 0 rfl ?_
            refine gf_X7_0 (v := .ref (a 1)) 0 rfl rfl qw_586 dX7_after_123 ?_
            refine r_bipush (v := 119) dX7_after_126 kbp_119 ?_
            refine r_ialdL 1 rfl (j := 119) (by decide) (by decide) dX7_after_128 ?_
            refine r_goto (tgt := 139) dX7_after_129 (by decide) ?_
            exact r_sub [0] rfl (J139 (m 119) m asd hg)
        · replace hg := (if_pos h104).symm.trans hg
          refine r_aload_n dX7_after_107 0 rfl ?_
          refine gf_X7_0 (v := .ref (a 1)) 0 rfl rfl qw_586 dX7_after_108 ?_
          refine r_bipush (v := 118) dX7_after_111 kbp_118 ?_
          refine r_ialdL 1 rfl (j := 118) (by decide) (by decide) dX7_after_113 ?_
          refine r_goto (tgt := 139) dX7_after_114 (by decide) ?_
          exact r_sub [0] rfl (J139 (m 118) m asd hg)
      · replace hg := (if_pos h90).symm.trans hg
        refine r_aload_n dX7_after_93 0 rfl ?_
        refine r_bipush (v := (-2)) dX7_after_94 kbp_m2 ?_
        obtain ⟨o96, e96, hg⟩ := ob hg
        refine r_callV (As := [.int (-2)]) (rest := []) (ws' := wX Z a m ps im ik asd rb rp mv) 0 rfl rfl rfl (fun l => c_X7_count Z l a m ps im ik asd rb rp mv (-2) o96 e96) qw_723 mv_X7_count (xPk.all rfl) ⟨Nat.le_of_ble_eq_true rfl, Nat.le_of_ble_eq_true rfl⟩ ⟨rfl, rfl⟩ ⟨Nat.zero_le _, Nat.zero_le _⟩ rfl (Nat.le_of_ble_eq_true rfl) rfl dX7_after_96 ?_
        refine r_goto (tgt := 139) dX7_after_99 (by decide) ?_
        exact r_sub [0] rfl (J139 o96 m asd hg)
    · replace hg := (if_pos h77).symm.trans hg
      refine r_aload_n dX7_after_80 0 rfl ?_
      refine r_iconst (v := (-1)) dX7_after_81 kic_m1 ?_
      obtain ⟨o82, e82, hg⟩ := ob hg
      refine r_callV (As := [.int (-1)]) (rest := []) (ws' := wX Z a m ps im ik asd rb rp mv) 0 rfl rfl rfl (fun l => c_X7_count Z l a m ps im ik asd rb rp mv (-1) o82 e82) qw_723 mv_X7_count (xPk.all rfl) ⟨Nat.le_of_ble_eq_true rfl, Nat.le_of_ble_eq_true rfl⟩ ⟨rfl, rfl⟩ ⟨Nat.zero_le _, Nat.zero_le _⟩ rfl (Nat.le_of_ble_eq_true rfl) rfl dX7_after_82 ?_
      refine r_goto (tgt := 139) dX7_after_85 (by decide) ?_
      exact r_sub [0] rfl (J139 o82 m asd hg)
  unfold g_X7_after at hg
  show AtK X Z rm_X7_after cX7_after RX7 7 0 0 (wX Z a m ps im ik asd rb rp mv) 0 [(0, .ref (a 0)), (1, .int n1), (2, .int n2), (3, .int n3)] []
  refine r_iload_n dX7_after_0 1 rfl ?_
  obtain ⟨o1, e1, hg⟩ := ob hg
  refine r_callS (As := [.int n1]) (rest := []) (ws' := wX Z a m ps im ik asd rb rp mv) (fun l => c_X7_isSort Z l   n1 o1 e1) qw_626 ms_X7_isSort xPk.none ⟨Nat.le_of_ble_eq_true rfl, Nat.le_of_ble_eq_true rfl⟩ ⟨rfl, rfl⟩ ⟨Nat.zero_le _, Nat.zero_le _⟩ rfl (Nat.le_of_ble_eq_true rfl) rfl dX7_after_1 ?_
  refine r_if_eq (tgt := 26) dX7_after_4 (by decide) (fun h4 => ?_) (fun h4 => ?_)
  · replace hg := (if_pos h4).symm.trans hg
    exact r_sub [] rfl (J26 m asd hg)
  · replace hg := (if_neg h4).symm.trans hg
    refine r_iload_n dX7_after_7 2 rfl ?_
    refine r_iconst (v := 0) dX7_after_8 kic_0 ?_
    refine r_bipush (v := 30) dX7_after_9 kbp_30 ?_
    obtain ⟨o11, e11, hg⟩ := ob hg
    refine r_callS (As := [.int n2, .int 0, .int 30]) (rest := []) (ws' := wX Z a m ps im ik asd rb rp mv) (fun l => c_X7_isIn Z l   n2 0 30 o11 e11) qw_629 ms_X7_isIn xPk.none ⟨Nat.le_of_ble_eq_true rfl, Nat.le_of_ble_eq_true rfl⟩ ⟨rfl, rfl⟩ ⟨Nat.zero_le _, Nat.zero_le _⟩ rfl (Nat.le_of_ble_eq_true rfl) rfl dX7_after_11 ?_
    refine r_if_eq (tgt := 26) dX7_after_14 (by decide) (fun h14 => ?_) (fun h14 => ?_)
    · replace hg := (if_pos h14).symm.trans hg
      exact r_sub [] rfl (J26 m asd hg)
    · replace hg := (if_neg h14).symm.trans hg
      refine r_iload_n dX7_after_17 3 rfl ?_
      refine r_iconst (v := 0) dX7_after_18 kic_0 ?_
      refine r_iconst (v := 4) dX7_after_19 kic_4 ?_
      obtain ⟨o20, e20, hg⟩ := ob hg
      refine r_callS (As := [.int n3, .int 0, .int 4]) (rest := []) (ws' := wX Z a m ps im ik asd rb rp mv) (fun l => c_X7_isIn Z l   n3 0 4 o20 e20) qw_629 ms_X7_isIn xPk.none ⟨Nat.le_of_ble_eq_true rfl, Nat.le_of_ble_eq_true rfl⟩ ⟨rfl, rfl⟩ ⟨Nat.zero_le _, Nat.zero_le _⟩ rfl (Nat.le_of_ble_eq_true rfl) rfl dX7_after_20 ?_
      refine r_if_ne (tgt := 28) dX7_after_23 (by decide) (fun h23 => ?_) (fun h23 => ?_)
      · replace hg := (if_neg h23).symm.trans hg
        refine r_aload_n dX7_after_28 0 rfl ?_
        refine r_iload_n dX7_after_29 1 rfl ?_
        obtain ⟨o30, e30, hg⟩ := ob hg
        refine r_callV (As := [.int n1]) (rest := []) (ws' := wX Z a m ps im ik asd rb rp mv) 0 rfl rfl rfl (fun l => c_X7_refusal Z l a m ps im ik asd rb rp mv n1 o30 e30) qw_622 mv_X7_refusal (xPk.all rfl) ⟨Nat.le_of_ble_eq_true rfl, Nat.le_of_ble_eq_true rfl⟩ ⟨rfl, rfl⟩ ⟨Nat.zero_le _, Nat.zero_le _⟩ rfl (Nat.le_of_ble_eq_true rfl) rfl dX7_after_30 ?_
        refine r_istore (lv' := [(4, .int o30), (0, .ref (a 0)), (1, .int n1), (2, .int n2), (3, .int n3)]) dX7_after_33 (by decide) rfl ?_
        refine r_iload dX7_after_35 0 rfl ?_
        refine r_if_eq (tgt := 43) dX7_after_37 (by decide) (fun h37 => ?_) (fun h37 => ?_)
        · replace hg := (if_pos h37).symm.trans hg
          refine r_aload_n dX7_after_43 1 rfl ?_
          obtain ⟨o44, e44, hg⟩ := ob hg
          refine r_callV (As := []) (rest := []) (ws' := wX Z a m ps im ik o44 rb rp mv) 0 rfl rfl rfl (fun l => c_X7_putAside Z l a m ps im ik asd rb rp mv  o44 e44) qw_810 mv_X7_putAside (xPk.all rfl) ⟨Nat.le_of_ble_eq_true rfl, Nat.le_of_ble_eq_true rfl⟩ ⟨rfl, rfl⟩ ⟨Nat.zero_le _, Nat.zero_le _⟩ rfl (Nat.le_of_ble_eq_true rfl) rfl dX7_after_44 ?_
          refine r_aload_n dX7_after_47 1 rfl ?_
          refine gf_X7_0 (v := .ref (a 1)) 0 rfl rfl qw_586 dX7_after_48 ?_
          refine r_bipush (v := 126) dX7_after_51 kbp_126 ?_
          refine r_iload_n dX7_after_53 3 rfl ?_
          refine r_iast 1 rfl (j := 126) (by decide) (by decide) dX7_after_54 (ws' := wX Z a (upd m 126 n2) ps im ik o44 rb rp mv) rfl ?_
          refine r_aload_n dX7_after_55 1 rfl ?_
          refine r_iload_n dX7_after_56 2 rfl ?_
          obtain ⟨o57, e57, hg⟩ := ob hg
          refine r_callV (As := [.int n1]) (rest := []) (ws' := wX Z a o57.2 ps im ik o44 rb rp mv) 0 rfl rfl rfl (fun l => c_X7_sellNow Z l a (upd m 126 n2) ps im ik o44 rb rp mv n1 o57 e57) qw_640 mv_X7_sellNow (xPk.all rfl) ⟨Nat.le_of_ble_eq_true rfl, Nat.le_of_ble_eq_true rfl⟩ ⟨rfl, rfl⟩ ⟨Nat.zero_le _, Nat.zero_le _⟩ rfl (Nat.le_of_ble_eq_true rfl) rfl dX7_after_57 ?_
          refine r_istore (lv' := [(5, .int o57.1), (4, .int o30), (0, .ref (a 0)), (1, .int n1), (2, .int n2), (3, .int n3)]) dX7_after_60 (by decide) rfl ?_
          refine r_aload_n dX7_after_62 2 rfl ?_
          refine gf_X7_0 (v := .ref (a 1)) 0 rfl rfl qw_586 dX7_after_63 ?_
          refine r_bipush (v := 115) dX7_after_66 kbp_115 ?_
          refine r_ialdL 1 rfl (j := 115) (by decide) (by decide) dX7_after_68 ?_
          refine r_if_ne (tgt := 76) dX7_after_69 (by decide) (fun h69 => ?_) (fun h69 => ?_)
          · replace hg := (if_neg h69).symm.trans hg
            exact r_sub [2, 5] rfl (J76 n3 o57.2 o44 hg)
          · replace hg := (if_pos h69).symm.trans hg
            refine r_aload_n dX7_after_72 2 rfl ?_
            obtain ⟨o73, e73, hg⟩ := ob hg
            refine r_callV (As := []) (rest := []) (ws' := wX Z a o73 ps im ik o44 rb rp mv) 0 rfl rfl rfl (fun l => c_X7_readMemory Z l a o57.2 ps im ik o44 rb rp mv  o73 e73) qw_743 mv_X7_readMemory (xPk.all rfl) ⟨Nat.le_of_ble_eq_true rfl, Nat.le_of_ble_eq_true rfl⟩ ⟨rfl, rfl⟩ ⟨Nat.zero_le _, Nat.zero_le _⟩ rfl (Nat.le_of_ble_eq_true rfl) rfl dX7_after_73 ?_
            exact r_sub [2, 5] rfl (J76 n3 o73 o44 hg)
        · replace hg := (if_neg h37).symm.trans hg
          refine r_iload dX7_after_40 0 rfl ?_
          exact r_iret (hE _ (Option.some.inj hg)) dX7_after_42
      · replace hg := (if_pos h23).symm.trans hg
        exact r_sub [] rfl (J26 m asd hg)

-- TicketJournalModel.needed(I)I
abbrev rm_X7_needed : Room := { frames := 3, cells := 0, slots := 0, locals := 63 }
def g_X7_needed (m : Nat → Int32) (n1 : Int32) : Option (Int32) :=
  (g_X7_refusal m n1).bind fun o2 => (if o2 = 0 then (if (m 117) = 4 then some (11) else some (4)) else some (o2))
set_option maxHeartbeats 4000000 in
set_option maxRecDepth 100000 in
theorem c_X7_needed (Z : GZ) (l : Launch) (a : Nat → Nat) (m : Nat → Int32) (ps : Nat → Int32) (im : Nat → Int32) (ik : Nat → Int32) (asd : Nat → Int32) (rb : Nat → Int32) (rp : Nat → Int32) (mv : Nat → Int32) (n1 : Int32) (o : (Int32)) (hg : g_X7_needed m n1 = some o) : Con Z l yX7_needed cX7_needed 3 (some .int) rm_X7_needed [.ref (a 0), .int n1] (wX Z a m ps im ik asd rb rp mv) (some (.int o)) (wX Z a m ps im ik asd rb rp mv) := by
  refine Con.of (by decide) (Nat.le_of_ble_eq_true rfl) ?_
  intro X hE0
  have hE : ∀ z, z = o → endsX X Z (some .int) (some (.int z)) (wX Z a m ps im ik asd rb rp mv) := by
    rintro _ rfl; exact hE0
  unfold g_X7_needed at hg
  show AtK X Z rm_X7_needed cX7_needed RX7 3 0 0 (wX Z a m ps im ik asd rb rp mv) 0 [(0, .ref (a 0)), (1, .int n1)] []
  refine r_aload_n dX7_needed_0 0 rfl ?_
  refine r_iload_n dX7_needed_1 1 rfl ?_
  obtain ⟨o2, e2, hg⟩ := ob hg
  refine r_callV (As := [.int n1]) (rest := []) (ws' := wX Z a m ps im ik asd rb rp mv) 0 rfl rfl rfl (fun l => c_X7_refusal Z l a m ps im ik asd rb rp mv n1 o2 e2) qw_622 mv_X7_refusal (xPk.all rfl) ⟨Nat.le_of_ble_eq_true rfl, Nat.le_of_ble_eq_true rfl⟩ ⟨rfl, rfl⟩ ⟨Nat.zero_le _, Nat.zero_le _⟩ rfl (Nat.le_of_ble_eq_true rfl) rfl dX7_needed_2 ?_
  refine r_istore_n (lv' := [(2, .int o2), (0, .ref (a 0)), (1, .int n1)]) dX7_needed_5 (by decide) rfl ?_
  refine r_iload_n dX7_needed_6 0 rfl ?_
  refine r_if_eq (tgt := 12) dX7_needed_7 (by decide) (fun h7 => ?_) (fun h7 => ?_)
  · replace hg := (if_pos h7).symm.trans hg
    refine r_aload_n dX7_needed_12 1 rfl ?_
    refine gf_X7_0 (v := .ref (a 1)) 0 rfl rfl qw_586 dX7_needed_13 ?_
    refine r_bipush (v := 117) dX7_needed_16 kbp_117 ?_
    refine r_ialdL 1 rfl (j := 117) (by decide) (by decide) dX7_needed_18 ?_
    refine r_iconst (v := 4) dX7_needed_19 kic_4 ?_
    refine r_icmp_ne (tgt := 28) dX7_needed_20 (by decide) (fun h20 => ?_) (fun h20 => ?_)
    · replace hg := (if_neg h20).symm.trans hg
      refine r_iconst (v := 4) dX7_needed_28 kic_4 ?_
      exact r_iret (hE _ (Option.some.inj hg)) dX7_needed_29
    · replace hg := (if_pos h20).symm.trans hg
      refine r_bipush (v := 11) dX7_needed_23 kbp_11 ?_
      refine r_goto (tgt := 29) dX7_needed_25 (by decide) ?_
      exact r_iret (hE _ (Option.some.inj hg)) dX7_needed_29
  · replace hg := (if_neg h7).symm.trans hg
    refine r_iload_n dX7_needed_10 0 rfl ?_
    exact r_iret (hE _ (Option.some.inj hg)) dX7_needed_11

-- TicketJournalModel.keep(I)I
abbrev rm_X7_keep_ : Room := { frames := 7, cells := 0, slots := 0, locals := 161 }
def g_X7_keep__11 (m : Nat → Int32)  : Nat → Int32 → Int32 → (Nat → Int32) → (Nat → Int32) → Option (Int32 × (Nat → Int32) × (Nat → Int32))
  | 0 => fun _ _ _ _ => none
  | n + 1 => fun x1 x2 im ik => (if 131 ≤ x2 then (if x1 < 0 ∨ 2 ≤ x1.toNatClampNeg then none else (g_X7_count m (-1)).bind fun o51 => some (o51, im, (upd ik x1.toNatClampNeg 1))) else (if x2 < 0 ∨ 131 ≤ x2.toNatClampNeg then none else (if ((131 * x1) + x2) < 0 ∨ 262 ≤ ((131 * x1) + x2).toNatClampNeg then none else (g_X7_keep__11 m n) x1 (x2 + 1) (upd im (((131 * x1) + x2).toNatClampNeg) (m x2.toNatClampNeg)) ik)))
def g_X7_keep_ (m : Nat → Int32) (im : Nat → Int32) (ik : Nat → Int32) (n1 : Int32) : Option (Int32 × (Nat → Int32) × (Nat → Int32)) :=
  (g_X7_isImage n1).bind fun o1 => (if o1 = 0 then some ((-1), im, ik) else g_X7_keep__11 m 140 n1 0 im ik)
set_option maxHeartbeats 4000000 in
set_option maxRecDepth 100000 in
theorem c_X7_keep_ (Z : GZ) (l : Launch) (a : Nat → Nat) (m : Nat → Int32) (ps : Nat → Int32) (im : Nat → Int32) (ik : Nat → Int32) (asd : Nat → Int32) (rb : Nat → Int32) (rp : Nat → Int32) (mv : Nat → Int32) (n1 : Int32) (o : (Int32 × (Nat → Int32) × (Nat → Int32))) (hg : g_X7_keep_ m im ik n1 = some o) : Con Z l yX7_keep_ cX7_keep_ 3 (some .int) rm_X7_keep_ [.ref (a 0), .int n1] (wX Z a m ps im ik asd rb rp mv) (some (.int o.1)) (wX Z a m ps o.2.1 o.2.2 asd rb rp mv) := by
  refine Con.of (by decide) (Nat.le_of_ble_eq_true rfl) ?_
  intro X hE0
  have hE : ∀ z, z = o → endsX X Z (some .int) (some (.int z.1)) (wX Z a m ps z.2.1 z.2.2 asd rb rp mv) := by
    rintro _ rfl; exact hE0
  have J11 : ∀ (n : Nat), ∀ (x1 : Int32) (x2 : Int32) (im : Nat → Int32) (ik : Nat → Int32), g_X7_keep__11 m n x1 x2 im ik = some o → AtK X Z rm_X7_keep_ cX7_keep_ RX7 3 0 0 (wX Z a m ps im ik asd rb rp mv) 11 [(0, .ref (a 0)), (1, .int x1), (2, .int x2)] [] := by
    intro  n
    induction n with
    | zero => intro x1 x2 im ik hg; exact nomatch (show (none : Option _) = some o from hg)
    | succ n ih =>
      intro x1 x2 im ik hg
      unfold g_X7_keep__11 at hg
      refine r_iload_n dX7_keep__11 2 rfl ?_
      refine r_sipush (v := 131) dX7_keep__12 ksp_131 ?_
      refine r_icmp_ge (tgt := 42) dX7_keep__15 (by decide) (fun h15 => ?_) (fun h15 => ?_)
      · replace hg := (if_pos h15).symm.trans hg
        refine r_aload_n dX7_keep__42 0 rfl ?_
        refine gf_X7_4 (v := .ref (a 4)) 0 rfl rfl qw_590 dX7_keep__43 ?_
        refine r_iload_n dX7_keep__46 1 rfl ?_
        refine r_iconst (v := 1) dX7_keep__47 kic_1 ?_
        obtain ⟨hi48, hg⟩ := og hg
        refine r_iast 4 rfl rfl hi48 dX7_keep__48 (ws' := wX Z a m ps im (upd ik x1.toNatClampNeg 1) asd rb rp mv) rfl ?_
        refine r_aload_n dX7_keep__49 0 rfl ?_
        refine r_iconst (v := (-1)) dX7_keep__50 kic_m1 ?_
        obtain ⟨o51, e51, hg⟩ := ob hg
        refine r_callV (As := [.int (-1)]) (rest := []) (ws' := wX Z a m ps im (upd ik x1.toNatClampNeg 1) asd rb rp mv) 0 rfl rfl rfl (fun l => c_X7_count Z l a m ps im (upd ik x1.toNatClampNeg 1) asd rb rp mv (-1) o51 e51) qw_723 mv_X7_count (xPk.all rfl) ⟨Nat.le_of_ble_eq_true rfl, Nat.le_of_ble_eq_true rfl⟩ ⟨rfl, rfl⟩ ⟨Nat.zero_le _, Nat.zero_le _⟩ rfl (Nat.le_of_ble_eq_true rfl) rfl dX7_keep__51 ?_
        exact r_iret (hE _ (Option.some.inj hg)) dX7_keep__54
      · replace hg := (if_neg h15).symm.trans hg
        refine r_aload_n dX7_keep__18 0 rfl ?_
        refine gf_X7_3 (v := .ref (a 3)) 0 rfl rfl qw_589 dX7_keep__19 ?_
        refine r_sipush (v := 131) dX7_keep__22 ksp_131 ?_
        refine r_iload_n dX7_keep__25 1 rfl ?_
        refine r_imul dX7_keep__26 ?_
        refine r_iload_n dX7_keep__27 2 rfl ?_
        refine r_iadd dX7_keep__28 ?_
        refine r_aload_n dX7_keep__29 0 rfl ?_
        refine gf_X7_0 (v := .ref (a 1)) 0 rfl rfl qw_586 dX7_keep__30 ?_
        refine r_iload_n dX7_keep__33 2 rfl ?_
        obtain ⟨hi34, hg⟩ := og hg
        refine r_iald 1 rfl hi34 dX7_keep__34 ?_
        obtain ⟨hi35, hg⟩ := og hg
        refine r_iast 3 rfl rfl hi35 dX7_keep__35 (ws' := wX Z a m ps (upd im (((131 * x1) + x2).toNatClampNeg) (m x2.toNatClampNeg)) ik asd rb rp mv) rfl ?_
        refine r_iinc (v := (x2 + 1)) (lv' := [(2, .int (x2 + 1)), (0, .ref (a 0)), (1, .int x1)]) dX7_keep__36 (k := 2) rfl rfl (by decide) rfl ?_
        refine r_goto (tgt := 11) dX7_keep__39 (by decide) ?_
        exact r_sub [1, 2, 0] rfl (ih x1 (x2 + 1) (upd im (((131 * x1) + x2).toNatClampNeg) (m x2.toNatClampNeg)) ik hg)
  unfold g_X7_keep_ at hg
  show AtK X Z rm_X7_keep_ cX7_keep_ RX7 3 0 0 (wX Z a m ps im ik asd rb rp mv) 0 [(0, .ref (a 0)), (1, .int n1)] []
  refine r_iload_n dX7_keep__0 1 rfl ?_
  obtain ⟨o1, e1, hg⟩ := ob hg
  refine r_callS (As := [.int n1]) (rest := []) (ws' := wX Z a m ps im ik asd rb rp mv) (fun l => c_X7_isImage Z l   n1 o1 e1) qw_830 ms_X7_isImage xPk.none ⟨Nat.le_of_ble_eq_true rfl, Nat.le_of_ble_eq_true rfl⟩ ⟨rfl, rfl⟩ ⟨Nat.zero_le _, Nat.zero_le _⟩ rfl (Nat.le_of_ble_eq_true rfl) rfl dX7_keep__1 ?_
  refine r_if_ne (tgt := 9) dX7_keep__4 (by decide) (fun h4 => ?_) (fun h4 => ?_)
  · replace hg := (if_neg h4).symm.trans hg
    refine r_iconst (v := 0) dX7_keep__9 kic_0 ?_
    refine r_istore_n (lv' := [(2, .int 0), (0, .ref (a 0)), (1, .int n1)]) dX7_keep__10 (by decide) rfl ?_
    exact r_sub [1, 2, 0] rfl (J11 140 n1 0 im ik hg)
  · replace hg := (if_pos h4).symm.trans hg
    refine r_iconst (v := (-1)) dX7_keep__7 kic_m1 ?_
    exact r_iret (hE _ (Option.some.inj hg)) dX7_keep__8

-- TicketJournalModel.back(I)I
abbrev rm_X7_back : Room := { frames := 7, cells := 0, slots := 0, locals := 161 }
def g_X7_back_27 (im : Nat → Int32) (ik : Nat → Int32)  : Nat → Int32 → Int32 → (Nat → Int32) → (Nat → Int32) → (Nat → Int32) → Option (Int32 × (Nat → Int32) × (Nat → Int32) × (Nat → Int32))
  | 0 => fun _ _ _ _ _ => none
  | n + 1 => fun x1 x2 m ps mv => (if 131 ≤ x2 then (g_X7_count m (-1)).bind fun o60 => some (o60, m, ps, mv) else (if ((131 * x1) + x2) < 0 ∨ 262 ≤ ((131 * x1) + x2).toNatClampNeg then none else (if x2 < 0 ∨ 131 ≤ x2.toNatClampNeg then none else (g_X7_back_27 im ik n) x1 (x2 + 1) (upd m x2.toNatClampNeg (im ((131 * x1) + x2).toNatClampNeg)) ps mv)))
def g_X7_back (m : Nat → Int32) (ps : Nat → Int32) (im : Nat → Int32) (ik : Nat → Int32) (mv : Nat → Int32) (n1 : Int32) : Option (Int32 × (Nat → Int32) × (Nat → Int32) × (Nat → Int32)) :=
  (g_X7_isImage n1).bind fun o1 => (if o1 = 0 then some ((-1), m, ps, mv) else (if n1 < 0 ∨ 2 ≤ n1.toNatClampNeg then none else (if (ik n1.toNatClampNeg) = 0 then some ((-2), m, ps, mv) else (g_X7_keep m ps mv).bind fun o22 => g_X7_back_27 im ik 140 n1 0 m o22.1 o22.2)))
set_option maxHeartbeats 4000000 in
set_option maxRecDepth 100000 in
theorem c_X7_back (Z : GZ) (l : Launch) (a : Nat → Nat) (m : Nat → Int32) (ps : Nat → Int32) (im : Nat → Int32) (ik : Nat → Int32) (asd : Nat → Int32) (rb : Nat → Int32) (rp : Nat → Int32) (mv : Nat → Int32) (n1 : Int32) (o : (Int32 × (Nat → Int32) × (Nat → Int32) × (Nat → Int32))) (hg : g_X7_back m ps im ik mv n1 = some o) : Con Z l yX7_back cX7_back 3 (some .int) rm_X7_back [.ref (a 0), .int n1] (wX Z a m ps im ik asd rb rp mv) (some (.int o.1)) (wX Z a o.2.1 o.2.2.1 im ik asd rb rp o.2.2.2) := by
  refine Con.of (by decide) (Nat.le_of_ble_eq_true rfl) ?_
  intro X hE0
  have hE : ∀ z, z = o → endsX X Z (some .int) (some (.int z.1)) (wX Z a z.2.1 z.2.2.1 im ik asd rb rp z.2.2.2) := by
    rintro _ rfl; exact hE0
  have J27 : ∀ (n : Nat), ∀ (x1 : Int32) (x2 : Int32) (m : Nat → Int32) (ps : Nat → Int32) (mv : Nat → Int32), g_X7_back_27 im ik n x1 x2 m ps mv = some o → AtK X Z rm_X7_back cX7_back RX7 3 0 0 (wX Z a m ps im ik asd rb rp mv) 27 [(0, .ref (a 0)), (1, .int x1), (2, .int x2)] [] := by
    intro  n
    induction n with
    | zero => intro x1 x2 m ps mv hg; exact nomatch (show (none : Option _) = some o from hg)
    | succ n ih =>
      intro x1 x2 m ps mv hg
      unfold g_X7_back_27 at hg
      refine r_iload_n dX7_back_27 2 rfl ?_
      refine r_sipush (v := 131) dX7_back_28 ksp_131 ?_
      refine r_icmp_ge (tgt := 58) dX7_back_31 (by decide) (fun h31 => ?_) (fun h31 => ?_)
      · replace hg := (if_pos h31).symm.trans hg
        refine r_aload_n dX7_back_58 0 rfl ?_
        refine r_iconst (v := (-1)) dX7_back_59 kic_m1 ?_
        obtain ⟨o60, e60, hg⟩ := ob hg
        refine r_callV (As := [.int (-1)]) (rest := []) (ws' := wX Z a m ps im ik asd rb rp mv) 0 rfl rfl rfl (fun l => c_X7_count Z l a m ps im ik asd rb rp mv (-1) o60 e60) qw_723 mv_X7_count (xPk.all rfl) ⟨Nat.le_of_ble_eq_true rfl, Nat.le_of_ble_eq_true rfl⟩ ⟨rfl, rfl⟩ ⟨Nat.zero_le _, Nat.zero_le _⟩ rfl (Nat.le_of_ble_eq_true rfl) rfl dX7_back_60 ?_
        exact r_iret (hE _ (Option.some.inj hg)) dX7_back_63
      · replace hg := (if_neg h31).symm.trans hg
        refine r_aload_n dX7_back_34 0 rfl ?_
        refine gf_X7_0 (v := .ref (a 1)) 0 rfl rfl qw_586 dX7_back_35 ?_
        refine r_iload_n dX7_back_38 2 rfl ?_
        refine r_aload_n dX7_back_39 0 rfl ?_
        refine gf_X7_3 (v := .ref (a 3)) 0 rfl rfl qw_589 dX7_back_40 ?_
        refine r_sipush (v := 131) dX7_back_43 ksp_131 ?_
        refine r_iload_n dX7_back_46 1 rfl ?_
        refine r_imul dX7_back_47 ?_
        refine r_iload_n dX7_back_48 2 rfl ?_
        refine r_iadd dX7_back_49 ?_
        obtain ⟨hi50, hg⟩ := og hg
        refine r_iald 3 rfl hi50 dX7_back_50 ?_
        obtain ⟨hi51, hg⟩ := og hg
        refine r_iast 1 rfl rfl hi51 dX7_back_51 (ws' := wX Z a (upd m x2.toNatClampNeg (im ((131 * x1) + x2).toNatClampNeg)) ps im ik asd rb rp mv) rfl ?_
        refine r_iinc (v := (x2 + 1)) (lv' := [(2, .int (x2 + 1)), (0, .ref (a 0)), (1, .int x1)]) dX7_back_52 (k := 2) rfl rfl (by decide) rfl ?_
        refine r_goto (tgt := 27) dX7_back_55 (by decide) ?_
        exact r_sub [1, 2, 0] rfl (ih x1 (x2 + 1) (upd m x2.toNatClampNeg (im ((131 * x1) + x2).toNatClampNeg)) ps mv hg)
  unfold g_X7_back at hg
  show AtK X Z rm_X7_back cX7_back RX7 3 0 0 (wX Z a m ps im ik asd rb rp mv) 0 [(0, .ref (a 0)), (1, .int n1)] []
  refine r_iload_n dX7_back_0 1 rfl ?_
  obtain ⟨o1, e1, hg⟩ := ob hg
  refine r_callS (As := [.int n1]) (rest := []) (ws' := wX Z a m ps im ik asd rb rp mv) (fun l => c_X7_isImage Z l   n1 o1 e1) qw_830 ms_X7_isImage xPk.none ⟨Nat.le_of_ble_eq_true rfl, Nat.le_of_ble_eq_true rfl⟩ ⟨rfl, rfl⟩ ⟨Nat.zero_le _, Nat.zero_le _⟩ rfl (Nat.le_of_ble_eq_true rfl) rfl dX7_back_1 ?_
  refine r_if_ne (tgt := 9) dX7_back_4 (by decide) (fun h4 => ?_) (fun h4 => ?_)
  · replace hg := (if_neg h4).symm.trans hg
    refine r_aload_n dX7_back_9 0 rfl ?_
    refine gf_X7_4 (v := .ref (a 4)) 0 rfl rfl qw_590 dX7_back_10 ?_
    refine r_iload_n dX7_back_13 1 rfl ?_
    obtain ⟨hi14, hg⟩ := og hg
    refine r_iald 4 rfl hi14 dX7_back_14 ?_
    refine r_if_ne (tgt := 21) dX7_back_15 (by decide) (fun h15 => ?_) (fun h15 => ?_)
    · replace hg := (if_neg h15).symm.trans hg
      refine r_aload_n dX7_back_21 0 rfl ?_
      obtain ⟨o22, e22, hg⟩ := ob hg
      refine r_callV (As := []) (rest := []) (ws' := wX Z a m o22.1 im ik asd rb rp o22.2) 0 rfl rfl rfl (fun l => c_X7_keep Z l a m ps im ik asd rb rp mv  o22 e22) qw_636 mv_X7_keep (xPk.all rfl) ⟨Nat.le_of_ble_eq_true rfl, Nat.le_of_ble_eq_true rfl⟩ ⟨rfl, rfl⟩ ⟨Nat.zero_le _, Nat.zero_le _⟩ rfl (Nat.le_of_ble_eq_true rfl) rfl dX7_back_22 ?_
      refine r_iconst (v := 0) dX7_back_25 kic_0 ?_
      refine r_istore_n (lv' := [(2, .int 0), (0, .ref (a 0)), (1, .int n1)]) dX7_back_26 (by decide) rfl ?_
      exact r_sub [1, 2, 0] rfl (J27 140 n1 0 m o22.1 o22.2 hg)
    · replace hg := (if_pos h15).symm.trans hg
      refine r_bipush (v := (-2)) dX7_back_18 kbp_m2 ?_
      exact r_iret (hE _ (Option.some.inj hg)) dX7_back_20
  · replace hg := (if_pos h4).symm.trans hg
    refine r_iconst (v := (-1)) dX7_back_7 kic_m1 ?_
    exact r_iret (hE _ (Option.some.inj hg)) dX7_back_8

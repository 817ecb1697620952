-- TicketJournal$Journal.setDetail(II)V
abbrev rm_X2_setDetail : Room := { frames := 0, cells := 0, slots := 0, locals := 0 }
def g_X2_setDetail (d : Nat → Int32) (jc : Int32) (n1 : Int32) (n2 : Int32) : Option ((Nat → Int32)) :=
  (if ((jc * 6) + n1) < 0 then some (d) else (if 120 ≤ ((jc * 6) + n1) then some (d) else (if ((jc * 6) + n1) < 0 ∨ 120 ≤ ((jc * 6) + n1).toNatClampNeg then none else some ((upd d (((jc * 6) + n1).toNatClampNeg) n2)))))
set_option maxHeartbeats 4000000 in
set_option maxRecDepth 100000 in
theorem c_X2_setDetail (Z : GZ) (l : Launch) (hj : Nat) (hd : Nat) (d : Nat → Int32) (jc : Int32) (n1 : Int32) (n2 : Int32) (o : ((Nat → Int32))) (hg : g_X2_setDetail d jc n1 n2 = some o) : Con Z l yX2_setDetail cX2_setDetail 4 none rm_X2_setDetail [.ref hj, .int n1, .int n2] (wJ Z hj hd d jc) none (wJ Z hj hd o jc) := by
  refine Con.of (by decide) (Nat.le_of_ble_eq_true rfl) ?_
  intro X hE0
  have hE : ∀ z, z = o → endsX X Z none none (wJ Z hj hd z jc) := by
    rintro _ rfl; exact hE0
  unfold g_X2_setDetail at hg
  show AtK X Z rm_X2_setDetail cX2_setDetail RX2 4 0 0 (wJ Z hj hd d jc) 0 [(0, .ref hj), (1, .int n1), (2, .int n2)] []
  refine r_aload_n dX2_setDetail_0 0 rfl ?_
  refine gf_X2_1 (v := .int jc) 0 rfl rfl qw_131 dX2_setDetail_1 ?_
  refine r_bipush (v := 6) dX2_setDetail_4 kbp_6 ?_
  refine r_imul dX2_setDetail_6 ?_
  refine r_iload_n dX2_setDetail_7 1 rfl ?_
  refine r_iadd dX2_setDetail_8 ?_
  refine r_istore_n (lv' := [(3, .int ((jc * 6) + n1)), (0, .ref hj), (1, .int n1), (2, .int n2)]) dX2_setDetail_9 (by decide) rfl ?_
  refine r_iload_n dX2_setDetail_10 0 rfl ?_
  refine r_if_lt (tgt := 30) dX2_setDetail_11 (by decide) (fun h11 => ?_) (fun h11 => ?_)
  · replace hg := (if_pos h11).symm.trans hg
    exact r_vret (hE _ (Option.some.inj hg)) dX2_setDetail_30
  · replace hg := (if_neg h11).symm.trans hg
    refine r_iload_n dX2_setDetail_14 0 rfl ?_
    refine r_aload_n dX2_setDetail_15 1 rfl ?_
    refine gf_X2_0 (v := .ref hd) 0 rfl rfl qw_130 dX2_setDetail_16 ?_
    refine r_alen 1 0 rfl rfl (v := 120) (by decide) dX2_setDetail_19 ?_
    refine r_icmp_ge (tgt := 30) dX2_setDetail_20 (by decide) (fun h20 => ?_) (fun h20 => ?_)
    · replace hg := (if_pos h20).symm.trans hg
      exact r_vret (hE _ (Option.some.inj hg)) dX2_setDetail_30
    · replace hg := (if_neg h20).symm.trans hg
      refine r_aload_n dX2_setDetail_23 1 rfl ?_
      refine gf_X2_0 (v := .ref hd) 0 rfl rfl qw_130 dX2_setDetail_24 ?_
      refine r_iload_n dX2_setDetail_27 0 rfl ?_
      refine r_iload_n dX2_setDetail_28 3 rfl ?_
      obtain ⟨hi29, hg⟩ := og hg
      refine r_iast 1 rfl rfl hi29 dX2_setDetail_29 (ws' := wJ Z hj hd (upd d (((jc * 6) + n1).toNatClampNeg) n2) jc) rfl ?_
      exact r_vret (hE _ (Option.some.inj hg)) dX2_setDetail_30

-- TicketJournal$Journal.add(LTicketJournal$Flash;II)V
abbrev rm_X2_add : Room := { frames := 2, cells := 0, slots := 0, locals := 46 }
def g_X2_add (d : Nat → Int32) (jc : Int32) (w : Nat → Int32) (n1 : Int32) (n2 : Int32) : Option ((Nat → Int32) × (Int32)) :=
  (g_X0_recordWord w n1 n2 0).bind fun o4 => (g_X2_setDetail d jc 0 (jrem o4 10000)).bind fun o17 => (g_X2_setDetail o17 jc 1 (o4 / 10000)).bind fun o28 => (g_X0_recordWord w n1 n2 1).bind fun o37 => (g_X2_setDetail o28 jc 2 o37).bind fun o40 => (g_X0_recordWord w n1 n2 2).bind fun o49 => (g_X2_setDetail o40 jc 3 o49).bind fun o52 => (g_X2_setDetail o52 jc 4 n1).bind fun o58 => (g_X2_setDetail o58 jc 5 n2).bind fun o64 => some (o64, (jc + 1))
set_option maxHeartbeats 4000000 in
set_option maxRecDepth 100000 in
theorem c_X2_add (Z : GZ) (l : Launch) (hj : Nat) (hd : Nat) (h : Nat) (hw : Nat) (he : Nat) (d : Nat → Int32) (jc : Int32) (w : Nat → Int32) (er : Nat → Int32) (fl : Nat → Int32) (n1 : Int32) (n2 : Int32) (o : ((Nat → Int32) × (Int32))) (hg : g_X2_add d jc w n1 n2 = some o) : Con Z l yX2_add cX2_add 5 none rm_X2_add [.ref hj, .ref h, .int n1, .int n2] (wJ Z hj hd d jc ++ (wF Z h hw he w er fl)) none (wJ Z hj hd o.1 o.2 ++ (wF Z h hw he w er fl)) := by
  refine Con.of (by decide) (Nat.le_of_ble_eq_true rfl) ?_
  intro X hE0
  have hE : ∀ z, z = o → endsX X Z none none (wJ Z hj hd z.1 z.2 ++ (wF Z h hw he w er fl)) := by
    rintro _ rfl; exact hE0
  unfold g_X2_add at hg
  show AtK X Z rm_X2_add cX2_add RX2 5 0 0 (wJ Z hj hd d jc ++ (wF Z h hw he w er fl)) 0 [(0, .ref hj), (1, .ref h), (2, .int n1), (3, .int n2)] []
  refine r_aload_n dX2_add_0 1 rfl ?_
  refine r_iload_n dX2_add_1 2 rfl ?_
  refine r_iload_n dX2_add_2 3 rfl ?_
  refine r_iconst (v := 0) dX2_add_3 kic_0 ?_
  obtain ⟨o4, e4, hg⟩ := ob hg
  refine r_callV (As := [.int n1, .int n2, .int 0]) (rest := []) (ws' := wJ Z hj hd d jc ++ (wF Z h hw he w er fl)) 0 rfl rfl rfl (fun l => c_X0_recordWord Z l h hw he w er fl n1 n2 0 o4 e4) qw_477 mv_X0_recordWord (xPk.idx [2, 3, 4] rfl rfl rfl rfl rfl) ⟨Nat.le_of_ble_eq_true rfl, Nat.le_of_ble_eq_true rfl⟩ ⟨rfl, rfl⟩ ⟨Nat.zero_le _, Nat.zero_le _⟩ rfl (Nat.le_of_ble_eq_true rfl) rfl dX2_add_4 ?_
  refine r_istore (lv' := [(4, .int o4), (0, .ref hj), (1, .ref h), (2, .int n1), (3, .int n2)]) dX2_add_7 (by decide) rfl ?_
  refine r_aload_n dX2_add_9 1 rfl ?_
  refine r_iconst (v := 0) dX2_add_10 kic_0 ?_
  refine r_iload dX2_add_11 0 rfl ?_
  refine r_sipush (v := 10000) dX2_add_13 ksp_10000 ?_
  refine r_irem dX2_add_16 (by decide) ?_
  obtain ⟨o17, e17, hg⟩ := ob hg
  refine r_callV (As := [.int 0, .int (jrem o4 10000)]) (rest := []) (ws' := wJ Z hj hd o17 jc ++ (wF Z h hw he w er fl)) 0 rfl rfl rfl (fun l => c_X2_setDetail Z l hj hd d jc 0 (jrem o4 10000) o17 e17) qw_478 mv_X2_setDetail (xPk.idx [0, 1] rfl rfl rfl rfl rfl) ⟨Nat.le_of_ble_eq_true rfl, Nat.le_of_ble_eq_true rfl⟩ ⟨rfl, rfl⟩ ⟨Nat.zero_le _, Nat.zero_le _⟩ rfl (Nat.le_of_ble_eq_true rfl) rfl dX2_add_17 ?_
  refine r_aload_n dX2_add_20 1 rfl ?_
  refine r_iconst (v := 1) dX2_add_21 kic_1 ?_
  refine r_iload dX2_add_22 0 rfl ?_
  refine r_sipush (v := 10000) dX2_add_24 ksp_10000 ?_
  refine r_idiv dX2_add_27 (by decide) ?_
  obtain ⟨o28, e28, hg⟩ := ob hg
  refine r_callV (As := [.int 1, .int (o4 / 10000)]) (rest := []) (ws' := wJ Z hj hd o28 jc ++ (wF Z h hw he w er fl)) 0 rfl rfl rfl (fun l => c_X2_setDetail Z l hj hd o17 jc 1 (o4 / 10000) o28 e28) qw_478 mv_X2_setDetail (xPk.idx [0, 1] rfl rfl rfl rfl rfl) ⟨Nat.le_of_ble_eq_true rfl, Nat.le_of_ble_eq_true rfl⟩ ⟨rfl, rfl⟩ ⟨Nat.zero_le _, Nat.zero_le _⟩ rfl (Nat.le_of_ble_eq_true rfl) rfl dX2_add_28 ?_
  refine r_aload_n dX2_add_31 1 rfl ?_
  refine r_iconst (v := 2) dX2_add_32 kic_2 ?_
  refine r_aload_n dX2_add_33 2 rfl ?_
  refine r_iload_n dX2_add_34 3 rfl ?_
  refine r_iload_n dX2_add_35 4 rfl ?_
  refine r_iconst (v := 1) dX2_add_36 kic_1 ?_
  obtain ⟨o37, e37, hg⟩ := ob hg
  refine r_callV (As := [.int n1, .int n2, .int 1]) (rest := [.int 2, .ref hj]) (ws' := wJ Z hj hd o28 jc ++ (wF Z h hw he w er fl)) 0 rfl rfl rfl (fun l => c_X0_recordWord Z l h hw he w er fl n1 n2 1 o37 e37) qw_477 mv_X0_recordWord (xPk.idx [2, 3, 4] rfl rfl rfl rfl rfl) ⟨Nat.le_of_ble_eq_true rfl, Nat.le_of_ble_eq_true rfl⟩ ⟨rfl, rfl⟩ ⟨Nat.zero_le _, Nat.zero_le _⟩ rfl (Nat.le_of_ble_eq_true rfl) rfl dX2_add_37 ?_
  obtain ⟨o40, e40, hg⟩ := ob hg
  refine r_callV (As := [.int 2, .int o37]) (rest := []) (ws' := wJ Z hj hd o40 jc ++ (wF Z h hw he w er fl)) 0 rfl rfl rfl (fun l => c_X2_setDetail Z l hj hd o28 jc 2 o37 o40 e40) qw_478 mv_X2_setDetail (xPk.idx [0, 1] rfl rfl rfl rfl rfl) ⟨Nat.le_of_ble_eq_true rfl, Nat.le_of_ble_eq_true rfl⟩ ⟨rfl, rfl⟩ ⟨Nat.zero_le _, Nat.zero_le _⟩ rfl (Nat.le_of_ble_eq_true rfl) rfl dX2_add_40 ?_
  refine r_aload_n dX2_add_43 1 rfl ?_
  refine r_iconst (v := 3) dX2_add_44 kic_3 ?_
  refine r_aload_n dX2_add_45 2 rfl ?_
  refine r_iload_n dX2_add_46 3 rfl ?_
  refine r_iload_n dX2_add_47 4 rfl ?_
  refine r_iconst (v := 2) dX2_add_48 kic_2 ?_
  obtain ⟨o49, e49, hg⟩ := ob hg
  refine r_callV (As := [.int n1, .int n2, .int 2]) (rest := [.int 3, .ref hj]) (ws' := wJ Z hj hd o40 jc ++ (wF Z h hw he w er fl)) 0 rfl rfl rfl (fun l => c_X0_recordWord Z l h hw he w er fl n1 n2 2 o49 e49) qw_477 mv_X0_recordWord (xPk.idx [2, 3, 4] rfl rfl rfl rfl rfl) ⟨Nat.le_of_ble_eq_true rfl, Nat.le_of_ble_eq_true rfl⟩ ⟨rfl, rfl⟩ ⟨Nat.zero_le _, Nat.zero_le _⟩ rfl (Nat.le_of_ble_eq_true rfl) rfl dX2_add_49 ?_
  obtain ⟨o52, e52, hg⟩ := ob hg
  refine r_callV (As := [.int 3, .int o49]) (rest := []) (ws' := wJ Z hj hd o52 jc ++ (wF Z h hw he w er fl)) 0 rfl rfl rfl (fun l => c_X2_setDetail Z l hj hd o40 jc 3 o49 o52 e52) qw_478 mv_X2_setDetail (xPk.idx [0, 1] rfl rfl rfl rfl rfl) ⟨Nat.le_of_ble_eq_true rfl, Nat.le_of_ble_eq_true rfl⟩ ⟨rfl, rfl⟩ ⟨Nat.zero_le _, Nat.zero_le _⟩ rfl (Nat.le_of_ble_eq_true rfl) rfl dX2_add_52 ?_
  refine r_aload_n dX2_add_55 1 rfl ?_
  refine r_iconst (v := 4) dX2_add_56 kic_4 ?_
  refine r_iload_n dX2_add_57 3 rfl ?_
  obtain ⟨o58, e58, hg⟩ := ob hg
  refine r_callV (As := [.int 4, .int n1]) (rest := []) (ws' := wJ Z hj hd o58 jc ++ (wF Z h hw he w er fl)) 0 rfl rfl rfl (fun l => c_X2_setDetail Z l hj hd o52 jc 4 n1 o58 e58) qw_478 mv_X2_setDetail (xPk.idx [0, 1] rfl rfl rfl rfl rfl) ⟨Nat.le_of_ble_eq_true rfl, Nat.le_of_ble_eq_true rfl⟩ ⟨rfl, rfl⟩ ⟨Nat.zero_le _, Nat.zero_le _⟩ rfl (Nat.le_of_ble_eq_true rfl) rfl dX2_add_58 ?_
  refine r_aload_n dX2_add_61 1 rfl ?_
  refine r_iconst (v := 5) dX2_add_62 kic_5 ?_
  refine r_iload_n dX2_add_63 4 rfl ?_
  obtain ⟨o64, e64, hg⟩ := ob hg
  refine r_callV (As := [.int 5, .int n2]) (rest := []) (ws' := wJ Z hj hd o64 jc ++ (wF Z h hw he w er fl)) 0 rfl rfl rfl (fun l => c_X2_setDetail Z l hj hd o58 jc 5 n2 o64 e64) qw_478 mv_X2_setDetail (xPk.idx [0, 1] rfl rfl rfl rfl rfl) ⟨Nat.le_of_ble_eq_true rfl, Nat.le_of_ble_eq_true rfl⟩ ⟨rfl, rfl⟩ ⟨Nat.zero_le _, Nat.zero_le _⟩ rfl (Nat.le_of_ble_eq_true rfl) rfl dX2_add_64 ?_
  refine r_aload_n dX2_add_67 1 rfl ?_
  refine r_dup dX2_add_68 rfl ?_
  refine gf_X2_1 (v := .int jc) 0 rfl rfl qw_131 dX2_add_69 ?_
  refine r_iconst (v := 1) dX2_add_72 kic_1 ?_
  refine r_iadd dX2_add_73 ?_
  refine pf_X2_1 0 rfl (Nat.le_of_ble_eq_true rfl) qw_131 dX2_add_74 (ws' := wJ Z hj hd o64 (jc + 1) ++ (wF Z h hw he w er fl)) rfl ?_
  exact r_vret (hE _ (Option.some.inj hg)) dX2_add_77

-- TicketJournal$Journal.gather(LTicketJournal$Flash;)LTicketJournal$Journal;
abbrev rm_X2_gather : Room := { frames := 4, cells := 0, slots := 0, locals := 92 }
def g_X2_gather_73 (w : Nat → Int32) (k12 : Int32 → Int32 → (Nat → Int32) → Int32 → Option ((Nat → Int32) × (Int32))) (x2 : Int32) (x3 : Int32) (d : Nat → Int32) (jc : Int32) : Option ((Nat → Int32) × (Int32)) :=
  k12 x2 (x3 + 1) d jc
def g_X2_gather_67 (w : Nat → Int32) (k12 : Int32 → Int32 → (Nat → Int32) → Int32 → Option ((Nat → Int32) × (Int32))) (k35 : Int32 → Int32 → Int32 → Int32 → Int32 → (Nat → Int32) → Int32 → Option ((Nat → Int32) × (Int32))) (x2 : Int32) (x3 : Int32) (x4 : Int32) (x5 : Int32) (x6 : Int32) (d : Nat → Int32) (jc : Int32) : Option ((Nat → Int32) × (Int32)) :=
  k35 x2 x3 x4 x5 (x6 + 1) d jc
def g_X2_gather_35 (w : Nat → Int32) (k12 : Int32 → Int32 → (Nat → Int32) → Int32 → Option ((Nat → Int32) × (Int32))) : Nat → Int32 → Int32 → Int32 → Int32 → Int32 → (Nat → Int32) → Int32 → Option ((Nat → Int32) × (Int32))
  | 0 => fun _ _ _ _ _ _ _ => none
  | n + 1 => fun x2 x3 x4 x5 x6 d jc => (if x5 = 0 then g_X2_gather_73 w k12 x2 x3 d jc else (if 4 ≤ x6 then g_X2_gather_73 w k12 x2 x3 d jc else (g_X0_stateOf w x4 x6).bind fun o51 => (if o51 = 1 then (g_X2_add d jc w x4 x6).bind fun o64 => g_X2_gather_67 w k12 (g_X2_gather_35 w k12 n) x2 x3 x4 x5 x6 o64.1 o64.2 else g_X2_gather_67 w k12 (g_X2_gather_35 w k12 n) x2 x3 x4 x5 x6 d jc)))
def g_X2_gather_12 (w : Nat → Int32)  : Nat → Int32 → Int32 → (Nat → Int32) → Int32 → Option ((Nat → Int32) × (Int32))
  | 0 => fun _ _ _ _ => none
  | n + 1 => fun x2 x3 d jc => (if 5 < x3 then some (d, jc) else (g_X0_isWhole w (jrem (x2 + x3) 5)).bind fun o27 => g_X2_gather_35 w (g_X2_gather_12 w n) 12 x2 x3 (jrem (x2 + x3) 5) o27 0 d jc)
def g_X2_gather (d : Nat → Int32) (jc : Int32) (w : Nat → Int32)  : Option ((Nat → Int32) × (Int32)) :=
  (g_X0_newestBlock w).bind fun o6 => g_X2_gather_12 w 12 o6 1 d 0
set_option maxHeartbeats 4000000 in
set_option maxRecDepth 100000 in
theorem c_X2_gather (Z : GZ) (l : Launch) (hj : Nat) (hd : Nat) (h : Nat) (hw : Nat) (he : Nat) (d : Nat → Int32) (jc : Int32) (w : Nat → Int32) (er : Nat → Int32) (fl : Nat → Int32)  (o : ((Nat → Int32) × (Int32))) (hg : g_X2_gather d jc w = some o) : Con Z l yX2_gather cX2_gather 7 (some (.object "TicketJournal$Journal")) rm_X2_gather [.ref hj, .ref h] (wJ Z hj hd d jc ++ (wF Z h hw he w er fl)) (some (.ref hj)) (wJ Z hj hd o.1 o.2 ++ (wF Z h hw he w er fl)) := by
  refine Con.of (by decide) (Nat.le_of_ble_eq_true rfl) ?_
  intro X hE0
  have hE : ∀ z, z = o → endsX X Z (some (.object "TicketJournal$Journal")) (some (.ref hj)) (wJ Z hj hd z.1 z.2 ++ (wF Z h hw he w er fl)) := by
    rintro _ rfl; exact hE0
  have J73 : ∀ (k12 : Int32 → Int32 → (Nat → Int32) → Int32 → Option ((Nat → Int32) × (Int32))) (hk12 : ∀ (x2 : Int32) (x3 : Int32) (d : Nat → Int32) (jc : Int32), k12 x2 x3 d jc = some o → AtK X Z rm_X2_gather cX2_gather RX2 7 0 0 (wJ Z hj hd d jc ++ (wF Z h hw he w er fl)) 12 [(0, .ref hj), (1, .ref h), (2, .int x2), (3, .int x3)] []), ∀ (x2 : Int32) (x3 : Int32) (d : Nat → Int32) (jc : Int32), g_X2_gather_73 w k12 x2 x3 d jc = some o → AtK X Z rm_X2_gather cX2_gather RX2 7 0 0 (wJ Z hj hd d jc ++ (wF Z h hw he w er fl)) 73 [(0, .ref hj), (1, .ref h), (2, .int x2), (3, .int x3)] [] := by
    intro k12 hk12 x2 x3 d jc hg
    unfold g_X2_gather_73 at hg
    refine r_iinc (v := (x3 + 1)) (lv' := [(3, .int (x3 + 1)), (0, .ref hj), (1, .ref h), (2, .int x2)]) dX2_gather_73 (k := 3) rfl rfl (by decide) rfl ?_
    refine r_goto (tgt := 12) dX2_gather_76 (by decide) ?_
    exact r_sub [1, 2, 3, 0] rfl (hk12 x2 (x3 + 1) d jc hg)
  have J67 : ∀ (k12 : Int32 → Int32 → (Nat → Int32) → Int32 → Option ((Nat → Int32) × (Int32))) (hk12 : ∀ (x2 : Int32) (x3 : Int32) (d : Nat → Int32) (jc : Int32), k12 x2 x3 d jc = some o → AtK X Z rm_X2_gather cX2_gather RX2 7 0 0 (wJ Z hj hd d jc ++ (wF Z h hw he w er fl)) 12 [(0, .ref hj), (1, .ref h), (2, .int x2), (3, .int x3)] []) (k35 : Int32 → Int32 → Int32 → Int32 → Int32 → (Nat → Int32) → Int32 → Option ((Nat → Int32) × (Int32))) (hk35 : ∀ (x2 : Int32) (x3 : Int32) (x4 : Int32) (x5 : Int32) (x6 : Int32) (d : Nat → Int32) (jc : Int32), k35 x2 x3 x4 x5 x6 d jc = some o → AtK X Z rm_X2_gather cX2_gather RX2 7 0 0 (wJ Z hj hd d jc ++ (wF Z h hw he w er fl)) 35 [(0, .ref hj), (1, .ref h), (2, .int x2), (3, .int x3), (4, .int x4), (5, .int x5), (6, .int x6)] []), ∀ (x2 : Int32) (x3 : Int32) (x4 : Int32) (x5 : Int32) (x6 : Int32) (d : Nat → Int32) (jc : Int32), g_X2_gather_67 w k12 k35 x2 x3 x4 x5 x6 d jc = some o → AtK X Z rm_X2_gather cX2_gather RX2 7 0 0 (wJ Z hj hd d jc ++ (wF Z h hw he w er fl)) 67 [(0, .ref hj), (1, .ref h), (2, .int x2), (3, .int x3), (4, .int x4), (5, .int x5), (6, .int x6)] [] := by
    intro k12 hk12 k35 hk35 x2 x3 x4 x5 x6 d jc hg
    unfold g_X2_gather_67 at hg
    refine r_iinc (v := (x6 + 1)) (lv' := [(6, .int (x6 + 1)), (0, .ref hj), (1, .ref h), (2, .int x2), (3, .int x3), (4, .int x4), (5, .int x5)]) dX2_gather_67 (k := 6) rfl rfl (by decide) rfl ?_
    refine r_goto (tgt := 35) dX2_gather_70 (by decide) ?_
    exact r_sub [1, 2, 3, 4, 5, 6, 0] rfl (hk35 x2 x3 x4 x5 (x6 + 1) d jc hg)
  have J35 : ∀ (k12 : Int32 → Int32 → (Nat → Int32) → Int32 → Option ((Nat → Int32) × (Int32))) (hk12 : ∀ (x2 : Int32) (x3 : Int32) (d : Nat → Int32) (jc : Int32), k12 x2 x3 d jc = some o → AtK X Z rm_X2_gather cX2_gather RX2 7 0 0 (wJ Z hj hd d jc ++ (wF Z h hw he w er fl)) 12 [(0, .ref hj), (1, .ref h), (2, .int x2), (3, .int x3)] []) (n : Nat), ∀ (x2 : Int32) (x3 : Int32) (x4 : Int32) (x5 : Int32) (x6 : Int32) (d : Nat → Int32) (jc : Int32), g_X2_gather_35 w k12 n x2 x3 x4 x5 x6 d jc = some o → AtK X Z rm_X2_gather cX2_gather RX2 7 0 0 (wJ Z hj hd d jc ++ (wF Z h hw he w er fl)) 35 [(0, .ref hj), (1, .ref h), (2, .int x2), (3, .int x3), (4, .int x4), (5, .int x5), (6, .int x6)] [] := by
    intro k12 hk12 n
    induction n with
    | zero => intro x2 x3 x4 x5 x6 d jc hg; exact nomatch (show (none : Option _) = some o from hg)
    | succ n ih =>
      intro x2 x3 x4 x5 x6 d jc hg
      unfold g_X2_gather_35 at hg
      refine r_iload dX2_gather_35 5 rfl ?_
      refine r_if_eq (tgt := 73) dX2_gather_37 (by decide) (fun h37 => ?_) (fun h37 => ?_)
      · replace hg := (if_pos h37).symm.trans hg
        exact r_sub [0, 1, 2, 3] rfl (J73 k12 hk12 x2 x3 d jc hg)
      · replace hg := (if_neg h37).symm.trans hg
        refine r_iload dX2_gather_40 6 rfl ?_
        refine r_iconst (v := 4) dX2_gather_42 kic_4 ?_
        refine r_icmp_ge (tgt := 73) dX2_gather_43 (by decide) (fun h43 => ?_) (fun h43 => ?_)
        · replace hg := (if_pos h43).symm.trans hg
          exact r_sub [0, 1, 2, 3] rfl (J73 k12 hk12 x2 x3 d jc hg)
        · replace hg := (if_neg h43).symm.trans hg
          refine r_aload_n dX2_gather_46 1 rfl ?_
          refine r_iload dX2_gather_47 4 rfl ?_
          refine r_iload dX2_gather_49 6 rfl ?_
          obtain ⟨o51, e51, hg⟩ := ob hg
          refine r_callV (As := [.int x4, .int x6]) (rest := []) (ws' := wJ Z hj hd d jc ++ (wF Z h hw he w er fl)) 0 rfl rfl rfl (fun l => c_X0_stateOf Z l h hw he w er fl x4 x6 o51 e51) qw_472 mv_X0_stateOf (xPk.idx [2, 3, 4] rfl rfl rfl rfl rfl) ⟨Nat.le_of_ble_eq_true rfl, Nat.le_of_ble_eq_true rfl⟩ ⟨rfl, rfl⟩ ⟨Nat.zero_le _, Nat.zero_le _⟩ rfl (Nat.le_of_ble_eq_true rfl) rfl dX2_gather_51 ?_
          refine r_iconst (v := 1) dX2_gather_54 kic_1 ?_
          refine r_icmp_ne (tgt := 67) dX2_gather_55 (by decide) (fun h55 => ?_) (fun h55 => ?_)
          · replace hg := (if_neg h55).symm.trans hg
            exact r_sub [0, 1, 2, 3, 4, 5, 6] rfl (J67 k12 hk12 (g_X2_gather_35 w k12 n) ih x2 x3 x4 x5 x6 d jc hg)
          · replace hg := (if_pos h55).symm.trans hg
            refine r_aload_n dX2_gather_58 0 rfl ?_
            refine r_aload_n dX2_gather_59 1 rfl ?_
            refine r_iload dX2_gather_60 4 rfl ?_
            refine r_iload dX2_gather_62 6 rfl ?_
            obtain ⟨o64, e64, hg⟩ := ob hg
            refine r_callV (As := [.ref h, .int x4, .int x6]) (rest := []) (ws' := wJ Z hj hd o64.1 o64.2 ++ (wF Z h hw he w er fl)) 0 rfl rfl rfl (fun l => c_X2_add Z l hj hd h hw he d jc w er fl x4 x6 o64 e64) qw_473 mv_X2_add (xPk.all rfl) ⟨Nat.le_of_ble_eq_true rfl, Nat.le_of_ble_eq_true rfl⟩ ⟨rfl, rfl⟩ ⟨Nat.zero_le _, Nat.zero_le _⟩ rfl (Nat.le_of_ble_eq_true rfl) rfl dX2_gather_64 ?_
            exact r_sub [0, 1, 2, 3, 4, 5, 6] rfl (J67 k12 hk12 (g_X2_gather_35 w k12 n) ih x2 x3 x4 x5 x6 o64.1 o64.2 hg)
  have J12 : ∀ (n : Nat), ∀ (x2 : Int32) (x3 : Int32) (d : Nat → Int32) (jc : Int32), g_X2_gather_12 w n x2 x3 d jc = some o → AtK X Z rm_X2_gather cX2_gather RX2 7 0 0 (wJ Z hj hd d jc ++ (wF Z h hw he w er fl)) 12 [(0, .ref hj), (1, .ref h), (2, .int x2), (3, .int x3)] [] := by
    intro  n
    induction n with
    | zero => intro x2 x3 d jc hg; exact nomatch (show (none : Option _) = some o from hg)
    | succ n ih =>
      intro x2 x3 d jc hg
      unfold g_X2_gather_12 at hg
      refine r_iload_n dX2_gather_12 3 rfl ?_
      refine r_iconst (v := 5) dX2_gather_13 kic_5 ?_
      refine r_icmp_gt (tgt := 79) dX2_gather_14 (by decide) (fun h14 => ?_) (fun h14 => ?_)
      · replace hg := (if_pos h14).symm.trans hg
        refine r_aload_n dX2_gather_79 0 rfl ?_
        exact r_aret (hE _ (Option.some.inj hg)) dX2_gather_80
      · replace hg := (if_neg h14).symm.trans hg
        refine r_iload_n dX2_gather_17 2 rfl ?_
        refine r_iload_n dX2_gather_18 3 rfl ?_
        refine r_iadd dX2_gather_19 ?_
        refine r_iconst (v := 5) dX2_gather_20 kic_5 ?_
        refine r_irem dX2_gather_21 (by decide) ?_
        refine r_istore (lv' := [(4, .int (jrem (x2 + x3) 5)), (0, .ref hj), (1, .ref h), (2, .int x2), (3, .int x3)]) dX2_gather_22 (by decide) rfl ?_
        refine r_aload_n dX2_gather_24 2 rfl ?_
        refine r_iload dX2_gather_25 0 rfl ?_
        obtain ⟨o27, e27, hg⟩ := ob hg
        refine r_callV (As := [.int (jrem (x2 + x3) 5)]) (rest := []) (ws' := wJ Z hj hd d jc ++ (wF Z h hw he w er fl)) 0 rfl rfl rfl (fun l => c_X0_isWhole Z l h hw he w er fl (jrem (x2 + x3) 5) o27 e27) qw_471 mv_X0_isWhole (xPk.idx [2, 3, 4] rfl rfl rfl rfl rfl) ⟨Nat.le_of_ble_eq_true rfl, Nat.le_of_ble_eq_true rfl⟩ ⟨rfl, rfl⟩ ⟨Nat.zero_le _, Nat.zero_le _⟩ rfl (Nat.le_of_ble_eq_true rfl) rfl dX2_gather_27 ?_
        refine r_istore (lv' := [(5, .int o27), (4, .int (jrem (x2 + x3) 5)), (0, .ref hj), (1, .ref h), (2, .int x2), (3, .int x3)]) dX2_gather_30 (by decide) rfl ?_
        refine r_iconst (v := 0) dX2_gather_32 kic_0 ?_
        refine r_istore (lv' := [(6, .int 0), (5, .int o27), (4, .int (jrem (x2 + x3) 5)), (0, .ref hj), (1, .ref h), (2, .int x2), (3, .int x3)]) dX2_gather_33 (by decide) rfl ?_
        exact r_sub [3, 4, 5, 6, 2, 1, 0] rfl (J35 (g_X2_gather_12 w n) ih 12 x2 x3 (jrem (x2 + x3) 5) o27 0 d jc hg)
  unfold g_X2_gather at hg
  show AtK X Z rm_X2_gather cX2_gather RX2 7 0 0 (wJ Z hj hd d jc ++ (wF Z h hw he w er fl)) 0 [(0, .ref hj), (1, .ref h)] []
  refine r_aload_n dX2_gather_0 0 rfl ?_
  refine r_iconst (v := 0) dX2_gather_1 kic_0 ?_
  refine pf_X2_1 0 rfl (Nat.le_of_ble_eq_true rfl) qw_131 dX2_gather_2 (ws' := wJ Z hj hd d 0 ++ (wF Z h hw he w er fl)) rfl ?_
  refine r_aload_n dX2_gather_5 1 rfl ?_
  obtain ⟨o6, e6, hg⟩ := ob hg
  refine r_callV (As := []) (rest := []) (ws' := wJ Z hj hd d 0 ++ (wF Z h hw he w er fl)) 0 rfl rfl rfl (fun l => c_X0_newestBlock Z l h hw he w er fl  o6 e6) qw_470 mv_X0_newestBlock (xPk.idx [2, 3, 4] rfl rfl rfl rfl rfl) ⟨Nat.le_of_ble_eq_true rfl, Nat.le_of_ble_eq_true rfl⟩ ⟨rfl, rfl⟩ ⟨Nat.zero_le _, Nat.zero_le _⟩ rfl (Nat.le_of_ble_eq_true rfl) rfl dX2_gather_6 ?_
  refine r_istore_n (lv' := [(2, .int o6), (0, .ref hj), (1, .ref h)]) dX2_gather_9 (by decide) rfl ?_
  refine r_iconst (v := 1) dX2_gather_10 kic_1 ?_
  refine r_istore_n (lv' := [(3, .int 1), (2, .int o6), (0, .ref hj), (1, .ref h)]) dX2_gather_11 (by decide) rfl ?_
  exact r_sub [2, 3, 1, 0] rfl (J12 12 o6 1 d 0 hg)

-- TicketJournal$Journal.detail(II)I
abbrev rm_X2_detail : Room := { frames := 0, cells := 0, slots := 0, locals := 0 }
def g_X2_detail_41 (d : Nat → Int32) (jc : Int32)   : Option (Int32) :=
  some ((-9))
def g_X2_detail (d : Nat → Int32) (jc : Int32) (n1 : Int32) (n2 : Int32) : Option (Int32) :=
  (if n1 < 0 then g_X2_detail_41 d jc else (if jc ≤ n1 then g_X2_detail_41 d jc else (if ((n1 * 6) + n2) < 0 then g_X2_detail_41 d jc else (if 120 ≤ ((n1 * 6) + n2) then g_X2_detail_41 d jc else (if ((n1 * 6) + n2) < 0 ∨ 120 ≤ ((n1 * 6) + n2).toNatClampNeg then none else some ((d ((n1 * 6) + n2).toNatClampNeg)))))))
set_option maxHeartbeats 4000000 in
set_option maxRecDepth 100000 in
theorem c_X2_detail (Z : GZ) (l : Launch) (hj : Nat) (hd : Nat) (d : Nat → Int32) (jc : Int32) (n1 : Int32) (n2 : Int32) (o : (Int32)) (hg : g_X2_detail d jc n1 n2 = some o) : Con Z l yX2_detail cX2_detail 4 (some .int) rm_X2_detail [.ref hj, .int n1, .int n2] (wJ Z hj hd d jc) (some (.int o)) (wJ Z hj hd d jc) := by
  refine Con.of (by decide) (Nat.le_of_ble_eq_true rfl) ?_
  intro X hE0
  have hE : ∀ z, z = o → endsX X Z (some .int) (some (.int z)) (wJ Z hj hd d jc) := by
    rintro _ rfl; exact hE0
  have J41 : g_X2_detail_41 d jc = some o → AtK X Z rm_X2_detail cX2_detail RX2 4 0 0 (wJ Z hj hd d jc) 41 [] [] := by
    intro  hg
    unfold g_X2_detail_41 at hg
    refine r_bipush (v := (-9)) dX2_detail_41 kbp_m9 ?_
    exact r_iret (hE _ (Option.some.inj hg)) dX2_detail_43
  unfold g_X2_detail at hg
  show AtK X Z rm_X2_detail cX2_detail RX2 4 0 0 (wJ Z hj hd d jc) 0 [(0, .ref hj), (1, .int n1), (2, .int n2)] []
  refine r_iload_n dX2_detail_0 1 rfl ?_
  refine r_bipush (v := 6) dX2_detail_1 kbp_6 ?_
  refine r_imul dX2_detail_3 ?_
  refine r_iload_n dX2_detail_4 2 rfl ?_
  refine r_iadd dX2_detail_5 ?_
  refine r_istore_n (lv' := [(3, .int ((n1 * 6) + n2)), (0, .ref hj), (1, .int n1), (2, .int n2)]) dX2_detail_6 (by decide) rfl ?_
  refine r_iload_n dX2_detail_7 2 rfl ?_
  refine r_if_lt (tgt := 41) dX2_detail_8 (by decide) (fun h8 => ?_) (fun h8 => ?_)
  · replace hg := (if_pos h8).symm.trans hg
    exact r_sub [] rfl (J41 hg)
  · replace hg := (if_neg h8).symm.trans hg
    refine r_iload_n dX2_detail_11 2 rfl ?_
    refine r_aload_n dX2_detail_12 1 rfl ?_
    refine gf_X2_1 (v := .int jc) 0 rfl rfl qw_131 dX2_detail_13 ?_
    refine r_icmp_ge (tgt := 41) dX2_detail_16 (by decide) (fun h16 => ?_) (fun h16 => ?_)
    · replace hg := (if_pos h16).symm.trans hg
      exact r_sub [] rfl (J41 hg)
    · replace hg := (if_neg h16).symm.trans hg
      refine r_iload_n dX2_detail_19 0 rfl ?_
      refine r_if_lt (tgt := 41) dX2_detail_20 (by decide) (fun h20 => ?_) (fun h20 => ?_)
      · replace hg := (if_pos h20).symm.trans hg
        exact r_sub [] rfl (J41 hg)
      · replace hg := (if_neg h20).symm.trans hg
        refine r_iload_n dX2_detail_23 0 rfl ?_
        refine r_aload_n dX2_detail_24 1 rfl ?_
        refine gf_X2_0 (v := .ref hd) 0 rfl rfl qw_130 dX2_detail_25 ?_
        refine r_alen 1 0 rfl rfl (v := 120) (by decide) dX2_detail_28 ?_
        refine r_icmp_ge (tgt := 41) dX2_detail_29 (by decide) (fun h29 => ?_) (fun h29 => ?_)
        · replace hg := (if_pos h29).symm.trans hg
          exact r_sub [] rfl (J41 hg)
        · replace hg := (if_neg h29).symm.trans hg
          refine r_aload_n dX2_detail_32 1 rfl ?_
          refine gf_X2_0 (v := .ref hd) 0 rfl rfl qw_130 dX2_detail_33 ?_
          refine r_iload_n dX2_detail_36 0 rfl ?_
          obtain ⟨hi37, hg⟩ := og hg
          refine r_iald 1 rfl hi37 dX2_detail_37 ?_
          refine r_goto (tgt := 43) dX2_detail_38 (by decide) ?_
          exact r_iret (hE _ (Option.some.inj hg)) dX2_detail_43

-- TicketJournal$Journal.countOf(I)I
abbrev rm_X2_countOf : Room := { frames := 1, cells := 0, slots := 0, locals := 23 }
def g_X2_countOf_25 (d : Nat → Int32) (jc : Int32) (k4 : Int32 → Int32 → Int32 → Option (Int32)) (x1 : Int32) (x2 : Int32) (x3 : Int32) : Option (Int32) :=
  k4 x1 x2 (x3 + 1)
def g_X2_countOf_4 (d : Nat → Int32) (jc : Int32)  : Nat → Int32 → Int32 → Int32 → Option (Int32)
  | 0 => fun _ _ _ => none
  | n + 1 => fun x1 x2 x3 => (if jc ≤ x3 then some (x2) else (g_X2_detail d jc x3 1).bind fun o15 => (if o15 = x1 then g_X2_countOf_25 d jc (g_X2_countOf_4 d jc n) x1 (x2 + 1) x3 else g_X2_countOf_25 d jc (g_X2_countOf_4 d jc n) x1 x2 x3))
def g_X2_countOf (d : Nat → Int32) (jc : Int32) (n1 : Int32) : Option (Int32) :=
  g_X2_countOf_4 d jc 30 n1 0 0
set_option maxHeartbeats 4000000 in
set_option maxRecDepth 100000 in
theorem c_X2_countOf (Z : GZ) (l : Launch) (hj : Nat) (hd : Nat) (d : Nat → Int32) (jc : Int32) (n1 : Int32) (o : (Int32)) (hg : g_X2_countOf d jc n1 = some o) : Con Z l yX2_countOf cX2_countOf 4 (some .int) rm_X2_countOf [.ref hj, .int n1] (wJ Z hj hd d jc) (some (.int o)) (wJ Z hj hd d jc) := by
  refine Con.of (by decide) (Nat.le_of_ble_eq_true rfl) ?_
  intro X hE0
  have hE : ∀ z, z = o → endsX X Z (some .int) (some (.int z)) (wJ Z hj hd d jc) := by
    rintro _ rfl; exact hE0
  have J25 : ∀ (k4 : Int32 → Int32 → Int32 → Option (Int32)) (hk4 : ∀ (x1 : Int32) (x2 : Int32) (x3 : Int32), k4 x1 x2 x3 = some o → AtK X Z rm_X2_countOf cX2_countOf RX2 4 0 0 (wJ Z hj hd d jc) 4 [(0, .ref hj), (1, .int x1), (2, .int x2), (3, .int x3)] []), ∀ (x1 : Int32) (x2 : Int32) (x3 : Int32), g_X2_countOf_25 d jc k4 x1 x2 x3 = some o → AtK X Z rm_X2_countOf cX2_countOf RX2 4 0 0 (wJ Z hj hd d jc) 25 [(0, .ref hj), (1, .int x1), (2, .int x2), (3, .int x3)] [] := by
    intro k4 hk4 x1 x2 x3 hg
    unfold g_X2_countOf_25 at hg
    refine r_iinc (v := (x3 + 1)) (lv' := [(3, .int (x3 + 1)), (0, .ref hj), (1, .int x1), (2, .int x2)]) dX2_countOf_25 (k := 3) rfl rfl (by decide) rfl ?_
    refine r_goto (tgt := 4) dX2_countOf_28 (by decide) ?_
    exact r_sub [1, 2, 3, 0] rfl (hk4 x1 x2 (x3 + 1) hg)
  have J4 : ∀ (n : Nat), ∀ (x1 : Int32) (x2 : Int32) (x3 : Int32), g_X2_countOf_4 d jc n x1 x2 x3 = some o → AtK X Z rm_X2_countOf cX2_countOf RX2 4 0 0 (wJ Z hj hd d jc) 4 [(0, .ref hj), (1, .int x1), (2, .int x2), (3, .int x3)] [] := by
    intro  n
    induction n with
    | zero => intro x1 x2 x3 hg; exact nomatch (show (none : Option _) = some o from hg)
    | succ n ih =>
      intro x1 x2 x3 hg
      unfold g_X2_countOf_4 at hg
      refine r_iload_n dX2_countOf_4 3 rfl ?_
      refine r_aload_n dX2_countOf_5 0 rfl ?_
      refine gf_X2_1 (v := .int jc) 0 rfl rfl qw_131 dX2_countOf_6 ?_
      refine r_icmp_ge (tgt := 31) dX2_countOf_9 (by decide) (fun h9 => ?_) (fun h9 => ?_)
      · replace hg := (if_pos h9).symm.trans hg
        refine r_iload_n dX2_countOf_31 2 rfl ?_
        exact r_iret (hE _ (Option.some.inj hg)) dX2_countOf_32
      · replace hg := (if_neg h9).symm.trans hg
        refine r_aload_n dX2_countOf_12 0 rfl ?_
        refine r_iload_n dX2_countOf_13 3 rfl ?_
        refine r_iconst (v := 1) dX2_countOf_14 kic_1 ?_
        obtain ⟨o15, e15, hg⟩ := ob hg
        refine r_callV (As := [.int x3, .int 1]) (rest := []) (ws' := wJ Z hj hd d jc) 0 rfl rfl rfl (fun l => c_X2_detail Z l hj hd d jc x3 1 o15 e15) qw_486 mv_X2_detail (xPk.all rfl) ⟨Nat.le_of_ble_eq_true rfl, Nat.le_of_ble_eq_true rfl⟩ ⟨rfl, rfl⟩ ⟨Nat.zero_le _, Nat.zero_le _⟩ rfl (Nat.le_of_ble_eq_true rfl) rfl dX2_countOf_15 ?_
        refine r_iload_n dX2_countOf_18 1 rfl ?_
        refine r_icmp_ne (tgt := 25) dX2_countOf_19 (by decide) (fun h19 => ?_) (fun h19 => ?_)
        · replace hg := (if_neg h19).symm.trans hg
          exact r_sub [0, 1, 2, 3] rfl (J25 (g_X2_countOf_4 d jc n) ih x1 x2 x3 hg)
        · replace hg := (if_pos h19).symm.trans hg
          refine r_iinc (v := (x2 + 1)) (lv' := [(2, .int (x2 + 1)), (0, .ref hj), (1, .int x1), (3, .int x3)]) dX2_countOf_22 (k := 2) rfl rfl (by decide) rfl ?_
          exact r_sub [1, 2, 0, 3] rfl (J25 (g_X2_countOf_4 d jc n) ih x1 (x2 + 1) x3 hg)
  unfold g_X2_countOf at hg
  show AtK X Z rm_X2_countOf cX2_countOf RX2 4 0 0 (wJ Z hj hd d jc) 0 [(0, .ref hj), (1, .int n1)] []
  refine r_iconst (v := 0) dX2_countOf_0 kic_0 ?_
  refine r_istore_n (lv' := [(2, .int 0), (0, .ref hj), (1, .int n1)]) dX2_countOf_1 (by decide) rfl ?_
  refine r_iconst (v := 0) dX2_countOf_2 kic_0 ?_
  refine r_istore_n (lv' := [(3, .int 0), (2, .int 0), (0, .ref hj), (1, .int n1)]) dX2_countOf_3 (by decide) rfl ?_
  exact r_sub [2, 3, 1, 0] rfl (J4 30 n1 0 0 hg)

-- TicketJournal$Journal.pricesOf(II)I
abbrev rm_X2_pricesOf : Room := { frames := 1, cells := 0, slots := 0, locals := 23 }
def g_X2_pricesOf_70 (d : Nat → Int32) (jc : Int32) (k5 : Int32 → Int32 → Int32 → Int32 → Option (Int32)) (x1 : Int32) (x2 : Int32) (x3 : Int32) (x4 : Int32) : Option (Int32) :=
  k5 x1 x2 x3 (x4 + 1)
def g_X2_pricesOf_43 (d : Nat → Int32) (jc : Int32) (k5 : Int32 → Int32 → Int32 → Int32 → Option (Int32)) (x1 : Int32) (x2 : Int32) (x3 : Int32) (x4 : Int32) (x5 : Int32) (t0 : Int32) : Option (Int32) :=
  (if t0 = 0 then g_X2_pricesOf_70 d jc k5 x1 x2 x3 x4 else (g_X2_detail d jc x4 1).bind fun o54 => (if o54 = x1 then g_X2_pricesOf_70 d jc k5 x1 x2 (x3 + (jrem x5 1000)) x4 else g_X2_pricesOf_70 d jc k5 x1 x2 x3 x4))
def g_X2_pricesOf_38 (d : Nat → Int32) (jc : Int32) (k5 : Int32 → Int32 → Int32 → Int32 → Option (Int32)) (x1 : Int32) (x2 : Int32) (x3 : Int32) (x4 : Int32) (x5 : Int32) : Option (Int32) :=
  g_X2_pricesOf_43 d jc k5 x1 x2 x3 x4 x5 1
def g_X2_pricesOf_5 (d : Nat → Int32) (jc : Int32)  : Nat → Int32 → Int32 → Int32 → Int32 → Option (Int32)
  | 0 => fun _ _ _ _ => none
  | n + 1 => fun x1 x2 x3 x4 => (if jc ≤ x4 then some (x3) else (g_X2_detail d jc x4 3).bind fun o18 => (if x2 = (-1) then g_X2_pricesOf_38 d jc (g_X2_pricesOf_5 d jc n) x1 x2 x3 x4 o18 else (if (o18 / 1000) = x2 then g_X2_pricesOf_38 d jc (g_X2_pricesOf_5 d jc n) x1 x2 x3 x4 o18 else g_X2_pricesOf_43 d jc (g_X2_pricesOf_5 d jc n) x1 x2 x3 x4 o18 0)))
def g_X2_pricesOf (d : Nat → Int32) (jc : Int32) (n1 : Int32) (n2 : Int32) : Option (Int32) :=
  g_X2_pricesOf_5 d jc 30 n1 n2 0 0
set_option maxHeartbeats 4000000 in
set_option maxRecDepth 100000 in
theorem c_X2_pricesOf (Z : GZ) (l : Launch) (hj : Nat) (hd : Nat) (d : Nat → Int32) (jc : Int32) (n1 : Int32) (n2 : Int32) (o : (Int32)) (hg : g_X2_pricesOf d jc n1 n2 = some o) : Con Z l yX2_pricesOf cX2_pricesOf 7 (some .int) rm_X2_pricesOf [.ref hj, .int n1, .int n2] (wJ Z hj hd d jc) (some (.int o)) (wJ Z hj hd d jc) := by
  refine Con.of (by decide) (Nat.le_of_ble_eq_true rfl) ?_
  intro X hE0
  have hE : ∀ z, z = o → endsX X Z (some .int) (some (.int z)) (wJ Z hj hd d jc) := by
    rintro _ rfl; exact hE0
  have J70 : ∀ (k5 : Int32 → Int32 → Int32 → Int32 → Option (Int32)) (hk5 : ∀ (x1 : Int32) (x2 : Int32) (x3 : Int32) (x4 : Int32), k5 x1 x2 x3 x4 = some o → AtK X Z rm_X2_pricesOf cX2_pricesOf RX2 7 0 0 (wJ Z hj hd d jc) 5 [(0, .ref hj), (1, .int x1), (2, .int x2), (3, .int x3), (4, .int x4)] []), ∀ (x1 : Int32) (x2 : Int32) (x3 : Int32) (x4 : Int32), g_X2_pricesOf_70 d jc k5 x1 x2 x3 x4 = some o → AtK X Z rm_X2_pricesOf cX2_pricesOf RX2 7 0 0 (wJ Z hj hd d jc) 70 [(0, .ref hj), (1, .int x1), (2, .int x2), (3, .int x3), (4, .int x4)] [] := by
    intro k5 hk5 x1 x2 x3 x4 hg
    unfold g_X2_pricesOf_70 at hg
    refine r_iinc (v := (x4 + 1)) (lv' := [(4, .int (x4 + 1)), (0, .ref hj), (1, .int x1), (2, .int x2), (3, .int x3)]) dX2_pricesOf_70 (k := 4) rfl rfl (by decide) rfl ?_
    refine r_goto (tgt := 5) dX2_pricesOf_73 (by decide) ?_
    exact r_sub [1, 2, 3, 4, 0] rfl (hk5 x1 x2 x3 (x4 + 1) hg)
  have J43 : ∀ (k5 : Int32 → Int32 → Int32 → Int32 → Option (Int32)) (hk5 : ∀ (x1 : Int32) (x2 : Int32) (x3 : Int32) (x4 : Int32), k5 x1 x2 x3 x4 = some o → AtK X Z rm_X2_pricesOf cX2_pricesOf RX2 7 0 0 (wJ Z hj hd d jc) 5 [(0, .ref hj), (1, .int x1), (2, .int x2), (3, .int x3), (4, .int x4)] []), ∀ (x1 : Int32) (x2 : Int32) (x3 : Int32) (x4 : Int32) (x5 : Int32) (t0 : Int32), g_X2_pricesOf_43 d jc k5 x1 x2 x3 x4 x5 t0 = some o → AtK X Z rm_X2_pricesOf cX2_pricesOf RX2 7 0 0 (wJ Z hj hd d jc) 43 [(0, .ref hj), (1, .int x1), (2, .int x2), (3, .int x3), (4, .int x4), (5, .int x5)] [.int t0] := by
    intro k5 hk5 x1 x2 x3 x4 x5 t0 hg
    unfold g_X2_pricesOf_43 at hg
    refine r_istore (lv' := [(6, .int t0), (0, .ref hj), (1, .int x1), (2, .int x2), (3, .int x3), (4, .int x4), (5, .int x5)]) dX2_pricesOf_43 (by decide) rfl ?_
    refine r_iload dX2_pricesOf_45 0 rfl ?_
    refine r_if_eq (tgt := 70) dX2_pricesOf_47 (by decide) (fun h47 => ?_) (fun h47 => ?_)
    · replace hg := (if_pos h47).symm.trans hg
      exact r_sub [1, 2, 3, 4, 5] rfl (J70 k5 hk5 x1 x2 x3 x4 hg)
    · replace hg := (if_neg h47).symm.trans hg
      refine r_aload_n dX2_pricesOf_50 1 rfl ?_
      refine r_iload dX2_pricesOf_51 5 rfl ?_
      refine r_iconst (v := 1) dX2_pricesOf_53 kic_1 ?_
      obtain ⟨o54, e54, hg⟩ := ob hg
      refine r_callV (As := [.int x4, .int 1]) (rest := []) (ws' := wJ Z hj hd d jc) 0 rfl rfl rfl (fun l => c_X2_detail Z l hj hd d jc x4 1 o54 e54) qw_486 mv_X2_detail (xPk.all rfl) ⟨Nat.le_of_ble_eq_true rfl, Nat.le_of_ble_eq_true rfl⟩ ⟨rfl, rfl⟩ ⟨Nat.zero_le _, Nat.zero_le _⟩ rfl (Nat.le_of_ble_eq_true rfl) rfl dX2_pricesOf_54 ?_
      refine r_iload_n dX2_pricesOf_57 2 rfl ?_
      refine r_icmp_ne (tgt := 70) dX2_pricesOf_58 (by decide) (fun h58 => ?_) (fun h58 => ?_)
      · replace hg := (if_neg h58).symm.trans hg
        exact r_sub [1, 2, 3, 4, 5] rfl (J70 k5 hk5 x1 x2 x3 x4 hg)
      · replace hg := (if_pos h58).symm.trans hg
        refine r_iload_n dX2_pricesOf_61 4 rfl ?_
        refine r_iload dX2_pricesOf_62 6 rfl ?_
        refine r_sipush (v := 1000) dX2_pricesOf_64 ksp_1000 ?_
        refine r_irem dX2_pricesOf_67 (by decide) ?_
        refine r_iadd dX2_pricesOf_68 ?_
        refine r_istore_n (lv' := [(3, .int (x3 + (jrem x5 1000))), (6, .int t0), (0, .ref hj), (1, .int x1), (2, .int x2), (4, .int x4), (5, .int x5)]) dX2_pricesOf_69 (by decide) rfl ?_
        exact r_sub [2, 3, 4, 0, 5] rfl (J70 k5 hk5 x1 x2 (x3 + (jrem x5 1000)) x4 hg)
  have J38 : ∀ (k5 : Int32 → Int32 → Int32 → Int32 → Option (Int32)) (hk5 : ∀ (x1 : Int32) (x2 : Int32) (x3 : Int32) (x4 : Int32), k5 x1 x2 x3 x4 = some o → AtK X Z rm_X2_pricesOf cX2_pricesOf RX2 7 0 0 (wJ Z hj hd d jc) 5 [(0, .ref hj), (1, .int x1), (2, .int x2), (3, .int x3), (4, .int x4)] []), ∀ (x1 : Int32) (x2 : Int32) (x3 : Int32) (x4 : Int32) (x5 : Int32), g_X2_pricesOf_38 d jc k5 x1 x2 x3 x4 x5 = some o → AtK X Z rm_X2_pricesOf cX2_pricesOf RX2 7 0 0 (wJ Z hj hd d jc) 38 [(0, .ref hj), (1, .int x1), (2, .int x2), (3, .int x3), (4, .int x4), (5, .int x5)] [] := by
    intro k5 hk5 x1 x2 x3 x4 x5 hg
    unfold g_X2_pricesOf_38 at hg
    refine r_iconst (v := 1) dX2_pricesOf_38 kic_1 ?_
    refine r_goto (tgt := 43) dX2_pricesOf_39 (by decide) ?_
    exact r_sub [0, 1, 2, 3, 4, 5] rfl (J43 k5 hk5 x1 x2 x3 x4 x5 1 hg)
  have J5 : ∀ (n : Nat), ∀ (x1 : Int32) (x2 : Int32) (x3 : Int32) (x4 : Int32), g_X2_pricesOf_5 d jc n x1 x2 x3 x4 = some o → AtK X Z rm_X2_pricesOf cX2_pricesOf RX2 7 0 0 (wJ Z hj hd d jc) 5 [(0, .ref hj), (1, .int x1), (2, .int x2), (3, .int x3), (4, .int x4)] [] := by
    intro  n
    induction n with
    | zero => intro x1 x2 x3 x4 hg; exact nomatch (show (none : Option _) = some o from hg)
    | succ n ih =>
      intro x1 x2 x3 x4 hg
      unfold g_X2_pricesOf_5 at hg
      refine r_iload dX2_pricesOf_5 4 rfl ?_
      refine r_aload_n dX2_pricesOf_7 0 rfl ?_
      refine gf_X2_1 (v := .int jc) 0 rfl rfl qw_131 dX2_pricesOf_8 ?_
      refine r_icmp_ge (tgt := 76) dX2_pricesOf_11 (by decide) (fun h11 => ?_) (fun h11 => ?_)
      · replace hg := (if_pos h11).symm.trans hg
        refine r_iload_n dX2_pricesOf_76 3 rfl ?_
        exact r_iret (hE _ (Option.some.inj hg)) dX2_pricesOf_77
      · replace hg := (if_neg h11).symm.trans hg
        refine r_aload_n dX2_pricesOf_14 0 rfl ?_
        refine r_iload dX2_pricesOf_15 4 rfl ?_
        refine r_iconst (v := 3) dX2_pricesOf_17 kic_3 ?_
        obtain ⟨o18, e18, hg⟩ := ob hg
        refine r_callV (As := [.int x4, .int 3]) (rest := []) (ws' := wJ Z hj hd d jc) 0 rfl rfl rfl (fun l => c_X2_detail Z l hj hd d jc x4 3 o18 e18) qw_486 mv_X2_detail (xPk.all rfl) ⟨Nat.le_of_ble_eq_true rfl, Nat.le_of_ble_eq_true rfl⟩ ⟨rfl, rfl⟩ ⟨Nat.zero_le _, Nat.zero_le _⟩ rfl (Nat.le_of_ble_eq_true rfl) rfl dX2_pricesOf_18 ?_
        refine r_istore (lv' := [(5, .int o18), (0, .ref hj), (1, .int x1), (2, .int x2), (3, .int x3), (4, .int x4)]) dX2_pricesOf_21 (by decide) rfl ?_
        refine r_iload_n dX2_pricesOf_23 3 rfl ?_
        refine r_iconst (v := (-1)) dX2_pricesOf_24 kic_m1 ?_
        refine r_icmp_eq (tgt := 38) dX2_pricesOf_25 (by decide) (fun h25 => ?_) (fun h25 => ?_)
        · replace hg := (if_pos h25).symm.trans hg
          exact r_sub [1, 2, 3, 4, 5, 0] rfl (J38 (g_X2_pricesOf_5 d jc n) ih x1 x2 x3 x4 o18 hg)
        · replace hg := (if_neg h25).symm.trans hg
          refine r_iload dX2_pricesOf_28 0 rfl ?_
          refine r_sipush (v := 1000) dX2_pricesOf_30 ksp_1000 ?_
          refine r_idiv dX2_pricesOf_33 (by decide) ?_
          refine r_iload_n dX2_pricesOf_34 3 rfl ?_
          refine r_icmp_ne (tgt := 42) dX2_pricesOf_35 (by decide) (fun h35 => ?_) (fun h35 => ?_)
          · replace hg := (if_neg h35).symm.trans hg
            refine r_iconst (v := 0) dX2_pricesOf_42 kic_0 ?_
            exact r_sub [1, 2, 3, 4, 5, 0] rfl (J43 (g_X2_pricesOf_5 d jc n) ih x1 x2 x3 x4 o18 0 hg)
          · replace hg := (if_pos h35).symm.trans hg
            exact r_sub [1, 2, 3, 4, 5, 0] rfl (J38 (g_X2_pricesOf_5 d jc n) ih x1 x2 x3 x4 o18 hg)
  unfold g_X2_pricesOf at hg
  show AtK X Z rm_X2_pricesOf cX2_pricesOf RX2 7 0 0 (wJ Z hj hd d jc) 0 [(0, .ref hj), (1, .int n1), (2, .int n2)] []
  refine r_iconst (v := 0) dX2_pricesOf_0 kic_0 ?_
  refine r_istore_n (lv' := [(3, .int 0), (0, .ref hj), (1, .int n1), (2, .int n2)]) dX2_pricesOf_1 (by decide) rfl ?_
  refine r_iconst (v := 0) dX2_pricesOf_2 kic_0 ?_
  refine r_istore (lv' := [(4, .int 0), (3, .int 0), (0, .ref hj), (1, .int n1), (2, .int n2)]) dX2_pricesOf_3 (by decide) rfl ?_
  exact r_sub [2, 3, 4, 1, 0] rfl (J5 30 n1 n2 0 0 hg)

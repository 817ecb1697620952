-- TicketJournal$Flash.copyFrom(LTicketJournal$Flash;)V
abbrev rm_X0_copyFrom : Room := { frames := 1, cells := 0, slots := 0, locals := 40 }
def g_X0_copyFrom (w : Nat → Int32) (er : Nat → Int32) (fl : Nat → Int32) (w2 : Nat → Int32) (er2 : Nat → Int32) (fl2 : Nat → Int32)  : Option ((Nat → Int32) × (Nat → Int32) × (Nat → Int32)) :=
  some (w2, er2, (upd (upd fl 0 (fl2 0)) 1 (fl2 1)))
set_option maxHeartbeats 4000000 in
set_option maxRecDepth 100000 in
theorem c_X0_copyFrom (Z : GZ) (l : Launch) (h : Nat) (hw : Nat) (he : Nat) (h2 : Nat) (hw2 : Nat) (he2 : Nat) (w : Nat → Int32) (er : Nat → Int32) (fl : Nat → Int32) (w2 : Nat → Int32) (er2 : Nat → Int32) (fl2 : Nat → Int32)  (o : ((Nat → Int32) × (Nat → Int32) × (Nat → Int32))) (hg : g_X0_copyFrom w er fl w2 er2 fl2 = some o) : Con Z l yX0_copyFrom cX0_copyFrom 2 none rm_X0_copyFrom [.ref h, .ref h2] (wF Z h hw he w er fl ++ (wF Z h2 hw2 he2 w2 er2 fl2)) none (wF Z h hw he o.1 o.2.1 o.2.2 ++ (wF Z h2 hw2 he2 w2 er2 fl2)) := by
  refine Con.of (by decide) (Nat.le_of_ble_eq_true rfl) ?_
  intro X hE0
  have hE : ∀ z, z = o → endsX X Z none none (wF Z h hw he z.1 z.2.1 z.2.2 ++ (wF Z h2 hw2 he2 w2 er2 fl2)) := by
    rintro _ rfl; exact hE0
  unfold g_X0_copyFrom at hg
  show AtK X Z rm_X0_copyFrom cX0_copyFrom RX0 2 0 0 (wF Z h hw he w er fl ++ (wF Z h2 hw2 he2 w2 er2 fl2)) 0 [(0, .ref h), (1, .ref h2)] []
  refine r_aload_n dX0_copyFrom_0 1 rfl ?_
  refine gf_X0_0 (v := .ref hw2) 3 rfl rfl qw_43 dX0_copyFrom_1 ?_
  refine r_iconst (v := 0) dX0_copyFrom_4 kic_0 ?_
  refine r_aload_n dX0_copyFrom_5 0 rfl ?_
  refine gf_X0_0 (v := .ref hw) 0 rfl rfl qw_43 dX0_copyFrom_6 ?_
  refine r_iconst (v := 0) dX0_copyFrom_9 kic_0 ?_
  refine r_bipush (v := 110) dX0_copyFrom_10 kbp_110 ?_
  refine r_copyi 4 1 rfl rfl (by decide) (by decide) qw_248 qw_250 qw_249 qw_20 (Nat.le_of_ble_eq_true rfl) (Nat.le_of_ble_eq_true rfl) dX0_copyFrom_12 (ws' := wF Z h hw he w2 er fl ++ (wF Z h2 hw2 he2 w2 er2 fl2)) rfl ?_
  refine r_aload_n dX0_copyFrom_15 1 rfl ?_
  refine gf_X0_1 (v := .ref he2) 3 rfl rfl qw_44 dX0_copyFrom_16 ?_
  refine r_iconst (v := 0) dX0_copyFrom_19 kic_0 ?_
  refine r_aload_n dX0_copyFrom_20 0 rfl ?_
  refine gf_X0_1 (v := .ref he) 0 rfl rfl qw_44 dX0_copyFrom_21 ?_
  refine r_iconst (v := 0) dX0_copyFrom_24 kic_0 ?_
  refine r_iconst (v := 5) dX0_copyFrom_25 kic_5 ?_
  refine r_copyi 5 2 rfl rfl (by decide) (by decide) qw_248 qw_250 qw_249 qw_20 (Nat.le_of_ble_eq_true rfl) (Nat.le_of_ble_eq_true rfl) dX0_copyFrom_26 (ws' := wF Z h hw he w2 er2 fl ++ (wF Z h2 hw2 he2 w2 er2 fl2)) rfl ?_
  refine r_aload_n dX0_copyFrom_29 0 rfl ?_
  refine r_aload_n dX0_copyFrom_30 1 rfl ?_
  refine gf_X0_2 (v := .int (fl2 0)) 3 rfl rfl qw_45 dX0_copyFrom_31 ?_
  refine pf_X0_2 0 rfl (Nat.le_of_ble_eq_true rfl) qw_45 dX0_copyFrom_34 (ws' := wF Z h hw he w2 er2 (upd fl 0 (fl2 0)) ++ (wF Z h2 hw2 he2 w2 er2 fl2)) rfl ?_
  refine r_aload_n dX0_copyFrom_37 0 rfl ?_
  refine r_aload_n dX0_copyFrom_38 1 rfl ?_
  refine gf_X0_3 (v := .int (fl2 1)) 3 rfl rfl qw_47 dX0_copyFrom_39 ?_
  refine pf_X0_3 0 rfl (Nat.le_of_ble_eq_true rfl) qw_47 dX0_copyFrom_42 (ws' := wF Z h hw he w2 er2 (upd (upd fl 0 (fl2 0)) 1 (fl2 1)) ++ (wF Z h2 hw2 he2 w2 er2 fl2)) rfl ?_
  exact r_vret (hE _ (Option.some.inj hg)) dX0_copyFrom_45

-- TicketJournal$Memory.copyFrom(LTicketJournal$Memory;)V
abbrev rm_X3_copyFrom : Room := { frames := 0, cells := 0, slots := 0, locals := 0 }
def g_X3_copyFrom (me : Nat → Int32) (me2 : Nat → Int32)  : Option ((Nat → Int32)) :=
  some ((upd (upd (upd (upd (upd (upd me 0 (me2 0)) 1 (me2 1)) 2 (me2 2)) 3 (me2 3)) 4 (me2 4)) 5 (me2 5)))
set_option maxHeartbeats 4000000 in
set_option maxRecDepth 100000 in
theorem c_X3_copyFrom (Z : GZ) (l : Launch) (hm : Nat) (hm2 : Nat) (me : Nat → Int32) (me2 : Nat → Int32)  (o : ((Nat → Int32))) (hg : g_X3_copyFrom me me2 = some o) : Con Z l yX3_copyFrom cX3_copyFrom 2 none rm_X3_copyFrom [.ref hm, .ref hm2] (wM Z hm me ++ (wM Z hm2 me2)) none (wM Z hm o ++ (wM Z hm2 me2)) := by
  refine Con.of (by decide) (Nat.le_of_ble_eq_true rfl) ?_
  intro X hE0
  have hE : ∀ z, z = o → endsX X Z none none (wM Z hm z ++ (wM Z hm2 me2)) := by
    rintro _ rfl; exact hE0
  unfold g_X3_copyFrom at hg
  show AtK X Z rm_X3_copyFrom cX3_copyFrom RX3 2 0 0 (wM Z hm me ++ (wM Z hm2 me2)) 0 [(0, .ref hm), (1, .ref hm2)] []
  refine r_aload_n dX3_copyFrom_0 0 rfl ?_
  refine r_aload_n dX3_copyFrom_1 1 rfl ?_
  refine gf_X3_0 (v := .int (me2 0)) 1 rfl rfl qw_65 dX3_copyFrom_2 ?_
  refine pf_X3_0 0 rfl (Nat.le_of_ble_eq_true rfl) qw_65 dX3_copyFrom_5 (ws' := wM Z hm (upd me 0 (me2 0)) ++ (wM Z hm2 me2)) rfl ?_
  refine r_aload_n dX3_copyFrom_8 0 rfl ?_
  refine r_aload_n dX3_copyFrom_9 1 rfl ?_
  refine gf_X3_1 (v := .int (me2 1)) 1 rfl rfl qw_68 dX3_copyFrom_10 ?_
  refine pf_X3_1 0 rfl (Nat.le_of_ble_eq_true rfl) qw_68 dX3_copyFrom_13 (ws' := wM Z hm (upd (upd me 0 (me2 0)) 1 (me2 1)) ++ (wM Z hm2 me2)) rfl ?_
  refine r_aload_n dX3_copyFrom_16 0 rfl ?_
  refine r_aload_n dX3_copyFrom_17 1 rfl ?_
  refine gf_X3_2 (v := .int (me2 2)) 1 rfl rfl qw_71 dX3_copyFrom_18 ?_
  refine pf_X3_2 0 rfl (Nat.le_of_ble_eq_true rfl) qw_71 dX3_copyFrom_21 (ws' := wM Z hm (upd (upd (upd me 0 (me2 0)) 1 (me2 1)) 2 (me2 2)) ++ (wM Z hm2 me2)) rfl ?_
  refine r_aload_n dX3_copyFrom_24 0 rfl ?_
  refine r_aload_n dX3_copyFrom_25 1 rfl ?_
  refine gf_X3_3 (v := .int (me2 3)) 1 rfl rfl qw_74 dX3_copyFrom_26 ?_
  refine pf_X3_3 0 rfl (Nat.le_of_ble_eq_true rfl) qw_74 dX3_copyFrom_29 (ws' := wM Z hm (upd (upd (upd (upd me 0 (me2 0)) 1 (me2 1)) 2 (me2 2)) 3 (me2 3)) ++ (wM Z hm2 me2)) rfl ?_
  refine r_aload_n dX3_copyFrom_32 0 rfl ?_
  refine r_aload_n dX3_copyFrom_33 1 rfl ?_
  refine gf_X3_4 (v := .int (me2 4)) 1 rfl rfl qw_77 dX3_copyFrom_34 ?_
  refine pf_X3_4 0 rfl (Nat.le_of_ble_eq_true rfl) qw_77 dX3_copyFrom_37 (ws' := wM Z hm (upd (upd (upd (upd (upd me 0 (me2 0)) 1 (me2 1)) 2 (me2 2)) 3 (me2 3)) 4 (me2 4)) ++ (wM Z hm2 me2)) rfl ?_
  refine r_aload_n dX3_copyFrom_40 0 rfl ?_
  refine r_aload_n dX3_copyFrom_41 1 rfl ?_
  refine gf_X3_5 (v := .int (me2 5)) 1 rfl rfl qw_80 dX3_copyFrom_42 ?_
  refine pf_X3_5 0 rfl (Nat.le_of_ble_eq_true rfl) qw_80 dX3_copyFrom_45 (ws' := wM Z hm (upd (upd (upd (upd (upd (upd me 0 (me2 0)) 1 (me2 1)) 2 (me2 2)) 3 (me2 3)) 4 (me2 4)) 5 (me2 5)) ++ (wM Z hm2 me2)) rfl ?_
  exact r_vret (hE _ (Option.some.inj hg)) dX3_copyFrom_48

-- TicketJournal$Memory.forget()V
abbrev rm_X3_forget : Room := { frames := 0, cells := 0, slots := 0, locals := 0 }
def g_X3_forget (me : Nat → Int32)  : Option ((Nat → Int32)) :=
  some ((upd (upd (upd (upd (upd (upd me 0 0) 1 0) 2 0) 3 0) 4 0) 5 0))
set_option maxHeartbeats 4000000 in
set_option maxRecDepth 100000 in
theorem c_X3_forget (Z : GZ) (l : Launch) (hm : Nat) (me : Nat → Int32)  (o : ((Nat → Int32))) (hg : g_X3_forget me = some o) : Con Z l yX3_forget cX3_forget 1 none rm_X3_forget [.ref hm] (wM Z hm me) none (wM Z hm o) := by
  refine Con.of (by decide) (Nat.le_of_ble_eq_true rfl) ?_
  intro X hE0
  have hE : ∀ z, z = o → endsX X Z none none (wM Z hm z) := by
    rintro _ rfl; exact hE0
  unfold g_X3_forget at hg
  show AtK X Z rm_X3_forget cX3_forget RX3 1 0 0 (wM Z hm me) 0 [(0, .ref hm)] []
  refine r_aload_n dX3_forget_0 0 rfl ?_
  refine r_iconst (v := 0) dX3_forget_1 kic_0 ?_
  refine pf_X3_0 0 rfl (Nat.le_of_ble_eq_true rfl) qw_65 dX3_forget_2 (ws' := wM Z hm (upd me 0 0)) rfl ?_
  refine r_aload_n dX3_forget_5 0 rfl ?_
  refine r_iconst (v := 0) dX3_forget_6 kic_0 ?_
  refine pf_X3_1 0 rfl (Nat.le_of_ble_eq_true rfl) qw_68 dX3_forget_7 (ws' := wM Z hm (upd (upd me 0 0) 1 0)) rfl ?_
  refine r_aload_n dX3_forget_10 0 rfl ?_
  refine r_iconst (v := 0) dX3_forget_11 kic_0 ?_
  refine pf_X3_2 0 rfl (Nat.le_of_ble_eq_true rfl) qw_71 dX3_forget_12 (ws' := wM Z hm (upd (upd (upd me 0 0) 1 0) 2 0)) rfl ?_
  refine r_aload_n dX3_forget_15 0 rfl ?_
  refine r_iconst (v := 0) dX3_forget_16 kic_0 ?_
  refine pf_X3_3 0 rfl (Nat.le_of_ble_eq_true rfl) qw_74 dX3_forget_17 (ws' := wM Z hm (upd (upd (upd (upd me 0 0) 1 0) 2 0) 3 0)) rfl ?_
  refine r_aload_n dX3_forget_20 0 rfl ?_
  refine r_iconst (v := 0) dX3_forget_21 kic_0 ?_
  refine pf_X3_4 0 rfl (Nat.le_of_ble_eq_true rfl) qw_77 dX3_forget_22 (ws' := wM Z hm (upd (upd (upd (upd (upd me 0 0) 1 0) 2 0) 3 0) 4 0)) rfl ?_
  refine r_aload_n dX3_forget_25 0 rfl ?_
  refine r_iconst (v := 0) dX3_forget_26 kic_0 ?_
  refine pf_X3_5 0 rfl (Nat.le_of_ble_eq_true rfl) qw_80 dX3_forget_27 (ws' := wM Z hm (upd (upd (upd (upd (upd (upd me 0 0) 1 0) 2 0) 3 0) 4 0) 5 0)) rfl ?_
  exact r_vret (hE _ (Option.some.inj hg)) dX3_forget_30

-- TicketJournal$Memory.learn(II)V
abbrev rm_X3_learn : Room := { frames := 1, cells := 0, slots := 0, locals := 20 }
def g_X3_learn (me : Nat → Int32) (n1 : Int32) (n2 : Int32) : Option ((Nat → Int32)) :=
  (if (n1 / 10000) = 0 then (g_X6_lengthOf (n2 / 1000)).bind fun o90 => some ((upd (upd (upd (upd me 2 (jrem ((jrem n1 10000) + 1) 10000)) 3 ((me 3) + (jrem n2 1000))) 4 ((me 4) + 1)) 5 ((me 5) - o90))) else (if (n1 / 10000) = 1 then some ((upd (upd (upd me 2 (jrem ((jrem n1 10000) + 1) 10000)) 3 ((me 3) - (jrem n2 1000))) 4 ((me 4) - 1))) else (if (n1 / 10000) = 3 then some ((upd (upd (upd me 2 (jrem ((jrem n1 10000) + 1) 10000)) 3 0) 4 0)) else (if (n1 / 10000) = 4 then some ((upd (upd me 2 (jrem ((jrem n1 10000) + 1) 10000)) 5 n2)) else some ((upd me 2 (jrem ((jrem n1 10000) + 1) 10000)))))))
set_option maxHeartbeats 4000000 in
set_option maxRecDepth 100000 in
theorem c_X3_learn (Z : GZ) (l : Launch) (hm : Nat) (me : Nat → Int32) (n1 : Int32) (n2 : Int32) (o : ((Nat → Int32))) (hg : g_X3_learn me n1 n2 = some o) : Con Z l yX3_learn cX3_learn 4 none rm_X3_learn [.ref hm, .int n1, .int n2] (wM Z hm me) none (wM Z hm o) := by
  refine Con.of (by decide) (Nat.le_of_ble_eq_true rfl) ?_
  intro X hE0
  have hE : ∀ z, z = o → endsX X Z none none (wM Z hm z) := by
    rintro _ rfl; exact hE0
  unfold g_X3_learn at hg
  show AtK X Z rm_X3_learn cX3_learn RX3 4 0 0 (wM Z hm me) 0 [(0, .ref hm), (1, .int n1), (2, .int n2)] []
  refine r_aload_n dX3_learn_0 0 rfl ?_
  refine r_iload_n dX3_learn_1 1 rfl ?_
  refine r_sipush (v := 10000) dX3_learn_2 ksp_10000 ?_
  refine r_irem dX3_learn_5 (by decide) ?_
  refine r_iconst (v := 1) dX3_learn_6 kic_1 ?_
  refine r_iadd dX3_learn_7 ?_
  refine r_sipush (v := 10000) dX3_learn_8 ksp_10000 ?_
  refine r_irem dX3_learn_11 (by decide) ?_
  refine pf_X3_2 0 rfl (Nat.le_of_ble_eq_true rfl) qw_71 dX3_learn_12 (ws' := wM Z hm (upd me 2 (jrem ((jrem n1 10000) + 1) 10000))) rfl ?_
  refine r_iload_n dX3_learn_15 2 rfl ?_
  refine r_sipush (v := 1000) dX3_learn_16 ksp_1000 ?_
  refine r_irem dX3_learn_19 (by decide) ?_
  refine r_istore_n (lv' := [(3, .int (jrem n2 1000)), (0, .ref hm), (1, .int n1), (2, .int n2)]) dX3_learn_20 (by decide) rfl ?_
  refine r_iload_n dX3_learn_21 2 rfl ?_
  refine r_sipush (v := 10000) dX3_learn_22 ksp_10000 ?_
  refine r_idiv dX3_learn_25 (by decide) ?_
  by_cases h26_0 : (n1 / 10000) = 0
  · replace hg := (if_pos h26_0).symm.trans hg
    refine r_tableIn (tgt := 60) (off := 34) dX3_learn_26 (by rw [h26_0]; decide) (by rw [h26_0]; decide) (by rw [h26_0]; decide) (by decide) ?_
    refine r_aload_n dX3_learn_60 1 rfl ?_
    refine r_dup dX3_learn_61 rfl ?_
    refine gf_X3_3 (v := .int (me 3)) 0 rfl rfl qw_74 dX3_learn_62 ?_
    refine r_iload_n dX3_learn_65 0 rfl ?_
    refine r_iadd dX3_learn_66 ?_
    refine pf_X3_3 0 rfl (Nat.le_of_ble_eq_true rfl) qw_74 dX3_learn_67 (ws' := wM Z hm (upd (upd me 2 (jrem ((jrem n1 10000) + 1) 10000)) 3 ((me 3) + (jrem n2 1000)))) rfl ?_
    refine r_aload_n dX3_learn_70 1 rfl ?_
    refine r_dup dX3_learn_71 rfl ?_
    refine gf_X3_4 (v := .int (me 4)) 0 rfl rfl qw_77 dX3_learn_72 ?_
    refine r_iconst (v := 1) dX3_learn_75 kic_1 ?_
    refine r_iadd dX3_learn_76 ?_
    refine pf_X3_4 0 rfl (Nat.le_of_ble_eq_true rfl) qw_77 dX3_learn_77 (ws' := wM Z hm (upd (upd (upd me 2 (jrem ((jrem n1 10000) + 1) 10000)) 3 ((me 3) + (jrem n2 1000))) 4 ((me 4) + 1))) rfl ?_
    refine r_aload_n dX3_learn_80 1 rfl ?_
    refine r_dup dX3_learn_81 rfl ?_
    refine gf_X3_5 (v := .int (me 5)) 0 rfl rfl qw_80 dX3_learn_82 ?_
    refine r_iload_n dX3_learn_85 3 rfl ?_
    refine r_sipush (v := 1000) dX3_learn_86 ksp_1000 ?_
    refine r_idiv dX3_learn_89 (by decide) ?_
    obtain ⟨o90, e90, hg⟩ := ob hg
    refine r_callSN (As := [.int (n2 / 1000)]) (rest := [.int (me 5), .ref hm]) (ws' := wM Z hm (upd (upd (upd me 2 (jrem ((jrem n1 10000) + 1) 10000)) 3 ((me 3) + (jrem n2 1000))) 4 ((me 4) + 1))) (fun l => c_X6_lengthOf Z l   (n2 / 1000) o90 e90) qw_307 ms_X6_lengthOf xPk.none ⟨Nat.le_of_ble_eq_true rfl, Nat.le_of_ble_eq_true rfl⟩ ⟨rfl, rfl⟩ ⟨Nat.zero_le _, Nat.zero_le _⟩ rfl (Nat.le_of_ble_eq_true rfl) rfl dX3_learn_90 ?_
    refine r_isub dX3_learn_93 ?_
    refine pf_X3_5 0 rfl (Nat.le_of_ble_eq_true rfl) qw_80 dX3_learn_94 (ws' := wM Z hm (upd (upd (upd (upd me 2 (jrem ((jrem n1 10000) + 1) 10000)) 3 ((me 3) + (jrem n2 1000))) 4 ((me 4) + 1)) 5 ((me 5) - o90))) rfl ?_
    refine r_goto (tgt := 144) dX3_learn_97 (by decide) ?_
    exact r_vret (hE _ (Option.some.inj hg)) dX3_learn_144
  replace hg := (if_neg h26_0).symm.trans hg
  by_cases h26_1 : (n1 / 10000) = 1
  · replace hg := (if_pos h26_1).symm.trans hg
    refine r_tableIn (tgt := 100) (off := 74) dX3_learn_26 (by rw [h26_1]; decide) (by rw [h26_1]; decide) (by rw [h26_1]; decide) (by decide) ?_
    refine r_aload_n dX3_learn_100 1 rfl ?_
    refine r_dup dX3_learn_101 rfl ?_
    refine gf_X3_3 (v := .int (me 3)) 0 rfl rfl qw_74 dX3_learn_102 ?_
    refine r_iload_n dX3_learn_105 0 rfl ?_
    refine r_isub dX3_learn_106 ?_
    refine pf_X3_3 0 rfl (Nat.le_of_ble_eq_true rfl) qw_74 dX3_learn_107 (ws' := wM Z hm (upd (upd me 2 (jrem ((jrem n1 10000) + 1) 10000)) 3 ((me 3) - (jrem n2 1000)))) rfl ?_
    refine r_aload_n dX3_learn_110 1 rfl ?_
    refine r_dup dX3_learn_111 rfl ?_
    refine gf_X3_4 (v := .int (me 4)) 0 rfl rfl qw_77 dX3_learn_112 ?_
    refine r_iconst (v := 1) dX3_learn_115 kic_1 ?_
    refine r_isub dX3_learn_116 ?_
    refine pf_X3_4 0 rfl (Nat.le_of_ble_eq_true rfl) qw_77 dX3_learn_117 (ws' := wM Z hm (upd (upd (upd me 2 (jrem ((jrem n1 10000) + 1) 10000)) 3 ((me 3) - (jrem n2 1000))) 4 ((me 4) - 1))) rfl ?_
    refine r_goto (tgt := 144) dX3_learn_120 (by decide) ?_
    exact r_vret (hE _ (Option.some.inj hg)) dX3_learn_144
  replace hg := (if_neg h26_1).symm.trans hg
  by_cases h26_3 : (n1 / 10000) = 3
  · replace hg := (if_pos h26_3).symm.trans hg
    refine r_tableIn (tgt := 123) (off := 97) dX3_learn_26 (by rw [h26_3]; decide) (by rw [h26_3]; decide) (by rw [h26_3]; decide) (by decide) ?_
    refine r_aload_n dX3_learn_123 1 rfl ?_
    refine r_iconst (v := 0) dX3_learn_124 kic_0 ?_
    refine pf_X3_3 0 rfl (Nat.le_of_ble_eq_true rfl) qw_74 dX3_learn_125 (ws' := wM Z hm (upd (upd me 2 (jrem ((jrem n1 10000) + 1) 10000)) 3 0)) rfl ?_
    refine r_aload_n dX3_learn_128 1 rfl ?_
    refine r_iconst (v := 0) dX3_learn_129 kic_0 ?_
    refine pf_X3_4 0 rfl (Nat.le_of_ble_eq_true rfl) qw_77 dX3_learn_130 (ws' := wM Z hm (upd (upd (upd me 2 (jrem ((jrem n1 10000) + 1) 10000)) 3 0) 4 0)) rfl ?_
    refine r_goto (tgt := 144) dX3_learn_133 (by decide) ?_
    exact r_vret (hE _ (Option.some.inj hg)) dX3_learn_144
  replace hg := (if_neg h26_3).symm.trans hg
  by_cases h26_4 : (n1 / 10000) = 4
  · replace hg := (if_pos h26_4).symm.trans hg
    refine r_tableIn (tgt := 136) (off := 110) dX3_learn_26 (by rw [h26_4]; decide) (by rw [h26_4]; decide) (by rw [h26_4]; decide) (by decide) ?_
    refine r_aload_n dX3_learn_136 1 rfl ?_
    refine r_iload_n dX3_learn_137 3 rfl ?_
    refine pf_X3_5 0 rfl (Nat.le_of_ble_eq_true rfl) qw_80 dX3_learn_138 (ws' := wM Z hm (upd (upd me 2 (jrem ((jrem n1 10000) + 1) 10000)) 5 n2)) rfl ?_
    refine r_goto (tgt := 144) dX3_learn_141 (by decide) ?_
    exact r_vret (hE _ (Option.some.inj hg)) dX3_learn_144
  replace hg := (if_neg h26_4).symm.trans hg
  by_cases h26_2 : (n1 / 10000) = 2
  · refine r_tableIn (tgt := 144) (off := 118) dX3_learn_26 (by rw [h26_2]; decide) (by rw [h26_2]; decide) (by rw [h26_2]; decide) (by decide) ?_
    exact r_vret (hE _ (Option.some.inj hg)) dX3_learn_144
  have n26_0 : ¬ (n1 / 10000).toInt = 0 := x_nei (by decide) h26_0
  have n26_1 : ¬ (n1 / 10000).toInt = 1 := x_nei (by decide) h26_1
  have n26_3 : ¬ (n1 / 10000).toInt = 3 := x_nei (by decide) h26_3
  have n26_4 : ¬ (n1 / 10000).toInt = 4 := x_nei (by decide) h26_4
  have n26_2 : ¬ (n1 / 10000).toInt = 2 := x_nei (by decide) h26_2
  refine r_tableOut (tgt := 144) dX3_learn_26 (by omega) (by decide) ?_
  exact r_vret (hE _ (Option.some.inj hg)) dX3_learn_144

-- TicketJournal$Memory.recall(LTicketJournal$Flash;)V
abbrev rm_X3_recall : Room := { frames := 4, cells := 0, slots := 0, locals := 92 }
def g_X3_recall_116 (w : Nat → Int32) (k74 : Int32 → (Nat → Int32) → Option ((Nat → Int32))) (x2 : Int32) (me : Nat → Int32) : Option ((Nat → Int32)) :=
  k74 (x2 + 1) me
def g_X3_recall_74 (w : Nat → Int32)  : Nat → Int32 → (Nat → Int32) → Option ((Nat → Int32))
  | 0 => fun _ _ => none
  | n + 1 => fun x2 me => (if 4 ≤ x2 then some (me) else (g_X0_stateOf w (me 0) x2).bind fun o85 => (if o85 = 1 then (g_X0_recordWord w (me 0) x2 0).bind fun o100 => (g_X0_recordWord w (me 0) x2 2).bind fun o110 => (g_X3_learn me o100 o110).bind fun o113 => g_X3_recall_116 w (g_X3_recall_74 w n) x2 o113 else g_X3_recall_116 w (g_X3_recall_74 w n) x2 me))
def g_X3_recall (me : Nat → Int32) (w : Nat → Int32)  : Option ((Nat → Int32)) :=
  (g_X0_newestBlock w).bind fun o2 => (g_X0_nextPlaceIn w o2).bind fun o14 => (g_X0_read w o2 1).bind fun o27 => (g_X0_read w o2 2).bind fun o40 => (g_X0_read w o2 3).bind fun o53 => (g_X0_read w o2 4).bind fun o66 => g_X3_recall_74 w 12 0 (upd (upd (upd (upd (upd (upd me 0 o2) 1 o14) 3 o27) 4 o40) 5 o53) 2 o66)
set_option maxHeartbeats 4000000 in
set_option maxRecDepth 100000 in
theorem c_X3_recall (Z : GZ) (l : Launch) (hm : Nat) (h : Nat) (hw : Nat) (he : Nat) (me : Nat → Int32) (w : Nat → Int32) (er : Nat → Int32) (fl : Nat → Int32)  (o : ((Nat → Int32))) (hg : g_X3_recall me w = some o) : Con Z l yX3_recall cX3_recall 3 none rm_X3_recall [.ref hm, .ref h] (wM Z hm me ++ (wF Z h hw he w er fl)) none (wM Z hm o ++ (wF Z h hw he w er fl)) := by
  refine Con.of (by decide) (Nat.le_of_ble_eq_true rfl) ?_
  intro X hE0
  have hE : ∀ z, z = o → endsX X Z none none (wM Z hm z ++ (wF Z h hw he w er fl)) := by
    rintro _ rfl; exact hE0
  have J116 : ∀ (k74 : Int32 → (Nat → Int32) → Option ((Nat → Int32))) (hk74 : ∀ (x2 : Int32) (me : Nat → Int32), k74 x2 me = some o → AtK X Z rm_X3_recall cX3_recall RX3 3 0 0 (wM Z hm me ++ (wF Z h hw he w er fl)) 74 [(0, .ref hm), (1, .ref h), (2, .int x2)] []), ∀ (x2 : Int32) (me : Nat → Int32), g_X3_recall_116 w k74 x2 me = some o → AtK X Z rm_X3_recall cX3_recall RX3 3 0 0 (wM Z hm me ++ (wF Z h hw he w er fl)) 116 [(0, .ref hm), (1, .ref h), (2, .int x2)] [] := by
    intro k74 hk74 x2 me hg
    unfold g_X3_recall_116 at hg
    refine r_iinc (v := (x2 + 1)) (lv' := [(2, .int (x2 + 1)), (0, .ref hm), (1, .ref h)]) dX3_recall_116 (k := 2) rfl rfl (by decide) rfl ?_
    refine r_goto (tgt := 74) dX3_recall_119 (by decide) ?_
    exact r_sub [1, 2, 0] rfl (hk74 (x2 + 1) me hg)
  have J74 : ∀ (n : Nat), ∀ (x2 : Int32) (me : Nat → Int32), g_X3_recall_74 w n x2 me = some o → AtK X Z rm_X3_recall cX3_recall RX3 3 0 0 (wM Z hm me ++ (wF Z h hw he w er fl)) 74 [(0, .ref hm), (1, .ref h), (2, .int x2)] [] := by
    intro  n
    induction n with
    | zero => intro x2 me hg; exact nomatch (show (none : Option _) = some o from hg)
    | succ n ih =>
      intro x2 me hg
      unfold g_X3_recall_74 at hg
      refine r_iload_n dX3_recall_74 2 rfl ?_
      refine r_iconst (v := 4) dX3_recall_75 kic_4 ?_
      refine r_icmp_ge (tgt := 122) dX3_recall_76 (by decide) (fun h76 => ?_) (fun h76 => ?_)
      · replace hg := (if_pos h76).symm.trans hg
        exact r_vret (hE _ (Option.some.inj hg)) dX3_recall_122
      · replace hg := (if_neg h76).symm.trans hg
        refine r_aload_n dX3_recall_79 1 rfl ?_
        refine r_aload_n dX3_recall_80 0 rfl ?_
        refine gf_X3_0 (v := .int (me 0)) 0 rfl rfl qw_65 dX3_recall_81 ?_
        refine r_iload_n dX3_recall_84 2 rfl ?_
        obtain ⟨o85, e85, hg⟩ := ob hg
        refine r_callV (As := [.int (me 0), .int x2]) (rest := []) (ws' := wM Z hm me ++ (wF Z h hw he w er fl)) 0 rfl rfl rfl (fun l => c_X0_stateOf Z l h hw he w er fl (me 0) x2 o85 e85) qw_430 mv_X0_stateOf (xPk.idx [1, 2, 3] rfl rfl rfl rfl rfl) ⟨Nat.le_of_ble_eq_true rfl, Nat.le_of_ble_eq_true rfl⟩ ⟨rfl, rfl⟩ ⟨Nat.zero_le _, Nat.zero_le _⟩ rfl (Nat.le_of_ble_eq_true rfl) rfl dX3_recall_85 ?_
        refine r_iconst (v := 1) dX3_recall_88 kic_1 ?_
        refine r_icmp_ne (tgt := 116) dX3_recall_89 (by decide) (fun h89 => ?_) (fun h89 => ?_)
        · replace hg := (if_neg h89).symm.trans hg
          exact r_sub [0, 1, 2] rfl (J116 (g_X3_recall_74 w n) ih x2 me hg)
        · replace hg := (if_pos h89).symm.trans hg
          refine r_aload_n dX3_recall_92 0 rfl ?_
          refine r_aload_n dX3_recall_93 1 rfl ?_
          refine r_aload_n dX3_recall_94 0 rfl ?_
          refine gf_X3_0 (v := .int (me 0)) 0 rfl rfl qw_65 dX3_recall_95 ?_
          refine r_iload_n dX3_recall_98 2 rfl ?_
          refine r_iconst (v := 0) dX3_recall_99 kic_0 ?_
          obtain ⟨o100, e100, hg⟩ := ob hg
          refine r_callV (As := [.int (me 0), .int x2, .int 0]) (rest := [.ref hm]) (ws' := wM Z hm me ++ (wF Z h hw he w er fl)) 0 rfl rfl rfl (fun l => c_X0_recordWord Z l h hw he w er fl (me 0) x2 0 o100 e100) qw_431 mv_X0_recordWord (xPk.idx [1, 2, 3] rfl rfl rfl rfl rfl) ⟨Nat.le_of_ble_eq_true rfl, Nat.le_of_ble_eq_true rfl⟩ ⟨rfl, rfl⟩ ⟨Nat.zero_le _, Nat.zero_le _⟩ rfl (Nat.le_of_ble_eq_true rfl) rfl dX3_recall_100 ?_
          refine r_aload_n dX3_recall_103 1 rfl ?_
          refine r_aload_n dX3_recall_104 0 rfl ?_
          refine gf_X3_0 (v := .int (me 0)) 0 rfl rfl qw_65 dX3_recall_105 ?_
          refine r_iload_n dX3_recall_108 2 rfl ?_
          refine r_iconst (v := 2) dX3_recall_109 kic_2 ?_
          obtain ⟨o110, e110, hg⟩ := ob hg
          refine r_callV (As := [.int (me 0), .int x2, .int 2]) (rest := [.int o100, .ref hm]) (ws' := wM Z hm me ++ (wF Z h hw he w er fl)) 0 rfl rfl rfl (fun l => c_X0_recordWord Z l h hw he w er fl (me 0) x2 2 o110 e110) qw_431 mv_X0_recordWord (xPk.idx [1, 2, 3] rfl rfl rfl rfl rfl) ⟨Nat.le_of_ble_eq_true rfl, Nat.le_of_ble_eq_true rfl⟩ ⟨rfl, rfl⟩ ⟨Nat.zero_le _, Nat.zero_le _⟩ rfl (Nat.le_of_ble_eq_true rfl) rfl dX3_recall_110 ?_
          obtain ⟨o113, e113, hg⟩ := ob hg
          refine r_callV (As := [.int o100, .int o110]) (rest := []) (ws' := wM Z hm o113 ++ (wF Z h hw he w er fl)) 0 rfl rfl rfl (fun l => c_X3_learn Z l hm me o100 o110 o113 e113) qw_432 mv_X3_learn (xPk.idx [0] rfl rfl rfl rfl rfl) ⟨Nat.le_of_ble_eq_true rfl, Nat.le_of_ble_eq_true rfl⟩ ⟨rfl, rfl⟩ ⟨Nat.zero_le _, Nat.zero_le _⟩ rfl (Nat.le_of_ble_eq_true rfl) rfl dX3_recall_113 ?_
          exact r_sub [0, 1, 2] rfl (J116 (g_X3_recall_74 w n) ih x2 o113 hg)
  unfold g_X3_recall at hg
  show AtK X Z rm_X3_recall cX3_recall RX3 3 0 0 (wM Z hm me ++ (wF Z h hw he w er fl)) 0 [(0, .ref hm), (1, .ref h)] []
  refine r_aload_n dX3_recall_0 0 rfl ?_
  refine r_aload_n dX3_recall_1 1 rfl ?_
  obtain ⟨o2, e2, hg⟩ := ob hg
  refine r_callV (As := []) (rest := [.ref hm]) (ws' := wM Z hm me ++ (wF Z h hw he w er fl)) 0 rfl rfl rfl (fun l => c_X0_newestBlock Z l h hw he w er fl  o2 e2) qw_417 mv_X0_newestBlock (xPk.idx [1, 2, 3] rfl rfl rfl rfl rfl) ⟨Nat.le_of_ble_eq_true rfl, Nat.le_of_ble_eq_true rfl⟩ ⟨rfl, rfl⟩ ⟨Nat.zero_le _, Nat.zero_le _⟩ rfl (Nat.le_of_ble_eq_true rfl) rfl dX3_recall_2 ?_
  refine pf_X3_0 0 rfl (Nat.le_of_ble_eq_true rfl) qw_65 dX3_recall_5 (ws' := wM Z hm (upd me 0 o2) ++ (wF Z h hw he w er fl)) rfl ?_
  refine r_aload_n dX3_recall_8 0 rfl ?_
  refine r_aload_n dX3_recall_9 1 rfl ?_
  refine r_aload_n dX3_recall_10 0 rfl ?_
  refine gf_X3_0 (v := .int o2) 0 rfl rfl qw_65 dX3_recall_11 ?_
  obtain ⟨o14, e14, hg⟩ := ob hg
  refine r_callV (As := [.int o2]) (rest := [.ref hm]) (ws' := wM Z hm (upd me 0 o2) ++ (wF Z h hw he w er fl)) 0 rfl rfl rfl (fun l => c_X0_nextPlaceIn Z l h hw he w er fl o2 o14 e14) qw_425 mv_X0_nextPlaceIn (xPk.idx [1, 2, 3] rfl rfl rfl rfl rfl) ⟨Nat.le_of_ble_eq_true rfl, Nat.le_of_ble_eq_true rfl⟩ ⟨rfl, rfl⟩ ⟨Nat.zero_le _, Nat.zero_le _⟩ rfl (Nat.le_of_ble_eq_true rfl) rfl dX3_recall_14 ?_
  refine pf_X3_1 0 rfl (Nat.le_of_ble_eq_true rfl) qw_68 dX3_recall_17 (ws' := wM Z hm (upd (upd me 0 o2) 1 o14) ++ (wF Z h hw he w er fl)) rfl ?_
  refine r_aload_n dX3_recall_20 0 rfl ?_
  refine r_aload_n dX3_recall_21 1 rfl ?_
  refine r_aload_n dX3_recall_22 0 rfl ?_
  refine gf_X3_0 (v := .int o2) 0 rfl rfl qw_65 dX3_recall_23 ?_
  refine r_iconst (v := 1) dX3_recall_26 kic_1 ?_
  obtain ⟨o27, e27, hg⟩ := ob hg
  refine r_callV (As := [.int o2, .int 1]) (rest := [.ref hm]) (ws' := wM Z hm (upd (upd me 0 o2) 1 o14) ++ (wF Z h hw he w er fl)) 0 rfl rfl rfl (fun l => c_X0_read Z l h hw he w er fl o2 1 o27 e27) qw_429 mv_X0_read (xPk.idx [1, 2, 3] rfl rfl rfl rfl rfl) ⟨Nat.le_of_ble_eq_true rfl, Nat.le_of_ble_eq_true rfl⟩ ⟨rfl, rfl⟩ ⟨Nat.zero_le _, Nat.zero_le _⟩ rfl (Nat.le_of_ble_eq_true rfl) rfl dX3_recall_27 ?_
  refine pf_X3_3 0 rfl (Nat.le_of_ble_eq_true rfl) qw_74 dX3_recall_30 (ws' := wM Z hm (upd (upd (upd me 0 o2) 1 o14) 3 o27) ++ (wF Z h hw he w er fl)) rfl ?_
  refine r_aload_n dX3_recall_33 0 rfl ?_
  refine r_aload_n dX3_recall_34 1 rfl ?_
  refine r_aload_n dX3_recall_35 0 rfl ?_
  refine gf_X3_0 (v := .int o2) 0 rfl rfl qw_65 dX3_recall_36 ?_
  refine r_iconst (v := 2) dX3_recall_39 kic_2 ?_
  obtain ⟨o40, e40, hg⟩ := ob hg
  refine r_callV (As := [.int o2, .int 2]) (rest := [.ref hm]) (ws' := wM Z hm (upd (upd (upd me 0 o2) 1 o14) 3 o27) ++ (wF Z h hw he w er fl)) 0 rfl rfl rfl (fun l => c_X0_read Z l h hw he w er fl o2 2 o40 e40) qw_429 mv_X0_read (xPk.idx [1, 2, 3] rfl rfl rfl rfl rfl) ⟨Nat.le_of_ble_eq_true rfl, Nat.le_of_ble_eq_true rfl⟩ ⟨rfl, rfl⟩ ⟨Nat.zero_le _, Nat.zero_le _⟩ rfl (Nat.le_of_ble_eq_true rfl) rfl dX3_recall_40 ?_
  refine pf_X3_4 0 rfl (Nat.le_of_ble_eq_true rfl) qw_77 dX3_recall_43 (ws' := wM Z hm (upd (upd (upd (upd me 0 o2) 1 o14) 3 o27) 4 o40) ++ (wF Z h hw he w er fl)) rfl ?_
  refine r_aload_n dX3_recall_46 0 rfl ?_
  refine r_aload_n dX3_recall_47 1 rfl ?_
  refine r_aload_n dX3_recall_48 0 rfl ?_
  refine gf_X3_0 (v := .int o2) 0 rfl rfl qw_65 dX3_recall_49 ?_
  refine r_iconst (v := 3) dX3_recall_52 kic_3 ?_
  obtain ⟨o53, e53, hg⟩ := ob hg
  refine r_callV (As := [.int o2, .int 3]) (rest := [.ref hm]) (ws' := wM Z hm (upd (upd (upd (upd me 0 o2) 1 o14) 3 o27) 4 o40) ++ (wF Z h hw he w er fl)) 0 rfl rfl rfl (fun l => c_X0_read Z l h hw he w er fl o2 3 o53 e53) qw_429 mv_X0_read (xPk.idx [1, 2, 3] rfl rfl rfl rfl rfl) ⟨Nat.le_of_ble_eq_true rfl, Nat.le_of_ble_eq_true rfl⟩ ⟨rfl, rfl⟩ ⟨Nat.zero_le _, Nat.zero_le _⟩ rfl (Nat.le_of_ble_eq_true rfl) rfl dX3_recall_53 ?_
  refine pf_X3_5 0 rfl (Nat.le_of_ble_eq_true rfl) qw_80 dX3_recall_56 (ws' := wM Z hm (upd (upd (upd (upd (upd me 0 o2) 1 o14) 3 o27) 4 o40) 5 o53) ++ (wF Z h hw he w er fl)) rfl ?_
  refine r_aload_n dX3_recall_59 0 rfl ?_
  refine r_aload_n dX3_recall_60 1 rfl ?_
  refine r_aload_n dX3_recall_61 0 rfl ?_
  refine gf_X3_0 (v := .int o2) 0 rfl rfl qw_65 dX3_recall_62 ?_
  refine r_iconst (v := 4) dX3_recall_65 kic_4 ?_
  obtain ⟨o66, e66, hg⟩ := ob hg
  refine r_callV (As := [.int o2, .int 4]) (rest := [.ref hm]) (ws' := wM Z hm (upd (upd (upd (upd (upd me 0 o2) 1 o14) 3 o27) 4 o40) 5 o53) ++ (wF Z h hw he w er fl)) 0 rfl rfl rfl (fun l => c_X0_read Z l h hw he w er fl o2 4 o66 e66) qw_429 mv_X0_read (xPk.idx [1, 2, 3] rfl rfl rfl rfl rfl) ⟨Nat.le_of_ble_eq_true rfl, Nat.le_of_ble_eq_true rfl⟩ ⟨rfl, rfl⟩ ⟨Nat.zero_le _, Nat.zero_le _⟩ rfl (Nat.le_of_ble_eq_true rfl) rfl dX3_recall_66 ?_
  refine pf_X3_2 0 rfl (Nat.le_of_ble_eq_true rfl) qw_71 dX3_recall_69 (ws' := wM Z hm (upd (upd (upd (upd (upd (upd me 0 o2) 1 o14) 3 o27) 4 o40) 5 o53) 2 o66) ++ (wF Z h hw he w er fl)) rfl ?_
  refine r_iconst (v := 0) dX3_recall_72 kic_0 ?_
  refine r_istore_n (lv' := [(2, .int 0), (0, .ref hm), (1, .ref h)]) dX3_recall_73 (by decide) rfl ?_
  exact r_sub [1, 2, 0] rfl (J74 12 0 (upd (upd (upd (upd (upd (upd me 0 o2) 1 o14) 3 o27) 4 o40) 5 o53) 2 o66) hg)

-- TicketJournal$Printer.copyFrom(LTicketJournal$Printer;)V
abbrev rm_X5_copyFrom : Room := { frames := 2, cells := 0, slots := 0, locals := 61 }
def g_X5_copyFrom (w : Nat → Int32) (er : Nat → Int32) (fl : Nat → Int32) (me : Nat → Int32) (p : Nat → Int32) (pr : Nat → Int32) (w2 : Nat → Int32) (er2 : Nat → Int32) (fl2 : Nat → Int32) (me2 : Nat → Int32) (p2 : Nat → Int32) (pr2 : Nat → Int32)  : Option ((Nat → Int32) × (Nat → Int32) × (Nat → Int32) × (Nat → Int32) × (Nat → Int32) × (Nat → Int32)) :=
  (g_X0_copyFrom w er fl w2 er2 fl2).bind fun o8 => (g_X3_copyFrom me me2).bind fun o19 => (if ¬ ((pr2 0) = 0 ∨ (pr2 0) = 1) then none else some (o8.1, o8.2.1, o8.2.2, o19, p2, (upd (upd (upd (upd pr 0 (pr2 0)) 1 (pr2 1)) 2 (pr2 2)) 3 (pr2 3))))
set_option maxHeartbeats 4000000 in
set_option maxRecDepth 100000 in
theorem c_X5_copyFrom (Z : GZ) (l : Launch) (a : Nat → Nat) (b : Nat → Nat) (w : Nat → Int32) (er : Nat → Int32) (fl : Nat → Int32) (me : Nat → Int32) (p : Nat → Int32) (pr : Nat → Int32) (w2 : Nat → Int32) (er2 : Nat → Int32) (fl2 : Nat → Int32) (me2 : Nat → Int32) (p2 : Nat → Int32) (pr2 : Nat → Int32)  (o : ((Nat → Int32) × (Nat → Int32) × (Nat → Int32) × (Nat → Int32) × (Nat → Int32) × (Nat → Int32))) (hg : g_X5_copyFrom w er fl me p pr w2 er2 fl2 me2 p2 pr2 = some o) : Con Z l yX5_copyFrom cX5_copyFrom 2 none rm_X5_copyFrom [.ref (a 0), .ref (b 0)] (wP Z a w er fl me p pr ++ (wP Z b w2 er2 fl2 me2 p2 pr2)) none (wP Z a o.1 o.2.1 o.2.2.1 o.2.2.2.1 o.2.2.2.2.1 o.2.2.2.2.2 ++ (wP Z b w2 er2 fl2 me2 p2 pr2)) := by
  refine Con.of (by decide) (Nat.le_of_ble_eq_true rfl) ?_
  intro X hE0
  have hE : ∀ z, z = o → endsX X Z none none (wP Z a z.1 z.2.1 z.2.2.1 z.2.2.2.1 z.2.2.2.2.1 z.2.2.2.2.2 ++ (wP Z b w2 er2 fl2 me2 p2 pr2)) := by
    rintro _ rfl; exact hE0
  unfold g_X5_copyFrom at hg
  show AtK X Z rm_X5_copyFrom cX5_copyFrom RX5 2 0 0 (wP Z a w er fl me p pr ++ (wP Z b w2 er2 fl2 me2 p2 pr2)) 0 [(0, .ref (a 0)), (1, .ref (b 0))] []
  refine r_aload_n dX5_copyFrom_0 0 rfl ?_
  refine gf_X5_0 (v := .ref (a 1)) 0 rfl rfl qw_96 dX5_copyFrom_1 ?_
  refine r_aload_n dX5_copyFrom_4 1 rfl ?_
  refine gf_X5_0 (v := .ref (b 1)) 6 rfl rfl qw_96 dX5_copyFrom_5 ?_
  obtain ⟨o8, e8, hg⟩ := ob hg
  refine r_callV (As := [.ref (b 1)]) (rest := []) (ws' := wP Z a o8.1 o8.2.1 o8.2.2 me p pr ++ (wP Z b w2 er2 fl2 me2 p2 pr2)) 0 rfl rfl rfl (fun l => c_X0_copyFrom Z l (a 1) (a 2) (a 3) (b 1) (b 2) (b 3) w er fl w2 er2 fl2  o8 e8) qw_244 mv_X0_copyFrom (xPk.idx [1, 2, 3, 7, 8, 9] rfl rfl rfl rfl rfl) ⟨Nat.le_of_ble_eq_true rfl, Nat.le_of_ble_eq_true rfl⟩ ⟨rfl, rfl⟩ ⟨Nat.zero_le _, Nat.zero_le _⟩ rfl (Nat.le_of_ble_eq_true rfl) rfl dX5_copyFrom_8 ?_
  refine r_aload_n dX5_copyFrom_11 0 rfl ?_
  refine gf_X5_1 (v := .ref (a 4)) 0 rfl rfl qw_98 dX5_copyFrom_12 ?_
  refine r_aload_n dX5_copyFrom_15 1 rfl ?_
  refine gf_X5_1 (v := .ref (b 4)) 6 rfl rfl qw_98 dX5_copyFrom_16 ?_
  obtain ⟨o19, e19, hg⟩ := ob hg
  refine r_callV (As := [.ref (b 4)]) (rest := []) (ws' := wP Z a o8.1 o8.2.1 o8.2.2 o19 p pr ++ (wP Z b w2 er2 fl2 me2 p2 pr2)) 0 rfl rfl rfl (fun l => c_X3_copyFrom Z l (a 4) (b 4) me me2  o19 e19) qw_251 mv_X3_copyFrom (xPk.idx [4, 10] rfl rfl rfl rfl rfl) ⟨Nat.le_of_ble_eq_true rfl, Nat.le_of_ble_eq_true rfl⟩ ⟨rfl, rfl⟩ ⟨Nat.zero_le _, Nat.zero_le _⟩ rfl (Nat.le_of_ble_eq_true rfl) rfl dX5_copyFrom_19 ?_
  refine r_aload_n dX5_copyFrom_22 1 rfl ?_
  refine gf_X5_2 (v := .ref (b 5)) 6 rfl rfl qw_100 dX5_copyFrom_23 ?_
  refine r_iconst (v := 0) dX5_copyFrom_26 kic_0 ?_
  refine r_aload_n dX5_copyFrom_27 0 rfl ?_
  refine gf_X5_2 (v := .ref (a 5)) 0 rfl rfl qw_100 dX5_copyFrom_28 ?_
  refine r_iconst (v := 0) dX5_copyFrom_31 kic_0 ?_
  refine r_iconst (v := 4) dX5_copyFrom_32 kic_4 ?_
  refine r_copyi 11 5 rfl rfl (by decide) (by decide) qw_255 qw_250 qw_249 qw_20 (Nat.le_of_ble_eq_true rfl) (Nat.le_of_ble_eq_true rfl) dX5_copyFrom_33 (ws' := wP Z a o8.1 o8.2.1 o8.2.2 o19 p2 pr ++ (wP Z b w2 er2 fl2 me2 p2 pr2)) rfl ?_
  refine r_aload_n dX5_copyFrom_36 0 rfl ?_
  refine r_aload_n dX5_copyFrom_37 1 rfl ?_
  refine gf_X5_3 (v := .int (pr2 0)) 6 rfl rfl qw_101 dX5_copyFrom_38 ?_
  obtain ⟨hz41, hg⟩ := og hg
  refine pf_X5_3 (Decidable.not_not.mp hz41) 0 rfl (Nat.le_of_ble_eq_true rfl) qw_101 dX5_copyFrom_41 (ws' := wP Z a o8.1 o8.2.1 o8.2.2 o19 p2 (upd pr 0 (pr2 0)) ++ (wP Z b w2 er2 fl2 me2 p2 pr2)) rfl ?_
  refine r_aload_n dX5_copyFrom_44 0 rfl ?_
  refine r_aload_n dX5_copyFrom_45 1 rfl ?_
  refine gf_X5_4 (v := .int (pr2 1)) 6 rfl rfl qw_103 dX5_copyFrom_46 ?_
  refine pf_X5_4 0 rfl (Nat.le_of_ble_eq_true rfl) qw_103 dX5_copyFrom_49 (ws' := wP Z a o8.1 o8.2.1 o8.2.2 o19 p2 (upd (upd pr 0 (pr2 0)) 1 (pr2 1)) ++ (wP Z b w2 er2 fl2 me2 p2 pr2)) rfl ?_
  refine r_aload_n dX5_copyFrom_52 0 rfl ?_
  refine r_aload_n dX5_copyFrom_53 1 rfl ?_
  refine gf_X5_5 (v := .int (pr2 2)) 6 rfl rfl qw_105 dX5_copyFrom_54 ?_
  refine pf_X5_5 0 rfl (Nat.le_of_ble_eq_true rfl) qw_105 dX5_copyFrom_57 (ws' := wP Z a o8.1 o8.2.1 o8.2.2 o19 p2 (upd (upd (upd pr 0 (pr2 0)) 1 (pr2 1)) 2 (pr2 2)) ++ (wP Z b w2 er2 fl2 me2 p2 pr2)) rfl ?_
  refine r_aload_n dX5_copyFrom_60 0 rfl ?_
  refine r_aload_n dX5_copyFrom_61 1 rfl ?_
  refine gf_X5_6 (v := .int (pr2 3)) 6 rfl rfl qw_107 dX5_copyFrom_62 ?_
  refine pf_X5_6 0 rfl (Nat.le_of_ble_eq_true rfl) qw_107 dX5_copyFrom_65 (ws' := wP Z a o8.1 o8.2.1 o8.2.2 o19 p2 (upd (upd (upd (upd pr 0 (pr2 0)) 1 (pr2 1)) 2 (pr2 2)) 3 (pr2 3)) ++ (wP Z b w2 er2 fl2 me2 p2 pr2)) rfl ?_
  exact r_vret (hE _ (Option.some.inj hg)) dX5_copyFrom_68

-- TicketJournal$Printer.priceOf(I)I
abbrev rm_X5_priceOf : Room := { frames := 0, cells := 0, slots := 0, locals := 0 }
def g_X5_priceOf_22 (p : Nat → Int32)   : Option (Int32) :=
  some (0)
def g_X5_priceOf (p : Nat → Int32) (n1 : Int32) : Option (Int32) :=
  (if n1 < 0 then g_X5_priceOf_22 p else (if 4 ≤ n1 then g_X5_priceOf_22 p else (if n1 < 0 ∨ 4 ≤ n1.toNatClampNeg then none else some ((p n1.toNatClampNeg)))))
set_option maxHeartbeats 4000000 in
set_option maxRecDepth 100000 in
theorem c_X5_priceOf (Z : GZ) (l : Launch) (a : Nat → Nat) (w : Nat → Int32) (er : Nat → Int32) (fl : Nat → Int32) (me : Nat → Int32) (p : Nat → Int32) (pr : Nat → Int32) (n1 : Int32) (o : (Int32)) (hg : g_X5_priceOf p n1 = some o) : Con Z l yX5_priceOf cX5_priceOf 2 (some .int) rm_X5_priceOf [.ref (a 0), .int n1] (wP Z a w er fl me p pr) (some (.int o)) (wP Z a w er fl me p pr) := by
  refine Con.of (by decide) (Nat.le_of_ble_eq_true rfl) ?_
  intro X hE0
  have hE : ∀ z, z = o → endsX X Z (some .int) (some (.int z)) (wP Z a w er fl me p pr) := by
    rintro _ rfl; exact hE0
  have J22 : g_X5_priceOf_22 p = some o → AtK X Z rm_X5_priceOf cX5_priceOf RX5 2 0 0 (wP Z a w er fl me p pr) 22 [] [] := by
    intro  hg
    unfold g_X5_priceOf_22 at hg
    refine r_iconst (v := 0) dX5_priceOf_22 kic_0 ?_
    exact r_iret (hE _ (Option.some.inj hg)) dX5_priceOf_23
  unfold g_X5_priceOf at hg
  show AtK X Z rm_X5_priceOf cX5_priceOf RX5 2 0 0 (wP Z a w er fl me p pr) 0 [(0, .ref (a 0)), (1, .int n1)] []
  refine r_iload_n dX5_priceOf_0 1 rfl ?_
  refine r_if_lt (tgt := 22) dX5_priceOf_1 (by decide) (fun h1 => ?_) (fun h1 => ?_)
  · replace hg := (if_pos h1).symm.trans hg
    exact r_sub [] rfl (J22 hg)
  · replace hg := (if_neg h1).symm.trans hg
    refine r_iload_n dX5_priceOf_4 1 rfl ?_
    refine r_aload_n dX5_priceOf_5 0 rfl ?_
    refine gf_X5_2 (v := .ref (a 5)) 0 rfl rfl qw_100 dX5_priceOf_6 ?_
    refine r_alen 5 0 rfl rfl (v := 4) (by decide) dX5_priceOf_9 ?_
    refine r_icmp_ge (tgt := 22) dX5_priceOf_10 (by decide) (fun h10 => ?_) (fun h10 => ?_)
    · replace hg := (if_pos h10).symm.trans hg
      exact r_sub [] rfl (J22 hg)
    · replace hg := (if_neg h10).symm.trans hg
      refine r_aload_n dX5_priceOf_13 0 rfl ?_
      refine gf_X5_2 (v := .ref (a 5)) 0 rfl rfl qw_100 dX5_priceOf_14 ?_
      refine r_iload_n dX5_priceOf_17 1 rfl ?_
      obtain ⟨hi18, hg⟩ := og hg
      refine r_iald 5 rfl hi18 dX5_priceOf_18 ?_
      refine r_goto (tgt := 23) dX5_priceOf_19 (by decide) ?_
      exact r_iret (hE _ (Option.some.inj hg)) dX5_priceOf_23

-- TicketJournal$Printer.changePrice(II)V
abbrev rm_X5_changePrice : Room := { frames := 0, cells := 0, slots := 0, locals := 0 }
def g_X5_changePrice (p : Nat → Int32) (n1 : Int32) (n2 : Int32) : Option ((Nat → Int32)) :=
  (if n1 < 0 then some (p) else (if 4 ≤ n1 then some (p) else (if n1 < 0 ∨ 4 ≤ n1.toNatClampNeg then none else some ((upd p n1.toNatClampNeg n2)))))
set_option maxHeartbeats 4000000 in
set_option maxRecDepth 100000 in
theorem c_X5_changePrice (Z : GZ) (l : Launch) (a : Nat → Nat) (w : Nat → Int32) (er : Nat → Int32) (fl : Nat → Int32) (me : Nat → Int32) (p : Nat → Int32) (pr : Nat → Int32) (n1 : Int32) (n2 : Int32) (o : ((Nat → Int32))) (hg : g_X5_changePrice p n1 n2 = some o) : Con Z l yX5_changePrice cX5_changePrice 3 none rm_X5_changePrice [.ref (a 0), .int n1, .int n2] (wP Z a w er fl me p pr) none (wP Z a w er fl me o pr) := by
  refine Con.of (by decide) (Nat.le_of_ble_eq_true rfl) ?_
  intro X hE0
  have hE : ∀ z, z = o → endsX X Z none none (wP Z a w er fl me z pr) := by
    rintro _ rfl; exact hE0
  unfold g_X5_changePrice at hg
  show AtK X Z rm_X5_changePrice cX5_changePrice RX5 3 0 0 (wP Z a w er fl me p pr) 0 [(0, .ref (a 0)), (1, .int n1), (2, .int n2)] []
  refine r_iload_n dX5_changePrice_0 1 rfl ?_
  refine r_if_lt (tgt := 20) dX5_changePrice_1 (by decide) (fun h1 => ?_) (fun h1 => ?_)
  · replace hg := (if_pos h1).symm.trans hg
    exact r_vret (hE _ (Option.some.inj hg)) dX5_changePrice_20
  · replace hg := (if_neg h1).symm.trans hg
    refine r_iload_n dX5_changePrice_4 1 rfl ?_
    refine r_aload_n dX5_changePrice_5 0 rfl ?_
    refine gf_X5_2 (v := .ref (a 5)) 0 rfl rfl qw_100 dX5_changePrice_6 ?_
    refine r_alen 5 0 rfl rfl (v := 4) (by decide) dX5_changePrice_9 ?_
    refine r_icmp_ge (tgt := 20) dX5_changePrice_10 (by decide) (fun h10 => ?_) (fun h10 => ?_)
    · replace hg := (if_pos h10).symm.trans hg
      exact r_vret (hE _ (Option.some.inj hg)) dX5_changePrice_20
    · replace hg := (if_neg h10).symm.trans hg
      refine r_aload_n dX5_changePrice_13 0 rfl ?_
      refine gf_X5_2 (v := .ref (a 5)) 0 rfl rfl qw_100 dX5_changePrice_14 ?_
      refine r_iload_n dX5_changePrice_17 1 rfl ?_
      refine r_iload_n dX5_changePrice_18 2 rfl ?_
      obtain ⟨hi19, hg⟩ := og hg
      refine r_iast 5 rfl rfl hi19 dX5_changePrice_19 (ws' := wP Z a w er fl me (upd p n1.toNatClampNeg n2) pr) rfl ?_
      exact r_vret (hE _ (Option.some.inj hg)) dX5_changePrice_20

-- TicketJournal$Printer.refusalOf(I)I
abbrev rm_X5_refusalOf : Room := { frames := 2, cells := 0, slots := 0, locals := 42 }
def g_X5_refusalOf_34 (me : Nat → Int32) (p : Nat → Int32) (pr : Nat → Int32)   : Option (Int32) :=
  some ((-2))
def g_X5_refusalOf (me : Nat → Int32) (p : Nat → Int32) (pr : Nat → Int32) (n1 : Int32) : Option (Int32) :=
  (g_X6_isSort n1).bind fun o1 => (if o1 = 0 then some ((-1)) else (if (pr 0) = 0 then g_X5_refusalOf_34 me p pr else (g_X5_priceOf p n1).bind fun o25 => (if ((me 3) + o25) ≤ 60000 then (g_X6_lengthOf n1).bind fun o45 => (if o45 ≤ (me 5) then some (0) else some ((-3))) else g_X5_refusalOf_34 me p pr)))
set_option maxHeartbeats 4000000 in
set_option maxRecDepth 100000 in
theorem c_X5_refusalOf (Z : GZ) (l : Launch) (a : Nat → Nat) (w : Nat → Int32) (er : Nat → Int32) (fl : Nat → Int32) (me : Nat → Int32) (p : Nat → Int32) (pr : Nat → Int32) (n1 : Int32) (o : (Int32)) (hg : g_X5_refusalOf me p pr n1 = some o) : Con Z l yX5_refusalOf cX5_refusalOf 2 (some .int) rm_X5_refusalOf [.ref (a 0), .int n1] (wP Z a w er fl me p pr) (some (.int o)) (wP Z a w er fl me p pr) := by
  refine Con.of (by decide) (Nat.le_of_ble_eq_true rfl) ?_
  intro X hE0
  have hE : ∀ z, z = o → endsX X Z (some .int) (some (.int z)) (wP Z a w er fl me p pr) := by
    rintro _ rfl; exact hE0
  have J34 : g_X5_refusalOf_34 me p pr = some o → AtK X Z rm_X5_refusalOf cX5_refusalOf RX5 2 0 0 (wP Z a w er fl me p pr) 34 [] [] := by
    intro  hg
    unfold g_X5_refusalOf_34 at hg
    refine r_bipush (v := (-2)) dX5_refusalOf_34 kbp_m2 ?_
    exact r_iret (hE _ (Option.some.inj hg)) dX5_refusalOf_36
  unfold g_X5_refusalOf at hg
  show AtK X Z rm_X5_refusalOf cX5_refusalOf RX5 2 0 0 (wP Z a w er fl me p pr) 0 [(0, .ref (a 0)), (1, .int n1)] []
  refine r_iload_n dX5_refusalOf_0 1 rfl ?_
  obtain ⟨o1, e1, hg⟩ := ob hg
  refine r_callSN (As := [.int n1]) (rest := []) (ws' := wP Z a w er fl me p pr) (fun l => c_X6_isSort Z l   n1 o1 e1) qw_221 ms_X6_isSort xPk.none ⟨Nat.le_of_ble_eq_true rfl, Nat.le_of_ble_eq_true rfl⟩ ⟨rfl, rfl⟩ ⟨Nat.zero_le _, Nat.zero_le _⟩ rfl (Nat.le_of_ble_eq_true rfl) rfl dX5_refusalOf_1 ?_
  refine r_if_ne (tgt := 9) dX5_refusalOf_4 (by decide) (fun h4 => ?_) (fun h4 => ?_)
  · replace hg := (if_neg h4).symm.trans hg
    refine r_aload_n dX5_refusalOf_9 0 rfl ?_
    refine gf_X5_3 (v := .int (pr 0)) 0 rfl rfl qw_101 dX5_refusalOf_10 ?_
    refine r_if_eq (tgt := 34) dX5_refusalOf_13 (by decide) (fun h13 => ?_) (fun h13 => ?_)
    · replace hg := (if_pos h13).symm.trans hg
      exact r_sub [] rfl (J34 hg)
    · replace hg := (if_neg h13).symm.trans hg
      refine r_aload_n dX5_refusalOf_16 0 rfl ?_
      refine gf_X5_1 (v := .ref (a 4)) 0 rfl rfl qw_98 dX5_refusalOf_17 ?_
      refine gfN_X3_3 (v := .int (me 3)) 4 rfl rfl qw_75 dX5_refusalOf_20 ?_
      refine r_aload_n dX5_refusalOf_23 0 rfl ?_
      refine r_iload_n dX5_refusalOf_24 1 rfl ?_
      obtain ⟨o25, e25, hg⟩ := ob hg
      refine r_callV (As := [.int n1]) (rest := [.int (me 3)]) (ws' := wP Z a w er fl me p pr) 0 rfl rfl rfl (fun l => c_X5_priceOf Z l a w er fl me p pr n1 o25 e25) qw_224 mv_X5_priceOf (xPk.all rfl) ⟨Nat.le_of_ble_eq_true rfl, Nat.le_of_ble_eq_true rfl⟩ ⟨rfl, rfl⟩ ⟨Nat.zero_le _, Nat.zero_le _⟩ rfl (Nat.le_of_ble_eq_true rfl) rfl dX5_refusalOf_25 ?_
      refine r_iadd dX5_refusalOf_28 ?_
      refine r_ldc qw_228 dX5_refusalOf_29 ?_
      refine r_icmp_le (tgt := 37) dX5_refusalOf_31 (by decide) (fun h31 => ?_) (fun h31 => ?_)
      · replace hg := (if_pos h31).symm.trans hg
        refine r_aload_n dX5_refusalOf_37 0 rfl ?_
        refine gf_X5_1 (v := .ref (a 4)) 0 rfl rfl qw_98 dX5_refusalOf_38 ?_
        refine gfN_X3_5 (v := .int (me 5)) 4 rfl rfl qw_81 dX5_refusalOf_41 ?_
        refine r_iload_n dX5_refusalOf_44 1 rfl ?_
        obtain ⟨o45, e45, hg⟩ := ob hg
        refine r_callSN (As := [.int n1]) (rest := [.int (me 5)]) (ws' := wP Z a w er fl me p pr) (fun l => c_X6_lengthOf Z l   n1 o45 e45) qw_229 ms_X6_lengthOf xPk.none ⟨Nat.le_of_ble_eq_true rfl, Nat.le_of_ble_eq_true rfl⟩ ⟨rfl, rfl⟩ ⟨Nat.zero_le _, Nat.zero_le _⟩ rfl (Nat.le_of_ble_eq_true rfl) rfl dX5_refusalOf_45 ?_
        refine r_icmp_ge (tgt := 56) dX5_refusalOf_48 (by decide) (fun h48 => ?_) (fun h48 => ?_)
        · replace hg := (if_pos h48).symm.trans hg
          refine r_iconst (v := 0) dX5_refusalOf_56 kic_0 ?_
          exact r_iret (hE _ (Option.some.inj hg)) dX5_refusalOf_57
        · replace hg := (if_neg h48).symm.trans hg
          refine r_bipush (v := (-3)) dX5_refusalOf_51 kbp_m3 ?_
          refine r_goto (tgt := 57) dX5_refusalOf_53 (by decide) ?_
          exact r_iret (hE _ (Option.some.inj hg)) dX5_refusalOf_57
      · replace hg := (if_neg h31).symm.trans hg
        exact r_sub [] rfl (J34 hg)
  · replace hg := (if_pos h4).symm.trans hg
    refine r_iconst (v := (-1)) dX5_refusalOf_7 kic_m1 ?_
    exact r_iret (hE _ (Option.some.inj hg)) dX5_refusalOf_8

-- TicketJournal$Printer.losePower()V
abbrev rm_X5_losePower : Room := { frames := 1, cells := 0, slots := 0, locals := 20 }
def g_X5_losePower (me : Nat → Int32) (pr : Nat → Int32)  : Option ((Nat → Int32) × (Nat → Int32)) :=
  (g_X3_forget me).bind fun o9 => some (o9, (upd pr 0 0))
set_option maxHeartbeats 4000000 in
set_option maxRecDepth 100000 in
theorem c_X5_losePower (Z : GZ) (l : Launch) (a : Nat → Nat) (w : Nat → Int32) (er : Nat → Int32) (fl : Nat → Int32) (me : Nat → Int32) (p : Nat → Int32) (pr : Nat → Int32)  (o : ((Nat → Int32) × (Nat → Int32))) (hg : g_X5_losePower me pr = some o) : Con Z l yX5_losePower cX5_losePower 1 none rm_X5_losePower [.ref (a 0)] (wP Z a w er fl me p pr) none (wP Z a w er fl o.1 p o.2) := by
  refine Con.of (by decide) (Nat.le_of_ble_eq_true rfl) ?_
  intro X hE0
  have hE : ∀ z, z = o → endsX X Z none none (wP Z a w er fl z.1 p z.2) := by
    rintro _ rfl; exact hE0
  unfold g_X5_losePower at hg
  show AtK X Z rm_X5_losePower cX5_losePower RX5 1 0 0 (wP Z a w er fl me p pr) 0 [(0, .ref (a 0))] []
  refine r_aload_n dX5_losePower_0 0 rfl ?_
  refine r_iconst (v := 0) dX5_losePower_1 kic_0 ?_
  refine pf_X5_3 (by decide) 0 rfl (Nat.le_of_ble_eq_true rfl) qw_101 dX5_losePower_2 (ws' := wP Z a w er fl me p (upd pr 0 0)) rfl ?_
  refine r_aload_n dX5_losePower_5 0 rfl ?_
  refine gf_X5_1 (v := .ref (a 4)) 0 rfl rfl qw_98 dX5_losePower_6 ?_
  obtain ⟨o9, e9, hg⟩ := ob hg
  refine r_callV (As := []) (rest := []) (ws' := wP Z a w er fl o9 p (upd pr 0 0)) 0 rfl rfl rfl (fun l => c_X3_forget Z l (a 4) me  o9 e9) qw_299 mv_X3_forget (xPk.idx [4] rfl rfl rfl rfl rfl) ⟨Nat.le_of_ble_eq_true rfl, Nat.le_of_ble_eq_true rfl⟩ ⟨rfl, rfl⟩ ⟨Nat.zero_le _, Nat.zero_le _⟩ rfl (Nat.le_of_ble_eq_true rfl) rfl dX5_losePower_9 ?_
  exact r_vret (hE _ (Option.some.inj hg)) dX5_losePower_12

-- TicketJournal$Printer.wake()V
abbrev rm_X5_wake : Room := { frames := 5, cells := 0, slots := 0, locals := 114 }
def g_X5_wake (w : Nat → Int32) (me : Nat → Int32) (pr : Nat → Int32)  : Option ((Nat → Int32) × (Nat → Int32)) :=
  (g_X3_recall me w).bind fun o13 => some (o13, (upd pr 0 1))
set_option maxHeartbeats 4000000 in
set_option maxRecDepth 100000 in
theorem c_X5_wake (Z : GZ) (l : Launch) (a : Nat → Nat) (w : Nat → Int32) (er : Nat → Int32) (fl : Nat → Int32) (me : Nat → Int32) (p : Nat → Int32) (pr : Nat → Int32)  (o : ((Nat → Int32) × (Nat → Int32))) (hg : g_X5_wake w me pr = some o) : Con Z l yX5_wake cX5_wake 1 none rm_X5_wake [.ref (a 0)] (wP Z a w er fl me p pr) none (wP Z a w er fl o.1 p o.2) := by
  refine Con.of (by decide) (Nat.le_of_ble_eq_true rfl) ?_
  intro X hE0
  have hE : ∀ z, z = o → endsX X Z none none (wP Z a w er fl z.1 p z.2) := by
    rintro _ rfl; exact hE0
  unfold g_X5_wake at hg
  show AtK X Z rm_X5_wake cX5_wake RX5 1 0 0 (wP Z a w er fl me p pr) 0 [(0, .ref (a 0))] []
  refine r_aload_n dX5_wake_0 0 rfl ?_
  refine r_iconst (v := 1) dX5_wake_1 kic_1 ?_
  refine pf_X5_3 (by decide) 0 rfl (Nat.le_of_ble_eq_true rfl) qw_101 dX5_wake_2 (ws' := wP Z a w er fl me p (upd pr 0 1)) rfl ?_
  refine r_aload_n dX5_wake_5 0 rfl ?_
  refine gf_X5_1 (v := .ref (a 4)) 0 rfl rfl qw_98 dX5_wake_6 ?_
  refine r_aload_n dX5_wake_9 0 rfl ?_
  refine gf_X5_0 (v := .ref (a 1)) 0 rfl rfl qw_96 dX5_wake_10 ?_
  obtain ⟨o13, e13, hg⟩ := ob hg
  refine r_callV (As := [.ref (a 1)]) (rest := []) (ws' := wP Z a w er fl o13 p (upd pr 0 1)) 0 rfl rfl rfl (fun l => c_X3_recall Z l (a 4) (a 1) (a 2) (a 3) me w er fl  o13 e13) qw_413 mv_X3_recall (xPk.idx [4, 1, 2, 3] rfl rfl rfl rfl rfl) ⟨Nat.le_of_ble_eq_true rfl, Nat.le_of_ble_eq_true rfl⟩ ⟨rfl, rfl⟩ ⟨Nat.zero_le _, Nat.zero_le _⟩ rfl (Nat.le_of_ble_eq_true rfl) rfl dX5_wake_13 ?_
  exact r_vret (hE _ (Option.some.inj hg)) dX5_wake_16

-- TicketJournal$Printer.beginBlock()Z
abbrev rm_X5_beginBlock : Room := { frames := 2, cells := 0, slots := 0, locals := 44 }
def g_X5_beginBlock_208   (x4 : Int32) (w : Nat → Int32) (er : Nat → Int32) (fl : Nat → Int32) (me : Nat → Int32) : Option (Int32 × (Nat → Int32) × (Nat → Int32) × (Nat → Int32) × (Nat → Int32)) :=
  (if ¬ (x4 = 0 ∨ x4 = 1) then none else some (x4, w, er, fl, me))
def g_X5_beginBlock_185   (x1 : Int32) (t0 : Int32) (w : Nat → Int32) (er : Nat → Int32) (fl : Nat → Int32) (me : Nat → Int32) : Option (Int32 × (Nat → Int32) × (Nat → Int32) × (Nat → Int32) × (Nat → Int32)) :=
  (if t0 = 0 then g_X5_beginBlock_208 t0 w er fl me else g_X5_beginBlock_208 t0 w er fl (upd (upd me 0 x1) 1 0))
def g_X5_beginBlock_184   (x1 : Int32) (w : Nat → Int32) (er : Nat → Int32) (fl : Nat → Int32) (me : Nat → Int32) : Option (Int32 × (Nat → Int32) × (Nat → Int32) × (Nat → Int32) × (Nat → Int32)) :=
  g_X5_beginBlock_185 x1 0 w er fl me
def g_X5_beginBlock (w : Nat → Int32) (er : Nat → Int32) (fl : Nat → Int32) (me : Nat → Int32)  : Option (Int32 × (Nat → Int32) × (Nat → Int32) × (Nat → Int32) × (Nat → Int32)) :=
  (g_X0_read w (me 0) 0).bind fun o24 => (g_X6_headerCheck (jrem (o24 + 1) 10000) (me 3) (me 4) (me 5) (me 2)).bind fun o63 => (g_X0_erase w er fl (jrem ((me 0) + 1) 5)).bind fun o72 => (if o72.1 = 0 then g_X5_beginBlock_184 (jrem ((me 0) + 1) 5) o72.2.1 o72.2.2.1 o72.2.2.2 me else (g_X0_write o72.2.1 o72.2.2.2 (jrem ((me 0) + 1) 5) 0 (jrem (o24 + 1) 10000)).bind fun o85 => (if o85.1 = 0 then g_X5_beginBlock_184 (jrem ((me 0) + 1) 5) o85.2.1 o72.2.2.1 o85.2.2 me else (g_X0_write o85.2.1 o85.2.2 (jrem ((me 0) + 1) 5) 1 (me 3)).bind fun o104 => (if o104.1 = 0 then g_X5_beginBlock_184 (jrem ((me 0) + 1) 5) o104.2.1 o72.2.2.1 o104.2.2 me else (g_X0_write o104.2.1 o104.2.2 (jrem ((me 0) + 1) 5) 2 (me 4)).bind fun o123 => (if o123.1 = 0 then g_X5_beginBlock_184 (jrem ((me 0) + 1) 5) o123.2.1 o72.2.2.1 o123.2.2 me else (g_X0_write o123.2.1 o123.2.2 (jrem ((me 0) + 1) 5) 3 (me 5)).bind fun o142 => (if o142.1 = 0 then g_X5_beginBlock_184 (jrem ((me 0) + 1) 5) o142.2.1 o72.2.2.1 o142.2.2 me else (g_X0_write o142.2.1 o142.2.2 (jrem ((me 0) + 1) 5) 4 (me 2)).bind fun o161 => (if o161.1 = 0 then g_X5_beginBlock_184 (jrem ((me 0) + 1) 5) o161.2.1 o72.2.2.1 o161.2.2 me else (g_X0_write o161.2.1 o161.2.2 (jrem ((me 0) + 1) 5) 5 o63).bind fun o174 => (if o174.1 = 0 then g_X5_beginBlock_184 (jrem ((me 0) + 1) 5) o174.2.1 o72.2.2.1 o174.2.2 me else g_X5_beginBlock_185 (jrem ((me 0) + 1) 5) 1 o174.2.1 o72.2.2.1 o174.2.2 me)))))))
set_option maxHeartbeats 4000000 in
set_option maxRecDepth 100000 in
theorem c_X5_beginBlock (Z : GZ) (l : Launch) (a : Nat → Nat) (w : Nat → Int32) (er : Nat → Int32) (fl : Nat → Int32) (me : Nat → Int32) (p : Nat → Int32) (pr : Nat → Int32)  (o : (Int32 × (Nat → Int32) × (Nat → Int32) × (Nat → Int32) × (Nat → Int32))) (hg : g_X5_beginBlock w er fl me = some o) : Con Z l yX5_beginBlock cX5_beginBlock 5 (some .boolean) rm_X5_beginBlock [.ref (a 0)] (wP Z a w er fl me p pr) (some (.int o.1)) (wP Z a o.2.1 o.2.2.1 o.2.2.2.1 o.2.2.2.2 p pr) := by
  refine Con.of (by decide) (Nat.le_of_ble_eq_true rfl) ?_
  intro X hE0
  have hE : ∀ z, z = o → endsX X Z (some .boolean) (some (.int z.1)) (wP Z a z.2.1 z.2.2.1 z.2.2.2.1 z.2.2.2.2 p pr) := by
    rintro _ rfl; exact hE0
  have J208 : ∀ (x4 : Int32) (w : Nat → Int32) (er : Nat → Int32) (fl : Nat → Int32) (me : Nat → Int32), g_X5_beginBlock_208 x4 w er fl me = some o → AtK X Z rm_X5_beginBlock cX5_beginBlock RX5 5 0 0 (wP Z a w er fl me p pr) 208 [(4, .int x4)] [] := by
    intro x4 w er fl me hg
    unfold g_X5_beginBlock_208 at hg
    refine r_iload dX5_beginBlock_208 0 rfl ?_
    obtain ⟨hz210, hg⟩ := og hg
    exact r_bret (hE _ (Option.some.inj hg)) (Decidable.not_not.mp hz210) dX5_beginBlock_210
  have J185 : ∀ (x1 : Int32) (t0 : Int32) (w : Nat → Int32) (er : Nat → Int32) (fl : Nat → Int32) (me : Nat → Int32), g_X5_beginBlock_185 x1 t0 w er fl me = some o → AtK X Z rm_X5_beginBlock cX5_beginBlock RX5 5 0 0 (wP Z a w er fl me p pr) 185 [(0, .ref (a 0)), (1, .int x1)] [.int t0] := by
    intro x1 t0 w er fl me hg
    unfold g_X5_beginBlock_185 at hg
    refine r_istore (lv' := [(4, .int t0), (0, .ref (a 0)), (1, .int x1)]) dX5_beginBlock_185 (by decide) rfl ?_
    refine r_iload dX5_beginBlock_187 0 rfl ?_
    refine r_if_eq (tgt := 208) dX5_beginBlock_189 (by decide) (fun h189 => ?_) (fun h189 => ?_)
    · replace hg := (if_pos h189).symm.trans hg
      exact r_sub [0] rfl (J208 t0 w er fl me hg)
    · replace hg := (if_neg h189).symm.trans hg
      refine r_aload_n dX5_beginBlock_192 1 rfl ?_
      refine gf_X5_1 (v := .ref (a 4)) 0 rfl rfl qw_98 dX5_beginBlock_193 ?_
      refine r_iload_n dX5_beginBlock_196 2 rfl ?_
      refine pfN_X3_0 4 rfl (Nat.le_of_ble_eq_true rfl) qw_66 dX5_beginBlock_197 (ws' := wP Z a w er fl (upd me 0 x1) p pr) rfl ?_
      refine r_aload_n dX5_beginBlock_200 1 rfl ?_
      refine gf_X5_1 (v := .ref (a 4)) 0 rfl rfl qw_98 dX5_beginBlock_201 ?_
      refine r_iconst (v := 0) dX5_beginBlock_204 kic_0 ?_
      refine pfN_X3_1 4 rfl (Nat.le_of_ble_eq_true rfl) qw_69 dX5_beginBlock_205 (ws' := wP Z a w er fl (upd (upd me 0 x1) 1 0) p pr) rfl ?_
      exact r_sub [0] rfl (J208 t0 w er fl (upd (upd me 0 x1) 1 0) hg)
  have J184 : ∀ (x1 : Int32) (w : Nat → Int32) (er : Nat → Int32) (fl : Nat → Int32) (me : Nat → Int32), g_X5_beginBlock_184 x1 w er fl me = some o → AtK X Z rm_X5_beginBlock cX5_beginBlock RX5 5 0 0 (wP Z a w er fl me p pr) 184 [(0, .ref (a 0)), (1, .int x1)] [] := by
    intro x1 w er fl me hg
    unfold g_X5_beginBlock_184 at hg
    refine r_iconst (v := 0) dX5_beginBlock_184 kic_0 ?_
    exact r_sub [0, 1] rfl (J185 x1 0 w er fl me hg)
  unfold g_X5_beginBlock at hg
  show AtK X Z rm_X5_beginBlock cX5_beginBlock RX5 5 0 0 (wP Z a w er fl me p pr) 0 [(0, .ref (a 0))] []
  refine r_aload_n dX5_beginBlock_0 0 rfl ?_
  refine gf_X5_1 (v := .ref (a 4)) 0 rfl rfl qw_98 dX5_beginBlock_1 ?_
  refine gfN_X3_0 (v := .int (me 0)) 4 rfl rfl qw_66 dX5_beginBlock_4 ?_
  refine r_iconst (v := 1) dX5_beginBlock_7 kic_1 ?_
  refine r_iadd dX5_beginBlock_8 ?_
  refine r_iconst (v := 5) dX5_beginBlock_9 kic_5 ?_
  refine r_irem dX5_beginBlock_10 (by decide) ?_
  refine r_istore_n (lv' := [(1, .int (jrem ((me 0) + 1) 5)), (0, .ref (a 0))]) dX5_beginBlock_11 (by decide) rfl ?_
  refine r_aload_n dX5_beginBlock_12 1 rfl ?_
  refine gf_X5_0 (v := .ref (a 1)) 0 rfl rfl qw_96 dX5_beginBlock_13 ?_
  refine r_aload_n dX5_beginBlock_16 1 rfl ?_
  refine gf_X5_1 (v := .ref (a 4)) 0 rfl rfl qw_98 dX5_beginBlock_17 ?_
  refine gfN_X3_0 (v := .int (me 0)) 4 rfl rfl qw_66 dX5_beginBlock_20 ?_
  refine r_iconst (v := 0) dX5_beginBlock_23 kic_0 ?_
  obtain ⟨o24, e24, hg⟩ := ob hg
  refine r_callV (As := [.int (me 0), .int 0]) (rest := []) (ws' := wP Z a w er fl me p pr) 0 rfl rfl rfl (fun l => c_X0_read Z l (a 1) (a 2) (a 3) w er fl (me 0) 0 o24 e24) qw_268 mv_X0_read (xPk.idx [1, 2, 3] rfl rfl rfl rfl rfl) ⟨Nat.le_of_ble_eq_true rfl, Nat.le_of_ble_eq_true rfl⟩ ⟨rfl, rfl⟩ ⟨Nat.zero_le _, Nat.zero_le _⟩ rfl (Nat.le_of_ble_eq_true rfl) rfl dX5_beginBlock_24 ?_
  refine r_iconst (v := 1) dX5_beginBlock_27 kic_1 ?_
  refine r_iadd dX5_beginBlock_28 ?_
  refine r_sipush (v := 10000) dX5_beginBlock_29 ksp_10000 ?_
  refine r_irem dX5_beginBlock_32 (by decide) ?_
  refine r_istore_n (lv' := [(2, .int (jrem (o24 + 1) 10000)), (1, .int (jrem ((me 0) + 1) 5)), (0, .ref (a 0))]) dX5_beginBlock_33 (by decide) rfl ?_
  refine r_iload_n dX5_beginBlock_34 0 rfl ?_
  refine r_aload_n dX5_beginBlock_35 2 rfl ?_
  refine gf_X5_1 (v := .ref (a 4)) 0 rfl rfl qw_98 dX5_beginBlock_36 ?_
  refine gfN_X3_3 (v := .int (me 3)) 4 rfl rfl qw_75 dX5_beginBlock_39 ?_
  refine r_aload_n dX5_beginBlock_42 2 rfl ?_
  refine gf_X5_1 (v := .ref (a 4)) 0 rfl rfl qw_98 dX5_beginBlock_43 ?_
  refine gfN_X3_4 (v := .int (me 4)) 4 rfl rfl qw_79 dX5_beginBlock_46 ?_
  refine r_aload_n dX5_beginBlock_49 2 rfl ?_
  refine gf_X5_1 (v := .ref (a 4)) 0 rfl rfl qw_98 dX5_beginBlock_50 ?_
  refine gfN_X3_5 (v := .int (me 5)) 4 rfl rfl qw_81 dX5_beginBlock_53 ?_
  refine r_aload_n dX5_beginBlock_56 2 rfl ?_
  refine gf_X5_1 (v := .ref (a 4)) 0 rfl rfl qw_98 dX5_beginBlock_57 ?_
  refine gfN_X3_2 (v := .int (me 2)) 4 rfl rfl qw_72 dX5_beginBlock_60 ?_
  obtain ⟨o63, e63, hg⟩ := ob hg
  refine r_callSN (As := [.int (jrem (o24 + 1) 10000), .int (me 3), .int (me 4), .int (me 5), .int (me 2)]) (rest := []) (ws' := wP Z a w er fl me p pr) (fun l => c_X6_headerCheck Z l   (jrem (o24 + 1) 10000) (me 3) (me 4) (me 5) (me 2) o63 e63) qw_272 ms_X6_headerCheck xPk.none ⟨Nat.le_of_ble_eq_true rfl, Nat.le_of_ble_eq_true rfl⟩ ⟨rfl, rfl⟩ ⟨Nat.zero_le _, Nat.zero_le _⟩ rfl (Nat.le_of_ble_eq_true rfl) rfl dX5_beginBlock_63 ?_
  refine r_istore_n (lv' := [(3, .int o63), (2, .int (jrem (o24 + 1) 10000)), (1, .int (jrem ((me 0) + 1) 5)), (0, .ref (a 0))]) dX5_beginBlock_66 (by decide) rfl ?_
  refine r_aload_n dX5_beginBlock_67 3 rfl ?_
  refine gf_X5_0 (v := .ref (a 1)) 0 rfl rfl qw_96 dX5_beginBlock_68 ?_
  refine r_iload_n dX5_beginBlock_71 2 rfl ?_
  obtain ⟨o72, e72, hg⟩ := ob hg
  refine r_callV (As := [.int (jrem ((me 0) + 1) 5)]) (rest := []) (ws' := wP Z a o72.2.1 o72.2.2.1 o72.2.2.2 me p pr) 0 rfl rfl rfl (fun l => c_X0_erase Z l (a 1) (a 2) (a 3) w er fl (jrem ((me 0) + 1) 5) o72 e72) qw_276 mv_X0_erase (xPk.idx [1, 2, 3] rfl rfl rfl rfl rfl) ⟨Nat.le_of_ble_eq_true rfl, Nat.le_of_ble_eq_true rfl⟩ ⟨rfl, rfl⟩ ⟨Nat.zero_le _, Nat.zero_le _⟩ rfl (Nat.le_of_ble_eq_true rfl) rfl dX5_beginBlock_72 ?_
  refine r_if_eq (tgt := 184) dX5_beginBlock_75 (by decide) (fun h75 => ?_) (fun h75 => ?_)
  · replace hg := (if_pos h75).symm.trans hg
    exact r_sub [3, 2] rfl (J184 (jrem ((me 0) + 1) 5) o72.2.1 o72.2.2.1 o72.2.2.2 me hg)
  · replace hg := (if_neg h75).symm.trans hg
    refine r_aload_n dX5_beginBlock_78 3 rfl ?_
    refine gf_X5_0 (v := .ref (a 1)) 0 rfl rfl qw_96 dX5_beginBlock_79 ?_
    refine r_iload_n dX5_beginBlock_82 2 rfl ?_
    refine r_iconst (v := 0) dX5_beginBlock_83 kic_0 ?_
    refine r_iload_n dX5_beginBlock_84 1 rfl ?_
    obtain ⟨o85, e85, hg⟩ := ob hg
    refine r_callV (As := [.int (jrem ((me 0) + 1) 5), .int 0, .int (jrem (o24 + 1) 10000)]) (rest := []) (ws' := wP Z a o85.2.1 o72.2.2.1 o85.2.2 me p pr) 0 rfl rfl rfl (fun l => c_X0_write Z l (a 1) (a 2) (a 3) o72.2.1 o72.2.2.1 o72.2.2.2 (jrem ((me 0) + 1) 5) 0 (jrem (o24 + 1) 10000) o85 e85) qw_284 mv_X0_write (xPk.idx [1, 2, 3] rfl rfl rfl rfl rfl) ⟨Nat.le_of_ble_eq_true rfl, Nat.le_of_ble_eq_true rfl⟩ ⟨rfl, rfl⟩ ⟨Nat.zero_le _, Nat.zero_le _⟩ rfl (Nat.le_of_ble_eq_true rfl) rfl dX5_beginBlock_85 ?_
    refine r_if_eq (tgt := 184) dX5_beginBlock_88 (by decide) (fun h88 => ?_) (fun h88 => ?_)
    · replace hg := (if_pos h88).symm.trans hg
      exact r_sub [3, 2] rfl (J184 (jrem ((me 0) + 1) 5) o85.2.1 o72.2.2.1 o85.2.2 me hg)
    · replace hg := (if_neg h88).symm.trans hg
      refine r_aload_n dX5_beginBlock_91 3 rfl ?_
      refine gf_X5_0 (v := .ref (a 1)) 0 rfl rfl qw_96 dX5_beginBlock_92 ?_
      refine r_iload_n dX5_beginBlock_95 2 rfl ?_
      refine r_iconst (v := 1) dX5_beginBlock_96 kic_1 ?_
      refine r_aload_n dX5_beginBlock_97 3 rfl ?_
      refine gf_X5_1 (v := .ref (a 4)) 0 rfl rfl qw_98 dX5_beginBlock_98 ?_
      refine gfN_X3_3 (v := .int (me 3)) 4 rfl rfl qw_75 dX5_beginBlock_101 ?_
      obtain ⟨o104, e104, hg⟩ := ob hg
      refine r_callV (As := [.int (jrem ((me 0) + 1) 5), .int 1, .int (me 3)]) (rest := []) (ws' := wP Z a o104.2.1 o72.2.2.1 o104.2.2 me p pr) 0 rfl rfl rfl (fun l => c_X0_write Z l (a 1) (a 2) (a 3) o85.2.1 o72.2.2.1 o85.2.2 (jrem ((me 0) + 1) 5) 1 (me 3) o104 e104) qw_284 mv_X0_write (xPk.idx [1, 2, 3] rfl rfl rfl rfl rfl) ⟨Nat.le_of_ble_eq_true rfl, Nat.le_of_ble_eq_true rfl⟩ ⟨rfl, rfl⟩ ⟨Nat.zero_le _, Nat.zero_le _⟩ rfl (Nat.le_of_ble_eq_true rfl) rfl dX5_beginBlock_104 ?_
      refine r_if_eq (tgt := 184) dX5_beginBlock_107 (by decide) (fun h107 => ?_) (fun h107 => ?_)
      · replace hg := (if_pos h107).symm.trans hg
        exact r_sub [3, 2] rfl (J184 (jrem ((me 0) + 1) 5) o104.2.1 o72.2.2.1 o104.2.2 me hg)
      · replace hg := (if_neg h107).symm.trans hg
        refine r_aload_n dX5_beginBlock_110 3 rfl ?_
        refine gf_X5_0 (v := .ref (a 1)) 0 rfl rfl qw_96 dX5_beginBlock_111 ?_
        refine r_iload_n dX5_beginBlock_114 2 rfl ?_
        refine r_iconst (v := 2) dX5_beginBlock_115 kic_2 ?_
        refine r_aload_n dX5_beginBlock_116 3 rfl ?_
        refine gf_X5_1 (v := .ref (a 4)) 0 rfl rfl qw_98 dX5_beginBlock_117 ?_
        refine gfN_X3_4 (v := .int (me 4)) 4 rfl rfl qw_79 dX5_beginBlock_120 ?_
        obtain ⟨o123, e123, hg⟩ := ob hg
        refine r_callV (As := [.int (jrem ((me 0) + 1) 5), .int 2, .int (me 4)]) (rest := []) (ws' := wP Z a o123.2.1 o72.2.2.1 o123.2.2 me p pr) 0 rfl rfl rfl (fun l => c_X0_write Z l (a 1) (a 2) (a 3) o104.2.1 o72.2.2.1 o104.2.2 (jrem ((me 0) + 1) 5) 2 (me 4) o123 e123) qw_284 mv_X0_write (xPk.idx [1, 2, 3] rfl rfl rfl rfl rfl) ⟨Nat.le_of_ble_eq_true rfl, Nat.le_of_ble_eq_true rfl⟩ ⟨rfl, rfl⟩ ⟨Nat.zero_le _, Nat.zero_le _⟩ rfl (Nat.le_of_ble_eq_true rfl) rfl dX5_beginBlock_123 ?_
        refine r_if_eq (tgt := 184) dX5_beginBlock_126 (by decide) (fun h126 => ?_) (fun h126 => ?_)
        · replace hg := (if_pos h126).symm.trans hg
          exact r_sub [3, 2] rfl (J184 (jrem ((me 0) + 1) 5) o123.2.1 o72.2.2.1 o123.2.2 me hg)
        · replace hg := (if_neg h126).symm.trans hg
          refine r_aload_n dX5_beginBlock_129 3 rfl ?_
          refine gf_X5_0 (v := .ref (a 1)) 0 rfl rfl qw_96 dX5_beginBlock_130 ?_
          refine r_iload_n dX5_beginBlock_133 2 rfl ?_
          refine r_iconst (v := 3) dX5_beginBlock_134 kic_3 ?_
          refine r_aload_n dX5_beginBlock_135 3 rfl ?_
          refine gf_X5_1 (v := .ref (a 4)) 0 rfl rfl qw_98 dX5_beginBlock_136 ?_
          refine gfN_X3_5 (v := .int (me 5)) 4 rfl rfl qw_81 dX5_beginBlock_139 ?_
          obtain ⟨o142, e142, hg⟩ := ob hg
          refine r_callV (As := [.int (jrem ((me 0) + 1) 5), .int 3, .int (me 5)]) (rest := []) (ws' := wP Z a o142.2.1 o72.2.2.1 o142.2.2 me p pr) 0 rfl rfl rfl (fun l => c_X0_write Z l (a 1) (a 2) (a 3) o123.2.1 o72.2.2.1 o123.2.2 (jrem ((me 0) + 1) 5) 3 (me 5) o142 e142) qw_284 mv_X0_write (xPk.idx [1, 2, 3] rfl rfl rfl rfl rfl) ⟨Nat.le_of_ble_eq_true rfl, Nat.le_of_ble_eq_true rfl⟩ ⟨rfl, rfl⟩ ⟨Nat.zero_le _, Nat.zero_le _⟩ rfl (Nat.le_of_ble_eq_true rfl) rfl dX5_beginBlock_142 ?_
          refine r_if_eq (tgt := 184) dX5_beginBlock_145 (by decide) (fun h145 => ?_) (fun h145 => ?_)
          · replace hg := (if_pos h145).symm.trans hg
            exact r_sub [3, 2] rfl (J184 (jrem ((me 0) + 1) 5) o142.2.1 o72.2.2.1 o142.2.2 me hg)
          · replace hg := (if_neg h145).symm.trans hg
            refine r_aload_n dX5_beginBlock_148 3 rfl ?_
            refine gf_X5_0 (v := .ref (a 1)) 0 rfl rfl qw_96 dX5_beginBlock_149 ?_
            refine r_iload_n dX5_beginBlock_152 2 rfl ?_
            refine r_iconst (v := 4) dX5_beginBlock_153 kic_4 ?_
            refine r_aload_n dX5_beginBlock_154 3 rfl ?_
            refine gf_X5_1 (v := .ref (a 4)) 0 rfl rfl qw_98 dX5_beginBlock_155 ?_
            refine gfN_X3_2 (v := .int (me 2)) 4 rfl rfl qw_72 dX5_beginBlock_158 ?_
            obtain ⟨o161, e161, hg⟩ := ob hg
            refine r_callV (As := [.int (jrem ((me 0) + 1) 5), .int 4, .int (me 2)]) (rest := []) (ws' := wP Z a o161.2.1 o72.2.2.1 o161.2.2 me p pr) 0 rfl rfl rfl (fun l => c_X0_write Z l (a 1) (a 2) (a 3) o142.2.1 o72.2.2.1 o142.2.2 (jrem ((me 0) + 1) 5) 4 (me 2) o161 e161) qw_284 mv_X0_write (xPk.idx [1, 2, 3] rfl rfl rfl rfl rfl) ⟨Nat.le_of_ble_eq_true rfl, Nat.le_of_ble_eq_true rfl⟩ ⟨rfl, rfl⟩ ⟨Nat.zero_le _, Nat.zero_le _⟩ rfl (Nat.le_of_ble_eq_true rfl) rfl dX5_beginBlock_161 ?_
            refine r_if_eq (tgt := 184) dX5_beginBlock_164 (by decide) (fun h164 => ?_) (fun h164 => ?_)
            · replace hg := (if_pos h164).symm.trans hg
              exact r_sub [3, 2] rfl (J184 (jrem ((me 0) + 1) 5) o161.2.1 o72.2.2.1 o161.2.2 me hg)
            · replace hg := (if_neg h164).symm.trans hg
              refine r_aload_n dX5_beginBlock_167 3 rfl ?_
              refine gf_X5_0 (v := .ref (a 1)) 0 rfl rfl qw_96 dX5_beginBlock_168 ?_
              refine r_iload_n dX5_beginBlock_171 2 rfl ?_
              refine r_iconst (v := 5) dX5_beginBlock_172 kic_5 ?_
              refine r_iload_n dX5_beginBlock_173 0 rfl ?_
              obtain ⟨o174, e174, hg⟩ := ob hg
              refine r_callV (As := [.int (jrem ((me 0) + 1) 5), .int 5, .int o63]) (rest := []) (ws' := wP Z a o174.2.1 o72.2.2.1 o174.2.2 me p pr) 0 rfl rfl rfl (fun l => c_X0_write Z l (a 1) (a 2) (a 3) o161.2.1 o72.2.2.1 o161.2.2 (jrem ((me 0) + 1) 5) 5 o63 o174 e174) qw_284 mv_X0_write (xPk.idx [1, 2, 3] rfl rfl rfl rfl rfl) ⟨Nat.le_of_ble_eq_true rfl, Nat.le_of_ble_eq_true rfl⟩ ⟨rfl, rfl⟩ ⟨Nat.zero_le _, Nat.zero_le _⟩ rfl (Nat.le_of_ble_eq_true rfl) rfl dX5_beginBlock_174 ?_
              refine r_if_eq (tgt := 184) dX5_beginBlock_177 (by decide) (fun h177 => ?_) (fun h177 => ?_)
              · replace hg := (if_pos h177).symm.trans hg
                exact r_sub [3, 2] rfl (J184 (jrem ((me 0) + 1) 5) o174.2.1 o72.2.2.1 o174.2.2 me hg)
              · replace hg := (if_neg h177).symm.trans hg
                refine r_iconst (v := 1) dX5_beginBlock_180 kic_1 ?_
                refine r_goto (tgt := 185) dX5_beginBlock_181 (by decide) ?_
                exact r_sub [3, 2] rfl (J185 (jrem ((me 0) + 1) 5) 1 o174.2.1 o72.2.2.1 o174.2.2 me hg)

-- TicketJournal$Printer.fillPlace(III)Z
abbrev rm_X5_fillPlace : Room := { frames := 2, cells := 0, slots := 0, locals := 44 }
def g_X5_fillPlace_112 (me : Nat → Int32)  (w : Nat → Int32) (fl : Nat → Int32) : Option (Int32 × (Nat → Int32) × (Nat → Int32)) :=
  some (0, w, fl)
def g_X5_fillPlace (w : Nat → Int32) (fl : Nat → Int32) (me : Nat → Int32) (n1 : Int32) (n2 : Int32) (n3 : Int32) : Option (Int32 × (Nat → Int32) × (Nat → Int32)) :=
  (g_X0_read w (me 0) 0).bind fun o33 => (g_X6_recordCheck n1 n2 n3 o33).bind fun o36 => (g_X0_write w fl (me 0) (6 + ((me 1) * 4)) n1).bind fun o50 => (if o50.1 = 0 then g_X5_fillPlace_112 me o50.2.1 o50.2.2 else (g_X0_write o50.2.1 o50.2.2 (me 0) ((6 + ((me 1) * 4)) + 1) n2).bind fun o67 => (if o67.1 = 0 then g_X5_fillPlace_112 me o67.2.1 o67.2.2 else (g_X0_write o67.2.1 o67.2.2 (me 0) ((6 + ((me 1) * 4)) + 2) n3).bind fun o84 => (if o84.1 = 0 then g_X5_fillPlace_112 me o84.2.1 o84.2.2 else (g_X0_write o84.2.1 o84.2.2 (me 0) ((6 + ((me 1) * 4)) + 3) o36).bind fun o102 => (if o102.1 = 0 then g_X5_fillPlace_112 me o102.2.1 o102.2.2 else some (1, o102.2.1, o102.2.2)))))
set_option maxHeartbeats 4000000 in
set_option maxRecDepth 100000 in
theorem c_X5_fillPlace (Z : GZ) (l : Launch) (a : Nat → Nat) (w : Nat → Int32) (er : Nat → Int32) (fl : Nat → Int32) (me : Nat → Int32) (p : Nat → Int32) (pr : Nat → Int32) (n1 : Int32) (n2 : Int32) (n3 : Int32) (o : (Int32 × (Nat → Int32) × (Nat → Int32))) (hg : g_X5_fillPlace w fl me n1 n2 n3 = some o) : Con Z l yX5_fillPlace cX5_fillPlace 7 (some .boolean) rm_X5_fillPlace [.ref (a 0), .int n1, .int n2, .int n3] (wP Z a w er fl me p pr) (some (.int o.1)) (wP Z a o.2.1 er o.2.2 me p pr) := by
  refine Con.of (by decide) (Nat.le_of_ble_eq_true rfl) ?_
  intro X hE0
  have hE : ∀ z, z = o → endsX X Z (some .boolean) (some (.int z.1)) (wP Z a z.2.1 er z.2.2 me p pr) := by
    rintro _ rfl; exact hE0
  have J112 : ∀ (w : Nat → Int32) (fl : Nat → Int32), g_X5_fillPlace_112 me w fl = some o → AtK X Z rm_X5_fillPlace cX5_fillPlace RX5 7 0 0 (wP Z a w er fl me p pr) 112 [] [] := by
    intro w fl hg
    unfold g_X5_fillPlace_112 at hg
    refine r_iconst (v := 0) dX5_fillPlace_112 kic_0 ?_
    exact r_bret (hE _ (Option.some.inj hg)) (by decide) dX5_fillPlace_113
  unfold g_X5_fillPlace at hg
  show AtK X Z rm_X5_fillPlace cX5_fillPlace RX5 7 0 0 (wP Z a w er fl me p pr) 0 [(0, .ref (a 0)), (1, .int n1), (2, .int n2), (3, .int n3)] []
  refine r_aload_n dX5_fillPlace_0 0 rfl ?_
  refine gf_X5_1 (v := .ref (a 4)) 0 rfl rfl qw_98 dX5_fillPlace_1 ?_
  refine gfN_X3_0 (v := .int (me 0)) 4 rfl rfl qw_66 dX5_fillPlace_4 ?_
  refine r_istore (lv' := [(4, .int (me 0)), (0, .ref (a 0)), (1, .int n1), (2, .int n2), (3, .int n3)]) dX5_fillPlace_7 (by decide) rfl ?_
  refine r_bipush (v := 6) dX5_fillPlace_9 kbp_6 ?_
  refine r_aload_n dX5_fillPlace_11 1 rfl ?_
  refine gf_X5_1 (v := .ref (a 4)) 0 rfl rfl qw_98 dX5_fillPlace_12 ?_
  refine gfN_X3_1 (v := .int (me 1)) 4 rfl rfl qw_69 dX5_fillPlace_15 ?_
  refine r_iconst (v := 4) dX5_fillPlace_18 kic_4 ?_
  refine r_imul dX5_fillPlace_19 ?_
  refine r_iadd dX5_fillPlace_20 ?_
  refine r_istore (lv' := [(5, .int (6 + ((me 1) * 4))), (4, .int (me 0)), (0, .ref (a 0)), (1, .int n1), (2, .int n2), (3, .int n3)]) dX5_fillPlace_21 (by decide) rfl ?_
  refine r_iload_n dX5_fillPlace_23 3 rfl ?_
  refine r_iload_n dX5_fillPlace_24 4 rfl ?_
  refine r_iload_n dX5_fillPlace_25 5 rfl ?_
  refine r_aload_n dX5_fillPlace_26 2 rfl ?_
  refine gf_X5_0 (v := .ref (a 1)) 0 rfl rfl qw_96 dX5_fillPlace_27 ?_
  refine r_iload dX5_fillPlace_30 1 rfl ?_
  refine r_iconst (v := 0) dX5_fillPlace_32 kic_0 ?_
  obtain ⟨o33, e33, hg⟩ := ob hg
  refine r_callV (As := [.int (me 0), .int 0]) (rest := [.int n3, .int n2, .int n1]) (ws' := wP Z a w er fl me p pr) 0 rfl rfl rfl (fun l => c_X0_read Z l (a 1) (a 2) (a 3) w er fl (me 0) 0 o33 e33) qw_268 mv_X0_read (xPk.idx [1, 2, 3] rfl rfl rfl rfl rfl) ⟨Nat.le_of_ble_eq_true rfl, Nat.le_of_ble_eq_true rfl⟩ ⟨rfl, rfl⟩ ⟨Nat.zero_le _, Nat.zero_le _⟩ rfl (Nat.le_of_ble_eq_true rfl) rfl dX5_fillPlace_33 ?_
  obtain ⟨o36, e36, hg⟩ := ob hg
  refine r_callSN (As := [.int n1, .int n2, .int n3, .int o33]) (rest := []) (ws' := wP Z a w er fl me p pr) (fun l => c_X6_recordCheck Z l   n1 n2 n3 o33 o36 e36) qw_292 ms_X6_recordCheck xPk.none ⟨Nat.le_of_ble_eq_true rfl, Nat.le_of_ble_eq_true rfl⟩ ⟨rfl, rfl⟩ ⟨Nat.zero_le _, Nat.zero_le _⟩ rfl (Nat.le_of_ble_eq_true rfl) rfl dX5_fillPlace_36 ?_
  refine r_istore (lv' := [(6, .int o36), (5, .int (6 + ((me 1) * 4))), (4, .int (me 0)), (0, .ref (a 0)), (1, .int n1), (2, .int n2), (3, .int n3)]) dX5_fillPlace_39 (by decide) rfl ?_
  refine r_aload_n dX5_fillPlace_41 3 rfl ?_
  refine gf_X5_0 (v := .ref (a 1)) 0 rfl rfl qw_96 dX5_fillPlace_42 ?_
  refine r_iload dX5_fillPlace_45 2 rfl ?_
  refine r_iload dX5_fillPlace_47 1 rfl ?_
  refine r_iload_n dX5_fillPlace_49 4 rfl ?_
  obtain ⟨o50, e50, hg⟩ := ob hg
  refine r_callV (As := [.int (me 0), .int (6 + ((me 1) * 4)), .int n1]) (rest := []) (ws' := wP Z a o50.2.1 er o50.2.2 me p pr) 0 rfl rfl rfl (fun l => c_X0_write Z l (a 1) (a 2) (a 3) w er fl (me 0) (6 + ((me 1) * 4)) n1 o50 e50) qw_284 mv_X0_write (xPk.idx [1, 2, 3] rfl rfl rfl rfl rfl) ⟨Nat.le_of_ble_eq_true rfl, Nat.le_of_ble_eq_true rfl⟩ ⟨rfl, rfl⟩ ⟨Nat.zero_le _, Nat.zero_le _⟩ rfl (Nat.le_of_ble_eq_true rfl) rfl dX5_fillPlace_50 ?_
  refine r_if_eq (tgt := 112) dX5_fillPlace_53 (by decide) (fun h53 => ?_) (fun h53 => ?_)
  · replace hg := (if_pos h53).symm.trans hg
    exact r_sub [] rfl (J112 o50.2.1 o50.2.2 hg)
  · replace hg := (if_neg h53).symm.trans hg
    refine r_aload_n dX5_fillPlace_56 3 rfl ?_
    refine gf_X5_0 (v := .ref (a 1)) 0 rfl rfl qw_96 dX5_fillPlace_57 ?_
    refine r_iload dX5_fillPlace_60 2 rfl ?_
    refine r_iload dX5_fillPlace_62 1 rfl ?_
    refine r_iconst (v := 1) dX5_fillPlace_64 kic_1 ?_
    refine r_iadd dX5_fillPlace_65 ?_
    refine r_iload_n dX5_fillPlace_66 5 rfl ?_
    obtain ⟨o67, e67, hg⟩ := ob hg
    refine r_callV (As := [.int (me 0), .int ((6 + ((me 1) * 4)) + 1), .int n2]) (rest := []) (ws' := wP Z a o67.2.1 er o67.2.2 me p pr) 0 rfl rfl rfl (fun l => c_X0_write Z l (a 1) (a 2) (a 3) o50.2.1 er o50.2.2 (me 0) ((6 + ((me 1) * 4)) + 1) n2 o67 e67) qw_284 mv_X0_write (xPk.idx [1, 2, 3] rfl rfl rfl rfl rfl) ⟨Nat.le_of_ble_eq_true rfl, Nat.le_of_ble_eq_true rfl⟩ ⟨rfl, rfl⟩ ⟨Nat.zero_le _, Nat.zero_le _⟩ rfl (Nat.le_of_ble_eq_true rfl) rfl dX5_fillPlace_67 ?_
    refine r_if_eq (tgt := 112) dX5_fillPlace_70 (by decide) (fun h70 => ?_) (fun h70 => ?_)
    · replace hg := (if_pos h70).symm.trans hg
      exact r_sub [] rfl (J112 o67.2.1 o67.2.2 hg)
    · replace hg := (if_neg h70).symm.trans hg
      refine r_aload_n dX5_fillPlace_73 3 rfl ?_
      refine gf_X5_0 (v := .ref (a 1)) 0 rfl rfl qw_96 dX5_fillPlace_74 ?_
      refine r_iload dX5_fillPlace_77 2 rfl ?_
      refine r_iload dX5_fillPlace_79 1 rfl ?_
      refine r_iconst (v := 2) dX5_fillPlace_81 kic_2 ?_
      refine r_iadd dX5_fillPlace_82 ?_
      refine r_iload_n dX5_fillPlace_83 6 rfl ?_
      obtain ⟨o84, e84, hg⟩ := ob hg
      refine r_callV (As := [.int (me 0), .int ((6 + ((me 1) * 4)) + 2), .int n3]) (rest := []) (ws' := wP Z a o84.2.1 er o84.2.2 me p pr) 0 rfl rfl rfl (fun l => c_X0_write Z l (a 1) (a 2) (a 3) o67.2.1 er o67.2.2 (me 0) ((6 + ((me 1) * 4)) + 2) n3 o84 e84) qw_284 mv_X0_write (xPk.idx [1, 2, 3] rfl rfl rfl rfl rfl) ⟨Nat.le_of_ble_eq_true rfl, Nat.le_of_ble_eq_true rfl⟩ ⟨rfl, rfl⟩ ⟨Nat.zero_le _, Nat.zero_le _⟩ rfl (Nat.le_of_ble_eq_true rfl) rfl dX5_fillPlace_84 ?_
      refine r_if_eq (tgt := 112) dX5_fillPlace_87 (by decide) (fun h87 => ?_) (fun h87 => ?_)
      · replace hg := (if_pos h87).symm.trans hg
        exact r_sub [] rfl (J112 o84.2.1 o84.2.2 hg)
      · replace hg := (if_neg h87).symm.trans hg
        refine r_aload_n dX5_fillPlace_90 3 rfl ?_
        refine gf_X5_0 (v := .ref (a 1)) 0 rfl rfl qw_96 dX5_fillPlace_91 ?_
        refine r_iload dX5_fillPlace_94 2 rfl ?_
        refine r_iload dX5_fillPlace_96 1 rfl ?_
        refine r_iconst (v := 3) dX5_fillPlace_98 kic_3 ?_
        refine r_iadd dX5_fillPlace_99 ?_
        refine r_iload dX5_fillPlace_100 0 rfl ?_
        obtain ⟨o102, e102, hg⟩ := ob hg
        refine r_callV (As := [.int (me 0), .int ((6 + ((me 1) * 4)) + 3), .int o36]) (rest := []) (ws' := wP Z a o102.2.1 er o102.2.2 me p pr) 0 rfl rfl rfl (fun l => c_X0_write Z l (a 1) (a 2) (a 3) o84.2.1 er o84.2.2 (me 0) ((6 + ((me 1) * 4)) + 3) o36 o102 e102) qw_284 mv_X0_write (xPk.idx [1, 2, 3] rfl rfl rfl rfl rfl) ⟨Nat.le_of_ble_eq_true rfl, Nat.le_of_ble_eq_true rfl⟩ ⟨rfl, rfl⟩ ⟨Nat.zero_le _, Nat.zero_le _⟩ rfl (Nat.le_of_ble_eq_true rfl) rfl dX5_fillPlace_102 ?_
        refine r_if_eq (tgt := 112) dX5_fillPlace_105 (by decide) (fun h105 => ?_) (fun h105 => ?_)
        · replace hg := (if_pos h105).symm.trans hg
          exact r_sub [] rfl (J112 o102.2.1 o102.2.2 hg)
        · replace hg := (if_neg h105).symm.trans hg
          refine r_iconst (v := 1) dX5_fillPlace_108 kic_1 ?_
          refine r_goto (tgt := 113) dX5_fillPlace_109 (by decide) ?_
          exact r_bret (hE _ (Option.some.inj hg)) (by decide) dX5_fillPlace_113

-- TicketJournal$Printer.writeRecord(III)Z
abbrev rm_X5_writeRecord : Room := { frames := 3, cells := 0, slots := 0, locals := 70 }
def g_X5_writeRecord_56   (w : Nat → Int32) (er : Nat → Int32) (fl : Nat → Int32) (me : Nat → Int32) (pr : Nat → Int32) : Option (Int32 × (Nat → Int32) × (Nat → Int32) × (Nat → Int32) × (Nat → Int32) × (Nat → Int32)) :=
  (g_X5_losePower me pr).bind fun o57 => some (0, w, er, fl, o57.1, o57.2)
def g_X5_writeRecord_38   (x2 : Int32) (x3 : Int32) (x4 : Int32) (t0 : Int32) (w : Nat → Int32) (er : Nat → Int32) (fl : Nat → Int32) (me : Nat → Int32) (pr : Nat → Int32) : Option (Int32 × (Nat → Int32) × (Nat → Int32) × (Nat → Int32) × (Nat → Int32) × (Nat → Int32)) :=
  (if t0 = 0 then g_X5_writeRecord_56 w er fl me pr else (g_X5_fillPlace w fl me x4 x2 x3).bind fun o50 => (if o50.1 = 0 then g_X5_writeRecord_56 o50.2.1 er o50.2.2 me pr else (g_X3_learn (upd me 1 ((me 1) + 1)) x4 x3).bind fun o82 => some (1, o50.2.1, er, o50.2.2, o82, pr)))
def g_X5_writeRecord_33   (x2 : Int32) (x3 : Int32) (x4 : Int32) (w : Nat → Int32) (er : Nat → Int32) (fl : Nat → Int32) (me : Nat → Int32) (pr : Nat → Int32) : Option (Int32 × (Nat → Int32) × (Nat → Int32) × (Nat → Int32) × (Nat → Int32) × (Nat → Int32)) :=
  g_X5_writeRecord_38 x2 x3 x4 1 w er fl me pr
def g_X5_writeRecord (w : Nat → Int32) (er : Nat → Int32) (fl : Nat → Int32) (me : Nat → Int32) (pr : Nat → Int32) (n1 : Int32) (n2 : Int32) (n3 : Int32) : Option (Int32 × (Nat → Int32) × (Nat → Int32) × (Nat → Int32) × (Nat → Int32) × (Nat → Int32)) :=
  (if (me 1) < 4 then g_X5_writeRecord_33 n2 n3 ((10000 * n1) + (me 2)) w er fl me pr else (g_X5_beginBlock w er fl me).bind fun o27 => (if o27.1 = 0 then g_X5_writeRecord_38 n2 n3 ((10000 * n1) + (me 2)) 0 o27.2.1 o27.2.2.1 o27.2.2.2.1 o27.2.2.2.2 pr else g_X5_writeRecord_33 n2 n3 ((10000 * n1) + (me 2)) o27.2.1 o27.2.2.1 o27.2.2.2.1 o27.2.2.2.2 pr))
set_option maxHeartbeats 4000000 in
set_option maxRecDepth 100000 in
theorem c_X5_writeRecord (Z : GZ) (l : Launch) (a : Nat → Nat) (w : Nat → Int32) (er : Nat → Int32) (fl : Nat → Int32) (me : Nat → Int32) (p : Nat → Int32) (pr : Nat → Int32) (n1 : Int32) (n2 : Int32) (n3 : Int32) (o : (Int32 × (Nat → Int32) × (Nat → Int32) × (Nat → Int32) × (Nat → Int32) × (Nat → Int32))) (hg : g_X5_writeRecord w er fl me pr n1 n2 n3 = some o) : Con Z l yX5_writeRecord cX5_writeRecord 6 (some .boolean) rm_X5_writeRecord [.ref (a 0), .int n1, .int n2, .int n3] (wP Z a w er fl me p pr) (some (.int o.1)) (wP Z a o.2.1 o.2.2.1 o.2.2.2.1 o.2.2.2.2.1 p o.2.2.2.2.2) := by
  refine Con.of (by decide) (Nat.le_of_ble_eq_true rfl) ?_
  intro X hE0
  have hE : ∀ z, z = o → endsX X Z (some .boolean) (some (.int z.1)) (wP Z a z.2.1 z.2.2.1 z.2.2.2.1 z.2.2.2.2.1 p z.2.2.2.2.2) := by
    rintro _ rfl; exact hE0
  have J56 : ∀ (w : Nat → Int32) (er : Nat → Int32) (fl : Nat → Int32) (me : Nat → Int32) (pr : Nat → Int32), g_X5_writeRecord_56 w er fl me pr = some o → AtK X Z rm_X5_writeRecord cX5_writeRecord RX5 6 0 0 (wP Z a w er fl me p pr) 56 [(0, .ref (a 0))] [] := by
    intro w er fl me pr hg
    unfold g_X5_writeRecord_56 at hg
    refine r_aload_n dX5_writeRecord_56 0 rfl ?_
    obtain ⟨o57, e57, hg⟩ := ob hg
    refine r_callV (As := []) (rest := []) (ws' := wP Z a w er fl o57.1 p o57.2) 0 rfl rfl rfl (fun l => c_X5_losePower Z l a w er fl me p pr  o57 e57) qw_295 mv_X5_losePower (xPk.all rfl) ⟨Nat.le_of_ble_eq_true rfl, Nat.le_of_ble_eq_true rfl⟩ ⟨rfl, rfl⟩ ⟨Nat.zero_le _, Nat.zero_le _⟩ rfl (Nat.le_of_ble_eq_true rfl) rfl dX5_writeRecord_57 ?_
    refine r_iconst (v := 0) dX5_writeRecord_60 kic_0 ?_
    exact r_bret (hE _ (Option.some.inj hg)) (by decide) dX5_writeRecord_61
  have J38 : ∀ (x2 : Int32) (x3 : Int32) (x4 : Int32) (t0 : Int32) (w : Nat → Int32) (er : Nat → Int32) (fl : Nat → Int32) (me : Nat → Int32) (pr : Nat → Int32), g_X5_writeRecord_38 x2 x3 x4 t0 w er fl me pr = some o → AtK X Z rm_X5_writeRecord cX5_writeRecord RX5 6 0 0 (wP Z a w er fl me p pr) 38 [(0, .ref (a 0)), (2, .int x2), (3, .int x3), (4, .int x4)] [.int t0] := by
    intro x2 x3 x4 t0 w er fl me pr hg
    unfold g_X5_writeRecord_38 at hg
    refine r_istore (lv' := [(5, .int t0), (0, .ref (a 0)), (2, .int x2), (3, .int x3), (4, .int x4)]) dX5_writeRecord_38 (by decide) rfl ?_
    refine r_iload dX5_writeRecord_40 0 rfl ?_
    refine r_if_eq (tgt := 56) dX5_writeRecord_42 (by decide) (fun h42 => ?_) (fun h42 => ?_)
    · replace hg := (if_pos h42).symm.trans hg
      exact r_sub [1] rfl (J56 w er fl me pr hg)
    · replace hg := (if_neg h42).symm.trans hg
      refine r_aload_n dX5_writeRecord_45 1 rfl ?_
      refine r_iload dX5_writeRecord_46 4 rfl ?_
      refine r_iload_n dX5_writeRecord_48 2 rfl ?_
      refine r_iload_n dX5_writeRecord_49 3 rfl ?_
      obtain ⟨o50, e50, hg⟩ := ob hg
      refine r_callV (As := [.int x4, .int x2, .int x3]) (rest := []) (ws' := wP Z a o50.2.1 er o50.2.2 me p pr) 0 rfl rfl rfl (fun l => c_X5_fillPlace Z l a w er fl me p pr x4 x2 x3 o50 e50) qw_288 mv_X5_fillPlace (xPk.all rfl) ⟨Nat.le_of_ble_eq_true rfl, Nat.le_of_ble_eq_true rfl⟩ ⟨rfl, rfl⟩ ⟨Nat.zero_le _, Nat.zero_le _⟩ rfl (Nat.le_of_ble_eq_true rfl) rfl dX5_writeRecord_50 ?_
      refine r_if_ne (tgt := 62) dX5_writeRecord_53 (by decide) (fun h53 => ?_) (fun h53 => ?_)
      · replace hg := (if_neg h53).symm.trans hg
        refine r_aload_n dX5_writeRecord_62 1 rfl ?_
        refine gf_X5_1 (v := .ref (a 4)) 0 rfl rfl qw_98 dX5_writeRecord_63 ?_
        refine r_dup dX5_writeRecord_66 rfl ?_
        refine gfN_X3_1 (v := .int (me 1)) 4 rfl rfl qw_69 dX5_writeRecord_67 ?_
        refine r_iconst (v := 1) dX5_writeRecord_70 kic_1 ?_
        refine r_iadd dX5_writeRecord_71 ?_
        refine pfN_X3_1 4 rfl (Nat.le_of_ble_eq_true rfl) qw_69 dX5_writeRecord_72 (ws' := wP Z a o50.2.1 er o50.2.2 (upd me 1 ((me 1) + 1)) p pr) rfl ?_
        refine r_aload_n dX5_writeRecord_75 1 rfl ?_
        refine gf_X5_1 (v := .ref (a 4)) 0 rfl rfl qw_98 dX5_writeRecord_76 ?_
        refine r_iload dX5_writeRecord_79 4 rfl ?_
        refine r_iload_n dX5_writeRecord_81 3 rfl ?_
        obtain ⟨o82, e82, hg⟩ := ob hg
        refine r_callV (As := [.int x4, .int x3]) (rest := []) (ws' := wP Z a o50.2.1 er o50.2.2 o82 p pr) 0 rfl rfl rfl (fun l => c_X3_learn Z l (a 4) (upd me 1 ((me 1) + 1)) x4 x3 o82 e82) qw_303 mv_X3_learn (xPk.idx [4] rfl rfl rfl rfl rfl) ⟨Nat.le_of_ble_eq_true rfl, Nat.le_of_ble_eq_true rfl⟩ ⟨rfl, rfl⟩ ⟨Nat.zero_le _, Nat.zero_le _⟩ rfl (Nat.le_of_ble_eq_true rfl) rfl dX5_writeRecord_82 ?_
        refine r_iconst (v := 1) dX5_writeRecord_85 kic_1 ?_
        exact r_bret (hE _ (Option.some.inj hg)) (by decide) dX5_writeRecord_86
      · replace hg := (if_pos h53).symm.trans hg
        exact r_sub [1] rfl (J56 o50.2.1 er o50.2.2 me pr hg)
  have J33 : ∀ (x2 : Int32) (x3 : Int32) (x4 : Int32) (w : Nat → Int32) (er : Nat → Int32) (fl : Nat → Int32) (me : Nat → Int32) (pr : Nat → Int32), g_X5_writeRecord_33 x2 x3 x4 w er fl me pr = some o → AtK X Z rm_X5_writeRecord cX5_writeRecord RX5 6 0 0 (wP Z a w er fl me p pr) 33 [(0, .ref (a 0)), (2, .int x2), (3, .int x3), (4, .int x4)] [] := by
    intro x2 x3 x4 w er fl me pr hg
    unfold g_X5_writeRecord_33 at hg
    refine r_iconst (v := 1) dX5_writeRecord_33 kic_1 ?_
    refine r_goto (tgt := 38) dX5_writeRecord_34 (by decide) ?_
    exact r_sub [0, 1, 2, 3] rfl (J38 x2 x3 x4 1 w er fl me pr hg)
  unfold g_X5_writeRecord at hg
  show AtK X Z rm_X5_writeRecord cX5_writeRecord RX5 6 0 0 (wP Z a w er fl me p pr) 0 [(0, .ref (a 0)), (1, .int n1), (2, .int n2), (3, .int n3)] []
  refine r_sipush (v := 10000) dX5_writeRecord_0 ksp_10000 ?_
  refine r_iload_n dX5_writeRecord_3 1 rfl ?_
  refine r_imul dX5_writeRecord_4 ?_
  refine r_aload_n dX5_writeRecord_5 0 rfl ?_
  refine gf_X5_1 (v := .ref (a 4)) 0 rfl rfl qw_98 dX5_writeRecord_6 ?_
  refine gfN_X3_2 (v := .int (me 2)) 4 rfl rfl qw_72 dX5_writeRecord_9 ?_
  refine r_iadd dX5_writeRecord_12 ?_
  refine r_istore (lv' := [(4, .int ((10000 * n1) + (me 2))), (0, .ref (a 0)), (1, .int n1), (2, .int n2), (3, .int n3)]) dX5_writeRecord_13 (by decide) rfl ?_
  refine r_aload_n dX5_writeRecord_15 1 rfl ?_
  refine gf_X5_1 (v := .ref (a 4)) 0 rfl rfl qw_98 dX5_writeRecord_16 ?_
  refine gfN_X3_1 (v := .int (me 1)) 4 rfl rfl qw_69 dX5_writeRecord_19 ?_
  refine r_iconst (v := 4) dX5_writeRecord_22 kic_4 ?_
  refine r_icmp_lt (tgt := 33) dX5_writeRecord_23 (by decide) (fun h23 => ?_) (fun h23 => ?_)
  · replace hg := (if_pos h23).symm.trans hg
    exact r_sub [1, 3, 4, 0] rfl (J33 n2 n3 ((10000 * n1) + (me 2)) w er fl me pr hg)
  · replace hg := (if_neg h23).symm.trans hg
    refine r_aload_n dX5_writeRecord_26 1 rfl ?_
    obtain ⟨o27, e27, hg⟩ := ob hg
    refine r_callV (As := []) (rest := []) (ws' := wP Z a o27.2.1 o27.2.2.1 o27.2.2.2.1 o27.2.2.2.2 p pr) 0 rfl rfl rfl (fun l => c_X5_beginBlock Z l a w er fl me p pr  o27 e27) qw_264 mv_X5_beginBlock (xPk.all rfl) ⟨Nat.le_of_ble_eq_true rfl, Nat.le_of_ble_eq_true rfl⟩ ⟨rfl, rfl⟩ ⟨Nat.zero_le _, Nat.zero_le _⟩ rfl (Nat.le_of_ble_eq_true rfl) rfl dX5_writeRecord_27 ?_
    refine r_if_eq (tgt := 37) dX5_writeRecord_30 (by decide) (fun h30 => ?_) (fun h30 => ?_)
    · replace hg := (if_pos h30).symm.trans hg
      refine r_iconst (v := 0) dX5_writeRecord_37 kic_0 ?_
      exact r_sub [1, 3, 4, 0] rfl (J38 n2 n3 ((10000 * n1) + (me 2)) 0 o27.2.1 o27.2.2.1 o27.2.2.2.1 o27.2.2.2.2 pr hg)
    · replace hg := (if_neg h30).symm.trans hg
      exact r_sub [1, 3, 4, 0] rfl (J33 n2 n3 ((10000 * n1) + (me 2)) o27.2.1 o27.2.2.1 o27.2.2.2.1 o27.2.2.2.2 pr hg)

-- TicketJournal$Printer.issueTicket(I)I
abbrev rm_X5_issueTicket : Room := { frames := 4, cells := 0, slots := 0, locals := 95 }
def g_X5_issueTicket (w : Nat → Int32) (er : Nat → Int32) (fl : Nat → Int32) (me : Nat → Int32) (p : Nat → Int32) (pr : Nat → Int32) (n1 : Int32) : Option (Int32 × (Nat → Int32) × (Nat → Int32) × (Nat → Int32) × (Nat → Int32) × (Nat → Int32)) :=
  (g_X5_priceOf p n1).bind fun o15 => (g_X5_writeRecord w er fl me pr 0 (pr 1) ((1000 * n1) + o15)).bind fun o27 => (if o27.1 = 0 then some ((-4), o27.2.1, o27.2.2.1, o27.2.2.2.1, o27.2.2.2.2.1, o27.2.2.2.2.2) else (g_X6_lengthOf n1).bind fun o41 => (if (o27.2.2.2.2.2 2) < o41 then (g_X5_writeRecord o27.2.1 o27.2.2.1 o27.2.2.2.1 o27.2.2.2.2.1 (upd o27.2.2.2.2.2 2 0) 1 (o27.2.2.2.2.2 1) ((1000 * n1) + o15)).bind fun o84 => (if o84.1 = 0 then some ((-4), o84.2.1, o84.2.2.1, o84.2.2.2.1, o84.2.2.2.2.1, o84.2.2.2.2.2) else some ((me 2), o84.2.1, o84.2.2.1, o84.2.2.2.1, o84.2.2.2.2.1, o84.2.2.2.2.2)) else (g_X6_lengthOf n1).bind fun o53 => some ((me 2), o27.2.1, o27.2.2.1, o27.2.2.2.1, o27.2.2.2.2.1, (upd (upd o27.2.2.2.2.2 2 ((o27.2.2.2.2.2 2) - o53)) 3 ((o27.2.2.2.2.2 3) + 1)))))
set_option maxHeartbeats 4000000 in
set_option maxRecDepth 100000 in
theorem c_X5_issueTicket (Z : GZ) (l : Launch) (a : Nat → Nat) (w : Nat → Int32) (er : Nat → Int32) (fl : Nat → Int32) (me : Nat → Int32) (p : Nat → Int32) (pr : Nat → Int32) (n1 : Int32) (o : (Int32 × (Nat → Int32) × (Nat → Int32) × (Nat → Int32) × (Nat → Int32) × (Nat → Int32))) (hg : g_X5_issueTicket w er fl me p pr n1 = some o) : Con Z l yX5_issueTicket cX5_issueTicket 4 (some .int) rm_X5_issueTicket [.ref (a 0), .int n1] (wP Z a w er fl me p pr) (some (.int o.1)) (wP Z a o.2.1 o.2.2.1 o.2.2.2.1 o.2.2.2.2.1 p o.2.2.2.2.2) := by
  refine Con.of (by decide) (Nat.le_of_ble_eq_true rfl) ?_
  intro X hE0
  have hE : ∀ z, z = o → endsX X Z (some .int) (some (.int z.1)) (wP Z a z.2.1 z.2.2.1 z.2.2.2.1 z.2.2.2.2.1 p z.2.2.2.2.2) := by
    rintro _ rfl; exact hE0
  unfold g_X5_issueTicket at hg
  show AtK X Z rm_X5_issueTicket cX5_issueTicket RX5 4 0 0 (wP Z a w er fl me p pr) 0 [(0, .ref (a 0)), (1, .int n1)] []
  refine r_aload_n dX5_issueTicket_0 0 rfl ?_
  refine gf_X5_1 (v := .ref (a 4)) 0 rfl rfl qw_98 dX5_issueTicket_1 ?_
  refine gfN_X3_2 (v := .int (me 2)) 4 rfl rfl qw_72 dX5_issueTicket_4 ?_
  refine r_istore_n (lv' := [(2, .int (me 2)), (0, .ref (a 0)), (1, .int n1)]) dX5_issueTicket_7 (by decide) rfl ?_
  refine r_sipush (v := 1000) dX5_issueTicket_8 ksp_1000 ?_
  refine r_iload_n dX5_issueTicket_11 2 rfl ?_
  refine r_imul dX5_issueTicket_12 ?_
  refine r_aload_n dX5_issueTicket_13 1 rfl ?_
  refine r_iload_n dX5_issueTicket_14 2 rfl ?_
  obtain ⟨o15, e15, hg⟩ := ob hg
  refine r_callV (As := [.int n1]) (rest := [.int (1000 * n1)]) (ws' := wP Z a w er fl me p pr) 0 rfl rfl rfl (fun l => c_X5_priceOf Z l a w er fl me p pr n1 o15 e15) qw_224 mv_X5_priceOf (xPk.all rfl) ⟨Nat.le_of_ble_eq_true rfl, Nat.le_of_ble_eq_true rfl⟩ ⟨rfl, rfl⟩ ⟨Nat.zero_le _, Nat.zero_le _⟩ rfl (Nat.le_of_ble_eq_true rfl) rfl dX5_issueTicket_15 ?_
  refine r_iadd dX5_issueTicket_18 ?_
  refine r_istore_n (lv' := [(3, .int ((1000 * n1) + o15)), (2, .int (me 2)), (0, .ref (a 0)), (1, .int n1)]) dX5_issueTicket_19 (by decide) rfl ?_
  refine r_aload_n dX5_issueTicket_20 2 rfl ?_
  refine r_iconst (v := 0) dX5_issueTicket_21 kic_0 ?_
  refine r_aload_n dX5_issueTicket_22 2 rfl ?_
  refine gf_X5_4 (v := .int (pr 1)) 0 rfl rfl qw_103 dX5_issueTicket_23 ?_
  refine r_iload_n dX5_issueTicket_26 0 rfl ?_
  obtain ⟨o27, e27, hg⟩ := ob hg
  refine r_callV (As := [.int 0, .int (pr 1), .int ((1000 * n1) + o15)]) (rest := []) (ws' := wP Z a o27.2.1 o27.2.2.1 o27.2.2.2.1 o27.2.2.2.2.1 p o27.2.2.2.2.2) 0 rfl rfl rfl (fun l => c_X5_writeRecord Z l a w er fl me p pr 0 (pr 1) ((1000 * n1) + o15) o27 e27) qw_260 mv_X5_writeRecord (xPk.all rfl) ⟨Nat.le_of_ble_eq_true rfl, Nat.le_of_ble_eq_true rfl⟩ ⟨rfl, rfl⟩ ⟨Nat.zero_le _, Nat.zero_le _⟩ rfl (Nat.le_of_ble_eq_true rfl) rfl dX5_issueTicket_27 ?_
  refine r_if_ne (tgt := 36) dX5_issueTicket_30 (by decide) (fun h30 => ?_) (fun h30 => ?_)
  · replace hg := (if_neg h30).symm.trans hg
    refine r_aload_n dX5_issueTicket_36 2 rfl ?_
    refine gf_X5_5 (v := .int (o27.2.2.2.2.2 2)) 0 rfl rfl qw_105 dX5_issueTicket_37 ?_
    refine r_iload_n dX5_issueTicket_40 3 rfl ?_
    obtain ⟨o41, e41, hg⟩ := ob hg
    refine r_callSN (As := [.int n1]) (rest := [.int (o27.2.2.2.2.2 2)]) (ws' := wP Z a o27.2.1 o27.2.2.1 o27.2.2.2.1 o27.2.2.2.2.1 p o27.2.2.2.2.2) (fun l => c_X6_lengthOf Z l   n1 o41 e41) qw_229 ms_X6_lengthOf xPk.none ⟨Nat.le_of_ble_eq_true rfl, Nat.le_of_ble_eq_true rfl⟩ ⟨rfl, rfl⟩ ⟨Nat.zero_le _, Nat.zero_le _⟩ rfl (Nat.le_of_ble_eq_true rfl) rfl dX5_issueTicket_41 ?_
    refine r_icmp_lt (tgt := 72) dX5_issueTicket_44 (by decide) (fun h44 => ?_) (fun h44 => ?_)
    · replace hg := (if_pos h44).symm.trans hg
      refine r_aload_n dX5_issueTicket_72 2 rfl ?_
      refine r_iconst (v := 0) dX5_issueTicket_73 kic_0 ?_
      refine pf_X5_5 0 rfl (Nat.le_of_ble_eq_true rfl) qw_105 dX5_issueTicket_74 (ws' := wP Z a o27.2.1 o27.2.2.1 o27.2.2.2.1 o27.2.2.2.2.1 p (upd o27.2.2.2.2.2 2 0)) rfl ?_
      refine r_aload_n dX5_issueTicket_77 2 rfl ?_
      refine r_iconst (v := 1) dX5_issueTicket_78 kic_1 ?_
      refine r_aload_n dX5_issueTicket_79 2 rfl ?_
      refine gf_X5_4 (v := .int (o27.2.2.2.2.2 1)) 0 rfl rfl qw_103 dX5_issueTicket_80 ?_
      refine r_iload_n dX5_issueTicket_83 0 rfl ?_
      obtain ⟨o84, e84, hg⟩ := ob hg
      refine r_callV (As := [.int 1, .int (o27.2.2.2.2.2 1), .int ((1000 * n1) + o15)]) (rest := []) (ws' := wP Z a o84.2.1 o84.2.2.1 o84.2.2.2.1 o84.2.2.2.2.1 p o84.2.2.2.2.2) 0 rfl rfl rfl (fun l => c_X5_writeRecord Z l a o27.2.1 o27.2.2.1 o27.2.2.2.1 o27.2.2.2.2.1 p (upd o27.2.2.2.2.2 2 0) 1 (o27.2.2.2.2.2 1) ((1000 * n1) + o15) o84 e84) qw_260 mv_X5_writeRecord (xPk.all rfl) ⟨Nat.le_of_ble_eq_true rfl, Nat.le_of_ble_eq_true rfl⟩ ⟨rfl, rfl⟩ ⟨Nat.zero_le _, Nat.zero_le _⟩ rfl (Nat.le_of_ble_eq_true rfl) rfl dX5_issueTicket_84 ?_
      refine r_if_eq (tgt := 94) dX5_issueTicket_87 (by decide) (fun h87 => ?_) (fun h87 => ?_)
      · replace hg := (if_pos h87).symm.trans hg
        refine r_bipush (v := (-4)) dX5_issueTicket_94 kbp_m4 ?_
        exact r_iret (hE _ (Option.some.inj hg)) dX5_issueTicket_96
      · replace hg := (if_neg h87).symm.trans hg
        refine r_iload_n dX5_issueTicket_90 1 rfl ?_
        refine r_goto (tgt := 96) dX5_issueTicket_91 (by decide) ?_
        exact r_iret (hE _ (Option.some.inj hg)) dX5_issueTicket_96
    · replace hg := (if_neg h44).symm.trans hg
      refine r_aload_n dX5_issueTicket_47 2 rfl ?_
      refine r_dup dX5_issueTicket_48 rfl ?_
      refine gf_X5_5 (v := .int (o27.2.2.2.2.2 2)) 0 rfl rfl qw_105 dX5_issueTicket_49 ?_
      refine r_iload_n dX5_issueTicket_52 3 rfl ?_
      obtain ⟨o53, e53, hg⟩ := ob hg
      refine r_callSN (As := [.int n1]) (rest := [.int (o27.2.2.2.2.2 2), .ref (a 0)]) (ws' := wP Z a o27.2.1 o27.2.2.1 o27.2.2.2.1 o27.2.2.2.2.1 p o27.2.2.2.2.2) (fun l => c_X6_lengthOf Z l   n1 o53 e53) qw_229 ms_X6_lengthOf xPk.none ⟨Nat.le_of_ble_eq_true rfl, Nat.le_of_ble_eq_true rfl⟩ ⟨rfl, rfl⟩ ⟨Nat.zero_le _, Nat.zero_le _⟩ rfl (Nat.le_of_ble_eq_true rfl) rfl dX5_issueTicket_53 ?_
      refine r_isub dX5_issueTicket_56 ?_
      refine pf_X5_5 0 rfl (Nat.le_of_ble_eq_true rfl) qw_105 dX5_issueTicket_57 (ws' := wP Z a o27.2.1 o27.2.2.1 o27.2.2.2.1 o27.2.2.2.2.1 p (upd o27.2.2.2.2.2 2 ((o27.2.2.2.2.2 2) - o53))) rfl ?_
      refine r_aload_n dX5_issueTicket_60 2 rfl ?_
      refine r_dup dX5_issueTicket_61 rfl ?_
      refine gf_X5_6 (v := .int (o27.2.2.2.2.2 3)) 0 rfl rfl qw_107 dX5_issueTicket_62 ?_
      refine r_iconst (v := 1) dX5_issueTicket_65 kic_1 ?_
      refine r_iadd dX5_issueTicket_66 ?_
      refine pf_X5_6 0 rfl (Nat.le_of_ble_eq_true rfl) qw_107 dX5_issueTicket_67 (ws' := wP Z a o27.2.1 o27.2.2.1 o27.2.2.2.1 o27.2.2.2.2.1 p (upd (upd o27.2.2.2.2.2 2 ((o27.2.2.2.2.2 2) - o53)) 3 ((o27.2.2.2.2.2 3) + 1))) rfl ?_
      refine r_iload_n dX5_issueTicket_70 1 rfl ?_
      exact r_iret (hE _ (Option.some.inj hg)) dX5_issueTicket_71
  · replace hg := (if_pos h30).symm.trans hg
    refine r_bipush (v := (-4)) dX5_issueTicket_33 kbp_m4 ?_
    exact r_iret (hE _ (Option.some.inj hg)) dX5_issueTicket_35

-- TicketJournal$Printer.endsWithTicket()Z
abbrev rm_X5_endsWithTicket : Room := { frames := 4, cells := 0, slots := 0, locals := 92 }
def g_X5_endsWithTicket_60 (w : Nat → Int32) (me : Nat → Int32)   : Option (Int32) :=
  some (0)
def g_X5_endsWithTicket (w : Nat → Int32) (me : Nat → Int32)  : Option (Int32) :=
  (if ((me 1) - 1) < 0 then g_X5_endsWithTicket_60 w me else (g_X0_stateOf w (me 0) ((me 1) - 1)).bind fun o26 => (if o26 = 1 then (g_X0_recordWord w (me 0) ((me 1) - 1) 0).bind fun o46 => (if (o46 / 10000) = 0 then some (1) else g_X5_endsWithTicket_60 w me) else g_X5_endsWithTicket_60 w me))
set_option maxHeartbeats 4000000 in
set_option maxRecDepth 100000 in
theorem c_X5_endsWithTicket (Z : GZ) (l : Launch) (a : Nat → Nat) (w : Nat → Int32) (er : Nat → Int32) (fl : Nat → Int32) (me : Nat → Int32) (p : Nat → Int32) (pr : Nat → Int32)  (o : (Int32)) (hg : g_X5_endsWithTicket w me = some o) : Con Z l yX5_endsWithTicket cX5_endsWithTicket 2 (some .boolean) rm_X5_endsWithTicket [.ref (a 0)] (wP Z a w er fl me p pr) (some (.int o)) (wP Z a w er fl me p pr) := by
  refine Con.of (by decide) (Nat.le_of_ble_eq_true rfl) ?_
  intro X hE0
  have hE : ∀ z, z = o → endsX X Z (some .boolean) (some (.int z)) (wP Z a w er fl me p pr) := by
    rintro _ rfl; exact hE0
  have J60 : g_X5_endsWithTicket_60 w me = some o → AtK X Z rm_X5_endsWithTicket cX5_endsWithTicket RX5 2 0 0 (wP Z a w er fl me p pr) 60 [] [] := by
    intro  hg
    unfold g_X5_endsWithTicket_60 at hg
    refine r_iconst (v := 0) dX5_endsWithTicket_60 kic_0 ?_
    exact r_bret (hE _ (Option.some.inj hg)) (by decide) dX5_endsWithTicket_61
  unfold g_X5_endsWithTicket at hg
  show AtK X Z rm_X5_endsWithTicket cX5_endsWithTicket RX5 2 0 0 (wP Z a w er fl me p pr) 0 [(0, .ref (a 0))] []
  refine r_aload_n dX5_endsWithTicket_0 0 rfl ?_
  refine gf_X5_1 (v := .ref (a 4)) 0 rfl rfl qw_98 dX5_endsWithTicket_1 ?_
  refine gfN_X3_1 (v := .int (me 1)) 4 rfl rfl qw_69 dX5_endsWithTicket_4 ?_
  refine r_iconst (v := 1) dX5_endsWithTicket_7 kic_1 ?_
  refine r_isub dX5_endsWithTicket_8 ?_
  refine r_istore_n (lv' := [(1, .int ((me 1) - 1)), (0, .ref (a 0))]) dX5_endsWithTicket_9 (by decide) rfl ?_
  refine r_iload_n dX5_endsWithTicket_10 0 rfl ?_
  refine r_if_lt (tgt := 60) dX5_endsWithTicket_11 (by decide) (fun h11 => ?_) (fun h11 => ?_)
  · replace hg := (if_pos h11).symm.trans hg
    exact r_sub [] rfl (J60 hg)
  · replace hg := (if_neg h11).symm.trans hg
    refine r_aload_n dX5_endsWithTicket_14 1 rfl ?_
    refine gf_X5_0 (v := .ref (a 1)) 0 rfl rfl qw_96 dX5_endsWithTicket_15 ?_
    refine r_aload_n dX5_endsWithTicket_18 1 rfl ?_
    refine gf_X5_1 (v := .ref (a 4)) 0 rfl rfl qw_98 dX5_endsWithTicket_19 ?_
    refine gfN_X3_0 (v := .int (me 0)) 4 rfl rfl qw_66 dX5_endsWithTicket_22 ?_
    refine r_iload_n dX5_endsWithTicket_25 0 rfl ?_
    obtain ⟨o26, e26, hg⟩ := ob hg
    refine r_callV (As := [.int (me 0), .int ((me 1) - 1)]) (rest := []) (ws' := wP Z a w er fl me p pr) 0 rfl rfl rfl (fun l => c_X0_stateOf Z l (a 1) (a 2) (a 3) w er fl (me 0) ((me 1) - 1) o26 e26) qw_316 mv_X0_stateOf (xPk.idx [1, 2, 3] rfl rfl rfl rfl rfl) ⟨Nat.le_of_ble_eq_true rfl, Nat.le_of_ble_eq_true rfl⟩ ⟨rfl, rfl⟩ ⟨Nat.zero_le _, Nat.zero_le _⟩ rfl (Nat.le_of_ble_eq_true rfl) rfl dX5_endsWithTicket_26 ?_
    refine r_iconst (v := 1) dX5_endsWithTicket_29 kic_1 ?_
    refine r_icmp_ne (tgt := 60) dX5_endsWithTicket_30 (by decide) (fun h30 => ?_) (fun h30 => ?_)
    · replace hg := (if_neg h30).symm.trans hg
      exact r_sub [] rfl (J60 hg)
    · replace hg := (if_pos h30).symm.trans hg
      refine r_aload_n dX5_endsWithTicket_33 1 rfl ?_
      refine gf_X5_0 (v := .ref (a 1)) 0 rfl rfl qw_96 dX5_endsWithTicket_34 ?_
      refine r_aload_n dX5_endsWithTicket_37 1 rfl ?_
      refine gf_X5_1 (v := .ref (a 4)) 0 rfl rfl qw_98 dX5_endsWithTicket_38 ?_
      refine gfN_X3_0 (v := .int (me 0)) 4 rfl rfl qw_66 dX5_endsWithTicket_41 ?_
      refine r_iload_n dX5_endsWithTicket_44 0 rfl ?_
      refine r_iconst (v := 0) dX5_endsWithTicket_45 kic_0 ?_
      obtain ⟨o46, e46, hg⟩ := ob hg
      refine r_callV (As := [.int (me 0), .int ((me 1) - 1), .int 0]) (rest := []) (ws' := wP Z a w er fl me p pr) 0 rfl rfl rfl (fun l => c_X0_recordWord Z l (a 1) (a 2) (a 3) w er fl (me 0) ((me 1) - 1) 0 o46 e46) qw_330 mv_X0_recordWord (xPk.idx [1, 2, 3] rfl rfl rfl rfl rfl) ⟨Nat.le_of_ble_eq_true rfl, Nat.le_of_ble_eq_true rfl⟩ ⟨rfl, rfl⟩ ⟨Nat.zero_le _, Nat.zero_le _⟩ rfl (Nat.le_of_ble_eq_true rfl) rfl dX5_endsWithTicket_46 ?_
      refine r_sipush (v := 10000) dX5_endsWithTicket_49 ksp_10000 ?_
      refine r_idiv dX5_endsWithTicket_52 (by decide) ?_
      refine r_if_ne (tgt := 60) dX5_endsWithTicket_53 (by decide) (fun h53 => ?_) (fun h53 => ?_)
      · replace hg := (if_neg h53).symm.trans hg
        exact r_sub [] rfl (J60 hg)
      · replace hg := (if_pos h53).symm.trans hg
        refine r_iconst (v := 1) dX5_endsWithTicket_56 kic_1 ?_
        refine r_goto (tgt := 61) dX5_endsWithTicket_57 (by decide) ?_
        exact r_bret (hE _ (Option.some.inj hg)) (by decide) dX5_endsWithTicket_61

-- TicketJournal$Printer.cancelLatest()I
abbrev rm_X5_cancelLatest : Room := { frames := 4, cells := 0, slots := 0, locals := 95 }
def g_X5_cancelLatest (w : Nat → Int32) (er : Nat → Int32) (fl : Nat → Int32) (me : Nat → Int32) (pr : Nat → Int32)  : Option (Int32 × (Nat → Int32) × (Nat → Int32) × (Nat → Int32) × (Nat → Int32) × (Nat → Int32)) :=
  (g_X0_recordWord w (me 0) ((me 1) - 1) 2).bind fun o21 => (g_X5_writeRecord w er fl me pr 1 (pr 1) o21).bind fun o32 => (if o32.1 = 0 then some ((-4), o32.2.1, o32.2.2.1, o32.2.2.2.1, o32.2.2.2.2.1, o32.2.2.2.2.2) else some ((jrem o21 1000), o32.2.1, o32.2.2.1, o32.2.2.2.1, o32.2.2.2.2.1, o32.2.2.2.2.2))
set_option maxHeartbeats 4000000 in
set_option maxRecDepth 100000 in
theorem c_X5_cancelLatest (Z : GZ) (l : Launch) (a : Nat → Nat) (w : Nat → Int32) (er : Nat → Int32) (fl : Nat → Int32) (me : Nat → Int32) (p : Nat → Int32) (pr : Nat → Int32)  (o : (Int32 × (Nat → Int32) × (Nat → Int32) × (Nat → Int32) × (Nat → Int32) × (Nat → Int32))) (hg : g_X5_cancelLatest w er fl me pr = some o) : Con Z l yX5_cancelLatest cX5_cancelLatest 2 (some .int) rm_X5_cancelLatest [.ref (a 0)] (wP Z a w er fl me p pr) (some (.int o.1)) (wP Z a o.2.1 o.2.2.1 o.2.2.2.1 o.2.2.2.2.1 p o.2.2.2.2.2) := by
  refine Con.of (by decide) (Nat.le_of_ble_eq_true rfl) ?_
  intro X hE0
  have hE : ∀ z, z = o → endsX X Z (some .int) (some (.int z.1)) (wP Z a z.2.1 z.2.2.1 z.2.2.2.1 z.2.2.2.2.1 p z.2.2.2.2.2) := by
    rintro _ rfl; exact hE0
  unfold g_X5_cancelLatest at hg
  show AtK X Z rm_X5_cancelLatest cX5_cancelLatest RX5 2 0 0 (wP Z a w er fl me p pr) 0 [(0, .ref (a 0))] []
  refine r_aload_n dX5_cancelLatest_0 0 rfl ?_
  refine gf_X5_0 (v := .ref (a 1)) 0 rfl rfl qw_96 dX5_cancelLatest_1 ?_
  refine r_aload_n dX5_cancelLatest_4 0 rfl ?_
  refine gf_X5_1 (v := .ref (a 4)) 0 rfl rfl qw_98 dX5_cancelLatest_5 ?_
  refine gfN_X3_0 (v := .int (me 0)) 4 rfl rfl qw_66 dX5_cancelLatest_8 ?_
  refine r_aload_n dX5_cancelLatest_11 0 rfl ?_
  refine gf_X5_1 (v := .ref (a 4)) 0 rfl rfl qw_98 dX5_cancelLatest_12 ?_
  refine gfN_X3_1 (v := .int (me 1)) 4 rfl rfl qw_69 dX5_cancelLatest_15 ?_
  refine r_iconst (v := 1) dX5_cancelLatest_18 kic_1 ?_
  refine r_isub dX5_cancelLatest_19 ?_
  refine r_iconst (v := 2) dX5_cancelLatest_20 kic_2 ?_
  obtain ⟨o21, e21, hg⟩ := ob hg
  refine r_callV (As := [.int (me 0), .int ((me 1) - 1), .int 2]) (rest := []) (ws' := wP Z a w er fl me p pr) 0 rfl rfl rfl (fun l => c_X0_recordWord Z l (a 1) (a 2) (a 3) w er fl (me 0) ((me 1) - 1) 2 o21 e21) qw_330 mv_X0_recordWord (xPk.idx [1, 2, 3] rfl rfl rfl rfl rfl) ⟨Nat.le_of_ble_eq_true rfl, Nat.le_of_ble_eq_true rfl⟩ ⟨rfl, rfl⟩ ⟨Nat.zero_le _, Nat.zero_le _⟩ rfl (Nat.le_of_ble_eq_true rfl) rfl dX5_cancelLatest_21 ?_
  refine r_istore_n (lv' := [(1, .int o21), (0, .ref (a 0))]) dX5_cancelLatest_24 (by decide) rfl ?_
  refine r_aload_n dX5_cancelLatest_25 1 rfl ?_
  refine r_iconst (v := 1) dX5_cancelLatest_26 kic_1 ?_
  refine r_aload_n dX5_cancelLatest_27 1 rfl ?_
  refine gf_X5_4 (v := .int (pr 1)) 0 rfl rfl qw_103 dX5_cancelLatest_28 ?_
  refine r_iload_n dX5_cancelLatest_31 0 rfl ?_
  obtain ⟨o32, e32, hg⟩ := ob hg
  refine r_callV (As := [.int 1, .int (pr 1), .int o21]) (rest := []) (ws' := wP Z a o32.2.1 o32.2.2.1 o32.2.2.2.1 o32.2.2.2.2.1 p o32.2.2.2.2.2) 0 rfl rfl rfl (fun l => c_X5_writeRecord Z l a w er fl me p pr 1 (pr 1) o21 o32 e32) qw_260 mv_X5_writeRecord (xPk.all rfl) ⟨Nat.le_of_ble_eq_true rfl, Nat.le_of_ble_eq_true rfl⟩ ⟨rfl, rfl⟩ ⟨Nat.zero_le _, Nat.zero_le _⟩ rfl (Nat.le_of_ble_eq_true rfl) rfl dX5_cancelLatest_32 ?_
  refine r_if_eq (tgt := 46) dX5_cancelLatest_35 (by decide) (fun h35 => ?_) (fun h35 => ?_)
  · replace hg := (if_pos h35).symm.trans hg
    refine r_bipush (v := (-4)) dX5_cancelLatest_46 kbp_m4 ?_
    exact r_iret (hE _ (Option.some.inj hg)) dX5_cancelLatest_48
  · replace hg := (if_neg h35).symm.trans hg
    refine r_iload_n dX5_cancelLatest_38 0 rfl ?_
    refine r_sipush (v := 1000) dX5_cancelLatest_39 ksp_1000 ?_
    refine r_irem dX5_cancelLatest_42 (by decide) ?_
    refine r_goto (tgt := 48) dX5_cancelLatest_43 (by decide) ?_
    exact r_iret (hE _ (Option.some.inj hg)) dX5_cancelLatest_48

-- TicketJournal$Printer.closeDay()I
abbrev rm_X5_closeDay : Room := { frames := 4, cells := 0, slots := 0, locals := 95 }
def g_X5_closeDay (w : Nat → Int32) (er : Nat → Int32) (fl : Nat → Int32) (me : Nat → Int32) (pr : Nat → Int32)  : Option (Int32 × (Nat → Int32) × (Nat → Int32) × (Nat → Int32) × (Nat → Int32) × (Nat → Int32)) :=
  (g_X5_writeRecord w er fl me pr 3 (pr 1) (me 3)).bind fun o15 => (if o15.1 = 0 then some ((-4), o15.2.1, o15.2.2.1, o15.2.2.2.1, o15.2.2.2.2.1, o15.2.2.2.2.2) else some ((me 3), o15.2.1, o15.2.2.1, o15.2.2.2.1, o15.2.2.2.2.1, o15.2.2.2.2.2))
set_option maxHeartbeats 4000000 in
set_option maxRecDepth 100000 in
theorem c_X5_closeDay (Z : GZ) (l : Launch) (a : Nat → Nat) (w : Nat → Int32) (er : Nat → Int32) (fl : Nat → Int32) (me : Nat → Int32) (p : Nat → Int32) (pr : Nat → Int32)  (o : (Int32 × (Nat → Int32) × (Nat → Int32) × (Nat → Int32) × (Nat → Int32) × (Nat → Int32))) (hg : g_X5_closeDay w er fl me pr = some o) : Con Z l yX5_closeDay cX5_closeDay 2 (some .int) rm_X5_closeDay [.ref (a 0)] (wP Z a w er fl me p pr) (some (.int o.1)) (wP Z a o.2.1 o.2.2.1 o.2.2.2.1 o.2.2.2.2.1 p o.2.2.2.2.2) := by
  refine Con.of (by decide) (Nat.le_of_ble_eq_true rfl) ?_
  intro X hE0
  have hE : ∀ z, z = o → endsX X Z (some .int) (some (.int z.1)) (wP Z a z.2.1 z.2.2.1 z.2.2.2.1 z.2.2.2.2.1 p z.2.2.2.2.2) := by
    rintro _ rfl; exact hE0
  unfold g_X5_closeDay at hg
  show AtK X Z rm_X5_closeDay cX5_closeDay RX5 2 0 0 (wP Z a w er fl me p pr) 0 [(0, .ref (a 0))] []
  refine r_aload_n dX5_closeDay_0 0 rfl ?_
  refine gf_X5_1 (v := .ref (a 4)) 0 rfl rfl qw_98 dX5_closeDay_1 ?_
  refine gfN_X3_3 (v := .int (me 3)) 4 rfl rfl qw_75 dX5_closeDay_4 ?_
  refine r_istore_n (lv' := [(1, .int (me 3)), (0, .ref (a 0))]) dX5_closeDay_7 (by decide) rfl ?_
  refine r_aload_n dX5_closeDay_8 1 rfl ?_
  refine r_iconst (v := 3) dX5_closeDay_9 kic_3 ?_
  refine r_aload_n dX5_closeDay_10 1 rfl ?_
  refine gf_X5_4 (v := .int (pr 1)) 0 rfl rfl qw_103 dX5_closeDay_11 ?_
  refine r_iload_n dX5_closeDay_14 0 rfl ?_
  obtain ⟨o15, e15, hg⟩ := ob hg
  refine r_callV (As := [.int 3, .int (pr 1), .int (me 3)]) (rest := []) (ws' := wP Z a o15.2.1 o15.2.2.1 o15.2.2.2.1 o15.2.2.2.2.1 p o15.2.2.2.2.2) 0 rfl rfl rfl (fun l => c_X5_writeRecord Z l a w er fl me p pr 3 (pr 1) (me 3) o15 e15) qw_260 mv_X5_writeRecord (xPk.all rfl) ⟨Nat.le_of_ble_eq_true rfl, Nat.le_of_ble_eq_true rfl⟩ ⟨rfl, rfl⟩ ⟨Nat.zero_le _, Nat.zero_le _⟩ rfl (Nat.le_of_ble_eq_true rfl) rfl dX5_closeDay_15 ?_
  refine r_if_eq (tgt := 25) dX5_closeDay_18 (by decide) (fun h18 => ?_) (fun h18 => ?_)
  · replace hg := (if_pos h18).symm.trans hg
    refine r_bipush (v := (-4)) dX5_closeDay_25 kbp_m4 ?_
    exact r_iret (hE _ (Option.some.inj hg)) dX5_closeDay_27
  · replace hg := (if_neg h18).symm.trans hg
    refine r_iload_n dX5_closeDay_21 0 rfl ?_
    refine r_goto (tgt := 27) dX5_closeDay_22 (by decide) ?_
    exact r_iret (hE _ (Option.some.inj hg)) dX5_closeDay_27

-- TicketJournal$Printer.putInPaper(II)I
abbrev rm_X5_putInPaper : Room := { frames := 4, cells := 0, slots := 0, locals := 95 }
def g_X5_putInPaper (w : Nat → Int32) (er : Nat → Int32) (fl : Nat → Int32) (me : Nat → Int32) (pr : Nat → Int32) (n1 : Int32) (n2 : Int32) : Option (Int32 × (Nat → Int32) × (Nat → Int32) × (Nat → Int32) × (Nat → Int32) × (Nat → Int32)) :=
  (g_X5_writeRecord w er fl me (upd pr 2 n2) 4 (pr 1) n1).bind fun o17 => (if o17.1 = 0 then some ((-4), o17.2.1, o17.2.2.1, o17.2.2.2.1, o17.2.2.2.2.1, o17.2.2.2.2.2) else some ((pr 2), o17.2.1, o17.2.2.1, o17.2.2.2.1, o17.2.2.2.2.1, o17.2.2.2.2.2))
set_option maxHeartbeats 4000000 in
set_option maxRecDepth 100000 in
theorem c_X5_putInPaper (Z : GZ) (l : Launch) (a : Nat → Nat) (w : Nat → Int32) (er : Nat → Int32) (fl : Nat → Int32) (me : Nat → Int32) (p : Nat → Int32) (pr : Nat → Int32) (n1 : Int32) (n2 : Int32) (o : (Int32 × (Nat → Int32) × (Nat → Int32) × (Nat → Int32) × (Nat → Int32) × (Nat → Int32))) (hg : g_X5_putInPaper w er fl me pr n1 n2 = some o) : Con Z l yX5_putInPaper cX5_putInPaper 4 (some .int) rm_X5_putInPaper [.ref (a 0), .int n1, .int n2] (wP Z a w er fl me p pr) (some (.int o.1)) (wP Z a o.2.1 o.2.2.1 o.2.2.2.1 o.2.2.2.2.1 p o.2.2.2.2.2) := by
  refine Con.of (by decide) (Nat.le_of_ble_eq_true rfl) ?_
  intro X hE0
  have hE : ∀ z, z = o → endsX X Z (some .int) (some (.int z.1)) (wP Z a z.2.1 z.2.2.1 z.2.2.2.1 z.2.2.2.2.1 p z.2.2.2.2.2) := by
    rintro _ rfl; exact hE0
  unfold g_X5_putInPaper at hg
  show AtK X Z rm_X5_putInPaper cX5_putInPaper RX5 4 0 0 (wP Z a w er fl me p pr) 0 [(0, .ref (a 0)), (1, .int n1), (2, .int n2)] []
  refine r_aload_n dX5_putInPaper_0 0 rfl ?_
  refine gf_X5_5 (v := .int (pr 2)) 0 rfl rfl qw_105 dX5_putInPaper_1 ?_
  refine r_istore_n (lv' := [(3, .int (pr 2)), (0, .ref (a 0)), (1, .int n1), (2, .int n2)]) dX5_putInPaper_4 (by decide) rfl ?_
  refine r_aload_n dX5_putInPaper_5 1 rfl ?_
  refine r_iload_n dX5_putInPaper_6 3 rfl ?_
  refine pf_X5_5 0 rfl (Nat.le_of_ble_eq_true rfl) qw_105 dX5_putInPaper_7 (ws' := wP Z a w er fl me p (upd pr 2 n2)) rfl ?_
  refine r_aload_n dX5_putInPaper_10 1 rfl ?_
  refine r_iconst (v := 4) dX5_putInPaper_11 kic_4 ?_
  refine r_aload_n dX5_putInPaper_12 1 rfl ?_
  refine gf_X5_4 (v := .int (pr 1)) 0 rfl rfl qw_103 dX5_putInPaper_13 ?_
  refine r_iload_n dX5_putInPaper_16 2 rfl ?_
  obtain ⟨o17, e17, hg⟩ := ob hg
  refine r_callV (As := [.int 4, .int (pr 1), .int n1]) (rest := []) (ws' := wP Z a o17.2.1 o17.2.2.1 o17.2.2.2.1 o17.2.2.2.2.1 p o17.2.2.2.2.2) 0 rfl rfl rfl (fun l => c_X5_writeRecord Z l a w er fl me p (upd pr 2 n2) 4 (pr 1) n1 o17 e17) qw_260 mv_X5_writeRecord (xPk.all rfl) ⟨Nat.le_of_ble_eq_true rfl, Nat.le_of_ble_eq_true rfl⟩ ⟨rfl, rfl⟩ ⟨Nat.zero_le _, Nat.zero_le _⟩ rfl (Nat.le_of_ble_eq_true rfl) rfl dX5_putInPaper_17 ?_
  refine r_if_eq (tgt := 27) dX5_putInPaper_20 (by decide) (fun h20 => ?_) (fun h20 => ?_)
  · replace hg := (if_pos h20).symm.trans hg
    refine r_bipush (v := (-4)) dX5_putInPaper_27 kbp_m4 ?_
    exact r_iret (hE _ (Option.some.inj hg)) dX5_putInPaper_29
  · replace hg := (if_neg h20).symm.trans hg
    refine r_iload_n dX5_putInPaper_23 0 rfl ?_
    refine r_goto (tgt := 29) dX5_putInPaper_24 (by decide) ?_
    exact r_iret (hE _ (Option.some.inj hg)) dX5_putInPaper_29

-- TicketJournal$Printer.moveClock(I)I
abbrev rm_X5_moveClock : Room := { frames := 4, cells := 0, slots := 0, locals := 95 }
def g_X5_moveClock_39   (x1 : Int32) (x2 : Int32) (w : Nat → Int32) (er : Nat → Int32) (fl : Nat → Int32) (me : Nat → Int32) (pr : Nat → Int32) : Option (Int32 × (Nat → Int32) × (Nat → Int32) × (Nat → Int32) × (Nat → Int32) × (Nat → Int32)) :=
  (if x2 = 0 then some (0, w, er, fl, me, (upd pr 1 x1)) else some (1, w, er, fl, me, (upd pr 1 x1)))
def g_X5_moveClock_18   (x1 : Int32) (t0 : Int32) (w : Nat → Int32) (er : Nat → Int32) (fl : Nat → Int32) (me : Nat → Int32) (pr : Nat → Int32) : Option (Int32 × (Nat → Int32) × (Nat → Int32) × (Nat → Int32) × (Nat → Int32) × (Nat → Int32)) :=
  (if t0 = 0 then g_X5_moveClock_39 x1 t0 w er fl me pr else (g_X5_writeRecord w er fl me pr 2 x1 (pr 1)).bind fun o30 => (if o30.1 = 0 then some ((-4), o30.2.1, o30.2.2.1, o30.2.2.2.1, o30.2.2.2.2.1, o30.2.2.2.2.2) else g_X5_moveClock_39 x1 t0 o30.2.1 o30.2.2.1 o30.2.2.2.1 o30.2.2.2.2.1 o30.2.2.2.2.2))
def g_X5_moveClock (w : Nat → Int32) (er : Nat → Int32) (fl : Nat → Int32) (me : Nat → Int32) (pr : Nat → Int32) (n1 : Int32) : Option (Int32 × (Nat → Int32) × (Nat → Int32) × (Nat → Int32) × (Nat → Int32) × (Nat → Int32)) :=
  (if (if 0 ≤ (n1 - (pr 1)) then (n1 - (pr 1)) else 0 - (n1 - (pr 1))) < 5 then g_X5_moveClock_18 n1 0 w er fl me pr else g_X5_moveClock_18 n1 1 w er fl me pr)
set_option maxHeartbeats 4000000 in
set_option maxRecDepth 100000 in
theorem c_X5_moveClock (Z : GZ) (l : Launch) (a : Nat → Nat) (w : Nat → Int32) (er : Nat → Int32) (fl : Nat → Int32) (me : Nat → Int32) (p : Nat → Int32) (pr : Nat → Int32) (n1 : Int32) (o : (Int32 × (Nat → Int32) × (Nat → Int32) × (Nat → Int32) × (Nat → Int32) × (Nat → Int32))) (hg : g_X5_moveClock w er fl me pr n1 = some o) : Con Z l yX5_moveClock cX5_moveClock 3 (some .int) rm_X5_moveClock [.ref (a 0), .int n1] (wP Z a w er fl me p pr) (some (.int o.1)) (wP Z a o.2.1 o.2.2.1 o.2.2.2.1 o.2.2.2.2.1 p o.2.2.2.2.2) := by
  refine Con.of (by decide) (Nat.le_of_ble_eq_true rfl) ?_
  intro X hE0
  have hE : ∀ z, z = o → endsX X Z (some .int) (some (.int z.1)) (wP Z a z.2.1 z.2.2.1 z.2.2.2.1 z.2.2.2.2.1 p z.2.2.2.2.2) := by
    rintro _ rfl; exact hE0
  have J39 : ∀ (x1 : Int32) (x2 : Int32) (w : Nat → Int32) (er : Nat → Int32) (fl : Nat → Int32) (me : Nat → Int32) (pr : Nat → Int32), g_X5_moveClock_39 x1 x2 w er fl me pr = some o → AtK X Z rm_X5_moveClock cX5_moveClock RX5 3 0 0 (wP Z a w er fl me p pr) 39 [(0, .ref (a 0)), (1, .int x1), (2, .int x2)] [] := by
    intro x1 x2 w er fl me pr hg
    unfold g_X5_moveClock_39 at hg
    refine r_aload_n dX5_moveClock_39 0 rfl ?_
    refine r_iload_n dX5_moveClock_40 1 rfl ?_
    refine pf_X5_4 0 rfl (Nat.le_of_ble_eq_true rfl) qw_103 dX5_moveClock_41 (ws' := wP Z a w er fl me p (upd pr 1 x1)) rfl ?_
    refine r_iload_n dX5_moveClock_44 2 rfl ?_
    refine r_if_eq (tgt := 52) dX5_moveClock_45 (by decide) (fun h45 => ?_) (fun h45 => ?_)
    · replace hg := (if_pos h45).symm.trans hg
      refine r_iconst (v := 0) dX5_moveClock_52 kic_0 ?_
      exact r_iret (hE _ (Option.some.inj hg)) dX5_moveClock_53
    · replace hg := (if_neg h45).symm.trans hg
      refine r_iconst (v := 1) dX5_moveClock_48 kic_1 ?_
      refine r_goto (tgt := 53) dX5_moveClock_49 (by decide) ?_
      exact r_iret (hE _ (Option.some.inj hg)) dX5_moveClock_53
  have J18 : ∀ (x1 : Int32) (t0 : Int32) (w : Nat → Int32) (er : Nat → Int32) (fl : Nat → Int32) (me : Nat → Int32) (pr : Nat → Int32), g_X5_moveClock_18 x1 t0 w er fl me pr = some o → AtK X Z rm_X5_moveClock cX5_moveClock RX5 3 0 0 (wP Z a w er fl me p pr) 18 [(0, .ref (a 0)), (1, .int x1)] [.int t0] := by
    intro x1 t0 w er fl me pr hg
    unfold g_X5_moveClock_18 at hg
    refine r_istore_n (lv' := [(2, .int t0), (0, .ref (a 0)), (1, .int x1)]) dX5_moveClock_18 (by decide) rfl ?_
    refine r_iload_n dX5_moveClock_19 0 rfl ?_
    refine r_if_eq (tgt := 39) dX5_moveClock_20 (by decide) (fun h20 => ?_) (fun h20 => ?_)
    · replace hg := (if_pos h20).symm.trans hg
      exact r_sub [1, 2, 0] rfl (J39 x1 t0 w er fl me pr hg)
    · replace hg := (if_neg h20).symm.trans hg
      refine r_aload_n dX5_moveClock_23 1 rfl ?_
      refine r_iconst (v := 2) dX5_moveClock_24 kic_2 ?_
      refine r_iload_n dX5_moveClock_25 2 rfl ?_
      refine r_aload_n dX5_moveClock_26 1 rfl ?_
      refine gf_X5_4 (v := .int (pr 1)) 0 rfl rfl qw_103 dX5_moveClock_27 ?_
      obtain ⟨o30, e30, hg⟩ := ob hg
      refine r_callV (As := [.int 2, .int x1, .int (pr 1)]) (rest := []) (ws' := wP Z a o30.2.1 o30.2.2.1 o30.2.2.2.1 o30.2.2.2.2.1 p o30.2.2.2.2.2) 0 rfl rfl rfl (fun l => c_X5_writeRecord Z l a w er fl me p pr 2 x1 (pr 1) o30 e30) qw_260 mv_X5_writeRecord (xPk.all rfl) ⟨Nat.le_of_ble_eq_true rfl, Nat.le_of_ble_eq_true rfl⟩ ⟨rfl, rfl⟩ ⟨Nat.zero_le _, Nat.zero_le _⟩ rfl (Nat.le_of_ble_eq_true rfl) rfl dX5_moveClock_30 ?_
      refine r_if_ne (tgt := 39) dX5_moveClock_33 (by decide) (fun h33 => ?_) (fun h33 => ?_)
      · replace hg := (if_neg h33).symm.trans hg
        exact r_sub [1, 2, 0] rfl (J39 x1 t0 o30.2.1 o30.2.2.1 o30.2.2.2.1 o30.2.2.2.2.1 o30.2.2.2.2.2 hg)
      · replace hg := (if_pos h33).symm.trans hg
        refine r_bipush (v := (-4)) dX5_moveClock_36 kbp_m4 ?_
        exact r_iret (hE _ (Option.some.inj hg)) dX5_moveClock_38
  unfold g_X5_moveClock at hg
  show AtK X Z rm_X5_moveClock cX5_moveClock RX5 3 0 0 (wP Z a w er fl me p pr) 0 [(0, .ref (a 0)), (1, .int n1)] []
  refine r_iload_n dX5_moveClock_0 1 rfl ?_
  refine r_aload_n dX5_moveClock_1 0 rfl ?_
  refine gf_X5_4 (v := .int (pr 1)) 0 rfl rfl qw_103 dX5_moveClock_2 ?_
  refine r_isub dX5_moveClock_5 ?_
  refine r_mabs qw_362 qw_363 qw_21 qw_364 (Nat.le_of_ble_eq_true rfl) (Nat.le_of_ble_eq_true rfl) (Nat.zero_le _) (Nat.zero_le _) dX5_moveClock_6 ?_
  refine r_iconst (v := 5) dX5_moveClock_9 kic_5 ?_
  refine r_icmp_lt (tgt := 17) dX5_moveClock_10 (by decide) (fun h10 => ?_) (fun h10 => ?_)
  · replace hg := (if_pos h10).symm.trans hg
    refine r_iconst (v := 0) dX5_moveClock_17 kic_0 ?_
    exact r_sub [0, 1] rfl (J18 n1 0 w er fl me pr hg)
  · replace hg := (if_neg h10).symm.trans hg
    refine r_iconst (v := 1) dX5_moveClock_13 kic_1 ?_
    refine r_goto (tgt := 18) dX5_moveClock_14 (by decide) ?_
    exact r_sub [0, 1] rfl (J18 n1 1 w er fl me pr hg)

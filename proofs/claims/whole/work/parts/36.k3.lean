-- the constructors (laid by wip/gen/inits.py)
theorem qw_90 : Cond.methodLink RX3 3 objectInit ∈ lw_tb := lw_up (List.mem_of_getElem? (i := 90) (by decide +kernel)) rfl
theorem qw_54 : Cond.instanceMethod objectInit ∈ lw_tb := lw_up (List.mem_of_getElem? (i := 54) (by decide +kernel)) rfl
theorem qw_55 : Cond.code objectInit ⟨#[0xb1]⟩ 1 none ∈ lw_tb := lw_up (List.mem_of_getElem? (i := 55) (by decide +kernel)) rfl
theorem qw_155 : Cond.methodLink RX2 3 objectInit ∈ lw_tb := lw_up (List.mem_of_getElem? (i := 155) (by decide +kernel)) rfl
theorem qw_84 : Cond.arrayClass .int ∈ lw_tb := lw_up (List.mem_of_getElem? (i := 84) (by decide +kernel)) rfl
theorem qw_67 : Cond.methodLink RX0 3 objectInit ∈ lw_tb := lw_up (List.mem_of_getElem? (i := 67) (by decide +kernel)) rfl
theorem qw_61 : Cond.methodLink RX5 3 objectInit ∈ lw_tb := lw_up (List.mem_of_getElem? (i := 61) (by decide +kernel)) rfl
theorem qw_62 : Cond.classLink RX5 9 RX0 ∈ lw_tb := lw_up (List.mem_of_getElem? (i := 62) (by decide +kernel)) rfl
theorem qw_63 : Cond.instantiable RX0 4 ∈ lw_tb := lw_up (List.mem_of_getElem? (i := 63) (by decide +kernel)) rfl
theorem qw_64 : Cond.methodLink RX5 11 yX0_init ∈ lw_tb := lw_up (List.mem_of_getElem? (i := 64) (by decide +kernel)) rfl
theorem qw_65 : Cond.instanceMethod yX0_init ∈ lw_tb := lw_up (List.mem_of_getElem? (i := 65) (by decide +kernel)) rfl
theorem qw_66 : Cond.code yX0_init cX0_init 2 none ∈ lw_tb := lw_up (List.mem_of_getElem? (i := 66) (by decide +kernel)) rfl
theorem qw_85 : Cond.classLink RX5 18 RX3 ∈ lw_tb := lw_up (List.mem_of_getElem? (i := 85) (by decide +kernel)) rfl
theorem qw_86 : Cond.instantiable RX3 6 ∈ lw_tb := lw_up (List.mem_of_getElem? (i := 86) (by decide +kernel)) rfl
theorem qw_87 : Cond.methodLinkNest RX5 20 yX3_init "TicketJournal" ∈ lw_ns := lw_un (List.mem_of_getElem? (i := 87) (by decide +kernel)) rfl
theorem qw_88 : Cond.instanceMethod yX3_init ∈ lw_tb := lw_up (List.mem_of_getElem? (i := 88) (by decide +kernel)) rfl
theorem qw_89 : Cond.code yX3_init cX3_init 1 none ∈ lw_tb := lw_up (List.mem_of_getElem? (i := 89) (by decide +kernel)) rfl
theorem qw_189 : Cond.methodLink RX1 1 objectInit ∈ lw_tb := lw_up (List.mem_of_getElem? (i := 189) (by decide +kernel)) rfl
theorem qw_190 : Cond.classLink RX1 7 RX5 ∈ lw_tb := lw_up (List.mem_of_getElem? (i := 190) (by decide +kernel)) rfl
theorem qw_57 : Cond.instantiable RX5 7 ∈ lw_tb := lw_up (List.mem_of_getElem? (i := 57) (by decide +kernel)) rfl
theorem qw_191 : Cond.methodLinkNest RX1 9 yX5_init "TicketJournal" ∈ lw_ns := lw_un (List.mem_of_getElem? (i := 191) (by decide +kernel)) rfl
theorem qw_59 : Cond.instanceMethod yX5_init ∈ lw_tb := lw_up (List.mem_of_getElem? (i := 59) (by decide +kernel)) rfl
theorem qw_60 : Cond.code yX5_init cX5_init 1 none ∈ lw_tb := lw_up (List.mem_of_getElem? (i := 60) (by decide +kernel)) rfl
theorem qw_584 : Cond.methodLink RX7 1 objectInit ∈ lw_tb := lw_up (List.mem_of_getElem? (i := 584) (by decide +kernel)) rfl
theorem ksp_150 : (Int16.ofInt 150).toInt32 = 150 := by decide
theorem ksp_250 : (Int16.ofInt 250).toInt32 = 250 := by decide
theorem ksp_400 : (Int16.ofInt 400).toInt32 = 400 := by decide
theorem ksp_800 : (Int16.ofInt 800).toInt32 = 800 := by decide
theorem ksp_1048 : (Int16.ofInt 1048).toInt32 = 1048 := by decide
theorem ksp_262 : (Int16.ofInt 262).toInt32 = 262 := by decide
theorem ksp_128 : (Int16.ofInt 128).toInt32 = 128 := by decide
theorem ksp_129 : (Int16.ofInt 129).toInt32 = 129 := by decide
theorem ksp_130 : (Int16.ofInt 130).toInt32 = 130 := by decide
theorem mi_X0_init : mIo yX0_init cX0_init 2 := ⟨qw_65, rfl, qw_40, qw_66, by decide +kernel⟩
theorem mi_X3_init : mIo yX3_init cX3_init 1 := ⟨qw_88, rfl, qw_41, qw_89, by decide +kernel⟩
theorem mi_X5_init : mIo yX5_init cX5_init 1 := ⟨qw_59, rfl, qw_39, qw_60, by decide +kernel⟩
abbrev rm_X3_init : Room := { frames := 1, cells := 0, slots := 0, locals := 40 }
set_option maxHeartbeats 4000000 in
set_option maxRecDepth 100000 in
theorem c_X3_init (Z : GZ) (l : Launch) (h : Nat) : ConN Z l yX3_init cX3_init 1 rm_X3_init [.ref h] [(h, .inr (3, [.int 0, .int 0, .int 0, .int 0, .int 0, .int 0]))] 0 0 (fun nw => nw = wM Z h (fun _ => 0)) := by
  refine ConN.of (by decide) rfl (Nat.le_of_ble_eq_true rfl) ?_
  intro X hn hm hE
  show AtK X Z rm_X3_init cX3_init RX3 1 0 0 [(h, .inr (3, [.int 0, .int 0, .int 0, .int 0, .int 0, .int 0]))] 0 [(0, .ref h)] []
  refine r_aload_n dX3_init_0 0 rfl ?_
  refine r_obj qw_90 qw_54 qw_55 (Nat.le_of_ble_eq_true rfl) (Nat.le_of_ble_eq_true rfl) dX3_init_1 ?_
  refine r_aload_n dX3_init_4 0 rfl ?_
  refine r_iconst (v := 0) dX3_init_5 kic_0 ?_
  refine pf_X3_0 0 rfl (Nat.le_of_ble_eq_true rfl) qw_91 dX3_init_6 (ws' := [(h, .inr (3, [.int 0, .int 0, .int 0, .int 0, .int 0, .int 0]))]) rfl ?_
  refine r_aload_n dX3_init_9 0 rfl ?_
  refine r_iconst (v := 0) dX3_init_10 kic_0 ?_
  refine pf_X3_1 0 rfl (Nat.le_of_ble_eq_true rfl) qw_94 dX3_init_11 (ws' := [(h, .inr (3, [.int 0, .int 0, .int 0, .int 0, .int 0, .int 0]))]) rfl ?_
  refine r_aload_n dX3_init_14 0 rfl ?_
  refine r_iconst (v := 0) dX3_init_15 kic_0 ?_
  refine pf_X3_2 0 rfl (Nat.le_of_ble_eq_true rfl) qw_97 dX3_init_16 (ws' := [(h, .inr (3, [.int 0, .int 0, .int 0, .int 0, .int 0, .int 0]))]) rfl ?_
  refine r_aload_n dX3_init_19 0 rfl ?_
  refine r_iconst (v := 0) dX3_init_20 kic_0 ?_
  refine pf_X3_3 0 rfl (Nat.le_of_ble_eq_true rfl) qw_100 dX3_init_21 (ws' := [(h, .inr (3, [.int 0, .int 0, .int 0, .int 0, .int 0, .int 0]))]) rfl ?_
  refine r_aload_n dX3_init_24 0 rfl ?_
  refine r_iconst (v := 0) dX3_init_25 kic_0 ?_
  refine pf_X3_4 0 rfl (Nat.le_of_ble_eq_true rfl) qw_103 dX3_init_26 (ws' := [(h, .inr (3, [.int 0, .int 0, .int 0, .int 0, .int 0, .int 0]))]) rfl ?_
  refine r_aload_n dX3_init_29 0 rfl ?_
  refine r_iconst (v := 0) dX3_init_30 kic_0 ?_
  refine pf_X3_5 0 rfl (Nat.le_of_ble_eq_true rfl) qw_106 dX3_init_31 (ws' := [(h, .inr (3, [.int 0, .int 0, .int 0, .int 0, .int 0, .int 0]))]) rfl ?_
  exact r_vretN hE rfl (Nat.le_refl _) (Nat.le_refl _) dX3_init_34
abbrev rm_X2_init : Room := { frames := 1, cells := 1, slots := 120, locals := 40 }
set_option maxHeartbeats 4000000 in
set_option maxRecDepth 100000 in
theorem c_X2_init (Z : GZ) (l : Launch) (h : Nat) : ConN Z l yX2_init cX2_init 1 rm_X2_init [.ref h] [(h, .inr (2, [.null, .int 0]))] 1 120 (fun nw => ∃ hd, nw = wJ Z h hd (fun _ => 0) 0) := by
  refine ConN.of (by decide) rfl (Nat.le_of_ble_eq_true rfl) ?_
  intro X hn hm hE
  show AtK X Z rm_X2_init cX2_init RX2 1 0 0 [(h, .inr (2, [.null, .int 0]))] 0 [(0, .ref h)] []
  refine r_aload_n dX2_init_0 0 rfl ?_
  refine r_obj qw_155 qw_54 qw_55 (Nat.le_of_ble_eq_true rfl) (Nat.le_of_ble_eq_true rfl) dX2_init_1 ?_
  refine r_aload_n dX2_init_4 0 rfl ?_
  refine r_bipush (v := 120) dX2_init_5 kbp_120 ?_
  refine r_newa hn qw_84 (N := 120) (by decide) (by decide) (by decide) ⟨Nat.le_of_ble_eq_true rfl, Nat.le_of_ble_eq_true rfl⟩ dX2_init_7 (fun q7 => ?_)
  refine r_putF hm (T := TX2) (N := 2) kX2 rfl 0 (by decide) rfl tyX2 tyX2_ok nmX2 rfl rfl (ty := tyX2 0) (by decide +kernel) rfl rfl 0 rfl (Nat.le_of_ble_eq_true rfl) qw_156 dX2_init_9 (ws' := [(h, .inr (2, [.ref q7, .int 0])), (q7, .inl (Z.2.1, 120, .inl (fun _ => 0)))]) rfl ?_
  refine r_aload_n dX2_init_12 0 rfl ?_
  refine r_iconst (v := 0) dX2_init_13 kic_0 ?_
  refine pf_X2_1 0 rfl (Nat.le_of_ble_eq_true rfl) qw_157 dX2_init_14 (ws' := [(h, .inr (2, [.ref q7, .int 0])), (q7, .inl (Z.2.1, 120, .inl (fun _ => 0)))]) rfl ?_
  exact r_vretN hE ⟨_, rfl⟩ (Nat.le_refl _) (Nat.le_refl _) dX2_init_17
def w0F (x : Nat) : Int32 := if x = 5 then 1 else if x < 5 then 0 else 65535
abbrev rm_X0_init : Room := { frames := 1, cells := 2, slots := 115, locals := 40 }
set_option maxHeartbeats 4000000 in
set_option maxRecDepth 100000 in
theorem c_X0_init (Z : GZ) (l : Launch) (h : Nat) : ConN Z l yX0_init cX0_init 2 rm_X0_init [.ref h] [(h, .inr (0, [.null, .null, .int 0, .int 0]))] 2 115 (fun nw => ∃ hw he w, nw = wF Z h hw he w (fun _ => 0) (upd (fun _ => 0) 1 (-9)) ∧ ∀ x, x < 110 → w x = w0F x) := by
  refine ConN.of (by decide) rfl (Nat.le_of_ble_eq_true rfl) ?_
  intro X hn hm hE
  show AtK X Z rm_X0_init cX0_init RX0 2 0 0 [(h, .inr (0, [.null, .null, .int 0, .int 0]))] 0 [(0, .ref h)] []
  refine r_aload_n dX0_init_0 0 rfl ?_
  refine r_obj qw_67 qw_54 qw_55 (Nat.le_of_ble_eq_true rfl) (Nat.le_of_ble_eq_true rfl) dX0_init_1 ?_
  refine r_aload_n dX0_init_4 0 rfl ?_
  refine r_bipush (v := 110) dX0_init_5 kbp_110 ?_
  refine r_newa hn qw_84 (N := 110) (by decide) (by decide) (by decide) ⟨Nat.le_of_ble_eq_true rfl, Nat.le_of_ble_eq_true rfl⟩ dX0_init_7 (fun q7 => ?_)
  refine r_putF hm (T := TX0) (N := 4) kX0 rfl 0 (by decide) rfl tyX0 tyX0_ok nmX0 rfl rfl (ty := tyX0 0) (by decide +kernel) rfl rfl 0 rfl (Nat.le_of_ble_eq_true rfl) qw_69 dX0_init_9 (ws' := [(h, .inr (0, [.ref q7, .null, .int 0, .int 0])), (q7, .inl (Z.2.1, 110, .inl (fun _ => 0)))]) rfl ?_
  refine r_aload_n dX0_init_12 0 rfl ?_
  refine r_iconst (v := 5) dX0_init_13 kic_5 ?_
  refine r_newa hn qw_84 (N := 5) (by decide) (by decide) (by decide) ⟨Nat.le_of_ble_eq_true rfl, Nat.le_of_ble_eq_true rfl⟩ dX0_init_14 (fun q14 => ?_)
  refine r_putF hm (T := TX0) (N := 4) kX0 rfl 1 (by decide) rfl tyX0 tyX0_ok nmX0 rfl rfl (ty := tyX0 1) (by decide +kernel) rfl rfl 0 rfl (Nat.le_of_ble_eq_true rfl) qw_70 dX0_init_16 (ws' := [(h, .inr (0, [.ref q7, .ref q14, .int 0, .int 0])), (q7, .inl (Z.2.1, 110, .inl (fun _ => 0))), (q14, .inl (Z.2.1, 5, .inl (fun _ => 0)))]) rfl ?_
  refine r_aload_n dX0_init_19 0 rfl ?_
  refine r_iconst (v := 0) dX0_init_20 kic_0 ?_
  refine pf_X0_2 0 rfl (Nat.le_of_ble_eq_true rfl) qw_71 dX0_init_21 (ws' := [(h, .inr (0, [.ref q7, .ref q14, .int 0, .int 0])), (q7, .inl (Z.2.1, 110, .inl (fun _ => 0))), (q14, .inl (Z.2.1, 5, .inl (fun _ => 0)))]) rfl ?_
  refine r_aload_n dX0_init_24 0 rfl ?_
  refine r_bipush (v := (-9)) dX0_init_25 kbp_m9 ?_
  refine pf_X0_3 0 rfl (Nat.le_of_ble_eq_true rfl) qw_73 dX0_init_27 (ws' := [(h, .inr (0, [.ref q7, .ref q14, .int 0, .int (-9)])), (q7, .inl (Z.2.1, 110, .inl (fun _ => 0))), (q14, .inl (Z.2.1, 5, .inl (fun _ => 0)))]) rfl ?_
  refine r_iconst (v := 0) dX0_init_30 kic_0 ?_
  refine r_istore_n (lv' := [(1, .int 0), (0, .ref h)]) dX0_init_31 (by decide) rfl ?_
  -- the loop, and what stands behind it
  have J : ∀ (k i : Nat) (w : Nat → Int32), i + k = 110 → (∀ x, x < i → w x = if x < 5 then 0 else 65535) → AtK X Z rm_X0_init cX0_init RX0 2 2 115 (wF Z h q7 q14 w (fun _ => 0) (upd (fun _ => 0) 1 (-9))) 32 [(1, .int (nI i)), (0, .ref h)] [] := by
    intro k
    induction k with
    | zero =>
      intro i w hi hw
      rw [show i = 110 by omega] at hw ⊢
      refine r_iload_n dX0_init_32 0 rfl ?_
      refine r_aload_n dX0_init_33 1 rfl ?_
      refine gf_X0_0 (v := .ref q7) 0 rfl rfl qw_69 dX0_init_34 ?_
      refine r_alen 1 0 rfl rfl (v := 110) (by decide) dX0_init_37 ?_
      refine r_icmp_ge (tgt := 64) dX0_init_38 (by decide) (fun _ => ?_) (fun hh => absurd (show (110 : Int32) ≤ nI 110 by decide) hh)
      refine r_aload_n dX0_init_64 1 rfl ?_
      refine gf_X0_0 (v := .ref q7) 0 rfl rfl qw_69 dX0_init_65 ?_
      refine r_iconst (v := 5) dX0_init_68 kic_5 ?_
      refine r_iconst (v := 1) dX0_init_69 kic_1 ?_
      refine r_iast 1 rfl (j := 5) (by decide) (by decide) dX0_init_70 (ws' := wF Z h q7 q14 (upd w 5 1) (fun _ => 0) (upd (fun _ => 0) 1 (-9))) rfl ?_
      exact r_vretN hE ⟨q7, q14, upd w 5 1, rfl, fun x hx => by
        by_cases h5 : x = 5
        · subst h5; simp [upd, w0F]
        · simp only [upd, if_neg h5, w0F]; exact hw x hx⟩ (Nat.le_refl _) (Nat.le_refl _) dX0_init_71
    | succ k ih =>
      intro i w hi hw
      refine r_iload_n dX0_init_32 0 rfl ?_
      refine r_aload_n dX0_init_33 1 rfl ?_
      refine gf_X0_0 (v := .ref q7) 0 rfl rfl qw_69 dX0_init_34 ?_
      refine r_alen 1 0 rfl rfl (v := 110) (by decide) dX0_init_37 ?_
      refine r_icmp_ge (tgt := 64) dX0_init_38 (by decide) (fun hh => absurd hh (nI_ge (a := i) (b := 110) (by omega) (by decide))) (fun _ => ?_)
      refine r_aload_n dX0_init_41 1 rfl ?_
      refine gf_X0_0 (v := .ref q7) 0 rfl rfl qw_69 dX0_init_42 ?_
      refine r_iload_n dX0_init_45 0 rfl ?_
      refine r_iload_n dX0_init_46 0 rfl ?_
      refine r_iconst (v := 5) dX0_init_47 kic_5 ?_
      have step : ∀ v : Int32, v = (if i < 5 then 0 else 65535) → AtK X Z rm_X0_init cX0_init RX0 2 2 115 (wF Z h q7 q14 w (fun _ => 0) (upd (fun _ => 0) 1 (-9))) 57 [(1, .int (nI i)), (0, .ref h)] [.int v, .int (nI i), .ref q7] := by
        intro v hv
        refine r_iast 1 rfl (j := i) (nI_clamp (by omega)) (cond_nI (by omega) (by decide)) dX0_init_57 (ws' := wF Z h q7 q14 (upd w i v) (fun _ => 0) (upd (fun _ => 0) 1 (-9))) rfl ?_
        refine r_iinc (v := nI (i + 1)) (lv' := [(1, .int (nI (i + 1))), (0, .ref h)]) dX0_init_58 (k := 0) rfl (nI_s i) (by decide) rfl ?_
        refine r_goto (tgt := 32) dX0_init_61 (by decide) ?_
        refine ih (i + 1) (upd w i v) (by omega) (fun x hx => ?_)
        by_cases hx2 : x = i
        · subst hx2; simp only [upd, if_true]; exact hv
        · simp only [upd, if_neg hx2]; exact hw x (by omega)
      refine r_icmp_ge (tgt := 55) dX0_init_48 (by decide) (fun hh => ?_) (fun hh => ?_)
      · refine r_ldc qw_68 dX0_init_55 ?_
        exact step 65535 (by rw [if_neg (fun z => nI_ge (a := i) (b := 5) z (by decide) hh)])
      · refine r_iconst (v := 0) dX0_init_51 kic_0 ?_
        refine r_goto (tgt := 57) dX0_init_52 (by decide) ?_
        exact step 0 (by rw [if_pos (Nat.lt_of_not_le (fun z => hh (nI_le (a := 5) (b := i) z (by omega))))])
  exact J 110 0 (fun _ => 0) rfl (fun x hx => absurd hx (Nat.not_lt_zero x))
def aF (a0 a1 a2 a3 a4 a5 : Nat) : Nat → Nat
  | 0 => a0
  | 1 => a1
  | 2 => a2
  | 3 => a3
  | 4 => a4
  | _ => a5
/-- a printer as it is made -/
def iniP (w er fl me p pr : Nat → Int32) : Prop := (∀ x, x < 110 → w x = w0F x) ∧ (∀ x, x < 5 → er x = 0) ∧ fl 0 = 0 ∧ fl 1 = -9 ∧ (∀ x, me x = 0) ∧ p 0 = 150 ∧ p 1 = 250 ∧ p 2 = 400 ∧ p 3 = 800 ∧ pr 0 = 1 ∧ pr 1 = 0 ∧ pr 2 = 0 ∧ pr 3 = 0
abbrev rm_X5_init : Room := { frames := 2, cells := 5, slots := 129, locals := 80 }
set_option maxHeartbeats 4000000 in
set_option maxRecDepth 100000 in
theorem c_X5_init (Z : GZ) (l : Launch) (h : Nat) : ConN Z l yX5_init cX5_init 1 rm_X5_init [.ref h] [(h, .inr (5, [.null, .null, .null, .int 0, .int 0, .int 0, .int 0]))] 5 129 (fun nw => ∃ (a : Nat → Nat) (w er fl me p pr : Nat → Int32), a 0 = h ∧ nw = wP Z a w er fl me p pr ∧ iniP w er fl me p pr) := by
  refine ConN.of (by decide) rfl (Nat.le_of_ble_eq_true rfl) ?_
  intro X hn hm hE
  show AtK X Z rm_X5_init cX5_init RX5 1 0 0 [(h, .inr (5, [.null, .null, .null, .int 0, .int 0, .int 0, .int 0]))] 0 [(0, .ref h)] []
  refine r_aload_n dX5_init_0 0 rfl ?_
  refine r_obj qw_61 qw_54 qw_55 (Nat.le_of_ble_eq_true rfl) (Nat.le_of_ble_eq_true rfl) dX5_init_1 ?_
  refine r_aload_n dX5_init_4 0 rfl ?_
  refine r_new (ci := 0) hn kX0 tyX0 tyX0_ok rfl (fs := [.null, .null, .int 0, .int 0]) (fun j hj => by rcases (show j = 0 ∨ j = 1 ∨ j = 2 ∨ j = 3 by omega) with rfl | rfl | rfl | rfl <;> rfl) qw_62 qw_63 qw_40 ⟨Nat.le_of_ble_eq_true rfl, Nat.le_of_ble_eq_true rfl⟩ dX5_init_5 (fun q5 => ?_)
  refine r_dup dX5_init_8 rfl ?_
  refine r_init hn (fun l => c_X0_init Z l q5) qw_64 mi_X0_init ⟨Nat.le_of_ble_eq_true rfl, Nat.le_of_ble_eq_true rfl⟩ ⟨rfl, rfl⟩ ⟨Nat.le_of_ble_eq_true rfl, Nat.le_of_ble_eq_true rfl⟩ (Nat.le_of_ble_eq_true rfl) dX5_init_9 (fun nw9 hnw9 => ?_)
  obtain ⟨hw9, he9, w9, rfl, hf9⟩ := hnw9
  refine r_putF hm (T := TX5) (N := 7) kX5 rfl 0 (by decide) rfl tyX5 tyX5_ok nmX5 rfl rfl (ty := tyX5 0) (by decide +kernel) rfl rfl 0 rfl (Nat.le_of_ble_eq_true rfl) qw_122 dX5_init_12 (ws' := [(h, .inr (5, [.ref q5, .null, .null, .int 0, .int 0, .int 0, .int 0])), (q5, .inr (0, [.ref hw9, .ref he9, .int 0, .int (-9)])), (hw9, .inl (Z.2.1, 110, .inl w9)), (he9, .inl (Z.2.1, 5, .inl (fun _ => 0)))]) rfl ?_
  refine r_aload_n dX5_init_15 0 rfl ?_
  refine r_new (ci := 3) hn kX3 tyX3 tyX3_ok rfl (fs := [.int 0, .int 0, .int 0, .int 0, .int 0, .int 0]) (fun j hj => by rcases (show j = 0 ∨ j = 1 ∨ j = 2 ∨ j = 3 ∨ j = 4 ∨ j = 5 by omega) with rfl | rfl | rfl | rfl | rfl | rfl <;> rfl) qw_85 qw_86 qw_41 ⟨Nat.le_of_ble_eq_true rfl, Nat.le_of_ble_eq_true rfl⟩ dX5_init_16 (fun q16 => ?_)
  refine r_dup dX5_init_19 rfl ?_
  refine r_initN hn (fun l => c_X3_init Z l q16) qw_87 mi_X3_init ⟨Nat.le_of_ble_eq_true rfl, Nat.le_of_ble_eq_true rfl⟩ ⟨rfl, rfl⟩ ⟨Nat.le_of_ble_eq_true rfl, Nat.le_of_ble_eq_true rfl⟩ (Nat.le_of_ble_eq_true rfl) dX5_init_20 (fun nw20 hnw20 => ?_)
  obtain rfl := hnw20
  refine r_putF hm (T := TX5) (N := 7) kX5 rfl 1 (by decide) rfl tyX5 tyX5_ok nmX5 rfl rfl (ty := tyX5 1) (by decide +kernel) rfl rfl 0 rfl (Nat.le_of_ble_eq_true rfl) qw_124 dX5_init_23 (ws' := [(h, .inr (5, [.ref q5, .ref q16, .null, .int 0, .int 0, .int 0, .int 0])), (q5, .inr (0, [.ref hw9, .ref he9, .int 0, .int (-9)])), (hw9, .inl (Z.2.1, 110, .inl w9)), (he9, .inl (Z.2.1, 5, .inl (fun _ => 0))), (q16, .inr (3, [.int 0, .int 0, .int 0, .int 0, .int 0, .int 0]))]) rfl ?_
  refine r_aload_n dX5_init_26 0 rfl ?_
  refine r_iconst (v := 4) dX5_init_27 kic_4 ?_
  refine r_newa hn qw_84 (N := 4) (by decide) (by decide) (by decide) ⟨Nat.le_of_ble_eq_true rfl, Nat.le_of_ble_eq_true rfl⟩ dX5_init_28 (fun q28 => ?_)
  refine r_dup dX5_init_30 rfl ?_
  refine r_iconst (v := 0) dX5_init_31 kic_0 ?_
  refine r_sipush (v := 150) dX5_init_32 ksp_150 ?_
  refine r_iast 5 rfl (j := 0) (by decide) (by decide) dX5_init_35 (ws' := [(h, .inr (5, [.ref q5, .ref q16, .null, .int 0, .int 0, .int 0, .int 0])), (q5, .inr (0, [.ref hw9, .ref he9, .int 0, .int (-9)])), (hw9, .inl (Z.2.1, 110, .inl w9)), (he9, .inl (Z.2.1, 5, .inl (fun _ => 0))), (q16, .inr (3, [.int 0, .int 0, .int 0, .int 0, .int 0, .int 0])), (q28, .inl (Z.2.1, 4, .inl (upd (fun _ => 0) 0 150)))]) rfl ?_
  refine r_dup dX5_init_36 rfl ?_
  refine r_iconst (v := 1) dX5_init_37 kic_1 ?_
  refine r_sipush (v := 250) dX5_init_38 ksp_250 ?_
  refine r_iast 5 rfl (j := 1) (by decide) (by decide) dX5_init_41 (ws' := [(h, .inr (5, [.ref q5, .ref q16, .null, .int 0, .int 0, .int 0, .int 0])), (q5, .inr (0, [.ref hw9, .ref he9, .int 0, .int (-9)])), (hw9, .inl (Z.2.1, 110, .inl w9)), (he9, .inl (Z.2.1, 5, .inl (fun _ => 0))), (q16, .inr (3, [.int 0, .int 0, .int 0, .int 0, .int 0, .int 0])), (q28, .inl (Z.2.1, 4, .inl (upd (upd (fun _ => 0) 0 150) 1 250)))]) rfl ?_
  refine r_dup dX5_init_42 rfl ?_
  refine r_iconst (v := 2) dX5_init_43 kic_2 ?_
  refine r_sipush (v := 400) dX5_init_44 ksp_400 ?_
  refine r_iast 5 rfl (j := 2) (by decide) (by decide) dX5_init_47 (ws' := [(h, .inr (5, [.ref q5, .ref q16, .null, .int 0, .int 0, .int 0, .int 0])), (q5, .inr (0, [.ref hw9, .ref he9, .int 0, .int (-9)])), (hw9, .inl (Z.2.1, 110, .inl w9)), (he9, .inl (Z.2.1, 5, .inl (fun _ => 0))), (q16, .inr (3, [.int 0, .int 0, .int 0, .int 0, .int 0, .int 0])), (q28, .inl (Z.2.1, 4, .inl (upd (upd (upd (fun _ => 0) 0 150) 1 250) 2 400)))]) rfl ?_
  refine r_dup dX5_init_48 rfl ?_
  refine r_iconst (v := 3) dX5_init_49 kic_3 ?_
  refine r_sipush (v := 800) dX5_init_50 ksp_800 ?_
  refine r_iast 5 rfl (j := 3) (by decide) (by decide) dX5_init_53 (ws' := [(h, .inr (5, [.ref q5, .ref q16, .null, .int 0, .int 0, .int 0, .int 0])), (q5, .inr (0, [.ref hw9, .ref he9, .int 0, .int (-9)])), (hw9, .inl (Z.2.1, 110, .inl w9)), (he9, .inl (Z.2.1, 5, .inl (fun _ => 0))), (q16, .inr (3, [.int 0, .int 0, .int 0, .int 0, .int 0, .int 0])), (q28, .inl (Z.2.1, 4, .inl (upd (upd (upd (upd (fun _ => 0) 0 150) 1 250) 2 400) 3 800)))]) rfl ?_
  refine r_putF hm (T := TX5) (N := 7) kX5 rfl 2 (by decide) rfl tyX5 tyX5_ok nmX5 rfl rfl (ty := tyX5 2) (by decide +kernel) rfl rfl 0 rfl (Nat.le_of_ble_eq_true rfl) qw_126 dX5_init_54 (ws' := [(h, .inr (5, [.ref q5, .ref q16, .ref q28, .int 0, .int 0, .int 0, .int 0])), (q5, .inr (0, [.ref hw9, .ref he9, .int 0, .int (-9)])), (hw9, .inl (Z.2.1, 110, .inl w9)), (he9, .inl (Z.2.1, 5, .inl (fun _ => 0))), (q16, .inr (3, [.int 0, .int 0, .int 0, .int 0, .int 0, .int 0])), (q28, .inl (Z.2.1, 4, .inl (upd (upd (upd (upd (fun _ => 0) 0 150) 1 250) 2 400) 3 800)))]) rfl ?_
  refine r_aload_n dX5_init_57 0 rfl ?_
  refine r_iconst (v := 1) dX5_init_58 kic_1 ?_
  refine pf_X5_3 (by decide) 0 rfl (Nat.le_of_ble_eq_true rfl) qw_127 dX5_init_59 (ws' := [(h, .inr (5, [.ref q5, .ref q16, .ref q28, .int 1, .int 0, .int 0, .int 0])), (q5, .inr (0, [.ref hw9, .ref he9, .int 0, .int (-9)])), (hw9, .inl (Z.2.1, 110, .inl w9)), (he9, .inl (Z.2.1, 5, .inl (fun _ => 0))), (q16, .inr (3, [.int 0, .int 0, .int 0, .int 0, .int 0, .int 0])), (q28, .inl (Z.2.1, 4, .inl (upd (upd (upd (upd (fun _ => 0) 0 150) 1 250) 2 400) 3 800)))]) rfl ?_
  refine r_aload_n dX5_init_62 0 rfl ?_
  refine r_iconst (v := 0) dX5_init_63 kic_0 ?_
  refine pf_X5_4 0 rfl (Nat.le_of_ble_eq_true rfl) qw_129 dX5_init_64 (ws' := [(h, .inr (5, [.ref q5, .ref q16, .ref q28, .int 1, .int 0, .int 0, .int 0])), (q5, .inr (0, [.ref hw9, .ref he9, .int 0, .int (-9)])), (hw9, .inl (Z.2.1, 110, .inl w9)), (he9, .inl (Z.2.1, 5, .inl (fun _ => 0))), (q16, .inr (3, [.int 0, .int 0, .int 0, .int 0, .int 0, .int 0])), (q28, .inl (Z.2.1, 4, .inl (upd (upd (upd (upd (fun _ => 0) 0 150) 1 250) 2 400) 3 800)))]) rfl ?_
  refine r_aload_n dX5_init_67 0 rfl ?_
  refine r_iconst (v := 0) dX5_init_68 kic_0 ?_
  refine pf_X5_5 0 rfl (Nat.le_of_ble_eq_true rfl) qw_131 dX5_init_69 (ws' := [(h, .inr (5, [.ref q5, .ref q16, .ref q28, .int 1, .int 0, .int 0, .int 0])), (q5, .inr (0, [.ref hw9, .ref he9, .int 0, .int (-9)])), (hw9, .inl (Z.2.1, 110, .inl w9)), (he9, .inl (Z.2.1, 5, .inl (fun _ => 0))), (q16, .inr (3, [.int 0, .int 0, .int 0, .int 0, .int 0, .int 0])), (q28, .inl (Z.2.1, 4, .inl (upd (upd (upd (upd (fun _ => 0) 0 150) 1 250) 2 400) 3 800)))]) rfl ?_
  refine r_aload_n dX5_init_72 0 rfl ?_
  refine r_iconst (v := 0) dX5_init_73 kic_0 ?_
  refine pf_X5_6 0 rfl (Nat.le_of_ble_eq_true rfl) qw_133 dX5_init_74 (ws' := [(h, .inr (5, [.ref q5, .ref q16, .ref q28, .int 1, .int 0, .int 0, .int 0])), (q5, .inr (0, [.ref hw9, .ref he9, .int 0, .int (-9)])), (hw9, .inl (Z.2.1, 110, .inl w9)), (he9, .inl (Z.2.1, 5, .inl (fun _ => 0))), (q16, .inr (3, [.int 0, .int 0, .int 0, .int 0, .int 0, .int 0])), (q28, .inl (Z.2.1, 4, .inl (upd (upd (upd (upd (fun _ => 0) 0 150) 1 250) 2 400) 3 800)))]) rfl ?_
  exact r_vretN hE ⟨aF h q5 hw9 he9 q16 q28, w9, fun _ => 0, upd (fun _ => 0) 1 (-9), fun _ => 0, upd (upd (upd (upd (fun _ => 0) 0 150) 1 250) 2 400) 3 800, upd (fun _ => 0) 0 1, rfl, rfl, hf9, fun _ _ => rfl, rfl, rfl, fun _ => rfl, rfl, rfl, rfl, rfl, rfl, rfl, rfl, rfl⟩ (Nat.le_refl _) (Nat.le_refl _) dX5_init_77
abbrev rm_X1_init : Room := { frames := 3, cells := 6, slots := 136, locals := 120 }
set_option maxHeartbeats 4000000 in
set_option maxRecDepth 100000 in
theorem c_X1_init (Z : GZ) (l : Launch) (h : Nat) : ConN Z l yX1_init cX1_init 1 rm_X1_init [.ref h] [(h, .inr (1, [.null, .int 0]))] 6 136 (fun nw => ∃ (a : Nat → Nat) (w er fl me p pr : Nat → Int32), nw = (h, .inr (1, [.ref (a 0), .int 0])) :: wP Z a w er fl me p pr ∧ iniP w er fl me p pr) := by
  refine ConN.of (by decide) rfl (Nat.le_of_ble_eq_true rfl) ?_
  intro X hn hm hE
  show AtK X Z rm_X1_init cX1_init RX1 1 0 0 [(h, .inr (1, [.null, .int 0]))] 0 [(0, .ref h)] []
  refine r_aload_n dX1_init_0 0 rfl ?_
  refine r_obj qw_189 qw_54 qw_55 (Nat.le_of_ble_eq_true rfl) (Nat.le_of_ble_eq_true rfl) dX1_init_1 ?_
  refine r_aload_n dX1_init_4 0 rfl ?_
  refine r_new (ci := 5) hn kX5 tyX5 tyX5_ok rfl (fs := [.null, .null, .null, .int 0, .int 0, .int 0, .int 0]) (fun j hj => by rcases (show j = 0 ∨ j = 1 ∨ j = 2 ∨ j = 3 ∨ j = 4 ∨ j = 5 ∨ j = 6 by omega) with rfl | rfl | rfl | rfl | rfl | rfl | rfl <;> rfl) qw_190 qw_57 qw_39 ⟨Nat.le_of_ble_eq_true rfl, Nat.le_of_ble_eq_true rfl⟩ dX1_init_5 (fun q5 => ?_)
  refine r_dup dX1_init_8 rfl ?_
  refine r_initN hn (fun l => c_X5_init Z l q5) qw_191 mi_X5_init ⟨Nat.le_of_ble_eq_true rfl, Nat.le_of_ble_eq_true rfl⟩ ⟨rfl, rfl⟩ ⟨Nat.le_of_ble_eq_true rfl, Nat.le_of_ble_eq_true rfl⟩ (Nat.le_of_ble_eq_true rfl) dX1_init_9 (fun nw9 hnw9 => ?_)
  obtain ⟨a9, w9, er9, fl9, me9, p9, pr9, rfl, rfl, hi9⟩ := hnw9
  refine r_putF hm (T := TX1) (N := 2) kX1 rfl 0 (by decide) rfl tyX1 tyX1_ok nmX1 rfl rfl (ty := tyX1 0) (by decide +kernel) rfl rfl 0 rfl (Nat.le_of_ble_eq_true rfl) qw_192 dX1_init_12 (ws' := [(h, .inr (1, [.ref (a9 0), .int 0])), ((a9 0), .inr (5, [.ref (a9 1), .ref (a9 4), .ref (a9 5), .int (pr9 0), .int (pr9 1), .int (pr9 2), .int (pr9 3)])), ((a9 1), .inr (0, [.ref (a9 2), .ref (a9 3), .int (fl9 0), .int (fl9 1)])), ((a9 2), .inl (Z.2.1, 110, .inl w9)), ((a9 3), .inl (Z.2.1, 5, .inl er9)), ((a9 4), .inr (3, [.int (me9 0), .int (me9 1), .int (me9 2), .int (me9 3), .int (me9 4), .int (me9 5)])), ((a9 5), .inl (Z.2.1, 4, .inl p9))]) rfl ?_
  refine r_aload_n dX1_init_15 0 rfl ?_
  refine r_iconst (v := 0) dX1_init_16 kic_0 ?_
  refine pf_X1_1 (by decide) 0 rfl (Nat.le_of_ble_eq_true rfl) qw_194 dX1_init_17 (ws' := [(h, .inr (1, [.ref (a9 0), .int 0])), ((a9 0), .inr (5, [.ref (a9 1), .ref (a9 4), .ref (a9 5), .int (pr9 0), .int (pr9 1), .int (pr9 2), .int (pr9 3)])), ((a9 1), .inr (0, [.ref (a9 2), .ref (a9 3), .int (fl9 0), .int (fl9 1)])), ((a9 2), .inl (Z.2.1, 110, .inl w9)), ((a9 3), .inl (Z.2.1, 5, .inl er9)), ((a9 4), .inr (3, [.int (me9 0), .int (me9 1), .int (me9 2), .int (me9 3), .int (me9 4), .int (me9 5)])), ((a9 5), .inl (Z.2.1, 4, .inl p9))]) rfl ?_
  exact r_vretN hE ⟨a9, w9, er9, fl9, me9, p9, pr9, rfl, hi9⟩ (Nat.le_refl _) (Nat.le_refl _) dX1_init_20
def aX (a0 a1 a2 a3 a4 a5 a6 a7 : Nat) : Nat → Nat
  | 0 => a0
  | 1 => a1
  | 2 => a2
  | 3 => a3
  | 4 => a4
  | 5 => a5
  | 6 => a6
  | _ => a7
/-- the reference's row as it is made -/
def m0F (x : Nat) : Int32 := if x = 130 then 800 else if x = 129 then 400 else if x = 128 then 250 else if x = 127 then 150 else if x = 126 then -9 else if x = 115 then 1 else if x < 110 then w0F x else 0
abbrev rm_X7_init : Room := { frames := 1, cells := 7, slots := 1614, locals := 40 }
set_option maxHeartbeats 4000000 in
set_option maxRecDepth 100000 in
theorem c_X7_init (Z : GZ) (l : Launch) (h : Nat) : ConN Z l yX7_init cX7_init 2 rm_X7_init [.ref h] [(h, .inr (7, [.null, .null, .int 0, .null, .null, .null, .null, .null, .int 0]))] 7 1614 (fun nw => ∃ (a : Nat → Nat) (m : Nat → Int32), a 0 = h ∧ nw = wX Z a m (fun _ => 0) (fun _ => 0) (fun _ => 0) (fun _ => 0) (fun _ => 0) (fun _ => 0) (fun _ => 0) ∧ ∀ x, x < 131 → m x = m0F x) := by
  refine ConN.of (by decide) rfl (Nat.le_of_ble_eq_true rfl) ?_
  intro X hn hm hE
  show AtK X Z rm_X7_init cX7_init RX7 2 0 0 [(h, .inr (7, [.null, .null, .int 0, .null, .null, .null, .null, .null, .int 0]))] 0 [(0, .ref h)] []
  refine r_aload_n dX7_init_0 0 rfl ?_
  refine r_obj qw_584 qw_54 qw_55 (Nat.le_of_ble_eq_true rfl) (Nat.le_of_ble_eq_true rfl) dX7_init_1 ?_
  refine r_aload_n dX7_init_4 0 rfl ?_
  refine r_sipush (v := 131) dX7_init_5 ksp_131 ?_
  refine r_newa hn qw_84 (N := 131) (by decide) (by decide) (by decide) ⟨Nat.le_of_ble_eq_true rfl, Nat.le_of_ble_eq_true rfl⟩ dX7_init_8 (fun q8 => ?_)
  refine r_putF hm (T := TX7) (N := 9) kX7 rfl 0 (by decide) rfl tyX7 tyX7_ok nmX7 rfl rfl (ty := tyX7 0) (by decide +kernel) rfl rfl 0 rfl (Nat.le_of_ble_eq_true rfl) qw_586 dX7_init_10 (ws' := [(h, .inr (7, [.ref q8, .null, .int 0, .null, .null, .null, .null, .null, .int 0])), (q8, .inl (Z.2.1, 131, .inl (fun _ => 0)))]) rfl ?_
  refine r_aload_n dX7_init_13 0 rfl ?_
  refine r_sipush (v := 1048) dX7_init_14 ksp_1048 ?_
  refine r_newa hn qw_84 (N := 1048) (by decide) (by decide) (by decide) ⟨Nat.le_of_ble_eq_true rfl, Nat.le_of_ble_eq_true rfl⟩ dX7_init_17 (fun q17 => ?_)
  refine r_putF hm (T := TX7) (N := 9) kX7 rfl 1 (by decide) rfl tyX7 tyX7_ok nmX7 rfl rfl (ty := tyX7 1) (by decide +kernel) rfl rfl 0 rfl (Nat.le_of_ble_eq_true rfl) qw_587 dX7_init_19 (ws' := [(h, .inr (7, [.ref q8, .ref q17, .int 0, .null, .null, .null, .null, .null, .int 0])), (q8, .inl (Z.2.1, 131, .inl (fun _ => 0))), (q17, .inl (Z.2.1, 1048, .inl (fun _ => 0)))]) rfl ?_
  refine r_aload_n dX7_init_22 0 rfl ?_
  refine r_sipush (v := 262) dX7_init_23 ksp_262 ?_
  refine r_newa hn qw_84 (N := 262) (by decide) (by decide) (by decide) ⟨Nat.le_of_ble_eq_true rfl, Nat.le_of_ble_eq_true rfl⟩ dX7_init_26 (fun q26 => ?_)
  refine r_putF hm (T := TX7) (N := 9) kX7 rfl 3 (by decide) rfl tyX7 tyX7_ok nmX7 rfl rfl (ty := tyX7 3) (by decide +kernel) rfl rfl 0 rfl (Nat.le_of_ble_eq_true rfl) qw_589 dX7_init_28 (ws' := [(h, .inr (7, [.ref q8, .ref q17, .int 0, .ref q26, .null, .null, .null, .null, .int 0])), (q8, .inl (Z.2.1, 131, .inl (fun _ => 0))), (q17, .inl (Z.2.1, 1048, .inl (fun _ => 0))), (q26, .inl (Z.2.1, 262, .inl (fun _ => 0)))]) rfl ?_
  refine r_aload_n dX7_init_31 0 rfl ?_
  refine r_iconst (v := 2) dX7_init_32 kic_2 ?_
  refine r_newa hn qw_84 (N := 2) (by decide) (by decide) (by decide) ⟨Nat.le_of_ble_eq_true rfl, Nat.le_of_ble_eq_true rfl⟩ dX7_init_33 (fun q33 => ?_)
  refine r_putF hm (T := TX7) (N := 9) kX7 rfl 4 (by decide) rfl tyX7 tyX7_ok nmX7 rfl rfl (ty := tyX7 4) (by decide +kernel) rfl rfl 0 rfl (Nat.le_of_ble_eq_true rfl) qw_590 dX7_init_35 (ws' := [(h, .inr (7, [.ref q8, .ref q17, .int 0, .ref q26, .ref q33, .null, .null, .null, .int 0])), (q8, .inl (Z.2.1, 131, .inl (fun _ => 0))), (q17, .inl (Z.2.1, 1048, .inl (fun _ => 0))), (q26, .inl (Z.2.1, 262, .inl (fun _ => 0))), (q33, .inl (Z.2.1, 2, .inl (fun _ => 0)))]) rfl ?_
  refine r_aload_n dX7_init_38 0 rfl ?_
  refine r_sipush (v := 131) dX7_init_39 ksp_131 ?_
  refine r_newa hn qw_84 (N := 131) (by decide) (by decide) (by decide) ⟨Nat.le_of_ble_eq_true rfl, Nat.le_of_ble_eq_true rfl⟩ dX7_init_42 (fun q42 => ?_)
  refine r_putF hm (T := TX7) (N := 9) kX7 rfl 5 (by decide) rfl tyX7 tyX7_ok nmX7 rfl rfl (ty := tyX7 5) (by decide +kernel) rfl rfl 0 rfl (Nat.le_of_ble_eq_true rfl) qw_591 dX7_init_44 (ws' := [(h, .inr (7, [.ref q8, .ref q17, .int 0, .ref q26, .ref q33, .ref q42, .null, .null, .int 0])), (q8, .inl (Z.2.1, 131, .inl (fun _ => 0))), (q17, .inl (Z.2.1, 1048, .inl (fun _ => 0))), (q26, .inl (Z.2.1, 262, .inl (fun _ => 0))), (q33, .inl (Z.2.1, 2, .inl (fun _ => 0))), (q42, .inl (Z.2.1, 131, .inl (fun _ => 0)))]) rfl ?_
  refine r_aload_n dX7_init_47 0 rfl ?_
  refine r_bipush (v := 20) dX7_init_48 kbp_20 ?_
  refine r_newa hn qw_84 (N := 20) (by decide) (by decide) (by decide) ⟨Nat.le_of_ble_eq_true rfl, Nat.le_of_ble_eq_true rfl⟩ dX7_init_50 (fun q50 => ?_)
  refine r_putF hm (T := TX7) (N := 9) kX7 rfl 6 (by decide) rfl tyX7 tyX7_ok nmX7 rfl rfl (ty := tyX7 6) (by decide +kernel) rfl rfl 0 rfl (Nat.le_of_ble_eq_true rfl) qw_592 dX7_init_52 (ws' := [(h, .inr (7, [.ref q8, .ref q17, .int 0, .ref q26, .ref q33, .ref q42, .ref q50, .null, .int 0])), (q8, .inl (Z.2.1, 131, .inl (fun _ => 0))), (q17, .inl (Z.2.1, 1048, .inl (fun _ => 0))), (q26, .inl (Z.2.1, 262, .inl (fun _ => 0))), (q33, .inl (Z.2.1, 2, .inl (fun _ => 0))), (q42, .inl (Z.2.1, 131, .inl (fun _ => 0))), (q50, .inl (Z.2.1, 20, .inl (fun _ => 0)))]) rfl ?_
  refine r_aload_n dX7_init_55 0 rfl ?_
  refine r_bipush (v := 20) dX7_init_56 kbp_20 ?_
  refine r_newa hn qw_84 (N := 20) (by decide) (by decide) (by decide) ⟨Nat.le_of_ble_eq_true rfl, Nat.le_of_ble_eq_true rfl⟩ dX7_init_58 (fun q58 => ?_)
  refine r_putF hm (T := TX7) (N := 9) kX7 rfl 7 (by decide) rfl tyX7 tyX7_ok nmX7 rfl rfl (ty := tyX7 7) (by decide +kernel) rfl rfl 0 rfl (Nat.le_of_ble_eq_true rfl) qw_593 dX7_init_60 (ws' := [(h, .inr (7, [.ref q8, .ref q17, .int 0, .ref q26, .ref q33, .ref q42, .ref q50, .ref q58, .int 0])), (q8, .inl (Z.2.1, 131, .inl (fun _ => 0))), (q17, .inl (Z.2.1, 1048, .inl (fun _ => 0))), (q26, .inl (Z.2.1, 262, .inl (fun _ => 0))), (q33, .inl (Z.2.1, 2, .inl (fun _ => 0))), (q42, .inl (Z.2.1, 131, .inl (fun _ => 0))), (q50, .inl (Z.2.1, 20, .inl (fun _ => 0))), (q58, .inl (Z.2.1, 20, .inl (fun _ => 0)))]) rfl ?_
  refine r_iconst (v := 0) dX7_init_63 kic_0 ?_
  refine r_istore_n (lv' := [(1, .int 0), (0, .ref h)]) dX7_init_64 (by decide) rfl ?_
  have J2 : ∀ (k i : Nat) (w : Nat → Int32), i + k = 5 → ((∀ x, x < i → w x = 0) ∧ (∀ x, i ≤ x → x < 110 → w x = 65535) ∧ (∀ x, 110 ≤ x → w x = 0)) → AtK X Z rm_X7_init cX7_init RX7 2 7 1614 (wX Z (aX h q8 q17 q26 q33 q42 q50 q58) w (fun _ => 0) (fun _ => 0) (fun _ => 0) (fun _ => 0) (fun _ => 0) (fun _ => 0) (fun _ => 0)) 87 [(1, .int (nI i)), (0, .ref h)] [] := by
    intro k
    induction k with
    | zero =>
      intro i w hi hw
      rw [show i = 5 by omega] at hw ⊢
      refine r_iload_n dX7_init_87 0 rfl ?_
      refine r_iconst (v := 5) dX7_init_88 kic_5 ?_
      refine r_icmp_ge (tgt := 105) dX7_init_89 (by decide) (fun _ => ?_) (fun hh => absurd (show (5 : Int32) ≤ nI 5 by decide) hh)
      refine r_aload_n dX7_init_105 1 rfl ?_
      refine gf_X7_0 (v := .ref q8) 0 rfl rfl qw_586 dX7_init_106 ?_
      refine r_iconst (v := 5) dX7_init_109 kic_5 ?_
      refine r_iconst (v := 1) dX7_init_110 kic_1 ?_
      refine r_iast 1 rfl (j := 5) (by decide) (by decide) dX7_init_111 (ws' := [(h, .inr (7, [.ref q8, .ref q17, .int 0, .ref q26, .ref q33, .ref q42, .ref q50, .ref q58, .int 0])), (q8, .inl (Z.2.1, 131, .inl (upd w 5 1))), (q17, .inl (Z.2.1, 1048, .inl (fun _ => 0))), (q26, .inl (Z.2.1, 262, .inl (fun _ => 0))), (q33, .inl (Z.2.1, 2, .inl (fun _ => 0))), (q42, .inl (Z.2.1, 131, .inl (fun _ => 0))), (q50, .inl (Z.2.1, 20, .inl (fun _ => 0))), (q58, .inl (Z.2.1, 20, .inl (fun _ => 0)))]) rfl ?_
      refine r_aload_n dX7_init_112 1 rfl ?_
      refine gf_X7_0 (v := .ref q8) 0 rfl rfl qw_586 dX7_init_113 ?_
      refine r_bipush (v := 115) dX7_init_116 kbp_115 ?_
      refine r_iconst (v := 1) dX7_init_118 kic_1 ?_
      refine r_iast 1 rfl (j := 115) (by decide) (by decide) dX7_init_119 (ws' := [(h, .inr (7, [.ref q8, .ref q17, .int 0, .ref q26, .ref q33, .ref q42, .ref q50, .ref q58, .int 0])), (q8, .inl (Z.2.1, 131, .inl (upd (upd w 5 1) 115 1))), (q17, .inl (Z.2.1, 1048, .inl (fun _ => 0))), (q26, .inl (Z.2.1, 262, .inl (fun _ => 0))), (q33, .inl (Z.2.1, 2, .inl (fun _ => 0))), (q42, .inl (Z.2.1, 131, .inl (fun _ => 0))), (q50, .inl (Z.2.1, 20, .inl (fun _ => 0))), (q58, .inl (Z.2.1, 20, .inl (fun _ => 0)))]) rfl ?_
      refine r_aload_n dX7_init_120 1 rfl ?_
      refine gf_X7_0 (v := .ref q8) 0 rfl rfl qw_586 dX7_init_121 ?_
      refine r_bipush (v := 126) dX7_init_124 kbp_126 ?_
      refine r_bipush (v := (-9)) dX7_init_126 kbp_m9 ?_
      refine r_iast 1 rfl (j := 126) (by decide) (by decide) dX7_init_128 (ws' := [(h, .inr (7, [.ref q8, .ref q17, .int 0, .ref q26, .ref q33, .ref q42, .ref q50, .ref q58, .int 0])), (q8, .inl (Z.2.1, 131, .inl (upd (upd (upd w 5 1) 115 1) 126 (-9)))), (q17, .inl (Z.2.1, 1048, .inl (fun _ => 0))), (q26, .inl (Z.2.1, 262, .inl (fun _ => 0))), (q33, .inl (Z.2.1, 2, .inl (fun _ => 0))), (q42, .inl (Z.2.1, 131, .inl (fun _ => 0))), (q50, .inl (Z.2.1, 20, .inl (fun _ => 0))), (q58, .inl (Z.2.1, 20, .inl (fun _ => 0)))]) rfl ?_
      refine r_aload_n dX7_init_129 1 rfl ?_
      refine gf_X7_0 (v := .ref q8) 0 rfl rfl qw_586 dX7_init_130 ?_
      refine r_bipush (v := 127) dX7_init_133 kbp_127 ?_
      refine r_sipush (v := 150) dX7_init_135 ksp_150 ?_
      refine r_iast 1 rfl (j := 127) (by decide) (by decide) dX7_init_138 (ws' := [(h, .inr (7, [.ref q8, .ref q17, .int 0, .ref q26, .ref q33, .ref q42, .ref q50, .ref q58, .int 0])), (q8, .inl (Z.2.1, 131, .inl (upd (upd (upd (upd w 5 1) 115 1) 126 (-9)) 127 150))), (q17, .inl (Z.2.1, 1048, .inl (fun _ => 0))), (q26, .inl (Z.2.1, 262, .inl (fun _ => 0))), (q33, .inl (Z.2.1, 2, .inl (fun _ => 0))), (q42, .inl (Z.2.1, 131, .inl (fun _ => 0))), (q50, .inl (Z.2.1, 20, .inl (fun _ => 0))), (q58, .inl (Z.2.1, 20, .inl (fun _ => 0)))]) rfl ?_
      refine r_aload_n dX7_init_139 1 rfl ?_
      refine gf_X7_0 (v := .ref q8) 0 rfl rfl qw_586 dX7_init_140 ?_
      refine r_sipush (v := 128) dX7_init_143 ksp_128 ?_
      refine r_sipush (v := 250) dX7_init_146 ksp_250 ?_
      refine r_iast 1 rfl (j := 128) (by decide) (by decide) dX7_init_149 (ws' := [(h, .inr (7, [.ref q8, .ref q17, .int 0, .ref q26, .ref q33, .ref q42, .ref q50, .ref q58, .int 0])), (q8, .inl (Z.2.1, 131, .inl (upd (upd (upd (upd (upd w 5 1) 115 1) 126 (-9)) 127 150) 128 250))), (q17, .inl (Z.2.1, 1048, .inl (fun _ => 0))), (q26, .inl (Z.2.1, 262, .inl (fun _ => 0))), (q33, .inl (Z.2.1, 2, .inl (fun _ => 0))), (q42, .inl (Z.2.1, 131, .inl (fun _ => 0))), (q50, .inl (Z.2.1, 20, .inl (fun _ => 0))), (q58, .inl (Z.2.1, 20, .inl (fun _ => 0)))]) rfl ?_
      refine r_aload_n dX7_init_150 1 rfl ?_
      refine gf_X7_0 (v := .ref q8) 0 rfl rfl qw_586 dX7_init_151 ?_
      refine r_sipush (v := 129) dX7_init_154 ksp_129 ?_
      refine r_sipush (v := 400) dX7_init_157 ksp_400 ?_
      refine r_iast 1 rfl (j := 129) (by decide) (by decide) dX7_init_160 (ws' := [(h, .inr (7, [.ref q8, .ref q17, .int 0, .ref q26, .ref q33, .ref q42, .ref q50, .ref q58, .int 0])), (q8, .inl (Z.2.1, 131, .inl (upd (upd (upd (upd (upd (upd w 5 1) 115 1) 126 (-9)) 127 150) 128 250) 129 400))), (q17, .inl (Z.2.1, 1048, .inl (fun _ => 0))), (q26, .inl (Z.2.1, 262, .inl (fun _ => 0))), (q33, .inl (Z.2.1, 2, .inl (fun _ => 0))), (q42, .inl (Z.2.1, 131, .inl (fun _ => 0))), (q50, .inl (Z.2.1, 20, .inl (fun _ => 0))), (q58, .inl (Z.2.1, 20, .inl (fun _ => 0)))]) rfl ?_
      refine r_aload_n dX7_init_161 1 rfl ?_
      refine gf_X7_0 (v := .ref q8) 0 rfl rfl qw_586 dX7_init_162 ?_
      refine r_sipush (v := 130) dX7_init_165 ksp_130 ?_
      refine r_sipush (v := 800) dX7_init_168 ksp_800 ?_
      refine r_iast 1 rfl (j := 130) (by decide) (by decide) dX7_init_171 (ws' := [(h, .inr (7, [.ref q8, .ref q17, .int 0, .ref q26, .ref q33, .ref q42, .ref q50, .ref q58, .int 0])), (q8, .inl (Z.2.1, 131, .inl (upd (upd (upd (upd (upd (upd (upd w 5 1) 115 1) 126 (-9)) 127 150) 128 250) 129 400) 130 800))), (q17, .inl (Z.2.1, 1048, .inl (fun _ => 0))), (q26, .inl (Z.2.1, 262, .inl (fun _ => 0))), (q33, .inl (Z.2.1, 2, .inl (fun _ => 0))), (q42, .inl (Z.2.1, 131, .inl (fun _ => 0))), (q50, .inl (Z.2.1, 20, .inl (fun _ => 0))), (q58, .inl (Z.2.1, 20, .inl (fun _ => 0)))]) rfl ?_
      refine r_vretN hE ⟨(aX h q8 q17 q26 q33 q42 q50 q58), upd (upd (upd (upd (upd (upd (upd w 5 1) 115 1) 126 (-9)) 127 150) 128 250) 129 400) 130 800, rfl, rfl, fun x hx => ?_⟩ (Nat.le_refl _) (Nat.le_refl _) dX7_init_172
      obtain ⟨w1, w2, w3⟩ := hw
      by_cases e1 : x = 130
      · subst e1; simp [upd, m0F]
      by_cases e2 : x = 129
      · subst e2; simp [upd, m0F]
      by_cases e3 : x = 128
      · subst e3; simp [upd, m0F]
      by_cases e4 : x = 127
      · subst e4; simp [upd, m0F]
      by_cases e5 : x = 126
      · subst e5; simp [upd, m0F]
      by_cases e6 : x = 115
      · subst e6; simp [upd, m0F]
      by_cases e7 : x = 5
      · subst e7; simp [upd, m0F, w0F]
      simp only [upd, m0F, w0F, if_neg e1, if_neg e2, if_neg e3, if_neg e4, if_neg e5, if_neg e6, if_neg e7]
      by_cases e8 : x < 110
      · rw [if_pos e8]
        by_cases e9 : x < 5
        · rw [if_pos e9]; exact w1 x e9
        · rw [if_neg e9]; exact w2 x (by omega) e8
      · rw [if_neg e8]; exact w3 x (by omega)
    | succ k ih =>
      intro i w hi hw
      obtain ⟨w1, w2, w3⟩ := hw
      refine r_iload_n dX7_init_87 0 rfl ?_
      refine r_iconst (v := 5) dX7_init_88 kic_5 ?_
      refine r_icmp_ge (tgt := 105) dX7_init_89 (by decide) (fun hh => absurd hh (nI_ge (a := i) (b := 5) (by omega) (by decide))) (fun _ => ?_)
      refine r_aload_n dX7_init_92 1 rfl ?_
      refine gf_X7_0 (v := .ref q8) 0 rfl rfl qw_586 dX7_init_93 ?_
      refine r_iload_n dX7_init_96 0 rfl ?_
      refine r_iconst (v := 0) dX7_init_97 kic_0 ?_
      refine r_iast 1 rfl (j := i) (nI_clamp (by omega)) (cond_nI (by omega) (by decide)) dX7_init_98 (ws' := wX Z (aX h q8 q17 q26 q33 q42 q50 q58) (upd w i 0) (fun _ => 0) (fun _ => 0) (fun _ => 0) (fun _ => 0) (fun _ => 0) (fun _ => 0) (fun _ => 0)) rfl ?_
      refine r_iinc (v := nI (i + 1)) (lv' := [(1, .int (nI (i + 1))), (0, .ref h)]) dX7_init_99 (k := 0) rfl (nI_s i) (by decide) rfl ?_
      refine r_goto (tgt := 87) dX7_init_102 (by decide) ?_
      refine ih (i + 1) (upd w i 0) (by omega) ⟨fun x hx => ?_, fun x hx1 hx2 => ?_, fun x hx => ?_⟩
      · by_cases e : x = i
        · subst e; simp [upd]
        · simp only [upd, if_neg e]; exact w1 x (by omega)
      · simp only [upd, if_neg (show ¬ x = i by omega)]; exact w2 x (by omega) hx2
      · simp only [upd, if_neg (show ¬ x = i by omega)]; exact w3 x hx
  have J1 : ∀ (k i : Nat) (w : Nat → Int32), i + k = 110 → ((∀ x, x < i → w x = 65535) ∧ (∀ x, i ≤ x → w x = 0)) → AtK X Z rm_X7_init cX7_init RX7 2 7 1614 (wX Z (aX h q8 q17 q26 q33 q42 q50 q58) w (fun _ => 0) (fun _ => 0) (fun _ => 0) (fun _ => 0) (fun _ => 0) (fun _ => 0) (fun _ => 0)) 65 [(1, .int (nI i)), (0, .ref h)] [] := by
    intro k
    induction k with
    | zero =>
      intro i w hi hw
      rw [show i = 110 by omega] at hw ⊢
      refine r_iload_n dX7_init_65 0 rfl ?_
      refine r_bipush (v := 110) dX7_init_66 kbp_110 ?_
      refine r_icmp_ge (tgt := 85) dX7_init_68 (by decide) (fun _ => ?_) (fun hh => absurd (show (110 : Int32) ≤ nI 110 by decide) hh)
      refine r_iconst (v := 0) dX7_init_85 kic_0 ?_
      refine r_istore_n (lv' := [(1, .int 0), (0, .ref h)]) dX7_init_86 (by decide) rfl ?_
      exact J2 5 0 w rfl ⟨fun x hx => absurd hx (Nat.not_lt_zero x), fun x _ hx => hw.1 x hx, fun x hx => hw.2 x hx⟩
    | succ k ih =>
      intro i w hi hw
      obtain ⟨w1, w3⟩ := hw
      refine r_iload_n dX7_init_65 0 rfl ?_
      refine r_bipush (v := 110) dX7_init_66 kbp_110 ?_
      refine r_icmp_ge (tgt := 85) dX7_init_68 (by decide) (fun hh => absurd hh (nI_ge (a := i) (b := 110) (by omega) (by decide))) (fun _ => ?_)
      refine r_aload_n dX7_init_71 1 rfl ?_
      refine gf_X7_0 (v := .ref q8) 0 rfl rfl qw_586 dX7_init_72 ?_
      refine r_iload_n dX7_init_75 0 rfl ?_
      refine r_ldc qw_585 dX7_init_76 ?_
      refine r_iast 1 rfl (j := i) (nI_clamp (by omega)) (cond_nI (by omega) (by decide)) dX7_init_78 (ws' := wX Z (aX h q8 q17 q26 q33 q42 q50 q58) (upd w i 65535) (fun _ => 0) (fun _ => 0) (fun _ => 0) (fun _ => 0) (fun _ => 0) (fun _ => 0) (fun _ => 0)) rfl ?_
      refine r_iinc (v := nI (i + 1)) (lv' := [(1, .int (nI (i + 1))), (0, .ref h)]) dX7_init_79 (k := 0) rfl (nI_s i) (by decide) rfl ?_
      refine r_goto (tgt := 65) dX7_init_82 (by decide) ?_
      refine ih (i + 1) (upd w i 65535) (by omega) ⟨fun x hx => ?_, fun x hx => ?_⟩
      · by_cases e : x = i
        · subst e; simp [upd]
        · simp only [upd, if_neg e]; exact w1 x (by omega)
      · simp only [upd, if_neg (show ¬ x = i by omega)]; exact w3 x (by omega)
  exact J1 110 0 (fun _ => 0) rfl ⟨fun x hx => absurd hx (Nat.not_lt_zero x), fun _ _ => rfl⟩

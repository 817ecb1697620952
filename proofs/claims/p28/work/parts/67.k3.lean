-- the constructors (laid by wip/genp/inits.py)
theorem qw_64 : Cond.methodLink RX3 3 objectInit ∈ lw_tb := lw_up (List.mem_of_getElem? (i := 64) (by decide +kernel)) rfl
theorem qw_28 : Cond.instanceMethod objectInit ∈ lw_tb := lw_up (List.mem_of_getElem? (i := 28) (by decide +kernel)) rfl
theorem qw_29 : Cond.code objectInit ⟨#[0xb1]⟩ 1 none ∈ lw_tb := lw_up (List.mem_of_getElem? (i := 29) (by decide +kernel)) rfl
theorem qw_129 : Cond.methodLink RX2 3 objectInit ∈ lw_tb := lw_up (List.mem_of_getElem? (i := 129) (by decide +kernel)) rfl
theorem qw_58 : Cond.arrayClass .int ∈ lw_tb := lw_up (List.mem_of_getElem? (i := 58) (by decide +kernel)) rfl
theorem qw_41 : Cond.methodLink RX0 3 objectInit ∈ lw_tb := lw_up (List.mem_of_getElem? (i := 41) (by decide +kernel)) rfl
theorem qw_35 : Cond.methodLink RX5 3 objectInit ∈ lw_tb := lw_up (List.mem_of_getElem? (i := 35) (by decide +kernel)) rfl
theorem qw_36 : Cond.classLink RX5 9 RX0 ∈ lw_tb := lw_up (List.mem_of_getElem? (i := 36) (by decide +kernel)) rfl
theorem qw_37 : Cond.instantiable RX0 4 ∈ lw_tb := lw_up (List.mem_of_getElem? (i := 37) (by decide +kernel)) rfl
theorem qw_38 : Cond.methodLink RX5 11 yX0_init ∈ lw_tb := lw_up (List.mem_of_getElem? (i := 38) (by decide +kernel)) rfl
theorem qw_39 : Cond.instanceMethod yX0_init ∈ lw_tb := lw_up (List.mem_of_getElem? (i := 39) (by decide +kernel)) rfl
theorem qw_40 : Cond.code yX0_init cX0_init 2 none ∈ lw_tb := lw_up (List.mem_of_getElem? (i := 40) (by decide +kernel)) rfl
theorem qw_59 : Cond.classLink RX5 18 RX3 ∈ lw_tb := lw_up (List.mem_of_getElem? (i := 59) (by decide +kernel)) rfl
theorem qw_60 : Cond.instantiable RX3 6 ∈ lw_tb := lw_up (List.mem_of_getElem? (i := 60) (by decide +kernel)) rfl
theorem qw_61 : Cond.methodLinkNest RX5 20 yX3_init "TicketJournal" ∈ lw_ns := lw_un (List.mem_of_getElem? (i := 61) (by decide +kernel)) rfl
theorem qw_62 : Cond.instanceMethod yX3_init ∈ lw_tb := lw_up (List.mem_of_getElem? (i := 62) (by decide +kernel)) rfl
theorem qw_63 : Cond.code yX3_init cX3_init 1 none ∈ lw_tb := lw_up (List.mem_of_getElem? (i := 63) (by decide +kernel)) rfl
theorem qw_163 : Cond.methodLink RX1 1 objectInit ∈ lw_tb := lw_up (List.mem_of_getElem? (i := 163) (by decide +kernel)) rfl
theorem qw_164 : Cond.classLink RX1 7 RX5 ∈ lw_tb := lw_up (List.mem_of_getElem? (i := 164) (by decide +kernel)) rfl
theorem qw_31 : Cond.instantiable RX5 7 ∈ lw_tb := lw_up (List.mem_of_getElem? (i := 31) (by decide +kernel)) rfl
theorem qw_165 : Cond.methodLinkNest RX1 9 yX5_init "TicketJournal" ∈ lw_ns := lw_un (List.mem_of_getElem? (i := 165) (by decide +kernel)) rfl
theorem qw_33 : Cond.instanceMethod yX5_init ∈ lw_tb := lw_up (List.mem_of_getElem? (i := 33) (by decide +kernel)) rfl
theorem qw_34 : Cond.code yX5_init cX5_init 1 none ∈ lw_tb := lw_up (List.mem_of_getElem? (i := 34) (by decide +kernel)) rfl
theorem kbp_120 : (Int8.ofInt 120).toInt32 = 120 := by decide
theorem ksp_150 : (Int16.ofInt 150).toInt32 = 150 := by decide
theorem ksp_250 : (Int16.ofInt 250).toInt32 = 250 := by decide
theorem ksp_400 : (Int16.ofInt 400).toInt32 = 400 := by decide
theorem ksp_800 : (Int16.ofInt 800).toInt32 = 800 := by decide
theorem mi_X0_init : mIo yX0_init cX0_init 2 := ⟨qw_39, rfl, qw_15, qw_40, by decide +kernel⟩
theorem mi_X3_init : mIo yX3_init cX3_init 1 := ⟨qw_62, rfl, qw_16, qw_63, by decide +kernel⟩
theorem mi_X5_init : mIo yX5_init cX5_init 1 := ⟨qw_33, rfl, qw_14, qw_34, by decide +kernel⟩
abbrev rm_X3_init : Room := { frames := 1, cells := 0, slots := 0, locals := 40 }
set_option maxHeartbeats 4000000 in
set_option maxRecDepth 100000 in
theorem c_X3_init (Z : GZ) (l : Launch) (h : Nat) : ConN Z l yX3_init cX3_init 1 rm_X3_init [.ref h] [(h, .inr (3, [.int 0, .int 0, .int 0, .int 0, .int 0, .int 0]))] 0 0 (fun nw => nw = wM Z h (fun _ => 0)) := by
  refine ConN.of (by decide) rfl (Nat.le_of_ble_eq_true rfl) ?_
  intro X hn hm hE
  show AtK X Z rm_X3_init cX3_init RX3 1 0 0 [(h, .inr (3, [.int 0, .int 0, .int 0, .int 0, .int 0, .int 0]))] 0 [(0, .ref h)] []
  refine r_aload_n dX3_init_0 0 rfl ?_
  refine r_obj qw_64 qw_28 qw_29 (Nat.le_of_ble_eq_true rfl) (Nat.le_of_ble_eq_true rfl) dX3_init_1 ?_
  refine r_aload_n dX3_init_4 0 rfl ?_
  refine r_iconst (v := 0) dX3_init_5 kic_0 ?_
  refine pf_X3_0 0 rfl (Nat.le_of_ble_eq_true rfl) qw_65 dX3_init_6 (ws' := [(h, .inr (3, [.int 0, .int 0, .int 0, .int 0, .int 0, .int 0]))]) rfl ?_
  refine r_aload_n dX3_init_9 0 rfl ?_
  refine r_iconst (v := 0) dX3_init_10 kic_0 ?_
  refine pf_X3_1 0 rfl (Nat.le_of_ble_eq_true rfl) qw_68 dX3_init_11 (ws' := [(h, .inr (3, [.int 0, .int 0, .int 0, .int 0, .int 0, .int 0]))]) rfl ?_
  refine r_aload_n dX3_init_14 0 rfl ?_
  refine r_iconst (v := 0) dX3_init_15 kic_0 ?_
  refine pf_X3_2 0 rfl (Nat.le_of_ble_eq_true rfl) qw_71 dX3_init_16 (ws' := [(h, .inr (3, [.int 0, .int 0, .int 0, .int 0, .int 0, .int 0]))]) rfl ?_
  refine r_aload_n dX3_init_19 0 rfl ?_
  refine r_iconst (v := 0) dX3_init_20 kic_0 ?_
  refine pf_X3_3 0 rfl (Nat.le_of_ble_eq_true rfl) qw_74 dX3_init_21 (ws' := [(h, .inr (3, [.int 0, .int 0, .int 0, .int 0, .int 0, .int 0]))]) rfl ?_
  refine r_aload_n dX3_init_24 0 rfl ?_
  refine r_iconst (v := 0) dX3_init_25 kic_0 ?_
  refine pf_X3_4 0 rfl (Nat.le_of_ble_eq_true rfl) qw_77 dX3_init_26 (ws' := [(h, .inr (3, [.int 0, .int 0, .int 0, .int 0, .int 0, .int 0]))]) rfl ?_
  refine r_aload_n dX3_init_29 0 rfl ?_
  refine r_iconst (v := 0) dX3_init_30 kic_0 ?_
  refine pf_X3_5 0 rfl (Nat.le_of_ble_eq_true rfl) qw_80 dX3_init_31 (ws' := [(h, .inr (3, [.int 0, .int 0, .int 0, .int 0, .int 0, .int 0]))]) rfl ?_
  exact r_vretN hE rfl (Nat.le_refl _) (Nat.le_refl _) dX3_init_34
abbrev rm_X2_init : Room := { frames := 1, cells := 1, slots := 120, locals := 40 }
set_option maxHeartbeats 4000000 in
set_option maxRecDepth 100000 in
theorem c_X2_init (Z : GZ) (l : Launch) (h : Nat) : ConN Z l yX2_init cX2_init 1 rm_X2_init [.ref h] [(h, .inr (2, [.null, .int 0]))] 1 120 (fun nw => ∃ hd, nw = wJ Z h hd (fun _ => 0) 0) := by
  refine ConN.of (by decide) rfl (Nat.le_of_ble_eq_true rfl) ?_
  intro X hn hm hE
  show AtK X Z rm_X2_init cX2_init RX2 1 0 0 [(h, .inr (2, [.null, .int 0]))] 0 [(0, .ref h)] []
  refine r_aload_n dX2_init_0 0 rfl ?_
  refine r_obj qw_129 qw_28 qw_29 (Nat.le_of_ble_eq_true rfl) (Nat.le_of_ble_eq_true rfl) dX2_init_1 ?_
  refine r_aload_n dX2_init_4 0 rfl ?_
  refine r_bipush (v := 120) dX2_init_5 kbp_120 ?_
  refine r_newa hn qw_58 (N := 120) (by decide) (by decide) (by decide) ⟨Nat.le_of_ble_eq_true rfl, Nat.le_of_ble_eq_true rfl⟩ dX2_init_7 (fun q7 => ?_)
  refine r_putF hm (T := TX2) (N := 2) kX2 rfl 0 (by decide) rfl tyX2 tyX2_ok nmX2 rfl rfl (ty := tyX2 0) (by decide +kernel) rfl rfl 0 rfl (Nat.le_of_ble_eq_true rfl) qw_130 dX2_init_9 (ws' := [(h, .inr (2, [.ref q7, .int 0])), (q7, .inl (Z.2.1, 120, .inl (fun _ => 0)))]) rfl ?_
  refine r_aload_n dX2_init_12 0 rfl ?_
  refine r_iconst (v := 0) dX2_init_13 kic_0 ?_
  refine pf_X2_1 0 rfl (Nat.le_of_ble_eq_true rfl) qw_131 dX2_init_14 (ws' := [(h, .inr (2, [.ref q7, .int 0])), (q7, .inl (Z.2.1, 120, .inl (fun _ => 0)))]) rfl ?_
  exact r_vretN hE ⟨_, rfl⟩ (Nat.le_refl _) (Nat.le_refl _) dX2_init_17
def w0F (x : Nat) : Int32 := if x = 5 then 1 else if x < 5 then 0 else 65535
abbrev rm_X0_init : Room := { frames := 1, cells := 2, slots := 115, locals := 40 }
set_option maxHeartbeats 4000000 in
set_option maxRecDepth 100000 in
theorem c_X0_init (Z : GZ) (l : Launch) (h : Nat) : ConN Z l yX0_init cX0_init 2 rm_X0_init [.ref h] [(h, .inr (0, [.null, .null, .int 0, .int 0]))] 2 115 (fun nw => ∃ hw he w, nw = wF Z h hw he w (fun _ => 0) (upd (fun _ => 0) 1 (-9)) ∧ ∀ x, x < 110 → w x = w0F x) := by
  refine ConN.of (by decide) rfl (Nat.le_of_ble_eq_true rfl) ?_
  intro X hn hm hE
  show AtK X Z rm_X0_init cX0_init RX0 2 0 0 [(h, .inr (0, [.null, .null, .int 0, .int 0]))] 0 [(0, .ref h)] []
  refine r_aload_n dX0_init_0 0 rfl ?_
  refine r_obj qw_41 qw_28 qw_29 (Nat.le_of_ble_eq_true rfl) (Nat.le_of_ble_eq_true rfl) dX0_init_1 ?_
  refine r_aload_n dX0_init_4 0 rfl ?_
  refine r_bipush (v := 110) dX0_init_5 kbp_110 ?_
  refine r_newa hn qw_58 (N := 110) (by decide) (by decide) (by decide) ⟨Nat.le_of_ble_eq_true rfl, Nat.le_of_ble_eq_true rfl⟩ dX0_init_7 (fun q7 => ?_)
  refine r_putF hm (T := TX0) (N := 4) kX0 rfl 0 (by decide) rfl tyX0 tyX0_ok nmX0 rfl rfl (ty := tyX0 0) (by decide +kernel) rfl rfl 0 rfl (Nat.le_of_ble_eq_true rfl) qw_43 dX0_init_9 (ws' := [(h, .inr (0, [.ref q7, .null, .int 0, .int 0])), (q7, .inl (Z.2.1, 110, .inl (fun _ => 0)))]) rfl ?_
  refine r_aload_n dX0_init_12 0 rfl ?_
  refine r_iconst (v := 5) dX0_init_13 kic_5 ?_
  refine r_newa hn qw_58 (N := 5) (by decide) (by decide) (by decide) ⟨Nat.le_of_ble_eq_true rfl, Nat.le_of_ble_eq_true rfl⟩ dX0_init_14 (fun q14 => ?_)
  refine r_putF hm (T := TX0) (N := 4) kX0 rfl 1 (by decide) rfl tyX0 tyX0_ok nmX0 rfl rfl (ty := tyX0 1) (by decide +kernel) rfl rfl 0 rfl (Nat.le_of_ble_eq_true rfl) qw_44 dX0_init_16 (ws' := [(h, .inr (0, [.ref q7, .ref q14, .int 0, .int 0])), (q7, .inl (Z.2.1, 110, .inl (fun _ => 0))), (q14, .inl (Z.2.1, 5, .inl (fun _ => 0)))]) rfl ?_
  refine r_aload_n dX0_init_19 0 rfl ?_
  refine r_iconst (v := 0) dX0_init_20 kic_0 ?_
  refine pf_X0_2 0 rfl (Nat.le_of_ble_eq_true rfl) qw_45 dX0_init_21 (ws' := [(h, .inr (0, [.ref q7, .ref q14, .int 0, .int 0])), (q7, .inl (Z.2.1, 110, .inl (fun _ => 0))), (q14, .inl (Z.2.1, 5, .inl (fun _ => 0)))]) rfl ?_
  refine r_aload_n dX0_init_24 0 rfl ?_
  refine r_bipush (v := (-9)) dX0_init_25 kbp_m9 ?_
  refine pf_X0_3 0 rfl (Nat.le_of_ble_eq_true rfl) qw_47 dX0_init_27 (ws' := [(h, .inr (0, [.ref q7, .ref q14, .int 0, .int (-9)])), (q7, .inl (Z.2.1, 110, .inl (fun _ => 0))), (q14, .inl (Z.2.1, 5, .inl (fun _ => 0)))]) rfl ?_
  refine r_iconst (v := 0) dX0_init_30 kic_0 ?_
  refine r_istore_n (lv' := [(1, .int 0), (0, .ref h)]) dX0_init_31 (by decide) rfl ?_
  -- the loop, and what stands behind it
  have J : ∀ (k i : Nat) (w : Nat → Int32), i + k = 110 → (∀ x, x < i → w x = if x < 5 then 0 else 65535) → AtK X Z rm_X0_init cX0_init RX0 2 2 115 (wF Z h q7 q14 w (fun _ => 0) (upd (fun _ => 0) 1 (-9))) 32 [(1, .int (nI i)), (0, .ref h)] [] := by
    intro k
    induction k with
    | zero =>
      intro i w hi hw
      rw [show i = 110 by omega] at hw ⊢
      refine r_iload_n dX0_init_32 0 rfl ?_
      refine r_aload_n dX0_init_33 1 rfl ?_
      refine gf_X0_0 (v := .ref q7) 0 rfl rfl qw_43 dX0_init_34 ?_
      refine r_alen 1 0 rfl rfl (v := 110) (by decide) dX0_init_37 ?_
      refine r_icmp_ge (tgt := 64) dX0_init_38 (by decide) (fun _ => ?_) (fun hh => absurd (show (110 : Int32) ≤ nI 110 by decide) hh)
      refine r_aload_n dX0_init_64 1 rfl ?_
      refine gf_X0_0 (v := .ref q7) 0 rfl rfl qw_43 dX0_init_65 ?_
      refine r_iconst (v := 5) dX0_init_68 kic_5 ?_
      refine r_iconst (v := 1) dX0_init_69 kic_1 ?_
      refine r_iast 1 rfl (j := 5) (by decide) (by decide) dX0_init_70 (ws' := wF Z h q7 q14 (upd w 5 1) (fun _ => 0) (upd (fun _ => 0) 1 (-9))) rfl ?_
      exact r_vretN hE ⟨q7, q14, upd w 5 1, rfl, fun x hx => by
        by_cases h5 : x = 5
        · subst h5; simp [upd, w0F]
        · simp only [upd, if_neg h5, w0F]; exact hw x hx⟩ (Nat.le_refl _) (Nat.le_refl _) dX0_init_71
    | succ k ih =>
      intro i w hi hw
      refine r_iload_n dX0_init_32 0 rfl ?_
      refine r_aload_n dX0_init_33 1 rfl ?_
      refine gf_X0_0 (v := .ref q7) 0 rfl rfl qw_43 dX0_init_34 ?_
      refine r_alen 1 0 rfl rfl (v := 110) (by decide) dX0_init_37 ?_
      refine r_icmp_ge (tgt := 64) dX0_init_38 (by decide) (fun hh => absurd hh (nI_ge (a := i) (b := 110) (by omega) (by decide))) (fun _ => ?_)
      refine r_aload_n dX0_init_41 1 rfl ?_
      refine gf_X0_0 (v := .ref q7) 0 rfl rfl qw_43 dX0_init_42 ?_
      refine r_iload_n dX0_init_45 0 rfl ?_
      refine r_iload_n dX0_init_46 0 rfl ?_
      refine r_iconst (v := 5) dX0_init_47 kic_5 ?_
      have step : ∀ v : Int32, v = (if i < 5 then 0 else 65535) → AtK X Z rm_X0_init cX0_init RX0 2 2 115 (wF Z h q7 q14 w (fun _ => 0) (upd (fun _ => 0) 1 (-9))) 57 [(1, .int (nI i)), (0, .ref h)] [.int v, .int (nI i), .ref q7] := by
        intro v hv
        refine r_iast 1 rfl (j := i) (nI_clamp (by omega)) (cond_nI (by omega) (by decide)) dX0_init_57 (ws' := wF Z h q7 q14 (upd w i v) (fun _ => 0) (upd (fun _ => 0) 1 (-9))) rfl ?_
        refine r_iinc (v := nI (i + 1)) (lv' := [(1, .int (nI (i + 1))), (0, .ref h)]) dX0_init_58 (k := 0) rfl (nI_s i) (by decide) rfl ?_
        refine r_goto (tgt := 32) dX0_init_61 (by decide) ?_
        refine ih (i + 1) (upd w i v) (by omega) (fun x hx => ?_)
        by_cases hx2 : x = i
        · subst hx2; simp only [upd, if_true]; exact hv
        · simp only [upd, if_neg hx2]; exact hw x (by omega)
      refine r_icmp_ge (tgt := 55) dX0_init_48 (by decide) (fun hh => ?_) (fun hh => ?_)
      · refine r_ldc qw_42 dX0_init_55 ?_
        exact step 65535 (by rw [if_neg (fun z => nI_ge (a := i) (b := 5) z (by decide) hh)])
      · refine r_iconst (v := 0) dX0_init_51 kic_0 ?_
        refine r_goto (tgt := 57) dX0_init_52 (by decide) ?_
        exact step 0 (by rw [if_pos (Nat.lt_of_not_le (fun z => hh (nI_le (a := 5) (b := i) z (by omega))))])
  exact J 110 0 (fun _ => 0) rfl (fun x hx => absurd hx (Nat.not_lt_zero x))
def aF (a0 a1 a2 a3 a4 a5 : Nat) : Nat → Nat
  | 0 => a0
  | 1 => a1
  | 2 => a2
  | 3 => a3
  | 4 => a4
  | _ => a5
/-- a printer as it is made -/
def iniP (w er fl me p pr : Nat → Int32) : Prop := (∀ x, x < 110 → w x = w0F x) ∧ (∀ x, x < 5 → er x = 0) ∧ fl 0 = 0 ∧ fl 1 = -9 ∧ (∀ x, me x = 0) ∧ p 0 = 150 ∧ p 1 = 250 ∧ p 2 = 400 ∧ p 3 = 800 ∧ pr 0 = 1 ∧ pr 1 = 0 ∧ pr 2 = 0 ∧ pr 3 = 0
abbrev rm_X5_init : Room := { frames := 2, cells := 5, slots := 129, locals := 80 }
set_option maxHeartbeats 4000000 in
set_option maxRecDepth 100000 in
theorem c_X5_init (Z : GZ) (l : Launch) (h : Nat) : ConN Z l yX5_init cX5_init 1 rm_X5_init [.ref h] [(h, .inr (5, [.null, .null, .null, .int 0, .int 0, .int 0, .int 0]))] 5 129 (fun nw => ∃ (a : Nat → Nat) (w er fl me p pr : Nat → Int32), a 0 = h ∧ nw = wP Z a w er fl me p pr ∧ iniP w er fl me p pr) := by
  refine ConN.of (by decide) rfl (Nat.le_of_ble_eq_true rfl) ?_
  intro X hn hm hE
  show AtK X Z rm_X5_init cX5_init RX5 1 0 0 [(h, .inr (5, [.null, .null, .null, .int 0, .int 0, .int 0, .int 0]))] 0 [(0, .ref h)] []
  refine r_aload_n dX5_init_0 0 rfl ?_
  refine r_obj qw_35 qw_28 qw_29 (Nat.le_of_ble_eq_true rfl) (Nat.le_of_ble_eq_true rfl) dX5_init_1 ?_
  refine r_aload_n dX5_init_4 0 rfl ?_
  refine r_new (ci := 0) hn kX0 tyX0 tyX0_ok rfl (fs := [.null, .null, .int 0, .int 0]) (fun j hj => by rcases (show j = 0 ∨ j = 1 ∨ j = 2 ∨ j = 3 by omega) with rfl | rfl | rfl | rfl <;> rfl) qw_36 qw_37 qw_15 ⟨Nat.le_of_ble_eq_true rfl, Nat.le_of_ble_eq_true rfl⟩ dX5_init_5 (fun q5 => ?_)
  refine r_dup dX5_init_8 rfl ?_
  refine r_init hn (fun l => c_X0_init Z l q5) qw_38 mi_X0_init ⟨Nat.le_of_ble_eq_true rfl, Nat.le_of_ble_eq_true rfl⟩ ⟨rfl, rfl⟩ ⟨Nat.le_of_ble_eq_true rfl, Nat.le_of_ble_eq_true rfl⟩ (Nat.le_of_ble_eq_true rfl) dX5_init_9 (fun nw9 hnw9 => ?_)
  obtain ⟨hw9, he9, w9, rfl, hf9⟩ := hnw9
  refine r_putF hm (T := TX5) (N := 7) kX5 rfl 0 (by decide) rfl tyX5 tyX5_ok nmX5 rfl rfl (ty := tyX5 0) (by decide +kernel) rfl rfl 0 rfl (Nat.le_of_ble_eq_true rfl) qw_96 dX5_init_12 (ws' := [(h, .inr (5, [.ref q5, .null, .null, .int 0, .int 0, .int 0, .int 0])), (q5, .inr (0, [.ref hw9, .ref he9, .int 0, .int (-9)])), (hw9, .inl (Z.2.1, 110, .inl w9)), (he9, .inl (Z.2.1, 5, .inl (fun _ => 0)))]) rfl ?_
  refine r_aload_n dX5_init_15 0 rfl ?_
  refine r_new (ci := 3) hn kX3 tyX3 tyX3_ok rfl (fs := [.int 0, .int 0, .int 0, .int 0, .int 0, .int 0]) (fun j hj => by rcases (show j = 0 ∨ j = 1 ∨ j = 2 ∨ j = 3 ∨ j = 4 ∨ j = 5 by omega) with rfl | rfl | rfl | rfl | rfl | rfl <;> rfl) qw_59 qw_60 qw_16 ⟨Nat.le_of_ble_eq_true rfl, Nat.le_of_ble_eq_true rfl⟩ dX5_init_16 (fun q16 => ?_)
  refine r_dup dX5_init_19 rfl ?_
  refine r_initN hn (fun l => c_X3_init Z l q16) qw_61 mi_X3_init ⟨Nat.le_of_ble_eq_true rfl, Nat.le_of_ble_eq_true rfl⟩ ⟨rfl, rfl⟩ ⟨Nat.le_of_ble_eq_true rfl, Nat.le_of_ble_eq_true rfl⟩ (Nat.le_of_ble_eq_true rfl) dX5_init_20 (fun nw20 hnw20 => ?_)
  obtain rfl := hnw20
  refine r_putF hm (T := TX5) (N := 7) kX5 rfl 1 (by decide) rfl tyX5 tyX5_ok nmX5 rfl rfl (ty := tyX5 1) (by decide +kernel) rfl rfl 0 rfl (Nat.le_of_ble_eq_true rfl) qw_98 dX5_init_23 (ws' := [(h, .inr (5, [.ref q5, .ref q16, .null, .int 0, .int 0, .int 0, .int 0])), (q5, .inr (0, [.ref hw9, .ref he9, .int 0, .int (-9)])), (hw9, .inl (Z.2.1, 110, .inl w9)), (he9, .inl (Z.2.1, 5, .inl (fun _ => 0))), (q16, .inr (3, [.int 0, .int 0, .int 0, .int 0, .int 0, .int 0]))]) rfl ?_
  refine r_aload_n dX5_init_26 0 rfl ?_
  refine r_iconst (v := 4) dX5_init_27 kic_4 ?_
  refine r_newa hn qw_58 (N := 4) (by decide) (by decide) (by decide) ⟨Nat.le_of_ble_eq_true rfl, Nat.le_of_ble_eq_true rfl⟩ dX5_init_28 (fun q28 => ?_)
  refine r_dup dX5_init_30 rfl ?_
  refine r_iconst (v := 0) dX5_init_31 kic_0 ?_
  refine r_sipush (v := 150) dX5_init_32 ksp_150 ?_
  refine r_iast 5 rfl (j := 0) (by decide) (by decide) dX5_init_35 (ws' := [(h, .inr (5, [.ref q5, .ref q16, .null, .int 0, .int 0, .int 0, .int 0])), (q5, .inr (0, [.ref hw9, .ref he9, .int 0, .int (-9)])), (hw9, .inl (Z.2.1, 110, .inl w9)), (he9, .inl (Z.2.1, 5, .inl (fun _ => 0))), (q16, .inr (3, [.int 0, .int 0, .int 0, .int 0, .int 0, .int 0])), (q28, .inl (Z.2.1, 4, .inl (upd (fun _ => 0) 0 150)))]) rfl ?_
  refine r_dup dX5_init_36 rfl ?_
  refine r_iconst (v := 1) dX5_init_37 kic_1 ?_
  refine r_sipush (v := 250) dX5_init_38 ksp_250 ?_
  refine r_iast 5 rfl (j := 1) (by decide) (by decide) dX5_init_41 (ws' := [(h, .inr (5, [.ref q5, .ref q16, .null, .int 0, .int 0, .int 0, .int 0])), (q5, .inr (0, [.ref hw9, .ref he9, .int 0, .int (-9)])), (hw9, .inl (Z.2.1, 110, .inl w9)), (he9, .inl (Z.2.1, 5, .inl (fun _ => 0))), (q16, .inr (3, [.int 0, .int 0, .int 0, .int 0, .int 0, .int 0])), (q28, .inl (Z.2.1, 4, .inl (upd (upd (fun _ => 0) 0 150) 1 250)))]) rfl ?_
  refine r_dup dX5_init_42 rfl ?_
  refine r_iconst (v := 2) dX5_init_43 kic_2 ?_
  refine r_sipush (v := 400) dX5_init_44 ksp_400 ?_
  refine r_iast 5 rfl (j := 2) (by decide) (by decide) dX5_init_47 (ws' := [(h, .inr (5, [.ref q5, .ref q16, .null, .int 0, .int 0, .int 0, .int 0])), (q5, .inr (0, [.ref hw9, .ref he9, .int 0, .int (-9)])), (hw9, .inl (Z.2.1, 110, .inl w9)), (he9, .inl (Z.2.1, 5, .inl (fun _ => 0))), (q16, .inr (3, [.int 0, .int 0, .int 0, .int 0, .int 0, .int 0])), (q28, .inl (Z.2.1, 4, .inl (upd (upd (upd (fun _ => 0) 0 150) 1 250) 2 400)))]) rfl ?_
  refine r_dup dX5_init_48 rfl ?_
  refine r_iconst (v := 3) dX5_init_49 kic_3 ?_
  refine r_sipush (v := 800) dX5_init_50 ksp_800 ?_
  refine r_iast 5 rfl (j := 3) (by decide) (by decide) dX5_init_53 (ws' := [(h, .inr (5, [.ref q5, .ref q16, .null, .int 0, .int 0, .int 0, .int 0])), (q5, .inr (0, [.ref hw9, .ref he9, .int 0, .int (-9)])), (hw9, .inl (Z.2.1, 110, .inl w9)), (he9, .inl (Z.2.1, 5, .inl (fun _ => 0))), (q16, .inr (3, [.int 0, .int 0, .int 0, .int 0, .int 0, .int 0])), (q28, .inl (Z.2.1, 4, .inl (upd (upd (upd (upd (fun _ => 0) 0 150) 1 250) 2 400) 3 800)))]) rfl ?_
  refine r_putF hm (T := TX5) (N := 7) kX5 rfl 2 (by decide) rfl tyX5 tyX5_ok nmX5 rfl rfl (ty := tyX5 2) (by decide +kernel) rfl rfl 0 rfl (Nat.le_of_ble_eq_true rfl) qw_100 dX5_init_54 (ws' := [(h, .inr (5, [.ref q5, .ref q16, .ref q28, .int 0, .int 0, .int 0, .int 0])), (q5, .inr (0, [.ref hw9, .ref he9, .int 0, .int (-9)])), (hw9, .inl (Z.2.1, 110, .inl w9)), (he9, .inl (Z.2.1, 5, .inl (fun _ => 0))), (q16, .inr (3, [.int 0, .int 0, .int 0, .int 0, .int 0, .int 0])), (q28, .inl (Z.2.1, 4, .inl (upd (upd (upd (upd (fun _ => 0) 0 150) 1 250) 2 400) 3 800)))]) rfl ?_
  refine r_aload_n dX5_init_57 0 rfl ?_
  refine r_iconst (v := 1) dX5_init_58 kic_1 ?_
  refine pf_X5_3 (by decide) 0 rfl (Nat.le_of_ble_eq_true rfl) qw_101 dX5_init_59 (ws' := [(h, .inr (5, [.ref q5, .ref q16, .ref q28, .int 1, .int 0, .int 0, .int 0])), (q5, .inr (0, [.ref hw9, .ref he9, .int 0, .int (-9)])), (hw9, .inl (Z.2.1, 110, .inl w9)), (he9, .inl (Z.2.1, 5, .inl (fun _ => 0))), (q16, .inr (3, [.int 0, .int 0, .int 0, .int 0, .int 0, .int 0])), (q28, .inl (Z.2.1, 4, .inl (upd (upd (upd (upd (fun _ => 0) 0 150) 1 250) 2 400) 3 800)))]) rfl ?_
  refine r_aload_n dX5_init_62 0 rfl ?_
  refine r_iconst (v := 0) dX5_init_63 kic_0 ?_
  refine pf_X5_4 0 rfl (Nat.le_of_ble_eq_true rfl) qw_103 dX5_init_64 (ws' := [(h, .inr (5, [.ref q5, .ref q16, .ref q28, .int 1, .int 0, .int 0, .int 0])), (q5, .inr (0, [.ref hw9, .ref he9, .int 0, .int (-9)])), (hw9, .inl (Z.2.1, 110, .inl w9)), (he9, .inl (Z.2.1, 5, .inl (fun _ => 0))), (q16, .inr (3, [.int 0, .int 0, .int 0, .int 0, .int 0, .int 0])), (q28, .inl (Z.2.1, 4, .inl (upd (upd (upd (upd (fun _ => 0) 0 150) 1 250) 2 400) 3 800)))]) rfl ?_
  refine r_aload_n dX5_init_67 0 rfl ?_
  refine r_iconst (v := 0) dX5_init_68 kic_0 ?_
  refine pf_X5_5 0 rfl (Nat.le_of_ble_eq_true rfl) qw_105 dX5_init_69 (ws' := [(h, .inr (5, [.ref q5, .ref q16, .ref q28, .int 1, .int 0, .int 0, .int 0])), (q5, .inr (0, [.ref hw9, .ref he9, .int 0, .int (-9)])), (hw9, .inl (Z.2.1, 110, .inl w9)), (he9, .inl (Z.2.1, 5, .inl (fun _ => 0))), (q16, .inr (3, [.int 0, .int 0, .int 0, .int 0, .int 0, .int 0])), (q28, .inl (Z.2.1, 4, .inl (upd (upd (upd (upd (fun _ => 0) 0 150) 1 250) 2 400) 3 800)))]) rfl ?_
  refine r_aload_n dX5_init_72 0 rfl ?_
  refine r_iconst (v := 0) dX5_init_73 kic_0 ?_
  refine pf_X5_6 0 rfl (Nat.le_of_ble_eq_true rfl) qw_107 dX5_init_74 (ws' := [(h, .inr (5, [.ref q5, .ref q16, .ref q28, .int 1, .int 0, .int 0, .int 0])), (q5, .inr (0, [.ref hw9, .ref he9, .int 0, .int (-9)])), (hw9, .inl (Z.2.1, 110, .inl w9)), (he9, .inl (Z.2.1, 5, .inl (fun _ => 0))), (q16, .inr (3, [.int 0, .int 0, .int 0, .int 0, .int 0, .int 0])), (q28, .inl (Z.2.1, 4, .inl (upd (upd (upd (upd (fun _ => 0) 0 150) 1 250) 2 400) 3 800)))]) rfl ?_
  exact r_vretN hE ⟨aF h q5 hw9 he9 q16 q28, w9, fun _ => 0, upd (fun _ => 0) 1 (-9), fun _ => 0, upd (upd (upd (upd (fun _ => 0) 0 150) 1 250) 2 400) 3 800, upd (fun _ => 0) 0 1, rfl, rfl, hf9, fun _ _ => rfl, rfl, rfl, fun _ => rfl, rfl, rfl, rfl, rfl, rfl, rfl, rfl, rfl⟩ (Nat.le_refl _) (Nat.le_refl _) dX5_init_77
abbrev rm_X1_init : Room := { frames := 3, cells := 6, slots := 136, locals := 120 }
set_option maxHeartbeats 4000000 in
set_option maxRecDepth 100000 in
theorem c_X1_init (Z : GZ) (l : Launch) (h : Nat) : ConN Z l yX1_init cX1_init 1 rm_X1_init [.ref h] [(h, .inr (1, [.null, .int 0]))] 6 136 (fun nw => ∃ (a : Nat → Nat) (w er fl me p pr : Nat → Int32), nw = (h, .inr (1, [.ref (a 0), .int 0])) :: wP Z a w er fl me p pr ∧ iniP w er fl me p pr) := by
  refine ConN.of (by decide) rfl (Nat.le_of_ble_eq_true rfl) ?_
  intro X hn hm hE
  show AtK X Z rm_X1_init cX1_init RX1 1 0 0 [(h, .inr (1, [.null, .int 0]))] 0 [(0, .ref h)] []
  refine r_aload_n dX1_init_0 0 rfl ?_
  refine r_obj qw_163 qw_28 qw_29 (Nat.le_of_ble_eq_true rfl) (Nat.le_of_ble_eq_true rfl) dX1_init_1 ?_
  refine r_aload_n dX1_init_4 0 rfl ?_
  refine r_new (ci := 5) hn kX5 tyX5 tyX5_ok rfl (fs := [.null, .null, .null, .int 0, .int 0, .int 0, .int 0]) (fun j hj => by rcases (show j = 0 ∨ j = 1 ∨ j = 2 ∨ j = 3 ∨ j = 4 ∨ j = 5 ∨ j = 6 by omega) with rfl | rfl | rfl | rfl | rfl | rfl | rfl <;> rfl) qw_164 qw_31 qw_14 ⟨Nat.le_of_ble_eq_true rfl, Nat.le_of_ble_eq_true rfl⟩ dX1_init_5 (fun q5 => ?_)
  refine r_dup dX1_init_8 rfl ?_
  refine r_initN hn (fun l => c_X5_init Z l q5) qw_165 mi_X5_init ⟨Nat.le_of_ble_eq_true rfl, Nat.le_of_ble_eq_true rfl⟩ ⟨rfl, rfl⟩ ⟨Nat.le_of_ble_eq_true rfl, Nat.le_of_ble_eq_true rfl⟩ (Nat.le_of_ble_eq_true rfl) dX1_init_9 (fun nw9 hnw9 => ?_)
  obtain ⟨a9, w9, er9, fl9, me9, p9, pr9, rfl, rfl, hi9⟩ := hnw9
  refine r_putF hm (T := TX1) (N := 2) kX1 rfl 0 (by decide) rfl tyX1 tyX1_ok nmX1 rfl rfl (ty := tyX1 0) (by decide +kernel) rfl rfl 0 rfl (Nat.le_of_ble_eq_true rfl) qw_166 dX1_init_12 (ws' := [(h, .inr (1, [.ref (a9 0), .int 0])), ((a9 0), .inr (5, [.ref (a9 1), .ref (a9 4), .ref (a9 5), .int (pr9 0), .int (pr9 1), .int (pr9 2), .int (pr9 3)])), ((a9 1), .inr (0, [.ref (a9 2), .ref (a9 3), .int (fl9 0), .int (fl9 1)])), ((a9 2), .inl (Z.2.1, 110, .inl w9)), ((a9 3), .inl (Z.2.1, 5, .inl er9)), ((a9 4), .inr (3, [.int (me9 0), .int (me9 1), .int (me9 2), .int (me9 3), .int (me9 4), .int (me9 5)])), ((a9 5), .inl (Z.2.1, 4, .inl p9))]) rfl ?_
  refine r_aload_n dX1_init_15 0 rfl ?_
  refine r_iconst (v := 0) dX1_init_16 kic_0 ?_
  refine pf_X1_1 (by decide) 0 rfl (Nat.le_of_ble_eq_true rfl) qw_168 dX1_init_17 (ws' := [(h, .inr (1, [.ref (a9 0), .int 0])), ((a9 0), .inr (5, [.ref (a9 1), .ref (a9 4), .ref (a9 5), .int (pr9 0), .int (pr9 1), .int (pr9 2), .int (pr9 3)])), ((a9 1), .inr (0, [.ref (a9 2), .ref (a9 3), .int (fl9 0), .int (fl9 1)])), ((a9 2), .inl (Z.2.1, 110, .inl w9)), ((a9 3), .inl (Z.2.1, 5, .inl er9)), ((a9 4), .inr (3, [.int (me9 0), .int (me9 1), .int (me9 2), .int (me9 3), .int (me9 4), .int (me9 5)])), ((a9 5), .inl (Z.2.1, 4, .inl p9))]) rfl ?_
  exact r_vretN hE ⟨a9, w9, er9, fl9, me9, p9, pr9, rfl, hi9⟩ (Nat.le_refl _) (Nat.le_refl _) dX1_init_20
def m0F (x : Nat) : Int32 := if x = 130 then 800 else if x = 129 then 400 else if x = 128 then 250 else if x = 127 then 150 else if x = 126 then -9 else if x = 115 then 1 else if x < 110 then w0F x else 0

-- the constructors (laid by wip/gen/inits.py)
theorem qw_90 : Cond.methodLink RX3 3 objectInit ∈ lw_tb := lw_up (List.mem_of_getElem? (i := 90) (by decide +kernel)) rfl
theorem qw_54 : Cond.instanceMethod objectInit ∈ lw_tb := lw_up (List.mem_of_getElem? (i := 54) (by decide +kernel)) rfl
theorem qw_55 : Cond.code objectInit ⟨#[0xb1]⟩ 1 none ∈ lw_tb := lw_up (List.mem_of_getElem? (i := 55) (by decide +kernel)) rfl
theorem qw_155 : Cond.methodLink RX2 3 objectInit ∈ lw_tb := lw_up (List.mem_of_getElem? (i := 155) (by decide +kernel)) rfl
theorem qw_84 : Cond.arrayClass .int ∈ lw_tb := lw_up (List.mem_of_getElem? (i := 84) (by decide +kernel)) rfl
theorem qw_67 : Cond.methodLink RX0 3 objectInit ∈ lw_tb := lw_up (List.mem_of_getElem? (i := 67) (by decide +kernel)) rfl
abbrev rm_X3_init : Room := { frames := 1, cells := 0, slots := 0, locals := 40 }
set_option maxHeartbeats 4000000 in
set_option maxRecDepth 100000 in
theorem c_X3_init (Z : GZ) (l : Launch) (h : Nat) : ConN Z l yX3_init cX3_init 1 rm_X3_init [.ref h] [(h, .inr (3, [.int 0, .int 0, .int 0, .int 0, .int 0, .int 0]))] 0 0 (fun nw => nw = wM Z h (fun _ => 0)) := by
  refine ConN.of (by decide) rfl (Nat.le_of_ble_eq_true rfl) ?_
  intro X hn hE
  show AtK X Z rm_X3_init cX3_init RX3 1 0 0 [(h, .inr (3, [.int 0, .int 0, .int 0, .int 0, .int 0, .int 0]))] 0 [(0, .ref h)] []
  refine r_aload_n dX3_init_0 0 rfl ?_
  refine r_obj qw_90 qw_54 qw_55 (Nat.le_of_ble_eq_true rfl) (Nat.le_of_ble_eq_true rfl) dX3_init_1 ?_
  refine r_aload_n dX3_init_4 0 rfl ?_
  refine r_iconst (v := 0) dX3_init_5 kic_0 ?_
  refine pf_X3_0 0 rfl (Nat.le_of_ble_eq_true rfl) qw_91 dX3_init_6 (ws' := [(h, .inr (3, [.int 0, .int 0, .int 0, .int 0, .int 0, .int 0]))]) rfl ?_
  refine r_aload_n dX3_init_9 0 rfl ?_
  refine r_iconst (v := 0) dX3_init_10 kic_0 ?_
  refine pf_X3_1 0 rfl (Nat.le_of_ble_eq_true rfl) qw_94 dX3_init_11 (ws' := [(h, .inr (3, [.int 0, .int 0, .int 0, .int 0, .int 0, .int 0]))]) rfl ?_
  refine r_aload_n dX3_init_14 0 rfl ?_
  refine r_iconst (v := 0) dX3_init_15 kic_0 ?_
  refine pf_X3_2 0 rfl (Nat.le_of_ble_eq_true rfl) qw_97 dX3_init_16 (ws' := [(h, .inr (3, [.int 0, .int 0, .int 0, .int 0, .int 0, .int 0]))]) rfl ?_
  refine r_aload_n dX3_init_19 0 rfl ?_
  refine r_iconst (v := 0) dX3_init_20 kic_0 ?_
  refine pf_X3_3 0 rfl (Nat.le_of_ble_eq_true rfl) qw_100 dX3_init_21 (ws' := [(h, .inr (3, [.int 0, .int 0, .int 0, .int 0, .int 0, .int 0]))]) rfl ?_
  refine r_aload_n dX3_init_24 0 rfl ?_
  refine r_iconst (v := 0) dX3_init_25 kic_0 ?_
  refine pf_X3_4 0 rfl (Nat.le_of_ble_eq_true rfl) qw_103 dX3_init_26 (ws' := [(h, .inr (3, [.int 0, .int 0, .int 0, .int 0, .int 0, .int 0]))]) rfl ?_
  refine r_aload_n dX3_init_29 0 rfl ?_
  refine r_iconst (v := 0) dX3_init_30 kic_0 ?_
  refine pf_X3_5 0 rfl (Nat.le_of_ble_eq_true rfl) qw_106 dX3_init_31 (ws' := [(h, .inr (3, [.int 0, .int 0, .int 0, .int 0, .int 0, .int 0]))]) rfl ?_
  exact r_vretN hE rfl (Nat.le_refl _) (Nat.le_refl _) dX3_init_34
abbrev rm_X2_init : Room := { frames := 1, cells := 1, slots := 120, locals := 40 }
set_option maxHeartbeats 4000000 in
set_option maxRecDepth 100000 in
theorem c_X2_init (Z : GZ) (l : Launch) (h : Nat) : ConN Z l yX2_init cX2_init 1 rm_X2_init [.ref h] [(h, .inr (2, [.null, .int 0]))] 1 120 (fun nw => ∃ hd, nw = wJ Z h hd (fun _ => 0) 0) := by
  refine ConN.of (by decide) rfl (Nat.le_of_ble_eq_true rfl) ?_
  intro X hn hE
  show AtK X Z rm_X2_init cX2_init RX2 1 0 0 [(h, .inr (2, [.null, .int 0]))] 0 [(0, .ref h)] []
  refine r_aload_n dX2_init_0 0 rfl ?_
  refine r_obj qw_155 qw_54 qw_55 (Nat.le_of_ble_eq_true rfl) (Nat.le_of_ble_eq_true rfl) dX2_init_1 ?_
  refine r_aload_n dX2_init_4 0 rfl ?_
  refine r_bipush (v := 120) dX2_init_5 kbp_120 ?_
  refine r_newa hn qw_84 (N := 120) (by decide) (by decide) (by decide) ⟨Nat.le_of_ble_eq_true rfl, Nat.le_of_ble_eq_true rfl⟩ dX2_init_7 (fun q7 => ?_)
  refine r_putF hn (T := TX2) (N := 2) kX2 rfl 0 (by decide) rfl tyX2 tyX2_ok nmX2 rfl rfl (ty := tyX2 0) (by decide +kernel) rfl rfl 0 rfl (Nat.le_of_ble_eq_true rfl) qw_156 dX2_init_9 (ws' := [(h, .inr (2, [.ref q7, .int 0])), (q7, .inl (Z.2.1, 120, .inl (fun _ => 0)))]) rfl ?_
  refine r_aload_n dX2_init_12 0 rfl ?_
  refine r_iconst (v := 0) dX2_init_13 kic_0 ?_
  refine pf_X2_1 0 rfl (Nat.le_of_ble_eq_true rfl) qw_157 dX2_init_14 (ws' := [(h, .inr (2, [.ref q7, .int 0])), (q7, .inl (Z.2.1, 120, .inl (fun _ => 0)))]) rfl ?_
  exact r_vretN hE ⟨_, rfl⟩ (Nat.le_refl _) (Nat.le_refl _) dX2_init_17
def w0F (x : Nat) : Int32 := if x = 5 then 1 else if x < 5 then 0 else 65535
abbrev rm_X0_init : Room := { frames := 1, cells := 2, slots := 115, locals := 40 }
set_option maxHeartbeats 4000000 in
set_option maxRecDepth 100000 in
theorem c_X0_init (Z : GZ) (l : Launch) (h : Nat) : ConN Z l yX0_init cX0_init 2 rm_X0_init [.ref h] [(h, .inr (0, [.null, .null, .int 0, .int 0]))] 2 115 (fun nw => ∃ hw he w, nw = wF Z h hw he w (fun _ => 0) (upd (fun _ => 0) 1 (-9)) ∧ ∀ x, x < 110 → w x = w0F x) := by
  refine ConN.of (by decide) rfl (Nat.le_of_ble_eq_true rfl) ?_
  intro X hn hE
  show AtK X Z rm_X0_init cX0_init RX0 2 0 0 [(h, .inr (0, [.null, .null, .int 0, .int 0]))] 0 [(0, .ref h)] []
  refine r_aload_n dX0_init_0 0 rfl ?_
  refine r_obj qw_67 qw_54 qw_55 (Nat.le_of_ble_eq_true rfl) (Nat.le_of_ble_eq_true rfl) dX0_init_1 ?_
  refine r_aload_n dX0_init_4 0 rfl ?_
  refine r_bipush (v := 110) dX0_init_5 kbp_110 ?_
  refine r_newa hn qw_84 (N := 110) (by decide) (by decide) (by decide) ⟨Nat.le_of_ble_eq_true rfl, Nat.le_of_ble_eq_true rfl⟩ dX0_init_7 (fun q7 => ?_)
  refine r_putF hn (T := TX0) (N := 4) kX0 rfl 0 (by decide) rfl tyX0 tyX0_ok nmX0 rfl rfl (ty := tyX0 0) (by decide +kernel) rfl rfl 0 rfl (Nat.le_of_ble_eq_true rfl) qw_69 dX0_init_9 (ws' := [(h, .inr (0, [.ref q7, .null, .int 0, .int 0])), (q7, .inl (Z.2.1, 110, .inl (fun _ => 0)))]) rfl ?_
  refine r_aload_n dX0_init_12 0 rfl ?_
  refine r_iconst (v := 5) dX0_init_13 kic_5 ?_
  refine r_newa hn qw_84 (N := 5) (by decide) (by decide) (by decide) ⟨Nat.le_of_ble_eq_true rfl, Nat.le_of_ble_eq_true rfl⟩ dX0_init_14 (fun q14 => ?_)
  refine r_putF hn (T := TX0) (N := 4) kX0 rfl 1 (by decide) rfl tyX0 tyX0_ok nmX0 rfl rfl (ty := tyX0 1) (by decide +kernel) rfl rfl 0 rfl (Nat.le_of_ble_eq_true rfl) qw_70 dX0_init_16 (ws' := [(h, .inr (0, [.ref q7, .ref q14, .int 0, .int 0])), (q7, .inl (Z.2.1, 110, .inl (fun _ => 0))), (q14, .inl (Z.2.1, 5, .inl (fun _ => 0)))]) rfl ?_
  refine r_aload_n dX0_init_19 0 rfl ?_
  refine r_iconst (v := 0) dX0_init_20 kic_0 ?_
  refine pf_X0_2 0 rfl (Nat.le_of_ble_eq_true rfl) qw_71 dX0_init_21 (ws' := [(h, .inr (0, [.ref q7, .ref q14, .int 0, .int 0])), (q7, .inl (Z.2.1, 110, .inl (fun _ => 0))), (q14, .inl (Z.2.1, 5, .inl (fun _ => 0)))]) rfl ?_
  refine r_aload_n dX0_init_24 0 rfl ?_
  refine r_bipush (v := (-9)) dX0_init_25 kbp_m9 ?_
  refine pf_X0_3 0 rfl (Nat.le_of_ble_eq_true rfl) qw_73 dX0_init_27 (ws' := [(h, .inr (0, [.ref q7, .ref q14, .int 0, .int (-9)])), (q7, .inl (Z.2.1, 110, .inl (fun _ => 0))), (q14, .inl (Z.2.1, 5, .inl (fun _ => 0)))]) rfl ?_
  refine r_iconst (v := 0) dX0_init_30 kic_0 ?_
  refine r_istore_n (lv' := [(1, .int 0), (0, .ref h)]) dX0_init_31 (by decide) rfl ?_
  -- the loop, and what stands behind it
  have J : ∀ (k i : Nat) (w : Nat → Int32), i + k = 110 → (∀ x, x < i → w x = if x < 5 then 0 else 65535) → AtK X Z rm_X0_init cX0_init RX0 2 2 115 (wF Z h q7 q14 w (fun _ => 0) (upd (fun _ => 0) 1 (-9))) 32 [(1, .int (nI i)), (0, .ref h)] [] := by
    intro k
    induction k with
    | zero =>
      intro i w hi hw
      rw [show i = 110 by omega] at hw ⊢
      refine r_iload_n dX0_init_32 0 rfl ?_
      refine r_aload_n dX0_init_33 1 rfl ?_
      refine gf_X0_0 (v := .ref q7) 0 rfl rfl qw_69 dX0_init_34 ?_
      refine r_alen 1 0 rfl rfl (v := 110) (by decide) dX0_init_37 ?_
      refine r_icmp_ge (tgt := 64) dX0_init_38 (by decide) (fun _ => ?_) (fun hh => absurd (show (110 : Int32) ≤ nI 110 by decide) hh)
      refine r_aload_n dX0_init_64 1 rfl ?_
      refine gf_X0_0 (v := .ref q7) 0 rfl rfl qw_69 dX0_init_65 ?_
      refine r_iconst (v := 5) dX0_init_68 kic_5 ?_
      refine r_iconst (v := 1) dX0_init_69 kic_1 ?_
      refine r_iast 1 rfl (j := 5) (by decide) (by decide) dX0_init_70 (ws' := wF Z h q7 q14 (upd w 5 1) (fun _ => 0) (upd (fun _ => 0) 1 (-9))) rfl ?_
      exact r_vretN hE ⟨q7, q14, upd w 5 1, rfl, fun x hx => by
        by_cases h5 : x = 5
        · subst h5; simp [upd, w0F]
        · simp only [upd, if_neg h5, w0F]; exact hw x hx⟩ (Nat.le_refl _) (Nat.le_refl _) dX0_init_71
    | succ k ih =>
      intro i w hi hw
      refine r_iload_n dX0_init_32 0 rfl ?_
      refine r_aload_n dX0_init_33 1 rfl ?_
      refine gf_X0_0 (v := .ref q7) 0 rfl rfl qw_69 dX0_init_34 ?_
      refine r_alen 1 0 rfl rfl (v := 110) (by decide) dX0_init_37 ?_
      refine r_icmp_ge (tgt := 64) dX0_init_38 (by decide) (fun hh => absurd hh (nI_ge (a := i) (b := 110) (by omega) (by decide))) (fun _ => ?_)
      refine r_aload_n dX0_init_41 1 rfl ?_
      refine gf_X0_0 (v := .ref q7) 0 rfl rfl qw_69 dX0_init_42 ?_
      refine r_iload_n dX0_init_45 0 rfl ?_
      refine r_iload_n dX0_init_46 0 rfl ?_
      refine r_iconst (v := 5) dX0_init_47 kic_5 ?_
      have step : ∀ v : Int32, v = (if i < 5 then 0 else 65535) → AtK X Z rm_X0_init cX0_init RX0 2 2 115 (wF Z h q7 q14 w (fun _ => 0) (upd (fun _ => 0) 1 (-9))) 57 [(1, .int (nI i)), (0, .ref h)] [.int v, .int (nI i), .ref q7] := by
        intro v hv
        refine r_iast 1 rfl (j := i) (nI_clamp (by omega)) (cond_nI (by omega) (by decide)) dX0_init_57 (ws' := wF Z h q7 q14 (upd w i v) (fun _ => 0) (upd (fun _ => 0) 1 (-9))) rfl ?_
        refine r_iinc (v := nI (i + 1)) (lv' := [(1, .int (nI (i + 1))), (0, .ref h)]) dX0_init_58 (k := 0) rfl (nI_s i) (by decide) rfl ?_
        refine r_goto (tgt := 32) dX0_init_61 (by decide) ?_
        refine ih (i + 1) (upd w i v) (by omega) (fun x hx => ?_)
        by_cases hx2 : x = i
        · subst hx2; simp only [upd, if_true]; exact hv
        · simp only [upd, if_neg hx2]; exact hw x (by omega)
      refine r_icmp_ge (tgt := 55) dX0_init_48 (by decide) (fun hh => ?_) (fun hh => ?_)
      · refine r_ldc qw_68 dX0_init_55 ?_
        exact step 65535 (by rw [if_neg (fun z => nI_ge (a := i) (b := 5) z (by decide) hh)])
      · refine r_iconst (v := 0) dX0_init_51 kic_0 ?_
        refine r_goto (tgt := 57) dX0_init_52 (by decide) ?_
        exact step 0 (by rw [if_pos (Nat.lt_of_not_le (fun z => hh (nI_le (a := 5) (b := i) z (by omega))))])
  exact J 110 0 (fun _ => 0) rfl (fun x hx => absurd hx (Nat.not_lt_zero x))

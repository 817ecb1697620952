-- the case of mean (laid by wip/gen/law.py)
theorem qw_518 : Cond.methodLink RL 88 yX6_mean ∈ lw_tb := lw_up (List.mem_of_getElem? (i := 518) (by decide +kernel)) rfl
theorem qw_521 : Cond.code yX6_mean cX6_mean 3 (some .float) ∈ lw_tb := lw_up (List.mem_of_getElem? (i := 521) (by decide +kernel)) rfl
theorem qw_519 : Cond.instanceMethod yX6_mean ∈ lw_tb := lw_up (List.mem_of_getElem? (i := 519) (by decide +kernel)) rfl
theorem qw_520 : Cond.selects RX6 yX6_mean yX6_mean ∈ lw_tb := lw_up (List.mem_of_getElem? (i := 520) (by decide +kernel)) rfl
theorem qw_798 : Cond.methodLink RL 92 yX7_mean ∈ lw_tb := lw_up (List.mem_of_getElem? (i := 798) (by decide +kernel)) rfl
theorem qw_801 : Cond.code yX7_mean cX7_mean 5 (some .float) ∈ lw_tb := lw_up (List.mem_of_getElem? (i := 801) (by decide +kernel)) rfl
theorem qw_799 : Cond.instanceMethod yX7_mean ∈ lw_tb := lw_up (List.mem_of_getElem? (i := 799) (by decide +kernel)) rfl
theorem qw_800 : Cond.selects RX7 yX7_mean yX7_mean ∈ lw_tb := lw_up (List.mem_of_getElem? (i := 800) (by decide +kernel)) rfl
theorem mv_X6_mean : mVo yX6_mean cX6_mean 3 0 (some .float) := ⟨qw_519, qw_520, qw_38, qw_521, by decide +kernel⟩
theorem mv_X7_mean : mVo yX7_mean cX7_mean 5 0 (some .float) := ⟨qw_799, qw_800, qw_45, qw_801, by decide +kernel⟩
set_option maxHeartbeats 4000000 in
set_option maxRecDepth 100000 in
theorem k_mean {X : CX} {Z : GZ} {kc ks : Nat} {t : Nat} {a : Nat → Nat} {b : Nat → Nat} {hj : Nat} {hd : Nat} {hq : Nat} {hs : Nat} {AD : Nat → Nat → Nat} {hi : Nat} {IH : Nat → Nat} {IA : Nat → Nat → Nat} {x : Nat → Nat} {bs i : Nat} (hkc : kc ≤ room_1.cells ∧ ks ≤ room_1.slots) (h : Nx X Z kc ks t a b hj hd hq hs AD hi IH IA x bs i 763) : Nx X Z kc ks t a b hj hd hq hs AD hi IH IA x bs i 562 := by
  intro w er fl me p pr wt ert flt met pt prt d jc pv W8 E8 F8 M8 P8 R8 fi WI EI FJ MI PJ RI m ps im ik asd rb rp mv hP hA hI
  obtain ⟨B, S, kq, hFI⟩ := hP.fi
  obtain ⟨r, d', jc', rb', rp', mv', e1, e2, he, hnan⟩ := meaF hP.1.1.1 hFI d rb rp mv jc
  have hA2 := hA.cgm he
  refine r_aload_n dL_law_562 2 rfl ?_
  refine r_callV (As := []) (rest := []) (ws' := wA Z t a b hj hd hq hs AD hi IH IA x w er fl me p pr wt ert flt met pt prt d' jc' pv W8 E8 F8 M8 P8 R8 fi WI EI FJ MI PJ RI m ps im ik asd rb rp mv) 0 rfl rfl rfl (fun l => c_X6_mean Z l t (b 0) hq hi a hj hd w er fl me p pr d jc _ e1) qw_518 mv_X6_mean (pk_PJ rfl rfl) ⟨Nat.le_of_ble_eq_true rfl, Nat.le_of_ble_eq_true rfl⟩ ⟨rfl, rfl⟩ hkc rfl (Nat.le_of_ble_eq_true rfl) rfl dL_law_563 ?_
  refine r_f2d (f2_bits hnan) dL_law_566 ?_
  refine r_dstore (lv' := [(4, .double (FP.f2d r)), (3, .int (nI i)), (2, .ref (x 0)), (1, .ref t), (0, .ref bs)]) dL_law_567 (by decide) rfl ?_
  refine r_aload_n dL_law_569 2 rfl ?_
  refine r_callV (As := []) (rest := []) (ws' := wA Z t a b hj hd hq hs AD hi IH IA x w er fl me p pr wt ert flt met pt prt d' jc' pv W8 E8 F8 M8 P8 R8 fi WI EI FJ MI PJ RI m ps im ik asd rb' rp' mv') 0 rfl rfl rfl (fun l => c_X7_mean Z l x m ps im ik asd rb rp mv _ e2) qw_798 mv_X7_mean (pk_X rfl) ⟨Nat.le_of_ble_eq_true rfl, Nat.le_of_ble_eq_true rfl⟩ ⟨rfl, rfl⟩ hkc rfl (Nat.le_of_ble_eq_true rfl) rfl dL_law_570 ?_
  refine r_f2d (f2_bits hnan) dL_law_573 ?_
  refine r_dstore (lv' := [(6, .double (FP.f2d r)), (4, .double (FP.f2d r)), (3, .int (nI i)), (2, .ref (x 0)), (1, .ref t), (0, .ref bs)]) dL_law_574 (by decide) rfl ?_
  refine r_dload dL_law_576 1 rfl ?_
  refine r_dload dL_law_578 0 rfl ?_
  refine r_dcmp (f2_cmp hnan) dL_law_580 ?_
  refine r_if_eq (tgt := 602) dL_law_581 (by decide) (fun _ => ?_) (fun hh => absurd rfl hh)
  refine r_goto (tgt := 763) dL_law_602 (by decide) ?_
  exact r_sub [2, 3, 4, 5] rfl (h w er fl me p pr wt ert flt met pt prt d' jc' pv W8 E8 F8 M8 P8 R8 fi WI EI FJ MI PJ RI m ps im ik asd rb' rp' mv' hP hA2 hI)

-- the cases of the law (laid by wip/gen/law.py)
theorem qw_217 : Cond.methodLink RL 13 yX6_sell ∈ lw_tb := lw_up (List.mem_of_getElem? (i := 217) (by decide +kernel)) rfl
theorem qw_220 : Cond.code yX6_sell cX6_sell 3 (some .int) ∈ lw_tb := lw_up (List.mem_of_getElem? (i := 220) (by decide +kernel)) rfl
theorem qw_218 : Cond.instanceMethod yX6_sell ∈ lw_tb := lw_up (List.mem_of_getElem? (i := 218) (by decide +kernel)) rfl
theorem qw_219 : Cond.selects RX6 yX6_sell yX6_sell ∈ lw_tb := lw_up (List.mem_of_getElem? (i := 219) (by decide +kernel)) rfl
theorem qw_618 : Cond.methodLink RL 17 yX7_sell ∈ lw_tb := lw_up (List.mem_of_getElem? (i := 618) (by decide +kernel)) rfl
theorem qw_621 : Cond.code yX7_sell cX7_sell 3 (some .int) ∈ lw_tb := lw_up (List.mem_of_getElem? (i := 621) (by decide +kernel)) rfl
theorem qw_619 : Cond.instanceMethod yX7_sell ∈ lw_tb := lw_up (List.mem_of_getElem? (i := 619) (by decide +kernel)) rfl
theorem qw_620 : Cond.selects RX7 yX7_sell yX7_sell ∈ lw_tb := lw_up (List.mem_of_getElem? (i := 620) (by decide +kernel)) rfl
theorem mv_X6_sell : mVo yX6_sell cX6_sell 3 1 (some .int) := ⟨qw_218, qw_219, qw_38, qw_220, by decide +kernel⟩
theorem mv_X7_sell : mVo yX7_sell cX7_sell 3 1 (some .int) := ⟨qw_619, qw_620, qw_45, qw_621, by decide +kernel⟩
set_option maxHeartbeats 4000000 in
set_option maxRecDepth 100000 in
theorem k_sell {X : CX} {Z : GZ} {kc ks : Nat} {t : Nat} {a : Nat → Nat} {b : Nat → Nat} {hj : Nat} {hd : Nat} {hq : Nat} {hs : Nat} {AD : Nat → Nat → Nat} {hi : Nat} {IH : Nat → Nat} {IA : Nat → Nat → Nat} {x : Nat → Nat} {bs i L : Nat} {xs : Nat → Int32} (hX : scrX X bs L xs) (hi4 : i + 4 ≤ L) (hL : L ≤ 260) (hkc : kc ≤ room_1.cells ∧ ks ≤ room_1.slots) (h : Nx X Z kc ks t a b hj hd hq hs AD hi IH IA x bs i 763) : Nx X Z kc ks t a b hj hd hq hs AD hi IH IA x bs i 148 := by
  intro w er fl me p pr wt ert flt met pt prt d jc pv W8 E8 F8 M8 P8 R8 fi WI EI FJ MI PJ RI m ps im ik asd rb rp mv hP hA hI
  obtain ⟨r, w', er', fl', me', pr', pv', W8', E8', F8', M8', P8', R8', m', ps', mv', e1, e2, hP2, hA2⟩ := sellF hA hP (xs (i + 1))
  refine r_aload_n dL_law_148 2 rfl ?_
  refine r_aload_n dL_law_149 3 rfl ?_
  refine r_iload_n dL_law_150 0 rfl ?_
  refine r_iconst (v := 1) dL_law_151 kic_1 ?_
  refine r_iadd dL_law_152 ?_
  refine r_sld hX (j := i + 1) (scr_j hi4 hL (k := 1) (by decide)) (scr_in hi4 hL (k := 1) (by decide)) dL_law_153 ?_
  refine r_callV (As := [.int (xs (i + 1))]) (rest := []) (ws' := wA Z t a b hj hd hq hs AD hi IH IA x w' er' fl' me' p pr' wt ert flt met pt prt d jc pv' W8' E8' F8' M8' P8' R8' fi WI EI FJ MI PJ RI m ps im ik asd rb rp mv) 0 rfl rfl rfl (fun l => c_X6_sell Z l t (b 0) hj hi a hq hs AD w er fl me p pr pv W8 E8 F8 M8 P8 R8 (xs (i + 1)) _ e1) qw_217 mv_X6_sell (pk_PQ rfl wQ_dom) ⟨Nat.le_of_ble_eq_true rfl, Nat.le_of_ble_eq_true rfl⟩ ⟨rfl, rfl⟩ hkc rfl (Nat.le_of_ble_eq_true rfl) rfl dL_law_154 ?_
  refine r_aload_n dL_law_157 1 rfl ?_
  refine r_aload_n dL_law_158 3 rfl ?_
  refine r_iload_n dL_law_159 0 rfl ?_
  refine r_iconst (v := 1) dL_law_160 kic_1 ?_
  refine r_iadd dL_law_161 ?_
  refine r_sld hX (j := i + 1) (scr_j hi4 hL (k := 1) (by decide)) (scr_in hi4 hL (k := 1) (by decide)) dL_law_162 ?_
  refine r_callV (As := [.int (xs (i + 1))]) (rest := [.int r]) (ws' := wA Z t a b hj hd hq hs AD hi IH IA x w' er' fl' me' p pr' wt ert flt met pt prt d jc pv' W8' E8' F8' M8' P8' R8' fi WI EI FJ MI PJ RI m' ps' im ik asd rb rp mv') 0 rfl rfl rfl (fun l => c_X7_sell Z l x m ps im ik asd rb rp mv (xs (i + 1)) _ e2) qw_618 mv_X7_sell (pk_X rfl) ⟨Nat.le_of_ble_eq_true rfl, Nat.le_of_ble_eq_true rfl⟩ ⟨rfl, rfl⟩ hkc rfl (Nat.le_of_ble_eq_true rfl) rfl dL_law_163 ?_
  refine r_icmp_eq (tgt := 763) dL_law_166 (by decide) (fun _ => ?_) (fun hh => absurd rfl hh)
  exact h w' er' fl' me' p pr' wt ert flt met pt prt d jc pv' W8' E8' F8' M8' P8' R8' fi WI EI FJ MI PJ RI m' ps' im ik asd rb rp mv' hP2 hA2 hI

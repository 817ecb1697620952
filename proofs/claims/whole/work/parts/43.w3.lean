-- the cases of the law (laid by wip/gen/law.py)
theorem qw_217 : Cond.methodLink RL 13 yX6_sell ∈ lw_tb := lw_up (List.mem_of_getElem? (i := 217) (by decide +kernel)) rfl
theorem qw_220 : Cond.code yX6_sell cX6_sell 3 (some .int) ∈ lw_tb := lw_up (List.mem_of_getElem? (i := 220) (by decide +kernel)) rfl
theorem qw_218 : Cond.instanceMethod yX6_sell ∈ lw_tb := lw_up (List.mem_of_getElem? (i := 218) (by decide +kernel)) rfl
theorem qw_219 : Cond.selects RX6 yX6_sell yX6_sell ∈ lw_tb := lw_up (List.mem_of_getElem? (i := 219) (by decide +kernel)) rfl
theorem qw_618 : Cond.methodLink RL 17 yX7_sell ∈ lw_tb := lw_up (List.mem_of_getElem? (i := 618) (by decide +kernel)) rfl
theorem qw_621 : Cond.code yX7_sell cX7_sell 3 (some .int) ∈ lw_tb := lw_up (List.mem_of_getElem? (i := 621) (by decide +kernel)) rfl
theorem qw_619 : Cond.instanceMethod yX7_sell ∈ lw_tb := lw_up (List.mem_of_getElem? (i := 619) (by decide +kernel)) rfl
theorem qw_620 : Cond.selects RX7 yX7_sell yX7_sell ∈ lw_tb := lw_up (List.mem_of_getElem? (i := 620) (by decide +kernel)) rfl
theorem qw_315 : Cond.methodLink RL 18 yX6_cancel ∈ lw_tb := lw_up (List.mem_of_getElem? (i := 315) (by decide +kernel)) rfl
theorem qw_318 : Cond.code yX6_cancel cX6_cancel 1 (some .int) ∈ lw_tb := lw_up (List.mem_of_getElem? (i := 318) (by decide +kernel)) rfl
theorem qw_316 : Cond.instanceMethod yX6_cancel ∈ lw_tb := lw_up (List.mem_of_getElem? (i := 316) (by decide +kernel)) rfl
theorem qw_317 : Cond.selects RX6 yX6_cancel yX6_cancel ∈ lw_tb := lw_up (List.mem_of_getElem? (i := 317) (by decide +kernel)) rfl
theorem qw_678 : Cond.methodLink RL 22 yX7_cancel ∈ lw_tb := lw_up (List.mem_of_getElem? (i := 678) (by decide +kernel)) rfl
theorem qw_681 : Cond.code yX7_cancel cX7_cancel 4 (some .int) ∈ lw_tb := lw_up (List.mem_of_getElem? (i := 681) (by decide +kernel)) rfl
theorem qw_679 : Cond.instanceMethod yX7_cancel ∈ lw_tb := lw_up (List.mem_of_getElem? (i := 679) (by decide +kernel)) rfl
theorem qw_680 : Cond.selects RX7 yX7_cancel yX7_cancel ∈ lw_tb := lw_up (List.mem_of_getElem? (i := 680) (by decide +kernel)) rfl
theorem qw_342 : Cond.methodLink RL 23 yX6_close ∈ lw_tb := lw_up (List.mem_of_getElem? (i := 342) (by decide +kernel)) rfl
theorem qw_345 : Cond.code yX6_close cX6_close 1 (some .int) ∈ lw_tb := lw_up (List.mem_of_getElem? (i := 345) (by decide +kernel)) rfl
theorem qw_343 : Cond.instanceMethod yX6_close ∈ lw_tb := lw_up (List.mem_of_getElem? (i := 343) (by decide +kernel)) rfl
theorem qw_344 : Cond.selects RX6 yX6_close yX6_close ∈ lw_tb := lw_up (List.mem_of_getElem? (i := 344) (by decide +kernel)) rfl
theorem qw_694 : Cond.methodLink RL 26 yX7_close ∈ lw_tb := lw_up (List.mem_of_getElem? (i := 694) (by decide +kernel)) rfl
theorem qw_697 : Cond.code yX7_close cX7_close 2 (some .int) ∈ lw_tb := lw_up (List.mem_of_getElem? (i := 697) (by decide +kernel)) rfl
theorem qw_695 : Cond.instanceMethod yX7_close ∈ lw_tb := lw_up (List.mem_of_getElem? (i := 695) (by decide +kernel)) rfl
theorem qw_696 : Cond.selects RX7 yX7_close yX7_close ∈ lw_tb := lw_up (List.mem_of_getElem? (i := 696) (by decide +kernel)) rfl
theorem qw_350 : Cond.methodLink RL 27 yX6_load ∈ lw_tb := lw_up (List.mem_of_getElem? (i := 350) (by decide +kernel)) rfl
theorem qw_353 : Cond.code yX6_load cX6_load 3 (some .int) ∈ lw_tb := lw_up (List.mem_of_getElem? (i := 353) (by decide +kernel)) rfl
theorem qw_351 : Cond.instanceMethod yX6_load ∈ lw_tb := lw_up (List.mem_of_getElem? (i := 351) (by decide +kernel)) rfl
theorem qw_352 : Cond.selects RX6 yX6_load yX6_load ∈ lw_tb := lw_up (List.mem_of_getElem? (i := 352) (by decide +kernel)) rfl
theorem qw_698 : Cond.methodLink RL 31 yX7_load ∈ lw_tb := lw_up (List.mem_of_getElem? (i := 698) (by decide +kernel)) rfl
theorem qw_701 : Cond.code yX7_load cX7_load 4 (some .int) ∈ lw_tb := lw_up (List.mem_of_getElem? (i := 701) (by decide +kernel)) rfl
theorem qw_699 : Cond.instanceMethod yX7_load ∈ lw_tb := lw_up (List.mem_of_getElem? (i := 699) (by decide +kernel)) rfl
theorem qw_700 : Cond.selects RX7 yX7_load yX7_load ∈ lw_tb := lw_up (List.mem_of_getElem? (i := 700) (by decide +kernel)) rfl
theorem qw_359 : Cond.methodLink RL 32 yX6_setClock ∈ lw_tb := lw_up (List.mem_of_getElem? (i := 359) (by decide +kernel)) rfl
theorem qw_362 : Cond.code yX6_setClock cX6_setClock 2 (some .int) ∈ lw_tb := lw_up (List.mem_of_getElem? (i := 362) (by decide +kernel)) rfl
theorem qw_360 : Cond.instanceMethod yX6_setClock ∈ lw_tb := lw_up (List.mem_of_getElem? (i := 360) (by decide +kernel)) rfl
theorem qw_361 : Cond.selects RX6 yX6_setClock yX6_setClock ∈ lw_tb := lw_up (List.mem_of_getElem? (i := 361) (by decide +kernel)) rfl
theorem qw_703 : Cond.methodLink RL 35 yX7_setClock ∈ lw_tb := lw_up (List.mem_of_getElem? (i := 703) (by decide +kernel)) rfl
theorem qw_706 : Cond.code yX7_setClock cX7_setClock 3 (some .int) ∈ lw_tb := lw_up (List.mem_of_getElem? (i := 706) (by decide +kernel)) rfl
theorem qw_704 : Cond.instanceMethod yX7_setClock ∈ lw_tb := lw_up (List.mem_of_getElem? (i := 704) (by decide +kernel)) rfl
theorem qw_705 : Cond.selects RX7 yX7_setClock yX7_setClock ∈ lw_tb := lw_up (List.mem_of_getElem? (i := 705) (by decide +kernel)) rfl
theorem qw_371 : Cond.methodLink RL 36 yX6_pass ∈ lw_tb := lw_up (List.mem_of_getElem? (i := 371) (by decide +kernel)) rfl
theorem qw_374 : Cond.code yX6_pass cX6_pass 2 (some .int) ∈ lw_tb := lw_up (List.mem_of_getElem? (i := 374) (by decide +kernel)) rfl
theorem qw_372 : Cond.instanceMethod yX6_pass ∈ lw_tb := lw_up (List.mem_of_getElem? (i := 372) (by decide +kernel)) rfl
theorem qw_373 : Cond.selects RX6 yX6_pass yX6_pass ∈ lw_tb := lw_up (List.mem_of_getElem? (i := 373) (by decide +kernel)) rfl
theorem qw_707 : Cond.methodLink RL 39 yX7_pass ∈ lw_tb := lw_up (List.mem_of_getElem? (i := 707) (by decide +kernel)) rfl
theorem qw_710 : Cond.code yX7_pass cX7_pass 2 (some .int) ∈ lw_tb := lw_up (List.mem_of_getElem? (i := 710) (by decide +kernel)) rfl
theorem qw_708 : Cond.instanceMethod yX7_pass ∈ lw_tb := lw_up (List.mem_of_getElem? (i := 708) (by decide +kernel)) rfl
theorem qw_709 : Cond.selects RX7 yX7_pass yX7_pass ∈ lw_tb := lw_up (List.mem_of_getElem? (i := 709) (by decide +kernel)) rfl
theorem qw_378 : Cond.methodLink RL 40 yX6_setPrice ∈ lw_tb := lw_up (List.mem_of_getElem? (i := 378) (by decide +kernel)) rfl
theorem qw_381 : Cond.code yX6_setPrice cX6_setPrice 4 (some .int) ∈ lw_tb := lw_up (List.mem_of_getElem? (i := 381) (by decide +kernel)) rfl
theorem qw_379 : Cond.instanceMethod yX6_setPrice ∈ lw_tb := lw_up (List.mem_of_getElem? (i := 379) (by decide +kernel)) rfl
theorem qw_380 : Cond.selects RX6 yX6_setPrice yX6_setPrice ∈ lw_tb := lw_up (List.mem_of_getElem? (i := 380) (by decide +kernel)) rfl
theorem qw_711 : Cond.methodLink RL 43 yX7_setPrice ∈ lw_tb := lw_up (List.mem_of_getElem? (i := 711) (by decide +kernel)) rfl
theorem qw_714 : Cond.code yX7_setPrice cX7_setPrice 4 (some .int) ∈ lw_tb := lw_up (List.mem_of_getElem? (i := 714) (by decide +kernel)) rfl
theorem qw_712 : Cond.instanceMethod yX7_setPrice ∈ lw_tb := lw_up (List.mem_of_getElem? (i := 712) (by decide +kernel)) rfl
theorem qw_713 : Cond.selects RX7 yX7_setPrice yX7_setPrice ∈ lw_tb := lw_up (List.mem_of_getElem? (i := 713) (by decide +kernel)) rfl
theorem qw_388 : Cond.methodLink RL 44 yX6_cut ∈ lw_tb := lw_up (List.mem_of_getElem? (i := 388) (by decide +kernel)) rfl
theorem qw_391 : Cond.code yX6_cut cX6_cut 3 (some .int) ∈ lw_tb := lw_up (List.mem_of_getElem? (i := 391) (by decide +kernel)) rfl
theorem qw_389 : Cond.instanceMethod yX6_cut ∈ lw_tb := lw_up (List.mem_of_getElem? (i := 389) (by decide +kernel)) rfl
theorem qw_390 : Cond.selects RX6 yX6_cut yX6_cut ∈ lw_tb := lw_up (List.mem_of_getElem? (i := 390) (by decide +kernel)) rfl
theorem qw_715 : Cond.methodLink RL 47 yX7_cut ∈ lw_tb := lw_up (List.mem_of_getElem? (i := 715) (by decide +kernel)) rfl
theorem qw_718 : Cond.code yX7_cut cX7_cut 3 (some .int) ∈ lw_tb := lw_up (List.mem_of_getElem? (i := 718) (by decide +kernel)) rfl
theorem qw_716 : Cond.instanceMethod yX7_cut ∈ lw_tb := lw_up (List.mem_of_getElem? (i := 716) (by decide +kernel)) rfl
theorem qw_717 : Cond.selects RX7 yX7_cut yX7_cut ∈ lw_tb := lw_up (List.mem_of_getElem? (i := 717) (by decide +kernel)) rfl
theorem qw_392 : Cond.methodLink RL 48 yX6_off ∈ lw_tb := lw_up (List.mem_of_getElem? (i := 392) (by decide +kernel)) rfl
theorem qw_395 : Cond.code yX6_off cX6_off 1 (some .int) ∈ lw_tb := lw_up (List.mem_of_getElem? (i := 395) (by decide +kernel)) rfl
theorem qw_393 : Cond.instanceMethod yX6_off ∈ lw_tb := lw_up (List.mem_of_getElem? (i := 393) (by decide +kernel)) rfl
theorem qw_394 : Cond.selects RX6 yX6_off yX6_off ∈ lw_tb := lw_up (List.mem_of_getElem? (i := 394) (by decide +kernel)) rfl
theorem qw_719 : Cond.methodLink RL 51 yX7_off ∈ lw_tb := lw_up (List.mem_of_getElem? (i := 719) (by decide +kernel)) rfl
theorem qw_722 : Cond.code yX7_off cX7_off 1 (some .int) ∈ lw_tb := lw_up (List.mem_of_getElem? (i := 722) (by decide +kernel)) rfl
theorem qw_720 : Cond.instanceMethod yX7_off ∈ lw_tb := lw_up (List.mem_of_getElem? (i := 720) (by decide +kernel)) rfl
theorem qw_721 : Cond.selects RX7 yX7_off yX7_off ∈ lw_tb := lw_up (List.mem_of_getElem? (i := 721) (by decide +kernel)) rfl
theorem qw_411 : Cond.methodLink RL 52 yX6_start ∈ lw_tb := lw_up (List.mem_of_getElem? (i := 411) (by decide +kernel)) rfl
theorem qw_414 : Cond.code yX6_start cX6_start 1 (some .int) ∈ lw_tb := lw_up (List.mem_of_getElem? (i := 414) (by decide +kernel)) rfl
theorem qw_412 : Cond.instanceMethod yX6_start ∈ lw_tb := lw_up (List.mem_of_getElem? (i := 412) (by decide +kernel)) rfl
theorem qw_413 : Cond.selects RX6 yX6_start yX6_start ∈ lw_tb := lw_up (List.mem_of_getElem? (i := 413) (by decide +kernel)) rfl
theorem qw_739 : Cond.methodLink RL 55 yX7_start ∈ lw_tb := lw_up (List.mem_of_getElem? (i := 739) (by decide +kernel)) rfl
theorem qw_742 : Cond.code yX7_start cX7_start 1 (some .int) ∈ lw_tb := lw_up (List.mem_of_getElem? (i := 742) (by decide +kernel)) rfl
theorem qw_740 : Cond.instanceMethod yX7_start ∈ lw_tb := lw_up (List.mem_of_getElem? (i := 740) (by decide +kernel)) rfl
theorem qw_741 : Cond.selects RX7 yX7_start yX7_start ∈ lw_tb := lw_up (List.mem_of_getElem? (i := 741) (by decide +kernel)) rfl
theorem qw_439 : Cond.methodLink RL 56 yX6_undo ∈ lw_tb := lw_up (List.mem_of_getElem? (i := 439) (by decide +kernel)) rfl
theorem qw_442 : Cond.code yX6_undo cX6_undo 1 (some .int) ∈ lw_tb := lw_up (List.mem_of_getElem? (i := 442) (by decide +kernel)) rfl
theorem qw_440 : Cond.instanceMethod yX6_undo ∈ lw_tb := lw_up (List.mem_of_getElem? (i := 440) (by decide +kernel)) rfl
theorem qw_441 : Cond.selects RX6 yX6_undo yX6_undo ∈ lw_tb := lw_up (List.mem_of_getElem? (i := 441) (by decide +kernel)) rfl
theorem qw_614 : Cond.methodLink RL 59 yX7_undo ∈ lw_tb := lw_up (List.mem_of_getElem? (i := 614) (by decide +kernel)) rfl
theorem qw_617 : Cond.code yX7_undo cX7_undo 2 (some .int) ∈ lw_tb := lw_up (List.mem_of_getElem? (i := 617) (by decide +kernel)) rfl
theorem qw_615 : Cond.instanceMethod yX7_undo ∈ lw_tb := lw_up (List.mem_of_getElem? (i := 615) (by decide +kernel)) rfl
theorem qw_616 : Cond.selects RX7 yX7_undo yX7_undo ∈ lw_tb := lw_up (List.mem_of_getElem? (i := 616) (by decide +kernel)) rfl
theorem mv_X6_sell : mVo yX6_sell cX6_sell 3 1 (some .int) := ⟨qw_218, qw_219, qw_38, qw_220, by decide +kernel⟩
theorem mv_X7_sell : mVo yX7_sell cX7_sell 3 1 (some .int) := ⟨qw_619, qw_620, qw_45, qw_621, by decide +kernel⟩
theorem mv_X6_cancel : mVo yX6_cancel cX6_cancel 1 0 (some .int) := ⟨qw_316, qw_317, qw_38, qw_318, by decide +kernel⟩
theorem mv_X7_cancel : mVo yX7_cancel cX7_cancel 4 0 (some .int) := ⟨qw_679, qw_680, qw_45, qw_681, by decide +kernel⟩
theorem mv_X6_close : mVo yX6_close cX6_close 1 0 (some .int) := ⟨qw_343, qw_344, qw_38, qw_345, by decide +kernel⟩
theorem mv_X7_close : mVo yX7_close cX7_close 2 0 (some .int) := ⟨qw_695, qw_696, qw_45, qw_697, by decide +kernel⟩
theorem mv_X6_load : mVo yX6_load cX6_load 3 2 (some .int) := ⟨qw_351, qw_352, qw_38, qw_353, by decide +kernel⟩
theorem mv_X7_load : mVo yX7_load cX7_load 4 2 (some .int) := ⟨qw_699, qw_700, qw_45, qw_701, by decide +kernel⟩
theorem mv_X6_setClock : mVo yX6_setClock cX6_setClock 2 1 (some .int) := ⟨qw_360, qw_361, qw_38, qw_362, by decide +kernel⟩
theorem mv_X7_setClock : mVo yX7_setClock cX7_setClock 3 1 (some .int) := ⟨qw_704, qw_705, qw_45, qw_706, by decide +kernel⟩
theorem mv_X6_pass : mVo yX6_pass cX6_pass 2 1 (some .int) := ⟨qw_372, qw_373, qw_38, qw_374, by decide +kernel⟩
theorem mv_X7_pass : mVo yX7_pass cX7_pass 2 1 (some .int) := ⟨qw_708, qw_709, qw_45, qw_710, by decide +kernel⟩
theorem mv_X6_setPrice : mVo yX6_setPrice cX6_setPrice 4 2 (some .int) := ⟨qw_379, qw_380, qw_38, qw_381, by decide +kernel⟩
theorem mv_X7_setPrice : mVo yX7_setPrice cX7_setPrice 4 2 (some .int) := ⟨qw_712, qw_713, qw_45, qw_714, by decide +kernel⟩
theorem mv_X6_cut : mVo yX6_cut cX6_cut 3 1 (some .int) := ⟨qw_389, qw_390, qw_38, qw_391, by decide +kernel⟩
theorem mv_X7_cut : mVo yX7_cut cX7_cut 3 1 (some .int) := ⟨qw_716, qw_717, qw_45, qw_718, by decide +kernel⟩
theorem mv_X6_off : mVo yX6_off cX6_off 1 0 (some .int) := ⟨qw_393, qw_394, qw_38, qw_395, by decide +kernel⟩
theorem mv_X7_off : mVo yX7_off cX7_off 1 0 (some .int) := ⟨qw_720, qw_721, qw_45, qw_722, by decide +kernel⟩
theorem mv_X6_start : mVo yX6_start cX6_start 1 0 (some .int) := ⟨qw_412, qw_413, qw_38, qw_414, by decide +kernel⟩
theorem mv_X7_start : mVo yX7_start cX7_start 1 0 (some .int) := ⟨qw_740, qw_741, qw_45, qw_742, by decide +kernel⟩
theorem mv_X6_undo : mVo yX6_undo cX6_undo 1 0 (some .int) := ⟨qw_440, qw_441, qw_38, qw_442, by decide +kernel⟩
theorem mv_X7_undo : mVo yX7_undo cX7_undo 2 0 (some .int) := ⟨qw_615, qw_616, qw_45, qw_617, by decide +kernel⟩
set_option maxHeartbeats 4000000 in
set_option maxRecDepth 100000 in
theorem k_sell {X : CX} {Z : GZ} {kc ks : Nat} {t : Nat} {a : Nat → Nat} {b : Nat → Nat} {hj : Nat} {hd : Nat} {hq : Nat} {hs : Nat} {AD : Nat → Nat → Nat} {hi : Nat} {IH : Nat → Nat} {IA : Nat → Nat → Nat} {x : Nat → Nat} {bs i L : Nat} {xs : Nat → Int32} (hX : scrX X bs L xs) (hi4 : i + 4 ≤ L) (hL : L ≤ 260) (hkc : kc ≤ room_1.cells ∧ ks ≤ room_1.slots) (h : Nx X Z kc ks t a b hj hd hq hs AD hi IH IA x bs i 763) : Nx X Z kc ks t a b hj hd hq hs AD hi IH IA x bs i 148 := by
  intro w er fl me p pr wt ert flt met pt prt d jc pv W8 E8 F8 M8 P8 R8 fi WI EI FJ MI PJ RI m ps im ik asd rb rp mv hP hA hI
  obtain ⟨r, w', er', fl', me', pr', pv', W8', E8', F8', M8', P8', R8', m', ps', mv', e1, e2, hP2, hA2⟩ := sellF hA hP (xs (i + 1))
  refine r_aload_n dL_law_148 2 rfl ?_
  refine r_aload_n dL_law_149 3 rfl ?_
  refine r_iload_n dL_law_150 0 rfl ?_
  refine r_iconst (v := 1) dL_law_151 kic_1 ?_
  refine r_iadd dL_law_152 ?_
  refine r_sld hX (j := i + 1) (scr_j hi4 hL (k := 1) (by decide)) (scr_in hi4 hL (k := 1) (by decide)) dL_law_153 ?_
  refine r_callV (As := [.int (xs (i + 1))]) (rest := []) (ws' := wA Z t a b hj hd hq hs AD hi IH IA x w' er' fl' me' p pr' wt ert flt met pt prt d jc pv' W8' E8' F8' M8' P8' R8' fi WI EI FJ MI PJ RI m ps im ik asd rb rp mv) 0 rfl rfl rfl (fun l => c_X6_sell Z l t (b 0) hj hi a hq hs AD w er fl me p pr pv W8 E8 F8 M8 P8 R8 (xs (i + 1)) _ e1) qw_217 mv_X6_sell (pk_PQ rfl wQ_dom) ⟨Nat.le_of_ble_eq_true rfl, Nat.le_of_ble_eq_true rfl⟩ ⟨rfl, rfl⟩ hkc rfl (Nat.le_of_ble_eq_true rfl) rfl dL_law_154 ?_
  refine r_aload_n dL_law_157 1 rfl ?_
  refine r_aload_n dL_law_158 3 rfl ?_
  refine r_iload_n dL_law_159 0 rfl ?_
  refine r_iconst (v := 1) dL_law_160 kic_1 ?_
  refine r_iadd dL_law_161 ?_
  refine r_sld hX (j := i + 1) (scr_j hi4 hL (k := 1) (by decide)) (scr_in hi4 hL (k := 1) (by decide)) dL_law_162 ?_
  refine r_callV (As := [.int (xs (i + 1))]) (rest := [.int r]) (ws' := wA Z t a b hj hd hq hs AD hi IH IA x w' er' fl' me' p pr' wt ert flt met pt prt d jc pv' W8' E8' F8' M8' P8' R8' fi WI EI FJ MI PJ RI m' ps' im ik asd rb rp mv') 0 rfl rfl rfl (fun l => c_X7_sell Z l x m ps im ik asd rb rp mv (xs (i + 1)) _ e2) qw_618 mv_X7_sell (pk_X rfl) ⟨Nat.le_of_ble_eq_true rfl, Nat.le_of_ble_eq_true rfl⟩ ⟨rfl, rfl⟩ hkc rfl (Nat.le_of_ble_eq_true rfl) rfl dL_law_163 ?_
  refine r_icmp_eq (tgt := 763) dL_law_166 (by decide) (fun _ => ?_) (fun hh => absurd rfl hh)
  exact h w' er' fl' me' p pr' wt ert flt met pt prt d jc pv' W8' E8' F8' M8' P8' R8' fi WI EI FJ MI PJ RI m' ps' im ik asd rb rp mv' hP2 hA2 hI
set_option maxHeartbeats 4000000 in
set_option maxRecDepth 100000 in
theorem k_cancel {X : CX} {Z : GZ} {kc ks : Nat} {t : Nat} {a : Nat → Nat} {b : Nat → Nat} {hj : Nat} {hd : Nat} {hq : Nat} {hs : Nat} {AD : Nat → Nat → Nat} {hi : Nat} {IH : Nat → Nat} {IA : Nat → Nat → Nat} {x : Nat → Nat} {bs i L : Nat} {xs : Nat → Int32} (hX : scrX X bs L xs) (hi4 : i + 4 ≤ L) (hL : L ≤ 260) (hkc : kc ≤ room_1.cells ∧ ks ≤ room_1.slots) (h : Nx X Z kc ks t a b hj hd hq hs AD hi IH IA x bs i 763) : Nx X Z kc ks t a b hj hd hq hs AD hi IH IA x bs i 171 := by
  intro w er fl me p pr wt ert flt met pt prt d jc pv W8 E8 F8 M8 P8 R8 fi WI EI FJ MI PJ RI m ps im ik asd rb rp mv hP hA hI
  obtain ⟨r, w', er', fl', me', pr', pv', W8', E8', F8', M8', P8', R8', m', ps', mv', e1, e2, hP2, hA2⟩ := cancelF hA hP 
  refine r_aload_n dL_law_171 2 rfl ?_
  refine r_callV (As := []) (rest := []) (ws' := wA Z t a b hj hd hq hs AD hi IH IA x w' er' fl' me' p pr' wt ert flt met pt prt d jc pv' W8' E8' F8' M8' P8' R8' fi WI EI FJ MI PJ RI m ps im ik asd rb rp mv) 0 rfl rfl rfl (fun l => c_X6_cancel Z l t (b 0) hj hi a hq hs AD w er fl me p pr pv W8 E8 F8 M8 P8 R8  _ e1) qw_315 mv_X6_cancel (pk_PQ rfl wQ_dom) ⟨Nat.le_of_ble_eq_true rfl, Nat.le_of_ble_eq_true rfl⟩ ⟨rfl, rfl⟩ hkc rfl (Nat.le_of_ble_eq_true rfl) rfl dL_law_172 ?_
  refine r_aload_n dL_law_175 1 rfl ?_
  refine r_callV (As := []) (rest := [.int r]) (ws' := wA Z t a b hj hd hq hs AD hi IH IA x w' er' fl' me' p pr' wt ert flt met pt prt d jc pv' W8' E8' F8' M8' P8' R8' fi WI EI FJ MI PJ RI m' ps' im ik asd rb rp mv') 0 rfl rfl rfl (fun l => c_X7_cancel Z l x m ps im ik asd rb rp mv  _ e2) qw_678 mv_X7_cancel (pk_X rfl) ⟨Nat.le_of_ble_eq_true rfl, Nat.le_of_ble_eq_true rfl⟩ ⟨rfl, rfl⟩ hkc rfl (Nat.le_of_ble_eq_true rfl) rfl dL_law_176 ?_
  refine r_icmp_eq (tgt := 763) dL_law_179 (by decide) (fun _ => ?_) (fun hh => absurd rfl hh)
  exact h w' er' fl' me' p pr' wt ert flt met pt prt d jc pv' W8' E8' F8' M8' P8' R8' fi WI EI FJ MI PJ RI m' ps' im ik asd rb rp mv' hP2 hA2 hI
set_option maxHeartbeats 4000000 in
set_option maxRecDepth 100000 in
theorem k_close {X : CX} {Z : GZ} {kc ks : Nat} {t : Nat} {a : Nat → Nat} {b : Nat → Nat} {hj : Nat} {hd : Nat} {hq : Nat} {hs : Nat} {AD : Nat → Nat → Nat} {hi : Nat} {IH : Nat → Nat} {IA : Nat → Nat → Nat} {x : Nat → Nat} {bs i L : Nat} {xs : Nat → Int32} (hX : scrX X bs L xs) (hi4 : i + 4 ≤ L) (hL : L ≤ 260) (hkc : kc ≤ room_1.cells ∧ ks ≤ room_1.slots) (h : Nx X Z kc ks t a b hj hd hq hs AD hi IH IA x bs i 763) : Nx X Z kc ks t a b hj hd hq hs AD hi IH IA x bs i 184 := by
  intro w er fl me p pr wt ert flt met pt prt d jc pv W8 E8 F8 M8 P8 R8 fi WI EI FJ MI PJ RI m ps im ik asd rb rp mv hP hA hI
  obtain ⟨r, w', er', fl', me', pr', pv', W8', E8', F8', M8', P8', R8', m', ps', mv', e1, e2, hP2, hA2⟩ := closeF hA hP 
  refine r_aload_n dL_law_184 2 rfl ?_
  refine r_callV (As := []) (rest := []) (ws' := wA Z t a b hj hd hq hs AD hi IH IA x w' er' fl' me' p pr' wt ert flt met pt prt d jc pv' W8' E8' F8' M8' P8' R8' fi WI EI FJ MI PJ RI m ps im ik asd rb rp mv) 0 rfl rfl rfl (fun l => c_X6_close Z l t (b 0) hj hi a hq hs AD w er fl me p pr pv W8 E8 F8 M8 P8 R8  _ e1) qw_342 mv_X6_close (pk_PQ rfl wQ_dom) ⟨Nat.le_of_ble_eq_true rfl, Nat.le_of_ble_eq_true rfl⟩ ⟨rfl, rfl⟩ hkc rfl (Nat.le_of_ble_eq_true rfl) rfl dL_law_185 ?_
  refine r_aload_n dL_law_188 1 rfl ?_
  refine r_callV (As := []) (rest := [.int r]) (ws' := wA Z t a b hj hd hq hs AD hi IH IA x w' er' fl' me' p pr' wt ert flt met pt prt d jc pv' W8' E8' F8' M8' P8' R8' fi WI EI FJ MI PJ RI m' ps' im ik asd rb rp mv') 0 rfl rfl rfl (fun l => c_X7_close Z l x m ps im ik asd rb rp mv  _ e2) qw_694 mv_X7_close (pk_X rfl) ⟨Nat.le_of_ble_eq_true rfl, Nat.le_of_ble_eq_true rfl⟩ ⟨rfl, rfl⟩ hkc rfl (Nat.le_of_ble_eq_true rfl) rfl dL_law_189 ?_
  refine r_icmp_eq (tgt := 763) dL_law_192 (by decide) (fun _ => ?_) (fun hh => absurd rfl hh)
  exact h w' er' fl' me' p pr' wt ert flt met pt prt d jc pv' W8' E8' F8' M8' P8' R8' fi WI EI FJ MI PJ RI m' ps' im ik asd rb rp mv' hP2 hA2 hI
set_option maxHeartbeats 4000000 in
set_option maxRecDepth 100000 in
theorem k_load {X : CX} {Z : GZ} {kc ks : Nat} {t : Nat} {a : Nat → Nat} {b : Nat → Nat} {hj : Nat} {hd : Nat} {hq : Nat} {hs : Nat} {AD : Nat → Nat → Nat} {hi : Nat} {IH : Nat → Nat} {IA : Nat → Nat → Nat} {x : Nat → Nat} {bs i L : Nat} {xs : Nat → Int32} (hX : scrX X bs L xs) (hi4 : i + 4 ≤ L) (hL : L ≤ 260) (hkc : kc ≤ room_1.cells ∧ ks ≤ room_1.slots) (h : Nx X Z kc ks t a b hj hd hq hs AD hi IH IA x bs i 763) : Nx X Z kc ks t a b hj hd hq hs AD hi IH IA x bs i 197 := by
  intro w er fl me p pr wt ert flt met pt prt d jc pv W8 E8 F8 M8 P8 R8 fi WI EI FJ MI PJ RI m ps im ik asd rb rp mv hP hA hI
  obtain ⟨r, w', er', fl', me', pr', pv', W8', E8', F8', M8', P8', R8', m', ps', mv', e1, e2, hP2, hA2⟩ := loadF hA hP (xs (i + 1)) (xs (i + 2))
  refine r_aload_n dL_law_197 2 rfl ?_
  refine r_aload_n dL_law_198 3 rfl ?_
  refine r_iload_n dL_law_199 0 rfl ?_
  refine r_iconst (v := 1) dL_law_200 kic_1 ?_
  refine r_iadd dL_law_201 ?_
  refine r_sld hX (j := i + 1) (scr_j hi4 hL (k := 1) (by decide)) (scr_in hi4 hL (k := 1) (by decide)) dL_law_202 ?_
  refine r_aload_n dL_law_203 3 rfl ?_
  refine r_iload_n dL_law_204 0 rfl ?_
  refine r_iconst (v := 2) dL_law_205 kic_2 ?_
  refine r_iadd dL_law_206 ?_
  refine r_sld hX (j := i + 2) (scr_j hi4 hL (k := 2) (by decide)) (scr_in hi4 hL (k := 2) (by decide)) dL_law_207 ?_
  refine r_callV (As := [.int (xs (i + 1)), .int (xs (i + 2))]) (rest := []) (ws' := wA Z t a b hj hd hq hs AD hi IH IA x w' er' fl' me' p pr' wt ert flt met pt prt d jc pv' W8' E8' F8' M8' P8' R8' fi WI EI FJ MI PJ RI m ps im ik asd rb rp mv) 0 rfl rfl rfl (fun l => c_X6_load Z l t (b 0) hj hi a hq hs AD w er fl me p pr pv W8 E8 F8 M8 P8 R8 (xs (i + 1)) (xs (i + 2)) _ e1) qw_350 mv_X6_load (pk_PQ rfl wQ_dom) ⟨Nat.le_of_ble_eq_true rfl, Nat.le_of_ble_eq_true rfl⟩ ⟨rfl, rfl⟩ hkc rfl (Nat.le_of_ble_eq_true rfl) rfl dL_law_208 ?_
  refine r_aload_n dL_law_211 1 rfl ?_
  refine r_aload_n dL_law_212 3 rfl ?_
  refine r_iload_n dL_law_213 0 rfl ?_
  refine r_iconst (v := 1) dL_law_214 kic_1 ?_
  refine r_iadd dL_law_215 ?_
  refine r_sld hX (j := i + 1) (scr_j hi4 hL (k := 1) (by decide)) (scr_in hi4 hL (k := 1) (by decide)) dL_law_216 ?_
  refine r_aload_n dL_law_217 3 rfl ?_
  refine r_iload_n dL_law_218 0 rfl ?_
  refine r_iconst (v := 2) dL_law_219 kic_2 ?_
  refine r_iadd dL_law_220 ?_
  refine r_sld hX (j := i + 2) (scr_j hi4 hL (k := 2) (by decide)) (scr_in hi4 hL (k := 2) (by decide)) dL_law_221 ?_
  refine r_callV (As := [.int (xs (i + 1)), .int (xs (i + 2))]) (rest := [.int r]) (ws' := wA Z t a b hj hd hq hs AD hi IH IA x w' er' fl' me' p pr' wt ert flt met pt prt d jc pv' W8' E8' F8' M8' P8' R8' fi WI EI FJ MI PJ RI m' ps' im ik asd rb rp mv') 0 rfl rfl rfl (fun l => c_X7_load Z l x m ps im ik asd rb rp mv (xs (i + 1)) (xs (i + 2)) _ e2) qw_698 mv_X7_load (pk_X rfl) ⟨Nat.le_of_ble_eq_true rfl, Nat.le_of_ble_eq_true rfl⟩ ⟨rfl, rfl⟩ hkc rfl (Nat.le_of_ble_eq_true rfl) rfl dL_law_222 ?_
  refine r_icmp_eq (tgt := 763) dL_law_225 (by decide) (fun _ => ?_) (fun hh => absurd rfl hh)
  exact h w' er' fl' me' p pr' wt ert flt met pt prt d jc pv' W8' E8' F8' M8' P8' R8' fi WI EI FJ MI PJ RI m' ps' im ik asd rb rp mv' hP2 hA2 hI
set_option maxHeartbeats 4000000 in
set_option maxRecDepth 100000 in
theorem k_setClock {X : CX} {Z : GZ} {kc ks : Nat} {t : Nat} {a : Nat → Nat} {b : Nat → Nat} {hj : Nat} {hd : Nat} {hq : Nat} {hs : Nat} {AD : Nat → Nat → Nat} {hi : Nat} {IH : Nat → Nat} {IA : Nat → Nat → Nat} {x : Nat → Nat} {bs i L : Nat} {xs : Nat → Int32} (hX : scrX X bs L xs) (hi4 : i + 4 ≤ L) (hL : L ≤ 260) (hkc : kc ≤ room_1.cells ∧ ks ≤ room_1.slots) (h : Nx X Z kc ks t a b hj hd hq hs AD hi IH IA x bs i 763) : Nx X Z kc ks t a b hj hd hq hs AD hi IH IA x bs i 230 := by
  intro w er fl me p pr wt ert flt met pt prt d jc pv W8 E8 F8 M8 P8 R8 fi WI EI FJ MI PJ RI m ps im ik asd rb rp mv hP hA hI
  obtain ⟨r, w', er', fl', me', pr', pv', W8', E8', F8', M8', P8', R8', m', ps', mv', e1, e2, hP2, hA2⟩ := clockF hA hP (xs (i + 1))
  refine r_aload_n dL_law_230 2 rfl ?_
  refine r_aload_n dL_law_231 3 rfl ?_
  refine r_iload_n dL_law_232 0 rfl ?_
  refine r_iconst (v := 1) dL_law_233 kic_1 ?_
  refine r_iadd dL_law_234 ?_
  refine r_sld hX (j := i + 1) (scr_j hi4 hL (k := 1) (by decide)) (scr_in hi4 hL (k := 1) (by decide)) dL_law_235 ?_
  refine r_callV (As := [.int (xs (i + 1))]) (rest := []) (ws' := wA Z t a b hj hd hq hs AD hi IH IA x w' er' fl' me' p pr' wt ert flt met pt prt d jc pv' W8' E8' F8' M8' P8' R8' fi WI EI FJ MI PJ RI m ps im ik asd rb rp mv) 0 rfl rfl rfl (fun l => c_X6_setClock Z l t (b 0) hj hi a hq hs AD w er fl me p pr pv W8 E8 F8 M8 P8 R8 (xs (i + 1)) _ e1) qw_359 mv_X6_setClock (pk_PQ rfl wQ_dom) ⟨Nat.le_of_ble_eq_true rfl, Nat.le_of_ble_eq_true rfl⟩ ⟨rfl, rfl⟩ hkc rfl (Nat.le_of_ble_eq_true rfl) rfl dL_law_236 ?_
  refine r_aload_n dL_law_239 1 rfl ?_
  refine r_aload_n dL_law_240 3 rfl ?_
  refine r_iload_n dL_law_241 0 rfl ?_
  refine r_iconst (v := 1) dL_law_242 kic_1 ?_
  refine r_iadd dL_law_243 ?_
  refine r_sld hX (j := i + 1) (scr_j hi4 hL (k := 1) (by decide)) (scr_in hi4 hL (k := 1) (by decide)) dL_law_244 ?_
  refine r_callV (As := [.int (xs (i + 1))]) (rest := [.int r]) (ws' := wA Z t a b hj hd hq hs AD hi IH IA x w' er' fl' me' p pr' wt ert flt met pt prt d jc pv' W8' E8' F8' M8' P8' R8' fi WI EI FJ MI PJ RI m' ps' im ik asd rb rp mv') 0 rfl rfl rfl (fun l => c_X7_setClock Z l x m ps im ik asd rb rp mv (xs (i + 1)) _ e2) qw_703 mv_X7_setClock (pk_X rfl) ⟨Nat.le_of_ble_eq_true rfl, Nat.le_of_ble_eq_true rfl⟩ ⟨rfl, rfl⟩ hkc rfl (Nat.le_of_ble_eq_true rfl) rfl dL_law_245 ?_
  refine r_icmp_eq (tgt := 763) dL_law_248 (by decide) (fun _ => ?_) (fun hh => absurd rfl hh)
  exact h w' er' fl' me' p pr' wt ert flt met pt prt d jc pv' W8' E8' F8' M8' P8' R8' fi WI EI FJ MI PJ RI m' ps' im ik asd rb rp mv' hP2 hA2 hI
set_option maxHeartbeats 4000000 in
set_option maxRecDepth 100000 in
theorem k_pass {X : CX} {Z : GZ} {kc ks : Nat} {t : Nat} {a : Nat → Nat} {b : Nat → Nat} {hj : Nat} {hd : Nat} {hq : Nat} {hs : Nat} {AD : Nat → Nat → Nat} {hi : Nat} {IH : Nat → Nat} {IA : Nat → Nat → Nat} {x : Nat → Nat} {bs i L : Nat} {xs : Nat → Int32} (hX : scrX X bs L xs) (hi4 : i + 4 ≤ L) (hL : L ≤ 260) (hkc : kc ≤ room_1.cells ∧ ks ≤ room_1.slots) (h : Nx X Z kc ks t a b hj hd hq hs AD hi IH IA x bs i 763) : Nx X Z kc ks t a b hj hd hq hs AD hi IH IA x bs i 253 := by
  intro w er fl me p pr wt ert flt met pt prt d jc pv W8 E8 F8 M8 P8 R8 fi WI EI FJ MI PJ RI m ps im ik asd rb rp mv hP hA hI
  obtain ⟨r, pr', pv', W8', E8', F8', M8', P8', R8', m', ps', mv', e1, e2, hP2, hA2⟩ := passF hA hP (xs (i + 1))
  refine r_aload_n dL_law_253 2 rfl ?_
  refine r_aload_n dL_law_254 3 rfl ?_
  refine r_iload_n dL_law_255 0 rfl ?_
  refine r_iconst (v := 1) dL_law_256 kic_1 ?_
  refine r_iadd dL_law_257 ?_
  refine r_sld hX (j := i + 1) (scr_j hi4 hL (k := 1) (by decide)) (scr_in hi4 hL (k := 1) (by decide)) dL_law_258 ?_
  refine r_callV (As := [.int (xs (i + 1))]) (rest := []) (ws' := wA Z t a b hj hd hq hs AD hi IH IA x w er fl me p pr' wt ert flt met pt prt d jc pv' W8' E8' F8' M8' P8' R8' fi WI EI FJ MI PJ RI m ps im ik asd rb rp mv) 0 rfl rfl rfl (fun l => c_X6_pass Z l t (b 0) hj hi a hq hs AD w er fl me p pr pv W8 E8 F8 M8 P8 R8 (xs (i + 1)) _ e1) qw_371 mv_X6_pass (pk_PQ rfl wQ_dom) ⟨Nat.le_of_ble_eq_true rfl, Nat.le_of_ble_eq_true rfl⟩ ⟨rfl, rfl⟩ hkc rfl (Nat.le_of_ble_eq_true rfl) rfl dL_law_259 ?_
  refine r_aload_n dL_law_262 1 rfl ?_
  refine r_aload_n dL_law_263 3 rfl ?_
  refine r_iload_n dL_law_264 0 rfl ?_
  refine r_iconst (v := 1) dL_law_265 kic_1 ?_
  refine r_iadd dL_law_266 ?_
  refine r_sld hX (j := i + 1) (scr_j hi4 hL (k := 1) (by decide)) (scr_in hi4 hL (k := 1) (by decide)) dL_law_267 ?_
  refine r_callV (As := [.int (xs (i + 1))]) (rest := [.int r]) (ws' := wA Z t a b hj hd hq hs AD hi IH IA x w er fl me p pr' wt ert flt met pt prt d jc pv' W8' E8' F8' M8' P8' R8' fi WI EI FJ MI PJ RI m' ps' im ik asd rb rp mv') 0 rfl rfl rfl (fun l => c_X7_pass Z l x m ps im ik asd rb rp mv (xs (i + 1)) _ e2) qw_707 mv_X7_pass (pk_X rfl) ⟨Nat.le_of_ble_eq_true rfl, Nat.le_of_ble_eq_true rfl⟩ ⟨rfl, rfl⟩ hkc rfl (Nat.le_of_ble_eq_true rfl) rfl dL_law_268 ?_
  refine r_icmp_eq (tgt := 763) dL_law_271 (by decide) (fun _ => ?_) (fun hh => absurd rfl hh)
  exact h w er fl me p pr' wt ert flt met pt prt d jc pv' W8' E8' F8' M8' P8' R8' fi WI EI FJ MI PJ RI m' ps' im ik asd rb rp mv' hP2 hA2 hI
set_option maxHeartbeats 4000000 in
set_option maxRecDepth 100000 in
theorem k_setPrice {X : CX} {Z : GZ} {kc ks : Nat} {t : Nat} {a : Nat → Nat} {b : Nat → Nat} {hj : Nat} {hd : Nat} {hq : Nat} {hs : Nat} {AD : Nat → Nat → Nat} {hi : Nat} {IH : Nat → Nat} {IA : Nat → Nat → Nat} {x : Nat → Nat} {bs i L : Nat} {xs : Nat → Int32} (hX : scrX X bs L xs) (hi4 : i + 4 ≤ L) (hL : L ≤ 260) (hkc : kc ≤ room_1.cells ∧ ks ≤ room_1.slots) (h : Nx X Z kc ks t a b hj hd hq hs AD hi IH IA x bs i 763) : Nx X Z kc ks t a b hj hd hq hs AD hi IH IA x bs i 276 := by
  intro w er fl me p pr wt ert flt met pt prt d jc pv W8 E8 F8 M8 P8 R8 fi WI EI FJ MI PJ RI m ps im ik asd rb rp mv hP hA hI
  obtain ⟨r, p', pv', W8', E8', F8', M8', P8', R8', m', ps', mv', e1, e2, hP2, hA2⟩ := priceF hA hP (xs (i + 1)) (xs (i + 2))
  refine r_aload_n dL_law_276 2 rfl ?_
  refine r_aload_n dL_law_277 3 rfl ?_
  refine r_iload_n dL_law_278 0 rfl ?_
  refine r_iconst (v := 1) dL_law_279 kic_1 ?_
  refine r_iadd dL_law_280 ?_
  refine r_sld hX (j := i + 1) (scr_j hi4 hL (k := 1) (by decide)) (scr_in hi4 hL (k := 1) (by decide)) dL_law_281 ?_
  refine r_aload_n dL_law_282 3 rfl ?_
  refine r_iload_n dL_law_283 0 rfl ?_
  refine r_iconst (v := 2) dL_law_284 kic_2 ?_
  refine r_iadd dL_law_285 ?_
  refine r_sld hX (j := i + 2) (scr_j hi4 hL (k := 2) (by decide)) (scr_in hi4 hL (k := 2) (by decide)) dL_law_286 ?_
  refine r_callV (As := [.int (xs (i + 1)), .int (xs (i + 2))]) (rest := []) (ws' := wA Z t a b hj hd hq hs AD hi IH IA x w er fl me p' pr wt ert flt met pt prt d jc pv' W8' E8' F8' M8' P8' R8' fi WI EI FJ MI PJ RI m ps im ik asd rb rp mv) 0 rfl rfl rfl (fun l => c_X6_setPrice Z l t (b 0) hj hi a hq hs AD w er fl me p pr pv W8 E8 F8 M8 P8 R8 (xs (i + 1)) (xs (i + 2)) _ e1) qw_378 mv_X6_setPrice (pk_PQ rfl wQ_dom) ⟨Nat.le_of_ble_eq_true rfl, Nat.le_of_ble_eq_true rfl⟩ ⟨rfl, rfl⟩ hkc rfl (Nat.le_of_ble_eq_true rfl) rfl dL_law_287 ?_
  refine r_aload_n dL_law_290 1 rfl ?_
  refine r_aload_n dL_law_291 3 rfl ?_
  refine r_iload_n dL_law_292 0 rfl ?_
  refine r_iconst (v := 1) dL_law_293 kic_1 ?_
  refine r_iadd dL_law_294 ?_
  refine r_sld hX (j := i + 1) (scr_j hi4 hL (k := 1) (by decide)) (scr_in hi4 hL (k := 1) (by decide)) dL_law_295 ?_
  refine r_aload_n dL_law_296 3 rfl ?_
  refine r_iload_n dL_law_297 0 rfl ?_
  refine r_iconst (v := 2) dL_law_298 kic_2 ?_
  refine r_iadd dL_law_299 ?_
  refine r_sld hX (j := i + 2) (scr_j hi4 hL (k := 2) (by decide)) (scr_in hi4 hL (k := 2) (by decide)) dL_law_300 ?_
  refine r_callV (As := [.int (xs (i + 1)), .int (xs (i + 2))]) (rest := [.int r]) (ws' := wA Z t a b hj hd hq hs AD hi IH IA x w er fl me p' pr wt ert flt met pt prt d jc pv' W8' E8' F8' M8' P8' R8' fi WI EI FJ MI PJ RI m' ps' im ik asd rb rp mv') 0 rfl rfl rfl (fun l => c_X7_setPrice Z l x m ps im ik asd rb rp mv (xs (i + 1)) (xs (i + 2)) _ e2) qw_711 mv_X7_setPrice (pk_X rfl) ⟨Nat.le_of_ble_eq_true rfl, Nat.le_of_ble_eq_true rfl⟩ ⟨rfl, rfl⟩ hkc rfl (Nat.le_of_ble_eq_true rfl) rfl dL_law_301 ?_
  refine r_icmp_eq (tgt := 763) dL_law_304 (by decide) (fun _ => ?_) (fun hh => absurd rfl hh)
  exact h w er fl me p' pr wt ert flt met pt prt d jc pv' W8' E8' F8' M8' P8' R8' fi WI EI FJ MI PJ RI m' ps' im ik asd rb rp mv' hP2 hA2 hI
set_option maxHeartbeats 4000000 in
set_option maxRecDepth 100000 in
theorem k_cut {X : CX} {Z : GZ} {kc ks : Nat} {t : Nat} {a : Nat → Nat} {b : Nat → Nat} {hj : Nat} {hd : Nat} {hq : Nat} {hs : Nat} {AD : Nat → Nat → Nat} {hi : Nat} {IH : Nat → Nat} {IA : Nat → Nat → Nat} {x : Nat → Nat} {bs i L : Nat} {xs : Nat → Int32} (hX : scrX X bs L xs) (hi4 : i + 4 ≤ L) (hL : L ≤ 260) (hkc : kc ≤ room_1.cells ∧ ks ≤ room_1.slots) (h : Nx X Z kc ks t a b hj hd hq hs AD hi IH IA x bs i 763) : Nx X Z kc ks t a b hj hd hq hs AD hi IH IA x bs i 309 := by
  intro w er fl me p pr wt ert flt met pt prt d jc pv W8 E8 F8 M8 P8 R8 fi WI EI FJ MI PJ RI m ps im ik asd rb rp mv hP hA hI
  obtain ⟨r, fl', pv', W8', E8', F8', M8', P8', R8', m', ps', mv', e1, e2, hP2, hA2⟩ := cutF hA hP (xs (i + 1))
  refine r_aload_n dL_law_309 2 rfl ?_
  refine r_aload_n dL_law_310 3 rfl ?_
  refine r_iload_n dL_law_311 0 rfl ?_
  refine r_iconst (v := 1) dL_law_312 kic_1 ?_
  refine r_iadd dL_law_313 ?_
  refine r_sld hX (j := i + 1) (scr_j hi4 hL (k := 1) (by decide)) (scr_in hi4 hL (k := 1) (by decide)) dL_law_314 ?_
  refine r_callV (As := [.int (xs (i + 1))]) (rest := []) (ws' := wA Z t a b hj hd hq hs AD hi IH IA x w er fl' me p pr wt ert flt met pt prt d jc pv' W8' E8' F8' M8' P8' R8' fi WI EI FJ MI PJ RI m ps im ik asd rb rp mv) 0 rfl rfl rfl (fun l => c_X6_cut Z l t (b 0) hj hi a hq hs AD w er fl me p pr pv W8 E8 F8 M8 P8 R8 (xs (i + 1)) _ e1) qw_388 mv_X6_cut (pk_PQ rfl wQ_dom) ⟨Nat.le_of_ble_eq_true rfl, Nat.le_of_ble_eq_true rfl⟩ ⟨rfl, rfl⟩ hkc rfl (Nat.le_of_ble_eq_true rfl) rfl dL_law_315 ?_
  refine r_aload_n dL_law_318 1 rfl ?_
  refine r_aload_n dL_law_319 3 rfl ?_
  refine r_iload_n dL_law_320 0 rfl ?_
  refine r_iconst (v := 1) dL_law_321 kic_1 ?_
  refine r_iadd dL_law_322 ?_
  refine r_sld hX (j := i + 1) (scr_j hi4 hL (k := 1) (by decide)) (scr_in hi4 hL (k := 1) (by decide)) dL_law_323 ?_
  refine r_callV (As := [.int (xs (i + 1))]) (rest := [.int r]) (ws' := wA Z t a b hj hd hq hs AD hi IH IA x w er fl' me p pr wt ert flt met pt prt d jc pv' W8' E8' F8' M8' P8' R8' fi WI EI FJ MI PJ RI m' ps' im ik asd rb rp mv') 0 rfl rfl rfl (fun l => c_X7_cut Z l x m ps im ik asd rb rp mv (xs (i + 1)) _ e2) qw_715 mv_X7_cut (pk_X rfl) ⟨Nat.le_of_ble_eq_true rfl, Nat.le_of_ble_eq_true rfl⟩ ⟨rfl, rfl⟩ hkc rfl (Nat.le_of_ble_eq_true rfl) rfl dL_law_324 ?_
  refine r_icmp_eq (tgt := 763) dL_law_327 (by decide) (fun _ => ?_) (fun hh => absurd rfl hh)
  exact h w er fl' me p pr wt ert flt met pt prt d jc pv' W8' E8' F8' M8' P8' R8' fi WI EI FJ MI PJ RI m' ps' im ik asd rb rp mv' hP2 hA2 hI
set_option maxHeartbeats 4000000 in
set_option maxRecDepth 100000 in
theorem k_off {X : CX} {Z : GZ} {kc ks : Nat} {t : Nat} {a : Nat → Nat} {b : Nat → Nat} {hj : Nat} {hd : Nat} {hq : Nat} {hs : Nat} {AD : Nat → Nat → Nat} {hi : Nat} {IH : Nat → Nat} {IA : Nat → Nat → Nat} {x : Nat → Nat} {bs i L : Nat} {xs : Nat → Int32} (hX : scrX X bs L xs) (hi4 : i + 4 ≤ L) (hL : L ≤ 260) (hkc : kc ≤ room_1.cells ∧ ks ≤ room_1.slots) (h : Nx X Z kc ks t a b hj hd hq hs AD hi IH IA x bs i 763) : Nx X Z kc ks t a b hj hd hq hs AD hi IH IA x bs i 332 := by
  intro w er fl me p pr wt ert flt met pt prt d jc pv W8 E8 F8 M8 P8 R8 fi WI EI FJ MI PJ RI m ps im ik asd rb rp mv hP hA hI
  obtain ⟨r, me', pr', pv', W8', E8', F8', M8', P8', R8', m', ps', mv', e1, e2, hP2, hA2⟩ := powF hA hP 
  refine r_aload_n dL_law_332 2 rfl ?_
  refine r_callV (As := []) (rest := []) (ws' := wA Z t a b hj hd hq hs AD hi IH IA x w er fl me' p pr' wt ert flt met pt prt d jc pv' W8' E8' F8' M8' P8' R8' fi WI EI FJ MI PJ RI m ps im ik asd rb rp mv) 0 rfl rfl rfl (fun l => c_X6_off Z l t (b 0) hj hi a hq hs AD w er fl me p pr pv W8 E8 F8 M8 P8 R8  _ e1) qw_392 mv_X6_off (pk_PQ rfl wQ_dom) ⟨Nat.le_of_ble_eq_true rfl, Nat.le_of_ble_eq_true rfl⟩ ⟨rfl, rfl⟩ hkc rfl (Nat.le_of_ble_eq_true rfl) rfl dL_law_333 ?_
  refine r_aload_n dL_law_336 1 rfl ?_
  refine r_callV (As := []) (rest := [.int r]) (ws' := wA Z t a b hj hd hq hs AD hi IH IA x w er fl me' p pr' wt ert flt met pt prt d jc pv' W8' E8' F8' M8' P8' R8' fi WI EI FJ MI PJ RI m' ps' im ik asd rb rp mv') 0 rfl rfl rfl (fun l => c_X7_off Z l x m ps im ik asd rb rp mv  _ e2) qw_719 mv_X7_off (pk_X rfl) ⟨Nat.le_of_ble_eq_true rfl, Nat.le_of_ble_eq_true rfl⟩ ⟨rfl, rfl⟩ hkc rfl (Nat.le_of_ble_eq_true rfl) rfl dL_law_337 ?_
  refine r_icmp_eq (tgt := 763) dL_law_340 (by decide) (fun _ => ?_) (fun hh => absurd rfl hh)
  exact h w er fl me' p pr' wt ert flt met pt prt d jc pv' W8' E8' F8' M8' P8' R8' fi WI EI FJ MI PJ RI m' ps' im ik asd rb rp mv' hP2 hA2 hI
set_option maxHeartbeats 4000000 in
set_option maxRecDepth 100000 in
theorem k_start {X : CX} {Z : GZ} {kc ks : Nat} {t : Nat} {a : Nat → Nat} {b : Nat → Nat} {hj : Nat} {hd : Nat} {hq : Nat} {hs : Nat} {AD : Nat → Nat → Nat} {hi : Nat} {IH : Nat → Nat} {IA : Nat → Nat → Nat} {x : Nat → Nat} {bs i L : Nat} {xs : Nat → Int32} (hX : scrX X bs L xs) (hi4 : i + 4 ≤ L) (hL : L ≤ 260) (hkc : kc ≤ room_1.cells ∧ ks ≤ room_1.slots) (h : Nx X Z kc ks t a b hj hd hq hs AD hi IH IA x bs i 763) : Nx X Z kc ks t a b hj hd hq hs AD hi IH IA x bs i 345 := by
  intro w er fl me p pr wt ert flt met pt prt d jc pv W8 E8 F8 M8 P8 R8 fi WI EI FJ MI PJ RI m ps im ik asd rb rp mv hP hA hI
  obtain ⟨r, me', pr', pv', W8', E8', F8', M8', P8', R8', m', ps', mv', e1, e2, hP2, hA2⟩ := startF hA hP 
  refine r_aload_n dL_law_345 2 rfl ?_
  refine r_callV (As := []) (rest := []) (ws' := wA Z t a b hj hd hq hs AD hi IH IA x w er fl me' p pr' wt ert flt met pt prt d jc pv' W8' E8' F8' M8' P8' R8' fi WI EI FJ MI PJ RI m ps im ik asd rb rp mv) 0 rfl rfl rfl (fun l => c_X6_start Z l t (b 0) hj hi a hq hs AD w er fl me p pr pv W8 E8 F8 M8 P8 R8  _ e1) qw_411 mv_X6_start (pk_PQ rfl wQ_dom) ⟨Nat.le_of_ble_eq_true rfl, Nat.le_of_ble_eq_true rfl⟩ ⟨rfl, rfl⟩ hkc rfl (Nat.le_of_ble_eq_true rfl) rfl dL_law_346 ?_
  refine r_aload_n dL_law_349 1 rfl ?_
  refine r_callV (As := []) (rest := [.int r]) (ws' := wA Z t a b hj hd hq hs AD hi IH IA x w er fl me' p pr' wt ert flt met pt prt d jc pv' W8' E8' F8' M8' P8' R8' fi WI EI FJ MI PJ RI m' ps' im ik asd rb rp mv') 0 rfl rfl rfl (fun l => c_X7_start Z l x m ps im ik asd rb rp mv  _ e2) qw_739 mv_X7_start (pk_X rfl) ⟨Nat.le_of_ble_eq_true rfl, Nat.le_of_ble_eq_true rfl⟩ ⟨rfl, rfl⟩ hkc rfl (Nat.le_of_ble_eq_true rfl) rfl dL_law_350 ?_
  refine r_icmp_eq (tgt := 763) dL_law_353 (by decide) (fun _ => ?_) (fun hh => absurd rfl hh)
  exact h w er fl me' p pr' wt ert flt met pt prt d jc pv' W8' E8' F8' M8' P8' R8' fi WI EI FJ MI PJ RI m' ps' im ik asd rb rp mv' hP2 hA2 hI
set_option maxHeartbeats 4000000 in
set_option maxRecDepth 100000 in
theorem k_undo {X : CX} {Z : GZ} {kc ks : Nat} {t : Nat} {a : Nat → Nat} {b : Nat → Nat} {hj : Nat} {hd : Nat} {hq : Nat} {hs : Nat} {AD : Nat → Nat → Nat} {hi : Nat} {IH : Nat → Nat} {IA : Nat → Nat → Nat} {x : Nat → Nat} {bs i L : Nat} {xs : Nat → Int32} (hX : scrX X bs L xs) (hi4 : i + 4 ≤ L) (hL : L ≤ 260) (hkc : kc ≤ room_1.cells ∧ ks ≤ room_1.slots) (h : Nx X Z kc ks t a b hj hd hq hs AD hi IH IA x bs i 763) : Nx X Z kc ks t a b hj hd hq hs AD hi IH IA x bs i 358 := by
  intro w er fl me p pr wt ert flt met pt prt d jc pv W8 E8 F8 M8 P8 R8 fi WI EI FJ MI PJ RI m ps im ik asd rb rp mv hP hA hI
  obtain ⟨r, w', er', fl', me', p', pr', pv', m', mv', e1, e2, hP2, hA2⟩ := undoF hA hP 
  refine r_aload_n dL_law_358 2 rfl ?_
  refine r_callV (As := []) (rest := []) (ws' := wA Z t a b hj hd hq hs AD hi IH IA x w' er' fl' me' p' pr' wt ert flt met pt prt d jc pv' W8 E8 F8 M8 P8 R8 fi WI EI FJ MI PJ RI m ps im ik asd rb rp mv) 0 rfl rfl rfl (fun l => c_X6_undo Z l t (b 0) hj hi a hq hs AD w er fl me p pr pv W8 E8 F8 M8 P8 R8  _ e1) qw_439 mv_X6_undo (pk_PQ rfl wQ_dom) ⟨Nat.le_of_ble_eq_true rfl, Nat.le_of_ble_eq_true rfl⟩ ⟨rfl, rfl⟩ hkc rfl (Nat.le_of_ble_eq_true rfl) rfl dL_law_359 ?_
  refine r_aload_n dL_law_362 1 rfl ?_
  refine r_callV (As := []) (rest := [.int r]) (ws' := wA Z t a b hj hd hq hs AD hi IH IA x w' er' fl' me' p' pr' wt ert flt met pt prt d jc pv' W8 E8 F8 M8 P8 R8 fi WI EI FJ MI PJ RI m' ps im ik asd rb rp mv') 0 rfl rfl rfl (fun l => c_X7_undo Z l x m ps im ik asd rb rp mv  _ e2) qw_614 mv_X7_undo (pk_X rfl) ⟨Nat.le_of_ble_eq_true rfl, Nat.le_of_ble_eq_true rfl⟩ ⟨rfl, rfl⟩ hkc rfl (Nat.le_of_ble_eq_true rfl) rfl dL_law_363 ?_
  refine r_icmp_eq (tgt := 763) dL_law_366 (by decide) (fun _ => ?_) (fun hh => absurd rfl hh)
  exact h w' er' fl' me' p' pr' wt ert flt met pt prt d jc pv' W8 E8 F8 M8 P8 R8 fi WI EI FJ MI PJ RI m' ps im ik asd rb rp mv' hP2 hA2 hI

-- one turn of the law (laid by wip/gen/law.py)
theorem kbp_31 : (Int8.ofInt 31).toInt32 = 31 := by decide
set_option maxHeartbeats 4000000 in
set_option maxRecDepth 100000 in
theorem turn {X : CX} {Z : GZ} {kc ks : Nat} {t : Nat} {a : Nat → Nat} {b : Nat → Nat} {hj : Nat} {hd : Nat} {hq : Nat} {hs : Nat} {AD : Nat → Nat → Nat} {hi : Nat} {IH : Nat → Nat} {IA : Nat → Nat → Nat} {x : Nat → Nat} {bs i L : Nat} {xs : Nat → Int32} (hX : scrX X bs L xs) (hi4 : i + 4 ≤ L) (hL : L ≤ 2048) (hkc : kc ≤ room_1.cells ∧ ks ≤ room_1.slots) (h : Nx X Z kc ks t a b hj hd hq hs AD hi IH IA x bs i 763) : Nx X Z kc ks t a b hj hd hq hs AD hi IH IA x bs i 26 := by
  intro w er fl me p pr wt ert flt met pt prt d jc pv W8 E8 F8 M8 P8 R8 fi WI EI FJ MI PJ RI m ps im ik asd rb rp mv hP hA hI
  refine r_aload_n dL_law_26 3 rfl ?_
  refine r_iload_n dL_law_27 0 rfl ?_
  refine r_sld hX (j := i) (nI_clamp (by omega)) (cond_nI (by omega) (by omega)) dL_law_28 ?_
  refine r_bipush (v := 31) dL_law_29 kbp_31 ?_
  refine r_iand dL_law_31 ?_
  obtain ⟨j, hj, ej⟩ := pk_andE (xs i) (m := 31) 5 (by decide)
  rw [ej]
  by_cases h25 : j < 25
  · rcases (show j = 0 ∨ j = 1 ∨ j = 2 ∨ j = 3 ∨ j = 4 ∨ j = 5 ∨ j = 6 ∨ j = 7 ∨ j = 8 ∨ j = 9 ∨ j = 10 ∨ j = 11 ∨ j = 12 ∨ j = 13 ∨ j = 14 ∨ j = 15 ∨ j = 16 ∨ j = 17 ∨ j = 18 ∨ j = 19 ∨ j = 20 ∨ j = 21 ∨ j = 22 ∨ j = 23 ∨ j = 24 by omega) with rfl | rfl | rfl | rfl | rfl | rfl | rfl | rfl | rfl | rfl | rfl | rfl | rfl | rfl | rfl | rfl | rfl | rfl | rfl | rfl | rfl | rfl | rfl | rfl | rfl
    · exact r_tableIn dL_law_32 (by decide) (by decide) (off := 116) (tgt := 148) rfl (by decide) (k_sell hX hi4 hL hkc h w er fl me p pr wt ert flt met pt prt d jc pv W8 E8 F8 M8 P8 R8 fi WI EI FJ MI PJ RI m ps im ik asd rb rp mv hP hA hI)
    · exact r_tableIn dL_law_32 (by decide) (by decide) (off := 139) (tgt := 171) rfl (by decide) (k_cancel hX hi4 hL hkc h w er fl me p pr wt ert flt met pt prt d jc pv W8 E8 F8 M8 P8 R8 fi WI EI FJ MI PJ RI m ps im ik asd rb rp mv hP hA hI)
    · exact r_tableIn dL_law_32 (by decide) (by decide) (off := 152) (tgt := 184) rfl (by decide) (k_close hX hi4 hL hkc h w er fl me p pr wt ert flt met pt prt d jc pv W8 E8 F8 M8 P8 R8 fi WI EI FJ MI PJ RI m ps im ik asd rb rp mv hP hA hI)
    · exact r_tableIn dL_law_32 (by decide) (by decide) (off := 165) (tgt := 197) rfl (by decide) (k_load hX hi4 hL hkc h w er fl me p pr wt ert flt met pt prt d jc pv W8 E8 F8 M8 P8 R8 fi WI EI FJ MI PJ RI m ps im ik asd rb rp mv hP hA hI)
    · exact r_tableIn dL_law_32 (by decide) (by decide) (off := 198) (tgt := 230) rfl (by decide) (k_setClock hX hi4 hL hkc h w er fl me p pr wt ert flt met pt prt d jc pv W8 E8 F8 M8 P8 R8 fi WI EI FJ MI PJ RI m ps im ik asd rb rp mv hP hA hI)
    · exact r_tableIn dL_law_32 (by decide) (by decide) (off := 221) (tgt := 253) rfl (by decide) (k_pass hX hi4 hL hkc h w er fl me p pr wt ert flt met pt prt d jc pv W8 E8 F8 M8 P8 R8 fi WI EI FJ MI PJ RI m ps im ik asd rb rp mv hP hA hI)
    · exact r_tableIn dL_law_32 (by decide) (by decide) (off := 244) (tgt := 276) rfl (by decide) (k_setPrice hX hi4 hL hkc h w er fl me p pr wt ert flt met pt prt d jc pv W8 E8 F8 M8 P8 R8 fi WI EI FJ MI PJ RI m ps im ik asd rb rp mv hP hA hI)
    · exact r_tableIn dL_law_32 (by decide) (by decide) (off := 277) (tgt := 309) rfl (by decide) (k_cut hX hi4 hL hkc h w er fl me p pr wt ert flt met pt prt d jc pv W8 E8 F8 M8 P8 R8 fi WI EI FJ MI PJ RI m ps im ik asd rb rp mv hP hA hI)
    · exact r_tableIn dL_law_32 (by decide) (by decide) (off := 300) (tgt := 332) rfl (by decide) (k_off hX hi4 hL hkc h w er fl me p pr wt ert flt met pt prt d jc pv W8 E8 F8 M8 P8 R8 fi WI EI FJ MI PJ RI m ps im ik asd rb rp mv hP hA hI)
    · exact r_tableIn dL_law_32 (by decide) (by decide) (off := 313) (tgt := 345) rfl (by decide) (k_start hX hi4 hL hkc h w er fl me p pr wt ert flt met pt prt d jc pv W8 E8 F8 M8 P8 R8 fi WI EI FJ MI PJ RI m ps im ik asd rb rp mv hP hA hI)
    · exact r_tableIn dL_law_32 (by decide) (by decide) (off := 326) (tgt := 358) rfl (by decide) (k_undo hX hi4 hL hkc h w er fl me p pr wt ert flt met pt prt d jc pv W8 E8 F8 M8 P8 R8 fi WI EI FJ MI PJ RI m ps im ik asd rb rp mv hP hA hI)
    · exact r_tableIn dL_law_32 (by decide) (by decide) (off := 339) (tgt := 371) rfl (by decide) (k_told hX hi4 hL hkc h w er fl me p pr wt ert flt met pt prt d jc pv W8 E8 F8 M8 P8 R8 fi WI EI FJ MI PJ RI m ps im ik asd rb rp mv hP hA hI)
    · exact r_tableIn dL_law_32 (by decide) (by decide) (off := 362) (tgt := 394) rfl (by decide) (k_price hX hi4 hL hkc h w er fl me p pr wt ert flt met pt prt d jc pv W8 E8 F8 M8 P8 R8 fi WI EI FJ MI PJ RI m ps im ik asd rb rp mv hP hA hI)
    · exact r_tableIn dL_law_32 (by decide) (by decide) (off := 385) (tgt := 417) rfl (by decide) (k_word hX hi4 hL hkc h w er fl me p pr wt ert flt met pt prt d jc pv W8 E8 F8 M8 P8 R8 fi WI EI FJ MI PJ RI m ps im ik asd rb rp mv hP hA hI)
    · exact r_tableIn dL_law_32 (by decide) (by decide) (off := 418) (tgt := 450) rfl (by decide) (k_block hX hi4 hL hkc h w er fl me p pr wt ert flt met pt prt d jc pv W8 E8 F8 M8 P8 R8 fi WI EI FJ MI PJ RI m ps im ik asd rb rp mv hP hA hI)
    · exact r_tableIn dL_law_32 (by decide) (by decide) (off := 451) (tgt := 483) rfl (by decide) (k_records hX hi4 hL hkc h w er fl me p pr wt ert flt met pt prt d jc pv W8 E8 F8 M8 P8 R8 fi WI EI FJ MI PJ RI m ps im ik asd rb rp mv hP hA hI)
    · exact r_tableIn dL_law_32 (by decide) (by decide) (off := 474) (tgt := 506) rfl (by decide) (k_record hX hi4 hL hkc h w er fl me p pr wt ert flt met pt prt d jc pv W8 E8 F8 M8 P8 R8 fi WI EI FJ MI PJ RI m ps im ik asd rb rp mv hP hA hI)
    · exact r_tableIn dL_law_32 (by decide) (by decide) (off := 507) (tgt := 539) rfl (by decide) (k_takings hX hi4 hL hkc h w er fl me p pr wt ert flt met pt prt d jc pv W8 E8 F8 M8 P8 R8 fi WI EI FJ MI PJ RI m ps im ik asd rb rp mv hP hA hI)
    · exact r_tableIn dL_law_32 (by decide) (by decide) (off := 530) (tgt := 562) rfl (by decide) (k_mean hkc h w er fl me p pr wt ert flt met pt prt d jc pv W8 E8 F8 M8 P8 R8 fi WI EI FJ MI PJ RI m ps im ik asd rb rp mv hP hA hI)
    · exact r_tableIn dL_law_32 (by decide) (by decide) (off := 573) (tgt := 605) rfl (by decide) (k_times hX hi4 hL hkc h w er fl me p pr wt ert flt met pt prt d jc pv W8 E8 F8 M8 P8 R8 fi WI EI FJ MI PJ RI m ps im ik asd rb rp mv hP hA hI)
    · exact r_tableIn dL_law_32 (by decide) (by decide) (off := 596) (tgt := 628) rfl (by decide) (k_operations hX hi4 hL hkc h w er fl me p pr wt ert flt met pt prt d jc pv W8 E8 F8 M8 P8 R8 fi WI EI FJ MI PJ RI m ps im ik asd rb rp mv hP hA hI)
    · exact r_tableIn dL_law_32 (by decide) (by decide) (off := 619) (tgt := 651) rfl (by decide) (k_after hX hi4 hL hkc h w er fl me p pr wt ert flt met pt prt d jc pv W8 E8 F8 M8 P8 R8 fi WI EI FJ MI PJ RI m ps im ik asd rb rp mv hP hA hI)
    · exact r_tableIn dL_law_32 (by decide) (by decide) (off := 662) (tgt := 694) rfl (by decide) (k_needed hX hi4 hL hkc h w er fl me p pr wt ert flt met pt prt d jc pv W8 E8 F8 M8 P8 R8 fi WI EI FJ MI PJ RI m ps im ik asd rb rp mv hP hA hI)
    · exact r_tableIn dL_law_32 (by decide) (by decide) (off := 685) (tgt := 717) rfl (by decide) (k_keep hX hi4 hL hkc h w er fl me p pr wt ert flt met pt prt d jc pv W8 E8 F8 M8 P8 R8 fi WI EI FJ MI PJ RI m ps im ik asd rb rp mv hP hA hI)
    · exact r_tableIn dL_law_32 (by decide) (by decide) (off := 708) (tgt := 740) rfl (by decide) (k_back hX hi4 hL hkc h w er fl me p pr wt ert flt met pt prt d jc pv W8 E8 F8 M8 P8 R8 fi WI EI FJ MI PJ RI m ps im ik asd rb rp mv hP hA hI)
  · exact r_tableOut dL_law_32 (Or.inr (by rw [nI_toInt (by omega)]; omega)) (tgt := 763) (by decide) (h w er fl me p pr wt ert flt met pt prt d jc pv W8 E8 F8 M8 P8 R8 fi WI EI FJ MI PJ RI m ps im ik asd rb rp mv hP hA hI)

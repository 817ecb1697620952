-- the loop of the law (laid by wip/gen/loop.py)

set_option maxHeartbeats 4000000 in
theorem lop {X : CX} {Z : GZ} {kc ks : Nat} {t : Nat} {a : Nat → Nat} {b : Nat → Nat} {hj : Nat} {hd : Nat} {hq : Nat} {hs : Nat} {AD : Nat → Nat → Nat} {hi : Nat} {IH : Nat → Nat} {IA : Nat → Nat → Nat} {x : Nat → Nat} {bs L : Nat} {xs : Nat → Int32} (hX : scrX X bs L xs) (hL : L ≤ 2048) (hkc : kc ≤ room_1.cells ∧ ks ≤ room_1.slots) (he : ∀ i, Nx X Z kc ks t a b hj hd hq hs AD hi IH IA x bs i 769) : ∀ (n i : Nat), L ≤ i + n → i ≤ 4000 → Nx X Z kc ks t a b hj hd hq hs AD hi IH IA x bs i 18 := by
  intro n
  induction n with
  | zero =>
    intro i hn hi
    intro w er fl me p pr wt ert flt met pt prt d jc pv W8 E8 F8 M8 P8 R8 fi WI EI FJ MI PJ RI m ps im ik asd rb rp mv hP hA hI
    refine r_iload_n dL_law_18 0 rfl ?_
    refine r_aload_n dL_law_19 3 rfl ?_
    refine r_slen hX dL_law_20 ?_
    refine r_iconst (v := 4) dL_law_21 kic_4 ?_
    refine r_isub dL_law_22 ?_
    refine r_icmp_gt (tgt := 769) dL_law_23 (by decide) (fun _ => he i w er fl me p pr wt ert flt met pt prt d jc pv W8 E8 F8 M8 P8 R8 fi WI EI FJ MI PJ RI m ps im ik asd rb rp mv hP hA hI) (fun hh => absurd ?_ hh)
    rw [Int32.lt_iff_toInt_lt, show (4 : Int32) = nI 4 from rfl, pk_sub_toInt (by omega) (by decide), nI_toInt (by omega)]
    omega
  | succ n ih =>
    intro i hn hi
    intro w er fl me p pr wt ert flt met pt prt d jc pv W8 E8 F8 M8 P8 R8 fi WI EI FJ MI PJ RI m ps im ik asd rb rp mv hP hA hI
    refine r_iload_n dL_law_18 0 rfl ?_
    refine r_aload_n dL_law_19 3 rfl ?_
    refine r_slen hX dL_law_20 ?_
    refine r_iconst (v := 4) dL_law_21 kic_4 ?_
    refine r_isub dL_law_22 ?_
    refine r_icmp_gt (tgt := 769) dL_law_23 (by decide) (fun _ => he i w er fl me p pr wt ert flt met pt prt d jc pv W8 E8 F8 M8 P8 R8 fi WI EI FJ MI PJ RI m ps im ik asd rb rp mv hP hA hI) (fun hh => ?_)
    rw [Int32.lt_iff_toInt_lt, show (4 : Int32) = nI 4 from rfl, pk_sub_toInt (by omega) (by decide), nI_toInt (by omega)] at hh
    have hi4 : i + 4 ≤ L := by omega
    refine turn hX hi4 hL hkc ?_ w er fl me p pr wt ert flt met pt prt d jc pv W8 E8 F8 M8 P8 R8 fi WI EI FJ MI PJ RI m ps im ik asd rb rp mv hP hA hI
    intro w er fl me p pr wt ert flt met pt prt d jc pv W8 E8 F8 M8 P8 R8 fi WI EI FJ MI PJ RI m ps im ik asd rb rp mv hP hA hI
    refine r_iinc (v := nI (i + 4)) (lv' := [(3, .int (nI (i + 4))), (2, .ref (x 0)), (1, .ref t), (0, .ref bs)]) dL_law_763 (k := 0) rfl (nI_add i 4) (by decide) rfl ?_
    refine r_goto (tgt := 18) dL_law_766 (by decide) ?_
    exact ih (i + 4) (by omega) (by omega) w er fl me p pr wt ert flt met pt prt d jc pv W8 E8 F8 M8 P8 R8 fi WI EI FJ MI PJ RI m ps im ik asd rb rp mv hP hA hI

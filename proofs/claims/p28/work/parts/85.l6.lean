-- the law (laid by wip/genp/lawp.py)
theorem qw_459 : Cond.methodLink RL 102 yL_isJournal ∈ lw_tb := lw_up (List.mem_of_getElem? (i := 459) (by decide +kernel)) rfl
theorem qw_461 : Cond.code yL_isJournal cL_isJournal 11 (some .boolean) ∈ lw_tb := lw_up (List.mem_of_getElem? (i := 461) (by decide +kernel)) rfl
theorem qw_460 : Cond.static yL_isJournal ∈ lw_tb := lw_up (List.mem_of_getElem? (i := 460) (by decide +kernel)) rfl
theorem qw_523 : Cond.methodLink RL 106 yL_isKnown ∈ lw_tb := lw_up (List.mem_of_getElem? (i := 523) (by decide +kernel)) rfl
theorem qw_525 : Cond.code yL_isKnown cL_isKnown 9 (some .boolean) ∈ lw_tb := lw_up (List.mem_of_getElem? (i := 525) (by decide +kernel)) rfl
theorem qw_524 : Cond.static yL_isKnown ∈ lw_tb := lw_up (List.mem_of_getElem? (i := 524) (by decide +kernel)) rfl
theorem qw_526 : Cond.methodLink RL 109 yL_isCut ∈ lw_tb := lw_up (List.mem_of_getElem? (i := 526) (by decide +kernel)) rfl
theorem qw_528 : Cond.code yL_isCut cL_isCut 14 (some .boolean) ∈ lw_tb := lw_up (List.mem_of_getElem? (i := 528) (by decide +kernel)) rfl
theorem qw_527 : Cond.static yL_isCut ∈ lw_tb := lw_up (List.mem_of_getElem? (i := 527) (by decide +kernel)) rfl
theorem qw_545 : Cond.methodLink RL 113 yL_areAlike ∈ lw_tb := lw_up (List.mem_of_getElem? (i := 545) (by decide +kernel)) rfl
theorem qw_547 : Cond.code yL_areAlike cL_areAlike 5 (some .boolean) ∈ lw_tb := lw_up (List.mem_of_getElem? (i := 547) (by decide +kernel)) rfl
theorem qw_546 : Cond.static yL_areAlike ∈ lw_tb := lw_up (List.mem_of_getElem? (i := 546) (by decide +kernel)) rfl
theorem qw_202 : Cond.methodLink RL 94 yL_cell ∈ lw_tb := lw_up (List.mem_of_getElem? (i := 202) (by decide +kernel)) rfl
theorem qw_204 : Cond.code yL_cell cL_cell 2 (some .int) ∈ lw_tb := lw_up (List.mem_of_getElem? (i := 204) (by decide +kernel)) rfl
theorem qw_203 : Cond.static yL_cell ∈ lw_tb := lw_up (List.mem_of_getElem? (i := 203) (by decide +kernel)) rfl
theorem qw_210 : Cond.methodLink RL 98 yL_change ∈ lw_tb := lw_up (List.mem_of_getElem? (i := 210) (by decide +kernel)) rfl
theorem qw_212 : Cond.code yL_change cL_change 3 (some .int) ∈ lw_tb := lw_up (List.mem_of_getElem? (i := 212) (by decide +kernel)) rfl
theorem qw_211 : Cond.static yL_change ∈ lw_tb := lw_up (List.mem_of_getElem? (i := 211) (by decide +kernel)) rfl
theorem qw_22 : Cond.classLink RL 16 RX6 ∈ lw_tb := lw_up (List.mem_of_getElem? (i := 22) (by decide +kernel)) rfl
theorem qw_23 : Cond.instantiable RX6 5 ∈ lw_tb := lw_up (List.mem_of_getElem? (i := 23) (by decide +kernel)) rfl
theorem qw_24 : Cond.methodLink RL 93 yX6_init ∈ lw_tb := lw_up (List.mem_of_getElem? (i := 24) (by decide +kernel)) rfl
theorem qw_25 : Cond.instanceMethod yX6_init ∈ lw_tb := lw_up (List.mem_of_getElem? (i := 25) (by decide +kernel)) rfl
theorem qw_26 : Cond.code yX6_init cX6_init 2 none ∈ lw_tb := lw_up (List.mem_of_getElem? (i := 26) (by decide +kernel)) rfl
theorem kbp_24 : (Int8.ofInt 24).toInt32 = 24 := by decide
theorem kbp_15 : (Int8.ofInt 15).toInt32 = 15 := by decide
theorem ms_L_isJournal : mSo yL_isJournal cL_isJournal 11 1 (some .boolean) := ⟨qw_460, qw_12, qw_461, by decide +kernel⟩
theorem ms_L_isKnown : mSo yL_isKnown cL_isKnown 9 1 (some .boolean) := ⟨qw_524, qw_12, qw_525, by decide +kernel⟩
theorem ms_L_isCut : mSo yL_isCut cL_isCut 14 3 (some .boolean) := ⟨qw_527, qw_12, qw_528, by decide +kernel⟩
theorem ms_L_areAlike : mSo yL_areAlike cL_areAlike 5 2 (some .boolean) := ⟨qw_546, qw_12, qw_547, by decide +kernel⟩
theorem ms_L_cell : mSo yL_cell cL_cell 2 2 (some .int) := ⟨qw_203, qw_12, qw_204, by decide +kernel⟩
theorem ms_L_change : mSo yL_change cL_change 3 3 (some .int) := ⟨qw_211, qw_12, qw_212, by decide +kernel⟩
theorem mi_X6_init : mIo yX6_init cX6_init 2 := ⟨qw_25, rfl, qw_13, qw_26, by decide +kernel⟩
-- the law: its loop
def Lp (X : CX) (Z : GZ) (kc ks : Nat) (A A2 : TA) (bs pc t : Nat) : Prop := ∀ (D D2 : TD) (m : Row) (hs hs2 : List Row) (im : Nat → Option Row), RO D m hs im → RO D2 m hs2 im → AtK X Z room_1 cL_law RL 7 kc ks (wB Z A D ++ wB Z A2 D2) pc [(3, .int (nI t)), (2, .ref A2.1), (1, .ref A.1), (0, .ref bs)] []

set_option maxHeartbeats 1000000 in
set_option maxRecDepth 100000 in
theorem l146 {X : CX} {Z : GZ} {kc ks : Nat} {A A2 : TA} {bs t : Nat} {x4 x5 x6 : Int32} (h : Lp X Z kc ks A A2 bs 18 (t + 1)) {D D2 : TD} {m : Row} {hs hs2 : List Row} {im : Nat → Option Row} (hD : RO D m hs im) (hD2 : RO D2 m hs2 im) : AtK X Z room_1 cL_law RL 7 kc ks (wB Z A D ++ wB Z A2 D2) 146 [(6, .int x6), (5, .int x5), (4, .int x4), (3, .int (nI t)), (2, .ref A2.1), (1, .ref A.1), (0, .ref bs)] [] := by
  refine r_iinc (v := nI (t + 1)) (lv' := [(3, .int (nI (t + 1))), (6, .int x6), (5, .int x5), (4, .int x4), (2, .ref A2.1), (1, .ref A.1), (0, .ref bs)]) dL_law_146 (k := 3) rfl (nI_add t 1) (by decide) rfl ?_
  refine r_goto (tgt := 18) dL_law_149 (by decide) ?_
  refine r_sub [0, 4, 5, 6] (lv' := [(3, .int (nI (t + 1))), (2, .ref A2.1), (1, .ref A.1), (0, .ref bs)]) rfl ?_
  exact h D D2 m hs hs2 im hD hD2

set_option maxHeartbeats 1000000 in
set_option maxRecDepth 100000 in
theorem l87 {X : CX} {Z : GZ} {kc ks : Nat} (hkc : kc ≤ room_1.cells ∧ ks ≤ room_1.slots) {A A2 : TA} {bs t : Nat} (ht : t < 24) {x4 x5 x6 : Int32} (h : Lp X Z kc ks A A2 bs 18 (t + 1)) {D D2 : TD} {m : Row} {hs hs2 : List Row} {im : Nat → Option Row} (hD : RO D m hs im) (hD2 : RO D2 m hs2 im) : AtK X Z room_1 cL_law RL 7 kc ks (wB Z A D ++ wB Z A2 D2) 87 [(6, .int x6), (5, .int x5), (4, .int x4), (3, .int (nI t)), (2, .ref A2.1), (1, .ref A.1), (0, .ref bs)] [] := by
  obtain ⟨D3, j1, j2⟩ := joF hD
  obtain ⟨D4, hs4, k1, k2⟩ := knF j2
  refine r_aload_n dL_law_87 5 rfl ?_
  refine r_callS (As := [.ref A.1]) (rest := []) (fun l => c_L_isJournal Z l A D (1, D3) j1) qw_459 ms_L_isJournal pk_O0 ⟨Nat.le_of_ble_eq_true rfl, Nat.le_of_ble_eq_true rfl⟩ ⟨rfl, rfl⟩ hkc rfl (Nat.le_of_ble_eq_true rfl) rfl dL_law_88 ?_
  refine r_if_eq (tgt := 101) dL_law_91 (by decide) (fun z => absurd z i1ne) (fun _ => ?_)
  refine r_aload_n dL_law_94 5 rfl ?_
  refine r_callS (As := [.ref A.1]) (rest := []) (fun l => c_L_isKnown Z l A D3 (1, D4) k1) qw_523 ms_L_isKnown pk_O0 ⟨Nat.le_of_ble_eq_true rfl, Nat.le_of_ble_eq_true rfl⟩ ⟨rfl, rfl⟩ hkc rfl (Nat.le_of_ble_eq_true rfl) rfl dL_law_95 ?_
  refine r_if_ne (tgt := 103) dL_law_98 (by decide) (fun _ => ?_) (fun z => absurd z i1ne)
  refine r_aload_n dL_law_103 5 rfl ?_
  refine r_iconst (v := 0) dL_law_104 kic_0 ?_
  have e105 : g_O_told D4 0 = some (m 115) := O_told k2 (j := 0) (by decide)
  refine r_callO (As := [.int 0]) (rest := []) (ws' := wB Z A D4 ++ wB Z A2 D2) (cO_told Z A D4 0 _ e105) pk_O0 rfl qw_191 mv_X6_told ⟨Nat.le_of_ble_eq_true rfl, Nat.le_of_ble_eq_true rfl⟩ ⟨rfl, rfl⟩ hkc rfl (Nat.le_of_ble_eq_true rfl) rfl dL_law_105 ?_
  refine r_iconst (v := 1) dL_law_108 kic_1 ?_
  refine r_icmp_ne (tgt := 146) dL_law_109 (by decide) (fun _ => l146 h k2 hD2) (fun on => ?_)
  refine r_iload_n dL_law_112 3 rfl ?_
  refine r_iconst (v := 2) dL_law_113 kic_2 ?_
  refine r_irem dL_law_114 (by decide) ?_
  refine r_iconst (v := 1) dL_law_115 kic_1 ?_
  refine r_icmp_ne (tgt := 146) dL_law_116 (by decide) (fun _ => l146 h k2 hD2) (fun _ => ?_)
  obtain ⟨s1, hs1, es⟩ := lowL (x5 >>> 5) (x := 4) 4 rfl (by decide) (by decide)
  obtain ⟨a1, ha1, ea⟩ := lowL (x5 >>> 8) (x := 25) 25 rfl (by decide) (by decide)
  obtain ⟨D5, hs5, c1, c2⟩ := cuF k2 on hs1 ha1
  refine r_aload_n dL_law_119 5 rfl ?_
  refine r_iload dL_law_120 1 rfl ?_
  refine r_iconst (v := 5) dL_law_122 kic_5 ?_
  refine r_ishr (n := 5) dL_law_123 (by decide) ?_
  refine r_iconst (v := 4) dL_law_124 kic_4 ?_
  refine r_callS (As := [.int (x5 >>> 5), .int 4]) (rest := [.ref A.1]) (fun l => c_L_low Z l _ _ _ es) qw_206 ms_L_low xPk.none ⟨Nat.le_of_ble_eq_true rfl, Nat.le_of_ble_eq_true rfl⟩ ⟨rfl, rfl⟩ hkc rfl (Nat.le_of_ble_eq_true rfl) rfl dL_law_125 ?_
  refine r_iload dL_law_128 1 rfl ?_
  refine r_bipush (v := 8) dL_law_130 kbp_8 ?_
  refine r_ishr (n := 8) dL_law_132 (by decide) ?_
  refine r_bipush (v := 25) dL_law_133 kbp_25 ?_
  refine r_callS (As := [.int (x5 >>> 8), .int 25]) (rest := [.int (nI s1), .ref A.1]) (fun l => c_L_low Z l _ _ _ ea) qw_206 ms_L_low xPk.none ⟨Nat.le_of_ble_eq_true rfl, Nat.le_of_ble_eq_true rfl⟩ ⟨rfl, rfl⟩ hkc rfl (Nat.le_of_ble_eq_true rfl) rfl dL_law_135 ?_
  refine r_callS (As := [.ref A.1, .int (nI s1), .int (nI a1)]) (rest := []) (fun l => c_L_isCut Z l A D4 (nI s1) (nI a1) (1, D5) c1) qw_526 ms_L_isCut pk_O0 ⟨Nat.le_of_ble_eq_true rfl, Nat.le_of_ble_eq_true rfl⟩ ⟨rfl, rfl⟩ hkc rfl (Nat.le_of_ble_eq_true rfl) rfl dL_law_138 ?_
  refine r_if_ne (tgt := 146) dL_law_141 (by decide) (fun _ => l146 h c2 hD2) (fun z => absurd z i1ne)

set_option maxHeartbeats 1000000 in
set_option maxRecDepth 100000 in
theorem lop {X : CX} {Z : GZ} {kc ks : Nat} (hkc : kc ≤ room_1.cells ∧ ks ≤ room_1.slots) {A A2 : TA} {bs L : Nat} {xs : Nat → Int32} (hX : scrX X bs L xs) (hL : L ≤ 260) (he : ∀ (D D2 : TD) (lv : List (Nat × Value)), AtK X Z room_1 cL_law RL 7 kc ks (wB Z A D ++ wB Z A2 D2) 157 lv [.int 1]) : ∀ (n t : Nat), t + n = 24 → Lp X Z kc ks A A2 bs 18 t := by
  intro n
  induction n with
  | zero =>
    intro t ht D D2 m hs hs2 im hD hD2
    have ht : t = 24 := by omega
    subst ht
    refine r_iload_n dL_law_18 0 rfl ?_
    refine r_bipush (v := 24) dL_law_19 kbp_24 ?_
    refine r_icmp_ge (tgt := 152) dL_law_21 (by decide) (fun _ => ?_) (fun z => absurd (show (24 : Int32) ≤ nI 24 by decide) z)
    obtain ⟨D3, D4, a1⟩ := alF hD hD2
    refine r_aload_n dL_law_152 2 rfl ?_
    refine r_aload_n dL_law_153 1 rfl ?_
    refine r_callS (As := [.ref A.1, .ref A2.1]) (rest := []) (fun l => c_L_areAlike Z l A A2 D D2 (1, D3, D4) a1) qw_545 ms_L_areAlike (xPk.all (by rw [List.map_append, List.map_append, wB_dom (D := D) (D' := D3), wB_dom (D := D2) (D' := D4)])) ⟨Nat.le_of_ble_eq_true rfl, Nat.le_of_ble_eq_true rfl⟩ ⟨rfl, rfl⟩ hkc rfl (Nat.le_of_ble_eq_true rfl) rfl dL_law_154 ?_
    exact he D3 D4 _
  | succ n ih =>
    intro t ht D D2 m hs hs2 im hD hD2
    have ih' := ih (t + 1) (by omega)
    have e2 : (2 : Int32) * nI t = nI (2 * t) := by rw [show (2 : Int32) = nI 2 from rfl, pk_mul]
    refine r_iload_n dL_law_18 0 rfl ?_
    refine r_bipush (v := 24) dL_law_19 kbp_24 ?_
    refine r_icmp_ge (tgt := 152) dL_law_21 (by decide) (fun z => absurd z (nI_ge (a := t) (b := 24) (by omega) (by decide))) (fun _ => ?_)
    refine r_aload_n dL_law_24 3 rfl ?_
    refine r_iconst (v := 2) dL_law_25 kic_2 ?_
    refine r_iload_n dL_law_26 0 rfl ?_
    refine r_imul dL_law_27 ?_
    rw [e2]
    refine r_callC (As := [.ref bs, .int (nI (2 * t))]) (rest := []) (fun l => c_L_cell Z l bs L xs hL (2 * t) (by omega)) hX qw_202 ms_L_cell ⟨Nat.le_of_ble_eq_true rfl, Nat.le_of_ble_eq_true rfl⟩ ⟨rfl, rfl⟩ hkc rfl (Nat.le_of_ble_eq_true rfl) rfl dL_law_28 ?_
    generalize clv L xs (2 * t) = x4
    refine r_istore (lv' := [(4, .int x4), (3, .int (nI t)), (2, .ref A2.1), (1, .ref A.1), (0, .ref bs)]) dL_law_31 (by decide) rfl ?_
    refine r_aload_n dL_law_33 4 rfl ?_
    refine r_iconst (v := 2) dL_law_34 kic_2 ?_
    refine r_iload_n dL_law_35 1 rfl ?_
    refine r_imul dL_law_36 ?_
    refine r_iconst (v := 1) dL_law_37 kic_1 ?_
    refine r_iadd dL_law_38 ?_
    rw [e2, nI_s]
    refine r_callC (As := [.ref bs, .int (nI (2 * t + 1))]) (rest := []) (fun l => c_L_cell Z l bs L xs hL (2 * t + 1) (by omega)) hX qw_202 ms_L_cell ⟨Nat.le_of_ble_eq_true rfl, Nat.le_of_ble_eq_true rfl⟩ ⟨rfl, rfl⟩ hkc rfl (Nat.le_of_ble_eq_true rfl) rfl dL_law_39 ?_
    generalize clv L xs (2 * t + 1) = x5
    refine r_istore (lv' := [(5, .int x5), (4, .int x4), (3, .int (nI t)), (2, .ref A2.1), (1, .ref A.1), (0, .ref bs)]) dL_law_42 (by decide) rfl ?_
    refine r_iload dL_law_44 1 rfl ?_
    refine r_bipush (v := 18) dL_law_46 kbp_18 ?_
    obtain ⟨j, hj, ej, hch⟩ := chF x4 x5 hD hD2
    refine r_callS (As := [.int x4, .int 18]) (rest := []) (fun l => c_L_low Z l _ _ _ ej) qw_206 ms_L_low xPk.none ⟨Nat.le_of_ble_eq_true rfl, Nat.le_of_ble_eq_true rfl⟩ ⟨rfl, rfl⟩ hkc rfl (Nat.le_of_ble_eq_true rfl) rfl dL_law_48 ?_
    refine r_bipush (v := 15) dL_law_51 kbp_15 ?_
    by_cases h15 : j = 15
    · subst h15
      refine r_icmp_ne (tgt := 60) dL_law_53 (by decide) (fun z => absurd (show nI 15 = 15 from rfl) z) (fun _ => ?_)
      refine r_iconst (v := 1) dL_law_56 kic_1 ?_
      refine r_goto (tgt := 61) dL_law_57 (by decide) ?_
      refine r_istore (lv' := [(6, .int 1), (5, .int x5), (4, .int x4), (3, .int (nI t)), (2, .ref A2.1), (1, .ref A.1), (0, .ref bs)]) dL_law_61 (by decide) rfl ?_
      refine r_iload dL_law_63 0 rfl ?_
      refine r_if_ne (tgt := 87) dL_law_65 (by decide) (fun _ => ?_) (fun z => absurd z i1ne)
      exact l87 hkc (by omega) ih' hD hD2
    · refine r_icmp_ne (tgt := 60) dL_law_53 (by decide) (fun _ => ?_) (fun z => absurd ((nI_inj (a := j) (b := 15) (by omega) (by decide)).mp z) h15)
      refine r_iconst (v := 0) dL_law_60 kic_0 ?_
      refine r_istore (lv' := [(6, .int 0), (5, .int x5), (4, .int x4), (3, .int (nI t)), (2, .ref A2.1), (1, .ref A.1), (0, .ref bs)]) dL_law_61 (by decide) rfl ?_
      refine r_iload dL_law_63 0 rfl ?_
      refine r_if_ne (tgt := 87) dL_law_65 (by decide) (fun z => absurd rfl z) (fun _ => ?_)
      obtain ⟨r, m', im', D3, D4, hs3, hs4, a1, a2, a3, a4⟩ := hch h15
      refine r_aload_n dL_law_68 5 rfl ?_
      refine r_iload dL_law_69 2 rfl ?_
      refine r_iload dL_law_71 1 rfl ?_
      refine r_callS (As := [.ref A.1, .int x4, .int x5]) (rest := []) (fun l => c_L_change Z l A D x4 x5 (r, D3) a1) qw_210 ms_L_change pk_O0 ⟨Nat.le_of_ble_eq_true rfl, Nat.le_of_ble_eq_true rfl⟩ ⟨rfl, rfl⟩ hkc rfl (Nat.le_of_ble_eq_true rfl) rfl dL_law_73 ?_
      refine r_aload_n dL_law_76 4 rfl ?_
      refine r_iload dL_law_77 2 rfl ?_
      refine r_iload dL_law_79 1 rfl ?_
      refine r_callS (As := [.ref A2.1, .int x4, .int x5]) (rest := [.int r]) (fun l => c_L_change Z l A2 D2 x4 x5 (r, D4) a2) qw_210 ms_L_change pk_O1 ⟨Nat.le_of_ble_eq_true rfl, Nat.le_of_ble_eq_true rfl⟩ ⟨rfl, rfl⟩ hkc rfl (Nat.le_of_ble_eq_true rfl) rfl dL_law_81 ?_
      refine r_icmp_ne (tgt := 101) dL_law_84 (by decide) (fun z => absurd rfl z) (fun _ => ?_)
      exact l87 hkc (by omega) ih' a3 a4

-- the law: its beginning
theorem wi0 : WI m0F := by
  constructor
  · intro i hi
    unfold m0F
    rw [if_neg (by omega), if_neg (by omega), if_neg (by omega), if_neg (by omega), if_neg (by omega), if_neg (by omega), if_pos hi]
    unfold w0F
    split
    · exact ⟨1, by decide, rfl⟩
    · split
      · exact ⟨0, by decide, rfl⟩
      · exact word_E
  · intro b q hb hq h3
    refine absurd ?_ h3
    exact (show ∀ b, b < 5 → ∀ q, q < 4 → m0F (22 * b + (6 + 4 * q + 3)) = 65535 by decide +kernel) b hb q hq
theorem ro0 {w er fl me p pr : Row} {x : PT} {y : Row × Int32} {W8 E8 F8 M8 P8 R8 W2 E2 F2 M2 P2 R2 : Nat → Row} (h : iniP w er fl me p pr) : RO ((w, er, fl, me, p, pr), x, y, ((fun _ => 0), (W8, E8, F8, M8, P8, R8)), ((fun _ _ => 0), (W2, E2, F2, M2, P2, R2))) m0F [] (fun _ => none) :=
  ⟨iniF h (fun _ _ => rfl), wi0, ⟨0, by decide, by decide, rfl, rfl, fun j x hj => by simp at hj⟩, fun i _ => ⟨fun _ => rfl, fun x hx => by simp at hx⟩⟩
set_option maxHeartbeats 4000000 in
set_option maxRecDepth 100000 in
theorem beg {X : CX} {Z : GZ} {bs : Nat} (hn : newX X) (hk : ∀ A A2 : TA, Lp X Z 160 3552 A A2 bs 18 0) : AtK X Z room_1 cL_law RL 7 0 0 [] 0 [(0, .ref bs)] [] := by
  refine r_new (ci := 6) hn kX6 tyX6 tyX6_ok rfl (fs := [.null, .null, .null, .null, .null]) (fun j hj => by rcases (show j = 0 ∨ j = 1 ∨ j = 2 ∨ j = 3 ∨ j = 4 by omega) with rfl | rfl | rfl | rfl | rfl <;> rfl) qw_22 qw_23 qw_13 ⟨Nat.le_of_ble_eq_true rfl, Nat.le_of_ble_eq_true rfl⟩ dL_law_0 (fun t1 => ?_)
  refine r_dup dL_law_3 rfl ?_
  refine r_init hn (fun l => c_X6_init Z l t1) qw_24 mi_X6_init ⟨Nat.le_of_ble_eq_true rfl, Nat.le_of_ble_eq_true rfl⟩ ⟨rfl, rfl⟩ ⟨Nat.le_of_ble_eq_true rfl, Nat.le_of_ble_eq_true rfl⟩ (Nat.le_of_ble_eq_true rfl) dL_law_4 (fun n1 hn1 => ?_)
  obtain ⟨ay1, by1, hjy1, hdy1, hqy1, hsy1, ADy1, hiy1, IHy1, IAy1, wy1, ery1, fly1, mey1, py1, pry1, wty1, erty1, flty1, mety1, pty1, prty1, Wy1, Ey1, Fy1, My1, Py1, Ry1, Uy1, Vy1, Gy1, Ky1, Qy1, Ty1, rfl, iy1, -, -, -⟩ := hn1
  refine r_astore_n (lv' := [(1, .ref t1), (0, .ref bs)]) dL_law_7 (by decide) rfl ?_
  refine r_new (ci := 6) hn kX6 tyX6 tyX6_ok rfl (fs := [.null, .null, .null, .null, .null]) (fun j hj => by rcases (show j = 0 ∨ j = 1 ∨ j = 2 ∨ j = 3 ∨ j = 4 by omega) with rfl | rfl | rfl | rfl | rfl <;> rfl) qw_22 qw_23 qw_13 ⟨Nat.le_of_ble_eq_true rfl, Nat.le_of_ble_eq_true rfl⟩ dL_law_8 (fun t2 => ?_)
  refine r_dup dL_law_11 rfl ?_
  refine r_init hn (fun l => c_X6_init Z l t2) qw_24 mi_X6_init ⟨Nat.le_of_ble_eq_true rfl, Nat.le_of_ble_eq_true rfl⟩ ⟨rfl, rfl⟩ ⟨Nat.le_of_ble_eq_true rfl, Nat.le_of_ble_eq_true rfl⟩ (Nat.le_of_ble_eq_true rfl) dL_law_12 (fun n2 hn2 => ?_)
  obtain ⟨az1, bz1, hjz1, hdz1, hqz1, hsz1, ADz1, hiz1, IHz1, IAz1, wz1, erz1, flz1, mez1, pz1, prz1, wtz1, ertz1, fltz1, metz1, ptz1, prtz1, Wz1, Ez1, Fz1, Mz1, Pz1, Rz1, Uz1, Vz1, Gz1, Kz1, Qz1, Tz1, rfl, iz1, -, -, -⟩ := hn2
  refine r_astore_n (lv' := [(2, .ref t2), (1, .ref t1), (0, .ref bs)]) dL_law_15 (by decide) rfl ?_
  refine r_iconst (v := 0) dL_law_16 kic_0 ?_
  refine r_istore_n (lv' := [(3, .int 0), (2, .ref t2), (1, .ref t1), (0, .ref bs)]) dL_law_17 (by decide) rfl ?_
  refine r_ws (ws' := wB Z (t1, ay1, by1, hjy1, hdy1, hqy1, hsy1, ADy1, hiy1, IHy1, IAy1) ((wy1, ery1, fly1, mey1, py1, pry1), (wty1, erty1, flty1, mety1, pty1, prty1), ((fun _ => 0), 0), ((fun _ => 0), (Wy1, Ey1, Fy1, My1, Py1, Ry1)), ((fun _ _ => 0), (Uy1, Vy1, Gy1, Ky1, Qy1, Ty1))) ++ wB Z (t2, az1, bz1, hjz1, hdz1, hqz1, hsz1, ADz1, hiz1, IHz1, IAz1) ((wz1, erz1, flz1, mez1, pz1, prz1), (wtz1, ertz1, fltz1, metz1, ptz1, prtz1), ((fun _ => 0), 0), ((fun _ => 0), (Wz1, Ez1, Fz1, Mz1, Pz1, Rz1)), ((fun _ _ => 0), (Uz1, Vz1, Gz1, Kz1, Qz1, Tz1)))) (by simp only [wB, wAll, List.nil_append, List.append_nil, List.append_assoc]) ?_
  exact hk (t1, ay1, by1, hjy1, hdy1, hqy1, hsy1, ADy1, hiy1, IHy1, IAy1) (t2, az1, bz1, hjz1, hdz1, hqz1, hsz1, ADz1, hiz1, IHz1, IAz1) _ _ m0F [] [] (fun _ => none) (ro0 iy1) (ro0 iz1)

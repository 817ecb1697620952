-- the beginning of the law (laid by wip/gen/beg.py)
theorem qw_48 : Cond.classLink RL 7 RX6 ∈ lw_tb := lw_up (List.mem_of_getElem? (i := 48) (by decide +kernel)) rfl
theorem qw_49 : Cond.instantiable RX6 5 ∈ lw_tb := lw_up (List.mem_of_getElem? (i := 49) (by decide +kernel)) rfl
theorem qw_50 : Cond.methodLink RL 9 yX6_init ∈ lw_tb := lw_up (List.mem_of_getElem? (i := 50) (by decide +kernel)) rfl
theorem qw_51 : Cond.instanceMethod yX6_init ∈ lw_tb := lw_up (List.mem_of_getElem? (i := 51) (by decide +kernel)) rfl
theorem qw_52 : Cond.code yX6_init cX6_init 2 none ∈ lw_tb := lw_up (List.mem_of_getElem? (i := 52) (by decide +kernel)) rfl
theorem qw_579 : Cond.classLink RL 10 RX7 ∈ lw_tb := lw_up (List.mem_of_getElem? (i := 579) (by decide +kernel)) rfl
theorem qw_580 : Cond.instantiable RX7 9 ∈ lw_tb := lw_up (List.mem_of_getElem? (i := 580) (by decide +kernel)) rfl
theorem qw_581 : Cond.methodLink RL 12 yX7_init ∈ lw_tb := lw_up (List.mem_of_getElem? (i := 581) (by decide +kernel)) rfl
theorem qw_582 : Cond.instanceMethod yX7_init ∈ lw_tb := lw_up (List.mem_of_getElem? (i := 582) (by decide +kernel)) rfl
theorem qw_583 : Cond.code yX7_init cX7_init 2 none ∈ lw_tb := lw_up (List.mem_of_getElem? (i := 583) (by decide +kernel)) rfl
theorem mi_X6_init : mIo yX6_init cX6_init 2 := ⟨qw_51, rfl, qw_38, qw_52, by decide +kernel⟩
theorem mi_X7_init : mIo yX7_init cX7_init 2 := ⟨qw_582, rfl, qw_45, qw_583, by decide +kernel⟩
set_option maxHeartbeats 4000000 in
set_option maxRecDepth 100000 in
theorem beg {X : CX} {Z : GZ} {bs : Nat} (hn : newX X) (hk : ∀ (t : Nat) (a : Nat → Nat) (b : Nat → Nat) (hj : Nat) (hd : Nat) (hq : Nat) (hs : Nat) (AD : Nat → Nat → Nat) (hi : Nat) (IH : Nat → Nat) (IA : Nat → Nat → Nat) (x : Nat → Nat), Nx X Z 88 3399 t a b hj hd hq hs AD hi IH IA x bs 0 18) : AtK X Z room_1 cL_law RL 8 0 0 [] 0 [(0, .ref bs)] [] := by
  refine r_new (ci := 6) hn kX6 tyX6 tyX6_ok rfl (fs := [.null, .null, .null, .null, .null]) (fun j hj => by rcases (show j = 0 ∨ j = 1 ∨ j = 2 ∨ j = 3 ∨ j = 4 by omega) with rfl | rfl | rfl | rfl | rfl <;> rfl) qw_48 qw_49 qw_38 ⟨Nat.le_of_ble_eq_true rfl, Nat.le_of_ble_eq_true rfl⟩ dL_law_0 (fun t => ?_)
  refine r_dup dL_law_3 rfl ?_
  refine r_init hn (fun l => c_X6_init Z l t) qw_50 mi_X6_init ⟨Nat.le_of_ble_eq_true rfl, Nat.le_of_ble_eq_true rfl⟩ ⟨rfl, rfl⟩ ⟨Nat.le_of_ble_eq_true rfl, Nat.le_of_ble_eq_true rfl⟩ (Nat.le_of_ble_eq_true rfl) dL_law_4 (fun n1 hn1 => ?_)
  obtain ⟨a, b, hj, hd, hq, hs, AD, hi, IH, IA, w, er, fl, me, p, pr, wt, ert, flt, met, pt, prt, W8, E8, F8, M8, P8, R8, WI, EI, FJ, MI, PJ, RI, rfl, i1, i2, i3, i4⟩ := hn1
  refine r_astore_n (lv' := [(1, .ref t), (0, .ref bs)]) dL_law_7 (by decide) rfl ?_
  refine r_new (ci := 7) hn kX7 tyX7 tyX7_ok rfl (fs := [.null, .null, .int 0, .null, .null, .null, .null, .null, .int 0]) (fun j hj => by rcases (show j = 0 ∨ j = 1 ∨ j = 2 ∨ j = 3 ∨ j = 4 ∨ j = 5 ∨ j = 6 ∨ j = 7 ∨ j = 8 by omega) with rfl | rfl | rfl | rfl | rfl | rfl | rfl | rfl | rfl <;> rfl) qw_579 qw_580 qw_45 ⟨Nat.le_of_ble_eq_true rfl, Nat.le_of_ble_eq_true rfl⟩ dL_law_8 (fun z => ?_)
  refine r_dup dL_law_11 rfl ?_
  refine r_init hn (fun l => c_X7_init Z l z) qw_581 mi_X7_init ⟨Nat.le_of_ble_eq_true rfl, Nat.le_of_ble_eq_true rfl⟩ ⟨rfl, rfl⟩ ⟨Nat.le_of_ble_eq_true rfl, Nat.le_of_ble_eq_true rfl⟩ (Nat.le_of_ble_eq_true rfl) dL_law_12 (fun n2 hn2 => ?_)
  obtain ⟨x, m, rfl, rfl, hm⟩ := hn2
  refine r_astore_n (lv' := [(2, .ref (x 0)), (1, .ref t), (0, .ref bs)]) dL_law_15 (by decide) rfl ?_
  refine r_iconst (v := 0) dL_law_16 kic_0 ?_
  refine r_istore_n (lv' := [(3, .int 0), (2, .ref (x 0)), (1, .ref t), (0, .ref bs)]) dL_law_17 (by decide) rfl ?_
  refine r_ws (ws' := wA Z t a b hj hd hq hs AD hi IH IA x w er fl me p pr wt ert flt met pt prt (fun _ => 0) 0 (fun _ => 0) W8 E8 F8 M8 P8 R8 (fun _ _ => 0) WI EI FJ MI PJ RI m (fun _ => 0) (fun _ => 0) (fun _ => 0) (fun _ => 0) (fun _ => 0) (fun _ => 0) (fun _ => 0)) (by simp only [wA, wAll, List.nil_append, List.append_assoc]) ?_
  exact hk t a b hj hd hq hs AD hi IH IA x w er fl me p pr wt ert flt met pt prt (fun _ => 0) 0 (fun _ => 0) W8 E8 F8 M8 P8 R8 (fun _ _ => 0) WI EI FJ MI PJ RI m (fun _ => 0) (fun _ => 0) (fun _ => 0) (fun _ => 0) (fun _ => 0) (fun _ => 0) (fun _ => 0) (iniF i1 hm) pa0 im0


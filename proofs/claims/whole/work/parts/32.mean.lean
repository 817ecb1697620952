-- floats: rows, and the two means (laid by wip/gen/run2.py)
section KF
variable {X : CX} {Z : GZ} {R : Room} {cc : ByteArray} {own : String} {nL kc ks : Nat} {ws : va_W} {pc : Nat} {lv : List (Nat × Value)} {st : List Value}
theorem r_fconst0 (d : decode cc pc = .ok (.fconst 0, 1)) (kk : AtK X Z R cc own nL kc ks ws (pc + 1) lv (.float FP.fconst0 :: st)) : AtK X Z R cc own nL kc ks ws pc lv st := by
  obtain ⟨p, l, e, s, m, args, below, meth, c, Q, A, H0⟩ := X
  intro hok H locs ls hP hD hS hl
  obtain ⟨hx, hb, hts, hown, ⟨hK, hN⟩, hml⟩ := id hok
  exact lv_fconst0 hx hb d (kk hok H locs ls hP hD hS hl)
theorem r_i2f {x : Int32} (d : decode cc pc = .ok (.i2f, 1)) (kk : AtK X Z R cc own nL kc ks ws (pc + 1) lv (.float (FP.i2f x) :: st)) : AtK X Z R cc own nL kc ks ws pc lv (.int x :: st) := by
  obtain ⟨p, l, e, s, m, args, below, meth, c, Q, A, H0⟩ := X
  intro hok H locs ls hP hD hS hl
  obtain ⟨hx, hb, hts, hown, ⟨hK, hN⟩, hml⟩ := id hok
  exact lv_i2f hx hb d (kk hok H locs ls hP hD hS hl)
theorem r_fdiv {x y : UInt32} (hne : FP.fdiv x y &&& 0x7fffffff ≤ 0x7f800000) (d : decode cc pc = .ok (.fdiv, 1)) (kk : AtK X Z R cc own nL kc ks ws (pc + 1) lv (.float (FP.fdiv x y) :: st)) : AtK X Z R cc own nL kc ks ws pc lv (.float y :: .float x :: st) := by
  obtain ⟨p, l, e, s, m, args, below, meth, c, Q, A, H0⟩ := X
  intro hok H locs ls hP hD hS hl
  obtain ⟨hx, hb, hts, hown, ⟨hK, hN⟩, hml⟩ := id hok
  exact lv_fdiv hx hb d hne (kk hok H locs ls hP hD hS hl)
theorem r_fret {x : UInt32} (hE : endsX X Z (some .float) (some (.float x)) ws) (d : decode cc pc = .ok (.freturn, 1)) : AtK X Z R cc own nL 0 0 ws pc lv [.float x] := by
  obtain ⟨p, l, e, s, m, args, below, meth, c, Q, A, H0⟩ := X
  intro hok H locs ls hP hD hS hl
  obtain ⟨hx, hb, hts, hown, ⟨hK, hN⟩, hml⟩ := id hok
  obtain ⟨hr, hlk, rfl, rfl⟩ := hE
  exact W.fret hx hb hr (fun t ht hW => ⟨⟨rfl, by rw [ht]; exact hP⟩, hS.F ht⟩) hS.2.2 d hlk
end KF

-- TicketJournal.mean()F
abbrev rm_X6_mean : Room := { frames := 5, cells := 0, slots := 0, locals := 118 }
def g_X6_mean (w : Nat → Int32) (d : Nat → Int32) (jc : Int32)  : Option (UInt32 × (Nat → Int32) × (Int32)) :=
  (g_X2_gather d jc w).bind fun o11 => (g_X2_countOf o11.1 o11.2 0).bind fun o17 => (if o17 = 0 then some (FP.fconst0, o11.1, o11.2) else (g_X2_pricesOf o11.1 o11.2 0 (-1)).bind fun o32 => (if ¬ (FP.fdiv (FP.i2f o32) (FP.i2f o17) &&& 0x7fffffff ≤ 0x7f800000) then none else some ((FP.fdiv (FP.i2f o32) (FP.i2f o17)), o11.1, o11.2)))
set_option maxHeartbeats 4000000 in
set_option maxRecDepth 100000 in
theorem c_X6_mean (Z : GZ) (l : Launch) (t : Nat) (tr0 : Nat) (hq : Nat) (hi : Nat) (a : Nat → Nat) (hj : Nat) (hd : Nat) (w : Nat → Int32) (er : Nat → Int32) (fl : Nat → Int32) (me : Nat → Int32) (p : Nat → Int32) (pr : Nat → Int32) (d : Nat → Int32) (jc : Int32)  (o : (UInt32 × (Nat → Int32) × (Int32))) (hg : g_X6_mean w d jc = some o) : Con Z l yX6_mean cX6_mean 3 (some .float) rm_X6_mean [.ref t] (wT Z t (a 0) tr0 hj hq hi ++ (wP Z a w er fl me p pr ++ (wJ Z hj hd d jc))) (some (.float o.1)) (wT Z t (a 0) tr0 hj hq hi ++ (wP Z a w er fl me p pr ++ (wJ Z hj hd o.2.1 o.2.2))) := by
  refine Con.of (by decide) (Nat.le_of_ble_eq_true rfl) ?_
  intro X hE0
  have hE : ∀ z, z = o → endsX X Z (some .float) (some (.float z.1)) (wT Z t (a 0) tr0 hj hq hi ++ (wP Z a w er fl me p pr ++ (wJ Z hj hd z.2.1 z.2.2))) := by
    rintro _ rfl; exact hE0
  unfold g_X6_mean at hg
  show AtK X Z rm_X6_mean cX6_mean RX6 3 0 0 (wT Z t (a 0) tr0 hj hq hi ++ (wP Z a w er fl me p pr ++ (wJ Z hj hd d jc))) 0 [(0, .ref t)] []
  refine r_aload_n dX6_mean_0 0 rfl ?_
  refine gf_X6_2 (v := .ref hj) 0 rfl rfl qw_203 dX6_mean_1 ?_
  refine r_aload_n dX6_mean_4 0 rfl ?_
  refine gf_X6_0 (v := .ref (a 0)) 0 rfl rfl qw_201 dX6_mean_5 ?_
  refine gfN_X5_0 (v := .ref (a 1)) 1 rfl rfl qw_123 dX6_mean_8 ?_
  obtain ⟨o11, e11, hg⟩ := ob hg
  refine r_callV (As := [.ref (a 1)]) (rest := []) (ws' := wT Z t (a 0) tr0 hj hq hi ++ (wP Z a w er fl me p pr ++ (wJ Z hj hd o11.1 o11.2))) 0 rfl rfl rfl (fun l => c_X2_gather Z l hj hd (a 1) (a 2) (a 3) d jc w er fl  o11 e11) qw_481 mv_X2_gather (xPk.idx [7, 8, 2, 3, 4] rfl rfl rfl rfl rfl) ⟨Nat.le_of_ble_eq_true rfl, Nat.le_of_ble_eq_true rfl⟩ ⟨rfl, rfl⟩ ⟨Nat.zero_le _, Nat.zero_le _⟩ rfl (Nat.le_of_ble_eq_true rfl) rfl dX6_mean_11 ?_
  refine r_astore_n (lv' := [(1, .ref hj), (0, .ref t)]) dX6_mean_14 (by decide) rfl ?_
  refine r_aload_n dX6_mean_15 0 rfl ?_
  refine r_iconst (v := 0) dX6_mean_16 kic_0 ?_
  obtain ⟨o17, e17, hg⟩ := ob hg
  refine r_callV (As := [.int 0]) (rest := []) (ws' := wT Z t (a 0) tr0 hj hq hi ++ (wP Z a w er fl me p pr ++ (wJ Z hj hd o11.1 o11.2))) 0 rfl rfl rfl (fun l => c_X2_countOf Z l hj hd o11.1 o11.2 0 o17 e17) qw_497 mv_X2_countOf (xPk.idx [7, 8] rfl rfl rfl rfl rfl) ⟨Nat.le_of_ble_eq_true rfl, Nat.le_of_ble_eq_true rfl⟩ ⟨rfl, rfl⟩ ⟨Nat.zero_le _, Nat.zero_le _⟩ rfl (Nat.le_of_ble_eq_true rfl) rfl dX6_mean_17 ?_
  refine r_istore_n (lv' := [(2, .int o17), (1, .ref hj), (0, .ref t)]) dX6_mean_20 (by decide) rfl ?_
  refine r_iload_n dX6_mean_21 0 rfl ?_
  refine r_if_ne (tgt := 29) dX6_mean_22 (by decide) (fun h22 => ?_) (fun h22 => ?_)
  · replace hg := (if_neg h22).symm.trans hg
    refine r_aload_n dX6_mean_29 1 rfl ?_
    refine r_iconst (v := 0) dX6_mean_30 kic_0 ?_
    refine r_iconst (v := (-1)) dX6_mean_31 kic_m1 ?_
    obtain ⟨o32, e32, hg⟩ := ob hg
    refine r_callV (As := [.int 0, .int (-1)]) (rest := []) (ws' := wT Z t (a 0) tr0 hj hq hi ++ (wP Z a w er fl me p pr ++ (wJ Z hj hd o11.1 o11.2))) 0 rfl rfl rfl (fun l => c_X2_pricesOf Z l hj hd o11.1 o11.2 0 (-1) o32 e32) qw_514 mv_X2_pricesOf (xPk.idx [7, 8] rfl rfl rfl rfl rfl) ⟨Nat.le_of_ble_eq_true rfl, Nat.le_of_ble_eq_true rfl⟩ ⟨rfl, rfl⟩ ⟨Nat.zero_le _, Nat.zero_le _⟩ rfl (Nat.le_of_ble_eq_true rfl) rfl dX6_mean_32 ?_
    refine r_i2f dX6_mean_35 ?_
    refine r_iload_n dX6_mean_36 0 rfl ?_
    refine r_i2f dX6_mean_37 ?_
    obtain ⟨hf38, hg⟩ := og hg
    refine r_fdiv (Decidable.not_not.mp hf38) dX6_mean_38 ?_
    exact r_fret (hE _ (Option.some.inj hg)) dX6_mean_39
  · replace hg := (if_pos h22).symm.trans hg
    refine r_fconst0 dX6_mean_25 ?_
    refine r_goto (tgt := 39) dX6_mean_26 (by decide) ?_
    exact r_fret (hE _ (Option.some.inj hg)) dX6_mean_39

-- TicketJournalModel.mean()F
abbrev rm_X7_mean : Room := { frames := 6, cells := 0, slots := 0, locals := 136 }
def g_X7_mean_71 (m : Nat → Int32) (k10 : Int32 → Int32 → Int32 → (Nat → Int32) → (Nat → Int32) → (Nat → Int32) → Option (UInt32 × (Nat → Int32) × (Nat → Int32) × (Nat → Int32))) (x1 : Int32) (x3 : Int32) (t0 : Int32) (t1 : Int32) (rb : Nat → Int32) (rp : Nat → Int32) (mv : Nat → Int32) : Option (UInt32 × (Nat → Int32) × (Nat → Int32) × (Nat → Int32)) :=
  k10 x1 (t0 + t1) (x3 + 1) rb rp mv
def g_X7_mean_58 (m : Nat → Int32) (k10 : Int32 → Int32 → Int32 → (Nat → Int32) → (Nat → Int32) → (Nat → Int32) → Option (UInt32 × (Nat → Int32) × (Nat → Int32) × (Nat → Int32))) (x2 : Int32) (x3 : Int32) (x4 : Int32) (t0 : Int32) (t1 : Int32) (rb : Nat → Int32) (rp : Nat → Int32) (mv : Nat → Int32) : Option (UInt32 × (Nat → Int32) × (Nat → Int32) × (Nat → Int32)) :=
  (if x4 = 0 then g_X7_mean_71 m k10 (t0 + t1) x3 x2 0 rb rp mv else g_X7_mean_71 m k10 (t0 + t1) x3 x2 1 rb rp mv)
def g_X7_mean_36 (m : Nat → Int32) (k10 : Int32 → Int32 → Int32 → (Nat → Int32) → (Nat → Int32) → (Nat → Int32) → Option (UInt32 × (Nat → Int32) × (Nat → Int32) × (Nat → Int32))) (x1 : Int32) (x2 : Int32) (x3 : Int32) (t0 : Int32) (rb : Nat → Int32) (rp : Nat → Int32) (mv : Nat → Int32) : Option (UInt32 × (Nat → Int32) × (Nat → Int32) × (Nat → Int32)) :=
  (if t0 = 0 then g_X7_mean_58 m k10 x2 x3 t0 x1 0 rb rp mv else (g_X7_of m rb rp x3 2).bind fun o47 => g_X7_mean_58 m k10 x2 x3 t0 x1 (jrem o47 1000) rb rp mv)
def g_X7_mean_10 (m : Nat → Int32)  : Nat → Int32 → Int32 → Int32 → (Nat → Int32) → (Nat → Int32) → (Nat → Int32) → Option (UInt32 × (Nat → Int32) × (Nat → Int32) × (Nat → Int32))
  | 0 => fun _ _ _ _ _ _ => none
  | n + 1 => fun x1 x2 x3 rb rp mv => (if (mv 1) ≤ x3 then (if x2 = 0 then some (FP.fconst0, rb, rp, mv) else (if ¬ (FP.fdiv (FP.i2f x1) (FP.i2f x2) &&& 0x7fffffff ≤ 0x7f800000) then none else some ((FP.fdiv (FP.i2f x1) (FP.i2f x2)), rb, rp, mv))) else (g_X7_of m rb rp x3 0).bind fun o21 => (if (o21 / 10000) = 0 then g_X7_mean_36 m (g_X7_mean_10 m n) x1 x2 x3 1 rb rp mv else g_X7_mean_36 m (g_X7_mean_10 m n) x1 x2 x3 0 rb rp mv))
def g_X7_mean (m : Nat → Int32) (rb : Nat → Int32) (rp : Nat → Int32) (mv : Nat → Int32)  : Option (UInt32 × (Nat → Int32) × (Nat → Int32) × (Nat → Int32)) :=
  (g_X7_layRecords m rb rp mv).bind fun o1 => g_X7_mean_10 m 30 0 0 0 o1.1 o1.2.1 o1.2.2
set_option maxHeartbeats 4000000 in
set_option maxRecDepth 100000 in
theorem c_X7_mean (Z : GZ) (l : Launch) (a : Nat → Nat) (m : Nat → Int32) (ps : Nat → Int32) (im : Nat → Int32) (ik : Nat → Int32) (asd : Nat → Int32) (rb : Nat → Int32) (rp : Nat → Int32) (mv : Nat → Int32)  (o : (UInt32 × (Nat → Int32) × (Nat → Int32) × (Nat → Int32))) (hg : g_X7_mean m rb rp mv = some o) : Con Z l yX7_mean cX7_mean 5 (some .float) rm_X7_mean [.ref (a 0)] (wX Z a m ps im ik asd rb rp mv) (some (.float o.1)) (wX Z a m ps im ik asd o.2.1 o.2.2.1 o.2.2.2) := by
  refine Con.of (by decide) (Nat.le_of_ble_eq_true rfl) ?_
  intro X hE0
  have hE : ∀ z, z = o → endsX X Z (some .float) (some (.float z.1)) (wX Z a m ps im ik asd z.2.1 z.2.2.1 z.2.2.2) := by
    rintro _ rfl; exact hE0
  have J71 : ∀ (k10 : Int32 → Int32 → Int32 → (Nat → Int32) → (Nat → Int32) → (Nat → Int32) → Option (UInt32 × (Nat → Int32) × (Nat → Int32) × (Nat → Int32))) (hk10 : ∀ (x1 : Int32) (x2 : Int32) (x3 : Int32) (rb : Nat → Int32) (rp : Nat → Int32) (mv : Nat → Int32), k10 x1 x2 x3 rb rp mv = some o → AtK X Z rm_X7_mean cX7_mean RX7 5 0 0 (wX Z a m ps im ik asd rb rp mv) 10 [(0, .ref (a 0)), (1, .int x1), (2, .int x2), (3, .int x3)] []), ∀ (x1 : Int32) (x3 : Int32) (t0 : Int32) (t1 : Int32) (rb : Nat → Int32) (rp : Nat → Int32) (mv : Nat → Int32), g_X7_mean_71 m k10 x1 x3 t0 t1 rb rp mv = some o → AtK X Z rm_X7_mean cX7_mean RX7 5 0 0 (wX Z a m ps im ik asd rb rp mv) 71 [(0, .ref (a 0)), (1, .int x1), (3, .int x3)] [.int t1, .int t0] := by
    intro k10 hk10 x1 x3 t0 t1 rb rp mv hg
    unfold g_X7_mean_71 at hg
    refine r_iadd dX7_mean_71 ?_
    refine r_istore_n (lv' := [(2, .int (t0 + t1)), (0, .ref (a 0)), (1, .int x1), (3, .int x3)]) dX7_mean_72 (by decide) rfl ?_
    refine r_iinc (v := (x3 + 1)) (lv' := [(3, .int (x3 + 1)), (2, .int (t0 + t1)), (0, .ref (a 0)), (1, .int x1)]) dX7_mean_73 (k := 3) rfl rfl (by decide) rfl ?_
    refine r_goto (tgt := 10) dX7_mean_76 (by decide) ?_
    exact r_sub [2, 3, 1, 0] rfl (hk10 x1 (t0 + t1) (x3 + 1) rb rp mv hg)
  have J58 : ∀ (k10 : Int32 → Int32 → Int32 → (Nat → Int32) → (Nat → Int32) → (Nat → Int32) → Option (UInt32 × (Nat → Int32) × (Nat → Int32) × (Nat → Int32))) (hk10 : ∀ (x1 : Int32) (x2 : Int32) (x3 : Int32) (rb : Nat → Int32) (rp : Nat → Int32) (mv : Nat → Int32), k10 x1 x2 x3 rb rp mv = some o → AtK X Z rm_X7_mean cX7_mean RX7 5 0 0 (wX Z a m ps im ik asd rb rp mv) 10 [(0, .ref (a 0)), (1, .int x1), (2, .int x2), (3, .int x3)] []), ∀ (x2 : Int32) (x3 : Int32) (x4 : Int32) (t0 : Int32) (t1 : Int32) (rb : Nat → Int32) (rp : Nat → Int32) (mv : Nat → Int32), g_X7_mean_58 m k10 x2 x3 x4 t0 t1 rb rp mv = some o → AtK X Z rm_X7_mean cX7_mean RX7 5 0 0 (wX Z a m ps im ik asd rb rp mv) 58 [(0, .ref (a 0)), (2, .int x2), (3, .int x3), (4, .int x4)] [.int t1, .int t0] := by
    intro k10 hk10 x2 x3 x4 t0 t1 rb rp mv hg
    unfold g_X7_mean_58 at hg
    refine r_iadd dX7_mean_58 ?_
    refine r_istore_n (lv' := [(1, .int (t0 + t1)), (0, .ref (a 0)), (2, .int x2), (3, .int x3), (4, .int x4)]) dX7_mean_59 (by decide) rfl ?_
    refine r_iload_n dX7_mean_60 2 rfl ?_
    refine r_iload dX7_mean_61 4 rfl ?_
    refine r_if_eq (tgt := 70) dX7_mean_63 (by decide) (fun h63 => ?_) (fun h63 => ?_)
    · replace hg := (if_pos h63).symm.trans hg
      refine r_iconst (v := 0) dX7_mean_70 kic_0 ?_
      exact r_sub [1, 0, 3] rfl (J71 k10 hk10 (t0 + t1) x3 x2 0 rb rp mv hg)
    · replace hg := (if_neg h63).symm.trans hg
      refine r_iconst (v := 1) dX7_mean_66 kic_1 ?_
      refine r_goto (tgt := 71) dX7_mean_67 (by decide) ?_
      exact r_sub [1, 0, 3] rfl (J71 k10 hk10 (t0 + t1) x3 x2 1 rb rp mv hg)
  have J36 : ∀ (k10 : Int32 → Int32 → Int32 → (Nat → Int32) → (Nat → Int32) → (Nat → Int32) → Option (UInt32 × (Nat → Int32) × (Nat → Int32) × (Nat → Int32))) (hk10 : ∀ (x1 : Int32) (x2 : Int32) (x3 : Int32) (rb : Nat → Int32) (rp : Nat → Int32) (mv : Nat → Int32), k10 x1 x2 x3 rb rp mv = some o → AtK X Z rm_X7_mean cX7_mean RX7 5 0 0 (wX Z a m ps im ik asd rb rp mv) 10 [(0, .ref (a 0)), (1, .int x1), (2, .int x2), (3, .int x3)] []), ∀ (x1 : Int32) (x2 : Int32) (x3 : Int32) (t0 : Int32) (rb : Nat → Int32) (rp : Nat → Int32) (mv : Nat → Int32), g_X7_mean_36 m k10 x1 x2 x3 t0 rb rp mv = some o → AtK X Z rm_X7_mean cX7_mean RX7 5 0 0 (wX Z a m ps im ik asd rb rp mv) 36 [(0, .ref (a 0)), (1, .int x1), (2, .int x2), (3, .int x3)] [.int t0] := by
    intro k10 hk10 x1 x2 x3 t0 rb rp mv hg
    unfold g_X7_mean_36 at hg
    refine r_istore (lv' := [(4, .int t0), (0, .ref (a 0)), (1, .int x1), (2, .int x2), (3, .int x3)]) dX7_mean_36 (by decide) rfl ?_
    refine r_iload_n dX7_mean_38 2 rfl ?_
    refine r_iload dX7_mean_39 0 rfl ?_
    refine r_if_eq (tgt := 57) dX7_mean_41 (by decide) (fun h41 => ?_) (fun h41 => ?_)
    · replace hg := (if_pos h41).symm.trans hg
      refine r_iconst (v := 0) dX7_mean_57 kic_0 ?_
      exact r_sub [1, 3, 4, 0] rfl (J58 k10 hk10 x2 x3 t0 x1 0 rb rp mv hg)
    · replace hg := (if_neg h41).symm.trans hg
      refine r_aload_n dX7_mean_44 1 rfl ?_
      refine r_iload_n dX7_mean_45 4 rfl ?_
      refine r_iconst (v := 2) dX7_mean_46 kic_2 ?_
      obtain ⟨o47, e47, hg⟩ := ob hg
      refine r_callV (As := [.int x3, .int 2]) (rest := [.int x1]) (ws' := wX Z a m ps im ik asd rb rp mv) 0 rfl rfl rfl (fun l => c_X7_of Z l a m ps im ik asd rb rp mv x3 2 o47 e47) qw_790 mv_X7_of (xPk.all rfl) ⟨Nat.le_of_ble_eq_true rfl, Nat.le_of_ble_eq_true rfl⟩ ⟨rfl, rfl⟩ ⟨Nat.zero_le _, Nat.zero_le _⟩ rfl (Nat.le_of_ble_eq_true rfl) rfl dX7_mean_47 ?_
      refine r_sipush (v := 1000) dX7_mean_50 ksp_1000 ?_
      refine r_irem dX7_mean_53 (by decide) ?_
      refine r_goto (tgt := 58) dX7_mean_54 (by decide) ?_
      exact r_sub [1, 3, 4, 0] rfl (J58 k10 hk10 x2 x3 t0 x1 (jrem o47 1000) rb rp mv hg)
  have J10 : ∀ (n : Nat), ∀ (x1 : Int32) (x2 : Int32) (x3 : Int32) (rb : Nat → Int32) (rp : Nat → Int32) (mv : Nat → Int32), g_X7_mean_10 m n x1 x2 x3 rb rp mv = some o → AtK X Z rm_X7_mean cX7_mean RX7 5 0 0 (wX Z a m ps im ik asd rb rp mv) 10 [(0, .ref (a 0)), (1, .int x1), (2, .int x2), (3, .int x3)] [] := by
    intro  n
    induction n with
    | zero => intro x1 x2 x3 rb rp mv hg; exact nomatch (show (none : Option _) = some o from hg)
    | succ n ih =>
      intro x1 x2 x3 rb rp mv hg
      unfold g_X7_mean_10 at hg
      refine r_iload_n dX7_mean_10 3 rfl ?_
      refine r_aload_n dX7_mean_11 0 rfl ?_
      refine gf_X7_8 (v := .int (mv 1)) 0 rfl rfl qw_594 dX7_mean_12 ?_
      refine r_icmp_ge (tgt := 79) dX7_mean_15 (by decide) (fun h15 => ?_) (fun h15 => ?_)
      · replace hg := (if_pos h15).symm.trans hg
        refine r_iload_n dX7_mean_79 2 rfl ?_
        refine r_if_ne (tgt := 87) dX7_mean_80 (by decide) (fun h80 => ?_) (fun h80 => ?_)
        · replace hg := (if_neg h80).symm.trans hg
          refine r_iload_n dX7_mean_87 1 rfl ?_
          refine r_i2f dX7_mean_88 ?_
          refine r_iload_n dX7_mean_89 2 rfl ?_
          refine r_i2f dX7_mean_90 ?_
          obtain ⟨hf91, hg⟩ := og hg
          refine r_fdiv (Decidable.not_not.mp hf91) dX7_mean_91 ?_
          exact r_fret (hE _ (Option.some.inj hg)) dX7_mean_92
        · replace hg := (if_pos h80).symm.trans hg
          refine r_fconst0 dX7_mean_83 ?_
          refine r_goto (tgt := 92) dX7_mean_84 (by decide) ?_
          exact r_fret (hE _ (Option.some.inj hg)) dX7_mean_92
      · replace hg := (if_neg h15).symm.trans hg
        refine r_aload_n dX7_mean_18 0 rfl ?_
        refine r_iload_n dX7_mean_19 3 rfl ?_
        refine r_iconst (v := 0) dX7_mean_20 kic_0 ?_
        obtain ⟨o21, e21, hg⟩ := ob hg
        refine r_callV (As := [.int x3, .int 0]) (rest := []) (ws' := wX Z a m ps im ik asd rb rp mv) 0 rfl rfl rfl (fun l => c_X7_of Z l a m ps im ik asd rb rp mv x3 0 o21 e21) qw_790 mv_X7_of (xPk.all rfl) ⟨Nat.le_of_ble_eq_true rfl, Nat.le_of_ble_eq_true rfl⟩ ⟨rfl, rfl⟩ ⟨Nat.zero_le _, Nat.zero_le _⟩ rfl (Nat.le_of_ble_eq_true rfl) rfl dX7_mean_21 ?_
        refine r_sipush (v := 10000) dX7_mean_24 ksp_10000 ?_
        refine r_idiv dX7_mean_27 (by decide) ?_
        refine r_if_ne (tgt := 35) dX7_mean_28 (by decide) (fun h28 => ?_) (fun h28 => ?_)
        · replace hg := (if_neg h28).symm.trans hg
          refine r_iconst (v := 0) dX7_mean_35 kic_0 ?_
          exact r_sub [0, 1, 2, 3] rfl (J36 (g_X7_mean_10 m n) ih x1 x2 x3 0 rb rp mv hg)
        · replace hg := (if_pos h28).symm.trans hg
          refine r_iconst (v := 1) dX7_mean_31 kic_1 ?_
          refine r_goto (tgt := 36) dX7_mean_32 (by decide) ?_
          exact r_sub [0, 1, 2, 3] rfl (J36 (g_X7_mean_10 m n) ih x1 x2 x3 1 rb rp mv hg)
  unfold g_X7_mean at hg
  show AtK X Z rm_X7_mean cX7_mean RX7 5 0 0 (wX Z a m ps im ik asd rb rp mv) 0 [(0, .ref (a 0))] []
  refine r_aload_n dX7_mean_0 0 rfl ?_
  obtain ⟨o1, e1, hg⟩ := ob hg
  refine r_callV (As := []) (rest := []) (ws' := wX Z a m ps im ik asd o1.1 o1.2.1 o1.2.2) 0 rfl rfl rfl (fun l => c_X7_layRecords Z l a m ps im ik asd rb rp mv  o1 e1) qw_782 mv_X7_layRecords (xPk.all rfl) ⟨Nat.le_of_ble_eq_true rfl, Nat.le_of_ble_eq_true rfl⟩ ⟨rfl, rfl⟩ ⟨Nat.zero_le _, Nat.zero_le _⟩ rfl (Nat.le_of_ble_eq_true rfl) rfl dX7_mean_1 ?_
  refine r_iconst (v := 0) dX7_mean_4 kic_0 ?_
  refine r_istore_n (lv' := [(1, .int 0), (0, .ref (a 0))]) dX7_mean_5 (by decide) rfl ?_
  refine r_iconst (v := 0) dX7_mean_6 kic_0 ?_
  refine r_istore_n (lv' := [(2, .int 0), (1, .int 0), (0, .ref (a 0))]) dX7_mean_7 (by decide) rfl ?_
  refine r_iconst (v := 0) dX7_mean_8 kic_0 ?_
  refine r_istore_n (lv' := [(3, .int 0), (2, .int 0), (1, .int 0), (0, .ref (a 0))]) dX7_mean_9 (by decide) rfl ?_
  exact r_sub [3, 2, 1, 0] rfl (J10 30 0 0 0 o1.1 o1.2.1 o1.2.2 hg)

-- floats: rows, and the two means (laid by wip/genp/run2.py)
section KF
variable {X : CX} {Z : GZ} {R : Room} {cc : ByteArray} {own : String} {nL kc ks : Nat} {ws : va_W} {pc : Nat} {lv : List (Nat × Value)} {st : List Value}
theorem r_fconst0 (d : decode cc pc = .ok (.fconst 0, 1)) (kk : AtK X Z R cc own nL kc ks ws (pc + 1) lv (.float FP.fconst0 :: st)) : AtK X Z R cc own nL kc ks ws pc lv st := by
  obtain ⟨p, l, e, s, m, args, below, meth, c, Q, A, H0⟩ := X
  intro hok H locs ls hP hD hS hl
  obtain ⟨hx, hb, hts, hown, ⟨hK, hN⟩, hml⟩ := id hok
  exact lv_fconst0 hx hb d (kk hok H locs ls hP hD hS hl)
theorem r_i2f {x : Int32} (d : decode cc pc = .ok (.i2f, 1)) (kk : AtK X Z R cc own nL kc ks ws (pc + 1) lv (.float (FP.i2f x) :: st)) : AtK X Z R cc own nL kc ks ws pc lv (.int x :: st) := by
  obtain ⟨p, l, e, s, m, args, below, meth, c, Q, A, H0⟩ := X
  intro hok H locs ls hP hD hS hl
  obtain ⟨hx, hb, hts, hown, ⟨hK, hN⟩, hml⟩ := id hok
  exact lv_i2f hx hb d (kk hok H locs ls hP hD hS hl)
theorem r_fdiv {x y : UInt32} (hne : FP.fdiv x y &&& 0x7fffffff ≤ 0x7f800000) (d : decode cc pc = .ok (.fdiv, 1)) (kk : AtK X Z R cc own nL kc ks ws (pc + 1) lv (.float (FP.fdiv x y) :: st)) : AtK X Z R cc own nL kc ks ws pc lv (.float y :: .float x :: st) := by
  obtain ⟨p, l, e, s, m, args, below, meth, c, Q, A, H0⟩ := X
  intro hok H locs ls hP hD hS hl
  obtain ⟨hx, hb, hts, hown, ⟨hK, hN⟩, hml⟩ := id hok
  exact lv_fdiv hx hb d hne (kk hok H locs ls hP hD hS hl)
theorem r_fret {x : UInt32} (hE : endsX X Z (some .float) (some (.float x)) ws) (d : decode cc pc = .ok (.freturn, 1)) : AtK X Z R cc own nL 0 0 ws pc lv [.float x] := by
  obtain ⟨p, l, e, s, m, args, below, meth, c, Q, A, H0⟩ := X
  intro hok H locs ls hP hD hS hl
  obtain ⟨hx, hb, hts, hown, ⟨hK, hN⟩, hml⟩ := id hok
  obtain ⟨hr, hlk, rfl, rfl⟩ := hE
  exact W.fret hx hb hr (fun t ht hW => ⟨⟨rfl, by rw [ht]; exact hP⟩, hS.F ht⟩) hS.2.2 d hlk
end KF

-- TicketJournal.mean()F
abbrev rm_X6_mean : Room := { frames := 5, cells := 0, slots := 0, locals := 118 }
def g_X6_mean (w : Nat → Int32) (d : Nat → Int32) (jc : Int32)  : Option (UInt32 × (Nat → Int32) × (Int32)) :=
  (g_X2_gather d jc w).bind fun o11 => (g_X2_countOf o11.1 o11.2 0).bind fun o17 => (if o17 = 0 then some (FP.fconst0, o11.1, o11.2) else (g_X2_pricesOf o11.1 o11.2 0 (-1)).bind fun o32 => (if ¬ (FP.fdiv (FP.i2f o32) (FP.i2f o17) &&& 0x7fffffff ≤ 0x7f800000) then none else some ((FP.fdiv (FP.i2f o32) (FP.i2f o17)), o11.1, o11.2)))
set_option maxHeartbeats 4000000 in
set_option maxRecDepth 100000 in
theorem c_X6_mean (Z : GZ) (l : Launch) (t : Nat) (tr0 : Nat) (hq : Nat) (hi : Nat) (a : Nat → Nat) (hj : Nat) (hd : Nat) (w : Nat → Int32) (er : Nat → Int32) (fl : Nat → Int32) (me : Nat → Int32) (p : Nat → Int32) (pr : Nat → Int32) (d : Nat → Int32) (jc : Int32)  (o : (UInt32 × (Nat → Int32) × (Int32))) (hg : g_X6_mean w d jc = some o) : Con Z l yX6_mean cX6_mean 3 (some .float) rm_X6_mean [.ref t] (wT Z t (a 0) tr0 hj hq hi ++ (wP Z a w er fl me p pr ++ (wJ Z hj hd d jc))) (some (.float o.1)) (wT Z t (a 0) tr0 hj hq hi ++ (wP Z a w er fl me p pr ++ (wJ Z hj hd o.2.1 o.2.2))) := by
  refine Con.of (by decide) (Nat.le_of_ble_eq_true rfl) ?_
  intro X hE0
  have hE : ∀ z, z = o → endsX X Z (some .float) (some (.float z.1)) (wT Z t (a 0) tr0 hj hq hi ++ (wP Z a w er fl me p pr ++ (wJ Z hj hd z.2.1 z.2.2))) := by
    rintro _ rfl; exact hE0
  unfold g_X6_mean at hg
  show AtK X Z rm_X6_mean cX6_mean RX6 3 0 0 (wT Z t (a 0) tr0 hj hq hi ++ (wP Z a w er fl me p pr ++ (wJ Z hj hd d jc))) 0 [(0, .ref t)] []
  refine r_aload_n dX6_mean_0 0 rfl ?_
  refine gf_X6_2 (v := .ref hj) 0 rfl rfl qw_177 dX6_mean_1 ?_
  refine r_aload_n dX6_mean_4 0 rfl ?_
  refine gf_X6_0 (v := .ref (a 0)) 0 rfl rfl qw_175 dX6_mean_5 ?_
  refine gfN_X5_0 (v := .ref (a 1)) 1 rfl rfl qw_97 dX6_mean_8 ?_
  obtain ⟨o11, e11, hg⟩ := ob hg
  refine r_callV (As := [.ref (a 1)]) (rest := []) (ws' := wT Z t (a 0) tr0 hj hq hi ++ (wP Z a w er fl me p pr ++ (wJ Z hj hd o11.1 o11.2))) 0 rfl rfl rfl (fun l => c_X2_gather Z l hj hd (a 1) (a 2) (a 3) d jc w er fl  o11 e11) qw_466 mv_X2_gather (xPk.idx [7, 8, 2, 3, 4] rfl rfl rfl rfl rfl) ⟨Nat.le_of_ble_eq_true rfl, Nat.le_of_ble_eq_true rfl⟩ ⟨rfl, rfl⟩ ⟨Nat.zero_le _, Nat.zero_le _⟩ rfl (Nat.le_of_ble_eq_true rfl) rfl dX6_mean_11 ?_
  refine r_astore_n (lv' := [(1, .ref hj), (0, .ref t)]) dX6_mean_14 (by decide) rfl ?_
  refine r_aload_n dX6_mean_15 0 rfl ?_
  refine r_iconst (v := 0) dX6_mean_16 kic_0 ?_
  obtain ⟨o17, e17, hg⟩ := ob hg
  refine r_callV (As := [.int 0]) (rest := []) (ws' := wT Z t (a 0) tr0 hj hq hi ++ (wP Z a w er fl me p pr ++ (wJ Z hj hd o11.1 o11.2))) 0 rfl rfl rfl (fun l => c_X2_countOf Z l hj hd o11.1 o11.2 0 o17 e17) qw_482 mv_X2_countOf (xPk.idx [7, 8] rfl rfl rfl rfl rfl) ⟨Nat.le_of_ble_eq_true rfl, Nat.le_of_ble_eq_true rfl⟩ ⟨rfl, rfl⟩ ⟨Nat.zero_le _, Nat.zero_le _⟩ rfl (Nat.le_of_ble_eq_true rfl) rfl dX6_mean_17 ?_
  refine r_istore_n (lv' := [(2, .int o17), (1, .ref hj), (0, .ref t)]) dX6_mean_20 (by decide) rfl ?_
  refine r_iload_n dX6_mean_21 0 rfl ?_
  refine r_if_ne (tgt := 29) dX6_mean_22 (by decide) (fun h22 => ?_) (fun h22 => ?_)
  · replace hg := (if_neg h22).symm.trans hg
    refine r_aload_n dX6_mean_29 1 rfl ?_
    refine r_iconst (v := 0) dX6_mean_30 kic_0 ?_
    refine r_iconst (v := (-1)) dX6_mean_31 kic_m1 ?_
    obtain ⟨o32, e32, hg⟩ := ob hg
    refine r_callV (As := [.int 0, .int (-1)]) (rest := []) (ws' := wT Z t (a 0) tr0 hj hq hi ++ (wP Z a w er fl me p pr ++ (wJ Z hj hd o11.1 o11.2))) 0 rfl rfl rfl (fun l => c_X2_pricesOf Z l hj hd o11.1 o11.2 0 (-1) o32 e32) qw_514 mv_X2_pricesOf (xPk.idx [7, 8] rfl rfl rfl rfl rfl) ⟨Nat.le_of_ble_eq_true rfl, Nat.le_of_ble_eq_true rfl⟩ ⟨rfl, rfl⟩ ⟨Nat.zero_le _, Nat.zero_le _⟩ rfl (Nat.le_of_ble_eq_true rfl) rfl dX6_mean_32 ?_
    refine r_i2f dX6_mean_35 ?_
    refine r_iload_n dX6_mean_36 0 rfl ?_
    refine r_i2f dX6_mean_37 ?_
    obtain ⟨hf38, hg⟩ := og hg
    refine r_fdiv (Decidable.not_not.mp hf38) dX6_mean_38 ?_
    exact r_fret (hE _ (Option.some.inj hg)) dX6_mean_39
  · replace hg := (if_pos h22).symm.trans hg
    refine r_fconst0 dX6_mean_25 ?_
    refine r_goto (tgt := 39) dX6_mean_26 (by decide) ?_
    exact r_fret (hE _ (Option.some.inj hg)) dX6_mean_39

-- two printers that were handled alike are alike; the numbers of the script
section LA
variable {D D2 : TD} {m : Row} {hs hs2 : List Row} {im im2 : Nat → Option Row} {B S k : Nat}
theorem fc_self {x : UInt32} (h : FP.Core.fIsNaN x = false) : Op.cmpValue (FP.fcmp x x) .l = 0 := by
  rw [show FP.fcmp x x = some .eq from FP.Core.fcmp_self ((FP.Core.notNaN_iff32 _).mp h)]
  rfl
theorem a20 (h : RO D m hs im) (h2 : RO D2 m hs2 im2) : ∀ (d j n : Nat), j + d = 12 → d < n → g_L_areAlike_20 n 1 (nI j) D D2 = g_L_areAlike_57 30 1 0 D D2 := by
  intro d
  induction d with
  | zero =>
    intro j n hj hn
    obtain ⟨n, rfl⟩ : ∃ i, n = i + 1 := ⟨n - 1, by omega⟩
    have hj : j = 12 := by omega
    subst hj
    simp only [g_L_areAlike_20]
    rw [if_pos (show (12 : Int32) ≤ nI 12 by decide)]
  | succ d ih =>
    intro j n hj hn
    obtain ⟨n, rfl⟩ : ∃ i, n = i + 1 := ⟨n - 1, by omega⟩
    simp only [g_L_areAlike_20]
    rw [if_neg (show ¬ (12 : Int32) ≤ nI j from nI_ge (a := j) (b := 12) (by omega) (by decide)), if_neg i1ne, O_told h (by omega), O_told h2 (by omega), Option.bind_some, Option.bind_some, if_pos rfl]
    unfold g_L_areAlike_48
    rw [nI_s]
    exact ih (j + 1) n (by omega) (by omega)
theorem a65 (h : RO D m hs im) (h2 : RO D2 m hs2 im2) {b : Nat} (hb : b < 5) {k57 : Int32 → Int32 → TD → TD → Option (Int32 × TD × TD)} : ∀ (d k n : Nat), k + d = 22 → d < n → g_L_areAlike_65 k57 n 1 (nI b) (nI k) D D2 = k57 1 (nI (b + 1)) D D2 := by
  intro d
  induction d with
  | zero =>
    intro k n hk hn
    obtain ⟨n, rfl⟩ : ∃ i, n = i + 1 := ⟨n - 1, by omega⟩
    have hk : k = 22 := by omega
    subst hk
    simp only [g_L_areAlike_65]
    rw [if_pos (show (22 : Int32) ≤ nI 22 by decide), nI_s]
  | succ d ih =>
    intro k n hk hn
    obtain ⟨n, rfl⟩ : ∃ i, n = i + 1 := ⟨n - 1, by omega⟩
    simp only [g_L_areAlike_65]
    rw [if_neg (show ¬ (22 : Int32) ≤ nI k from nI_ge (a := k) (b := 22) (by omega) (by decide)), if_neg i1ne, O_word h hb (by omega), O_word h2 hb (by omega), Option.bind_some, Option.bind_some, if_pos rfl]
    unfold g_L_areAlike_98
    rw [nI_s]
    exact ih (k + 1) n (by omega) (by omega)
theorem a57 (h : RO D m hs im) (h2 : RO D2 m hs2 im2) : ∀ (d b n : Nat), b + d = 5 → d < n → g_L_areAlike_57 n 1 (nI b) D D2 = some (1, D, D2) := by
  intro d
  induction d with
  | zero =>
    intro b n hb hn
    obtain ⟨n, rfl⟩ : ∃ i, n = i + 1 := ⟨n - 1, by omega⟩
    have hb : b = 5 := by omega
    subst hb
    simp only [g_L_areAlike_57]
    rw [if_pos (show (5 : Int32) ≤ nI 5 by decide), if_neg (by simp)]
  | succ d ih =>
    intro b n hb hn
    obtain ⟨n, rfl⟩ : ∃ i, n = i + 1 := ⟨n - 1, by omega⟩
    simp only [g_L_areAlike_57]
    rw [if_neg (n5_le (by omega))]
    refine (a65 h h2 (by omega) 22 0 30 (by decide) (by decide)).trans ?_
    exact ih (b + 1) n (by omega) (by omega)
theorem alF (h : RO D m hs im) (h2 : RO D2 m hs2 im2) : ∃ (D' D2' : TD), g_L_areAlike D D2 = some (1, D', D2') := by
  obtain ⟨B, S, k, hI⟩ := h.fi
  obtain ⟨D3, a1, a2⟩ := O_mean h hI
  obtain ⟨D4, b1, b2⟩ := O_mean h2 hI
  unfold g_L_areAlike
  rw [a1, b1, Option.bind_some, Option.bind_some]
  dsimp only
  rw [if_pos (fc_self mnv_ok)]
  unfold g_L_areAlike_17
  exact ⟨D3, D4, (a20 a2 b2 12 0 30 (by decide) (by decide)).trans (a57 a2 b2 5 0 30 (by decide) (by decide))⟩
end LA
/-- a contract of a method that reads the script alone -/
def ConS (Z : GZ) (l : Launch) (y : MethodName) (c : ByteArray) (n : Nat) (ret : Option FieldType) (rm : Room) (av : List Value) (b L : Nat) (xs : Nat → Int32) (v : Value) : Prop := Met l y (wsY y c n ret) rm (va_Pc av (fun U => Kx Z U ∧ va_X b L xs U U.heap ∧ b < U.heap.size)) (xQ Z (some v) [] (xA ([] : va_W))) 0 0 (xA ([] : va_W))
theorem xA_nil (q : Nat) : ¬ xA ([] : va_W) q := by
  rintro ⟨k, e, hk⟩
  simp at hk
theorem ConS.of {Z : GZ} {l : Launch} {y : MethodName} {c : ByteArray} {n : Nat} {ret : Option FieldType} {rm : Room} {av : List Value} {b L : Nat} {xs : Nat → Int32} {v : Value} (hy : plainName y.cls = true) (hn : (lg_sl av).length ≤ n)
    (body : ∀ X : CX, endsX X Z ret (some v) [] → scrX X b L xs → AtK X Z rm c y.cls n 0 0 [] 0 (lv_args 0 av) []) : ConS Z l y c n ret rm av b L xs v := by
  refine Met.ofW (cc := c) (maxL := n) (ret := ret) hy rfl ?_
  intro p e s m args below meth cd s₁ B hml hv
  obtain ⟨rfl, hK, hX, hb⟩ := hv
  have hts := atoms_spec (ws := wsY y c n ret) B.pre
  have hown : s.vm.findClass y.cls = some m.cls := findClass_of_methodNamed B.named
  have hl := lv_entry av hn
  rw [lg_entry_eq]
  exact body (p, l, e, s, m, av.toArray, below, meth, cd, _, xA [], s.heap) ⟨B.returns, B.notSynchronized, rfl, rfl⟩ ⟨hX, hb, xA_nil b⟩ ⟨B.exec, B.bytes, fun w h => hts w (List.mem_cons_of_mem _ h), hown, hK, hml⟩ s.heap [] _ (fun k q h => by simp at h) ⟨fun i j p q h => by simp at h, fun k q h => by simp at h⟩ va_S.rf hl
section KC
variable {X : CX} {Z : GZ} {R : Room} {cc : ByteArray} {own : String} {nL kc ks : Nat} {ws : va_W} {pc : Nat} {lv : List (Nat × Value)} {st : List Value}
theorem r_callC {y : MethodName} {bytes : ByteArray} {maxL n ix : Nat} {ret : Option FieldType} {rm : Room} {As rest : List Value} {v : Value} {b L : Nat} {xs : Nat → Int32} (hM : ∀ l, ConS Z l y bytes maxL ret rm As b L xs v) (hX : scrX X b L xs) (q : Cond.methodLink own ix y ∈ lw_tb) (mo : mSo y bytes maxL n ret) (hR : rm.frames + 1 ≤ R.frames ∧ 8 + (maxL + 11) + rm.locals ≤ R.locals) (hrm : rm.cells = 0 ∧ rm.slots = 0) (hkc : kc ≤ R.cells ∧ ks ≤ R.slots) (hAs : As.length = n) (hroom : (rest.map fun v => v.category).sum ≤ 8) (hst : st = As.reverse ++ rest) (d : decode cc pc = .ok (.invokestatic ix, 3)) (kk : AtK X Z R cc own nL kc ks ws (pc + 3) lv (v :: rest)) : AtK X Z R cc own nL kc ks ws pc lv st := by
  obtain ⟨p, l, e, s, m, args, below, meth, c, Q, A, H0⟩ := X
  intro hok H locs ls hP hD hS hl
  obtain ⟨hx, hb, hts, hown, ⟨hK, hN⟩, hml⟩ := id hok
  obtain ⟨x1, x2, x3⟩ := hX
  subst hst
  have hpre : ∀ U : State, U.heap = H → s.WarmedH U.vm → va_Pc As (fun U => Kx Z U ∧ va_X b L xs U U.heap ∧ b < U.heap.size) As.toArray U := by
    intro U hU hW
    refine ⟨rfl, ⟨va_K.moved hW.alike hK, fun w hw => ns_warm hw hW (hN w hw)⟩, ?_, ?_⟩
    · rw [hU]
      exact (x1.kept (hS.2.1 b x2 x3)).moved hW.alike
    · rw [hU]
      exact Nat.lt_of_lt_of_le x2 hS.1
  have hbl : FrameBlind (va_Pc As (fun U => Kx Z U ∧ va_X b L xs U U.heap ∧ b < U.heap.size)) := fun a U g mk q => by
    obtain ⟨q0, qK, qX, qb⟩ := q
    exact ⟨q0, ⟨va_K.moved (u := U) (U := U.calling g mk a) (Vm.Alike.refl U.vm) qK.1, fun w hw => va_Nw.same (ns_on hw) (u := U) (U := U.calling g mk a) rfl (qK.2 w hw)⟩, va_X.moved (u := U) (U := U.calling g mk a) (Vm.Alike.refl U.vm) qX, qb⟩
  exact x_call (va_runS ⟨hx, hb, hml, hown, hts⟩ (hM l) (⟨callB_of n hts (lw_GoodIn mo.2.2.1) rfl hrm.1 hrm.2 (hts _ mo.2.1) (hts _ q) mo.2.2.2 hR, hts _ mo.1⟩) ⟨hbl, hpre⟩ rfl hAs hl.1 rfl (lv_room hroom) d ⟨hkc.1, hkc.2⟩) hP hD hS xPk.none (fun H1 locs1 hP1 hD1 hS1 => kk hok H1 locs1 ls hP1 hD1 hS1 hl)
end KC
theorem qw_205 : Cond.constant RL 7 747796405 ∈ lw_tb := lw_up (List.mem_of_getElem? (i := 205) (by decide +kernel)) rfl
def clv (L : Nat) (xs : Nat → Int32) (j : Nat) : Int32 := if j < L then xs j else 747796405 * (nI j + 1)
abbrev rm_L_cell : Room := { frames := 0, cells := 0, slots := 0, locals := 0 }
set_option maxHeartbeats 1000000 in
theorem c_L_cell (Z : GZ) (l : Launch) (b L : Nat) (xs : Nat → Int32) (hL : L ≤ 260) (j : Nat) (hj : j < 1000) : ConS Z l yL_cell cL_cell 2 (some .int) rm_L_cell [.ref b, .int (nI j)] b L xs (.int (clv L xs j)) := by
  refine ConS.of (by decide) (Nat.le_of_ble_eq_true rfl) ?_
  intro X hE hX
  show AtK X Z rm_L_cell cL_cell RL 2 0 0 [] 0 [(0, .ref b), (1, .int (nI j))] []
  refine r_iload_n dL_cell_0 1 rfl ?_
  refine r_aload_n dL_cell_1 0 rfl ?_
  refine r_slen hX dL_cell_2 ?_
  refine r_icmp_ge (tgt := 12) dL_cell_3 (by decide) (fun h => ?_) (fun h => ?_)
  · have hn : ¬ j < L := fun z => nI_ge (a := j) (b := L) z (by omega) h
    unfold clv at hE
    rw [if_neg hn] at hE
    refine r_ldc qw_205 dL_cell_12 ?_
    refine r_iload_n dL_cell_14 1 rfl ?_
    refine r_iconst (v := 1) dL_cell_15 kic_1 ?_
    refine r_iadd dL_cell_16 ?_
    refine r_imul dL_cell_17 ?_
    exact r_iret hE dL_cell_18
  · have hn : j < L := Nat.lt_of_not_le (fun z => h (nI_le (a := L) (b := j) z (by omega)))
    unfold clv at hE
    rw [if_pos hn] at hE
    refine r_aload_n dL_cell_6 0 rfl ?_
    refine r_iload_n dL_cell_7 1 rfl ?_
    refine r_sld hX (j := j) (nI_clamp (by omega)) (cond_nI hn (by omega)) dL_cell_8 ?_
    refine r_goto (tgt := 18) dL_cell_9 (by decide) ?_
    exact r_iret hE dL_cell_18

-- constructors: rows that make cells, and what a constructor promises
def aoB (U : State) : Prop := va_AO RX5 U ∧ va_AO RX1 U
def newX (X : CX) : Prop := match X with
  | (_, _, _, s, _, _, _, _, _, _, A, H0) => (∀ q, H0.size ≤ q → A q) ∧ aoB s
def nmX (X : CX) : Prop := match X with
  | (_, _, _, _, _, _, _, meth, _, _, _, _) => meth.name = "<init>"
def xQN (Z : GZ) (P : va_W → Prop) (A : Nat → Prop) : Array Value → State → Outcome → State → Prop := fun _ st oc t => (oc = .returned none ∧ ∃ nw, P nw ∧ va_P Z.1 vwCl nw t.heap ∧ va_D A nw) ∧ va_F A st t
/-- a constructor's contract: the new object stands alone; behind it stand cells that P knows, all of them new but the object's own -/
def ConN (Z : GZ) (l : Launch) (y : MethodName) (c : ByteArray) (n : Nat) (rm : Room) (av : List Value) (ws : va_W) (mc ms : Nat) (P : va_W → Prop) : Prop := ∀ sz : Nat, Met l y (wsY y c n none) rm (va_Pc av (fun U => U.heap.size = sz ∧ aoB U ∧ xPre Z ws U)) (xQN Z P (va_A ws sz)) mc ms (va_A ws sz)
def endsN (X : CX) (Z : GZ) (mc ms : Nat) (P : va_W → Prop) : Prop := match X with
  | (_, _, _, s, _, args, below, meth, _, Q, A, H0) => meth.sig.returnType = none ∧ meth.locks = false ∧ H0 = s.heap ∧ Q = MQ below (xQN Z P A) args s mc ms A
theorem ConN.of {Z : GZ} {l : Launch} {y : MethodName} {c : ByteArray} {n : Nat} {rm : Room} {av : List Value} {ws : va_W} {mc ms : Nat} {P : va_W → Prop} (hy : plainName y.cls = true) (hi : y.name = "<init>") (hn : (lg_sl av).length ≤ n)
    (body : ∀ X : CX, newX X → nmX X → endsN X Z mc ms P → AtK X Z rm c y.cls n 0 0 ws 0 (lv_args 0 av) []) : ConN Z l y c n rm av ws mc ms P := by
  intro sz
  refine Met.ofW (cc := c) (maxL := n) (ret := none) hy rfl ?_
  intro p e s m args below meth cd s₁ B hml hv
  obtain ⟨rfl, hsz, hao, hP, hK, hD0⟩ := hv
  have hts := atoms_spec (ws := wsY y c n none) B.pre
  have hown : s.vm.findClass y.cls = some m.cls := findClass_of_methodNamed B.named
  have hl := lv_entry av hn
  have hin : meth.name = "<init>" := (name_of_methodNamed B.named B.method).1.trans hi
  rw [lg_entry_eq]
  subst hsz
  have hD : va_D (va_A ws s.heap.size) ws := hD0.self
  exact body (p, l, e, s, m, av.toArray, below, meth, cd, _, va_A ws s.heap.size, s.heap) ⟨fun q h => Or.inr h, hao⟩ hin ⟨B.returns, B.notSynchronized, rfl, rfl⟩ ⟨B.exec, B.bytes, fun w h => hts w (List.mem_cons_of_mem _ h), hown, hK, hml⟩ s.heap [] _ hP hD va_S.rf hl
section KT9
variable {X : CX} {Z : GZ} {R : Room} {cc : ByteArray} {own : String} {nL kc ks : Nat} {ws : va_W} {pc : Nat} {lv : List (Nat × Value)} {st : List Value}
theorem r_vretN {mc ms : Nat} {P : va_W → Prop} (hE : endsN X Z mc ms P) (hw : P ws) (h1 : kc ≤ mc) (h2 : ks ≤ ms) (d : decode cc pc = .ok (.return_, 1)) : AtK X Z R cc own nL kc ks ws pc lv [] := by
  obtain ⟨p, l, e, s, m, args, below, meth, c, Q, A, H0⟩ := X
  intro hok H locs ls hP hD hS hl
  obtain ⟨hx, hb, hts, hown, ⟨hK, hN⟩, hml⟩ := id hok
  obtain ⟨hr, hlk, rfl, rfl⟩ := hE
  refine W.widen (k := mc) (n := ms) h1 h2 ?_
  exact W.vret hx hb hr (fun t ht hW => ⟨⟨rfl, ws, hw, by rw [ht]; exact hP, hD⟩, hS.F ht⟩) hS.2.2 d hlk
theorem r_wid {k n : Nat} (h1 : kc ≤ k) (h2 : ks ≤ n) (kk : AtK X Z R cc own nL k n ws pc lv st) : AtK X Z R cc own nL kc ks ws pc lv st := by
  obtain ⟨p, l, e, s, m, args, below, meth, c, Q, A, H0⟩ := X
  intro hok H locs ls hP hD hS hl
  exact W.widen (k := k) (n := n) h1 h2 (kk hok H locs ls hP hD hS hl)
theorem r_obj {a ix : Nat} (q1 : Cond.methodLink own ix objectInit ∈ lw_tb) (q2 : Cond.instanceMethod objectInit ∈ lw_tb) (q3 : Cond.code objectInit ⟨#[0xb1]⟩ 1 none ∈ lw_tb) (h1 : 1 ≤ R.frames) (h2 : (st.map fun v => v.category).sum + 12 ≤ R.locals) (d : decode cc pc = .ok (.invokespecial ix, 3)) (kk : AtK X Z R cc own nL kc ks ws (pc + 3) lv st) : AtK X Z R cc own nL kc ks ws pc lv (.ref a :: st) := by
  obtain ⟨p, l, e, s, m, args, below, meth, c, Q, A, H0⟩ := X
  intro hok H locs ls hP hD hS hl
  obtain ⟨hx, hb, hts, hown, ⟨hK, hN⟩, hml⟩ := id hok
  refine W.objInit hx hb hown (hts _ q1) (hts _ q2) (hts _ q3) rfl (by rw [hml]; exact hl.1) rfl d h1 (Nat.le_trans (by show 2 * 0 + _ + 12 ≤ _; omega) h2) ?_
  exact kk hok H locs ls hP hD hS hl
theorem r_new {C : String} {T : u_T} {N ci ix : Nat} {fs : List Value} (hn : newX X) (hin : ∀ w ∈ u_ws C T N, w ∈ lw_tb) (ty : Nat → FieldType) (hty : ∀ k, k < N → parseFieldDescriptor (T k).2.2.1 = some (ty k)) (hc : vwCl[ci]? = some (C, T, N)) (hfs : ∀ j, j < N → defaultValue (ty j) = vp_V fs j) (q1 : Cond.classLink own ix C ∈ lw_tb) (q2 : Cond.instantiable C N ∈ lw_tb) (q3 : Cond.initialized C ∈ lw_tb) (hk : kc + 1 ≤ R.cells ∧ ks + N ≤ R.slots) (d : decode cc pc = .ok (.new ix, 3)) (kk : ∀ q, AtK X Z R cc own nL (kc + 1) (ks + N) (ws ++ [(q, .inr (ci, fs))]) (pc + 3) lv (.ref q :: st)) : AtK X Z R cc own nL kc ks ws pc lv st := by
  obtain ⟨p, l, e, s, m, args, below, meth, c, Q, A, H0⟩ := X
  intro hok H locs ls hP hD hS hl
  obtain ⟨hx, hb, hts, hown, ⟨hK, hN⟩, hml⟩ := id hok
  exact va_new hx hb hts hin ty hty hown (hts _ q1) (hts _ q2) (hts _ q3) hK hP hD hS hn.1 hc hfs hk.1 hk.2 d (fun q H1 hP1 hD1 hS1 => kk q hok H1 locs ls hP1 hD1 hS1 hl)
theorem r_newa {n : Int32} {N : Nat} (hn : newX X) (q1 : Cond.arrayClass .int ∈ lw_tb) (h0 : ¬ n < 0) (hN : n.toNatClampNeg = N) (hby : N * componentBytes .int ≤ 536870912) (hk : kc + 1 ≤ R.cells ∧ ks + N ≤ R.slots) (d : decode cc pc = .ok (.newarray .int, 2)) (kk : ∀ q, AtK X Z R cc own nL (kc + 1) (ks + N) (ws ++ [(q, .inl (Z.2.1, N, .inl (fun _ => 0)))]) (pc + 2) lv (.ref q :: st)) : AtK X Z R cc own nL kc ks ws pc lv (.int n :: st) := by
  obtain ⟨p, l, e, s, m, args, below, meth, c, Q, A, H0⟩ := X
  intro hok H locs ls hP hD hS hl
  obtain ⟨hx, hb, hts, hown, ⟨hK, hNs⟩, hml⟩ := id hok
  refine va_newa (atype := .int) hx hb (hts _ q1) (ty := .int) rfl hK hP hD hS hn.1 (a0 := (N, .inl (fun _ => 0))) (fun cA => rfl) h0 hN hby hk.1 hk.2 d (fun q cA H1 hK1 hP1 hD1 hS1 => ?_)
  have e1 : s.vm.findClass ("[" ++ (FieldType.int).toString) = some cA := (hK1.2 3 (cA, .int) rfl).2
  have e2 : s.vm.findClass ("[" ++ (FieldType.int).toString) = some Z.2.1 := (hK.2 0 (Z.2.1, .int) rfl).2
  have e3 : cA = Z.2.1 := Option.some.inj (e1.symm.trans e2)
  subst e3
  exact kk q hok H1 locs ls hP1 hD1 hS1 hl
theorem r_newq {n : Int32} {N ix k0 : Nat} {C : String} {cZ : ClassId} (hn : newX X) (hk0 : ([(Z.2.1, .int), (Z.2.2.1, .object RX5), (Z.2.2.2, .object RX1)] : List (ClassId × FieldType))[k0]? = some (cZ, .object C)) (q1 : Cond.classLink own ix C ∈ lw_tb) (q2 : ∀ U, aoB U → va_AO C U) (h0 : ¬ n < 0) (hN : n.toNatClampNeg = N) (hby : N * 4 ≤ 536870912) (hk : kc + 1 ≤ R.cells ∧ ks + N ≤ R.slots) (d : decode cc pc = .ok (.anewarray ix, 3)) (kk : ∀ q, AtK X Z R cc own nL (kc + 1) (ks + N) (ws ++ [(q, .inl (cZ, N, .inr (.inr (.inr (.inr (fun _ => none))))))]) (pc + 3) lv (.ref q :: st)) : AtK X Z R cc own nL kc ks ws pc lv (.int n :: st) := by
  obtain ⟨p, l, e, s, m, args, below, meth, c, Q, A, H0⟩ := X
  intro hok H locs ls hP hD hS hl
  obtain ⟨hx, hb, hts, hown, ⟨hK, hNs⟩, hml⟩ := id hok
  refine va_newq hx hb hown (hts _ q1) (q2 _ hn.2) hK hP hD hS hn.1 h0 hN hby hk.1 hk.2 d (fun q cA H1 hK1 hP1 hD1 hS1 => ?_)
  obtain ⟨_, _, _, _, _, e1⟩ := (hK1.2 3 (cA, .object C) rfl).2
  obtain ⟨_, _, _, _, _, e2⟩ := (hK.2 k0 (cZ, .object C) hk0).2
  have e3 : cA = cZ := Option.some.inj (e1.symm.trans e2)
  subst e3
  exact kk q hok H1 locs ls hP1 hD1 hS1 hl
theorem r_putF {C : String} {T : u_T} {N ci ix a : Nat} {fs : List Value} (hnx : nmX X) (hin : ∀ w ∈ u_ws C T N, w ∈ lw_tb) (hc : vwCl[ci]? = some (C, T, N)) (k : Nat) (hk : k < N) (hs : (T k).1 = C) (ty0 : Nat → FieldType) (hty : ∀ k, k < N → parseFieldDescriptor (T k).2.2.1 = some (ty0 k)) (hnm : ∀ a, a < N → ∀ b, b < N → a ≠ b → (T a).2.1 ≠ (T b).2.1) (hoC : (T k).1 = own) (hfin : (T k).2.2.2 = true) {ty : FieldType} (hd : parseFieldDescriptor (T k).2.2.1 = some ty) {v : Value} (hn : narrow ty v = v) (hfit : fits ty v = true) (q0 : Nat) (he : ws[q0]? = some (a, .inr (ci, fs))) (hle : k < fs.length) (q : Cond.fieldLink own ix C (T k).2.1 (T k).2.2.1 ∈ lw_tb) (d : decode cc pc = .ok (.putfield ix, 3)) {ws' : va_W} (hw9 : ws.set q0 (a, .inr (ci, fs.set k v)) = ws') (kk : AtK X Z R cc own nL kc ks ws' (pc + 3) lv st) : AtK X Z R cc own nL kc ks ws pc lv (v :: .ref a :: st) := by
  obtain ⟨p, l, e, s, m, args, below, meth, c, Q, A, H0⟩ := X
  intro hok H locs ls hP hD hS hl
  obtain ⟨hx, hb, hts, hown, ⟨hK, hN⟩, hml⟩ := id hok
  subst hw9
  exact va_putF hx hb hts hin ty0 hty hnm hown hK hP hD hS q0 he hc k hk (hts _ q) (fun x h => by rw [hs] at h; exact h) hfin hnx hoC hd hn hfit hle d (fun H1 locs1 hP1 hD1 hS1 => kk hok H1 locs1 ls hP1 hD1 hS1 hl)
end KT9

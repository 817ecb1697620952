abbrev mVo (y : MethodName) (bytes : ByteArray) (maxL n : Nat) (ret : Option FieldType) : Prop := (.instanceMethod y : Cond) ∈ lw_tb ∧ Cond.selects y.cls y y ∈ lw_tb ∧ Cond.initialized y.cls ∈ lw_tb ∧ Cond.code y bytes maxL ret ∈ lw_tb ∧ (y.cls ≠ "java/lang/invoke/MethodHandle" ∧ y.cls ≠ "java/lang/invoke/VarHandle" ∧ (parseMethodDescriptor y.desc).map (fun d => d.parameters.length) = some n)
abbrev mSo (y : MethodName) (bytes : ByteArray) (maxL n : Nat) (ret : Option FieldType) : Prop := (.static y : Cond) ∈ lw_tb ∧ Cond.initialized y.cls ∈ lw_tb ∧ Cond.code y bytes maxL ret ∈ lw_tb ∧ (y.cls ≠ "java/lang/invoke/MethodHandle" ∧ y.cls ≠ "java/lang/invoke/VarHandle" ∧ (parseMethodDescriptor y.desc).map (fun d => d.parameters.length) = some n)
section KT2
variable {X : CX} {Z : GZ} {R : Room} {cc : ByteArray} {own : String} {nL kc ks : Nat} {ws : va_W} {pc : Nat} {lv : List (Nat × Value)} {st : List Value}
theorem r_iconst {n : Int} {v : Int32} (d : decode cc pc = .ok (.iconst n, 1)) (hv : Int32.ofInt n = v) (kk : AtK X Z R cc own nL kc ks ws (pc + 1) lv (.int v :: st)) : AtK X Z R cc own nL kc ks ws pc lv (st) := by
  obtain ⟨p, l, e, s, m, args, below, meth, c, Q, A, H0⟩ := X
  intro hok H locs ls hP hD hS hl
  obtain ⟨hx, hb, hts, hown, ⟨hK, hN⟩, hml⟩ := id hok
  exact lv_iconst hx hb d hv (kk hok H locs ls hP hD hS hl)
theorem r_bipush {n : Int} {v : Int32} (d : decode cc pc = .ok (.bipush n, 2)) (hv : (Int8.ofInt n).toInt32 = v) (kk : AtK X Z R cc own nL kc ks ws (pc + 2) lv (.int v :: st)) : AtK X Z R cc own nL kc ks ws pc lv (st) := by
  obtain ⟨p, l, e, s, m, args, below, meth, c, Q, A, H0⟩ := X
  intro hok H locs ls hP hD hS hl
  obtain ⟨hx, hb, hts, hown, ⟨hK, hN⟩, hml⟩ := id hok
  exact lv_bipush hx hb d hv (kk hok H locs ls hP hD hS hl)
theorem r_sipush {n : Int} {v : Int32} (d : decode cc pc = .ok (.sipush n, 3)) (hv : (Int16.ofInt n).toInt32 = v) (kk : AtK X Z R cc own nL kc ks ws (pc + 3) lv (.int v :: st)) : AtK X Z R cc own nL kc ks ws pc lv (st) := by
  obtain ⟨p, l, e, s, m, args, below, meth, c, Q, A, H0⟩ := X
  intro hok H locs ls hP hD hS hl
  obtain ⟨hx, hb, hts, hown, ⟨hK, hN⟩, hml⟩ := id hok
  exact lv_sipush hx hb d hv (kk hok H locs ls hP hD hS hl)
theorem r_ldc {ix : Nat} {v : Int32} (q : Jvm.Cond.constant own ix v ∈ lw_tb) (d : decode cc pc = .ok (.ldc ix, 2)) (kk : AtK X Z R cc own nL kc ks ws (pc + 2) lv (.int v :: st)) : AtK X Z R cc own nL kc ks ws pc lv (st) := by
  obtain ⟨p, l, e, s, m, args, below, meth, c, Q, A, H0⟩ := X
  intro hok H locs ls hP hD hS hl
  obtain ⟨hx, hb, hts, hown, ⟨hK, hN⟩, hml⟩ := id hok
  exact lv_ldc hx hb hown (hts _ q) d (kk hok H locs ls hP hD hS hl)
theorem r_iload_n {k : Fin 4} {x : Int32} (d : decode cc pc = .ok (.iload_n k, 1)) (j : Nat) (hj : lv[j]? = some ((k : Nat), .int x)) (kk : AtK X Z R cc own nL kc ks ws (pc + 1) lv (.int x :: st)) : AtK X Z R cc own nL kc ks ws pc lv (st) := by
  obtain ⟨p, l, e, s, m, args, below, meth, c, Q, A, H0⟩ := X
  intro hok H locs ls hP hD hS hl
  obtain ⟨hx, hb, hts, hown, ⟨hK, hN⟩, hml⟩ := id hok
  exact lv_iload_n hx hb d rfl (lv_at hl j hj) (kk hok H locs ls hP hD hS hl)
theorem r_iload {i : Nat} {x : Int32} (d : decode cc pc = .ok (.iload i, 2)) (j : Nat) (hj : lv[j]? = some (i, .int x)) (kk : AtK X Z R cc own nL kc ks ws (pc + 2) lv (.int x :: st)) : AtK X Z R cc own nL kc ks ws pc lv (st) := by
  obtain ⟨p, l, e, s, m, args, below, meth, c, Q, A, H0⟩ := X
  intro hok H locs ls hP hD hS hl
  obtain ⟨hx, hb, hts, hown, ⟨hK, hN⟩, hml⟩ := id hok
  exact lv_iload hx hb d (lv_at hl j hj) (kk hok H locs ls hP hD hS hl)
theorem r_aload_n {k : Fin 4} {x : Nat} (d : decode cc pc = .ok (.aload_n k, 1)) (j : Nat) (hj : lv[j]? = some ((k : Nat), .ref x)) (kk : AtK X Z R cc own nL kc ks ws (pc + 1) lv (.ref x :: st)) : AtK X Z R cc own nL kc ks ws pc lv (st) := by
  obtain ⟨p, l, e, s, m, args, below, meth, c, Q, A, H0⟩ := X
  intro hok H locs ls hP hD hS hl
  obtain ⟨hx, hb, hts, hown, ⟨hK, hN⟩, hml⟩ := id hok
  exact lv_aload_n hx hb d rfl (lv_at hl j hj) (kk hok H locs ls hP hD hS hl)
theorem r_aload {i : Nat} {x : Nat} (d : decode cc pc = .ok (.aload i, 2)) (j : Nat) (hj : lv[j]? = some (i, .ref x)) (kk : AtK X Z R cc own nL kc ks ws (pc + 2) lv (.ref x :: st)) : AtK X Z R cc own nL kc ks ws pc lv (st) := by
  obtain ⟨p, l, e, s, m, args, below, meth, c, Q, A, H0⟩ := X
  intro hok H locs ls hP hD hS hl
  obtain ⟨hx, hb, hts, hown, ⟨hK, hN⟩, hml⟩ := id hok
  exact lv_aload hx hb d (lv_at hl j hj) (kk hok H locs ls hP hD hS hl)
theorem r_aload_nN {k : Fin 4} (d : decode cc pc = .ok (.aload_n k, 1)) (j : Nat) (hj : lv[j]? = some ((k : Nat), .null)) (kk : AtK X Z R cc own nL kc ks ws (pc + 1) lv (.null :: st)) : AtK X Z R cc own nL kc ks ws pc lv (st) := by
  obtain ⟨p, l, e, s, m, args, below, meth, c, Q, A, H0⟩ := X
  intro hok H locs ls hP hD hS hl
  obtain ⟨hx, hb, hts, hown, ⟨hK, hN⟩, hml⟩ := id hok
  exact lv_aload_nN hx hb d rfl (lv_at hl j hj) (kk hok H locs ls hP hD hS hl)
theorem r_istore_n {k : Fin 4} {x : Int32} {lv' : List (Nat × Value)} (d : decode cc pc = .ok (.istore_n k, 1)) (hn : (k : Nat) < nL) (hl9 : ((k : Nat), Value.int x) :: lv.filter (fun q => !(q.1 == (k : Nat)) && !(q.1 + 1 == (k : Nat) && q.2.category == 2)) = lv') (kk : AtK X Z R cc own nL kc ks ws (pc + 1) lv' st) : AtK X Z R cc own nL kc ks ws pc lv (.int x :: st) := by
  obtain ⟨p, l, e, s, m, args, below, meth, c, Q, A, H0⟩ := X
  intro hok H locs ls hP hD hS hl
  obtain ⟨hx, hb, hts, hown, ⟨hK, hN⟩, hml⟩ := id hok
  exact lv_istore_n hx hb d rfl hl hn hl9 (fun ls2 hl2 => kk hok H locs ls2 hP hD hS hl2)
theorem r_istore {i : Nat} {x : Int32} {lv' : List (Nat × Value)} (d : decode cc pc = .ok (.istore i, 2)) (hn : i < nL) (hl9 : (i, Value.int x) :: lv.filter (fun q => !(q.1 == i) && !(q.1 + 1 == i && q.2.category == 2)) = lv') (kk : AtK X Z R cc own nL kc ks ws (pc + 2) lv' st) : AtK X Z R cc own nL kc ks ws pc lv (.int x :: st) := by
  obtain ⟨p, l, e, s, m, args, below, meth, c, Q, A, H0⟩ := X
  intro hok H locs ls hP hD hS hl
  obtain ⟨hx, hb, hts, hown, ⟨hK, hN⟩, hml⟩ := id hok
  exact lv_istore hx hb d  hl hn hl9 (fun ls2 hl2 => kk hok H locs ls2 hP hD hS hl2)
theorem r_astore_n {k : Fin 4} {x : Nat} {lv' : List (Nat × Value)} (d : decode cc pc = .ok (.astore_n k, 1)) (hn : (k : Nat) < nL) (hl9 : ((k : Nat), Value.ref x) :: lv.filter (fun q => !(q.1 == (k : Nat)) && !(q.1 + 1 == (k : Nat) && q.2.category == 2)) = lv') (kk : AtK X Z R cc own nL kc ks ws (pc + 1) lv' st) : AtK X Z R cc own nL kc ks ws pc lv (.ref x :: st) := by
  obtain ⟨p, l, e, s, m, args, below, meth, c, Q, A, H0⟩ := X
  intro hok H locs ls hP hD hS hl
  obtain ⟨hx, hb, hts, hown, ⟨hK, hN⟩, hml⟩ := id hok
  exact lv_astore_n hx hb d rfl hl hn hl9 (fun ls2 hl2 => kk hok H locs ls2 hP hD hS hl2)
theorem r_astore {i : Nat} {x : Nat} {lv' : List (Nat × Value)} (d : decode cc pc = .ok (.astore i, 2)) (hn : i < nL) (hl9 : (i, Value.ref x) :: lv.filter (fun q => !(q.1 == i) && !(q.1 + 1 == i && q.2.category == 2)) = lv') (kk : AtK X Z R cc own nL kc ks ws (pc + 2) lv' st) : AtK X Z R cc own nL kc ks ws pc lv (.ref x :: st) := by
  obtain ⟨p, l, e, s, m, args, below, meth, c, Q, A, H0⟩ := X
  intro hok H locs ls hP hD hS hl
  obtain ⟨hx, hb, hts, hown, ⟨hK, hN⟩, hml⟩ := id hok
  exact lv_astore hx hb d  hl hn hl9 (fun ls2 hl2 => kk hok H locs ls2 hP hD hS hl2)
theorem r_astore_nN {k : Fin 4} {lv' : List (Nat × Value)} (d : decode cc pc = .ok (.astore_n k, 1)) (hn : (k : Nat) < nL) (hl9 : ((k : Nat), Value.null) :: lv.filter (fun q => !(q.1 == (k : Nat)) && !(q.1 + 1 == (k : Nat) && q.2.category == 2)) = lv') (kk : AtK X Z R cc own nL kc ks ws (pc + 1) lv' st) : AtK X Z R cc own nL kc ks ws pc lv (.null :: st) := by
  obtain ⟨p, l, e, s, m, args, below, meth, c, Q, A, H0⟩ := X
  intro hok H locs ls hP hD hS hl
  obtain ⟨hx, hb, hts, hown, ⟨hK, hN⟩, hml⟩ := id hok
  exact lv_astore_nN hx hb d rfl hl hn hl9 (fun ls2 hl2 => kk hok H locs ls2 hP hD hS hl2)
theorem r_iinc {i k : Nat} {n : Int} {x v : Int32} {lv' : List (Nat × Value)} (d : decode cc pc = .ok (.iinc i n, 3)) (hk : lv[k]? = some (i, .int x)) (hv : x + Int32.ofInt n = v) (hn : i < nL) (hl9 : (i, Value.int v) :: lv.filter (fun q => !(q.1 == i) && !(q.1 + 1 == i && q.2.category == 2)) = lv') (kk : AtK X Z R cc own nL kc ks ws (pc + 3) lv' st) : AtK X Z R cc own nL kc ks ws pc lv st := by
  obtain ⟨p, l, e, s, m, args, below, meth, c, Q, A, H0⟩ := X
  intro hok H locs ls hP hD hS hl
  obtain ⟨hx, hb, hts, hown, ⟨hK, hN⟩, hml⟩ := id hok
  exact lv_iinc hx hb d hl hk hv hn hl9 (fun ls2 hl2 => kk hok H locs ls2 hP hD hS hl2)
theorem r_iadd {x y : Int32} (d : decode cc pc = .ok (.iadd, 1)) (kk : AtK X Z R cc own nL kc ks ws (pc + 1) lv (.int (x + y) :: st)) : AtK X Z R cc own nL kc ks ws pc lv (.int y :: .int x :: st) := by
  obtain ⟨p, l, e, s, m, args, below, meth, c, Q, A, H0⟩ := X
  intro hok H locs ls hP hD hS hl
  obtain ⟨hx, hb, hts, hown, ⟨hK, hN⟩, hml⟩ := id hok
  exact lv_iadd hx hb d (kk hok H locs ls hP hD hS hl)
theorem r_isub {x y : Int32} (d : decode cc pc = .ok (.isub, 1)) (kk : AtK X Z R cc own nL kc ks ws (pc + 1) lv (.int (x - y) :: st)) : AtK X Z R cc own nL kc ks ws pc lv (.int y :: .int x :: st) := by
  obtain ⟨p, l, e, s, m, args, below, meth, c, Q, A, H0⟩ := X
  intro hok H locs ls hP hD hS hl
  obtain ⟨hx, hb, hts, hown, ⟨hK, hN⟩, hml⟩ := id hok
  exact lv_isub hx hb d (kk hok H locs ls hP hD hS hl)
theorem r_imul {x y : Int32} (d : decode cc pc = .ok (.imul, 1)) (kk : AtK X Z R cc own nL kc ks ws (pc + 1) lv (.int (x * y) :: st)) : AtK X Z R cc own nL kc ks ws pc lv (.int y :: .int x :: st) := by
  obtain ⟨p, l, e, s, m, args, below, meth, c, Q, A, H0⟩ := X
  intro hok H locs ls hP hD hS hl
  obtain ⟨hx, hb, hts, hown, ⟨hK, hN⟩, hml⟩ := id hok
  exact lv_imul hx hb d (kk hok H locs ls hP hD hS hl)
theorem r_iand {x y : Int32} (d : decode cc pc = .ok (.iand, 1)) (kk : AtK X Z R cc own nL kc ks ws (pc + 1) lv (.int (x &&& y) :: st)) : AtK X Z R cc own nL kc ks ws pc lv (.int y :: .int x :: st) := by
  obtain ⟨p, l, e, s, m, args, below, meth, c, Q, A, H0⟩ := X
  intro hok H locs ls hP hD hS hl
  obtain ⟨hx, hb, hts, hown, ⟨hK, hN⟩, hml⟩ := id hok
  exact lv_iand hx hb d (kk hok H locs ls hP hD hS hl)
theorem r_idiv {x y : Int32} (d : decode cc pc = .ok (.idiv, 1)) (hne : ¬ y = 0) (kk : AtK X Z R cc own nL kc ks ws (pc + 1) lv (.int (x / y) :: st)) : AtK X Z R cc own nL kc ks ws pc lv (.int y :: .int x :: st) := by
  obtain ⟨p, l, e, s, m, args, below, meth, c, Q, A, H0⟩ := X
  intro hok H locs ls hP hD hS hl
  obtain ⟨hx, hb, hts, hown, ⟨hK, hN⟩, hml⟩ := id hok
  exact lv_idiv hx hb d hne (kk hok H locs ls hP hD hS hl)
theorem r_irem {x y : Int32} (d : decode cc pc = .ok (.irem, 1)) (hne : ¬ y = 0) (kk : AtK X Z R cc own nL kc ks ws (pc + 1) lv (.int (jrem x y) :: st)) : AtK X Z R cc own nL kc ks ws pc lv (.int y :: .int x :: st) := by
  obtain ⟨p, l, e, s, m, args, below, meth, c, Q, A, H0⟩ := X
  intro hok H locs ls hP hD hS hl
  obtain ⟨hx, hb, hts, hown, ⟨hK, hN⟩, hml⟩ := id hok
  exact lv_irem hx hb d hne (kk hok H locs ls hP hD hS hl)
theorem r_ineg {x : Int32} (d : decode cc pc = .ok (.ineg, 1)) (kk : AtK X Z R cc own nL kc ks ws (pc + 1) lv (.int (-x) :: st)) : AtK X Z R cc own nL kc ks ws pc lv (.int x :: st) := by
  obtain ⟨p, l, e, s, m, args, below, meth, c, Q, A, H0⟩ := X
  intro hok H locs ls hP hD hS hl
  obtain ⟨hx, hb, hts, hown, ⟨hK, hN⟩, hml⟩ := id hok
  exact lv_ineg hx hb d (kk hok H locs ls hP hD hS hl)
theorem r_dup {va : Value} (d : decode cc pc = .ok (.dup, 1)) (hva : va.category = 1) (kk : AtK X Z R cc own nL kc ks ws (pc + 1) lv (va :: va :: st)) : AtK X Z R cc own nL kc ks ws pc lv (va :: st) := by
  obtain ⟨p, l, e, s, m, args, below, meth, c, Q, A, H0⟩ := X
  intro hok H locs ls hP hD hS hl
  obtain ⟨hx, hb, hts, hown, ⟨hK, hN⟩, hml⟩ := id hok
  exact lv_dup hx hb d hva (kk hok H locs ls hP hD hS hl)
theorem r_pop {va : Value} (d : decode cc pc = .ok (.pop, 1)) (hva : va.category = 1) (kk : AtK X Z R cc own nL kc ks ws (pc + 1) lv (st)) : AtK X Z R cc own nL kc ks ws pc lv (va :: st) := by
  obtain ⟨p, l, e, s, m, args, below, meth, c, Q, A, H0⟩ := X
  intro hok H locs ls hP hD hS hl
  obtain ⟨hx, hb, hts, hown, ⟨hK, hN⟩, hml⟩ := id hok
  exact lv_pop hx hb d hva (kk hok H locs ls hP hD hS hl)
theorem r_dup2 {va vb : Value} (d : decode cc pc = .ok (.dup2, 1)) (hva : va.category = 1) (hvb : vb.category = 1) (kk : AtK X Z R cc own nL kc ks ws (pc + 1) lv (va :: vb :: va :: vb :: st)) : AtK X Z R cc own nL kc ks ws pc lv (va :: vb :: st) := by
  obtain ⟨p, l, e, s, m, args, below, meth, c, Q, A, H0⟩ := X
  intro hok H locs ls hP hD hS hl
  obtain ⟨hx, hb, hts, hown, ⟨hK, hN⟩, hml⟩ := id hok
  exact lv_dup2_11 hx hb d hva hvb (kk hok H locs ls hP hD hS hl)
theorem r_null  (d : decode cc pc = .ok (.aconst_null, 1)) (kk : AtK X Z R cc own nL kc ks ws (pc + 1) lv (.null :: st)) : AtK X Z R cc own nL kc ks ws pc lv (st) := by
  obtain ⟨p, l, e, s, m, args, below, meth, c, Q, A, H0⟩ := X
  intro hok H locs ls hP hD hS hl
  obtain ⟨hx, hb, hts, hown, ⟨hK, hN⟩, hml⟩ := id hok
  exact lv_null hx hb d (kk hok H locs ls hP hD hS hl)
theorem r_ifnull {x : Nat} {off : Int} (d : decode cc pc = .ok (.ifnull off, 3)) (kk : AtK X Z R cc own nL kc ks ws (pc + 3) lv st) : AtK X Z R cc own nL kc ks ws pc lv (.ref x :: st) := by
  obtain ⟨p, l, e, s, m, args, below, meth, c, Q, A, H0⟩ := X
  intro hok H locs ls hP hD hS hl
  obtain ⟨hx, hb, hts, hown, ⟨hK, hN⟩, hml⟩ := id hok
  exact lv_ifnull hx hb d (kk hok H locs ls hP hD hS hl)
theorem r_ifnullN {off : Int} {tgt : Nat} (d : decode cc pc = .ok (.ifnull off, 3)) (ht : (pc : Int) + off = (tgt : Int)) (kk : AtK X Z R cc own nL kc ks ws tgt lv st) : AtK X Z R cc own nL kc ks ws pc lv (.null :: st) := by
  obtain ⟨p, l, e, s, m, args, below, meth, c, Q, A, H0⟩ := X
  intro hok H locs ls hP hD hS hl
  obtain ⟨hx, hb, hts, hown, ⟨hK, hN⟩, hml⟩ := id hok
  exact lv_ifnullN hx hb d ht (kk hok H locs ls hP hD hS hl)
theorem r_if_eq {x : Int32} {off : Int} {tgt : Nat} (d : decode cc pc = .ok (.ifCond .eq off, 3)) (ht : (pc : Int) + off = (tgt : Int)) (kt : x = 0 → AtK X Z R cc own nL kc ks ws tgt lv st) (kf : ¬ x = 0 → AtK X Z R cc own nL kc ks ws (pc + 3) lv st) : AtK X Z R cc own nL kc ks ws pc lv (.int x :: st) := by
  obtain ⟨p, l, e, s, m, args, below, meth, c, Q, A, H0⟩ := X
  intro hok H locs ls hP hD hS hl
  obtain ⟨hx, hb, hts, hown, ⟨hK, hN⟩, hml⟩ := id hok
  exact lv_if_eq hx hb d ht (fun h => kt h hok H locs ls hP hD hS hl) (fun h => kf h hok H locs ls hP hD hS hl)
theorem r_if_ne {x : Int32} {off : Int} {tgt : Nat} (d : decode cc pc = .ok (.ifCond .ne off, 3)) (ht : (pc : Int) + off = (tgt : Int)) (kt : ¬ x = 0 → AtK X Z R cc own nL kc ks ws tgt lv st) (kf : x = 0 → AtK X Z R cc own nL kc ks ws (pc + 3) lv st) : AtK X Z R cc own nL kc ks ws pc lv (.int x :: st) := by
  obtain ⟨p, l, e, s, m, args, below, meth, c, Q, A, H0⟩ := X
  intro hok H locs ls hP hD hS hl
  obtain ⟨hx, hb, hts, hown, ⟨hK, hN⟩, hml⟩ := id hok
  exact lv_if_ne hx hb d ht (fun h => kt h hok H locs ls hP hD hS hl) (fun h => kf h hok H locs ls hP hD hS hl)
theorem r_if_lt {x : Int32} {off : Int} {tgt : Nat} (d : decode cc pc = .ok (.ifCond .lt off, 3)) (ht : (pc : Int) + off = (tgt : Int)) (kt : x < 0 → AtK X Z R cc own nL kc ks ws tgt lv st) (kf : ¬ x < 0 → AtK X Z R cc own nL kc ks ws (pc + 3) lv st) : AtK X Z R cc own nL kc ks ws pc lv (.int x :: st) := by
  obtain ⟨p, l, e, s, m, args, below, meth, c, Q, A, H0⟩ := X
  intro hok H locs ls hP hD hS hl
  obtain ⟨hx, hb, hts, hown, ⟨hK, hN⟩, hml⟩ := id hok
  exact lv_if_lt hx hb d ht (fun h => kt h hok H locs ls hP hD hS hl) (fun h => kf h hok H locs ls hP hD hS hl)
theorem r_if_ge {x : Int32} {off : Int} {tgt : Nat} (d : decode cc pc = .ok (.ifCond .ge off, 3)) (ht : (pc : Int) + off = (tgt : Int)) (kt : 0 ≤ x → AtK X Z R cc own nL kc ks ws tgt lv st) (kf : ¬ 0 ≤ x → AtK X Z R cc own nL kc ks ws (pc + 3) lv st) : AtK X Z R cc own nL kc ks ws pc lv (.int x :: st) := by
  obtain ⟨p, l, e, s, m, args, below, meth, c, Q, A, H0⟩ := X
  intro hok H locs ls hP hD hS hl
  obtain ⟨hx, hb, hts, hown, ⟨hK, hN⟩, hml⟩ := id hok
  exact lv_if_ge hx hb d ht (fun h => kt h hok H locs ls hP hD hS hl) (fun h => kf h hok H locs ls hP hD hS hl)
theorem r_if_gt {x : Int32} {off : Int} {tgt : Nat} (d : decode cc pc = .ok (.ifCond .gt off, 3)) (ht : (pc : Int) + off = (tgt : Int)) (kt : 0 < x → AtK X Z R cc own nL kc ks ws tgt lv st) (kf : ¬ 0 < x → AtK X Z R cc own nL kc ks ws (pc + 3) lv st) : AtK X Z R cc own nL kc ks ws pc lv (.int x :: st) := by
  obtain ⟨p, l, e, s, m, args, below, meth, c, Q, A, H0⟩ := X
  intro hok H locs ls hP hD hS hl
  obtain ⟨hx, hb, hts, hown, ⟨hK, hN⟩, hml⟩ := id hok
  exact lv_if_gt hx hb d ht (fun h => kt h hok H locs ls hP hD hS hl) (fun h => kf h hok H locs ls hP hD hS hl)
theorem r_if_le {x : Int32} {off : Int} {tgt : Nat} (d : decode cc pc = .ok (.ifCond .le off, 3)) (ht : (pc : Int) + off = (tgt : Int)) (kt : x ≤ 0 → AtK X Z R cc own nL kc ks ws tgt lv st) (kf : ¬ x ≤ 0 → AtK X Z R cc own nL kc ks ws (pc + 3) lv st) : AtK X Z R cc own nL kc ks ws pc lv (.int x :: st) := by
  obtain ⟨p, l, e, s, m, args, below, meth, c, Q, A, H0⟩ := X
  intro hok H locs ls hP hD hS hl
  obtain ⟨hx, hb, hts, hown, ⟨hK, hN⟩, hml⟩ := id hok
  exact lv_if_le hx hb d ht (fun h => kt h hok H locs ls hP hD hS hl) (fun h => kf h hok H locs ls hP hD hS hl)
theorem r_icmp_eq {x y : Int32} {off : Int} {tgt : Nat} (d : decode cc pc = .ok (.if_icmp .eq off, 3)) (ht : (pc : Int) + off = (tgt : Int)) (kt : x = y → AtK X Z R cc own nL kc ks ws tgt lv st) (kf : ¬ x = y → AtK X Z R cc own nL kc ks ws (pc + 3) lv st) : AtK X Z R cc own nL kc ks ws pc lv (.int y :: .int x :: st) := by
  obtain ⟨p, l, e, s, m, args, below, meth, c, Q, A, H0⟩ := X
  intro hok H locs ls hP hD hS hl
  obtain ⟨hx, hb, hts, hown, ⟨hK, hN⟩, hml⟩ := id hok
  exact lv_icmp_eq hx hb d ht (fun h => kt h hok H locs ls hP hD hS hl) (fun h => kf h hok H locs ls hP hD hS hl)
theorem r_icmp_ne {x y : Int32} {off : Int} {tgt : Nat} (d : decode cc pc = .ok (.if_icmp .ne off, 3)) (ht : (pc : Int) + off = (tgt : Int)) (kt : ¬ x = y → AtK X Z R cc own nL kc ks ws tgt lv st) (kf : x = y → AtK X Z R cc own nL kc ks ws (pc + 3) lv st) : AtK X Z R cc own nL kc ks ws pc lv (.int y :: .int x :: st) := by
  obtain ⟨p, l, e, s, m, args, below, meth, c, Q, A, H0⟩ := X
  intro hok H locs ls hP hD hS hl
  obtain ⟨hx, hb, hts, hown, ⟨hK, hN⟩, hml⟩ := id hok
  exact lv_icmp_ne hx hb d ht (fun h => kt h hok H locs ls hP hD hS hl) (fun h => kf h hok H locs ls hP hD hS hl)
theorem r_icmp_lt {x y : Int32} {off : Int} {tgt : Nat} (d : decode cc pc = .ok (.if_icmp .lt off, 3)) (ht : (pc : Int) + off = (tgt : Int)) (kt : x < y → AtK X Z R cc own nL kc ks ws tgt lv st) (kf : ¬ x < y → AtK X Z R cc own nL kc ks ws (pc + 3) lv st) : AtK X Z R cc own nL kc ks ws pc lv (.int y :: .int x :: st) := by
  obtain ⟨p, l, e, s, m, args, below, meth, c, Q, A, H0⟩ := X
  intro hok H locs ls hP hD hS hl
  obtain ⟨hx, hb, hts, hown, ⟨hK, hN⟩, hml⟩ := id hok
  exact lv_icmp_lt hx hb d ht (fun h => kt h hok H locs ls hP hD hS hl) (fun h => kf h hok H locs ls hP hD hS hl)
theorem r_icmp_ge {x y : Int32} {off : Int} {tgt : Nat} (d : decode cc pc = .ok (.if_icmp .ge off, 3)) (ht : (pc : Int) + off = (tgt : Int)) (kt : y ≤ x → AtK X Z R cc own nL kc ks ws tgt lv st) (kf : ¬ y ≤ x → AtK X Z R cc own nL kc ks ws (pc + 3) lv st) : AtK X Z R cc own nL kc ks ws pc lv (.int y :: .int x :: st) := by
  obtain ⟨p, l, e, s, m, args, below, meth, c, Q, A, H0⟩ := X
  intro hok H locs ls hP hD hS hl
  obtain ⟨hx, hb, hts, hown, ⟨hK, hN⟩, hml⟩ := id hok
  exact lv_icmp_ge hx hb d ht (fun h => kt h hok H locs ls hP hD hS hl) (fun h => kf h hok H locs ls hP hD hS hl)
theorem r_icmp_gt {x y : Int32} {off : Int} {tgt : Nat} (d : decode cc pc = .ok (.if_icmp .gt off, 3)) (ht : (pc : Int) + off = (tgt : Int)) (kt : y < x → AtK X Z R cc own nL kc ks ws tgt lv st) (kf : ¬ y < x → AtK X Z R cc own nL kc ks ws (pc + 3) lv st) : AtK X Z R cc own nL kc ks ws pc lv (.int y :: .int x :: st) := by
  obtain ⟨p, l, e, s, m, args, below, meth, c, Q, A, H0⟩ := X
  intro hok H locs ls hP hD hS hl
  obtain ⟨hx, hb, hts, hown, ⟨hK, hN⟩, hml⟩ := id hok
  exact lv_icmp_gt hx hb d ht (fun h => kt h hok H locs ls hP hD hS hl) (fun h => kf h hok H locs ls hP hD hS hl)
theorem r_icmp_le {x y : Int32} {off : Int} {tgt : Nat} (d : decode cc pc = .ok (.if_icmp .le off, 3)) (ht : (pc : Int) + off = (tgt : Int)) (kt : x ≤ y → AtK X Z R cc own nL kc ks ws tgt lv st) (kf : ¬ x ≤ y → AtK X Z R cc own nL kc ks ws (pc + 3) lv st) : AtK X Z R cc own nL kc ks ws pc lv (.int y :: .int x :: st) := by
  obtain ⟨p, l, e, s, m, args, below, meth, c, Q, A, H0⟩ := X
  intro hok H locs ls hP hD hS hl
  obtain ⟨hx, hb, hts, hown, ⟨hK, hN⟩, hml⟩ := id hok
  exact lv_icmp_le hx hb d ht (fun h => kt h hok H locs ls hP hD hS hl) (fun h => kf h hok H locs ls hP hD hS hl)
theorem r_goto {off : Int} {tgt : Nat} (d : decode cc pc = .ok (.goto off, 3)) (ht : (pc : Int) + off = (tgt : Int)) (kk : AtK X Z R cc own nL kc ks ws tgt lv st) : AtK X Z R cc own nL kc ks ws pc lv st := by
  obtain ⟨p, l, e, s, m, args, below, meth, c, Q, A, H0⟩ := X
  intro hok H locs ls hP hD hS hl
  obtain ⟨hx, hb, hts, hown, ⟨hK, hN⟩, hml⟩ := id hok
  exact lv_goto hx hb d ht (kk hok H locs ls hP hD hS hl)
theorem r_tableIn {dflt lo hi : Int} {offs : Array Int} {len : Nat} {x : Int32} {off : Int} {tgt : Nat} (d : decode cc pc = .ok (.tableswitch dflt lo hi offs, len)) (h1 : ¬ x.toInt < lo) (h2 : ¬ hi < x.toInt) (ho : offs[(x.toInt - lo).toNat]? = some off) (ht : (pc : Int) + off = (tgt : Int)) (kk : AtK X Z R cc own nL kc ks ws tgt lv st) : AtK X Z R cc own nL kc ks ws pc lv (.int x :: st) := by
  obtain ⟨p, l, e, s, m, args, below, meth, c, Q, A, H0⟩ := X
  intro hok H locs ls hP hD hS hl
  obtain ⟨hx, hb, hts, hown, ⟨hK, hN⟩, hml⟩ := id hok
  exact lv_tableIn hx hb d h1 h2 ho ht (kk hok H locs ls hP hD hS hl)
theorem r_tableOut {dflt lo hi : Int} {offs : Array Int} {len : Nat} {x : Int32} {tgt : Nat} (d : decode cc pc = .ok (.tableswitch dflt lo hi offs, len)) (h : x.toInt < lo ∨ hi < x.toInt) (ht : (pc : Int) + dflt = (tgt : Int)) (kk : AtK X Z R cc own nL kc ks ws tgt lv st) : AtK X Z R cc own nL kc ks ws pc lv (.int x :: st) := by
  obtain ⟨p, l, e, s, m, args, below, meth, c, Q, A, H0⟩ := X
  intro hok H locs ls hP hD hS hl
  obtain ⟨hx, hb, hts, hown, ⟨hK, hN⟩, hml⟩ := id hok
  exact lv_tableOut hx hb d h ht (kk hok H locs ls hP hD hS hl)
theorem r_lookup {dflt : Int} {ps : Array (Int × Int)} {len : Nat} {x : Int32} {off : Int} {tgt : Nat} (d : decode cc pc = .ok (.lookupswitch dflt ps, len)) (hp : (ps.toList.zip (ps.toList.drop 1)).all (fun (a, next) => a.1 < next.1) = true) (ho : Op.lookupswitch.offset ps.toList dflt x.toInt = off) (ht : (pc : Int) + off = (tgt : Int)) (kk : AtK X Z R cc own nL kc ks ws tgt lv st) : AtK X Z R cc own nL kc ks ws pc lv (.int x :: st) := by
  obtain ⟨p, l, e, s, m, args, below, meth, c, Q, A, H0⟩ := X
  intro hok H locs ls hP hD hS hl
  obtain ⟨hx, hb, hts, hown, ⟨hK, hN⟩, hml⟩ := id hok
  exact lv_lookup hx hb d hp ho ht (kk hok H locs ls hP hD hS hl)
theorem r_sub (ks9 : List Nat) {lv' : List (Nat × Value)} (h9 : lv_pick lv ks9 = lv') (kk : AtK X Z R cc own nL kc ks ws pc lv' st) : AtK X Z R cc own nL kc ks ws pc lv st := by
  obtain ⟨p, l, e, s, m, args, below, meth, c, Q, A, H0⟩ := X
  intro hok H locs ls hP hD hS hl
  obtain ⟨hx, hb, hts, hown, ⟨hK, hN⟩, hml⟩ := id hok
  exact kk hok H locs ls hP hD hS (lv_sub hl ks9 h9)
theorem r_ws {ws' : va_W} (h9 : ws = ws') (kk : AtK X Z R cc own nL kc ks ws' pc lv st) : AtK X Z R cc own nL kc ks ws pc lv st := by
  subst h9
  exact kk
theorem r_getf {C : String} {T : u_T} {N ci ix a : Nat} {fs : List Value} (hin : ∀ w ∈ u_ws C T N, w ∈ lw_tb) (hc : vwCl[ci]? = some (C, T, N)) (k : Nat) (hk : k < N) (hs : (T k).1 = C) {v : Value} (q0 : Nat) (he : ws[q0]? = some (a, .inr (ci, fs))) (hv : fs[k]? = some v) (q : Cond.fieldLink own ix C (T k).2.1 (T k).2.2.1 ∈ lw_tb) (d : decode cc pc = .ok (.getfield ix, 3)) (kk : AtK X Z R cc own nL kc ks ws (pc + 3) lv (v :: st)) : AtK X Z R cc own nL kc ks ws pc lv (.ref a :: st) := by
  obtain ⟨p, l, e, s, m, args, below, meth, c, Q, A, H0⟩ := X
  intro hok H locs ls hP hD hS hl
  obtain ⟨hx, hb, hts, hown, ⟨hK, hN⟩, hml⟩ := id hok
  exact va_get hx hb hts hin hown hK hP q0 he hc k hk (hts _ q) (fun x h => by rw [hs] at h; exact h) hv d (kk hok H locs ls hP hD hS hl)
theorem r_getfN {C : String} {T : u_T} {N ci ix a : Nat} {fs : List Value} {host : String} (hin : ∀ w ∈ u_ws C T N, w ∈ lw_tb) (hc : vwCl[ci]? = some (C, T, N)) (k : Nat) (hk : k < N) (hs : (T k).1 = C) {v : Value} (q0 : Nat) (he : ws[q0]? = some (a, .inr (ci, fs))) (hv : fs[k]? = some v) (q : Cond.fieldLinkNest own ix C (T k).2.1 (T k).2.2.1 host ∈ lw_ns) (d : decode cc pc = .ok (.getfield ix, 3)) (kk : AtK X Z R cc own nL kc ks ws (pc + 3) lv (v :: st)) : AtK X Z R cc own nL kc ks ws pc lv (.ref a :: st) := by
  obtain ⟨p, l, e, s, m, args, below, meth, c, Q, A, H0⟩ := X
  intro hok H locs ls hP hD hS hl
  obtain ⟨hx, hb, hts, hown, ⟨hK, hN⟩, hml⟩ := id hok
  exact va_getN hx hb hts hin hown hK hP q0 he hc k hk (va_Nw.use rfl (hN _ q)) (fun x h => by rw [hs] at h; exact h) hv d (kk hok H locs ls hP hD hS hl)
theorem r_putf {C : String} {T : u_T} {N ci ix a : Nat} {fs : List Value} {host : String} (hin : ∀ w ∈ u_ws C T N, w ∈ lw_tb) (hc : vwCl[ci]? = some (C, T, N)) (k : Nat) (hk : k < N) (hs : (T k).1 = C) (ty0 : Nat → FieldType) (hty : ∀ k, k < N → parseFieldDescriptor (T k).2.2.1 = some (ty0 k)) (hnm : ∀ a, a < N → ∀ b, b < N → a ≠ b → (T a).2.1 ≠ (T b).2.1) (hfin : (T k).2.2.2 = false) {ty : FieldType} (hd : parseFieldDescriptor (T k).2.2.1 = some ty) {v : Value} (hn : narrow ty v = v) (hfit : fits ty v = true) (q0 : Nat) (he : ws[q0]? = some (a, .inr (ci, fs))) (hle : k < fs.length) (q : Cond.fieldLink own ix C (T k).2.1 (T k).2.2.1 ∈ lw_tb) (d : decode cc pc = .ok (.putfield ix, 3)) {ws' : va_W} (hw9 : ws.set q0 (a, .inr (ci, fs.set k v)) = ws') (kk : AtK X Z R cc own nL kc ks ws' (pc + 3) lv st) : AtK X Z R cc own nL kc ks ws pc lv (v :: .ref a :: st) := by
  obtain ⟨p, l, e, s, m, args, below, meth, c, Q, A, H0⟩ := X
  intro hok H locs ls hP hD hS hl
  obtain ⟨hx, hb, hts, hown, ⟨hK, hN⟩, hml⟩ := id hok
  subst hw9
  exact va_put hx hb hts hin ty0 hty hnm hown hK hP hD hS q0 he hc k hk (hts _ q) (fun x h => by rw [hs] at h; exact h) hfin hd hn hfit hle d (fun H1 locs1 hP1 hD1 hS1 => kk hok H1 locs1 ls hP1 hD1 hS1 hl)
theorem r_putfN {C : String} {T : u_T} {N ci ix a : Nat} {fs : List Value} {host : String} (hin : ∀ w ∈ u_ws C T N, w ∈ lw_tb) (hc : vwCl[ci]? = some (C, T, N)) (k : Nat) (hk : k < N) (hs : (T k).1 = C) (ty0 : Nat → FieldType) (hty : ∀ k, k < N → parseFieldDescriptor (T k).2.2.1 = some (ty0 k)) (hnm : ∀ a, a < N → ∀ b, b < N → a ≠ b → (T a).2.1 ≠ (T b).2.1) (hfin : (T k).2.2.2 = false) {ty : FieldType} (hd : parseFieldDescriptor (T k).2.2.1 = some ty) {v : Value} (hn : narrow ty v = v) (hfit : fits ty v = true) (q0 : Nat) (he : ws[q0]? = some (a, .inr (ci, fs))) (hle : k < fs.length) (q : Cond.fieldLinkNest own ix C (T k).2.1 (T k).2.2.1 host ∈ lw_ns) (d : decode cc pc = .ok (.putfield ix, 3)) {ws' : va_W} (hw9 : ws.set q0 (a, .inr (ci, fs.set k v)) = ws') (kk : AtK X Z R cc own nL kc ks ws' (pc + 3) lv st) : AtK X Z R cc own nL kc ks ws pc lv (v :: .ref a :: st) := by
  obtain ⟨p, l, e, s, m, args, below, meth, c, Q, A, H0⟩ := X
  intro hok H locs ls hP hD hS hl
  obtain ⟨hx, hb, hts, hown, ⟨hK, hN⟩, hml⟩ := id hok
  subst hw9
  exact va_putN hx hb hts hin ty0 hty hnm hown hK hP hD hS q0 he hc k hk (va_Nw.use rfl (hN _ q)) (fun x h => by rw [hs] at h; exact h) hfin hd hn hfit hle d (fun H1 locs1 hP1 hD1 hS1 => kk hok H1 locs1 ls hP1 hD1 hS1 hl)
theorem r_iald {a n : Nat} {f : Nat → Int32} (q0 : Nat) (ha : ws[q0]? = some (a, .inl (Z.2.1, n, .inl f))) {i : Int32} (hin : ¬ (i < 0 ∨ n ≤ i.toNatClampNeg)) (d : decode cc pc = .ok (.iaload, 1)) (kk : AtK X Z R cc own nL kc ks ws (pc + 1) lv (.int (f i.toNatClampNeg) :: st)) : AtK X Z R cc own nL kc ks ws pc lv (.int i :: .ref a :: st) := by
  obtain ⟨p, l, e, s, m, args, below, meth, c, Q, A, H0⟩ := X
  intro hok H locs ls hP hD hS hl
  obtain ⟨hx, hb, hts, hown, ⟨hK, hN⟩, hml⟩ := id hok
  exact va_iald hx hb hK hP q0 0 ha rfl hin d (kk hok H locs ls hP hD hS hl)
theorem r_ialdL {a n : Nat} {f : Nat → Int32} (q0 : Nat) (ha : ws[q0]? = some (a, .inl (Z.2.1, n, .inl f))) {i : Int32} {j : Nat} (hj : i.toNatClampNeg = j) (hin : ¬ (i < 0 ∨ n ≤ i.toNatClampNeg)) (d : decode cc pc = .ok (.iaload, 1)) (kk : AtK X Z R cc own nL kc ks ws (pc + 1) lv (.int (f j) :: st)) : AtK X Z R cc own nL kc ks ws pc lv (.int i :: .ref a :: st) := by
  subst hj
  exact r_iald q0 ha hin d kk
theorem r_ialdV {a n : Nat} {f : Nat → Int32} (q0 : Nat) (ha : ws[q0]? = some (a, .inl (Z.2.1, n, .inl f))) {i : Int32} {j : Nat} (hj : i.toNatClampNeg = j) (hin : ¬ (i < 0 ∨ n ≤ i.toNatClampNeg)) {v : Int32} (hv : f j = v) (d : decode cc pc = .ok (.iaload, 1)) (kk : AtK X Z R cc own nL kc ks ws (pc + 1) lv (.int v :: st)) : AtK X Z R cc own nL kc ks ws pc lv (.int i :: .ref a :: st) := by
  subst hv
  exact r_ialdL q0 ha hj hin d kk
theorem r_iast {a n : Nat} {f : Nat → Int32} (q0 : Nat) (ha : ws[q0]? = some (a, .inl (Z.2.1, n, .inl f))) {i x : Int32} {j : Nat} (hj : i.toNatClampNeg = j) (hin : ¬ (i < 0 ∨ n ≤ i.toNatClampNeg)) (d : decode cc pc = .ok (.iastore, 1)) {ws' : va_W} (hw9 : ws.set q0 (a, .inl (Z.2.1, n, .inl (upd f j x))) = ws') (kk : AtK X Z R cc own nL kc ks ws' (pc + 1) lv st) : AtK X Z R cc own nL kc ks ws pc lv (.int x :: .int i :: .ref a :: st) := by
  subst hj
  obtain ⟨p, l, e, s, m, args, below, meth, c, Q, A, H0⟩ := X
  intro hok H locs ls hP hD hS hl
  obtain ⟨hx, hb, hts, hown, ⟨hK, hN⟩, hml⟩ := id hok
  subst hw9
  exact va_iast hx hb hK hP hD hS q0 0 ha rfl hin d (fun H1 locs1 hP1 hD1 hS1 => kk hok H1 locs1 ls hP1 hD1 hS1 hl)
theorem r_alen {a n : Nat} {x : (Nat → Int32) ⊕ (Nat → Int64) ⊕ (Nat → UInt32) ⊕ (Nat → UInt64) ⊕ (Nat → Option Nat)} (q0 t0 : Nat) {cA : ClassId} {ty : FieldType} (ha : ws[q0]? = some (a, .inl (cA, n, x))) (ht : ([(Z.2.1, .int), (Z.2.2.1, .object RX5), (Z.2.2.2, .object RX1)] : List (ClassId × FieldType))[t0]? = some (cA, ty)) {v : Int32} (hv : Int32.ofNat n = v) (d : decode cc pc = .ok (.arraylength, 1)) (kk : AtK X Z R cc own nL kc ks ws (pc + 1) lv (.int v :: st)) : AtK X Z R cc own nL kc ks ws pc lv (.ref a :: st) := by
  obtain ⟨p, l, e, s, m, args, below, meth, c, Q, A, H0⟩ := X
  intro hok H locs ls hP hD hS hl
  obtain ⟨hx, hb, hts, hown, ⟨hK, hN⟩, hml⟩ := id hok
  exact va_alen hx hb hK hP q0 t0 ha ht hv d (kk hok H locs ls hP hD hS hl)
theorem r_aald {a n : Nat} {f : Nat → Option Nat} {C : String} (q0 t0 : Nat) {cA : ClassId} (ha : ws[q0]? = some (a, .inl (cA, n, .inr (.inr (.inr (.inr f)))))) (ht : ([(Z.2.1, .int), (Z.2.2.1, .object RX5), (Z.2.2.2, .object RX1)] : List (ClassId × FieldType))[t0]? = some (cA, .object C)) {i : Int32} (hin : ¬ (i < 0 ∨ n ≤ i.toNatClampNeg)) {v : Value} (hv : va_rf (f i.toNatClampNeg) = v) (d : decode cc pc = .ok (.aaload, 1)) (kk : AtK X Z R cc own nL kc ks ws (pc + 1) lv (v :: st)) : AtK X Z R cc own nL kc ks ws pc lv (.int i :: .ref a :: st) := by
  subst hv
  obtain ⟨p, l, e, s, m, args, below, meth, c, Q, A, H0⟩ := X
  intro hok H locs ls hP hD hS hl
  obtain ⟨hx, hb, hts, hown, ⟨hK, hN⟩, hml⟩ := id hok
  exact va_aldq hx hb hK hP q0 t0 ha ht hin d (kk hok H locs ls hP hD hS hl)
theorem xP_arr {D : va_G} {cl : List vw_C} {ws : va_W} {H : Heap} {q1 a N : Nat} {c : ClassId} {f g : Nat → Int32} (hx : ∀ j, j < N → f j = g j) (h : va_P D cl (ws.set q1 (a, .inl (c, N, .inl g))) H) : va_P D cl (ws.set q1 (a, .inl (c, N, .inl f))) H := by
  intro k q hk
  by_cases hq : k = q1
  · subst hq
    have hlt : k < ws.length := by
      have := (List.getElem?_eq_some_iff.mp hk).1
      simpa using this
    rw [List.getElem?_set_self hlt] at hk
    cases hk
    have h1 := h k (a, .inl (c, N, .inl g)) (List.getElem?_set_self hlt)
    have h2 : H[a]? = some (vp_cell c (N, .inl g)) := h1
    show H[a]? = some (vp_cell c (N, .inl f))
    rw [h2, vp_cell_i, vp_cell_i]
    congr 1
    unfold arrV
    congr 1
    apply Array.ext
    · simp
    · intro i h3 h4
      simp at h3
      simp [hx i h3]
  · refine h k q ?_
    rw [List.getElem?_set_ne (fun e => hq e.symm)] at hk ⊢
    exact hk
theorem r_copyi {a a0 N ix : Nat} {f g : Nat → Int32} (q0 q1 : Nat) (ha0 : ws[q0]? = some (a0, .inl (Z.2.1, N, .inl f))) (ha1 : ws[q1]? = some (a, .inl (Z.2.1, N, .inl g))) {n : Int32} (hn0 : ¬ n < 0) (hn : n.toNatClampNeg = N) (w1 : Cond.methodLink own ix arraycopyName ∈ lw_tb) (w2 : Cond.native arraycopyName ∈ lw_tb) (w3 : Cond.static arraycopyName ∈ lw_tb) (w4 : Cond.initialized "java/lang/System" ∈ lw_tb) (hf : 1 ≤ R.frames) (hlo : (st.map fun v => v.category).sum + (nativeFrameWords "java/lang/System" "arraycopy" 5 + 11) ≤ R.locals) (d : decode cc pc = .ok (.invokestatic ix, 3)) {ws' : va_W} (hw9 : ws.set q1 (a, .inl (Z.2.1, N, .inl f)) = ws') (kk : AtK X Z R cc own nL kc ks ws' (pc + 3) lv st) : AtK X Z R cc own nL kc ks ws pc lv (.int n :: .int 0 :: .ref a :: .int 0 :: .ref a0 :: st) := by
  obtain ⟨p, l, e, s, m, args, below, meth, c, Q, A, H0⟩ := X
  intro hok H locs ls hP hD hS hl
  obtain ⟨hx, hb, hts, hown, ⟨hK, hN⟩, hml⟩ := id hok
  subst hw9
  have z0 : (0 : Int32).toNatClampNeg = 0 := by decide
  refine va_copyi hx hb (hml.trans hl.1.symm) hown (hts _ w1) (hts _ w2) (hts _ w3) (hts _ w4) hK hP hD hS q0 q1 0 0 ha0 ha1 rfl rfl rfl (by decide) (by decide) hn0 (by rw [z0, hn]; omega) (by rw [z0, hn]; omega) (fun i _ => rfl) hf hlo d (fun H1 locs1 hP1 hD1 hS1 => kk hok H1 locs1 ls ?_ (xD_dom hD1 (by simp [List.map_set])) hS1 hl)
  refine xP_arr (fun j hj => ?_) hP1
  rw [z0, hn]
  simp [va_cpy, hj]
theorem r_mmin {ix : Nat} (q1 : Cond.methodLink own ix Lib.Math.min.name ∈ lw_tb) (q2 : Cond.static Lib.Math.min.name ∈ lw_tb) (q3 : Cond.initialized "java/lang/Math" ∈ lw_tb) (q4 : Cond.code Lib.Math.min.name Lib.Math.min.code 2 (some .int) ∈ lw_tb) (hf : 1 ≤ R.frames) (hlo : (st.map fun v => v.category).sum + 13 ≤ R.locals) (hkc : kc ≤ R.cells) (hks : ks ≤ R.slots) {x y : Int32} (d : decode cc pc = .ok (.invokestatic ix, 3)) (kk : AtK X Z R cc own nL kc ks ws (pc + 3) lv (.int (if y < x then y else x) :: st)) : AtK X Z R cc own nL kc ks ws pc lv (.int y :: .int x :: st) := by
  obtain ⟨p, l, e, s, m, args, below, meth, c, Q, A, H0⟩ := X
  intro hok H locs ls hP hD hS hl
  obtain ⟨hx, hb, hts, hown, ⟨hK, hN⟩, hml⟩ := id hok
  exact va_mmin hx hb (hml.trans hl.1.symm) hown (hts _ q1) (hts _ q2) (hts _ q3) (hts _ q4) hf hlo hkc hks d (kk hok H locs ls hP hD hS hl)
theorem r_mmax {ix : Nat} (q1 : Cond.methodLink own ix Lib.Math.max.name ∈ lw_tb) (q2 : Cond.static Lib.Math.max.name ∈ lw_tb) (q3 : Cond.initialized "java/lang/Math" ∈ lw_tb) (q4 : Cond.code Lib.Math.max.name Lib.Math.max.code 2 (some .int) ∈ lw_tb) (hf : 1 ≤ R.frames) (hlo : (st.map fun v => v.category).sum + 13 ≤ R.locals) (hkc : kc ≤ R.cells) (hks : ks ≤ R.slots) {x y : Int32} (d : decode cc pc = .ok (.invokestatic ix, 3)) (kk : AtK X Z R cc own nL kc ks ws (pc + 3) lv (.int (if x < y then y else x) :: st)) : AtK X Z R cc own nL kc ks ws pc lv (.int y :: .int x :: st) := by
  obtain ⟨p, l, e, s, m, args, below, meth, c, Q, A, H0⟩ := X
  intro hok H locs ls hP hD hS hl
  obtain ⟨hx, hb, hts, hown, ⟨hK, hN⟩, hml⟩ := id hok
  exact va_mmax hx hb (hml.trans hl.1.symm) hown (hts _ q1) (hts _ q2) (hts _ q3) (hts _ q4) hf hlo hkc hks d (kk hok H locs ls hP hD hS hl)
theorem r_mabs {ix : Nat} (q1 : Cond.methodLink own ix Lib.Math.abs.name ∈ lw_tb) (q2 : Cond.static Lib.Math.abs.name ∈ lw_tb) (q3 : Cond.initialized "java/lang/Math" ∈ lw_tb) (q4 : Cond.code Lib.Math.abs.name Lib.Math.abs.code 1 (some .int) ∈ lw_tb) (hf : 1 ≤ R.frames) (hlo : (st.map fun v => v.category).sum + 13 ≤ R.locals) (hkc : kc ≤ R.cells) (hks : ks ≤ R.slots) {x : Int32} (d : decode cc pc = .ok (.invokestatic ix, 3)) (kk : AtK X Z R cc own nL kc ks ws (pc + 3) lv (.int (if 0 ≤ x then x else 0 - x) :: st)) : AtK X Z R cc own nL kc ks ws pc lv (.int x :: st) := by
  obtain ⟨p, l, e, s, m, args, below, meth, c, Q, A, H0⟩ := X
  intro hok H locs ls hP hD hS hl
  obtain ⟨hx, hb, hts, hown, ⟨hK, hN⟩, hml⟩ := id hok
  exact va_mabs hx hb (hml.trans hl.1.symm) hown (hts _ q1) (hts _ q2) (hts _ q3) (hts _ q4) hf hlo hkc hks d (kk hok H locs ls hP hD hS hl)
theorem r_callV {y : MethodName} {bytes : ByteArray} {maxL n ix : Nat} {ret : Option FieldType} {rm : Room} {As rest : List Value} {v : Option Value} {c0 c1 ws' : va_W} (j0 : Nat) {b ci : Nat} {fs : List Value} {r : vw_C} (hb0 : c0[j0]? = some (b, .inr (ci, fs))) (hci : vwCl[ci]? = some r) (hrc : r.1 = y.cls) (hM : ∀ l, Con Z l y bytes maxL ret rm (.ref b :: As) c0 v c1) (q : Cond.methodLink own ix y ∈ lw_tb) (mo : mVo y bytes maxL n ret) (hpk : xPk ws ws' c0 c1) (hR : rm.frames + 1 ≤ R.frames ∧ 8 + (maxL + 11) + rm.locals ≤ R.locals) (hrm : rm.cells = 0 ∧ rm.slots = 0) (hkc : kc ≤ R.cells ∧ ks ≤ R.slots) (hAs : As.length = n) (hroom : (rest.map fun v => v.category).sum ≤ 8) (hst : st = As.reverse ++ .ref b :: rest) (d : decode cc pc = .ok (.invokevirtual ix, 3)) (kk : AtK X Z R cc own nL kc ks ws' (pc + 3) lv (v.toList ++ rest)) : AtK X Z R cc own nL kc ks ws pc lv st := by
  obtain ⟨p, l, e, s, m, args, below, meth, c, Q, A, H0⟩ := X
  intro hok H locs ls hP hD hS hl
  obtain ⟨hx, hb, hts, hown, ⟨hK, hN⟩, hml⟩ := id hok
  subst hst
  have hD0 := hD
  have hrecv : ∃ cell : Cell, H[b]? = some cell ∧ cell.vm.isStatics = false ∧ s.vm.findClass y.cls = some cell.cls := by
    obtain ⟨-, -, hin9, -⟩ := hpk A hD
    obtain ⟨i9, hi9⟩ := List.getElem?_of_mem (hin9 _ (List.mem_of_getElem? hb0))
    have hz := va_recv hK hP hci hi9
    rw [hrc] at hz
    exact hz
  have hpre := x_pre (av := .ref b :: As) ⟨hK, hN⟩ hP hD hpk
  exact x_call (va_runV (C := y.cls) ⟨hx, hb, hml, hown, hts⟩ (hM l) (⟨callB_of n hts (lw_GoodIn mo.2.2.2.1) rfl hrm.1 hrm.2 (hts _ mo.2.2.1) (hts _ q) mo.2.2.2.2 hR, hts _ mo.1, hts _ mo.2.1⟩) ⟨x_blind _ _, hrecv, hpre⟩ rfl hAs hl.1 rfl (lv_room hroom) d ⟨hkc.1, hkc.2⟩) hP hD hS hpk (fun H1 locs1 hP1 hD1 hS1 => kk hok H1 locs1 ls hP1 hD1 hS1 hl)
theorem r_callVN {y : MethodName} {bytes : ByteArray} {maxL n ix : Nat} {ret : Option FieldType} {rm : Room} {As rest : List Value} {v : Option Value} {c0 c1 ws' : va_W} {host : String} (j0 : Nat) {b ci : Nat} {fs : List Value} {r : vw_C} (hb0 : c0[j0]? = some (b, .inr (ci, fs))) (hci : vwCl[ci]? = some r) (hrc : r.1 = y.cls) (hM : ∀ l, Con Z l y bytes maxL ret rm (.ref b :: As) c0 v c1) (q : Cond.methodLinkNest own ix y host ∈ lw_ns) (mo : mVo y bytes maxL n ret) (hpk : xPk ws ws' c0 c1) (hR : rm.frames + 1 ≤ R.frames ∧ 8 + (maxL + 11) + rm.locals ≤ R.locals) (hrm : rm.cells = 0 ∧ rm.slots = 0) (hkc : kc ≤ R.cells ∧ ks ≤ R.slots) (hAs : As.length = n) (hroom : (rest.map fun v => v.category).sum ≤ 8) (hst : st = As.reverse ++ .ref b :: rest) (d : decode cc pc = .ok (.invokevirtual ix, 3)) (kk : AtK X Z R cc own nL kc ks ws' (pc + 3) lv (v.toList ++ rest)) : AtK X Z R cc own nL kc ks ws pc lv st := by
  obtain ⟨p, l, e, s, m, args, below, meth, c, Q, A, H0⟩ := X
  intro hok H locs ls hP hD hS hl
  obtain ⟨hx, hb, hts, hown, ⟨hK, hN⟩, hml⟩ := id hok
  subst hst
  have hD0 := hD
  have hrecv : ∃ cell : Cell, H[b]? = some cell ∧ cell.vm.isStatics = false ∧ s.vm.findClass y.cls = some cell.cls := by
    obtain ⟨-, -, hin9, -⟩ := hpk A hD
    obtain ⟨i9, hi9⟩ := List.getElem?_of_mem (hin9 _ (List.mem_of_getElem? hb0))
    have hz := va_recv hK hP hci hi9
    rw [hrc] at hz
    exact hz
  have hpre := x_pre (av := .ref b :: As) ⟨hK, hN⟩ hP hD hpk
  exact x_call (va_runVN (C := y.cls) ⟨hx, hb, hml, hown, hts⟩ (hM l) (⟨va_cnB n hts (lw_GoodIn mo.2.2.2.1) rfl hrm.1 hrm.2 (hN _ q) (hts _ mo.2.2.1) mo.2.2.2.2 hR, hts _ mo.1, hts _ mo.2.1⟩) ⟨x_blind _ _, hrecv, hpre⟩ rfl hAs hl.1 rfl (lv_room hroom) d ⟨hkc.1, hkc.2⟩) hP hD hS hpk (fun H1 locs1 hP1 hD1 hS1 => kk hok H1 locs1 ls hP1 hD1 hS1 hl)
theorem r_callS {y : MethodName} {bytes : ByteArray} {maxL n ix : Nat} {ret : Option FieldType} {rm : Room} {As rest : List Value} {v : Option Value} {c0 c1 ws' : va_W}  (hM : ∀ l, Con Z l y bytes maxL ret rm (As) c0 v c1) (q : Cond.methodLink own ix y ∈ lw_tb) (mo : mSo y bytes maxL n ret) (hpk : xPk ws ws' c0 c1) (hR : rm.frames + 1 ≤ R.frames ∧ 8 + (maxL + 11) + rm.locals ≤ R.locals) (hrm : rm.cells = 0 ∧ rm.slots = 0) (hkc : kc ≤ R.cells ∧ ks ≤ R.slots) (hAs : As.length = n) (hroom : (rest.map fun v => v.category).sum ≤ 8) (hst : st = As.reverse ++ rest) (d : decode cc pc = .ok (.invokestatic ix, 3)) (kk : AtK X Z R cc own nL kc ks ws' (pc + 3) lv (v.toList ++ rest)) : AtK X Z R cc own nL kc ks ws pc lv st := by
  obtain ⟨p, l, e, s, m, args, below, meth, c, Q, A, H0⟩ := X
  intro hok H locs ls hP hD hS hl
  obtain ⟨hx, hb, hts, hown, ⟨hK, hN⟩, hml⟩ := id hok
  subst hst
  have hD0 := hD
  have hpre := x_pre (av := As) ⟨hK, hN⟩ hP hD hpk
  exact x_call (va_runS ⟨hx, hb, hml, hown, hts⟩ (hM l) (⟨callB_of n hts (lw_GoodIn mo.2.2.1) rfl hrm.1 hrm.2 (hts _ mo.2.1) (hts _ q) mo.2.2.2 hR, hts _ mo.1⟩) ⟨x_blind _ _, hpre⟩ rfl hAs hl.1 rfl (lv_room hroom) d ⟨hkc.1, hkc.2⟩) hP hD hS hpk (fun H1 locs1 hP1 hD1 hS1 => kk hok H1 locs1 ls hP1 hD1 hS1 hl)
theorem r_callSN {y : MethodName} {bytes : ByteArray} {maxL n ix : Nat} {ret : Option FieldType} {rm : Room} {As rest : List Value} {v : Option Value} {c0 c1 ws' : va_W} {host : String}  (hM : ∀ l, Con Z l y bytes maxL ret rm (As) c0 v c1) (q : Cond.methodLinkNest own ix y host ∈ lw_ns) (mo : mSo y bytes maxL n ret) (hpk : xPk ws ws' c0 c1) (hR : rm.frames + 1 ≤ R.frames ∧ 8 + (maxL + 11) + rm.locals ≤ R.locals) (hrm : rm.cells = 0 ∧ rm.slots = 0) (hkc : kc ≤ R.cells ∧ ks ≤ R.slots) (hAs : As.length = n) (hroom : (rest.map fun v => v.category).sum ≤ 8) (hst : st = As.reverse ++ rest) (d : decode cc pc = .ok (.invokestatic ix, 3)) (kk : AtK X Z R cc own nL kc ks ws' (pc + 3) lv (v.toList ++ rest)) : AtK X Z R cc own nL kc ks ws pc lv st := by
  obtain ⟨p, l, e, s, m, args, below, meth, c, Q, A, H0⟩ := X
  intro hok H locs ls hP hD hS hl
  obtain ⟨hx, hb, hts, hown, ⟨hK, hN⟩, hml⟩ := id hok
  subst hst
  have hD0 := hD
  have hpre := x_pre (av := As) ⟨hK, hN⟩ hP hD hpk
  exact x_call (va_runSN ⟨hx, hb, hml, hown, hts⟩ (hM l) (⟨va_cnB n hts (lw_GoodIn mo.2.2.1) rfl hrm.1 hrm.2 (hN _ q) (hts _ mo.2.1) mo.2.2.2 hR, hts _ mo.1, trivial⟩) ⟨x_blind _ _, hpre⟩ rfl hAs hl.1 rfl (lv_room hroom) d ⟨hkc.1, hkc.2⟩) hP hD hS hpk (fun H1 locs1 hP1 hD1 hS1 => kk hok H1 locs1 ls hP1 hD1 hS1 hl)
/-- what is known of the end: the answer v and the cells ws' -/
def endsX (X : CX) (Z : GZ) (ret : Option FieldType) (v : Option Value) (ws' : va_W) : Prop := match X with
  | (_, _, _, s, _, args, below, meth, _, Q, A, H0) => meth.sig.returnType = ret ∧ meth.locks = false ∧ H0 = s.heap ∧ Q = MQ below (xQ Z v ws' A) args s 0 0 A
theorem r_zret {ret : FieldType} {x : Int32} (hE : endsX X Z (some ret) (some (.int x)) ws) (hn : narrow ret (.int x) = .int x) (d : decode cc pc = .ok (.ireturn, 1)) : AtK X Z R cc own nL 0 0 ws pc lv [.int x] := by
  obtain ⟨p, l, e, s, m, args, below, meth, c, Q, A, H0⟩ := X
  intro hok H locs ls hP hD hS hl
  obtain ⟨hx, hb, hts, hown, ⟨hK, hN⟩, hml⟩ := id hok
  obtain ⟨hr, hlk, rfl, rfl⟩ := hE
  exact W.zret hx hb hr hn (fun t ht hW => ⟨⟨rfl, by rw [ht]; exact hP⟩, hS.F ht⟩) hS.2.2 d hlk
theorem r_iret {x : Int32} (hE : endsX X Z (some .int) (some (.int x)) ws) (d : decode cc pc = .ok (.ireturn, 1)) : AtK X Z R cc own nL 0 0 ws pc lv [.int x] := r_zret hE rfl d
theorem x_nei {x v : Int32} {n : Int} (hv : v.toInt = n) (h : ¬ x = v) : ¬ x.toInt = n := fun e => h (Int32.toInt_inj.mp (e.trans hv.symm))
theorem bzn {x : Int32} (h : x = 0 ∨ x = 1) : narrow .boolean (.int x) = .int x ∧ fits .boolean (.int x) = true := by
  rcases h with rfl | rfl <;> exact ⟨by decide, by decide⟩
theorem r_bret {x : Int32} (hE : endsX X Z (some .boolean) (some (.int x)) ws) (hz : x = 0 ∨ x = 1) (d : decode cc pc = .ok (.ireturn, 1)) : AtK X Z R cc own nL 0 0 ws pc lv [.int x] := r_zret hE (bzn hz).1 d
theorem r_vret (hE : endsX X Z none none ws) (d : decode cc pc = .ok (.return_, 1)) : AtK X Z R cc own nL 0 0 ws pc lv [] := by
  obtain ⟨p, l, e, s, m, args, below, meth, c, Q, A, H0⟩ := X
  intro hok H locs ls hP hD hS hl
  obtain ⟨hx, hb, hts, hown, ⟨hK, hN⟩, hml⟩ := id hok
  obtain ⟨hr, hlk, rfl, rfl⟩ := hE
  exact W.vret hx hb hr (fun t ht hW => ⟨⟨rfl, by rw [ht]; exact hP⟩, hS.F ht⟩) hS.2.2 d hlk
theorem r_aret {C : String} {x : Nat} (hE : endsX X Z (some (.object C)) (some (.ref x)) ws) (d : decode cc pc = .ok (.areturn, 1)) : AtK X Z R cc own nL 0 0 ws pc lv [.ref x] := by
  obtain ⟨p, l, e, s, m, args, below, meth, c, Q, A, H0⟩ := X
  intro hok H locs ls hP hD hS hl
  obtain ⟨hx, hb, hts, hown, ⟨hK, hN⟩, hml⟩ := id hok
  obtain ⟨hr, hlk, rfl, rfl⟩ := hE
  exact W.aret hx hb hr (Or.inl ⟨_, rfl⟩) (Or.inr ⟨_, rfl⟩) (fun t ht hW => ⟨⟨rfl, by rw [ht]; exact hP⟩, hS.F ht⟩) hS.2.2 d hlk
theorem r_aretq {C : String} {v : Value} (hE : endsX X Z (some (.object C)) (some v) ws) (hv : v = .null ∨ ∃ a, v = .ref a) (d : decode cc pc = .ok (.areturn, 1)) : AtK X Z R cc own nL 0 0 ws pc lv [v] := by
  obtain ⟨p, l, e, s, m, args, below, meth, c, Q, A, H0⟩ := X
  intro hok H locs ls hP hD hS hl
  obtain ⟨hx, hb, hts, hown, hK, hml⟩ := id hok
  obtain ⟨hr, hlk, rfl, rfl⟩ := hE
  exact W.aret hx hb hr (Or.inl ⟨_, rfl⟩) hv (fun t ht hW => ⟨⟨rfl, by rw [ht]; exact hP⟩, hS.F ht⟩) hS.2.2 d hlk
end KT2
/-- a contract, out of the walk from the method's first instruction -/
theorem Con.of {Z : GZ} {l : Launch} {y : MethodName} {c : ByteArray} {n : Nat} {ret : Option FieldType} {rm : Room} {av : List Value} {ws : va_W} {v : Option Value} {ws' : va_W} (hy : plainName y.cls = true) (hn : (lg_sl av).length ≤ n)
    (body : ∀ X : CX, endsX X Z ret v ws' → AtK X Z rm c y.cls n 0 0 ws 0 (lv_args 0 av) []) : Con Z l y c n ret rm av ws v ws' := by
  refine Met.ofW (cc := c) (maxL := n) (ret := ret) hy rfl ?_
  intro p e s m args below meth cd s₁ B hml hv
  obtain ⟨rfl, hP, hK, hD0⟩ := hv
  have hts := atoms_spec (ws := wsY y c n ret) B.pre
  have hown : s.vm.findClass y.cls = some m.cls := findClass_of_methodNamed B.named
  have hl := lv_entry av hn
  rw [lg_entry_eq]
  have hD : va_D (xA ws) ws := ⟨hD0.1, fun k q hk => ⟨k, q.2, hk⟩⟩
  exact body (p, l, e, s, m, av.toArray, below, meth, cd, _, xA ws, s.heap) ⟨B.returns, B.notSynchronized, rfl, rfl⟩ ⟨B.exec, B.bytes, fun w h => hts w (List.mem_cons_of_mem _ h), hown, hK, hml⟩ s.heap [] _ hP hD va_S.rf hl

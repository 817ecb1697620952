-- constructors: their calls
abbrev mIo (y : MethodName) (bytes : ByteArray) (maxL : Nat) : Prop := (.instanceMethod y : Cond) ∈ lw_tb ∧ y.name = "<init>" ∧ Cond.initialized y.cls ∈ lw_tb ∧ Cond.code y bytes maxL none ∈ lw_tb ∧ (y.cls ≠ "java/lang/invoke/MethodHandle" ∧ y.cls ≠ "java/lang/invoke/VarHandle" ∧ (parseMethodDescriptor y.desc).map (fun d => d.parameters.length) = some 0)
theorem xP_iff {D : va_G} {cl : List vw_C} {ws : va_W} {H : Heap} : va_P D cl ws H ↔ ∀ q ∈ ws, va_at D cl q H :=
  ⟨fun h q hq => by obtain ⟨k, hk⟩ := List.getElem?_of_mem hq; exact h k q hk, fun h k q hk => h q (List.mem_of_getElem? hk)⟩
theorem x_join {D : va_G} {cl : List vw_C} {A : Nat → Prop} {wr nw : va_W} {c : Nat × va_E} {H0 H H1 : Heap} {locs : List Loc} (hP : va_P D cl (wr ++ [c]) H) (hD : va_D A (wr ++ [c])) (hS : va_S A H0 H locs) (hA : ∀ q, H0.size ≤ q → A q) (hk : ∀ q : Nat, q < H.size → ¬ va_A [c] H.size q → H1[q]? = H[q]?) (hP1 : va_P D cl nw H1) (hD1 : va_D (va_A [c] H.size) nw) : va_P D cl (wr ++ nw) H1 ∧ va_D A (wr ++ nw) := by
  rw [xP_iff] at hP hP1 ⊢
  rw [xD_iff] at hD hD1 ⊢
  have hc : ∀ q, va_A [c] H.size q → q = c.1 ∨ H.size ≤ q := by
    rintro q (⟨k, e, h⟩ | h)
    · left
      have h2 := List.mem_of_getElem? h
      rw [List.mem_singleton] at h2
      rw [← h2]
    · exact Or.inr h
  have hlt : ∀ q ∈ wr, q.1 < H.size ∧ q.1 ≠ c.1 := by
    intro q hq
    have h1 := hP q (List.mem_append_left _ hq)
    have h2 : va_P D cl [q] H := xP_iff.mpr (fun z hz => by rw [List.mem_singleton] at hz; subst hz; exact h1)
    refine ⟨(h2 0 q rfl).lt, fun e => ?_⟩
    have hN := hD.1
    rw [List.map_append, List.nodup_append] at hN
    exact hN.2.2 q.1 (List.mem_map.mpr ⟨q, hq, rfl⟩) c.1 (by simp) e
  refine ⟨fun q hq => ?_, ?_, fun q hq => ?_⟩
  · rcases List.mem_append.mp hq with h | h
    · obtain ⟨g1, g2⟩ := hlt q h
      have h2 : va_P D cl [q] H := xP_iff.mpr (fun z hz => by rw [List.mem_singleton] at hz; subst hz; exact hP _ (List.mem_append_left _ h))
      exact (h2 0 q rfl).kept (hk q.1 g1 (fun z => (hc _ z).elim g2 (fun z => by omega)))
    · exact hP1 q h
  · rw [List.map_append, List.nodup_append]
    have hN := hD.1
    rw [List.map_append, List.nodup_append] at hN
    refine ⟨hN.1, hD1.1, fun x hx y hy e => ?_⟩
    obtain ⟨q, hq, rfl⟩ := List.mem_map.mp hx
    obtain ⟨r, hr, rfl⟩ := List.mem_map.mp hy
    obtain ⟨g1, g2⟩ := hlt q hq
    rcases hc _ (hD1.2 r hr) with z | z
    · exact g2 (e.trans z)
    · omega
  · rcases List.mem_append.mp hq with h | h
    · exact hD.2 q (List.mem_append_left _ h)
    · rcases hc _ (hD1.2 q h) with z | z
      · rw [z]; exact hD.2 c (List.mem_append_right _ (List.mem_singleton.mpr rfl))
      · exact hA _ (Nat.le_trans hS.1 z)
section KT8
variable {p : Program} {l : Launch} {e : Env} {R : Room} {s : State} {m : MethodId} {args : Array Value} {below : List Frame} {meth : Method} {c : Code} {H : Heap} {locs : List Loc} {kc ks mc ms : Nat} {Q : State → Prop} {Z : GZ} {A : Nat → Prop} {H0 : Heap} {P : va_W → Prop}
theorem x_callN {pc : Nat} {ls : Array Slot} {st0 rest : List Value} {a : Array Value} {wr : va_W} {c0 : Nat × va_E}
    (hr : va_Run p l e R s m args below meth c H locs kc ks mc ms (F0 m pc ls st0) rest (xQN Z P (va_A [c0] H.size) a) (va_A [c0] H.size)) (hP : va_P Z.1 vwCl (wr ++ [c0]) H) (hD : va_D A (wr ++ [c0])) (hS : va_S A H0 H locs) (hA : ∀ q, H0.size ≤ q → A q)
    (kk : ∀ (nw : va_W) (H1 : Heap) (locs1 : List Loc), P nw → va_P Z.1 vwCl (wr ++ nw) H1 → va_D A (wr ++ nw) → va_S A H0 H1 locs1 → W p l e R s m args below meth c H1 locs1 (kc + mc) (ks + ms) Q (F0 m (pc + 3) ls rest)) : W p l e R s m args below meth c H locs kc ks Q (F0 m pc ls st0) := by
  intro T hT X
  obtain ⟨v', st₀, t, T', L, hh, X', hL, e1, e2, ⟨⟨hv, nw, hp, hb, hd⟩, hz, hk⟩, st⟩ := hr T hT X
  cases hv
  rw [hh] at hz hk
  obtain ⟨hP', hD'⟩ := x_join hP hD hS hA hk hb hd
  have hAin : ∀ q : Nat, va_A [c0] H.size q → A q := by
    rintro q (⟨j, e0, hj⟩ | h)
    · exact (xD_iff.mp hD).2 _ (List.mem_append_right _ (List.mem_of_getElem? hj))
    · exact hA _ (Nat.le_trans hS.1 h)
  obtain ⟨t2, a1, b1⟩ := kk nw t.heap (locs ++ L) hp hP' hD' ⟨Nat.le_trans hS.1 hz, fun q h1 h2 => by rw [hk q (Nat.lt_of_lt_of_le h1 hS.1) (fun z => h2 (hAin q z))]; exact hS.2.1 q h1 h2, fun q hq => by
      rcases List.mem_append.mp hq with h | h
      · exact hS.2.2 q h
      · exact hAin _ (hL q h)⟩ T' e1 X'
  exact ⟨t2, st t2 a1, b1⟩
theorem x_blindN (av : List Value) (ws : va_W) (sz : Nat) : FrameBlind (va_Pc av (fun U => U.heap.size = sz ∧ aoB U ∧ xPre Z ws U)) := fun a U g mk q => by
  obtain ⟨q0, q1, q2, qP, qK, qD⟩ := q
  exact ⟨q0, q1, ⟨va_AO.moved (u := U) (U := U.calling g mk a) (Vm.Alike.refl U.vm) q2.1, va_AO.moved (u := U) (U := U.calling g mk a) (Vm.Alike.refl U.vm) q2.2⟩, qP, ⟨va_K.moved (u := U) (U := U.calling g mk a) (Vm.Alike.refl U.vm) qK.1, fun w hw => va_Nw.same (ns_on hw) (u := U) (U := U.calling g mk a) rfl (qK.2 w hw)⟩, qD⟩
theorem x_preN {av : List Value} {wr : va_W} {c0 : Nat × va_E} (hK : Kx Z s) (hao : aoB s) (hP : va_P Z.1 vwCl (wr ++ [c0]) H) : ∀ U : State, U.heap = H → s.WarmedH U.vm → va_Pc av (fun U => U.heap.size = H.size ∧ aoB U ∧ xPre Z [c0] U) av.toArray U := by
  intro U hU hW
  refine ⟨rfl, by rw [hU], ⟨va_AO.moved hW.alike hao.1, va_AO.moved hW.alike hao.2⟩, ?_, ⟨va_K.moved hW.alike hK.1, fun w hw => ns_warm hw hW (hK.2 w hw)⟩, xD_iff.mpr ⟨by simp, fun _ _ => trivial⟩⟩
  rw [hU, xP_iff]
  intro q hq
  rw [List.mem_singleton] at hq
  subst hq
  exact xP_iff.mp hP _ (List.mem_append_right _ (List.mem_singleton.mpr rfl))
end KT8
section KT7
variable {X : CX} {Z : GZ} {R : Room} {cc : ByteArray} {own : String} {nL kc ks : Nat} {pc : Nat} {lv : List (Nat × Value)} {st : List Value}
theorem r_init {y : MethodName} {bytes : ByteArray} {maxL ix mc ms : Nat} {rm : Room} {wr : va_W} {b : Nat} {cell : va_E} {P : va_W → Prop} (hn : newX X) (hM : ∀ l, ConN Z l y bytes maxL rm [.ref b] [(b, cell)] mc ms P) (q : Cond.methodLink own ix y ∈ lw_tb) (mo : mIo y bytes maxL) (hR : rm.frames + 1 ≤ R.frames ∧ 8 + (maxL + 11) + rm.locals ≤ R.locals) (hrm : rm.cells = mc ∧ rm.slots = ms) (hkc : kc + mc ≤ R.cells ∧ ks + ms ≤ R.slots) (hroom : (st.map fun v => v.category).sum ≤ 8) (d : decode cc pc = .ok (.invokespecial ix, 3)) (kk : ∀ nw, P nw → AtK X Z R cc own nL (kc + mc) (ks + ms) (wr ++ nw) (pc + 3) lv st) : AtK X Z R cc own nL kc ks (wr ++ [(b, cell)]) pc lv (.ref b :: st) := by
  obtain ⟨p, l, e, s, m, args, below, meth, c, Q, A, H0⟩ := X
  intro hok H locs ls hP hD hS hl
  obtain ⟨hx, hb, hts, hown, ⟨hK, hN⟩, hml⟩ := id hok
  exact x_callN (va_runI (As := []) (rest := st) ⟨hx, hb, hml, hown, hts⟩ (hM l H.size) (⟨callB_of 0 hts (lw_GoodIn mo.2.2.2.1) rfl hrm.1 hrm.2 (hts _ mo.2.2.1) (hts _ q) mo.2.2.2.2 hR, mo.2.1, hts _ mo.1⟩) ⟨x_blindN _ _ _, x_preN ⟨hK, hN⟩ hn.2 hP⟩ rfl rfl hl.1 rfl (lv_room hroom) d ⟨hkc.1, hkc.2⟩) hP hD hS hn.1 (fun nw H1 locs1 hp hP1 hD1 hS1 => kk nw hp hok H1 locs1 ls hP1 hD1 hS1 hl)
theorem r_initN {y : MethodName} {bytes : ByteArray} {maxL ix mc ms : Nat} {rm : Room} {wr : va_W} {b : Nat} {cell : va_E} {P : va_W → Prop} {host : String} (hn : newX X) (hM : ∀ l, ConN Z l y bytes maxL rm [.ref b] [(b, cell)] mc ms P) (q : Cond.methodLinkNest own ix y host ∈ lw_ns) (mo : mIo y bytes maxL) (hR : rm.frames + 1 ≤ R.frames ∧ 8 + (maxL + 11) + rm.locals ≤ R.locals) (hrm : rm.cells = mc ∧ rm.slots = ms) (hkc : kc + mc ≤ R.cells ∧ ks + ms ≤ R.slots) (hroom : (st.map fun v => v.category).sum ≤ 8) (d : decode cc pc = .ok (.invokespecial ix, 3)) (kk : ∀ nw, P nw → AtK X Z R cc own nL (kc + mc) (ks + ms) (wr ++ nw) (pc + 3) lv st) : AtK X Z R cc own nL kc ks (wr ++ [(b, cell)]) pc lv (.ref b :: st) := by
  obtain ⟨p, l, e, s, m, args, below, meth, c, Q, A, H0⟩ := X
  intro hok H locs ls hP hD hS hl
  obtain ⟨hx, hb, hts, hown, ⟨hK, hN⟩, hml⟩ := id hok
  exact x_callN (va_runIN (As := []) (rest := st) ⟨hx, hb, hml, hown, hts⟩ (hM l H.size) (⟨va_cnB 0 hts (lw_GoodIn mo.2.2.2.1) rfl hrm.1 hrm.2 (hN _ q) (hts _ mo.2.2.1) mo.2.2.2.2 hR, mo.2.1, hts _ mo.1⟩) ⟨x_blindN _ _ _, x_preN ⟨hK, hN⟩ hn.2 hP⟩ rfl rfl hl.1 rfl (lv_room hroom) d ⟨hkc.1, hkc.2⟩) hP hD hS hn.1 (fun nw H1 locs1 hp hP1 hD1 hS1 => kk nw hp hok H1 locs1 ls hP1 hD1 hS1 hl)
end KT7

def lw_tb : List Cond := lw_tbl.filter goodWord
-- an abstract machine over the kit's rows: AtK says that from a world, a place, locals and a stack the frame comes to its end
def isNest : Cond → Bool
  | .methodLinkNest .. => true
  | .fieldLinkNest .. => true
  | _ => false
def lw_ns : List Cond := lw_tbl.filter isNest
theorem ns_on {w : Cond} (h : w ∈ lw_ns) : w.onTables = true := by
  have h1 := (List.mem_filter.mp h).2
  cases w <;> first | rfl | cases h1
theorem ns_warm {w : Cond} (h : w ∈ lw_ns) {s U : State} (hW : s.WarmedH U.vm) (hZ : va_Nw w s) : va_Nw w U := by
  have h1 := (List.mem_filter.mp h).2
  cases w <;> first | exact va_Nw.warmM hW hZ | exact va_Nw.warmF hW hZ | cases h1
theorem lw_un {w : Cond} (h : w ∈ lw_tbl) (g : isNest w = true) : w ∈ lw_ns := List.mem_filter.mpr ⟨h, g⟩
abbrev GZ : Type := va_G × ClassId × ClassId × ClassId
def Kx (Z : GZ) (s : State) : Prop := va_K Z.1 vwCl [(Z.2.1, .int), (Z.2.2.1, .object RX5), (Z.2.2.2, .object RX1)] s ∧ ∀ w ∈ lw_ns, va_Nw w s
abbrev CX : Type := Program × Launch × Env × State × MethodId × Array Value × List Frame × Method × Code × (State → Prop) × (Nat → Prop) × Heap
def okC (p : Program) (s : State) (m : MethodId) (args : Array Value) (c : Code) (Z : GZ) (cc : ByteArray) (own : String) (nL : Nat) : Prop := p.tables.exec = Jvm.exec ∧ c.code = cc ∧ (∀ w ∈ lw_tb, w.before args s = true) ∧ s.vm.findClass own = some m.cls ∧ Kx Z s ∧ c.maxLocals = nL
def AtK (X : CX) (Z : GZ) (R : Room) (cc : ByteArray) (own : String) (nL kc ks : Nat) (ws : va_W) (pc : Nat) (lv : List (Nat × Value)) (st : List Value) : Prop := match X with
  | (p, l, e, s, m, args, below, meth, c, Q, A, H0) => okC p s m args c Z cc own nL → ∀ (H : Heap) (locs : List Loc) (ls : Array Slot), va_P Z.1 vwCl ws H → va_D A ws → va_S A H0 H locs → lv_has ls nL lv → W p l e R s m args below meth c H locs kc ks Q (F0 m pc ls st)
def jrem (x y : Int32) : Int32 := x - x / y * y
def xset : va_W → List Nat → va_W → va_W
  | ws, i :: is, c :: cs => xset (ws.set i c) is cs
  | ws, _, _ => ws
def xA (ws : va_W) : Nat → Prop := fun q => ∃ (k : Nat) (e : va_E), ws[k]? = some (q, e)
def xPre (Z : GZ) (ws : va_W) : State → Prop := fun U => va_P Z.1 vwCl ws U.heap ∧ Kx Z U ∧ va_D (fun _ => True) ws
def xQ (Z : GZ) (v : Option Value) (ws' : va_W) (A : Nat → Prop) : Array Value → State → Outcome → State → Prop := fun _ st oc t => (oc = .returned v ∧ va_P Z.1 vwCl ws' t.heap) ∧ va_F A st t
abbrev wsY (y : MethodName) (c : ByteArray) (n : Nat) (ret : Option FieldType) : List Cond := .code y c n ret :: lw_tb
/-- a method's contract: from the cells ws it answers v and leaves the cells ws' (at the same addresses), nothing else changed, nothing made -/
def Con (Z : GZ) (l : Launch) (y : MethodName) (c : ByteArray) (n : Nat) (ret : Option FieldType) (rm : Room) (av : List Value) (ws : va_W) (v : Option Value) (ws' : va_W) : Prop := Met l y (wsY y c n ret) rm (va_Pc av (xPre Z ws)) (xQ Z v ws' (xA ws)) 0 0 (xA ws)
theorem og {α : Type} {c : Prop} [Decidable c] {a : Option α} {o : α} (h : (if c then none else a) = some o) : ¬ c ∧ a = some o := by
  by_cases hc : c
  · rw [if_pos hc] at h; cases h
  · rw [if_neg hc] at h; exact ⟨hc, h⟩
theorem ob {α β : Type} {x : Option α} {k : α → Option β} {o : β} (h : x.bind k = some o) : ∃ a, x = some a ∧ k a = some o := by
  cases x with
  | none => cases h
  | some a => exact ⟨a, rfl, h⟩
theorem lw_up {w : Cond} (h : w ∈ lw_tbl) (g : goodWord w = true) : w ∈ lw_tb := List.mem_filter.mpr ⟨h, g⟩
theorem lw_lays {C : String} {T : u_T} {N : Nat} (h : ∀ w ∈ u_ws C T N, w ∈ lw_tbl) : ∀ w ∈ u_ws C T N, w ∈ lw_tb := by
  intro w hw
  refine lw_up (h w hw) ?_
  obtain ⟨k, -, rfl⟩ := List.mem_map.mp hw
  unfold u_lay
  split <;> rfl
theorem kX0 : ∀ w ∈ wsX00, w ∈ lw_tb := lw_lays inX0
theorem kX1 : ∀ w ∈ wsX10, w ∈ lw_tb := lw_lays inX1
theorem kX2 : ∀ w ∈ wsX20, w ∈ lw_tb := lw_lays inX2
theorem kX3 : ∀ w ∈ wsX30, w ∈ lw_tb := lw_lays inX3
theorem kX4 : ∀ w ∈ wsX40, w ∈ lw_tb := lw_lays inX4
theorem kX5 : ∀ w ∈ wsX50, w ∈ lw_tb := lw_lays inX5
theorem kX6 : ∀ w ∈ wsX60, w ∈ lw_tb := lw_lays inX6
theorem lw_GoodIn {y : MethodName} {c : ByteArray} {n : Nat} {ret : Option FieldType} (h : Cond.code y c n ret ∈ lw_tb) : GoodIn lw_tb (wsY y c n ret) := by
  intro w hw
  have hm : w ∈ lw_tb := by
    rcases List.mem_cons.mp hw with rfl | hw
    · exact h
    · exact hw
  exact ⟨hm, good_of_word (List.mem_filter.mp hm).2⟩
section KT1
variable {p : Program} {l : Launch} {e : Env} {R : Room} {s : State} {m : MethodId} {args : Array Value} {below : List Frame} {meth : Method} {c : Code} {H : Heap} {locs : List Loc} {kc ks : Nat} {Q : State → Prop} {Z : GZ} {A : Nat → Prop} {H0 : Heap}
theorem xD_dom {B : Nat → Prop} {ws ws' : va_W} (h : va_D B ws) (hd : ws'.map Prod.fst = ws.map Prod.fst) : va_D B ws' := by
  have key : ∀ (k : Nat) (q : Nat × va_E), ws'[k]? = some q → ∃ q', ws[k]? = some q' ∧ q'.1 = q.1 := by
    intro k q hk
    have h1 : (ws'.map Prod.fst)[k]? = some q.1 := by rw [List.getElem?_map, hk]; rfl
    rw [hd, List.getElem?_map] at h1
    cases h2 : ws[k]? with
    | none => rw [h2] at h1; cases h1
    | some q' => rw [h2] at h1; exact ⟨q', rfl, Option.some.inj h1⟩
  refine ⟨fun i j p q hi hj hpq => ?_, fun k q hk => ?_⟩
  · obtain ⟨p', hp1, hp2⟩ := key i p hi
    obtain ⟨q', hq1, hq2⟩ := key j q hj
    exact h.1 i j p' q' hp1 hq1 (by rw [hp2, hq2, hpq])
  · obtain ⟨q', hq1, hq2⟩ := key k q hk
    rw [← hq2]
    exact h.2 k q' hq1
theorem xset_get : ∀ (is : List Nat) (cs ws : va_W) (k : Nat) (q : Nat × va_E), is.length = cs.length → (xset ws is cs)[k]? = some q → q ∈ cs ∨ (k ∉ is ∧ ws[k]? = some q)
  | [], [], ws, k, q, _, h => Or.inr ⟨by simp, h⟩
  | [], _ :: _, ws, k, q, hl, h => by simp at hl
  | _ :: _, [], ws, k, q, hl, h => by simp at hl
  | i :: is, c :: cs, ws, k, q, hl, h => by
    rcases xset_get is cs (ws.set i c) k q (by simpa using hl) h with h | ⟨h1, h2⟩
    · exact Or.inl (List.mem_cons_of_mem _ h)
    · by_cases hk : k = i
      · subst hk
        rw [List.getElem?_set] at h2
        simp only [if_true] at h2
        split at h2
        · cases h2; exact Or.inl List.mem_cons_self
        · cases h2
      · rw [List.getElem?_set_ne (fun h => hk h.symm)] at h2
        exact Or.inr ⟨by simp [hk, h1], h2⟩
theorem x_in {ws c0 : va_W} {is : List Nat} (h0 : is.map (fun i => ws[i]?) = c0.map some) {j : Nat} {q : Nat × va_E} (h : c0[j]? = some q) : ∃ i, is[j]? = some i ∧ ws[i]? = some q := va_in_of is h0 h
theorem xD_iff {B : Nat → Prop} {ws : va_W} : va_D B ws ↔ (ws.map Prod.fst).Nodup ∧ ∀ q ∈ ws, B q.1 := by
  constructor
  · intro h
    refine ⟨?_, fun q hq => ?_⟩
    · rw [List.Nodup, List.pairwise_iff_getElem]
      intro i j hi hj hij he
      simp only [List.length_map] at hi hj
      simp only [List.getElem_map] at he
      have := h.1 i j ws[i] ws[j] (List.getElem?_eq_getElem hi) (List.getElem?_eq_getElem hj) he
      omega
    · obtain ⟨k, hk⟩ := List.getElem?_of_mem hq
      exact h.2 k q hk
  · rintro ⟨h1, h2⟩
    refine ⟨fun i j p q hi hj hpq => ?_, fun k q hk => h2 q (List.mem_of_getElem? hk)⟩
    rw [List.Nodup, List.pairwise_iff_getElem] at h1
    obtain ⟨hi1, hi2⟩ := List.getElem?_eq_some_iff.mp hi
    obtain ⟨hj1, hj2⟩ := List.getElem?_eq_some_iff.mp hj
    rcases Nat.lt_trichotomy i j with h | h | h
    · refine absurd ?_ (h1 i j (by simpa using hi1) (by simpa using hj1) h)
      simp [hi2, hj2, hpq]
    · exact h
    · refine absurd ?_ (h1 j i (by simpa using hj1) (by simpa using hi1) h)
      simp [hi2, hj2, hpq]
theorem xA_mem {ws : va_W} {q : Nat} : xA ws q ↔ q ∈ ws.map Prod.fst := by
  constructor
  · rintro ⟨k, e, hk⟩
    exact List.mem_map.mpr ⟨(q, e), List.mem_of_getElem? hk, rfl⟩
  · intro h
    obtain ⟨⟨a, e⟩, h1, rfl⟩ := List.mem_map.mp h
    obtain ⟨k, hk⟩ := List.getElem?_of_mem h1
    exact ⟨k, e, hk⟩
/-- the callee's cells c0 stand in the caller's world ws; behind the call, with c1 in their place, it is ws' -/
def xPk (ws ws' c0 c1 : va_W) : Prop := ∀ B : Nat → Prop, va_D B ws → va_D (fun _ => True) c0 ∧ va_D B ws' ∧ (∀ q ∈ c0, q ∈ ws) ∧ (∀ q ∈ ws', q ∈ c1 ∨ (q ∈ ws ∧ ¬ xA c0 q.1))
theorem xPk.idx {ws ws' c0 c1 : va_W} (is : List Nat) (h0 : is.map (fun i => ws[i]?) = c0.map some) (hnd : va_nd is = true) (hlen : c1.length = c0.length) (hset : xset ws is c1 = ws') (hdom : ws'.map Prod.fst = ws.map Prod.fst) : xPk ws ws' c0 c1 := by
  intro B hD
  refine ⟨(hD.sub is hnd h0).weaken (fun _ _ _ _ => trivial), xD_dom hD hdom, fun q hq => ?_, fun q hq => ?_⟩
  · obtain ⟨j, hj⟩ := List.getElem?_of_mem hq
    obtain ⟨i, -, hi⟩ := x_in h0 hj
    exact List.mem_of_getElem? hi
  · rw [← hset] at hq
    obtain ⟨k, hk⟩ := List.getElem?_of_mem hq
    rcases xset_get is c1 ws k q (by have := congrArg List.length h0; simp at this; omega) hk with h | ⟨h1, h2⟩
    · exact Or.inl h
    · refine Or.inr ⟨List.mem_of_getElem? h2, ?_⟩
      rintro ⟨j, e0, hj⟩
      obtain ⟨i, hi1, hi2⟩ := x_in h0 hj
      have := hD.1 k i _ _ h2 hi2 rfl
      subst this
      exact h1 (List.mem_of_getElem? hi1)
theorem xPk.all {ws ws' : va_W} (hdom : ws'.map Prod.fst = ws.map Prod.fst) : xPk ws ws' ws ws' := fun B hD => ⟨hD.weaken (fun _ _ _ _ => trivial), xD_dom hD hdom, fun _ h => h, fun _ h => Or.inl h⟩
theorem xPk.none {ws : va_W} : xPk ws ws [] [] := fun B hD => ⟨⟨fun i j p q h => by simp at h, fun k q h => by simp at h⟩, hD, fun q h => absurd h List.not_mem_nil, fun q h => Or.inr ⟨h, fun ⟨k, e, hk⟩ => by simp at hk⟩⟩
theorem xPk.seg2 {ws ws' : va_W} (A a0 a1 B b0 b1 C : va_W) (hw : ws = A ++ (a0 ++ (B ++ (b0 ++ C)))) (hw' : ws' = A ++ (a1 ++ (B ++ (b1 ++ C)))) (ha : a1.map Prod.fst = a0.map Prod.fst) (hb : b1.map Prod.fst = b0.map Prod.fst) : xPk ws ws' (a0 ++ b0) (a1 ++ b1) := by
  subst hw hw'
  intro P hD
  have hd : va_D P (A ++ (a1 ++ (B ++ (b1 ++ C)))) := xD_dom hD (by simp only [List.map_append, ha, hb])
  have hN := (xD_iff.mp hD).1
  simp only [List.map_append, List.nodup_append, List.mem_append] at hN
  refine ⟨xD_iff.mpr ⟨?_, fun _ _ => trivial⟩, hd, fun q hq => ?_, fun q hq => ?_⟩
  · simp only [List.map_append, List.nodup_append]
    exact ⟨hN.2.1.1, hN.2.1.2.1.2.1.1, fun x hx y hy => hN.2.1.2.2 x hx y (Or.inr (Or.inl hy))⟩
  · simp only [List.mem_append] at hq ⊢
    rcases hq with h | h
    · exact Or.inr (Or.inl h)
    · exact Or.inr (Or.inr (Or.inr (Or.inl h)))
  · simp only [List.mem_append] at hq ⊢
    rcases hq with h | h | h | h | h
    · refine Or.inr ⟨Or.inl h, fun hx => ?_⟩
      have hq1 : q.1 ∈ A.map Prod.fst := List.mem_map.mpr ⟨q, h, rfl⟩
      rw [xA_mem, List.map_append, List.mem_append] at hx
      rcases hx with hx | hx
      · exact hN.2.2 _ hq1 _ (Or.inl hx) rfl
      · exact hN.2.2 _ hq1 _ (Or.inr (Or.inr (Or.inl hx))) rfl
    · exact Or.inl (Or.inl h)
    · refine Or.inr ⟨Or.inr (Or.inr (Or.inl h)), fun hx => ?_⟩
      have hq1 : q.1 ∈ B.map Prod.fst := List.mem_map.mpr ⟨q, h, rfl⟩
      rw [xA_mem, List.map_append, List.mem_append] at hx
      rcases hx with hx | hx
      · exact hN.2.1.2.2 _ hx _ (Or.inl hq1) rfl
      · exact hN.2.1.2.1.2.2 _ hq1 _ (Or.inl hx) rfl
    · exact Or.inl (Or.inr h)
    · refine Or.inr ⟨Or.inr (Or.inr (Or.inr (Or.inr h))), fun hx => ?_⟩
      have hq1 : q.1 ∈ C.map Prod.fst := List.mem_map.mpr ⟨q, h, rfl⟩
      rw [xA_mem, List.map_append, List.mem_append] at hx
      rcases hx with hx | hx
      · exact hN.2.1.2.2 _ hx _ (Or.inr (Or.inr hq1)) rfl
      · exact hN.2.1.2.1.2.1.2.2 _ hx _ hq1 rfl
theorem xPk.perm {ws ws' c0 c1 d0 d1 : va_W} (h : xPk ws ws' c0 c1) (h0 : ∀ q, q ∈ d0 ↔ q ∈ c0) (h1 : ∀ q, q ∈ d1 ↔ q ∈ c1) (hn : (c0.map Prod.fst).Nodup → (d0.map Prod.fst).Nodup) : xPk ws ws' d0 d1 := by
  intro B hD
  obtain ⟨k1, k2, k3, k4⟩ := h B hD
  refine ⟨xD_iff.mpr ⟨hn (xD_iff.mp k1).1, fun _ _ => trivial⟩, k2, fun q hq => k3 q ((h0 q).mp hq), fun q hq => ?_⟩
  rcases k4 q hq with h | ⟨h, h'⟩
  · exact Or.inl ((h1 q).mpr h)
  · refine Or.inr ⟨h, fun hx => h' ?_⟩
    rw [xA_mem] at hx ⊢
    obtain ⟨r, hr, he⟩ := List.mem_map.mp hx
    exact List.mem_map.mpr ⟨r, (h0 r).mp hr, he⟩
theorem xPk.seg2r {ws ws' : va_W} (A a0 a1 B b0 b1 C : va_W) (hw : ws = A ++ (a0 ++ (B ++ (b0 ++ C)))) (hw' : ws' = A ++ (a1 ++ (B ++ (b1 ++ C)))) (ha : a1.map Prod.fst = a0.map Prod.fst) (hb : b1.map Prod.fst = b0.map Prod.fst) : xPk ws ws' (b0 ++ a0) (b1 ++ a1) := by
  refine (xPk.seg2 A a0 a1 B b0 b1 C hw hw' ha hb).perm (fun q => by simp only [List.mem_append]; exact Or.comm) (fun q => by simp only [List.mem_append]; exact Or.comm) (fun h => ?_)
  simp only [List.map_append, List.nodup_append] at h ⊢
  exact ⟨h.2.1, h.1, fun x hx y hy e => h.2.2 y hy x hx e.symm⟩
theorem xPk.seg1 {ws ws' : va_W} (A a0 a1 C : va_W) (hw : ws = A ++ (a0 ++ C)) (hw' : ws' = A ++ (a1 ++ C)) (ha : a1.map Prod.fst = a0.map Prod.fst) : xPk ws ws' a0 a1 := by
  have h := xPk.seg2 (ws := ws) (ws' := ws') A a0 a1 [] [] [] C (by rw [hw]; rfl) (by rw [hw']; rfl) ha rfl
  rw [List.append_nil, List.append_nil] at h
  exact h
/-- a call that makes nothing: the callee's cells are cells of the caller's world -/
theorem x_call {pc : Nat} {ls : Array Slot} {st0 rest : List Value} {a : Array Value} {v : Option Value} {ws ws' c0 c1 : va_W}
    (hr : va_Run p l e R s m args below meth c H locs kc ks 0 0 (F0 m pc ls st0) rest (xQ Z v c1 (xA c0) a) (xA c0)) (hP : va_P Z.1 vwCl ws H) (hD : va_D A ws) (hS : va_S A H0 H locs) (hpk : xPk ws ws' c0 c1)
    (kk : ∀ (H1 : Heap) (locs1 : List Loc), va_P Z.1 vwCl ws' H1 → va_D A ws' → va_S A H0 H1 locs1 → W p l e R s m args below meth c H1 locs1 kc ks Q (F0 m (pc + 3) ls (v.toList ++ rest))) : W p l e R s m args below meth c H locs kc ks Q (F0 m pc ls st0) := by
  intro T hT X
  obtain ⟨v', st₀, t, T', L, hh, X', hL, e1, e2, ⟨⟨hv, hb⟩, hz, hk⟩, st⟩ := hr T hT X
  cases hv
  rw [hh] at hz hk
  obtain ⟨-, hD', hin, hnew⟩ := hpk A hD
  have hAin : ∀ q : Nat, xA c0 q → A q := by
    rintro q ⟨j, e0, hj⟩
    exact (xD_iff.mp hD).2 _ (hin _ (List.mem_of_getElem? hj))
  have hP' : va_P Z.1 vwCl ws' t.heap := by
    intro k q hkq
    rcases hnew q (List.mem_of_getElem? hkq) with h | ⟨h1, h2⟩
    · obtain ⟨j, hj⟩ := List.getElem?_of_mem h
      exact hb j q hj
    · obtain ⟨j, hj⟩ := List.getElem?_of_mem h1
      exact (hP j q hj).kept (hk q.1 (hP j q hj).lt h2)
  obtain ⟨t2, a1, b1⟩ := kk t.heap (locs ++ L) hP' hD' ⟨Nat.le_trans hS.1 hz, fun q h1 h2 => by rw [hk q (Nat.lt_of_lt_of_le h1 hS.1) (fun z => h2 (hAin q z))]; exact hS.2.1 q h1 h2, fun q hq => by
      rcases List.mem_append.mp hq with h | h
      · exact hS.2.2 q h
      · exact hAin _ (hL q h)⟩ T' e1 X'
  exact ⟨t2, st t2 a1, b1⟩
theorem x_blind (av : List Value) (ws : va_W) : FrameBlind (va_Pc av (xPre Z ws)) := fun a U g mk q => by
  obtain ⟨q0, qP, qK, qD⟩ := q
  exact ⟨q0, qP, ⟨va_K.moved (u := U) (U := U.calling g mk a) (Vm.Alike.refl U.vm) qK.1, fun w hw => va_Nw.same (ns_on hw) (u := U) (U := U.calling g mk a) rfl (qK.2 w hw)⟩, qD⟩
theorem x_pre {av : List Value} {ws ws' c0 c1 : va_W} (hK : Kx Z s) (hP : va_P Z.1 vwCl ws H) (hD : va_D A ws) (hpk : xPk ws ws' c0 c1) : ∀ U : State, U.heap = H → s.WarmedH U.vm → va_Pc av (xPre Z c0) av.toArray U := by
  intro U hU hW
  obtain ⟨h1, -, hin, -⟩ := hpk A hD
  refine ⟨rfl, ?_, ⟨va_K.moved hW.alike hK.1, fun w hw => ns_warm hw hW (hK.2 w hw)⟩, h1⟩
  rw [hU]
  intro j q hj
  obtain ⟨k, hk⟩ := List.getElem?_of_mem (hin q (List.mem_of_getElem? hj))
  exact hP k q hk
end KT1

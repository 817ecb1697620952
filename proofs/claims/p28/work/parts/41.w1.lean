-- the law's world: the parts, and how a callee's cells stand in it
section LW
variable {T P R J Q I Xw P' R' J' Q' I' Xw' q0 q0' q1 : va_W}
abbrev wAll (T P R J Q I Xw : va_W) : va_W := T ++ (P ++ (R ++ (J ++ (Q ++ (I ++ Xw)))))
theorem pk_P (hP : P'.map Prod.fst = P.map Prod.fst) : xPk (wAll T P R J Q I Xw) (wAll T P' R J Q I Xw) (T ++ P) (T ++ P') :=
  xPk.seg1 [] (T ++ P) (T ++ P') (R ++ (J ++ (Q ++ (I ++ Xw)))) (by simp only [wAll, List.append_assoc, List.nil_append]) (by simp only [wAll, List.append_assoc, List.nil_append]) (by simp only [List.map_append, hP])
theorem pk_PR (hP : P'.map Prod.fst = P.map Prod.fst) (hR : R'.map Prod.fst = R.map Prod.fst) : xPk (wAll T P R J Q I Xw) (wAll T P' R' J Q I Xw) (T ++ (P ++ R)) (T ++ (P' ++ R')) :=
  xPk.seg1 [] (T ++ (P ++ R)) (T ++ (P' ++ R')) (J ++ (Q ++ (I ++ Xw))) (by simp only [wAll, List.append_assoc, List.nil_append]) (by simp only [wAll, List.append_assoc, List.nil_append]) (by simp only [List.map_append, hP, hR])
theorem pk_PJ (hP : P'.map Prod.fst = P.map Prod.fst) (hJ : J'.map Prod.fst = J.map Prod.fst) : xPk (wAll T P R J Q I Xw) (wAll T P' R J' Q I Xw) (T ++ (P ++ J)) (T ++ (P' ++ J')) := by
  have h := xPk.seg2 (ws := wAll T P R J Q I Xw) (ws' := wAll T P' R J' Q I Xw) [] (T ++ P) (T ++ P') R J J' (Q ++ (I ++ Xw)) (by simp only [wAll, List.append_assoc, List.nil_append]) (by simp only [wAll, List.append_assoc, List.nil_append]) (by simp only [List.map_append, hP]) hJ
  simpa only [List.append_assoc] using h
theorem pk_PQ (hP : P'.map Prod.fst = P.map Prod.fst) (hQ : Q'.map Prod.fst = Q.map Prod.fst) : xPk (wAll T P R J Q I Xw) (wAll T P' R J Q' I Xw) (T ++ (P ++ Q)) (T ++ (P' ++ Q')) := by
  have h := xPk.seg2 (ws := wAll T P R J Q I Xw) (ws' := wAll T P' R J Q' I Xw) [] (T ++ P) (T ++ P') (R ++ J) Q Q' (I ++ Xw) (by simp only [wAll, List.append_assoc, List.nil_append]) (by simp only [wAll, List.append_assoc, List.nil_append]) (by simp only [List.map_append, hP]) hQ
  simpa only [List.append_assoc] using h
theorem pk_PI (hP : P'.map Prod.fst = P.map Prod.fst) (hI : I'.map Prod.fst = I.map Prod.fst) : xPk (wAll T P R J Q I Xw) (wAll T P' R J Q I' Xw) (T ++ (P ++ I)) (T ++ (P' ++ I')) := by
  have h := xPk.seg2 (ws := wAll T P R J Q I Xw) (ws' := wAll T P' R J Q I' Xw) [] (T ++ P) (T ++ P') (R ++ (J ++ Q)) I I' Xw (by simp only [wAll, List.append_assoc, List.nil_append]) (by simp only [wAll, List.append_assoc, List.nil_append]) (by simp only [List.map_append, hP]) hI
  simpa only [List.append_assoc] using h
theorem pk_Pq (hP : P'.map Prod.fst = P.map Prod.fst) (hq : q0'.map Prod.fst = q0.map Prod.fst) : xPk (wAll T P R J (q0 ++ q1) I Xw) (wAll T P' R J (q0' ++ q1) I Xw) (T ++ (P ++ q0)) (T ++ (P' ++ q0')) := by
  have h := xPk.seg2 (ws := wAll T P R J (q0 ++ q1) I Xw) (ws' := wAll T P' R J (q0' ++ q1) I Xw) [] (T ++ P) (T ++ P') (R ++ J) q0 q0' (q1 ++ (I ++ Xw)) (by simp only [wAll, List.append_assoc, List.nil_append]) (by simp only [wAll, List.append_assoc, List.nil_append]) (by simp only [List.map_append, hP]) hq
  simpa only [List.append_assoc] using h
theorem pk_PIQ (hP : P'.map Prod.fst = P.map Prod.fst) (hQ : Q'.map Prod.fst = Q.map Prod.fst) (hI : I'.map Prod.fst = I.map Prod.fst) : xPk (wAll T P R J Q I Xw) (wAll T P' R J Q' I' Xw) (T ++ (P ++ (I ++ Q))) (T ++ (P' ++ (I' ++ Q'))) := by
  have h := xPk.seg2 (ws := wAll T P R J Q I Xw) (ws' := wAll T P' R J Q' I' Xw) [] (T ++ P) (T ++ P') (R ++ J) (Q ++ I) (Q' ++ I') Xw (by simp only [wAll, List.append_assoc, List.nil_append]) (by simp only [wAll, List.append_assoc, List.nil_append]) (by simp only [List.map_append, hP]) (by simp only [List.map_append, hQ, hI])
  have e : ∀ {A B C : va_W} (q : Nat × va_E), q ∈ T ++ (A ++ (B ++ C)) ↔ q ∈ T ++ A ++ (C ++ B) := by
    intro A B C q
    simp only [List.mem_append]
    constructor
    · rintro (h | h | h | h)
      · exact Or.inl (Or.inl h)
      · exact Or.inl (Or.inr h)
      · exact Or.inr (Or.inr h)
      · exact Or.inr (Or.inl h)
    · rintro ((h | h) | h | h)
      · exact Or.inl h
      · exact Or.inr (Or.inl h)
      · exact Or.inr (Or.inr (Or.inr h))
      · exact Or.inr (Or.inr (Or.inl h))
  refine h.perm (fun q => e q) (fun q => e q) (fun hn => ?_)
  have hp : (T ++ P ++ (Q ++ I)).Perm (T ++ (P ++ (I ++ Q))) := by
    rw [List.append_assoc]
    exact List.Perm.append_left T (List.Perm.append_left P List.perm_append_comm)
  exact (hp.map Prod.fst).nodup_iff.mp hn
theorem pk_X (hX : Xw'.map Prod.fst = Xw.map Prod.fst) : xPk (wAll T P R J Q I Xw) (wAll T P R J Q I Xw') Xw Xw' :=
  xPk.seg1 (T ++ (P ++ (R ++ (J ++ (Q ++ I))))) Xw Xw' [] (by simp only [wAll, List.append_assoc, List.append_nil]) (by simp only [wAll, List.append_assoc, List.append_nil]) hX
end LW
/-- the script's cell, as the law's X knows it -/
def scrX (X : CX) (b L : Nat) (xs : Nat → Int32) : Prop := match X with
  | (_, _, _, s, _, _, _, _, _, _, A, H0) => va_X b L xs s H0 ∧ b < H0.size ∧ ¬ A b
section KT5
variable {X : CX} {Z : GZ} {R : Room} {cc : ByteArray} {own : String} {nL kc ks : Nat} {ws : va_W} {pc : Nat} {lv : List (Nat × Value)} {st : List Value} {b L : Nat} {xs : Nat → Int32}
theorem r_sld (hX : scrX X b L xs) {i : Int32} {j : Nat} (hj : i.toNatClampNeg = j) (hin : ¬ (i < 0 ∨ L ≤ i.toNatClampNeg)) (d : decode cc pc = .ok (.iaload, 1)) (kk : AtK X Z R cc own nL kc ks ws (pc + 1) lv (.int (xs j) :: st)) : AtK X Z R cc own nL kc ks ws pc lv (.int i :: .ref b :: st) := by
  obtain ⟨p, l, e, s, m, args, below, meth, c, Q, A, H0⟩ := X
  intro hok H locs ls hP hD hS hl
  obtain ⟨hx, hb, hts, hown, ⟨hK, hN⟩, hml⟩ := id hok
  subst hj
  exact va_sld hx hb hX.1 hX.2.1 hX.2.2 hS hin d (kk hok H locs ls hP hD hS hl)
theorem r_slen (hX : scrX X b L xs) (d : decode cc pc = .ok (.arraylength, 1)) (kk : AtK X Z R cc own nL kc ks ws (pc + 1) lv (.int (nI L) :: st)) : AtK X Z R cc own nL kc ks ws pc lv (.ref b :: st) := by
  obtain ⟨p, l, e, s, m, args, below, meth, c, Q, A, H0⟩ := X
  intro hok H locs ls hP hD hS hl
  obtain ⟨hx, hb, hts, hown, ⟨hK, hN⟩, hml⟩ := id hok
  exact va_slen hx hb hX.1 hX.2.1 hX.2.2 hS d (kk hok H locs ls hP hD hS hl)
end KT5

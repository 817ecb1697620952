-- arrays of objects: filled, and read as one function
theorem xP_arq {D : va_G} {cl : List vw_C} {ws : va_W} {H : Heap} {q1 a N : Nat} {c : ClassId} {f g : Nat → Option Nat} (hx : ∀ j, j < N → f j = g j) (h : va_P D cl (ws.set q1 (a, .inl (c, N, .inr (.inr (.inr (.inr g)))))) H) : va_P D cl (ws.set q1 (a, .inl (c, N, .inr (.inr (.inr (.inr f)))))) H := by
  intro k q hk
  by_cases hq : k = q1
  · subst hq
    have hlt : k < ws.length := by
      have := (List.getElem?_eq_some_iff.mp hk).1
      simpa using this
    rw [List.getElem?_set_self hlt] at hk
    cases hk
    have h1 := h k (a, .inl (c, N, .inr (.inr (.inr (.inr g))))) (List.getElem?_set_self hlt)
    have h2 : H[a]? = some (vp_cell c (N, .inr (.inr (.inr (.inr g))))) := h1
    show H[a]? = some (vp_cell c (N, .inr (.inr (.inr (.inr f)))))
    rw [h2, vp_cell_q, vp_cell_q]
    congr 1
    unfold arrV
    congr 1
    apply Array.ext
    · simp
    · intro i h3 h4
      simp at h3
      simp [hx i h3]
  · refine h k q ?_
    rw [List.getElem?_set_ne (fun e => hq e.symm)] at hk ⊢
    exact hk
section KT6
variable {X : CX} {Z : GZ} {R : Room} {cc : ByteArray} {own : String} {nL kc ks : Nat} {ws : va_W} {pc : Nat} {lv : List (Nat × Value)} {st : List Value}
theorem r_conv {ws' : va_W} (hp : ∀ H, va_P Z.1 vwCl ws H → va_P Z.1 vwCl ws' H) (hd : ∀ A, va_D A ws → va_D A ws') (kk : AtK X Z R cc own nL kc ks ws' pc lv st) : AtK X Z R cc own nL kc ks ws pc lv st := by
  obtain ⟨p, l, e, s, m, args, below, meth, c, Q, A, H0⟩ := X
  intro hok H locs ls hP hD hS hl
  exact kk hok H locs ls (hp H hP) (hd A hD) hS hl
theorem r_aast {a n v ci j : Nat} {f : Nat → Option Nat} {r : vw_C} {vs : List Value} {cA : ClassId} (q0 t0 qk : Nat) (ha : ws[q0]? = some (a, .inl (cA, n, .inr (.inr (.inr (.inr f)))))) (ht : ([(Z.2.1, .int), (Z.2.2.1, .object RX5), (Z.2.2.2, .object RX1)] : List (ClassId × FieldType))[t0]? = some (cA, .object r.1)) (hv : ws[qk]? = some (v, .inr (ci, vs))) (hc : vwCl[ci]? = some r) {i : Int32} (hj : i.toNatClampNeg = j) (hin : ¬ (i < 0 ∨ n ≤ i.toNatClampNeg)) (d : decode cc pc = .ok (.aastore, 1)) {ws' : va_W} (hw9 : ws.set q0 (a, .inl (cA, n, .inr (.inr (.inr (.inr (va_up f j (some v))))))) = ws') (kk : AtK X Z R cc own nL kc ks ws' (pc + 1) lv st) : AtK X Z R cc own nL kc ks ws pc lv (.ref v :: .int i :: .ref a :: st) := by
  obtain ⟨p, l, e, s, m, args, below, meth, c, Q, A, H0⟩ := X
  intro hok H locs ls hP hD hS hl
  obtain ⟨hx, hb, hts, hown, ⟨hK, hN⟩, hml⟩ := id hok
  subst hw9
  subst hj
  exact va_astq hx hb hK hP hD hS q0 t0 qk ci ha ht hv hc hin d (fun H1 locs1 hP1 hD1 hS1 => kk hok H1 locs1 ls hP1 hD1 hS1 hl)
end KT6

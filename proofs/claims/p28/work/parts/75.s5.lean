-- the sale of a ticket under a cut
section SLS
variable {m n x y z : Row} {b k B S P : Nat}
def rwT (x : Row) (c l : Int32) : Row := upd (upd (upd (upd x 119 (x 119 + c)) 120 (x 120 + 1)) 121 (x 121 - l)) 123 0
def rwC (x : Row) (c : Int32) : Row := upd (upd x 119 (x 119 - c)) 120 (x 120 - 1)
def rwP (x : Row) (c l : Int32) : Row := upd (upd (upd (upd (upd x 119 (x 119 + c)) 120 (x 120 + 1)) 121 (x 121 - l)) 123 (x 123 - l)) 124 (x 124 + 1)
theorem sel7 {s c : Nat} (hs : s < 4) (hc : n (127 + s) = nI c) : g_X7_sellNow n (nI s) = (g_X7_write n 0 (n 122) (nI (1000 * s + c))).bind fun o40 => if o40.1 = 0 then some (-4, o40.2) else if o40.2 123 < nI (40 + 20 * s) then (g_X7_write (rwT o40.2 (nI c) (nI (40 + 20 * s))) 1 (o40.2 122) (nI (1000 * s + c))).bind fun o144 => (if o144.1 = 0 then some (-4, o144.2) else some (n 118, rwC o144.2 (nI c))) else some (n 118, rwP o40.2 (nI c) (nI (40 + 20 * s))) := by
  have hval : (1000 : Int32) * nI s + nI c = nI (1000 * s + c) := by rw [show (1000 : Int32) = nI 1000 from rfl, pk_mul, nI_add]
  have hidx : (nI (127 + s)).toNatClampNeg = 127 + s := nI_clamp (by omega)
  unfold g_X7_sellNow rwT rwC rwP
  rw [prc7, if_neg (cond_nI (by omega) (by decide)), len7, Option.bind_some, hidx, hc, hval]
theorem rwT_n {c l : Int32} {i : Nat} (h1 : i ≠ 119) (h2 : i ≠ 120) (h3 : i ≠ 121) (h4 : i ≠ 123) : rwT x c l i = x i := by simp [rwT, upd, h1, h2, h3, h4]
theorem rwT_119 {c l : Int32} : rwT x c l 119 = x 119 + c := by simp [rwT, upd]
theorem rwT_120 {c l : Int32} : rwT x c l 120 = x 120 + 1 := by simp [rwT, upd]
theorem rwT_121 {c l : Int32} : rwT x c l 121 = x 121 - l := by simp [rwT, upd]
theorem rwC_n {c : Int32} {i : Nat} (h1 : i ≠ 119) (h2 : i ≠ 120) : rwC x c i = x i := by simp [rwC, upd, h1, h2]
theorem rwP_n {c l : Int32} {i : Nat} (h1 : i ≠ 119) (h2 : i ≠ 120) (h3 : i ≠ 121) (h4 : i ≠ 123) (h5 : i ≠ 124) : rwP x c l i = x i := by simp [rwP, upd, h1, h2, h3, h4, h5]
theorem eqx_upd {x y : Row} (h : eqx x y) (i : Nat) {a c : Int32} (e : a = c) : eqx (upd x i a) (upd y i c) := by
  intro j hj h5 h6
  subst e
  by_cases hi : j = i
  · subst hi; rw [pk_us, pk_us]
  · rw [pk_un hi, pk_un hi]; exact h j hj h5 h6
theorem eqx_T {c l : Int32} (h : eqx x y) : eqx (rwT x c l) (rwT y c l) := by
  unfold rwT
  rw [h 119 (by decide) (by decide) (by decide), h 120 (by decide) (by decide) (by decide), h 121 (by decide) (by decide) (by decide)]
  exact eqx_upd (eqx_upd (eqx_upd (eqx_upd h _ rfl) _ rfl) _ rfl) _ rfl
theorem eqx_C {c : Int32} (h : eqx x y) : eqx (rwC x c) (rwC y c) := by
  unfold rwC
  rw [h 119 (by decide) (by decide) (by decide), h 120 (by decide) (by decide) (by decide)]
  exact eqx_upd (eqx_upd h _ rfl) _ rfl
theorem eqx_P {c l : Int32} (h : eqx x y) : eqx (rwP x c l) (rwP y c l) := by
  unfold rwP
  rw [h 119 (by decide) (by decide) (by decide), h 120 (by decide) (by decide) (by decide), h 121 (by decide) (by decide) (by decide), h 123 (by decide) (by decide) (by decide), h 124 (by decide) (by decide) (by decide)]
  exact eqx_upd (eqx_upd (eqx_upd (eqx_upd (eqx_upd h _ rfl) _ rfl) _ rfl) _ rfl) _ rfl
/-- what comes of a sale: with so many operations (all) it is done; with c1 of them the ticket is whole -/
def SLc (m : Row) (n1 : Int32) (c1 all nu : Nat) (zf : Row) : Prop := ∀ n : Row, eqx n m → LV (n 126) → (canDo (n 126) all → ∃ n' : Row, g_X7_sellNow n n1 = some (m 118, n') ∧ eqx n' zf ∧ n' 125 = n 125 + nI all ∧ (WI m → WI n')) ∧ (¬ canDo (n 126) all → ∃ n' : Row, g_X7_sellNow n n1 = some (-4, n') ∧ n' 115 = 0 ∧ (WI m → WI n') ∧ ∃ B' S' k' : Nat, FI n' B' S' k' ∧ (canDo (n 126) c1 → (rp n' B' 4).1 = nI ((nu + 1) % 10000)) ∧ (¬ canDo (n 126) c1 → (rp n' B' 4).1 = nI nu))
theorem word_tms {x : Int32} (h : tms x) : word x := by
  obtain ⟨c, hc, rfl⟩ := h
  exact word_nI (by omega)
set_option maxHeartbeats 1000000 in
theorem SELL {s c : Nat} (hV : IV m) (on : m 115 = 1) (hs : s < 4) (hc : m (127 + s) = nI c) (hc1 : 1 ≤ c) (hc2 : c ≤ 999) (hsu : ∃ su : Nat, m 119 = nI su ∧ su + c ≤ 60000) (hpa : ∃ pa : Nat, m 121 = nI pa ∧ pa ≤ 50000 ∧ 40 + 20 * s ≤ pa) : ∃ (all nu : Nat) (zf : Row), m 118 = nI nu ∧ nu < 10000 ∧ (if m 117 = 4 then 11 else 4) ≤ all ∧ all ≤ 22 ∧ zf 115 = 1 ∧ (zf 118 = nI ((nu + 1) % 10000) ∨ zf 118 = nI ((nu + 2) % 10000)) ∧ SLc m (nI s) (if m 117 = 4 then 11 else 4) all nu zf := by
  obtain ⟨B, S, k, nu, su, ti, pa, hI, d0, d1, dr, e1, e2, e3, e4, g1, g2, g3, g4⟩ := onX hV on
  obtain ⟨su', hs1, hs2⟩ := hsu
  obtain ⟨pa', hp1, hp2, hp3⟩ := hpa
  have hsu' : su' = su := by rw [e2, nI_inj (by omega) (by omega)] at hs1; exact hs1.symm
  have hpa' : pa' = pa := by rw [e4, nI_inj (by omega) (by omega)] at hp1; exact hp1.symm
  subst hsu' hpa'
  have hrp : rp m B 4 = (nI nu, nI su', nI ti, nI pa') := by rw [← dr, e1, e2, e3, e4]
  have hlr := lrn_t (ti := ti) g1 hs hc2 hp3 (su := su')
  have ec1 : (if m 117 = 4 then 11 else 4) = cst m B := by
    unfold cst
    by_cases hP : nxp m B = 4
    · rw [if_pos hP, if_pos (by rw [d1, hP]; rfl)]
    · rw [if_neg hP, if_neg (by rw [d1]; exact n4_ne (by have := nxp_le m B; omega))]
  rw [ec1]
  have hv1 : okV (nI (10000 * 0 + nu)) (m 122) (nI (1000 * s + c)) := ⟨word_tms hV.2.2.2, 10000 * 0 + nu, 1000 * s + c, by omega, by omega, rfl, rfl, fun _ => by omega⟩
  obtain ⟨z1, a1, a2, a3, a4, ⟨B1, S1, k1, a5, a6, a7, a8⟩, a9⟩ := WRT (kd := 0) hI d0 d1 dr e1 g1 hv1 (by rw [hrp, hlr]; exact ⟨_, _, _, _, rfl, by omega, by omega, by omega, by omega⟩)
  rw [hrp, hlr] at a8
  have hn2 : (nu + 1) % 10000 < 10000 := Nat.mod_lt _ (by decide)
  have hcs : cst m B ≤ 11 := by unfold cst; split <;> omega
  by_cases hlt : m 123 < nI (40 + 20 * s)
  · -- the paper isn't long enough: a second record
    have q118 : rwT z1 (nI c) (nI (40 + 20 * s)) 118 = nI ((nu + 1) % 10000) := by rw [rwT_n (by decide) (by decide) (by decide) (by decide), a3]
    have q119 : rwT z1 (nI c) (nI (40 + 20 * s)) 119 = nI (su' + c) := by rw [rwT_119, a1 119 (by decide), e2, nI_add]
    have q120 : rwT z1 (nI c) (nI (40 + 20 * s)) 120 = nI (ti + 1) := by rw [rwT_120, a1 120 (by decide), e3, nI_1]
    have q121 : rwT z1 (nI c) (nI (40 + 20 * s)) 121 = nI (pa' - (40 + 20 * s)) := by rw [rwT_121, a1 121 (by decide), e4, pk_sub hp3]
    have q122 : z1 122 = m 122 := a1 122 (by decide)
    have qlow : ∀ i, i < 110 → rwT z1 (nI c) (nI (40 + 20 * s)) i = z1 i := fun i hi => rwT_n (by omega) (by omega) (by omega) (by omega)
    have q116 : rwT z1 (nI c) (nI (40 + 20 * s)) 116 = nI B1 := by rw [rwT_n (by decide) (by decide) (by decide) (by decide), a6]
    have q117 : rwT z1 (nI c) (nI (40 + 20 * s)) 117 = nI (nxp (rwT z1 (nI c) (nI (40 + 20 * s))) B1) := by rw [rwT_n (by decide) (by decide) (by decide) (by decide), a7, nxp_low a5.1 qlow]
    have qrp : rp (rwT z1 (nI c) (nI (40 + 20 * s))) B1 4 = (nI ((nu + 1) % 10000), nI (su' + c), nI (ti + 1), nI (pa' - (40 + 20 * s))) := by rw [rp_low a5.1 qlow, a8]
    have hlr2 : lrn (nI ((nu + 1) % 10000), nI (su' + c), nI (ti + 1), nI (pa' - (40 + 20 * s))) (nI (10000 * 1 + (nu + 1) % 10000)) (nI (1000 * s + c)) = (nI (((nu + 1) % 10000 + 1) % 10000), nI su', nI ti, nI (pa' - (40 + 20 * s))) := by
      rw [lrn_c hn2, jrem_v hs hc2]
      show (_, nI (su' + c) - nI c, nI (ti + 1) - 1, _) = _
      rw [pk_sub (by omega), nI_pred, Nat.add_sub_cancel]
    have hv2 : okV (nI (10000 * 1 + (nu + 1) % 10000)) (m 122) (nI (1000 * s + c)) := ⟨word_tms hV.2.2.2, 10000 * 1 + (nu + 1) % 10000, 1000 * s + c, by omega, by omega, rfl, rfl, fun _ => by omega⟩
    have qFI := a5.congr qlow
    have qe : ∀ n', eqx n' z1 → eqx (rwT n' (nI c) (nI (40 + 20 * s))) (rwT z1 (nI c) (nI (40 + 20 * s))) := fun n' h => eqx_T h
    have qW : WI m → WI (rwT z1 (nI c) (nI (40 + 20 * s))) := fun w => (a4 w).congr qlow
    have q115 : rwT z1 (nI c) (nI (40 + 20 * s)) 115 = 1 := by rw [rwT_n (by decide) (by decide) (by decide) (by decide), a2, on]
    generalize rwT z1 (nI c) (nI (40 + 20 * s)) = m2 at *
    obtain ⟨z2, b1, b2, b3, b4, ⟨B2, S2, k2, b5, b6, b7, b8⟩, b9⟩ := WRT (kd := 1) qFI q116 q117 (by rw [q118, q119, q120, q121, qrp]) q118 hn2 hv2 (by rw [qrp, hlr2]; exact ⟨_, _, _, _, rfl, by omega, by omega, by omega, by omega⟩)
    have hcs2 : cst m2 B1 ≤ 11 := by unfold cst; split <;> omega
    refine ⟨cst m B + cst m2 B1, nu, rwC z2 (nI c), e1, g1, by omega, by omega, ?_, Or.inr ?_, fun n hn hl => ?_⟩
    · rw [rwC_n (by decide) (by decide), b2, q115]
    · rw [rwC_n (by decide) (by decide), b3]
      exact congrArg nI (by omega)
    have nc : n (127 + s) = nI c := (hn _ (by omega) (by omega) (by omega)).trans hc
    have n118 : n 118 = m 118 := hn 118 (by decide) (by decide) (by decide)
    have n122 : n 122 = m 122 := hn 122 (by decide) (by decide) (by decide)
    have hsel := sel7 hs nc
    rw [n118, n122] at hsel
    obtain ⟨t1, t2⟩ := a9 n hn hl
    replace t1 : canDo (n 126) (cst m B) → ∃ n' : Row, g_X7_write n 0 (m 122) (nI (1000 * s + c)) = some (1, n') ∧ eqx n' z1 ∧ n' 125 = n 125 + nI (cst m B) ∧ n' 126 = miN (n 126) (cst m B) := t1
    replace t2 : ¬ canDo (n 126) (cst m B) → ∃ n' : Row, g_X7_write n 0 (m 122) (nI (1000 * s + c)) = some (0, n') ∧ n' 115 = 0 ∧ n' 126 = -9 ∧ (∀ i, 119 ≤ i → i ≠ 125 → i ≠ 126 → n' i = m i) ∧ (WI m → WI n') ∧ ∃ B' S' k' : Nat, FI n' B' S' k' ∧ rp n' B' 4 = rp m B 4 := t2
    by_cases h1 : canDo (n 126) (cst m B)
    · obtain ⟨n', u1, u2, u3, u4⟩ := t1 h1
      have u123 : n' 123 = m 123 := (u2 123 (by decide) (by decide) (by decide)).trans (a1 123 (by decide))
      have u122 : n' 122 = m 122 := (u2 122 (by decide) (by decide) (by decide)).trans q122
      rw [u1, Option.bind_some, if_neg i1ne] at hsel
      dsimp only at hsel
      rw [if_pos (show n' 123 < nI (40 + 20 * s) by rw [u123]; exact hlt), u122] at hsel
      have v126 : rwT n' (nI c) (nI (40 + 20 * s)) 126 = miN (n 126) (cst m B) := by rw [rwT_n (by decide) (by decide) (by decide) (by decide), u4]
      have v125 : rwT n' (nI c) (nI (40 + 20 * s)) 125 = n 125 + nI (cst m B) := by rw [rwT_n (by decide) (by decide) (by decide) (by decide), u3]
      obtain ⟨w1, w2⟩ := b9 (rwT n' (nI c) (nI (40 + 20 * s))) (qe n' u2) (by rw [v126]; exact LV_miN h1)
      rw [v126, canDo_add h1] at w1 w2
      replace w1 : canDo (n 126) (cst m B + cst m2 B1) → ∃ x' : Row, g_X7_write (rwT n' (nI c) (nI (40 + 20 * s))) 1 (m 122) (nI (1000 * s + c)) = some (1, x') ∧ eqx x' z2 ∧ x' 125 = rwT n' (nI c) (nI (40 + 20 * s)) 125 + nI (cst m2 B1) ∧ x' 126 = miN (miN (n 126) (cst m B)) (cst m2 B1) := w1
      replace w2 : ¬ canDo (n 126) (cst m B + cst m2 B1) → ∃ x' : Row, g_X7_write (rwT n' (nI c) (nI (40 + 20 * s))) 1 (m 122) (nI (1000 * s + c)) = some (0, x') ∧ x' 115 = 0 ∧ x' 126 = -9 ∧ (∀ i, 119 ≤ i → i ≠ 125 → i ≠ 126 → x' i = m2 i) ∧ (WI m2 → WI x') ∧ ∃ B' S' k' : Nat, FI x' B' S' k' ∧ rp x' B' 4 = rp m2 B1 4 := w2
      constructor
      · intro ha
        obtain ⟨x', x1, x2, x3, x4⟩ := w1 ha
        rw [x1, Option.bind_some, if_neg i1ne] at hsel
        refine ⟨rwC x' (nI c), hsel, eqx_C x2, ?_, fun w => ?_⟩
        · rw [rwC_n (by decide) (by decide), x3, v125, Int32.add_assoc, nI_add]
        · exact (b4 (qW w)).congr (fun i hi => (rwC_n (by omega) (by omega)).trans (x2.low i hi))
      · intro ha
        obtain ⟨x', x1, x2, x3, x4, x5, B', S', k', x6, x7⟩ := w2 ha
        rw [x1, Option.bind_some, if_pos rfl] at hsel
        exact ⟨x', hsel, x2, fun w => x5 (qW w), B', S', k', x6, fun _ => by rw [x7, qrp], fun h => absurd h1 h⟩
    · refine ⟨fun ha => absurd (canDo_mono ha (by omega)) h1, fun _ => ?_⟩
      obtain ⟨n', u1, u2, u3, u4, u5, B', S', k', u6, u7⟩ := t2 h1
      rw [u1, Option.bind_some, if_pos rfl] at hsel
      exact ⟨n', hsel, u2, u5, B', S', k', u6, fun h => absurd h h1, fun _ => by rw [u7, hrp]⟩
  · refine ⟨cst m B, nu, rwP z1 (nI c) (nI (40 + 20 * s)), e1, g1, Nat.le_refl _, by omega, ?_, Or.inl ?_, fun n hn hl => ?_⟩
    · rw [rwP_n (by decide) (by decide) (by decide) (by decide) (by decide), a2, on]
    · rw [rwP_n (by decide) (by decide) (by decide) (by decide) (by decide), a3]
    have nc : n (127 + s) = nI c := (hn _ (by omega) (by omega) (by omega)).trans hc
    have n118 : n 118 = m 118 := hn 118 (by decide) (by decide) (by decide)
    have n122 : n 122 = m 122 := hn 122 (by decide) (by decide) (by decide)
    have hsel := sel7 hs nc
    rw [n118, n122] at hsel
    obtain ⟨t1, t2⟩ := a9 n hn hl
    replace t1 : canDo (n 126) (cst m B) → ∃ n' : Row, g_X7_write n 0 (m 122) (nI (1000 * s + c)) = some (1, n') ∧ eqx n' z1 ∧ n' 125 = n 125 + nI (cst m B) ∧ n' 126 = miN (n 126) (cst m B) := t1
    replace t2 : ¬ canDo (n 126) (cst m B) → ∃ n' : Row, g_X7_write n 0 (m 122) (nI (1000 * s + c)) = some (0, n') ∧ n' 115 = 0 ∧ n' 126 = -9 ∧ (∀ i, 119 ≤ i → i ≠ 125 → i ≠ 126 → n' i = m i) ∧ (WI m → WI n') ∧ ∃ B' S' k' : Nat, FI n' B' S' k' ∧ rp n' B' 4 = rp m B 4 := t2
    constructor
    · intro ha
      obtain ⟨n', u1, u2, u3, u4⟩ := t1 ha
      have u123 : n' 123 = m 123 := (u2 123 (by decide) (by decide) (by decide)).trans (a1 123 (by decide))
      rw [u1, Option.bind_some, if_neg i1ne] at hsel
      dsimp only at hsel
      rw [if_neg (show ¬ n' 123 < nI (40 + 20 * s) by rw [u123]; exact hlt)] at hsel
      refine ⟨_, hsel, eqx_P u2, ?_, fun w => ?_⟩
      · rw [rwP_n (by decide) (by decide) (by decide) (by decide) (by decide), u3]
      · exact (a4 w).congr (fun i hi => (rwP_n (by omega) (by omega) (by omega) (by omega) (by omega)).trans (u2.low i hi))
    · intro ha
      obtain ⟨n', u1, u2, u3, u4, u5, B', S', k', u6, u7⟩ := t2 ha
      rw [u1, Option.bind_some, if_pos rfl] at hsel
      exact ⟨n', hsel, u2, u5, B', S', k', u6, fun h => absurd h ha, fun _ => by rw [u7, hrp]⟩
end SLS

-- what the law holds between two calls (laid by wip/gen/law.py)
def wA (Z : GZ) (t : Nat) (a : Nat → Nat) (b : Nat → Nat) (hj : Nat) (hd : Nat) (hq : Nat) (hs : Nat) (AD : Nat → Nat → Nat) (hi : Nat) (IH : Nat → Nat) (IA : Nat → Nat → Nat) (x : Nat → Nat) (w : Nat → Int32) (er : Nat → Int32) (fl : Nat → Int32) (me : Nat → Int32) (p : Nat → Int32) (pr : Nat → Int32) (wt : Nat → Int32) (ert : Nat → Int32) (flt : Nat → Int32) (met : Nat → Int32) (pt : Nat → Int32) (prt : Nat → Int32) (d : Nat → Int32) (jc : Int32) (pv : Nat → Int32) (W8 : Nat → Nat → Int32) (E8 : Nat → Nat → Int32) (F8 : Nat → Nat → Int32) (M8 : Nat → Nat → Int32) (P8 : Nat → Nat → Int32) (R8 : Nat → Nat → Int32) (fi : Nat → Nat → Int32) (WI : Nat → Nat → Int32) (EI : Nat → Nat → Int32) (FJ : Nat → Nat → Int32) (MI : Nat → Nat → Int32) (PJ : Nat → Nat → Int32) (RI : Nat → Nat → Int32) (m : Nat → Int32) (ps : Nat → Int32) (im : Nat → Int32) (ik : Nat → Int32) (asd : Nat → Int32) (rb : Nat → Int32) (rp : Nat → Int32) (mv : Nat → Int32) : va_W := wAll (wT Z t (a 0) (b 0) hj hq hi) (wP Z a w er fl me p pr) (wP Z b wt ert flt met pt prt) (wJ Z hj hd d jc) (wQ Z hq hs AD pv W8 E8 F8 M8 P8 R8) (wI Z hi IH IA fi WI EI FJ MI PJ RI) (wX Z x m ps im ik asd rb rp mv)
/-- at pc, before or behind a turn, for all that class and reference may hold alike -/
def Nx (X : CX) (Z : GZ) (kc ks : Nat) (t : Nat) (a : Nat → Nat) (b : Nat → Nat) (hj : Nat) (hd : Nat) (hq : Nat) (hs : Nat) (AD : Nat → Nat → Nat) (hi : Nat) (IH : Nat → Nat) (IA : Nat → Nat → Nat) (x : Nat → Nat) (bs i pc : Nat) : Prop := ∀ (w : Nat → Int32) (er : Nat → Int32) (fl : Nat → Int32) (me : Nat → Int32) (p : Nat → Int32) (pr : Nat → Int32) (wt : Nat → Int32) (ert : Nat → Int32) (flt : Nat → Int32) (met : Nat → Int32) (pt : Nat → Int32) (prt : Nat → Int32) (d : Nat → Int32) (jc : Int32) (pv : Nat → Int32) (W8 : Nat → Nat → Int32) (E8 : Nat → Nat → Int32) (F8 : Nat → Nat → Int32) (M8 : Nat → Nat → Int32) (P8 : Nat → Nat → Int32) (R8 : Nat → Nat → Int32) (fi : Nat → Nat → Int32) (WI : Nat → Nat → Int32) (EI : Nat → Nat → Int32) (FJ : Nat → Nat → Int32) (MI : Nat → Nat → Int32) (PJ : Nat → Nat → Int32) (RI : Nat → Nat → Int32) (m : Nat → Int32) (ps : Nat → Int32) (im : Nat → Int32) (ik : Nat → Int32) (asd : Nat → Int32) (rb : Nat → Int32) (rp : Nat → Int32) (mv : Nat → Int32), PI w er fl me p pr m → PA pv W8 E8 F8 M8 P8 R8 ps mv → IM fi WI EI FJ MI PJ RI im ik → AtK X Z room_1 cL_law RL 8 kc ks (wA Z t a b hj hd hq hs AD hi IH IA x w er fl me p pr wt ert flt met pt prt d jc pv W8 E8 F8 M8 P8 R8 fi WI EI FJ MI PJ RI m ps im ik asd rb rp mv) pc [(3, .int (nI i)), (2, .ref (x 0)), (1, .ref t), (0, .ref bs)] []
theorem f2_cmp {x : UInt32} (h : FP.Core.fIsNaN x = false) : Op.cmpValue (FP.dcmp (FP.f2d x) (FP.f2d x)) .l = 0 := by
  have h2 : FP.Core.dIsNaN (FP.f2d x) = false := (FP.f2d_nan x).trans h
  rw [show FP.dcmp (FP.f2d x) (FP.f2d x) = some .eq from FP.Core.dcmp_self ((FP.Core.notNaN_iff _).mp h2)]
  rfl
theorem pk_Q1 {Z : GZ} {T P R J I Xw : va_W} {hq hs : Nat} {AD : Nat → Nat → Nat} {pv : Nat → Int32} {W8 E8 F8 M8 P8 R8 : Nat → Nat → Int32} : xPk (wAll T P R J (wQ Z hq hs AD pv W8 E8 F8 M8 P8 R8) I Xw) (wAll T P R J (wQ Z hq hs AD pv W8 E8 F8 M8 P8 R8) I Xw) (T ++ (P ++ wQ1 Z hq hs pv)) (T ++ (P ++ wQ1 Z hq hs pv)) := by
  have e : wQ Z hq hs AD pv W8 E8 F8 M8 P8 R8 = wQ1 Z hq hs pv ++ (wQ Z hq hs AD pv W8 E8 F8 M8 P8 R8).tail := rfl
  generalize (wQ Z hq hs AD pv W8 E8 F8 M8 P8 R8).tail = q1 at e
  rw [e]
  exact pk_Pq rfl rfl
theorem PI.fi {w er fl me p pr m : Nat → Int32} (h : PI w er fl me p pr m) : ∃ B S k, FI m B S k := by
  obtain ⟨-, ⟨B, S, k, hI, -⟩, -⟩ := h
  exact ⟨B, S, k, hI⟩
theorem scr_j {i k L : Nat} (h : i + 4 ≤ L) (hL : L ≤ 2048) (hk : k < 4) : (nI i + nI k).toNatClampNeg = i + k := by
  rw [nI_add, nI_clamp (by omega)]
theorem scr_in {i k L : Nat} (h : i + 4 ≤ L) (hL : L ≤ 2048) (hk : k < 4) : ¬ (nI i + nI k < 0 ∨ L ≤ (nI i + nI k).toNatClampNeg) := by
  rw [nI_add]
  exact cond_nI (by omega) (by omega)

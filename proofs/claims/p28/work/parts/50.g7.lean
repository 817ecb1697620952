-- a row of 131 numbers and what is done with it: pure functions
def g_X7_isIn_14    : Option (Int32) :=
  some (0)
def g_X7_isIn  (n1 : Int32) (n2 : Int32) (n3 : Int32) : Option (Int32) :=
  (if n1 < n2 then g_X7_isIn_14 else (if n3 < n1 then g_X7_isIn_14 else some (1)))
def g_X7_isSort  (n1 : Int32) : Option (Int32) :=
  (g_X7_isIn n1 0 3).bind fun o3 => (if ¬ (o3 = 0 ∨ o3 = 1) then none else some (o3))
def g_X7_isBlock  (n1 : Int32) : Option (Int32) :=
  (g_X7_isIn n1 0 4).bind fun o3 => (if ¬ (o3 = 0 ∨ o3 = 1) then none else some (o3))
def g_X7_isImage  (n1 : Int32) : Option (Int32) :=
  (g_X7_isIn n1 0 1).bind fun o3 => (if ¬ (o3 = 0 ∨ o3 = 1) then none else some (o3))
def g_X7_lengthOf  (n1 : Int32) : Option (Int32) :=
  some ((40 + (20 * n1)))
def g_X7_headCheck  (n1 : Int32) (n2 : Int32) (n3 : Int32) (n4 : Int32) (n5 : Int32) : Option (Int32) :=
  some ((jrem ((((((3 * n1) + (5 * n2)) + (7 * n3)) + (11 * n4)) + (13 * n5)) + 1) 65521))
def g_X7_recordCheck  (n1 : Int32) (n2 : Int32) (n3 : Int32) (n4 : Int32) : Option (Int32) :=
  some ((jrem (((((3 * n1) + (5 * n2)) + (7 * n3)) + (11 * n4)) + 2) 65521))
def g_X7_wordOf  (n1 : Int32) (n2 : Int32) : Option (Int32) :=
  some (((6 + (4 * n1)) + n2))
def g_X7_at (m : Nat → Int32) (n1 : Int32) (n2 : Int32) : Option (Int32) :=
  (if ((22 * n1) + n2) < 0 ∨ 131 ≤ ((22 * n1) + n2).toNatClampNeg then none else some ((m ((22 * n1) + n2).toNatClampNeg)))
def g_X7_keep_52 (m : Nat → Int32)  : Nat → Int32 → (Nat → Int32) → (Nat → Int32) → Option ((Nat → Int32) × (Nat → Int32))
  | 0 => fun _ _ _ => none
  | n + 1 => fun x1 ps mv => (if 131 ≤ x1 then some (ps, (upd mv 0 ((mv 0) + 1))) else (if x1 < 0 ∨ 131 ≤ x1.toNatClampNeg then none else (if ((131 * (mv 0)) + x1) < 0 ∨ 1048 ≤ ((131 * (mv 0)) + x1).toNatClampNeg then none else (g_X7_keep_52 m n) (x1 + 1) (upd ps (((131 * (mv 0)) + x1).toNatClampNeg) (m x1.toNatClampNeg)) mv)))
def g_X7_keep_50 (m : Nat → Int32)  (ps : Nat → Int32) (mv : Nat → Int32) : Option ((Nat → Int32) × (Nat → Int32)) :=
  g_X7_keep_52 m 1000 0 ps mv
def g_X7_keep_11 (m : Nat → Int32)  : Nat → Int32 → (Nat → Int32) → (Nat → Int32) → Option ((Nat → Int32) × (Nat → Int32))
  | 0 => fun _ _ _ => none
  | n + 1 => fun x1 ps mv => (if 917 ≤ x1 then g_X7_keep_50 m ps (upd mv 0 ((mv 0) - 1)) else (if (x1 + 131) < 0 ∨ 1048 ≤ (x1 + 131).toNatClampNeg then none else (if x1 < 0 ∨ 1048 ≤ x1.toNatClampNeg then none else (g_X7_keep_11 m n) (x1 + 1) (upd ps x1.toNatClampNeg (ps (x1 + 131).toNatClampNeg)) mv)))
def g_X7_keep (m : Nat → Int32) (ps : Nat → Int32) (mv : Nat → Int32)  : Option ((Nat → Int32) × (Nat → Int32)) :=
  (if (mv 0) = 8 then g_X7_keep_11 m 1000 0 ps mv else g_X7_keep_50 m ps mv)
def g_X7_undo_22 (ps : Nat → Int32)  : Nat → Int32 → (Nat → Int32) → (Nat → Int32) → Option (Int32 × (Nat → Int32) × (Nat → Int32))
  | 0 => fun _ _ _ => none
  | n + 1 => fun x1 m mv => (if 131 ≤ x1 then some ((mv 0), m, mv) else (if ((131 * (mv 0)) + x1) < 0 ∨ 1048 ≤ ((131 * (mv 0)) + x1).toNatClampNeg then none else (if x1 < 0 ∨ 131 ≤ x1.toNatClampNeg then none else (g_X7_undo_22 ps n) (x1 + 1) (upd m x1.toNatClampNeg (ps ((131 * (mv 0)) + x1).toNatClampNeg)) mv)))
def g_X7_undo (m : Nat → Int32) (ps : Nat → Int32) (mv : Nat → Int32)  : Option (Int32 × (Nat → Int32) × (Nat → Int32)) :=
  (if (mv 0) = 0 then some ((-2), m, mv) else g_X7_undo_22 ps 140 0 m (upd mv 0 ((mv 0) - 1)))
def g_X7_canOperate_52   (t1 : Int32) (t2 : Int32) (t3 : Int32) (m : Nat → Int32) : Option (Int32 × (Nat → Int32)) :=
  (if t1 < 0 ∨ 131 ≤ t1.toNatClampNeg then none else some (1, (upd (upd m t1.toNatClampNeg (t2 - t3)) 125 (((upd m t1.toNatClampNeg (t2 - t3)) 125) + 1))))
def g_X7_canOperate (m : Nat → Int32)  : Option (Int32 × (Nat → Int32)) :=
  (if (m 126) = 0 then some (0, (upd (upd m 126 (-9)) 115 0)) else (if (m 126) ≤ 0 then g_X7_canOperate_52 126 (m 126) 0 m else g_X7_canOperate_52 126 (m 126) 1 m))
def g_X7_put_23   (x4 : Int32) (m : Nat → Int32) : Option (Int32 × (Nat → Int32)) :=
  (if ¬ (x4 = 0 ∨ x4 = 1) then none else some (x4, m))
def g_X7_put (m : Nat → Int32) (n1 : Int32) (n2 : Int32) (n3 : Int32) : Option (Int32 × (Nat → Int32)) :=
  (g_X7_canOperate m).bind fun o1 => (if o1.1 = 0 then g_X7_put_23 o1.1 o1.2 else (if ((22 * n1) + n2) < 0 ∨ 131 ≤ ((22 * n1) + n2).toNatClampNeg then none else g_X7_put_23 o1.1 (upd o1.2 (((22 * n1) + n2).toNatClampNeg) n3)))
def g_X7_erase_49   (x2 : Int32) (m : Nat → Int32) : Option (Int32 × (Nat → Int32)) :=
  (if ¬ (x2 = 0 ∨ x2 = 1) then none else some (x2, m))
def g_X7_erase_11   : Nat → Int32 → Int32 → Int32 → (Nat → Int32) → Option (Int32 × (Nat → Int32))
  | 0 => fun _ _ _ _ => none
  | n + 1 => fun x1 x2 x3 m => (if 22 ≤ x3 then (if (110 + x1) < 0 ∨ 131 ≤ (110 + x1).toNatClampNeg then none else (if (110 + x1) < 0 ∨ 131 ≤ (110 + x1).toNatClampNeg then none else g_X7_erase_49 x2 (upd m ((110 + x1).toNatClampNeg) ((m (110 + x1).toNatClampNeg) + 1)))) else (if ((22 * x1) + x3) < 0 ∨ 131 ≤ ((22 * x1) + x3).toNatClampNeg then none else (g_X7_erase_11 n) x1 x2 (x3 + 1) (upd m (((22 * x1) + x3).toNatClampNeg) 65535)))
def g_X7_erase (m : Nat → Int32) (n1 : Int32) : Option (Int32 × (Nat → Int32)) :=
  (g_X7_canOperate m).bind fun o1 => (if o1.1 = 0 then g_X7_erase_49 o1.1 o1.2 else g_X7_erase_11 30 n1 o1.1 0 o1.2)
def g_X7_isWhole_84 (m : Nat → Int32)   : Option (Int32) :=
  some (0)
def g_X7_isWhole_26 (m : Nat → Int32) (k4 : Int32 → Int32 → Int32 → Option (Int32)) (x1 : Int32) (x3 : Int32) (t0 : Int32) (t1 : Int32) : Option (Int32) :=
  k4 x1 (t0 &&& t1) (x3 + 1)
def g_X7_isWhole_4 (m : Nat → Int32)  : Nat → Int32 → Int32 → Int32 → Option (Int32)
  | 0 => fun _ _ _ => none
  | n + 1 => fun x1 x2 x3 => (if 5 ≤ x3 then (if x2 = 0 then g_X7_isWhole_84 m else (g_X7_at m x1 5).bind fun o41 => (g_X7_at m x1 0).bind fun o47 => (g_X7_at m x1 1).bind fun o53 => (g_X7_at m x1 2).bind fun o59 => (g_X7_at m x1 3).bind fun o65 => (g_X7_at m x1 4).bind fun o71 => (g_X7_headCheck o47 o53 o59 o65 o71).bind fun o74 => (if o41 = o74 then some (1) else g_X7_isWhole_84 m)) else (g_X7_at m x1 x3).bind fun o13 => (if o13 = 65535 then g_X7_isWhole_26 m (g_X7_isWhole_4 m n) x1 x3 x2 0 else g_X7_isWhole_26 m (g_X7_isWhole_4 m n) x1 x3 x2 1))
def g_X7_isWhole (m : Nat → Int32) (n1 : Int32) : Option (Int32) :=
  g_X7_isWhole_4 m 8 n1 1 0
def g_X7_inPlace (m : Nat → Int32) (n1 : Int32) (n2 : Int32) (n3 : Int32) : Option (Int32) :=
  (g_X7_wordOf n2 n3).bind fun o4 => (g_X7_at m n1 o4).bind fun o7 => some (o7)
def g_X7_isEmpty_30 (m : Nat → Int32) (k5 : Int32 → Int32 → Int32 → Int32 → Option (Int32)) (x1 : Int32) (x2 : Int32) (x4 : Int32) (t0 : Int32) (t1 : Int32) : Option (Int32) :=
  k5 x1 x2 (t0 &&& t1) (x4 + 1)
def g_X7_isEmpty_5 (m : Nat → Int32)  : Nat → Int32 → Int32 → Int32 → Int32 → Option (Int32)
  | 0 => fun _ _ _ _ => none
  | n + 1 => fun x1 x2 x3 x4 => (if 4 ≤ x4 then (if ¬ (x3 = 0 ∨ x3 = 1) then none else some (x3)) else (g_X7_inPlace m x1 x2 x4).bind fun o17 => (if o17 = 65535 then g_X7_isEmpty_30 m (g_X7_isEmpty_5 m n) x1 x2 x4 x3 1 else g_X7_isEmpty_30 m (g_X7_isEmpty_5 m n) x1 x2 x4 x3 0))
def g_X7_isEmpty (m : Nat → Int32) (n1 : Int32) (n2 : Int32) : Option (Int32) :=
  g_X7_isEmpty_5 m 8 n1 n2 1 0
def g_X7_isRecord_53 (m : Nat → Int32)   : Option (Int32) :=
  some (0)
def g_X7_isRecord (m : Nat → Int32) (n1 : Int32) (n2 : Int32) : Option (Int32) :=
  (g_X7_isEmpty m n1 n2).bind fun o3 => (if o3 = 0 then (g_X7_inPlace m n1 n2 3).bind fun o13 => (g_X7_inPlace m n1 n2 0).bind fun o20 => (g_X7_inPlace m n1 n2 1).bind fun o27 => (g_X7_inPlace m n1 n2 2).bind fun o34 => (g_X7_at m n1 0).bind fun o40 => (g_X7_recordCheck o20 o27 o34 o40).bind fun o43 => (if o13 = o43 then some (1) else g_X7_isRecord_53 m) else g_X7_isRecord_53 m)
def g_X7_isTorn_22 (m : Nat → Int32)   : Option (Int32) :=
  some (0)
def g_X7_isTorn (m : Nat → Int32) (n1 : Int32) (n2 : Int32) : Option (Int32) :=
  (g_X7_isEmpty m n1 n2).bind fun o3 => (if o3 = 0 then (g_X7_isRecord m n1 n2).bind fun o12 => (if o12 = 0 then some (1) else g_X7_isTorn_22 m) else g_X7_isTorn_22 m)
def g_X7_beginBlock_190   (x4 : Int32) (m : Nat → Int32) : Option (Int32 × (Nat → Int32)) :=
  (if ¬ (x4 = 0 ∨ x4 = 1) then none else some (x4, m))
def g_X7_beginBlock_167   (x2 : Int32) (t0 : Int32) (m : Nat → Int32) : Option (Int32 × (Nat → Int32)) :=
  (if t0 = 0 then g_X7_beginBlock_190 t0 m else g_X7_beginBlock_190 t0 (upd (upd m 116 x2) 117 0))
def g_X7_beginBlock_166   (x2 : Int32) (m : Nat → Int32) : Option (Int32 × (Nat → Int32)) :=
  g_X7_beginBlock_167 x2 0 m
def g_X7_beginBlock_114   (x2 : Int32) (x3 : Int32) (t0 : Int32) (m : Nat → Int32) : Option (Int32 × (Nat → Int32)) :=
  (if t0 = 0 then g_X7_beginBlock_166 x2 m else (g_X7_headCheck x3 (m 119) (m 120) (m 121) (m 118)).bind fun o153 => (g_X7_put m x2 5 o153).bind fun o156 => (if o156.1 = 0 then g_X7_beginBlock_166 x2 o156.2 else g_X7_beginBlock_167 x2 1 o156.2))
def g_X7_beginBlock_113   (x2 : Int32) (x3 : Int32) (m : Nat → Int32) : Option (Int32 × (Nat → Int32)) :=
  g_X7_beginBlock_114 x2 x3 0 m
def g_X7_beginBlock (m : Nat → Int32)  : Option (Int32 × (Nat → Int32)) :=
  (g_X7_at m (m 116) 0).bind fun o17 => (g_X7_erase m (jrem ((m 116) + 1) 5)).bind fun o29 => (if o29.1 = 0 then g_X7_beginBlock_113 (jrem ((m 116) + 1) 5) (jrem (o17 + 1) 10000) o29.2 else (g_X7_put o29.2 (jrem ((m 116) + 1) 5) 0 (jrem (o17 + 1) 10000)).bind fun o39 => (if o39.1 = 0 then g_X7_beginBlock_113 (jrem ((m 116) + 1) 5) (jrem (o17 + 1) 10000) o39.2 else (g_X7_put o39.2 (jrem ((m 116) + 1) 5) 1 (o39.2 119)).bind fun o55 => (if o55.1 = 0 then g_X7_beginBlock_113 (jrem ((m 116) + 1) 5) (jrem (o17 + 1) 10000) o55.2 else (g_X7_put o55.2 (jrem ((m 116) + 1) 5) 2 (o55.2 120)).bind fun o71 => (if o71.1 = 0 then g_X7_beginBlock_113 (jrem ((m 116) + 1) 5) (jrem (o17 + 1) 10000) o71.2 else (g_X7_put o71.2 (jrem ((m 116) + 1) 5) 3 (o71.2 121)).bind fun o87 => (if o87.1 = 0 then g_X7_beginBlock_113 (jrem ((m 116) + 1) 5) (jrem (o17 + 1) 10000) o87.2 else (g_X7_put o87.2 (jrem ((m 116) + 1) 5) 4 (o87.2 118)).bind fun o103 => (if o103.1 = 0 then g_X7_beginBlock_113 (jrem ((m 116) + 1) 5) (jrem (o17 + 1) 10000) o103.2 else g_X7_beginBlock_114 (jrem ((m 116) + 1) 5) (jrem (o17 + 1) 10000) 1 o103.2))))))
def g_X7_write_168   (x7 : Int32) (m : Nat → Int32) : Option (Int32 × (Nat → Int32)) :=
  (if ¬ (x7 = 0 ∨ x7 = 1) then none else some (x7, m))
def g_X7_write_130   (t0 : Int32) (m : Nat → Int32) : Option (Int32 × (Nat → Int32)) :=
  (if t0 = 0 then g_X7_write_168 t0 m else g_X7_write_168 t0 (upd (upd m 117 ((m 117) + 1)) 118 (jrem ((m 118) + 1) 10000)))
def g_X7_write_129   (m : Nat → Int32) : Option (Int32 × (Nat → Int32)) :=
  g_X7_write_130 0 m
def g_X7_write_20   (x1 : Int32) (x2 : Int32) (x3 : Int32) (m : Nat → Int32) : Option (Int32 × (Nat → Int32)) :=
  (g_X7_wordOf (m 117) 0).bind fun o52 => (g_X7_put m (m 116) o52 ((10000 * x1) + (m 118))).bind fun o64 => (if o64.1 = 0 then g_X7_write_129 o64.2 else (g_X7_put o64.2 (m 116) (o52 + 1) x2).bind fun o78 => (if o78.1 = 0 then g_X7_write_129 o78.2 else (g_X7_put o78.2 (m 116) (o52 + 2) x3).bind fun o92 => (if o92.1 = 0 then g_X7_write_129 o92.2 else (g_X7_at o92.2 (m 116) 0).bind fun o113 => (g_X7_recordCheck ((10000 * x1) + (m 118)) x2 x3 o113).bind fun o116 => (g_X7_put o92.2 (m 116) (o52 + 3) o116).bind fun o119 => (if o119.1 = 0 then g_X7_write_129 o119.2 else g_X7_write_130 1 o119.2))))
def g_X7_write (m : Nat → Int32) (n1 : Int32) (n2 : Int32) (n3 : Int32) : Option (Int32 × (Nat → Int32)) :=
  (if (m 117) = 4 then (g_X7_beginBlock m).bind fun o12 => (if o12.1 = 0 then some (0, o12.2) else g_X7_write_20 n1 n2 n3 o12.2) else g_X7_write_20 n1 n2 n3 m)
def g_X7_newest_85 (m : Nat → Int32) (k5 : Int32 → Int32 → Option (Int32)) (x2 : Int32) (t0 : Int32) : Option (Int32) :=
  k5 t0 (x2 + 1)
def g_X7_newest_84 (m : Nat → Int32) (k5 : Int32 → Int32 → Option (Int32)) (x1 : Int32) (x2 : Int32) : Option (Int32) :=
  g_X7_newest_85 m k5 x2 x1
def g_X7_newest_62 (m : Nat → Int32) (k5 : Int32 → Int32 → Option (Int32)) (k19 : Int32 → Int32 → Int32 → Int32 → Option (Int32)) (x1 : Int32) (x2 : Int32) (x4 : Int32) (t0 : Int32) (t1 : Int32) : Option (Int32) :=
  k19 x1 x2 (t0 &&& t1) (x4 + 1)
def g_X7_newest_57 (m : Nat → Int32) (k5 : Int32 → Int32 → Option (Int32)) (k19 : Int32 → Int32 → Int32 → Int32 → Option (Int32)) (x1 : Int32) (x2 : Int32) (x4 : Int32) (t0 : Int32) : Option (Int32) :=
  g_X7_newest_62 m k5 k19 x1 x2 x4 t0 1
def g_X7_newest_19 (m : Nat → Int32) (k5 : Int32 → Int32 → Option (Int32)) : Nat → Int32 → Int32 → Int32 → Int32 → Option (Int32)
  | 0 => fun _ _ _ _ => none
  | n + 1 => fun x1 x2 x3 x4 => (if 5 ≤ x4 then (if x3 = 0 then g_X7_newest_84 m k5 x1 x2 else (if x1 = (-9) then g_X7_newest_85 m k5 x2 x2 else g_X7_newest_84 m k5 x1 x2)) else (g_X7_isWhole m x4).bind fun o29 => (if o29 = 0 then g_X7_newest_57 m k5 (g_X7_newest_19 m k5 n) x1 x2 x4 x3 else (g_X7_at m x4 0).bind fun o39 => (g_X7_at m x2 0).bind fun o45 => (if o39 = (jrem (o45 + 1) 10000) then g_X7_newest_62 m k5 (g_X7_newest_19 m k5 n) x1 x2 x4 x3 0 else g_X7_newest_57 m k5 (g_X7_newest_19 m k5 n) x1 x2 x4 x3)))
def g_X7_newest_5 (m : Nat → Int32)  : Nat → Int32 → Int32 → Option (Int32)
  | 0 => fun _ _ => none
  | n + 1 => fun x1 x2 => (if 5 ≤ x2 then some (x1) else (g_X7_isWhole m x2).bind fun o12 => g_X7_newest_19 m (g_X7_newest_5 m n) 8 x1 x2 o12 0)
def g_X7_newest (m : Nat → Int32)  : Option (Int32) :=
  g_X7_newest_5 m 8 (-9) 0
def g_X7_follow (m : Nat → Int32) (n1 : Int32) (n2 : Int32) : Option ((Nat → Int32)) :=
  (if (n1 / 10000) = 0 then (g_X7_lengthOf (n2 / 1000)).bind fun o95 => some ((upd (upd (upd (upd m 118 (jrem ((jrem n1 10000) + 1) 10000)) 119 ((m 119) + (jrem n2 1000))) 120 ((m 120) + 1)) 121 ((m 121) - o95))) else (if (n1 / 10000) = 1 then some ((upd (upd (upd m 118 (jrem ((jrem n1 10000) + 1) 10000)) 119 ((m 119) - (jrem n2 1000))) 120 ((m 120) - 1))) else (if (n1 / 10000) = 3 then some ((upd (upd (upd m 118 (jrem ((jrem n1 10000) + 1) 10000)) 119 0) 120 0)) else (if (n1 / 10000) = 4 then some ((upd (upd m 118 (jrem ((jrem n1 10000) + 1) 10000)) 121 n2)) else some ((upd m 118 (jrem ((jrem n1 10000) + 1) 10000)))))))
def g_X7_readMemory_156  (k124 : Int32 → Int32 → (Nat → Int32) → Option ((Nat → Int32))) (x1 : Int32) (x2 : Int32) (m : Nat → Int32) : Option ((Nat → Int32)) :=
  k124 x1 (x2 + 1) m
def g_X7_readMemory_124   : Nat → Int32 → Int32 → (Nat → Int32) → Option ((Nat → Int32))
  | 0 => fun _ _ _ => none
  | n + 1 => fun x1 x2 m => (if 4 ≤ x2 then some (m) else (g_X7_isRecord m x1 x2).bind fun o132 => (if o132 = 0 then g_X7_readMemory_156 (g_X7_readMemory_124 n) x1 x2 m else (g_X7_inPlace m x1 x2 0).bind fun o143 => (g_X7_inPlace m x1 x2 2).bind fun o150 => (g_X7_follow m o143 o150).bind fun o153 => g_X7_readMemory_156 (g_X7_readMemory_124 n) x1 x2 o153))
def g_X7_readMemory_122   (x1 : Int32) (m : Nat → Int32) : Option ((Nat → Int32)) :=
  g_X7_readMemory_124 8 x1 0 m
def g_X7_readMemory_81   : Nat → Int32 → (Nat → Int32) → Option ((Nat → Int32))
  | 0 => fun _ _ => none
  | n + 1 => fun x1 m => (if (m 117) ≤ 0 then g_X7_readMemory_122 x1 m else (g_X7_isEmpty m x1 ((m 117) - 1)).bind fun o102 => (if o102 = 0 then g_X7_readMemory_122 x1 m else (g_X7_readMemory_81 n) x1 (upd m 117 ((m 117) - 1))))
def g_X7_readMemory (m : Nat → Int32)  : Option ((Nat → Int32)) :=
  (g_X7_newest m).bind fun o1 => (g_X7_at (upd (upd m 115 1) 116 o1) o1 1).bind fun o30 => (g_X7_at (upd (upd (upd m 115 1) 116 o1) 119 o30) o1 2).bind fun o43 => (g_X7_at (upd (upd (upd (upd m 115 1) 116 o1) 119 o30) 120 o43) o1 3).bind fun o56 => (g_X7_at (upd (upd (upd (upd (upd m 115 1) 116 o1) 119 o30) 120 o43) 121 o56) o1 4).bind fun o69 => g_X7_readMemory_81 8 o1 (upd (upd (upd (upd (upd (upd (upd m 115 1) 116 o1) 119 o30) 120 o43) 121 o56) 118 o69) 117 4)
def g_X7_refusal_41 (m : Nat → Int32)   : Option (Int32) :=
  some ((-2))
def g_X7_refusal (m : Nat → Int32) (n1 : Int32) : Option (Int32) :=
  (g_X7_isSort n1).bind fun o1 => (if o1 = 0 then some ((-1)) else (if (m 115) = 0 then g_X7_refusal_41 m else (if (127 + n1) < 0 ∨ 131 ≤ (127 + n1).toNatClampNeg then none else (if ((m 119) + (m (127 + n1).toNatClampNeg)) ≤ 60000 then (g_X7_lengthOf n1).bind fun o52 => (if o52 ≤ (m 121) then some (0) else some ((-3))) else g_X7_refusal_41 m))))
def g_X7_sellNow (m : Nat → Int32) (n1 : Int32) : Option (Int32 × (Nat → Int32)) :=
  (if (127 + n1) < 0 ∨ 131 ≤ (127 + n1).toNatClampNeg then none else (g_X7_lengthOf n1).bind fun o19 => (g_X7_write m 0 (m 122) ((1000 * n1) + (m (127 + n1).toNatClampNeg))).bind fun o40 => (if o40.1 = 0 then some ((-4), o40.2) else (if (o40.2 123) < o19 then (g_X7_write (upd (upd (upd (upd o40.2 119 ((o40.2 119) + (m (127 + n1).toNatClampNeg))) 120 ((o40.2 120) + 1)) 121 ((o40.2 121) - o19)) 123 0) 1 (o40.2 122) ((1000 * n1) + (m (127 + n1).toNatClampNeg))).bind fun o144 => (if o144.1 = 0 then some ((-4), o144.2) else some ((m 118), (upd (upd o144.2 119 ((o144.2 119) - (m (127 + n1).toNatClampNeg))) 120 ((o144.2 120) - 1)))) else some ((m 118), (upd (upd (upd (upd (upd o40.2 119 ((o40.2 119) + (m (127 + n1).toNatClampNeg))) 120 ((o40.2 120) + 1)) 121 ((o40.2 121) - o19)) 123 ((o40.2 123) - o19)) 124 ((o40.2 124) + 1))))))
def g_X7_sell (m : Nat → Int32) (ps : Nat → Int32) (mv : Nat → Int32) (n1 : Int32) : Option (Int32 × (Nat → Int32) × (Nat → Int32) × (Nat → Int32)) :=
  (g_X7_refusal m n1).bind fun o2 => (if o2 = 0 then (g_X7_keep m ps mv).bind fun o13 => (g_X7_sellNow m n1).bind fun o18 => some (o18.1, o18.2, o13.1, o13.2) else some (o2, m, ps, mv))
def g_X7_cancel_55   (m : Nat → Int32) (ps : Nat → Int32) (mv : Nat → Int32) : Option (Int32 × (Nat → Int32) × (Nat → Int32) × (Nat → Int32)) :=
  some ((-2), m, ps, mv)
def g_X7_cancel (m : Nat → Int32) (ps : Nat → Int32) (mv : Nat → Int32)  : Option (Int32 × (Nat → Int32) × (Nat → Int32) × (Nat → Int32)) :=
  (if (m 115) = 0 then g_X7_cancel_55 m ps mv else (if ((m 117) - 1) < 0 then g_X7_cancel_55 m ps mv else (g_X7_isRecord m (m 116) ((m 117) - 1)).bind fun o35 => (if o35 = 0 then g_X7_cancel_55 m ps mv else (g_X7_inPlace m (m 116) ((m 117) - 1) 0).bind fun o45 => (if (o45 / 10000) = 0 then (g_X7_keep m ps mv).bind fun o59 => (g_X7_inPlace m (m 116) ((m 117) - 1) 2).bind fun o66 => (g_X7_write m 1 (m 122) o66).bind fun o80 => (if o80.1 = 0 then some ((-4), o80.2, o59.1, o59.2) else some ((jrem o66 1000), (upd (upd o80.2 119 ((o80.2 119) - (jrem o66 1000))) 120 ((o80.2 120) - 1)), o59.1, o59.2)) else g_X7_cancel_55 m ps mv))))
def g_X7_close (m : Nat → Int32) (ps : Nat → Int32) (mv : Nat → Int32)  : Option (Int32 × (Nat → Int32) × (Nat → Int32) × (Nat → Int32)) :=
  (if (m 115) = 0 then some ((-2), m, ps, mv) else (g_X7_keep m ps mv).bind fun o14 => (g_X7_write m 3 (m 122) (m 119)).bind fun o35 => (if o35.1 = 0 then some ((-4), o35.2, o14.1, o14.2) else some ((m 119), (upd (upd o35.2 119 0) 120 0), o14.1, o14.2)))
def g_X7_load_20   (m : Nat → Int32) (ps : Nat → Int32) (mv : Nat → Int32) : Option (Int32 × (Nat → Int32) × (Nat → Int32) × (Nat → Int32)) :=
  some ((-1), m, ps, mv)
def g_X7_load (m : Nat → Int32) (ps : Nat → Int32) (mv : Nat → Int32) (n1 : Int32) (n2 : Int32) : Option (Int32 × (Nat → Int32) × (Nat → Int32) × (Nat → Int32)) :=
  (g_X7_isIn n1 0 50000).bind fun o4 => (if o4 = 0 then g_X7_load_20 m ps mv else (g_X7_isIn n2 0 50000).bind fun o14 => (if o14 = 0 then g_X7_load_20 m ps mv else (if (m 115) = 0 then some ((-2), m, ps, mv) else (g_X7_keep m ps mv).bind fun o36 => (g_X7_write (upd m 123 n2) 4 (m 122) n1).bind fun o65 => (if o65.1 = 0 then some ((-4), o65.2, o36.1, o36.2) else some ((m 123), (upd o65.2 121 n1), o36.1, o36.2)))))
def g_X7_setClock_84   (x1 : Int32) (x2 : Int32) (m : Nat → Int32) (ps : Nat → Int32) (mv : Nat → Int32) : Option (Int32 × (Nat → Int32) × (Nat → Int32) × (Nat → Int32)) :=
  (if x2 = 0 then some (0, (upd m 122 x1), ps, mv) else some (1, (upd m 122 x1), ps, mv))
def g_X7_setClock_60   (x1 : Int32) (t0 : Int32) (m : Nat → Int32) (ps : Nat → Int32) (mv : Nat → Int32) : Option (Int32 × (Nat → Int32) × (Nat → Int32) × (Nat → Int32)) :=
  (if t0 = 0 then g_X7_setClock_84 x1 t0 m ps mv else (g_X7_write m 2 x1 (m 122)).bind fun o75 => (if o75.1 = 0 then some ((-4), o75.2, ps, mv) else g_X7_setClock_84 x1 t0 o75.2 ps mv))
def g_X7_setClock_55   (x1 : Int32) (m : Nat → Int32) (ps : Nat → Int32) (mv : Nat → Int32) : Option (Int32 × (Nat → Int32) × (Nat → Int32) × (Nat → Int32)) :=
  g_X7_setClock_60 x1 1 m ps mv
def g_X7_setClock (m : Nat → Int32) (ps : Nat → Int32) (mv : Nat → Int32) (n1 : Int32) : Option (Int32 × (Nat → Int32) × (Nat → Int32) × (Nat → Int32)) :=
  (g_X7_isIn n1 0 60000).bind fun o4 => (if o4 = 0 then some ((-1), m, ps, mv) else (if (m 115) = 0 then some ((-2), m, ps, mv) else (g_X7_keep m ps mv).bind fun o26 => (if 5 ≤ (n1 - (m 122)) then g_X7_setClock_55 n1 m o26.1 o26.2 else (if ((m 122) - n1) < 5 then g_X7_setClock_60 n1 0 m o26.1 o26.2 else g_X7_setClock_55 n1 m o26.1 o26.2))))
def g_X7_pass_51   (t1 : Int32) (t2 : Int32) (m : Nat → Int32) (ps : Nat → Int32) (mv : Nat → Int32) : Option (Int32 × (Nat → Int32) × (Nat → Int32) × (Nat → Int32)) :=
  (if t1 < 0 ∨ 131 ≤ t1.toNatClampNeg then none else some (((upd m t1.toNatClampNeg t2) 122), (upd m t1.toNatClampNeg t2), ps, mv))
def g_X7_pass (m : Nat → Int32) (ps : Nat → Int32) (mv : Nat → Int32) (n1 : Int32) : Option (Int32 × (Nat → Int32) × (Nat → Int32) × (Nat → Int32)) :=
  (g_X7_isIn n1 1 5000).bind fun o5 => (if o5 = 0 then some ((-1), m, ps, mv) else (g_X7_keep m ps mv).bind fun o14 => (if ((m 122) + n1) ≤ 60000 then g_X7_pass_51 122 ((m 122) + n1) m o14.1 o14.2 else g_X7_pass_51 122 60000 m o14.1 o14.2))
def g_X7_setPrice_18   (m : Nat → Int32) (ps : Nat → Int32) (mv : Nat → Int32) : Option (Int32 × (Nat → Int32) × (Nat → Int32) × (Nat → Int32)) :=
  some ((-1), m, ps, mv)
def g_X7_setPrice (m : Nat → Int32) (ps : Nat → Int32) (mv : Nat → Int32) (n1 : Int32) (n2 : Int32) : Option (Int32 × (Nat → Int32) × (Nat → Int32) × (Nat → Int32)) :=
  (g_X7_isSort n1).bind fun o1 => (if o1 = 0 then g_X7_setPrice_18 m ps mv else (g_X7_isIn n2 1 999).bind fun o12 => (if o12 = 0 then g_X7_setPrice_18 m ps mv else (g_X7_keep m ps mv).bind fun o21 => (if (127 + n1) < 0 ∨ 131 ≤ (127 + n1).toNatClampNeg then none else (if (127 + n1) < 0 ∨ 131 ≤ (127 + n1).toNatClampNeg then none else some ((m (127 + n1).toNatClampNeg), (upd m ((127 + n1).toNatClampNeg) n2), o21.1, o21.2)))))
def g_X7_cut_40   (x2 : Int32) (t1 : Int32) (t2 : Int32) (m : Nat → Int32) (ps : Nat → Int32) (mv : Nat → Int32) : Option (Int32 × (Nat → Int32) × (Nat → Int32) × (Nat → Int32)) :=
  (if t1 < 0 ∨ 131 ≤ t1.toNatClampNeg then none else some (x2, (upd m t1.toNatClampNeg t2), ps, mv))
def g_X7_cut (m : Nat → Int32) (ps : Nat → Int32) (mv : Nat → Int32) (n1 : Int32) : Option (Int32 × (Nat → Int32) × (Nat → Int32) × (Nat → Int32)) :=
  (g_X7_isIn n1 (-1) 100).bind fun o4 => (if o4 = 0 then some ((-1), m, ps, mv) else (g_X7_keep m ps mv).bind fun o13 => (if 0 ≤ n1 then g_X7_cut_40 (m 126) 126 n1 m o13.1 o13.2 else g_X7_cut_40 (m 126) 126 (-9) m o13.1 o13.2))
def g_X7_countIn_92 (m : Nat → Int32)  (x3 : Int32) : Option (Int32) :=
  some (x3)
def g_X7_countIn_84 (m : Nat → Int32) (k5 : Int32 → Int32 → Int32 → Int32 → Option (Int32)) (x1 : Int32) (x2 : Int32) (x4 : Int32) (t0 : Int32) (t1 : Int32) : Option (Int32) :=
  k5 x1 x2 (t0 + t1) (x4 + 1)
def g_X7_countIn_71 (m : Nat → Int32) (k5 : Int32 → Int32 → Int32 → Int32 → Option (Int32)) (x1 : Int32) (x2 : Int32) (x3 : Int32) (x4 : Int32) (t0 : Int32) : Option (Int32) :=
  (if t0 = 0 then g_X7_countIn_84 m k5 x1 x2 x4 x3 0 else g_X7_countIn_84 m k5 x1 x2 x4 x3 1)
def g_X7_countIn_70 (m : Nat → Int32) (k5 : Int32 → Int32 → Int32 → Int32 → Option (Int32)) (x1 : Int32) (x2 : Int32) (x3 : Int32) (x4 : Int32) : Option (Int32) :=
  g_X7_countIn_71 m k5 x1 x2 x3 x4 0
def g_X7_countIn_66 (m : Nat → Int32) (k5 : Int32 → Int32 → Int32 → Int32 → Option (Int32)) (x1 : Int32) (x2 : Int32) (x3 : Int32) (x4 : Int32) : Option (Int32) :=
  g_X7_countIn_71 m k5 x1 x2 x3 x4 1
def g_X7_countIn_5 (m : Nat → Int32)  : Nat → Int32 → Int32 → Int32 → Int32 → Option (Int32)
  | 0 => fun _ _ _ _ => none
  | n + 1 => fun x1 x2 x3 x4 => (if 4 ≤ x4 then g_X7_countIn_92 m x3 else (g_X7_isWhole m x1).bind fun o13 => (if o13 = 0 then g_X7_countIn_92 m x3 else (if x2 = (-2) then (g_X7_isTorn m x1 x4).bind fun o29 => g_X7_countIn_71 m (g_X7_countIn_5 m n) x1 x2 x3 x4 o29 else (g_X7_isRecord m x1 x4).bind fun o39 => (if o39 = 0 then g_X7_countIn_70 m (g_X7_countIn_5 m n) x1 x2 x3 x4 else (if x2 = (-1) then g_X7_countIn_66 m (g_X7_countIn_5 m n) x1 x2 x3 x4 else (g_X7_inPlace m x1 x4 0).bind fun o55 => (if (o55 / 10000) = x2 then g_X7_countIn_66 m (g_X7_countIn_5 m n) x1 x2 x3 x4 else g_X7_countIn_70 m (g_X7_countIn_5 m n) x1 x2 x3 x4))))))
def g_X7_countIn (m : Nat → Int32) (n1 : Int32) (n2 : Int32) : Option (Int32) :=
  g_X7_countIn_5 m 8 n1 n2 0 0
def g_X7_count_4 (m : Nat → Int32)  : Nat → Int32 → Int32 → Int32 → Option (Int32)
  | 0 => fun _ _ _ => none
  | n + 1 => fun x1 x2 x3 => (if 5 ≤ x3 then some (x2) else (g_X7_countIn m x3 x1).bind fun o13 => (g_X7_count_4 m n) x1 (x2 + o13) (x3 + 1))
def g_X7_count (m : Nat → Int32) (n1 : Int32) : Option (Int32) :=
  g_X7_count_4 m 8 n1 0 0
def g_X7_off (m : Nat → Int32) (ps : Nat → Int32) (mv : Nat → Int32)  : Option (Int32 × (Nat → Int32) × (Nat → Int32) × (Nat → Int32)) :=
  (if (m 115) = 0 then some ((-2), m, ps, mv) else (g_X7_keep m ps mv).bind fun o14 => (g_X7_count (upd m 115 0) (-1)).bind fun o27 => some (o27, (upd m 115 0), o14.1, o14.2))
def g_X7_start (m : Nat → Int32) (ps : Nat → Int32) (mv : Nat → Int32)  : Option (Int32 × (Nat → Int32) × (Nat → Int32) × (Nat → Int32)) :=
  (if (m 115) = 1 then some ((-2), m, ps, mv) else (g_X7_keep m ps mv).bind fun o15 => (g_X7_readMemory m).bind fun o19 => some ((o19 118), o19, o15.1, o15.2))
def g_X7_told_35 (m : Nat → Int32) (mv : Nat → Int32)  (x1 : Int32) : Option (Int32) :=
  (if x1 = 0 then some ((m 115)) else (if x1 = 1 then some ((m 122)) else (if x1 = 2 then some ((m 118)) else (if x1 = 3 then some ((m 119)) else (if x1 = 4 then some ((m 120)) else (if x1 = 5 then some ((m 121)) else (if x1 = 6 then some ((m 116)) else (if x1 = 7 then some ((m 117)) else (if x1 = 8 then some ((m 123)) else (if x1 = 9 then some ((m 124)) else (if x1 = 10 then some ((m 125)) else (if x1 = 11 then some ((m 126)) else some ((mv 0))))))))))))))
def g_X7_told (m : Nat → Int32) (mv : Nat → Int32) (n1 : Int32) : Option (Int32) :=
  (g_X7_isIn n1 0 12).bind fun o4 => (if o4 = 0 then some ((-1)) else (g_X7_isIn n1 2 7).bind fun o16 => (if o16 = 0 then g_X7_told_35 m mv n1 else (if (m 115) = 0 then some ((-9)) else g_X7_told_35 m mv n1)))
def g_X7_price (m : Nat → Int32) (n1 : Int32) : Option (Int32) :=
  (g_X7_isSort n1).bind fun o1 => (if o1 = 0 then some ((-1)) else (if (127 + n1) < 0 ∨ 131 ≤ (127 + n1).toNatClampNeg then none else some ((m (127 + n1).toNatClampNeg))))
def g_X7_word_26 (m : Nat → Int32)   : Option (Int32) :=
  some ((-1))
def g_X7_word (m : Nat → Int32) (n1 : Int32) (n2 : Int32) : Option (Int32) :=
  (g_X7_isBlock n1).bind fun o1 => (if o1 = 0 then g_X7_word_26 m else (g_X7_isIn n2 0 21).bind fun o11 => (if o11 = 0 then g_X7_word_26 m else (g_X7_at m n1 n2).bind fun o20 => some (o20)))
def g_X7_block_16 (m : Nat → Int32)   : Option (Int32) :=
  some ((-1))
def g_X7_block (m : Nat → Int32) (n1 : Int32) (n2 : Int32) : Option (Int32) :=
  (g_X7_isBlock n1).bind fun o1 => (if o1 = 0 then g_X7_block_16 m else (g_X7_isIn n2 0 4).bind fun o10 => (if o10 = 0 then g_X7_block_16 m else (if n2 = 0 then (g_X7_isWhole m n1).bind fun o50 => (if o50 = 0 then some (0) else some (1)) else (if n2 = 1 then (g_X7_isWhole m n1).bind fun o64 => (if o64 = 0 then some ((-9)) else (g_X7_at m n1 0).bind fun o73 => some (o73)) else (if n2 = 2 then (g_X7_countIn m n1 (-1)).bind fun o85 => some (o85) else (if n2 = 3 then (g_X7_countIn m n1 (-2)).bind fun o93 => some (o93) else (if (110 + n1) < 0 ∨ 131 ≤ (110 + n1).toNatClampNeg then none else some ((m (110 + n1).toNatClampNeg)))))))))
def g_X7_layBlock_46 (m : Nat → Int32) (k2 : Int32 → Int32 → (Nat → Int32) → (Nat → Int32) → (Nat → Int32) → Option ((Nat → Int32) × (Nat → Int32) × (Nat → Int32))) (x1 : Int32) (x2 : Int32) (rb : Nat → Int32) (rp : Nat → Int32) (mv : Nat → Int32) : Option ((Nat → Int32) × (Nat → Int32) × (Nat → Int32)) :=
  k2 x1 (x2 + 1) rb rp mv
def g_X7_layBlock_2 (m : Nat → Int32)  : Nat → Int32 → Int32 → (Nat → Int32) → (Nat → Int32) → (Nat → Int32) → Option ((Nat → Int32) × (Nat → Int32) × (Nat → Int32))
  | 0 => fun _ _ _ _ _ => none
  | n + 1 => fun x1 x2 rb rp mv => (if 4 ≤ x2 then some (rb, rp, mv) else (g_X7_isRecord m x1 x2).bind fun o10 => (if o10 = 0 then g_X7_layBlock_46 m (g_X7_layBlock_2 m n) x1 x2 rb rp mv else (if (mv 1) < 0 ∨ 20 ≤ (mv 1).toNatClampNeg then none else (if (mv 1) < 0 ∨ 20 ≤ (mv 1).toNatClampNeg then none else g_X7_layBlock_46 m (g_X7_layBlock_2 m n) x1 x2 (upd rb ((mv 1).toNatClampNeg) x1) (upd rp ((mv 1).toNatClampNeg) x2) (upd mv 1 ((mv 1) + 1))))))
def g_X7_layBlock (m : Nat → Int32) (rb : Nat → Int32) (rp : Nat → Int32) (mv : Nat → Int32) (n1 : Int32) : Option ((Nat → Int32) × (Nat → Int32) × (Nat → Int32)) :=
  g_X7_layBlock_2 m 8 n1 0 rb rp mv
def g_X7_layRecords_61 (m : Nat → Int32) (k17 : Int32 → Int32 → (Nat → Int32) → (Nat → Int32) → (Nat → Int32) → Option ((Nat → Int32) × (Nat → Int32) × (Nat → Int32))) (k23 : Int32 → Int32 → Int32 → (Nat → Int32) → (Nat → Int32) → (Nat → Int32) → Option ((Nat → Int32) × (Nat → Int32) × (Nat → Int32))) (x1 : Int32) (x2 : Int32) (x3 : Int32) (rb : Nat → Int32) (rp : Nat → Int32) (mv : Nat → Int32) : Option ((Nat → Int32) × (Nat → Int32) × (Nat → Int32)) :=
  k23 x1 x2 (x3 + 1) rb rp mv
def g_X7_layRecords_23 (m : Nat → Int32) (k17 : Int32 → Int32 → (Nat → Int32) → (Nat → Int32) → (Nat → Int32) → Option ((Nat → Int32) × (Nat → Int32) × (Nat → Int32))) : Nat → Int32 → Int32 → Int32 → (Nat → Int32) → (Nat → Int32) → (Nat → Int32) → Option ((Nat → Int32) × (Nat → Int32) × (Nat → Int32))
  | 0 => fun _ _ _ _ _ _ => none
  | n + 1 => fun x1 x2 x3 rb rp mv => (if 5 ≤ x3 then k17 x1 (x2 + (-1)) rb rp mv else (g_X7_isWhole m x3).bind fun o30 => (if o30 = 0 then g_X7_layRecords_61 m k17 (g_X7_layRecords_23 m k17 n) x1 x2 x3 rb rp mv else (g_X7_at m x3 0).bind fun o40 => (if (jrem ((x1 - o40) + 10000) 10000) = x2 then (g_X7_layBlock m rb rp mv x3).bind fun o58 => g_X7_layRecords_61 m k17 (g_X7_layRecords_23 m k17 n) x1 x2 x3 o58.1 o58.2.1 o58.2.2 else g_X7_layRecords_61 m k17 (g_X7_layRecords_23 m k17 n) x1 x2 x3 rb rp mv)))
def g_X7_layRecords_17 (m : Nat → Int32)  : Nat → Int32 → Int32 → (Nat → Int32) → (Nat → Int32) → (Nat → Int32) → Option ((Nat → Int32) × (Nat → Int32) × (Nat → Int32))
  | 0 => fun _ _ _ _ _ => none
  | n + 1 => fun x1 x2 rb rp mv => (if x2 < 0 then some (rb, rp, mv) else g_X7_layRecords_23 m (g_X7_layRecords_17 m n) 8 x1 x2 0 rb rp mv)
def g_X7_layRecords (m : Nat → Int32) (rb : Nat → Int32) (rp : Nat → Int32) (mv : Nat → Int32)  : Option ((Nat → Int32) × (Nat → Int32) × (Nat → Int32)) :=
  (g_X7_newest m).bind fun o7 => (g_X7_at m o7 0).bind fun o11 => g_X7_layRecords_17 m 8 o11 4 rb rp (upd mv 1 0)
def g_X7_of (m : Nat → Int32) (rb : Nat → Int32) (rp : Nat → Int32) (n1 : Int32) (n2 : Int32) : Option (Int32) :=
  (if n1 < 0 ∨ 20 ≤ n1.toNatClampNeg then none else (if n1 < 0 ∨ 20 ≤ n1.toNatClampNeg then none else (g_X7_inPlace m (rb n1.toNatClampNeg) (rp n1.toNatClampNeg) n2).bind fun o14 => some (o14)))
def g_X7_records (m : Nat → Int32) (n1 : Int32) : Option (Int32) :=
  (g_X7_isIn n1 (-2) 4).bind fun o4 => (if o4 = 0 then some ((-1)) else (g_X7_count m n1).bind fun o12 => some (o12))
def g_X7_record_13 (m : Nat → Int32)  (rb : Nat → Int32) (rp : Nat → Int32) (mv : Nat → Int32) : Option (Int32 × (Nat → Int32) × (Nat → Int32) × (Nat → Int32)) :=
  some ((-1), rb, rp, mv)
def g_X7_record (m : Nat → Int32) (rb : Nat → Int32) (rp : Nat → Int32) (mv : Nat → Int32) (n1 : Int32) (n2 : Int32) : Option (Int32 × (Nat → Int32) × (Nat → Int32) × (Nat → Int32)) :=
  (if n1 < 0 then g_X7_record_13 m rb rp mv else (g_X7_isIn n2 0 5).bind fun o7 => (if o7 = 0 then g_X7_record_13 m rb rp mv else (g_X7_layRecords m rb rp mv).bind fun o16 => (if n1 < (o16.2.2 1) then (if n2 = 0 then (g_X7_of m o16.1 o16.2.1 n1 0).bind fun o67 => some ((jrem o67 10000), o16.1, o16.2.1, o16.2.2) else (if n2 = 1 then (g_X7_of m o16.1 o16.2.1 n1 0).bind fun o78 => some ((o78 / 10000), o16.1, o16.2.1, o16.2.2) else (if n2 = 2 then (g_X7_of m o16.1 o16.2.1 n1 1).bind fun o89 => some (o89, o16.1, o16.2.1, o16.2.2) else (if n2 = 3 then (g_X7_of m o16.1 o16.2.1 n1 2).bind fun o96 => some (o96, o16.1, o16.2.1, o16.2.2) else (if n2 = 4 then (if n1 < 0 ∨ 20 ≤ n1.toNatClampNeg then none else some ((o16.1 n1.toNatClampNeg), o16.1, o16.2.1, o16.2.2)) else (if n1 < 0 ∨ 20 ≤ n1.toNatClampNeg then none else some ((o16.2.1 n1.toNatClampNeg), o16.1, o16.2.1, o16.2.2))))))) else some ((-9), o16.1, o16.2.1, o16.2.2))))
def g_X7_takings_110 (m : Nat → Int32) (k19 : Int32 → Int32 → Int32 → (Nat → Int32) → (Nat → Int32) → (Nat → Int32) → Option (Int32 × (Nat → Int32) × (Nat → Int32) × (Nat → Int32))) (x1 : Int32) (x3 : Int32) (t0 : Int32) (t1 : Int32) (rb : Nat → Int32) (rp : Nat → Int32) (mv : Nat → Int32) : Option (Int32 × (Nat → Int32) × (Nat → Int32) × (Nat → Int32)) :=
  k19 x1 (t0 + t1) (x3 + 1) rb rp mv
def g_X7_takings_69 (m : Nat → Int32) (k19 : Int32 → Int32 → Int32 → (Nat → Int32) → (Nat → Int32) → (Nat → Int32) → Option (Int32 × (Nat → Int32) × (Nat → Int32) × (Nat → Int32))) (x1 : Int32) (x2 : Int32) (x3 : Int32) (x4 : Int32) (t0 : Int32) (rb : Nat → Int32) (rp : Nat → Int32) (mv : Nat → Int32) : Option (Int32 × (Nat → Int32) × (Nat → Int32) × (Nat → Int32)) :=
  (if t0 = 0 then g_X7_takings_110 m k19 x1 x3 x2 0 rb rp mv else (if x4 = 0 then (g_X7_of m rb rp x3 2).bind fun o89 => g_X7_takings_110 m k19 x1 x3 x2 (jrem o89 1000) rb rp mv else (g_X7_of m rb rp x3 2).bind fun o102 => g_X7_takings_110 m k19 x1 x3 x2 (-(jrem o102 1000)) rb rp mv))
def g_X7_takings_68 (m : Nat → Int32) (k19 : Int32 → Int32 → Int32 → (Nat → Int32) → (Nat → Int32) → (Nat → Int32) → Option (Int32 × (Nat → Int32) × (Nat → Int32) × (Nat → Int32))) (x1 : Int32) (x2 : Int32) (x3 : Int32) (x4 : Int32) (rb : Nat → Int32) (rp : Nat → Int32) (mv : Nat → Int32) : Option (Int32 × (Nat → Int32) × (Nat → Int32) × (Nat → Int32)) :=
  g_X7_takings_69 m k19 x1 x2 x3 x4 0 rb rp mv
def g_X7_takings_64 (m : Nat → Int32) (k19 : Int32 → Int32 → Int32 → (Nat → Int32) → (Nat → Int32) → (Nat → Int32) → Option (Int32 × (Nat → Int32) × (Nat → Int32) × (Nat → Int32))) (x1 : Int32) (x2 : Int32) (x3 : Int32) (x4 : Int32) (rb : Nat → Int32) (rp : Nat → Int32) (mv : Nat → Int32) : Option (Int32 × (Nat → Int32) × (Nat → Int32) × (Nat → Int32)) :=
  g_X7_takings_69 m k19 x1 x2 x3 x4 1 rb rp mv
def g_X7_takings_19 (m : Nat → Int32)  : Nat → Int32 → Int32 → Int32 → (Nat → Int32) → (Nat → Int32) → (Nat → Int32) → Option (Int32 × (Nat → Int32) × (Nat → Int32) × (Nat → Int32))
  | 0 => fun _ _ _ _ _ _ => none
  | n + 1 => fun x1 x2 x3 rb rp mv => (if (mv 1) ≤ x3 then some (x2, rb, rp, mv) else (g_X7_of m rb rp x3 0).bind fun o30 => (if 2 ≤ (o30 / 10000) then g_X7_takings_68 m (g_X7_takings_19 m n) x1 x2 x3 (o30 / 10000) rb rp mv else (if x1 = (-1) then g_X7_takings_64 m (g_X7_takings_19 m n) x1 x2 x3 (o30 / 10000) rb rp mv else (g_X7_of m rb rp x3 2).bind fun o53 => (if (o53 / 1000) = x1 then g_X7_takings_64 m (g_X7_takings_19 m n) x1 x2 x3 (o30 / 10000) rb rp mv else g_X7_takings_68 m (g_X7_takings_19 m n) x1 x2 x3 (o30 / 10000) rb rp mv))))
def g_X7_takings (m : Nat → Int32) (rb : Nat → Int32) (rp : Nat → Int32) (mv : Nat → Int32) (n1 : Int32) : Option (Int32 × (Nat → Int32) × (Nat → Int32) × (Nat → Int32)) :=
  (g_X7_isIn n1 (-1) 3).bind fun o3 => (if o3 = 0 then some ((-1), rb, rp, mv) else (g_X7_layRecords m rb rp mv).bind fun o12 => g_X7_takings_19 m 30 n1 0 0 o12.1 o12.2.1 o12.2.2)
def g_X7_times_125 (m : Nat → Int32) (k25 : Int32 → Int32 → Int32 → Int32 → Int32 → (Nat → Int32) → (Nat → Int32) → (Nat → Int32) → Option (Int32 × (Nat → Int32) × (Nat → Int32) × (Nat → Int32))) (x1 : Int32) (x2 : Int32) (x3 : Int32) (x5 : Int32) (t0 : Int32) (t1 : Int32) (rb : Nat → Int32) (rp : Nat → Int32) (mv : Nat → Int32) : Option (Int32 × (Nat → Int32) × (Nat → Int32) × (Nat → Int32)) :=
  k25 x1 x2 x3 (t0 + t1) (x5 + 1) rb rp mv
def g_X7_times_84 (m : Nat → Int32) (k25 : Int32 → Int32 → Int32 → Int32 → Int32 → (Nat → Int32) → (Nat → Int32) → (Nat → Int32) → Option (Int32 × (Nat → Int32) × (Nat → Int32) × (Nat → Int32))) (x1 : Int32) (x2 : Int32) (x4 : Int32) (x5 : Int32) (t0 : Int32) (rb : Nat → Int32) (rp : Nat → Int32) (mv : Nat → Int32) : Option (Int32 × (Nat → Int32) × (Nat → Int32) × (Nat → Int32)) :=
  (g_X7_of m rb rp x5 0).bind fun o91 => (g_X7_of m rb rp (x5 - 1) 0).bind fun o104 => (if (jrem o91 10000) = (jrem ((jrem o104 10000) + 1) 10000) then g_X7_times_125 m k25 x1 x2 t0 x5 x4 0 rb rp mv else g_X7_times_125 m k25 x1 x2 t0 x5 x4 1 rb rp mv)
def g_X7_times_78 (m : Nat → Int32) (k25 : Int32 → Int32 → Int32 → Int32 → Int32 → (Nat → Int32) → (Nat → Int32) → (Nat → Int32) → Option (Int32 × (Nat → Int32) × (Nat → Int32) × (Nat → Int32))) (x1 : Int32) (x2 : Int32) (x4 : Int32) (x5 : Int32) (x6 : Int32) (rb : Nat → Int32) (rp : Nat → Int32) (mv : Nat → Int32) : Option (Int32 × (Nat → Int32) × (Nat → Int32) × (Nat → Int32)) :=
  g_X7_times_84 m k25 x1 x2 x4 x5 x6 rb rp mv
def g_X7_times_64 (m : Nat → Int32) (k25 : Int32 → Int32 → Int32 → Int32 → Int32 → (Nat → Int32) → (Nat → Int32) → (Nat → Int32) → Option (Int32 × (Nat → Int32) × (Nat → Int32) × (Nat → Int32))) (x1 : Int32) (x3 : Int32) (x4 : Int32) (x5 : Int32) (x6 : Int32) (t0 : Int32) (t1 : Int32) (rb : Nat → Int32) (rp : Nat → Int32) (mv : Nat → Int32) : Option (Int32 × (Nat → Int32) × (Nat → Int32) × (Nat → Int32)) :=
  (if x5 = 1 then g_X7_times_78 m k25 x1 (t0 + t1) x4 x5 x6 rb rp mv else (if x6 ≤ x3 then g_X7_times_84 m k25 x1 (t0 + t1) x4 x5 x3 rb rp mv else g_X7_times_78 m k25 x1 (t0 + t1) x4 x5 x6 rb rp mv))
def g_X7_times_25 (m : Nat → Int32)  : Nat → Int32 → Int32 → Int32 → Int32 → Int32 → (Nat → Int32) → (Nat → Int32) → (Nat → Int32) → Option (Int32 × (Nat → Int32) × (Nat → Int32) × (Nat → Int32))
  | 0 => fun _ _ _ _ _ _ _ _ => none
  | n + 1 => fun x1 x2 x3 x4 x5 rb rp mv => (if (mv 1) ≤ x5 then (if x1 = 0 then some (x2, rb, rp, mv) else (if x1 = 1 then some (x3, rb, rp, mv) else some (x4, rb, rp, mv))) else (g_X7_of m rb rp x5 1).bind fun o38 => (g_X7_of m rb rp (x5 - 1) 1).bind fun o47 => (if 0 ≤ (o38 - o47) then g_X7_times_64 m (g_X7_times_25 m n) x1 x3 x4 x5 (o38 - o47) x2 0 rb rp mv else g_X7_times_64 m (g_X7_times_25 m n) x1 x3 x4 x5 (o38 - o47) x2 1 rb rp mv))
def g_X7_times (m : Nat → Int32) (rb : Nat → Int32) (rp : Nat → Int32) (mv : Nat → Int32) (n1 : Int32) : Option (Int32 × (Nat → Int32) × (Nat → Int32) × (Nat → Int32)) :=
  (g_X7_isIn n1 0 2).bind fun o3 => (if o3 = 0 then some ((-1), rb, rp, mv) else (g_X7_layRecords m rb rp mv).bind fun o12 => g_X7_times_25 m 30 n1 0 0 0 1 o12.1 o12.2.1 o12.2.2)
def g_X7_putAside_2 (m : Nat → Int32)  : Nat → Int32 → (Nat → Int32) → Option ((Nat → Int32))
  | 0 => fun _ _ => none
  | n + 1 => fun x1 asd => (if 131 ≤ x1 then some (asd) else (if x1 < 0 ∨ 131 ≤ x1.toNatClampNeg then none else (if x1 < 0 ∨ 131 ≤ x1.toNatClampNeg then none else (g_X7_putAside_2 m n) (x1 + 1) (upd asd x1.toNatClampNeg (m x1.toNatClampNeg)))))
def g_X7_putAside (m : Nat → Int32) (asd : Nat → Int32)  : Option ((Nat → Int32)) :=
  g_X7_putAside_2 m 140 0 asd
def g_X7_putBack_2 (asd : Nat → Int32)  : Nat → Int32 → (Nat → Int32) → Option ((Nat → Int32))
  | 0 => fun _ _ => none
  | n + 1 => fun x1 m => (if 131 ≤ x1 then some (m) else (if x1 < 0 ∨ 131 ≤ x1.toNatClampNeg then none else (if x1 < 0 ∨ 131 ≤ x1.toNatClampNeg then none else (g_X7_putBack_2 asd n) (x1 + 1) (upd m x1.toNatClampNeg (asd x1.toNatClampNeg)))))
def g_X7_putBack (m : Nat → Int32) (asd : Nat → Int32)  : Option ((Nat → Int32)) :=
  g_X7_putBack_2 asd 140 0 m
def g_X7_operations (m : Nat → Int32) (asd : Nat → Int32) (n1 : Int32) : Option (Int32 × (Nat → Int32) × (Nat → Int32)) :=
  (g_X7_refusal m n1).bind fun o2 => (if o2 = 0 then (g_X7_putAside m asd).bind fun o13 => (g_X7_sellNow (upd m 126 (-9)) n1).bind fun o35 => (g_X7_putBack o35.2 o13).bind fun o52 => some (((o35.2 125) - (m 125)), o52, o13) else some (o2, m, asd))
def g_X7_after_26   (m : Nat → Int32) (asd : Nat → Int32) : Option (Int32 × (Nat → Int32) × (Nat → Int32)) :=
  some ((-1), m, asd)
def g_X7_after_139   (t0 : Int32) (m : Nat → Int32) (asd : Nat → Int32) : Option (Int32 × (Nat → Int32) × (Nat → Int32)) :=
  (g_X7_putBack m asd).bind fun o142 => some (t0, o142, asd)
def g_X7_after_76   (x3 : Int32) (m : Nat → Int32) (asd : Nat → Int32) : Option (Int32 × (Nat → Int32) × (Nat → Int32)) :=
  (if x3 = 0 then (g_X7_count m (-1)).bind fun o82 => g_X7_after_139 o82 m asd else (if x3 = 1 then (g_X7_count m (-2)).bind fun o96 => g_X7_after_139 o96 m asd else (if x3 = 2 then g_X7_after_139 (m 118) m asd else (if x3 = 3 then g_X7_after_139 (m 119) m asd else g_X7_after_139 (m 116) m asd))))
def g_X7_after (m : Nat → Int32) (asd : Nat → Int32) (n1 : Int32) (n2 : Int32) (n3 : Int32) : Option (Int32 × (Nat → Int32) × (Nat → Int32)) :=
  (g_X7_isSort n1).bind fun o1 => (if o1 = 0 then g_X7_after_26 m asd else (g_X7_isIn n2 0 30).bind fun o11 => (if o11 = 0 then g_X7_after_26 m asd else (g_X7_isIn n3 0 4).bind fun o20 => (if o20 = 0 then g_X7_after_26 m asd else (g_X7_refusal m n1).bind fun o30 => (if o30 = 0 then (g_X7_putAside m asd).bind fun o44 => (g_X7_sellNow (upd m 126 n2) n1).bind fun o57 => (if (o57.2 115) = 0 then (g_X7_readMemory o57.2).bind fun o73 => g_X7_after_76 n3 o73 o44 else g_X7_after_76 n3 o57.2 o44) else some (o30, m, asd)))))
def g_X7_needed (m : Nat → Int32) (n1 : Int32) : Option (Int32) :=
  (g_X7_refusal m n1).bind fun o2 => (if o2 = 0 then (if (m 117) = 4 then some (11) else some (4)) else some (o2))
def g_X7_keep__11 (m : Nat → Int32)  : Nat → Int32 → Int32 → (Nat → Int32) → (Nat → Int32) → Option (Int32 × (Nat → Int32) × (Nat → Int32))
  | 0 => fun _ _ _ _ => none
  | n + 1 => fun x1 x2 im ik => (if 131 ≤ x2 then (if x1 < 0 ∨ 2 ≤ x1.toNatClampNeg then none else (g_X7_count m (-1)).bind fun o51 => some (o51, im, (upd ik x1.toNatClampNeg 1))) else (if x2 < 0 ∨ 131 ≤ x2.toNatClampNeg then none else (if ((131 * x1) + x2) < 0 ∨ 262 ≤ ((131 * x1) + x2).toNatClampNeg then none else (g_X7_keep__11 m n) x1 (x2 + 1) (upd im (((131 * x1) + x2).toNatClampNeg) (m x2.toNatClampNeg)) ik)))
def g_X7_keep_ (m : Nat → Int32) (im : Nat → Int32) (ik : Nat → Int32) (n1 : Int32) : Option (Int32 × (Nat → Int32) × (Nat → Int32)) :=
  (g_X7_isImage n1).bind fun o1 => (if o1 = 0 then some ((-1), im, ik) else g_X7_keep__11 m 140 n1 0 im ik)
def g_X7_back_27 (im : Nat → Int32) (ik : Nat → Int32)  : Nat → Int32 → Int32 → (Nat → Int32) → (Nat → Int32) → (Nat → Int32) → Option (Int32 × (Nat → Int32) × (Nat → Int32) × (Nat → Int32))
  | 0 => fun _ _ _ _ _ => none
  | n + 1 => fun x1 x2 m ps mv => (if 131 ≤ x2 then (g_X7_count m (-1)).bind fun o60 => some (o60, m, ps, mv) else (if ((131 * x1) + x2) < 0 ∨ 262 ≤ ((131 * x1) + x2).toNatClampNeg then none else (if x2 < 0 ∨ 131 ≤ x2.toNatClampNeg then none else (g_X7_back_27 im ik n) x1 (x2 + 1) (upd m x2.toNatClampNeg (im ((131 * x1) + x2).toNatClampNeg)) ps mv)))
def g_X7_back (m : Nat → Int32) (ps : Nat → Int32) (im : Nat → Int32) (ik : Nat → Int32) (mv : Nat → Int32) (n1 : Int32) : Option (Int32 × (Nat → Int32) × (Nat → Int32) × (Nat → Int32)) :=
  (g_X7_isImage n1).bind fun o1 => (if o1 = 0 then some ((-1), m, ps, mv) else (if n1 < 0 ∨ 2 ≤ n1.toNatClampNeg then none else (if (ik n1.toNatClampNeg) = 0 then some ((-2), m, ps, mv) else (g_X7_keep m ps mv).bind fun o22 => g_X7_back_27 im ik 140 n1 0 m o22.1 o22.2)))

/-! the worlds: what the cells of an object hold -/
abbrev wF (Z : GZ) (h hw he : Nat) (w er fl : Nat → Int32) : va_W := [(h, .inr (0, [.ref hw, .ref he, .int (fl 0), .int (fl 1)])), (hw, .inl (Z.2.1, 110, .inl w)), (he, .inl (Z.2.1, 5, .inl er))]
abbrev wM (_ : GZ) (h : Nat) (me : Nat → Int32) : va_W := [(h, .inr (3, [.int (me 0), .int (me 1), .int (me 2), .int (me 3), .int (me 4), .int (me 5)]))]
abbrev wP (Z : GZ) (a : Nat → Nat) (w er fl me p pr : Nat → Int32) : va_W := [(a 0, .inr (5, [.ref (a 1), .ref (a 4), .ref (a 5), .int (pr 0), .int (pr 1), .int (pr 2), .int (pr 3)])), (a 1, .inr (0, [.ref (a 2), .ref (a 3), .int (fl 0), .int (fl 1)])), (a 2, .inl (Z.2.1, 110, .inl w)), (a 3, .inl (Z.2.1, 5, .inl er)), (a 4, .inr (3, [.int (me 0), .int (me 1), .int (me 2), .int (me 3), .int (me 4), .int (me 5)])), (a 5, .inl (Z.2.1, 4, .inl p))]
abbrev wJ (Z : GZ) (hj hd : Nat) (d : Nat → Int32) (jc : Int32) : va_W := [(hj, .inr (2, [.ref hd, .int jc])), (hd, .inl (Z.2.1, 120, .inl d))]
abbrev wX (Z : GZ) (a : Nat → Nat) (m ps im ik asd rb rp mv : Nat → Int32) : va_W := [(a 0, .inr (7, [.ref (a 1), .ref (a 2), .int (mv 0), .ref (a 3), .ref (a 4), .ref (a 5), .ref (a 6), .ref (a 7), .int (mv 1)])), (a 1, .inl (Z.2.1, 131, .inl m)), (a 2, .inl (Z.2.1, 1048, .inl ps)), (a 3, .inl (Z.2.1, 262, .inl im)), (a 4, .inl (Z.2.1, 2, .inl ik)), (a 5, .inl (Z.2.1, 131, .inl asd)), (a 6, .inl (Z.2.1, 20, .inl rb)), (a 7, .inl (Z.2.1, 20, .inl rp))]
abbrev wT (_ : GZ) (t pr tr hj hq hi : Nat) : va_W := [(t, .inr (6, [.ref pr, .ref tr, .ref hj, .ref hq, .ref hi]))]
theorem qw_228 : Cond.methodLink RX6 67 yX6_isWithin ∈ lw_tb := lw_up (List.mem_of_getElem? (i := 228) (by decide +kernel)) rfl
theorem qw_38 : Cond.initialized RX6 ∈ lw_tb := lw_up (List.mem_of_getElem? (i := 38) (by decide +kernel)) rfl
theorem qw_230 : Cond.code yX6_isWithin cX6_isWithin 3 (some .boolean) ∈ lw_tb := lw_up (List.mem_of_getElem? (i := 230) (by decide +kernel)) rfl
theorem qw_229 : Cond.static yX6_isWithin ∈ lw_tb := lw_up (List.mem_of_getElem? (i := 229) (by decide +kernel)) rfl
theorem qw_282 : Cond.constant RX6 214 65521 ∈ lw_tb := lw_up (List.mem_of_getElem? (i := 282) (by decide +kernel)) rfl
theorem qw_71 : Cond.fieldLink RX0 18 RX0 "done" "I" ∈ lw_tb := lw_up (List.mem_of_getElem? (i := 71) (by decide +kernel)) rfl
theorem qw_73 : Cond.fieldLink RX0 22 RX0 "left" "I" ∈ lw_tb := lw_up (List.mem_of_getElem? (i := 73) (by decide +kernel)) rfl
theorem qw_68 : Cond.constant RX0 25 65535 ∈ lw_tb := lw_up (List.mem_of_getElem? (i := 68) (by decide +kernel)) rfl
theorem qw_69 : Cond.fieldLink RX0 9 RX0 "words" "[I" ∈ lw_tb := lw_up (List.mem_of_getElem? (i := 69) (by decide +kernel)) rfl
theorem qw_287 : Cond.methodLink RX0 32 yX0_spendOperation ∈ lw_tb := lw_up (List.mem_of_getElem? (i := 287) (by decide +kernel)) rfl
theorem qw_40 : Cond.initialized RX0 ∈ lw_tb := lw_up (List.mem_of_getElem? (i := 40) (by decide +kernel)) rfl
theorem qw_290 : Cond.code yX0_spendOperation cX0_spendOperation 1 (some .boolean) ∈ lw_tb := lw_up (List.mem_of_getElem? (i := 290) (by decide +kernel)) rfl
theorem qw_289 : Cond.instanceMethod yX0_spendOperation ∈ lw_tb := lw_up (List.mem_of_getElem? (i := 289) (by decide +kernel)) rfl
theorem qw_3 : Cond.selects RX0 yX0_spendOperation yX0_spendOperation ∈ lw_tb := lw_up (List.mem_of_getElem? (i := 3) (by decide +kernel)) rfl
theorem qw_70 : Cond.fieldLink RX0 15 RX0 "erasures" "[I" ∈ lw_tb := lw_up (List.mem_of_getElem? (i := 70) (by decide +kernel)) rfl
theorem qw_335 : Cond.methodLink RX0 36 yX0_read ∈ lw_tb := lw_up (List.mem_of_getElem? (i := 335) (by decide +kernel)) rfl
theorem qw_278 : Cond.code yX0_read cX0_read 4 (some .int) ∈ lw_tb := lw_up (List.mem_of_getElem? (i := 278) (by decide +kernel)) rfl
theorem qw_276 : Cond.instanceMethod yX0_read ∈ lw_tb := lw_up (List.mem_of_getElem? (i := 276) (by decide +kernel)) rfl
theorem qw_277 : Cond.selects RX0 yX0_read yX0_read ∈ lw_tb := lw_up (List.mem_of_getElem? (i := 277) (by decide +kernel)) rfl
theorem qw_409 : Cond.methodLinkNest RX0 40 yX6_headerCheck "TicketJournal" ∈ lw_ns := lw_un (List.mem_of_getElem? (i := 409) (by decide +kernel)) rfl
theorem qw_281 : Cond.code yX6_headerCheck cX6_headerCheck 5 (some .int) ∈ lw_tb := lw_up (List.mem_of_getElem? (i := 281) (by decide +kernel)) rfl
theorem qw_280 : Cond.static yX6_headerCheck ∈ lw_tb := lw_up (List.mem_of_getElem? (i := 280) (by decide +kernel)) rfl
theorem qw_331 : Cond.methodLink RX0 48 yX0_recordWord ∈ lw_tb := lw_up (List.mem_of_getElem? (i := 331) (by decide +kernel)) rfl
theorem qw_334 : Cond.code yX0_recordWord cX0_recordWord 4 (some .int) ∈ lw_tb := lw_up (List.mem_of_getElem? (i := 334) (by decide +kernel)) rfl
theorem qw_332 : Cond.instanceMethod yX0_recordWord ∈ lw_tb := lw_up (List.mem_of_getElem? (i := 332) (by decide +kernel)) rfl
theorem qw_333 : Cond.selects RX0 yX0_recordWord yX0_recordWord ∈ lw_tb := lw_up (List.mem_of_getElem? (i := 333) (by decide +kernel)) rfl
theorem qw_327 : Cond.methodLink RX0 44 yX0_isEmpty ∈ lw_tb := lw_up (List.mem_of_getElem? (i := 327) (by decide +kernel)) rfl
theorem qw_330 : Cond.code yX0_isEmpty cX0_isEmpty 4 (some .boolean) ∈ lw_tb := lw_up (List.mem_of_getElem? (i := 330) (by decide +kernel)) rfl
theorem qw_329 : Cond.instanceMethod yX0_isEmpty ∈ lw_tb := lw_up (List.mem_of_getElem? (i := 329) (by decide +kernel)) rfl
theorem qw_5 : Cond.selects RX0 yX0_isEmpty yX0_isEmpty ∈ lw_tb := lw_up (List.mem_of_getElem? (i := 5) (by decide +kernel)) rfl
theorem qw_336 : Cond.methodLinkNest RX0 52 yX6_recordCheck "TicketJournal" ∈ lw_ns := lw_un (List.mem_of_getElem? (i := 336) (by decide +kernel)) rfl
theorem qw_301 : Cond.code yX6_recordCheck cX6_recordCheck 4 (some .int) ∈ lw_tb := lw_up (List.mem_of_getElem? (i := 301) (by decide +kernel)) rfl
theorem qw_300 : Cond.static yX6_recordCheck ∈ lw_tb := lw_up (List.mem_of_getElem? (i := 300) (by decide +kernel)) rfl
theorem qw_410 : Cond.methodLink RX0 60 yX0_stateOf ∈ lw_tb := lw_up (List.mem_of_getElem? (i := 410) (by decide +kernel)) rfl
theorem qw_326 : Cond.code yX0_stateOf cX0_stateOf 4 (some .int) ∈ lw_tb := lw_up (List.mem_of_getElem? (i := 326) (by decide +kernel)) rfl
theorem qw_324 : Cond.instanceMethod yX0_stateOf ∈ lw_tb := lw_up (List.mem_of_getElem? (i := 324) (by decide +kernel)) rfl
theorem qw_325 : Cond.selects RX0 yX0_stateOf yX0_stateOf ∈ lw_tb := lw_up (List.mem_of_getElem? (i := 325) (by decide +kernel)) rfl
theorem qw_405 : Cond.methodLink RX0 56 yX0_isWhole ∈ lw_tb := lw_up (List.mem_of_getElem? (i := 405) (by decide +kernel)) rfl
theorem qw_408 : Cond.code yX0_isWhole cX0_isWhole 3 (some .boolean) ∈ lw_tb := lw_up (List.mem_of_getElem? (i := 408) (by decide +kernel)) rfl
theorem qw_406 : Cond.instanceMethod yX0_isWhole ∈ lw_tb := lw_up (List.mem_of_getElem? (i := 406) (by decide +kernel)) rfl
theorem qw_407 : Cond.selects RX0 yX0_isWhole yX0_isWhole ∈ lw_tb := lw_up (List.mem_of_getElem? (i := 407) (by decide +kernel)) rfl
theorem qw_401 : Cond.methodLink RX0 63 yX0_tallyIn ∈ lw_tb := lw_up (List.mem_of_getElem? (i := 401) (by decide +kernel)) rfl
theorem qw_404 : Cond.code yX0_tallyIn cX0_tallyIn 5 (some .int) ∈ lw_tb := lw_up (List.mem_of_getElem? (i := 404) (by decide +kernel)) rfl
theorem qw_402 : Cond.instanceMethod yX0_tallyIn ∈ lw_tb := lw_up (List.mem_of_getElem? (i := 402) (by decide +kernel)) rfl
theorem qw_403 : Cond.selects RX0 yX0_tallyIn yX0_tallyIn ∈ lw_tb := lw_up (List.mem_of_getElem? (i := 403) (by decide +kernel)) rfl
theorem qw_427 : Cond.methodLink RX0 66 yX0_isFollowed ∈ lw_tb := lw_up (List.mem_of_getElem? (i := 427) (by decide +kernel)) rfl
theorem qw_430 : Cond.code yX0_isFollowed cX0_isFollowed 4 (some .boolean) ∈ lw_tb := lw_up (List.mem_of_getElem? (i := 430) (by decide +kernel)) rfl
theorem qw_429 : Cond.instanceMethod yX0_isFollowed ∈ lw_tb := lw_up (List.mem_of_getElem? (i := 429) (by decide +kernel)) rfl
theorem qw_6 : Cond.selects RX0 yX0_isFollowed yX0_isFollowed ∈ lw_tb := lw_up (List.mem_of_getElem? (i := 6) (by decide +kernel)) rfl
theorem kic_0 : Int32.ofInt 0 = 0 := by decide
theorem kic_1 : Int32.ofInt 1 = 1 := by decide
theorem kic_3 : Int32.ofInt 3 = 3 := by decide
theorem kic_4 : Int32.ofInt 4 = 4 := by decide
theorem kbp_40 : (Int8.ofInt 40).toInt32 = 40 := by decide
theorem kbp_20 : (Int8.ofInt 20).toInt32 = 20 := by decide
theorem kic_5 : Int32.ofInt 5 = 5 := by decide
theorem kbp_7 : (Int8.ofInt 7).toInt32 = 7 := by decide
theorem kbp_11 : (Int8.ofInt 11).toInt32 = 11 := by decide
theorem kbp_13 : (Int8.ofInt 13).toInt32 = 13 := by decide
theorem kic_2 : Int32.ofInt 2 = 2 := by decide
theorem kbp_m9 : (Int8.ofInt (-9)).toInt32 = (-9) := by decide
theorem kbp_22 : (Int8.ofInt 22).toInt32 = 22 := by decide
theorem kbp_6 : (Int8.ofInt 6).toInt32 = 6 := by decide
theorem ksp_10000 : (Int16.ofInt 10000).toInt32 = 10000 := by decide
theorem ms_X6_isWithin : mSo yX6_isWithin cX6_isWithin 3 3 (some .boolean) := ⟨qw_229, qw_38, qw_230, by decide +kernel⟩
theorem mv_X0_spendOperation : mVo yX0_spendOperation cX0_spendOperation 1 0 (some .boolean) := ⟨qw_289, qw_3, qw_40, qw_290, by decide +kernel⟩
theorem mv_X0_read : mVo yX0_read cX0_read 4 2 (some .int) := ⟨qw_276, qw_277, qw_40, qw_278, by decide +kernel⟩
theorem ms_X6_headerCheck : mSo yX6_headerCheck cX6_headerCheck 5 5 (some .int) := ⟨qw_280, qw_38, qw_281, by decide +kernel⟩
theorem mv_X0_recordWord : mVo yX0_recordWord cX0_recordWord 4 3 (some .int) := ⟨qw_332, qw_333, qw_40, qw_334, by decide +kernel⟩
theorem mv_X0_isEmpty : mVo yX0_isEmpty cX0_isEmpty 4 2 (some .boolean) := ⟨qw_329, qw_5, qw_40, qw_330, by decide +kernel⟩
theorem ms_X6_recordCheck : mSo yX6_recordCheck cX6_recordCheck 4 4 (some .int) := ⟨qw_300, qw_38, qw_301, by decide +kernel⟩
theorem mv_X0_stateOf : mVo yX0_stateOf cX0_stateOf 4 2 (some .int) := ⟨qw_324, qw_325, qw_40, qw_326, by decide +kernel⟩
theorem mv_X0_isWhole : mVo yX0_isWhole cX0_isWhole 3 1 (some .boolean) := ⟨qw_406, qw_407, qw_40, qw_408, by decide +kernel⟩
theorem mv_X0_tallyIn : mVo yX0_tallyIn cX0_tallyIn 5 2 (some .int) := ⟨qw_402, qw_403, qw_40, qw_404, by decide +kernel⟩
theorem mv_X0_isFollowed : mVo yX0_isFollowed cX0_isFollowed 4 1 (some .boolean) := ⟨qw_429, qw_6, qw_40, qw_430, by decide +kernel⟩
theorem gf_X0_2 {X : CX} {Z : GZ} {R : Room} {cc : ByteArray} {own : String} {nL kc ks : Nat} {ws : va_W} {pc : Nat} {lv : List (Nat × Value)} {st : List Value} {ix a : Nat} {fs : List Value} {v : Value} (q0 : Nat) (he : ws[q0]? = some (a, .inr (0, fs))) (hv : fs[2]? = some v) (q : Cond.fieldLink own ix RX0 "done" "I" ∈ lw_tb) (d : decode cc pc = .ok (.getfield ix, 3)) (kk : AtK X Z R cc own nL kc ks ws (pc + 3) lv (v :: st)) : AtK X Z R cc own nL kc ks ws pc lv (.ref a :: st) := r_getf (T := TX0) (N := 4) kX0 rfl 2 (by decide) rfl q0 he hv q d kk
theorem pf_X0_2 {X : CX} {Z : GZ} {R : Room} {cc : ByteArray} {own : String} {nL kc ks : Nat} {ws : va_W} {pc : Nat} {lv : List (Nat × Value)} {st : List Value} {ix a : Nat} {fs : List Value} {x : Int32} (q0 : Nat) (he : ws[q0]? = some (a, .inr (0, fs))) (hle : 2 < fs.length) (q : Cond.fieldLink own ix RX0 "done" "I" ∈ lw_tb) (d : decode cc pc = .ok (.putfield ix, 3)) {ws' : va_W} (hw9 : ws.set q0 (a, .inr (0, fs.set 2 (.int x))) = ws') (kk : AtK X Z R cc own nL kc ks ws' (pc + 3) lv st) : AtK X Z R cc own nL kc ks ws pc lv (.int x :: .ref a :: st) := r_putf (T := TX0) (N := 4) (host := "") kX0 rfl 2 (by decide) rfl tyX0 tyX0_ok nmX0 rfl (ty := .int) (by decide +kernel) rfl rfl q0 he hle q d hw9 kk
theorem gf_X0_3 {X : CX} {Z : GZ} {R : Room} {cc : ByteArray} {own : String} {nL kc ks : Nat} {ws : va_W} {pc : Nat} {lv : List (Nat × Value)} {st : List Value} {ix a : Nat} {fs : List Value} {v : Value} (q0 : Nat) (he : ws[q0]? = some (a, .inr (0, fs))) (hv : fs[3]? = some v) (q : Cond.fieldLink own ix RX0 "left" "I" ∈ lw_tb) (d : decode cc pc = .ok (.getfield ix, 3)) (kk : AtK X Z R cc own nL kc ks ws (pc + 3) lv (v :: st)) : AtK X Z R cc own nL kc ks ws pc lv (.ref a :: st) := r_getf (T := TX0) (N := 4) kX0 rfl 3 (by decide) rfl q0 he hv q d kk
theorem pf_X0_3 {X : CX} {Z : GZ} {R : Room} {cc : ByteArray} {own : String} {nL kc ks : Nat} {ws : va_W} {pc : Nat} {lv : List (Nat × Value)} {st : List Value} {ix a : Nat} {fs : List Value} {x : Int32} (q0 : Nat) (he : ws[q0]? = some (a, .inr (0, fs))) (hle : 3 < fs.length) (q : Cond.fieldLink own ix RX0 "left" "I" ∈ lw_tb) (d : decode cc pc = .ok (.putfield ix, 3)) {ws' : va_W} (hw9 : ws.set q0 (a, .inr (0, fs.set 3 (.int x))) = ws') (kk : AtK X Z R cc own nL kc ks ws' (pc + 3) lv st) : AtK X Z R cc own nL kc ks ws pc lv (.int x :: .ref a :: st) := r_putf (T := TX0) (N := 4) (host := "") kX0 rfl 3 (by decide) rfl tyX0 tyX0_ok nmX0 rfl (ty := .int) (by decide +kernel) rfl rfl q0 he hle q d hw9 kk
theorem gf_X0_0 {X : CX} {Z : GZ} {R : Room} {cc : ByteArray} {own : String} {nL kc ks : Nat} {ws : va_W} {pc : Nat} {lv : List (Nat × Value)} {st : List Value} {ix a : Nat} {fs : List Value} {v : Value} (q0 : Nat) (he : ws[q0]? = some (a, .inr (0, fs))) (hv : fs[0]? = some v) (q : Cond.fieldLink own ix RX0 "words" "[I" ∈ lw_tb) (d : decode cc pc = .ok (.getfield ix, 3)) (kk : AtK X Z R cc own nL kc ks ws (pc + 3) lv (v :: st)) : AtK X Z R cc own nL kc ks ws pc lv (.ref a :: st) := r_getf (T := TX0) (N := 4) kX0 rfl 0 (by decide) rfl q0 he hv q d kk
theorem gf_X0_1 {X : CX} {Z : GZ} {R : Room} {cc : ByteArray} {own : String} {nL kc ks : Nat} {ws : va_W} {pc : Nat} {lv : List (Nat × Value)} {st : List Value} {ix a : Nat} {fs : List Value} {v : Value} (q0 : Nat) (he : ws[q0]? = some (a, .inr (0, fs))) (hv : fs[1]? = some v) (q : Cond.fieldLink own ix RX0 "erasures" "[I" ∈ lw_tb) (d : decode cc pc = .ok (.getfield ix, 3)) (kk : AtK X Z R cc own nL kc ks ws (pc + 3) lv (v :: st)) : AtK X Z R cc own nL kc ks ws pc lv (.ref a :: st) := r_getf (T := TX0) (N := 4) kX0 rfl 1 (by decide) rfl q0 he hv q d kk

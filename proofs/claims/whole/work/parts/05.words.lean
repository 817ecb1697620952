/-! the worlds: what the cells of an object hold -/
def wF (Z : GZ) (h hw he : Nat) (w er fl : Nat → Int32) : va_W := [(h, .inr (0, [.ref hw, .ref he, .int (fl 0), .int (fl 1)])), (hw, .inl (Z.2.1, 110, .inl w)), (he, .inl (Z.2.1, 5, .inl er))]
def wM (_ : GZ) (h : Nat) (me : Nat → Int32) : va_W := [(h, .inr (3, [.int (me 0), .int (me 1), .int (me 2), .int (me 3), .int (me 4), .int (me 5)]))]
def wP (Z : GZ) (a : Nat → Nat) (w er fl me p pr : Nat → Int32) : va_W := [(a 0, .inr (5, [.ref (a 1), .ref (a 4), .ref (a 5), .int (pr 0), .int (pr 1), .int (pr 2), .int (pr 3)])), (a 1, .inr (0, [.ref (a 2), .ref (a 3), .int (fl 0), .int (fl 1)])), (a 2, .inl (Z.2.1, 110, .inl w)), (a 3, .inl (Z.2.1, 5, .inl er)), (a 4, .inr (3, [.int (me 0), .int (me 1), .int (me 2), .int (me 3), .int (me 4), .int (me 5)])), (a 5, .inl (Z.2.1, 4, .inl p))]
def wJ (Z : GZ) (hj hd : Nat) (d : Nat → Int32) (jc : Int32) : va_W := [(hj, .inr (2, [.ref hd, .int jc])), (hd, .inl (Z.2.1, 120, .inl d))]
def wX (Z : GZ) (a : Nat → Nat) (m ps im ik asd rb rp mv : Nat → Int32) : va_W := [(a 0, .inr (7, [.ref (a 1), .ref (a 2), .int (mv 0), .ref (a 3), .ref (a 4), .ref (a 5), .ref (a 6), .ref (a 7), .int (mv 1)])), (a 1, .inl (Z.2.1, 131, .inl m)), (a 2, .inl (Z.2.1, 1048, .inl ps)), (a 3, .inl (Z.2.1, 262, .inl im)), (a 4, .inl (Z.2.1, 2, .inl ik)), (a 5, .inl (Z.2.1, 131, .inl asd)), (a 6, .inl (Z.2.1, 20, .inl rb)), (a 7, .inl (Z.2.1, 20, .inl rp))]
def wS (Z : GZ) (hq hs : Nat) (AD : Nat → Nat → Nat) (pv : Nat → Int32) : va_W := [(hq, .inr (4, [.ref hs, .int (pv 0), .int (pv 1)])), (hs, .inl (Z.2.2.1, 8, .inr (.inr (.inr (.inr (fun k => some (AD k 0)))))))]
def wQ (Z : GZ) (hq hs : Nat) (AD : Nat → Nat → Nat) (pv : Nat → Int32) (W8 E8 F8 M8 P8 R8 : Nat → Nat → Int32) : va_W := wS Z hq hs AD pv ++ (wP Z (AD 0) (W8 0) (E8 0) (F8 0) (M8 0) (P8 0) (R8 0) ++ (wP Z (AD 1) (W8 1) (E8 1) (F8 1) (M8 1) (P8 1) (R8 1) ++ (wP Z (AD 2) (W8 2) (E8 2) (F8 2) (M8 2) (P8 2) (R8 2) ++ (wP Z (AD 3) (W8 3) (E8 3) (F8 3) (M8 3) (P8 3) (R8 3) ++ (wP Z (AD 4) (W8 4) (E8 4) (F8 4) (M8 4) (P8 4) (R8 4) ++ (wP Z (AD 5) (W8 5) (E8 5) (F8 5) (M8 5) (P8 5) (R8 5) ++ (wP Z (AD 6) (W8 6) (E8 6) (F8 6) (M8 6) (P8 6) (R8 6) ++ (wP Z (AD 7) (W8 7) (E8 7) (F8 7) (M8 7) (P8 7) (R8 7)))))))))
theorem wQ_dom {Z : GZ} {hq hs : Nat} {AD : Nat → Nat → Nat} {pv pw : Nat → Int32} {W8 E8 F8 M8 P8 R8 W9 E9 F9 M9 P9 R9 : Nat → Nat → Int32} : (wQ Z hq hs AD pw W9 E9 F9 M9 P9 R9).map Prod.fst = (wQ Z hq hs AD pv W8 E8 F8 M8 P8 R8).map Prod.fst := rfl
def wI (Z : GZ) (hi : Nat) (IH : Nat → Nat) (IA : Nat → Nat → Nat) (fi : Nat → Nat → Int32) (WI EI FI MI PI RI : Nat → Nat → Int32) : va_W := (hi, .inl (Z.2.2.2, 2, .inr (.inr (.inr (.inr (fun k => some (IH k))))))) :: (IH 0, .inr (1, [.ref (IA 0 0), .int (fi 0 0)])) :: (IH 1, .inr (1, [.ref (IA 1 0), .int (fi 1 0)])) :: (wP Z (IA 0) (WI 0) (EI 0) (FI 0) (MI 0) (PI 0) (RI 0) ++ wP Z (IA 1) (WI 1) (EI 1) (FI 1) (MI 1) (PI 1) (RI 1))
def wQ1 (_ : GZ) (hq hs : Nat) (pv : Nat → Int32) : va_W := [(hq, .inr (4, [.ref hs, .int (pv 0), .int (pv 1)]))]
def wI0 (Z : GZ) (hi : Nat) (IH : Nat → Nat) : va_W := [(hi, .inl (Z.2.2.2, 2, .inr (.inr (.inr (.inr (fun k => some (IH k)))))))]
def wO (_ : GZ) (hx b : Nat) (ff : Nat → Int32) : va_W := [(hx, .inr (1, [.ref b, .int (ff 0)]))]
def wT (_ : GZ) (t pr tr hj hq hi : Nat) : va_W := [(t, .inr (6, [.ref pr, .ref tr, .ref hj, .ref hq, .ref hi]))]
theorem qw_228 : Cond.methodLink RX6 67 yX6_isWithin ∈ lw_tb := lw_up (List.mem_of_getElem? (i := 228) (by decide +kernel)) rfl
theorem qw_38 : Cond.initialized RX6 ∈ lw_tb := lw_up (List.mem_of_getElem? (i := 38) (by decide +kernel)) rfl
theorem qw_230 : Cond.code yX6_isWithin cX6_isWithin 3 (some .boolean) ∈ lw_tb := lw_up (List.mem_of_getElem? (i := 230) (by decide +kernel)) rfl
theorem qw_229 : Cond.static yX6_isWithin ∈ lw_tb := lw_up (List.mem_of_getElem? (i := 229) (by decide +kernel)) rfl
theorem qw_282 : Cond.constant RX6 214 65521 ∈ lw_tb := lw_up (List.mem_of_getElem? (i := 282) (by decide +kernel)) rfl
theorem qw_71 : Cond.fieldLink RX0 18 RX0 "done" "I" ∈ lw_tb := lw_up (List.mem_of_getElem? (i := 71) (by decide +kernel)) rfl
theorem qw_73 : Cond.fieldLink RX0 22 RX0 "left" "I" ∈ lw_tb := lw_up (List.mem_of_getElem? (i := 73) (by decide +kernel)) rfl
theorem qw_68 : Cond.constant RX0 25 65535 ∈ lw_tb := lw_up (List.mem_of_getElem? (i := 68) (by decide +kernel)) rfl
theorem qw_69 : Cond.fieldLink RX0 9 RX0 "words" "[I" ∈ lw_tb := lw_up (List.mem_of_getElem? (i := 69) (by decide +kernel)) rfl
theorem qw_287 : Cond.methodLink RX0 32 yX0_spendOperation ∈ lw_tb := lw_up (List.mem_of_getElem? (i := 287) (by decide +kernel)) rfl
theorem qw_40 : Cond.initialized RX0 ∈ lw_tb := lw_up (List.mem_of_getElem? (i := 40) (by decide +kernel)) rfl
theorem qw_290 : Cond.code yX0_spendOperation cX0_spendOperation 1 (some .boolean) ∈ lw_tb := lw_up (List.mem_of_getElem? (i := 290) (by decide +kernel)) rfl
theorem qw_289 : Cond.instanceMethod yX0_spendOperation ∈ lw_tb := lw_up (List.mem_of_getElem? (i := 289) (by decide +kernel)) rfl
theorem qw_3 : Cond.selects RX0 yX0_spendOperation yX0_spendOperation ∈ lw_tb := lw_up (List.mem_of_getElem? (i := 3) (by decide +kernel)) rfl
theorem qw_70 : Cond.fieldLink RX0 15 RX0 "erasures" "[I" ∈ lw_tb := lw_up (List.mem_of_getElem? (i := 70) (by decide +kernel)) rfl
theorem qw_335 : Cond.methodLink RX0 36 yX0_read ∈ lw_tb := lw_up (List.mem_of_getElem? (i := 335) (by decide +kernel)) rfl
theorem qw_278 : Cond.code yX0_read cX0_read 4 (some .int) ∈ lw_tb := lw_up (List.mem_of_getElem? (i := 278) (by decide +kernel)) rfl
theorem qw_276 : Cond.instanceMethod yX0_read ∈ lw_tb := lw_up (List.mem_of_getElem? (i := 276) (by decide +kernel)) rfl
theorem qw_277 : Cond.selects RX0 yX0_read yX0_read ∈ lw_tb := lw_up (List.mem_of_getElem? (i := 277) (by decide +kernel)) rfl
theorem qw_409 : Cond.methodLinkNest RX0 40 yX6_headerCheck "TicketJournal" ∈ lw_ns := lw_un (List.mem_of_getElem? (i := 409) (by decide +kernel)) rfl
theorem qw_281 : Cond.code yX6_headerCheck cX6_headerCheck 5 (some .int) ∈ lw_tb := lw_up (List.mem_of_getElem? (i := 281) (by decide +kernel)) rfl
theorem qw_280 : Cond.static yX6_headerCheck ∈ lw_tb := lw_up (List.mem_of_getElem? (i := 280) (by decide +kernel)) rfl
theorem qw_331 : Cond.methodLink RX0 48 yX0_recordWord ∈ lw_tb := lw_up (List.mem_of_getElem? (i := 331) (by decide +kernel)) rfl
theorem qw_334 : Cond.code yX0_recordWord cX0_recordWord 4 (some .int) ∈ lw_tb := lw_up (List.mem_of_getElem? (i := 334) (by decide +kernel)) rfl
theorem qw_332 : Cond.instanceMethod yX0_recordWord ∈ lw_tb := lw_up (List.mem_of_getElem? (i := 332) (by decide +kernel)) rfl
theorem qw_333 : Cond.selects RX0 yX0_recordWord yX0_recordWord ∈ lw_tb := lw_up (List.mem_of_getElem? (i := 333) (by decide +kernel)) rfl
theorem qw_327 : Cond.methodLink RX0 44 yX0_isEmpty ∈ lw_tb := lw_up (List.mem_of_getElem? (i := 327) (by decide +kernel)) rfl
theorem qw_330 : Cond.code yX0_isEmpty cX0_isEmpty 4 (some .boolean) ∈ lw_tb := lw_up (List.mem_of_getElem? (i := 330) (by decide +kernel)) rfl
theorem qw_329 : Cond.instanceMethod yX0_isEmpty ∈ lw_tb := lw_up (List.mem_of_getElem? (i := 329) (by decide +kernel)) rfl
theorem qw_5 : Cond.selects RX0 yX0_isEmpty yX0_isEmpty ∈ lw_tb := lw_up (List.mem_of_getElem? (i := 5) (by decide +kernel)) rfl
theorem qw_336 : Cond.methodLinkNest RX0 52 yX6_recordCheck "TicketJournal" ∈ lw_ns := lw_un (List.mem_of_getElem? (i := 336) (by decide +kernel)) rfl
theorem qw_301 : Cond.code yX6_recordCheck cX6_recordCheck 4 (some .int) ∈ lw_tb := lw_up (List.mem_of_getElem? (i := 301) (by decide +kernel)) rfl
theorem qw_300 : Cond.static yX6_recordCheck ∈ lw_tb := lw_up (List.mem_of_getElem? (i := 300) (by decide +kernel)) rfl
theorem qw_410 : Cond.methodLink RX0 60 yX0_stateOf ∈ lw_tb := lw_up (List.mem_of_getElem? (i := 410) (by decide +kernel)) rfl
theorem qw_326 : Cond.code yX0_stateOf cX0_stateOf 4 (some .int) ∈ lw_tb := lw_up (List.mem_of_getElem? (i := 326) (by decide +kernel)) rfl
theorem qw_324 : Cond.instanceMethod yX0_stateOf ∈ lw_tb := lw_up (List.mem_of_getElem? (i := 324) (by decide +kernel)) rfl
theorem qw_325 : Cond.selects RX0 yX0_stateOf yX0_stateOf ∈ lw_tb := lw_up (List.mem_of_getElem? (i := 325) (by decide +kernel)) rfl
theorem qw_405 : Cond.methodLink RX0 56 yX0_isWhole ∈ lw_tb := lw_up (List.mem_of_getElem? (i := 405) (by decide +kernel)) rfl
theorem qw_408 : Cond.code yX0_isWhole cX0_isWhole 3 (some .boolean) ∈ lw_tb := lw_up (List.mem_of_getElem? (i := 408) (by decide +kernel)) rfl
theorem qw_406 : Cond.instanceMethod yX0_isWhole ∈ lw_tb := lw_up (List.mem_of_getElem? (i := 406) (by decide +kernel)) rfl
theorem qw_407 : Cond.selects RX0 yX0_isWhole yX0_isWhole ∈ lw_tb := lw_up (List.mem_of_getElem? (i := 407) (by decide +kernel)) rfl
theorem qw_401 : Cond.methodLink RX0 63 yX0_tallyIn ∈ lw_tb := lw_up (List.mem_of_getElem? (i := 401) (by decide +kernel)) rfl
theorem qw_404 : Cond.code yX0_tallyIn cX0_tallyIn 5 (some .int) ∈ lw_tb := lw_up (List.mem_of_getElem? (i := 404) (by decide +kernel)) rfl
theorem qw_402 : Cond.instanceMethod yX0_tallyIn ∈ lw_tb := lw_up (List.mem_of_getElem? (i := 402) (by decide +kernel)) rfl
theorem qw_403 : Cond.selects RX0 yX0_tallyIn yX0_tallyIn ∈ lw_tb := lw_up (List.mem_of_getElem? (i := 403) (by decide +kernel)) rfl
theorem qw_427 : Cond.methodLink RX0 66 yX0_isFollowed ∈ lw_tb := lw_up (List.mem_of_getElem? (i := 427) (by decide +kernel)) rfl
theorem qw_430 : Cond.code yX0_isFollowed cX0_isFollowed 4 (some .boolean) ∈ lw_tb := lw_up (List.mem_of_getElem? (i := 430) (by decide +kernel)) rfl
theorem qw_429 : Cond.instanceMethod yX0_isFollowed ∈ lw_tb := lw_up (List.mem_of_getElem? (i := 429) (by decide +kernel)) rfl
theorem qw_6 : Cond.selects RX0 yX0_isFollowed yX0_isFollowed ∈ lw_tb := lw_up (List.mem_of_getElem? (i := 6) (by decide +kernel)) rfl
theorem qw_255 : Cond.methodLink RX0 26 arraycopyName ∈ lw_tb := lw_up (List.mem_of_getElem? (i := 255) (by decide +kernel)) rfl
theorem qw_257 : Cond.native arraycopyName ∈ lw_tb := lw_up (List.mem_of_getElem? (i := 257) (by decide +kernel)) rfl
theorem qw_256 : Cond.static arraycopyName ∈ lw_tb := lw_up (List.mem_of_getElem? (i := 256) (by decide +kernel)) rfl
theorem qw_46 : Cond.initialized "java/lang/System" ∈ lw_tb := lw_up (List.mem_of_getElem? (i := 46) (by decide +kernel)) rfl
theorem qw_91 : Cond.fieldLink RX3 9 RX3 "current" "I" ∈ lw_tb := lw_up (List.mem_of_getElem? (i := 91) (by decide +kernel)) rfl
theorem qw_94 : Cond.fieldLink RX3 15 RX3 "next" "I" ∈ lw_tb := lw_up (List.mem_of_getElem? (i := 94) (by decide +kernel)) rfl
theorem qw_97 : Cond.fieldLink RX3 18 RX3 "number" "I" ∈ lw_tb := lw_up (List.mem_of_getElem? (i := 97) (by decide +kernel)) rfl
theorem qw_100 : Cond.fieldLink RX3 21 RX3 "sum" "I" ∈ lw_tb := lw_up (List.mem_of_getElem? (i := 100) (by decide +kernel)) rfl
theorem qw_103 : Cond.fieldLink RX3 24 RX3 "tickets" "I" ∈ lw_tb := lw_up (List.mem_of_getElem? (i := 103) (by decide +kernel)) rfl
theorem qw_106 : Cond.fieldLink RX3 27 RX3 "paper" "I" ∈ lw_tb := lw_up (List.mem_of_getElem? (i := 106) (by decide +kernel)) rfl
theorem qw_314 : Cond.methodLinkNest RX3 55 yX6_lengthOf "TicketJournal" ∈ lw_ns := lw_un (List.mem_of_getElem? (i := 314) (by decide +kernel)) rfl
theorem qw_238 : Cond.code yX6_lengthOf cX6_lengthOf 1 (some .int) ∈ lw_tb := lw_up (List.mem_of_getElem? (i := 238) (by decide +kernel)) rfl
theorem qw_237 : Cond.static yX6_lengthOf ∈ lw_tb := lw_up (List.mem_of_getElem? (i := 237) (by decide +kernel)) rfl
theorem qw_436 : Cond.methodLink RX3 44 yX0_stateOf ∈ lw_tb := lw_up (List.mem_of_getElem? (i := 436) (by decide +kernel)) rfl
theorem qw_437 : Cond.methodLink RX3 47 yX0_recordWord ∈ lw_tb := lw_up (List.mem_of_getElem? (i := 437) (by decide +kernel)) rfl
theorem qw_438 : Cond.methodLink RX3 51 yX3_learn ∈ lw_tb := lw_up (List.mem_of_getElem? (i := 438) (by decide +kernel)) rfl
theorem qw_41 : Cond.initialized RX3 ∈ lw_tb := lw_up (List.mem_of_getElem? (i := 41) (by decide +kernel)) rfl
theorem qw_313 : Cond.code yX3_learn cX3_learn 4 none ∈ lw_tb := lw_up (List.mem_of_getElem? (i := 313) (by decide +kernel)) rfl
theorem qw_311 : Cond.instanceMethod yX3_learn ∈ lw_tb := lw_up (List.mem_of_getElem? (i := 311) (by decide +kernel)) rfl
theorem qw_312 : Cond.selects RX3 yX3_learn yX3_learn ∈ lw_tb := lw_up (List.mem_of_getElem? (i := 312) (by decide +kernel)) rfl
theorem qw_423 : Cond.methodLink RX3 30 yX0_newestBlock ∈ lw_tb := lw_up (List.mem_of_getElem? (i := 423) (by decide +kernel)) rfl
theorem qw_426 : Cond.code yX0_newestBlock cX0_newestBlock 2 (some .int) ∈ lw_tb := lw_up (List.mem_of_getElem? (i := 426) (by decide +kernel)) rfl
theorem qw_424 : Cond.instanceMethod yX0_newestBlock ∈ lw_tb := lw_up (List.mem_of_getElem? (i := 424) (by decide +kernel)) rfl
theorem qw_425 : Cond.selects RX0 yX0_newestBlock yX0_newestBlock ∈ lw_tb := lw_up (List.mem_of_getElem? (i := 425) (by decide +kernel)) rfl
theorem qw_431 : Cond.methodLink RX3 36 yX0_nextPlaceIn ∈ lw_tb := lw_up (List.mem_of_getElem? (i := 431) (by decide +kernel)) rfl
theorem qw_434 : Cond.code yX0_nextPlaceIn cX0_nextPlaceIn 3 (some .int) ∈ lw_tb := lw_up (List.mem_of_getElem? (i := 434) (by decide +kernel)) rfl
theorem qw_432 : Cond.instanceMethod yX0_nextPlaceIn ∈ lw_tb := lw_up (List.mem_of_getElem? (i := 432) (by decide +kernel)) rfl
theorem qw_433 : Cond.selects RX0 yX0_nextPlaceIn yX0_nextPlaceIn ∈ lw_tb := lw_up (List.mem_of_getElem? (i := 433) (by decide +kernel)) rfl
theorem qw_435 : Cond.methodLink RX3 40 yX0_read ∈ lw_tb := lw_up (List.mem_of_getElem? (i := 435) (by decide +kernel)) rfl
theorem qw_122 : Cond.fieldLink RX5 12 RX5 "flash" "LTicketJournal$Flash;" ∈ lw_tb := lw_up (List.mem_of_getElem? (i := 122) (by decide +kernel)) rfl
theorem qw_251 : Cond.methodLink RX5 43 yX0_copyFrom ∈ lw_tb := lw_up (List.mem_of_getElem? (i := 251) (by decide +kernel)) rfl
theorem qw_254 : Cond.code yX0_copyFrom cX0_copyFrom 2 none ∈ lw_tb := lw_up (List.mem_of_getElem? (i := 254) (by decide +kernel)) rfl
theorem qw_252 : Cond.instanceMethod yX0_copyFrom ∈ lw_tb := lw_up (List.mem_of_getElem? (i := 252) (by decide +kernel)) rfl
theorem qw_253 : Cond.selects RX0 yX0_copyFrom yX0_copyFrom ∈ lw_tb := lw_up (List.mem_of_getElem? (i := 253) (by decide +kernel)) rfl
theorem qw_124 : Cond.fieldLink RX5 21 RX5 "memory" "LTicketJournal$Memory;" ∈ lw_tb := lw_up (List.mem_of_getElem? (i := 124) (by decide +kernel)) rfl
theorem qw_258 : Cond.methodLink RX5 47 yX3_copyFrom ∈ lw_tb := lw_up (List.mem_of_getElem? (i := 258) (by decide +kernel)) rfl
theorem qw_261 : Cond.code yX3_copyFrom cX3_copyFrom 2 none ∈ lw_tb := lw_up (List.mem_of_getElem? (i := 261) (by decide +kernel)) rfl
theorem qw_259 : Cond.instanceMethod yX3_copyFrom ∈ lw_tb := lw_up (List.mem_of_getElem? (i := 259) (by decide +kernel)) rfl
theorem qw_260 : Cond.selects RX3 yX3_copyFrom yX3_copyFrom ∈ lw_tb := lw_up (List.mem_of_getElem? (i := 260) (by decide +kernel)) rfl
theorem qw_126 : Cond.fieldLink RX5 25 RX5 "prices" "[I" ∈ lw_tb := lw_up (List.mem_of_getElem? (i := 126) (by decide +kernel)) rfl
theorem qw_262 : Cond.methodLink RX5 50 arraycopyName ∈ lw_tb := lw_up (List.mem_of_getElem? (i := 262) (by decide +kernel)) rfl
theorem qw_127 : Cond.fieldLink RX5 29 RX5 "on" "Z" ∈ lw_tb := lw_up (List.mem_of_getElem? (i := 127) (by decide +kernel)) rfl
theorem qw_129 : Cond.fieldLink RX5 33 RX5 "time" "I" ∈ lw_tb := lw_up (List.mem_of_getElem? (i := 129) (by decide +kernel)) rfl
theorem qw_131 : Cond.fieldLink RX5 37 RX5 "there" "I" ∈ lw_tb := lw_up (List.mem_of_getElem? (i := 131) (by decide +kernel)) rfl
theorem qw_133 : Cond.fieldLink RX5 40 RX5 "printed" "I" ∈ lw_tb := lw_up (List.mem_of_getElem? (i := 133) (by decide +kernel)) rfl
theorem qw_225 : Cond.methodLinkNest RX5 56 yX6_isSort "TicketJournal" ∈ lw_ns := lw_un (List.mem_of_getElem? (i := 225) (by decide +kernel)) rfl
theorem qw_227 : Cond.code yX6_isSort cX6_isSort 1 (some .boolean) ∈ lw_tb := lw_up (List.mem_of_getElem? (i := 227) (by decide +kernel)) rfl
theorem qw_226 : Cond.static yX6_isSort ∈ lw_tb := lw_up (List.mem_of_getElem? (i := 226) (by decide +kernel)) rfl
theorem qw_101 : Cond.fieldLinkNest RX5 60 RX3 "sum" "I" "TicketJournal" ∈ lw_ns := lw_un (List.mem_of_getElem? (i := 101) (by decide +kernel)) rfl
theorem qw_231 : Cond.methodLink RX5 63 yX5_priceOf ∈ lw_tb := lw_up (List.mem_of_getElem? (i := 231) (by decide +kernel)) rfl
theorem qw_39 : Cond.initialized RX5 ∈ lw_tb := lw_up (List.mem_of_getElem? (i := 39) (by decide +kernel)) rfl
theorem qw_234 : Cond.code yX5_priceOf cX5_priceOf 2 (some .int) ∈ lw_tb := lw_up (List.mem_of_getElem? (i := 234) (by decide +kernel)) rfl
theorem qw_232 : Cond.instanceMethod yX5_priceOf ∈ lw_tb := lw_up (List.mem_of_getElem? (i := 232) (by decide +kernel)) rfl
theorem qw_233 : Cond.selects RX5 yX5_priceOf yX5_priceOf ∈ lw_tb := lw_up (List.mem_of_getElem? (i := 233) (by decide +kernel)) rfl
theorem qw_235 : Cond.constant RX5 67 60000 ∈ lw_tb := lw_up (List.mem_of_getElem? (i := 235) (by decide +kernel)) rfl
theorem qw_107 : Cond.fieldLinkNest RX5 68 RX3 "paper" "I" "TicketJournal" ∈ lw_ns := lw_un (List.mem_of_getElem? (i := 107) (by decide +kernel)) rfl
theorem qw_236 : Cond.methodLinkNest RX5 71 yX6_lengthOf "TicketJournal" ∈ lw_ns := lw_un (List.mem_of_getElem? (i := 236) (by decide +kernel)) rfl
theorem qw_306 : Cond.methodLink RX5 100 yX3_forget ∈ lw_tb := lw_up (List.mem_of_getElem? (i := 306) (by decide +kernel)) rfl
theorem qw_309 : Cond.code yX3_forget cX3_forget 1 none ∈ lw_tb := lw_up (List.mem_of_getElem? (i := 309) (by decide +kernel)) rfl
theorem qw_307 : Cond.instanceMethod yX3_forget ∈ lw_tb := lw_up (List.mem_of_getElem? (i := 307) (by decide +kernel)) rfl
theorem qw_308 : Cond.selects RX3 yX3_forget yX3_forget ∈ lw_tb := lw_up (List.mem_of_getElem? (i := 308) (by decide +kernel)) rfl
theorem qw_419 : Cond.methodLink RX5 103 yX3_recall ∈ lw_tb := lw_up (List.mem_of_getElem? (i := 419) (by decide +kernel)) rfl
theorem qw_422 : Cond.code yX3_recall cX3_recall 3 none ∈ lw_tb := lw_up (List.mem_of_getElem? (i := 422) (by decide +kernel)) rfl
theorem qw_420 : Cond.instanceMethod yX3_recall ∈ lw_tb := lw_up (List.mem_of_getElem? (i := 420) (by decide +kernel)) rfl
theorem qw_421 : Cond.selects RX3 yX3_recall yX3_recall ∈ lw_tb := lw_up (List.mem_of_getElem? (i := 421) (by decide +kernel)) rfl
theorem qw_92 : Cond.fieldLinkNest RX5 84 RX3 "current" "I" "TicketJournal" ∈ lw_ns := lw_un (List.mem_of_getElem? (i := 92) (by decide +kernel)) rfl
theorem qw_95 : Cond.fieldLinkNest RX5 81 RX3 "next" "I" "TicketJournal" ∈ lw_ns := lw_un (List.mem_of_getElem? (i := 95) (by decide +kernel)) rfl
theorem qw_275 : Cond.methodLink RX5 120 yX0_read ∈ lw_tb := lw_up (List.mem_of_getElem? (i := 275) (by decide +kernel)) rfl
theorem qw_105 : Cond.fieldLinkNest RX5 123 RX3 "tickets" "I" "TicketJournal" ∈ lw_ns := lw_un (List.mem_of_getElem? (i := 105) (by decide +kernel)) rfl
theorem qw_98 : Cond.fieldLinkNest RX5 74 RX3 "number" "I" "TicketJournal" ∈ lw_ns := lw_un (List.mem_of_getElem? (i := 98) (by decide +kernel)) rfl
theorem qw_279 : Cond.methodLinkNest RX5 126 yX6_headerCheck "TicketJournal" ∈ lw_ns := lw_un (List.mem_of_getElem? (i := 279) (by decide +kernel)) rfl
theorem qw_283 : Cond.methodLink RX5 130 yX0_erase ∈ lw_tb := lw_up (List.mem_of_getElem? (i := 283) (by decide +kernel)) rfl
theorem qw_286 : Cond.code yX0_erase cX0_erase 3 (some .boolean) ∈ lw_tb := lw_up (List.mem_of_getElem? (i := 286) (by decide +kernel)) rfl
theorem qw_284 : Cond.instanceMethod yX0_erase ∈ lw_tb := lw_up (List.mem_of_getElem? (i := 284) (by decide +kernel)) rfl
theorem qw_285 : Cond.selects RX0 yX0_erase yX0_erase ∈ lw_tb := lw_up (List.mem_of_getElem? (i := 285) (by decide +kernel)) rfl
theorem qw_291 : Cond.methodLink RX5 133 yX0_write ∈ lw_tb := lw_up (List.mem_of_getElem? (i := 291) (by decide +kernel)) rfl
theorem qw_294 : Cond.code yX0_write cX0_write 5 (some .boolean) ∈ lw_tb := lw_up (List.mem_of_getElem? (i := 294) (by decide +kernel)) rfl
theorem qw_292 : Cond.instanceMethod yX0_write ∈ lw_tb := lw_up (List.mem_of_getElem? (i := 292) (by decide +kernel)) rfl
theorem qw_293 : Cond.selects RX0 yX0_write yX0_write ∈ lw_tb := lw_up (List.mem_of_getElem? (i := 293) (by decide +kernel)) rfl
theorem qw_299 : Cond.methodLinkNest RX5 136 yX6_recordCheck "TicketJournal" ∈ lw_ns := lw_un (List.mem_of_getElem? (i := 299) (by decide +kernel)) rfl
theorem qw_302 : Cond.methodLink RX5 113 yX5_losePower ∈ lw_tb := lw_up (List.mem_of_getElem? (i := 302) (by decide +kernel)) rfl
theorem qw_305 : Cond.code yX5_losePower cX5_losePower 1 none ∈ lw_tb := lw_up (List.mem_of_getElem? (i := 305) (by decide +kernel)) rfl
theorem qw_303 : Cond.instanceMethod yX5_losePower ∈ lw_tb := lw_up (List.mem_of_getElem? (i := 303) (by decide +kernel)) rfl
theorem qw_304 : Cond.selects RX5 yX5_losePower yX5_losePower ∈ lw_tb := lw_up (List.mem_of_getElem? (i := 304) (by decide +kernel)) rfl
theorem qw_295 : Cond.methodLink RX5 110 yX5_fillPlace ∈ lw_tb := lw_up (List.mem_of_getElem? (i := 295) (by decide +kernel)) rfl
theorem qw_298 : Cond.code yX5_fillPlace cX5_fillPlace 7 (some .boolean) ∈ lw_tb := lw_up (List.mem_of_getElem? (i := 298) (by decide +kernel)) rfl
theorem qw_297 : Cond.instanceMethod yX5_fillPlace ∈ lw_tb := lw_up (List.mem_of_getElem? (i := 297) (by decide +kernel)) rfl
theorem qw_4 : Cond.selects RX5 yX5_fillPlace yX5_fillPlace ∈ lw_tb := lw_up (List.mem_of_getElem? (i := 4) (by decide +kernel)) rfl
theorem qw_310 : Cond.methodLink RX5 116 yX3_learn ∈ lw_tb := lw_up (List.mem_of_getElem? (i := 310) (by decide +kernel)) rfl
theorem qw_271 : Cond.methodLink RX5 106 yX5_beginBlock ∈ lw_tb := lw_up (List.mem_of_getElem? (i := 271) (by decide +kernel)) rfl
theorem qw_274 : Cond.code yX5_beginBlock cX5_beginBlock 5 (some .boolean) ∈ lw_tb := lw_up (List.mem_of_getElem? (i := 274) (by decide +kernel)) rfl
theorem qw_273 : Cond.instanceMethod yX5_beginBlock ∈ lw_tb := lw_up (List.mem_of_getElem? (i := 273) (by decide +kernel)) rfl
theorem qw_2 : Cond.selects RX5 yX5_beginBlock yX5_beginBlock ∈ lw_tb := lw_up (List.mem_of_getElem? (i := 2) (by decide +kernel)) rfl
theorem qw_267 : Cond.methodLink RX5 77 yX5_writeRecord ∈ lw_tb := lw_up (List.mem_of_getElem? (i := 267) (by decide +kernel)) rfl
theorem qw_270 : Cond.code yX5_writeRecord cX5_writeRecord 6 (some .boolean) ∈ lw_tb := lw_up (List.mem_of_getElem? (i := 270) (by decide +kernel)) rfl
theorem qw_269 : Cond.instanceMethod yX5_writeRecord ∈ lw_tb := lw_up (List.mem_of_getElem? (i := 269) (by decide +kernel)) rfl
theorem qw_1 : Cond.selects RX5 yX5_writeRecord yX5_writeRecord ∈ lw_tb := lw_up (List.mem_of_getElem? (i := 1) (by decide +kernel)) rfl
theorem qw_323 : Cond.methodLink RX5 87 yX0_stateOf ∈ lw_tb := lw_up (List.mem_of_getElem? (i := 323) (by decide +kernel)) rfl
theorem qw_337 : Cond.methodLink RX5 91 yX0_recordWord ∈ lw_tb := lw_up (List.mem_of_getElem? (i := 337) (by decide +kernel)) rfl
theorem qw_368 : Cond.methodLink RX5 95 Lib.Math.abs.name ∈ lw_tb := lw_up (List.mem_of_getElem? (i := 368) (by decide +kernel)) rfl
theorem qw_369 : Cond.static Lib.Math.abs.name ∈ lw_tb := lw_up (List.mem_of_getElem? (i := 369) (by decide +kernel)) rfl
theorem qw_47 : Cond.initialized "java/lang/Math" ∈ lw_tb := lw_up (List.mem_of_getElem? (i := 47) (by decide +kernel)) rfl
theorem qw_370 : Cond.code Lib.Math.abs.name Lib.Math.abs.code 1 (some .int) ∈ lw_tb := lw_up (List.mem_of_getElem? (i := 370) (by decide +kernel)) rfl
theorem qw_157 : Cond.fieldLink RX2 15 RX2 "count" "I" ∈ lw_tb := lw_up (List.mem_of_getElem? (i := 157) (by decide +kernel)) rfl
theorem qw_156 : Cond.fieldLink RX2 9 RX2 "details" "[I" ∈ lw_tb := lw_up (List.mem_of_getElem? (i := 156) (by decide +kernel)) rfl
theorem qw_492 : Cond.methodLink RX2 37 yX0_recordWord ∈ lw_tb := lw_up (List.mem_of_getElem? (i := 492) (by decide +kernel)) rfl
theorem qw_493 : Cond.methodLink RX2 41 yX2_setDetail ∈ lw_tb := lw_up (List.mem_of_getElem? (i := 493) (by decide +kernel)) rfl
theorem qw_42 : Cond.initialized RX2 ∈ lw_tb := lw_up (List.mem_of_getElem? (i := 42) (by decide +kernel)) rfl
theorem qw_496 : Cond.code yX2_setDetail cX2_setDetail 4 none ∈ lw_tb := lw_up (List.mem_of_getElem? (i := 496) (by decide +kernel)) rfl
theorem qw_495 : Cond.instanceMethod yX2_setDetail ∈ lw_tb := lw_up (List.mem_of_getElem? (i := 495) (by decide +kernel)) rfl
theorem qw_9 : Cond.selects RX2 yX2_setDetail yX2_setDetail ∈ lw_tb := lw_up (List.mem_of_getElem? (i := 9) (by decide +kernel)) rfl
theorem qw_487 : Cond.methodLink RX2 29 yX0_stateOf ∈ lw_tb := lw_up (List.mem_of_getElem? (i := 487) (by decide +kernel)) rfl
theorem qw_488 : Cond.methodLink RX2 33 yX2_add ∈ lw_tb := lw_up (List.mem_of_getElem? (i := 488) (by decide +kernel)) rfl
theorem qw_491 : Cond.code yX2_add cX2_add 5 none ∈ lw_tb := lw_up (List.mem_of_getElem? (i := 491) (by decide +kernel)) rfl
theorem qw_490 : Cond.instanceMethod yX2_add ∈ lw_tb := lw_up (List.mem_of_getElem? (i := 490) (by decide +kernel)) rfl
theorem qw_8 : Cond.selects RX2 yX2_add yX2_add ∈ lw_tb := lw_up (List.mem_of_getElem? (i := 8) (by decide +kernel)) rfl
theorem qw_486 : Cond.methodLink RX2 25 yX0_isWhole ∈ lw_tb := lw_up (List.mem_of_getElem? (i := 486) (by decide +kernel)) rfl
theorem qw_485 : Cond.methodLink RX2 19 yX0_newestBlock ∈ lw_tb := lw_up (List.mem_of_getElem? (i := 485) (by decide +kernel)) rfl
theorem qw_501 : Cond.methodLink RX2 45 yX2_detail ∈ lw_tb := lw_up (List.mem_of_getElem? (i := 501) (by decide +kernel)) rfl
theorem qw_504 : Cond.code yX2_detail cX2_detail 4 (some .int) ∈ lw_tb := lw_up (List.mem_of_getElem? (i := 504) (by decide +kernel)) rfl
theorem qw_502 : Cond.instanceMethod yX2_detail ∈ lw_tb := lw_up (List.mem_of_getElem? (i := 502) (by decide +kernel)) rfl
theorem qw_503 : Cond.selects RX2 yX2_detail yX2_detail ∈ lw_tb := lw_up (List.mem_of_getElem? (i := 503) (by decide +kernel)) rfl
theorem qw_530 : Cond.methodLink RX2 48 yX2_stepTo ∈ lw_tb := lw_up (List.mem_of_getElem? (i := 530) (by decide +kernel)) rfl
theorem qw_533 : Cond.code yX2_stepTo cX2_stepTo 2 (some .int) ∈ lw_tb := lw_up (List.mem_of_getElem? (i := 533) (by decide +kernel)) rfl
theorem qw_532 : Cond.instanceMethod yX2_stepTo ∈ lw_tb := lw_up (List.mem_of_getElem? (i := 532) (by decide +kernel)) rfl
theorem qw_10 : Cond.selects RX2 yX2_stepTo yX2_stepTo ∈ lw_tb := lw_up (List.mem_of_getElem? (i := 10) (by decide +kernel)) rfl
theorem qw_538 : Cond.methodLink RX2 52 Lib.Math.max.name ∈ lw_tb := lw_up (List.mem_of_getElem? (i := 538) (by decide +kernel)) rfl
theorem qw_539 : Cond.static Lib.Math.max.name ∈ lw_tb := lw_up (List.mem_of_getElem? (i := 539) (by decide +kernel)) rfl
theorem qw_540 : Cond.code Lib.Math.max.name Lib.Math.max.code 2 (some .int) ∈ lw_tb := lw_up (List.mem_of_getElem? (i := 540) (by decide +kernel)) rfl
theorem qw_629 : Cond.methodLink RX7 32 yX7_isIn ∈ lw_tb := lw_up (List.mem_of_getElem? (i := 629) (by decide +kernel)) rfl
theorem qw_45 : Cond.initialized RX7 ∈ lw_tb := lw_up (List.mem_of_getElem? (i := 45) (by decide +kernel)) rfl
theorem qw_631 : Cond.code yX7_isIn cX7_isIn 3 (some .boolean) ∈ lw_tb := lw_up (List.mem_of_getElem? (i := 631) (by decide +kernel)) rfl
theorem qw_630 : Cond.static yX7_isIn ∈ lw_tb := lw_up (List.mem_of_getElem? (i := 630) (by decide +kernel)) rfl
theorem qw_671 : Cond.constant RX7 44 65521 ∈ lw_tb := lw_up (List.mem_of_getElem? (i := 671) (by decide +kernel)) rfl
theorem qw_586 : Cond.fieldLink RX7 7 RX7 "w" "[I" ∈ lw_tb := lw_up (List.mem_of_getElem? (i := 586) (by decide +kernel)) rfl
theorem qw_588 : Cond.fieldLink RX7 36 RX7 "changes" "I" ∈ lw_tb := lw_up (List.mem_of_getElem? (i := 588) (by decide +kernel)) rfl
theorem qw_587 : Cond.fieldLink RX7 13 RX7 "past" "[I" ∈ lw_tb := lw_up (List.mem_of_getElem? (i := 587) (by decide +kernel)) rfl
theorem qw_660 : Cond.methodLink RX7 40 yX7_canOperate ∈ lw_tb := lw_up (List.mem_of_getElem? (i := 660) (by decide +kernel)) rfl
theorem qw_663 : Cond.code yX7_canOperate cX7_canOperate 1 (some .boolean) ∈ lw_tb := lw_up (List.mem_of_getElem? (i := 663) (by decide +kernel)) rfl
theorem qw_662 : Cond.instanceMethod yX7_canOperate ∈ lw_tb := lw_up (List.mem_of_getElem? (i := 662) (by decide +kernel)) rfl
theorem qw_20 : Cond.selects RX7 yX7_canOperate yX7_canOperate ∈ lw_tb := lw_up (List.mem_of_getElem? (i := 20) (by decide +kernel)) rfl
theorem qw_585 : Cond.constant RX7 31 65535 ∈ lw_tb := lw_up (List.mem_of_getElem? (i := 585) (by decide +kernel)) rfl
theorem qw_652 : Cond.methodLink RX7 45 yX7_at ∈ lw_tb := lw_up (List.mem_of_getElem? (i := 652) (by decide +kernel)) rfl
theorem qw_655 : Cond.code yX7_at cX7_at 3 (some .int) ∈ lw_tb := lw_up (List.mem_of_getElem? (i := 655) (by decide +kernel)) rfl
theorem qw_654 : Cond.instanceMethod yX7_at ∈ lw_tb := lw_up (List.mem_of_getElem? (i := 654) (by decide +kernel)) rfl
theorem qw_18 : Cond.selects RX7 yX7_at yX7_at ∈ lw_tb := lw_up (List.mem_of_getElem? (i := 18) (by decide +kernel)) rfl
theorem qw_668 : Cond.methodLink RX7 49 yX7_headCheck ∈ lw_tb := lw_up (List.mem_of_getElem? (i := 668) (by decide +kernel)) rfl
theorem qw_670 : Cond.code yX7_headCheck cX7_headCheck 5 (some .int) ∈ lw_tb := lw_up (List.mem_of_getElem? (i := 670) (by decide +kernel)) rfl
theorem qw_669 : Cond.static yX7_headCheck ∈ lw_tb := lw_up (List.mem_of_getElem? (i := 669) (by decide +kernel)) rfl
theorem qw_672 : Cond.methodLink RX7 53 yX7_wordOf ∈ lw_tb := lw_up (List.mem_of_getElem? (i := 672) (by decide +kernel)) rfl
theorem qw_674 : Cond.code yX7_wordOf cX7_wordOf 2 (some .int) ∈ lw_tb := lw_up (List.mem_of_getElem? (i := 674) (by decide +kernel)) rfl
theorem qw_673 : Cond.static yX7_wordOf ∈ lw_tb := lw_up (List.mem_of_getElem? (i := 673) (by decide +kernel)) rfl
theorem qw_690 : Cond.methodLink RX7 56 yX7_inPlace ∈ lw_tb := lw_up (List.mem_of_getElem? (i := 690) (by decide +kernel)) rfl
theorem qw_693 : Cond.code yX7_inPlace cX7_inPlace 4 (some .int) ∈ lw_tb := lw_up (List.mem_of_getElem? (i := 693) (by decide +kernel)) rfl
theorem qw_692 : Cond.instanceMethod yX7_inPlace ∈ lw_tb := lw_up (List.mem_of_getElem? (i := 692) (by decide +kernel)) rfl
theorem qw_24 : Cond.selects RX7 yX7_inPlace yX7_inPlace ∈ lw_tb := lw_up (List.mem_of_getElem? (i := 24) (by decide +kernel)) rfl
theorem qw_686 : Cond.methodLink RX7 60 yX7_isEmpty ∈ lw_tb := lw_up (List.mem_of_getElem? (i := 686) (by decide +kernel)) rfl
theorem qw_689 : Cond.code yX7_isEmpty cX7_isEmpty 5 (some .boolean) ∈ lw_tb := lw_up (List.mem_of_getElem? (i := 689) (by decide +kernel)) rfl
theorem qw_688 : Cond.instanceMethod yX7_isEmpty ∈ lw_tb := lw_up (List.mem_of_getElem? (i := 688) (by decide +kernel)) rfl
theorem qw_23 : Cond.selects RX7 yX7_isEmpty yX7_isEmpty ∈ lw_tb := lw_up (List.mem_of_getElem? (i := 23) (by decide +kernel)) rfl
theorem qw_675 : Cond.methodLink RX7 64 yX7_recordCheck ∈ lw_tb := lw_up (List.mem_of_getElem? (i := 675) (by decide +kernel)) rfl
theorem qw_677 : Cond.code yX7_recordCheck cX7_recordCheck 4 (some .int) ∈ lw_tb := lw_up (List.mem_of_getElem? (i := 677) (by decide +kernel)) rfl
theorem qw_676 : Cond.static yX7_recordCheck ∈ lw_tb := lw_up (List.mem_of_getElem? (i := 676) (by decide +kernel)) rfl
theorem qw_682 : Cond.methodLink RX7 68 yX7_isRecord ∈ lw_tb := lw_up (List.mem_of_getElem? (i := 682) (by decide +kernel)) rfl
theorem qw_685 : Cond.code yX7_isRecord cX7_isRecord 3 (some .boolean) ∈ lw_tb := lw_up (List.mem_of_getElem? (i := 685) (by decide +kernel)) rfl
theorem qw_684 : Cond.instanceMethod yX7_isRecord ∈ lw_tb := lw_up (List.mem_of_getElem? (i := 684) (by decide +kernel)) rfl
theorem qw_22 : Cond.selects RX7 yX7_isRecord yX7_isRecord ∈ lw_tb := lw_up (List.mem_of_getElem? (i := 22) (by decide +kernel)) rfl
theorem qw_664 : Cond.methodLink RX7 75 yX7_put ∈ lw_tb := lw_up (List.mem_of_getElem? (i := 664) (by decide +kernel)) rfl
theorem qw_667 : Cond.code yX7_put cX7_put 5 (some .boolean) ∈ lw_tb := lw_up (List.mem_of_getElem? (i := 667) (by decide +kernel)) rfl
theorem qw_666 : Cond.instanceMethod yX7_put ∈ lw_tb := lw_up (List.mem_of_getElem? (i := 666) (by decide +kernel)) rfl
theorem qw_21 : Cond.selects RX7 yX7_put yX7_put ∈ lw_tb := lw_up (List.mem_of_getElem? (i := 21) (by decide +kernel)) rfl
theorem qw_656 : Cond.methodLink RX7 71 yX7_erase ∈ lw_tb := lw_up (List.mem_of_getElem? (i := 656) (by decide +kernel)) rfl
theorem qw_659 : Cond.code yX7_erase cX7_erase 4 (some .boolean) ∈ lw_tb := lw_up (List.mem_of_getElem? (i := 659) (by decide +kernel)) rfl
theorem qw_658 : Cond.instanceMethod yX7_erase ∈ lw_tb := lw_up (List.mem_of_getElem? (i := 658) (by decide +kernel)) rfl
theorem qw_19 : Cond.selects RX7 yX7_erase yX7_erase ∈ lw_tb := lw_up (List.mem_of_getElem? (i := 19) (by decide +kernel)) rfl
theorem qw_648 : Cond.methodLink RX7 78 yX7_beginBlock ∈ lw_tb := lw_up (List.mem_of_getElem? (i := 648) (by decide +kernel)) rfl
theorem qw_651 : Cond.code yX7_beginBlock cX7_beginBlock 5 (some .boolean) ∈ lw_tb := lw_up (List.mem_of_getElem? (i := 651) (by decide +kernel)) rfl
theorem qw_650 : Cond.instanceMethod yX7_beginBlock ∈ lw_tb := lw_up (List.mem_of_getElem? (i := 650) (by decide +kernel)) rfl
theorem qw_17 : Cond.selects RX7 yX7_beginBlock yX7_beginBlock ∈ lw_tb := lw_up (List.mem_of_getElem? (i := 17) (by decide +kernel)) rfl
theorem qw_731 : Cond.methodLink RX7 81 yX7_isWhole ∈ lw_tb := lw_up (List.mem_of_getElem? (i := 731) (by decide +kernel)) rfl
theorem qw_734 : Cond.code yX7_isWhole cX7_isWhole 4 (some .boolean) ∈ lw_tb := lw_up (List.mem_of_getElem? (i := 734) (by decide +kernel)) rfl
theorem qw_733 : Cond.instanceMethod yX7_isWhole ∈ lw_tb := lw_up (List.mem_of_getElem? (i := 733) (by decide +kernel)) rfl
theorem qw_27 : Cond.selects RX7 yX7_isWhole yX7_isWhole ∈ lw_tb := lw_up (List.mem_of_getElem? (i := 27) (by decide +kernel)) rfl
theorem qw_633 : Cond.methodLink RX7 92 yX7_lengthOf ∈ lw_tb := lw_up (List.mem_of_getElem? (i := 633) (by decide +kernel)) rfl
theorem qw_635 : Cond.code yX7_lengthOf cX7_lengthOf 1 (some .int) ∈ lw_tb := lw_up (List.mem_of_getElem? (i := 635) (by decide +kernel)) rfl
theorem qw_634 : Cond.static yX7_lengthOf ∈ lw_tb := lw_up (List.mem_of_getElem? (i := 634) (by decide +kernel)) rfl
theorem qw_751 : Cond.methodLink RX7 88 yX7_follow ∈ lw_tb := lw_up (List.mem_of_getElem? (i := 751) (by decide +kernel)) rfl
theorem qw_754 : Cond.code yX7_follow cX7_follow 3 none ∈ lw_tb := lw_up (List.mem_of_getElem? (i := 754) (by decide +kernel)) rfl
theorem qw_753 : Cond.instanceMethod yX7_follow ∈ lw_tb := lw_up (List.mem_of_getElem? (i := 753) (by decide +kernel)) rfl
theorem qw_31 : Cond.selects RX7 yX7_follow yX7_follow ∈ lw_tb := lw_up (List.mem_of_getElem? (i := 31) (by decide +kernel)) rfl
theorem qw_747 : Cond.methodLink RX7 84 yX7_newest ∈ lw_tb := lw_up (List.mem_of_getElem? (i := 747) (by decide +kernel)) rfl
theorem qw_750 : Cond.code yX7_newest cX7_newest 5 (some .int) ∈ lw_tb := lw_up (List.mem_of_getElem? (i := 750) (by decide +kernel)) rfl
theorem qw_749 : Cond.instanceMethod yX7_newest ∈ lw_tb := lw_up (List.mem_of_getElem? (i := 749) (by decide +kernel)) rfl
theorem qw_30 : Cond.selects RX7 yX7_newest yX7_newest ∈ lw_tb := lw_up (List.mem_of_getElem? (i := 30) (by decide +kernel)) rfl
theorem qw_626 : Cond.methodLink RX7 96 yX7_isSort ∈ lw_tb := lw_up (List.mem_of_getElem? (i := 626) (by decide +kernel)) rfl
theorem qw_628 : Cond.code yX7_isSort cX7_isSort 1 (some .boolean) ∈ lw_tb := lw_up (List.mem_of_getElem? (i := 628) (by decide +kernel)) rfl
theorem qw_627 : Cond.static yX7_isSort ∈ lw_tb := lw_up (List.mem_of_getElem? (i := 627) (by decide +kernel)) rfl
theorem qw_632 : Cond.constant RX7 99 60000 ∈ lw_tb := lw_up (List.mem_of_getElem? (i := 632) (by decide +kernel)) rfl
theorem qw_644 : Cond.methodLink RX7 100 yX7_write ∈ lw_tb := lw_up (List.mem_of_getElem? (i := 644) (by decide +kernel)) rfl
theorem qw_647 : Cond.code yX7_write cX7_write 8 (some .boolean) ∈ lw_tb := lw_up (List.mem_of_getElem? (i := 647) (by decide +kernel)) rfl
theorem qw_646 : Cond.instanceMethod yX7_write ∈ lw_tb := lw_up (List.mem_of_getElem? (i := 646) (by decide +kernel)) rfl
theorem qw_16 : Cond.selects RX7 yX7_write yX7_write ∈ lw_tb := lw_up (List.mem_of_getElem? (i := 16) (by decide +kernel)) rfl
theorem qw_622 : Cond.methodLink RX7 103 yX7_refusal ∈ lw_tb := lw_up (List.mem_of_getElem? (i := 622) (by decide +kernel)) rfl
theorem qw_625 : Cond.code yX7_refusal cX7_refusal 2 (some .int) ∈ lw_tb := lw_up (List.mem_of_getElem? (i := 625) (by decide +kernel)) rfl
theorem qw_624 : Cond.instanceMethod yX7_refusal ∈ lw_tb := lw_up (List.mem_of_getElem? (i := 624) (by decide +kernel)) rfl
theorem qw_13 : Cond.selects RX7 yX7_refusal yX7_refusal ∈ lw_tb := lw_up (List.mem_of_getElem? (i := 13) (by decide +kernel)) rfl
theorem qw_636 : Cond.methodLink RX7 106 yX7_keep ∈ lw_tb := lw_up (List.mem_of_getElem? (i := 636) (by decide +kernel)) rfl
theorem qw_639 : Cond.code yX7_keep cX7_keep 2 none ∈ lw_tb := lw_up (List.mem_of_getElem? (i := 639) (by decide +kernel)) rfl
theorem qw_638 : Cond.instanceMethod yX7_keep ∈ lw_tb := lw_up (List.mem_of_getElem? (i := 638) (by decide +kernel)) rfl
theorem qw_14 : Cond.selects RX7 yX7_keep yX7_keep ∈ lw_tb := lw_up (List.mem_of_getElem? (i := 14) (by decide +kernel)) rfl
theorem qw_640 : Cond.methodLink RX7 109 yX7_sellNow ∈ lw_tb := lw_up (List.mem_of_getElem? (i := 640) (by decide +kernel)) rfl
theorem qw_643 : Cond.code yX7_sellNow cX7_sellNow 5 (some .int) ∈ lw_tb := lw_up (List.mem_of_getElem? (i := 643) (by decide +kernel)) rfl
theorem qw_642 : Cond.instanceMethod yX7_sellNow ∈ lw_tb := lw_up (List.mem_of_getElem? (i := 642) (by decide +kernel)) rfl
theorem qw_15 : Cond.selects RX7 yX7_sellNow yX7_sellNow ∈ lw_tb := lw_up (List.mem_of_getElem? (i := 15) (by decide +kernel)) rfl
theorem qw_702 : Cond.constant RX7 112 50000 ∈ lw_tb := lw_up (List.mem_of_getElem? (i := 702) (by decide +kernel)) rfl
theorem qw_735 : Cond.methodLink RX7 122 yX7_isTorn ∈ lw_tb := lw_up (List.mem_of_getElem? (i := 735) (by decide +kernel)) rfl
theorem qw_738 : Cond.code yX7_isTorn cX7_isTorn 3 (some .boolean) ∈ lw_tb := lw_up (List.mem_of_getElem? (i := 738) (by decide +kernel)) rfl
theorem qw_737 : Cond.instanceMethod yX7_isTorn ∈ lw_tb := lw_up (List.mem_of_getElem? (i := 737) (by decide +kernel)) rfl
theorem qw_28 : Cond.selects RX7 yX7_isTorn yX7_isTorn ∈ lw_tb := lw_up (List.mem_of_getElem? (i := 28) (by decide +kernel)) rfl
theorem qw_727 : Cond.methodLink RX7 125 yX7_countIn ∈ lw_tb := lw_up (List.mem_of_getElem? (i := 727) (by decide +kernel)) rfl
theorem qw_730 : Cond.code yX7_countIn cX7_countIn 6 (some .int) ∈ lw_tb := lw_up (List.mem_of_getElem? (i := 730) (by decide +kernel)) rfl
theorem qw_729 : Cond.instanceMethod yX7_countIn ∈ lw_tb := lw_up (List.mem_of_getElem? (i := 729) (by decide +kernel)) rfl
theorem qw_26 : Cond.selects RX7 yX7_countIn yX7_countIn ∈ lw_tb := lw_up (List.mem_of_getElem? (i := 26) (by decide +kernel)) rfl
theorem qw_723 : Cond.methodLink RX7 113 yX7_count ∈ lw_tb := lw_up (List.mem_of_getElem? (i := 723) (by decide +kernel)) rfl
theorem qw_726 : Cond.code yX7_count cX7_count 4 (some .int) ∈ lw_tb := lw_up (List.mem_of_getElem? (i := 726) (by decide +kernel)) rfl
theorem qw_725 : Cond.instanceMethod yX7_count ∈ lw_tb := lw_up (List.mem_of_getElem? (i := 725) (by decide +kernel)) rfl
theorem qw_25 : Cond.selects RX7 yX7_count yX7_count ∈ lw_tb := lw_up (List.mem_of_getElem? (i := 25) (by decide +kernel)) rfl
theorem qw_743 : Cond.methodLink RX7 116 yX7_readMemory ∈ lw_tb := lw_up (List.mem_of_getElem? (i := 743) (by decide +kernel)) rfl
theorem qw_746 : Cond.code yX7_readMemory cX7_readMemory 3 none ∈ lw_tb := lw_up (List.mem_of_getElem? (i := 746) (by decide +kernel)) rfl
theorem qw_745 : Cond.instanceMethod yX7_readMemory ∈ lw_tb := lw_up (List.mem_of_getElem? (i := 745) (by decide +kernel)) rfl
theorem qw_29 : Cond.selects RX7 yX7_readMemory yX7_readMemory ∈ lw_tb := lw_up (List.mem_of_getElem? (i := 29) (by decide +kernel)) rfl
theorem qw_767 : Cond.methodLink RX7 119 yX7_isBlock ∈ lw_tb := lw_up (List.mem_of_getElem? (i := 767) (by decide +kernel)) rfl
theorem qw_769 : Cond.code yX7_isBlock cX7_isBlock 1 (some .boolean) ∈ lw_tb := lw_up (List.mem_of_getElem? (i := 769) (by decide +kernel)) rfl
theorem qw_768 : Cond.static yX7_isBlock ∈ lw_tb := lw_up (List.mem_of_getElem? (i := 768) (by decide +kernel)) rfl
theorem qw_592 : Cond.fieldLink RX7 25 RX7 "recordBlock" "[I" ∈ lw_tb := lw_up (List.mem_of_getElem? (i := 592) (by decide +kernel)) rfl
theorem qw_594 : Cond.fieldLink RX7 128 RX7 "many" "I" ∈ lw_tb := lw_up (List.mem_of_getElem? (i := 594) (by decide +kernel)) rfl
theorem qw_593 : Cond.fieldLink RX7 28 RX7 "recordPlace" "[I" ∈ lw_tb := lw_up (List.mem_of_getElem? (i := 593) (by decide +kernel)) rfl
theorem qw_786 : Cond.methodLink RX7 131 yX7_layBlock ∈ lw_tb := lw_up (List.mem_of_getElem? (i := 786) (by decide +kernel)) rfl
theorem qw_789 : Cond.code yX7_layBlock cX7_layBlock 3 none ∈ lw_tb := lw_up (List.mem_of_getElem? (i := 789) (by decide +kernel)) rfl
theorem qw_788 : Cond.instanceMethod yX7_layBlock ∈ lw_tb := lw_up (List.mem_of_getElem? (i := 788) (by decide +kernel)) rfl
theorem qw_33 : Cond.selects RX7 yX7_layBlock yX7_layBlock ∈ lw_tb := lw_up (List.mem_of_getElem? (i := 33) (by decide +kernel)) rfl
theorem qw_782 : Cond.methodLink RX7 135 yX7_layRecords ∈ lw_tb := lw_up (List.mem_of_getElem? (i := 782) (by decide +kernel)) rfl
theorem qw_785 : Cond.code yX7_layRecords cX7_layRecords 4 none ∈ lw_tb := lw_up (List.mem_of_getElem? (i := 785) (by decide +kernel)) rfl
theorem qw_784 : Cond.instanceMethod yX7_layRecords ∈ lw_tb := lw_up (List.mem_of_getElem? (i := 784) (by decide +kernel)) rfl
theorem qw_32 : Cond.selects RX7 yX7_layRecords yX7_layRecords ∈ lw_tb := lw_up (List.mem_of_getElem? (i := 32) (by decide +kernel)) rfl
theorem qw_790 : Cond.methodLink RX7 138 yX7_of ∈ lw_tb := lw_up (List.mem_of_getElem? (i := 790) (by decide +kernel)) rfl
theorem qw_793 : Cond.code yX7_of cX7_of 3 (some .int) ∈ lw_tb := lw_up (List.mem_of_getElem? (i := 793) (by decide +kernel)) rfl
theorem qw_792 : Cond.instanceMethod yX7_of ∈ lw_tb := lw_up (List.mem_of_getElem? (i := 792) (by decide +kernel)) rfl
theorem qw_34 : Cond.selects RX7 yX7_of yX7_of ∈ lw_tb := lw_up (List.mem_of_getElem? (i := 34) (by decide +kernel)) rfl
theorem qw_591 : Cond.fieldLink RX7 22 RX7 "aside" "[I" ∈ lw_tb := lw_up (List.mem_of_getElem? (i := 591) (by decide +kernel)) rfl
theorem qw_810 : Cond.methodLink RX7 141 yX7_putAside ∈ lw_tb := lw_up (List.mem_of_getElem? (i := 810) (by decide +kernel)) rfl
theorem qw_813 : Cond.code yX7_putAside cX7_putAside 2 none ∈ lw_tb := lw_up (List.mem_of_getElem? (i := 813) (by decide +kernel)) rfl
theorem qw_812 : Cond.instanceMethod yX7_putAside ∈ lw_tb := lw_up (List.mem_of_getElem? (i := 812) (by decide +kernel)) rfl
theorem qw_35 : Cond.selects RX7 yX7_putAside yX7_putAside ∈ lw_tb := lw_up (List.mem_of_getElem? (i := 35) (by decide +kernel)) rfl
theorem qw_814 : Cond.methodLink RX7 144 yX7_putBack ∈ lw_tb := lw_up (List.mem_of_getElem? (i := 814) (by decide +kernel)) rfl
theorem qw_817 : Cond.code yX7_putBack cX7_putBack 2 none ∈ lw_tb := lw_up (List.mem_of_getElem? (i := 817) (by decide +kernel)) rfl
theorem qw_816 : Cond.instanceMethod yX7_putBack ∈ lw_tb := lw_up (List.mem_of_getElem? (i := 816) (by decide +kernel)) rfl
theorem qw_36 : Cond.selects RX7 yX7_putBack yX7_putBack ∈ lw_tb := lw_up (List.mem_of_getElem? (i := 36) (by decide +kernel)) rfl
theorem qw_590 : Cond.fieldLink RX7 19 RX7 "isKept" "[I" ∈ lw_tb := lw_up (List.mem_of_getElem? (i := 590) (by decide +kernel)) rfl
theorem qw_589 : Cond.fieldLink RX7 16 RX7 "images" "[I" ∈ lw_tb := lw_up (List.mem_of_getElem? (i := 589) (by decide +kernel)) rfl
theorem qw_830 : Cond.methodLink RX7 147 yX7_isImage ∈ lw_tb := lw_up (List.mem_of_getElem? (i := 830) (by decide +kernel)) rfl
theorem qw_832 : Cond.code yX7_isImage cX7_isImage 1 (some .boolean) ∈ lw_tb := lw_up (List.mem_of_getElem? (i := 832) (by decide +kernel)) rfl
theorem qw_831 : Cond.static yX7_isImage ∈ lw_tb := lw_up (List.mem_of_getElem? (i := 831) (by decide +kernel)) rfl
theorem qw_172 : Cond.fieldLink RX4 11 RX4 "states" "[LTicketJournal$Printer;" ∈ lw_tb := lw_up (List.mem_of_getElem? (i := 172) (by decide +kernel)) rfl
theorem qw_173 : Cond.fieldLink RX4 17 RX4 "oldest" "I" ∈ lw_tb := lw_up (List.mem_of_getElem? (i := 173) (by decide +kernel)) rfl
theorem qw_174 : Cond.fieldLink RX4 21 RX4 "size" "I" ∈ lw_tb := lw_up (List.mem_of_getElem? (i := 174) (by decide +kernel)) rfl
theorem qw_243 : Cond.methodLink RX4 25 yX4_stateAt ∈ lw_tb := lw_up (List.mem_of_getElem? (i := 243) (by decide +kernel)) rfl
theorem qw_43 : Cond.initialized RX4 ∈ lw_tb := lw_up (List.mem_of_getElem? (i := 43) (by decide +kernel)) rfl
theorem qw_246 : Cond.code yX4_stateAt cX4_stateAt 3 (some (.object "TicketJournal$Printer")) ∈ lw_tb := lw_up (List.mem_of_getElem? (i := 246) (by decide +kernel)) rfl
theorem qw_245 : Cond.instanceMethod yX4_stateAt ∈ lw_tb := lw_up (List.mem_of_getElem? (i := 245) (by decide +kernel)) rfl
theorem qw_0 : Cond.selects RX4 yX4_stateAt yX4_stateAt ∈ lw_tb := lw_up (List.mem_of_getElem? (i := 0) (by decide +kernel)) rfl
theorem qw_247 : Cond.methodLink RX4 29 yX5_copyFrom ∈ lw_tb := lw_up (List.mem_of_getElem? (i := 247) (by decide +kernel)) rfl
theorem qw_250 : Cond.code yX5_copyFrom cX5_copyFrom 2 none ∈ lw_tb := lw_up (List.mem_of_getElem? (i := 250) (by decide +kernel)) rfl
theorem qw_248 : Cond.instanceMethod yX5_copyFrom ∈ lw_tb := lw_up (List.mem_of_getElem? (i := 248) (by decide +kernel)) rfl
theorem qw_249 : Cond.selects RX5 yX5_copyFrom yX5_copyFrom ∈ lw_tb := lw_up (List.mem_of_getElem? (i := 249) (by decide +kernel)) rfl
theorem qw_192 : Cond.fieldLink RX1 10 RX1 "state" "LTicketJournal$Printer;" ∈ lw_tb := lw_up (List.mem_of_getElem? (i := 192) (by decide +kernel)) rfl
theorem qw_574 : Cond.methodLink RX1 20 yX5_copyFrom ∈ lw_tb := lw_up (List.mem_of_getElem? (i := 574) (by decide +kernel)) rfl
theorem qw_194 : Cond.fieldLink RX1 16 RX1 "filled" "Z" ∈ lw_tb := lw_up (List.mem_of_getElem? (i := 194) (by decide +kernel)) rfl
theorem qw_205 : Cond.fieldLink RX6 35 RX6 "images" "[LTicketJournal$Image;" ∈ lw_tb := lw_up (List.mem_of_getElem? (i := 205) (by decide +kernel)) rfl
theorem qw_382 : Cond.methodLink RX6 88 yX6_isSort ∈ lw_tb := lw_up (List.mem_of_getElem? (i := 382) (by decide +kernel)) rfl
theorem qw_201 : Cond.fieldLink RX6 10 RX6 "present" "LTicketJournal$Printer;" ∈ lw_tb := lw_up (List.mem_of_getElem? (i := 201) (by decide +kernel)) rfl
theorem qw_383 : Cond.methodLink RX6 92 yX5_priceOf ∈ lw_tb := lw_up (List.mem_of_getElem? (i := 383) (by decide +kernel)) rfl
theorem qw_463 : Cond.methodLink RX6 159 yX6_isBlock ∈ lw_tb := lw_up (List.mem_of_getElem? (i := 463) (by decide +kernel)) rfl
theorem qw_465 : Cond.code yX6_isBlock cX6_isBlock 1 (some .boolean) ∈ lw_tb := lw_up (List.mem_of_getElem? (i := 465) (by decide +kernel)) rfl
theorem qw_464 : Cond.static yX6_isBlock ∈ lw_tb := lw_up (List.mem_of_getElem? (i := 464) (by decide +kernel)) rfl
theorem qw_123 : Cond.fieldLinkNest RX6 99 RX5 "flash" "LTicketJournal$Flash;" "TicketJournal" ∈ lw_ns := lw_un (List.mem_of_getElem? (i := 123) (by decide +kernel)) rfl
theorem qw_466 : Cond.methodLink RX6 162 yX0_read ∈ lw_tb := lw_up (List.mem_of_getElem? (i := 466) (by decide +kernel)) rfl
theorem qw_471 : Cond.methodLink RX6 165 yX0_isWhole ∈ lw_tb := lw_up (List.mem_of_getElem? (i := 471) (by decide +kernel)) rfl
theorem qw_472 : Cond.methodLink RX6 168 yX0_tallyIn ∈ lw_tb := lw_up (List.mem_of_getElem? (i := 472) (by decide +kernel)) rfl
theorem qw_473 : Cond.methodLink RX6 171 yX0_erasuresOf ∈ lw_tb := lw_up (List.mem_of_getElem? (i := 473) (by decide +kernel)) rfl
theorem qw_476 : Cond.code yX0_erasuresOf cX0_erasuresOf 2 (some .int) ∈ lw_tb := lw_up (List.mem_of_getElem? (i := 476) (by decide +kernel)) rfl
theorem qw_474 : Cond.instanceMethod yX0_erasuresOf ∈ lw_tb := lw_up (List.mem_of_getElem? (i := 474) (by decide +kernel)) rfl
theorem qw_475 : Cond.selects RX0 yX0_erasuresOf yX0_erasuresOf ∈ lw_tb := lw_up (List.mem_of_getElem? (i := 475) (by decide +kernel)) rfl
theorem qw_128 : Cond.fieldLinkNest RX6 51 RX5 "on" "Z" "TicketJournal" ∈ lw_ns := lw_un (List.mem_of_getElem? (i := 128) (by decide +kernel)) rfl
theorem qw_125 : Cond.fieldLinkNest RX6 117 RX5 "memory" "LTicketJournal$Memory;" "TicketJournal" ∈ lw_ns := lw_un (List.mem_of_getElem? (i := 125) (by decide +kernel)) rfl
theorem qw_99 : Cond.fieldLinkNest RX6 121 RX3 "number" "I" "TicketJournal" ∈ lw_ns := lw_un (List.mem_of_getElem? (i := 99) (by decide +kernel)) rfl
theorem qw_102 : Cond.fieldLinkNest RX6 144 RX3 "sum" "I" "TicketJournal" ∈ lw_ns := lw_un (List.mem_of_getElem? (i := 102) (by decide +kernel)) rfl
theorem qw_104 : Cond.fieldLinkNest RX6 147 RX3 "tickets" "I" "TicketJournal" ∈ lw_ns := lw_un (List.mem_of_getElem? (i := 104) (by decide +kernel)) rfl
theorem qw_108 : Cond.fieldLinkNest RX6 150 RX3 "paper" "I" "TicketJournal" ∈ lw_ns := lw_un (List.mem_of_getElem? (i := 108) (by decide +kernel)) rfl
theorem qw_93 : Cond.fieldLinkNest RX6 153 RX3 "current" "I" "TicketJournal" ∈ lw_ns := lw_un (List.mem_of_getElem? (i := 93) (by decide +kernel)) rfl
theorem qw_96 : Cond.fieldLinkNest RX6 156 RX3 "next" "I" "TicketJournal" ∈ lw_ns := lw_un (List.mem_of_getElem? (i := 96) (by decide +kernel)) rfl
theorem qw_130 : Cond.fieldLinkNest RX6 79 RX5 "time" "I" "TicketJournal" ∈ lw_ns := lw_un (List.mem_of_getElem? (i := 130) (by decide +kernel)) rfl
theorem qw_132 : Cond.fieldLinkNest RX6 132 RX5 "there" "I" "TicketJournal" ∈ lw_ns := lw_un (List.mem_of_getElem? (i := 132) (by decide +kernel)) rfl
theorem qw_134 : Cond.fieldLinkNest RX6 135 RX5 "printed" "I" "TicketJournal" ∈ lw_ns := lw_un (List.mem_of_getElem? (i := 134) (by decide +kernel)) rfl
theorem qw_72 : Cond.fieldLinkNest RX6 138 RX0 "done" "I" "TicketJournal" ∈ lw_ns := lw_un (List.mem_of_getElem? (i := 72) (by decide +kernel)) rfl
theorem qw_74 : Cond.fieldLinkNest RX6 103 RX0 "left" "I" "TicketJournal" ∈ lw_ns := lw_un (List.mem_of_getElem? (i := 74) (by decide +kernel)) rfl
theorem qw_204 : Cond.fieldLink RX6 29 RX6 "past" "LTicketJournal$Past;" ∈ lw_tb := lw_up (List.mem_of_getElem? (i := 204) (by decide +kernel)) rfl
theorem qw_175 : Cond.fieldLinkNest RX6 126 RX4 "size" "I" "TicketJournal" ∈ lw_ns := lw_un (List.mem_of_getElem? (i := 175) (by decide +kernel)) rfl
theorem qw_451 : Cond.methodLink RX6 141 yX6_knownNumber ∈ lw_tb := lw_up (List.mem_of_getElem? (i := 451) (by decide +kernel)) rfl
theorem qw_454 : Cond.code yX6_knownNumber cX6_knownNumber 2 (some .int) ∈ lw_tb := lw_up (List.mem_of_getElem? (i := 454) (by decide +kernel)) rfl
theorem qw_453 : Cond.instanceMethod yX6_knownNumber ∈ lw_tb := lw_up (List.mem_of_getElem? (i := 453) (by decide +kernel)) rfl
theorem qw_7 : Cond.selects RX6 yX6_knownNumber yX6_knownNumber ∈ lw_tb := lw_up (List.mem_of_getElem? (i := 7) (by decide +kernel)) rfl
theorem qw_202 : Cond.fieldLink RX6 16 RX6 "trial" "LTicketJournal$Printer;" ∈ lw_tb := lw_up (List.mem_of_getElem? (i := 202) (by decide +kernel)) rfl
theorem qw_553 : Cond.methodLink RX6 199 yX5_copyFrom ∈ lw_tb := lw_up (List.mem_of_getElem? (i := 553) (by decide +kernel)) rfl
theorem qw_263 : Cond.methodLink RX6 48 yX5_issueTicket ∈ lw_tb := lw_up (List.mem_of_getElem? (i := 263) (by decide +kernel)) rfl
theorem qw_266 : Cond.code yX5_issueTicket cX5_issueTicket 4 (some .int) ∈ lw_tb := lw_up (List.mem_of_getElem? (i := 266) (by decide +kernel)) rfl
theorem qw_264 : Cond.instanceMethod yX5_issueTicket ∈ lw_tb := lw_up (List.mem_of_getElem? (i := 264) (by decide +kernel)) rfl
theorem qw_265 : Cond.selects RX5 yX5_issueTicket yX5_issueTicket ∈ lw_tb := lw_up (List.mem_of_getElem? (i := 265) (by decide +kernel)) rfl
theorem qw_221 : Cond.methodLink RX6 40 yX5_refusalOf ∈ lw_tb := lw_up (List.mem_of_getElem? (i := 221) (by decide +kernel)) rfl
theorem qw_224 : Cond.code yX5_refusalOf cX5_refusalOf 2 (some .int) ∈ lw_tb := lw_up (List.mem_of_getElem? (i := 224) (by decide +kernel)) rfl
theorem qw_222 : Cond.instanceMethod yX5_refusalOf ∈ lw_tb := lw_up (List.mem_of_getElem? (i := 222) (by decide +kernel)) rfl
theorem qw_223 : Cond.selects RX5 yX5_refusalOf yX5_refusalOf ∈ lw_tb := lw_up (List.mem_of_getElem? (i := 223) (by decide +kernel)) rfl
theorem qw_549 : Cond.methodLink RX6 196 yX6_trySale ∈ lw_tb := lw_up (List.mem_of_getElem? (i := 549) (by decide +kernel)) rfl
theorem qw_552 : Cond.code yX6_trySale cX6_trySale 3 none ∈ lw_tb := lw_up (List.mem_of_getElem? (i := 552) (by decide +kernel)) rfl
theorem qw_551 : Cond.instanceMethod yX6_trySale ∈ lw_tb := lw_up (List.mem_of_getElem? (i := 551) (by decide +kernel)) rfl
theorem qw_11 : Cond.selects RX6 yX6_trySale yX6_trySale ∈ lw_tb := lw_up (List.mem_of_getElem? (i := 11) (by decide +kernel)) rfl
theorem qw_397 : Cond.methodLink RX6 111 yX0_tally ∈ lw_tb := lw_up (List.mem_of_getElem? (i := 397) (by decide +kernel)) rfl
theorem qw_400 : Cond.code yX0_tally cX0_tally 4 (some .int) ∈ lw_tb := lw_up (List.mem_of_getElem? (i := 400) (by decide +kernel)) rfl
theorem qw_398 : Cond.instanceMethod yX0_tally ∈ lw_tb := lw_up (List.mem_of_getElem? (i := 398) (by decide +kernel)) rfl
theorem qw_399 : Cond.selects RX0 yX0_tally yX0_tally ∈ lw_tb := lw_up (List.mem_of_getElem? (i := 399) (by decide +kernel)) rfl
theorem qw_415 : Cond.methodLink RX6 114 yX5_wake ∈ lw_tb := lw_up (List.mem_of_getElem? (i := 415) (by decide +kernel)) rfl
theorem qw_418 : Cond.code yX5_wake cX5_wake 1 none ∈ lw_tb := lw_up (List.mem_of_getElem? (i := 418) (by decide +kernel)) rfl
theorem qw_416 : Cond.instanceMethod yX5_wake ∈ lw_tb := lw_up (List.mem_of_getElem? (i := 416) (by decide +kernel)) rfl
theorem qw_417 : Cond.selects RX5 yX5_wake yX5_wake ∈ lw_tb := lw_up (List.mem_of_getElem? (i := 417) (by decide +kernel)) rfl
theorem qw_203 : Cond.fieldLink RX6 22 RX6 "journal" "LTicketJournal$Journal;" ∈ lw_tb := lw_up (List.mem_of_getElem? (i := 203) (by decide +kernel)) rfl
theorem qw_481 : Cond.methodLink RX6 174 yX2_gather ∈ lw_tb := lw_up (List.mem_of_getElem? (i := 481) (by decide +kernel)) rfl
theorem qw_484 : Cond.code yX2_gather cX2_gather 7 (some (.object "TicketJournal$Journal")) ∈ lw_tb := lw_up (List.mem_of_getElem? (i := 484) (by decide +kernel)) rfl
theorem qw_482 : Cond.instanceMethod yX2_gather ∈ lw_tb := lw_up (List.mem_of_getElem? (i := 482) (by decide +kernel)) rfl
theorem qw_483 : Cond.selects RX2 yX2_gather yX2_gather ∈ lw_tb := lw_up (List.mem_of_getElem? (i := 483) (by decide +kernel)) rfl
theorem qw_497 : Cond.methodLink RX6 178 yX2_countOf ∈ lw_tb := lw_up (List.mem_of_getElem? (i := 497) (by decide +kernel)) rfl
theorem qw_500 : Cond.code yX2_countOf cX2_countOf 4 (some .int) ∈ lw_tb := lw_up (List.mem_of_getElem? (i := 500) (by decide +kernel)) rfl
theorem qw_498 : Cond.instanceMethod yX2_countOf ∈ lw_tb := lw_up (List.mem_of_getElem? (i := 498) (by decide +kernel)) rfl
theorem qw_499 : Cond.selects RX2 yX2_countOf yX2_countOf ∈ lw_tb := lw_up (List.mem_of_getElem? (i := 499) (by decide +kernel)) rfl
theorem qw_509 : Cond.methodLink RX6 181 yX2_detail ∈ lw_tb := lw_up (List.mem_of_getElem? (i := 509) (by decide +kernel)) rfl
theorem qw_514 : Cond.methodLink RX6 184 yX2_pricesOf ∈ lw_tb := lw_up (List.mem_of_getElem? (i := 514) (by decide +kernel)) rfl
theorem qw_517 : Cond.code yX2_pricesOf cX2_pricesOf 7 (some .int) ∈ lw_tb := lw_up (List.mem_of_getElem? (i := 517) (by decide +kernel)) rfl
theorem qw_515 : Cond.instanceMethod yX2_pricesOf ∈ lw_tb := lw_up (List.mem_of_getElem? (i := 515) (by decide +kernel)) rfl
theorem qw_516 : Cond.selects RX2 yX2_pricesOf yX2_pricesOf ∈ lw_tb := lw_up (List.mem_of_getElem? (i := 516) (by decide +kernel)) rfl
theorem qw_526 : Cond.methodLink RX6 187 yX2_stepsBack ∈ lw_tb := lw_up (List.mem_of_getElem? (i := 526) (by decide +kernel)) rfl
theorem qw_529 : Cond.code yX2_stepsBack cX2_stepsBack 3 (some .int) ∈ lw_tb := lw_up (List.mem_of_getElem? (i := 529) (by decide +kernel)) rfl
theorem qw_527 : Cond.instanceMethod yX2_stepsBack ∈ lw_tb := lw_up (List.mem_of_getElem? (i := 527) (by decide +kernel)) rfl
theorem qw_528 : Cond.selects RX2 yX2_stepsBack yX2_stepsBack ∈ lw_tb := lw_up (List.mem_of_getElem? (i := 528) (by decide +kernel)) rfl
theorem qw_534 : Cond.methodLink RX6 190 yX2_greatestStep ∈ lw_tb := lw_up (List.mem_of_getElem? (i := 534) (by decide +kernel)) rfl
theorem qw_537 : Cond.code yX2_greatestStep cX2_greatestStep 3 (some .int) ∈ lw_tb := lw_up (List.mem_of_getElem? (i := 537) (by decide +kernel)) rfl
theorem qw_535 : Cond.instanceMethod yX2_greatestStep ∈ lw_tb := lw_up (List.mem_of_getElem? (i := 535) (by decide +kernel)) rfl
theorem qw_536 : Cond.selects RX2 yX2_greatestStep yX2_greatestStep ∈ lw_tb := lw_up (List.mem_of_getElem? (i := 536) (by decide +kernel)) rfl
theorem qw_541 : Cond.methodLink RX6 193 yX2_numberGaps ∈ lw_tb := lw_up (List.mem_of_getElem? (i := 541) (by decide +kernel)) rfl
theorem qw_544 : Cond.code yX2_numberGaps cX2_numberGaps 3 (some .int) ∈ lw_tb := lw_up (List.mem_of_getElem? (i := 544) (by decide +kernel)) rfl
theorem qw_542 : Cond.instanceMethod yX2_numberGaps ∈ lw_tb := lw_up (List.mem_of_getElem? (i := 542) (by decide +kernel)) rfl
theorem qw_543 : Cond.selects RX2 yX2_numberGaps yX2_numberGaps ∈ lw_tb := lw_up (List.mem_of_getElem? (i := 543) (by decide +kernel)) rfl
theorem qw_239 : Cond.methodLink RX6 44 yX4_remember ∈ lw_tb := lw_up (List.mem_of_getElem? (i := 239) (by decide +kernel)) rfl
theorem qw_242 : Cond.code yX4_remember cX4_remember 3 none ∈ lw_tb := lw_up (List.mem_of_getElem? (i := 242) (by decide +kernel)) rfl
theorem qw_240 : Cond.instanceMethod yX4_remember ∈ lw_tb := lw_up (List.mem_of_getElem? (i := 240) (by decide +kernel)) rfl
theorem qw_241 : Cond.selects RX4 yX4_remember yX4_remember ∈ lw_tb := lw_up (List.mem_of_getElem? (i := 241) (by decide +kernel)) rfl
theorem qw_319 : Cond.methodLink RX6 55 yX5_endsWithTicket ∈ lw_tb := lw_up (List.mem_of_getElem? (i := 319) (by decide +kernel)) rfl
theorem qw_322 : Cond.code yX5_endsWithTicket cX5_endsWithTicket 2 (some .boolean) ∈ lw_tb := lw_up (List.mem_of_getElem? (i := 322) (by decide +kernel)) rfl
theorem qw_320 : Cond.instanceMethod yX5_endsWithTicket ∈ lw_tb := lw_up (List.mem_of_getElem? (i := 320) (by decide +kernel)) rfl
theorem qw_321 : Cond.selects RX5 yX5_endsWithTicket yX5_endsWithTicket ∈ lw_tb := lw_up (List.mem_of_getElem? (i := 321) (by decide +kernel)) rfl
theorem qw_338 : Cond.methodLink RX6 59 yX5_cancelLatest ∈ lw_tb := lw_up (List.mem_of_getElem? (i := 338) (by decide +kernel)) rfl
theorem qw_341 : Cond.code yX5_cancelLatest cX5_cancelLatest 2 (some .int) ∈ lw_tb := lw_up (List.mem_of_getElem? (i := 341) (by decide +kernel)) rfl
theorem qw_339 : Cond.instanceMethod yX5_cancelLatest ∈ lw_tb := lw_up (List.mem_of_getElem? (i := 339) (by decide +kernel)) rfl
theorem qw_340 : Cond.selects RX5 yX5_cancelLatest yX5_cancelLatest ∈ lw_tb := lw_up (List.mem_of_getElem? (i := 340) (by decide +kernel)) rfl
theorem qw_346 : Cond.methodLink RX6 63 yX5_closeDay ∈ lw_tb := lw_up (List.mem_of_getElem? (i := 346) (by decide +kernel)) rfl
theorem qw_349 : Cond.code yX5_closeDay cX5_closeDay 2 (some .int) ∈ lw_tb := lw_up (List.mem_of_getElem? (i := 349) (by decide +kernel)) rfl
theorem qw_347 : Cond.instanceMethod yX5_closeDay ∈ lw_tb := lw_up (List.mem_of_getElem? (i := 347) (by decide +kernel)) rfl
theorem qw_348 : Cond.selects RX5 yX5_closeDay yX5_closeDay ∈ lw_tb := lw_up (List.mem_of_getElem? (i := 348) (by decide +kernel)) rfl
theorem qw_354 : Cond.constant RX6 66 50000 ∈ lw_tb := lw_up (List.mem_of_getElem? (i := 354) (by decide +kernel)) rfl
theorem qw_355 : Cond.methodLink RX6 71 yX5_putInPaper ∈ lw_tb := lw_up (List.mem_of_getElem? (i := 355) (by decide +kernel)) rfl
theorem qw_358 : Cond.code yX5_putInPaper cX5_putInPaper 4 (some .int) ∈ lw_tb := lw_up (List.mem_of_getElem? (i := 358) (by decide +kernel)) rfl
theorem qw_356 : Cond.instanceMethod yX5_putInPaper ∈ lw_tb := lw_up (List.mem_of_getElem? (i := 356) (by decide +kernel)) rfl
theorem qw_357 : Cond.selects RX5 yX5_putInPaper yX5_putInPaper ∈ lw_tb := lw_up (List.mem_of_getElem? (i := 357) (by decide +kernel)) rfl
theorem qw_363 : Cond.constant RX6 75 60000 ∈ lw_tb := lw_up (List.mem_of_getElem? (i := 363) (by decide +kernel)) rfl
theorem qw_364 : Cond.methodLink RX6 76 yX5_moveClock ∈ lw_tb := lw_up (List.mem_of_getElem? (i := 364) (by decide +kernel)) rfl
theorem qw_367 : Cond.code yX5_moveClock cX5_moveClock 3 (some .int) ∈ lw_tb := lw_up (List.mem_of_getElem? (i := 367) (by decide +kernel)) rfl
theorem qw_365 : Cond.instanceMethod yX5_moveClock ∈ lw_tb := lw_up (List.mem_of_getElem? (i := 365) (by decide +kernel)) rfl
theorem qw_366 : Cond.selects RX5 yX5_moveClock yX5_moveClock ∈ lw_tb := lw_up (List.mem_of_getElem? (i := 366) (by decide +kernel)) rfl
theorem qw_375 : Cond.methodLink RX6 83 Lib.Math.min.name ∈ lw_tb := lw_up (List.mem_of_getElem? (i := 375) (by decide +kernel)) rfl
theorem qw_376 : Cond.static Lib.Math.min.name ∈ lw_tb := lw_up (List.mem_of_getElem? (i := 376) (by decide +kernel)) rfl
theorem qw_377 : Cond.code Lib.Math.min.name Lib.Math.min.code 2 (some .int) ∈ lw_tb := lw_up (List.mem_of_getElem? (i := 377) (by decide +kernel)) rfl
theorem qw_384 : Cond.methodLink RX6 95 yX5_changePrice ∈ lw_tb := lw_up (List.mem_of_getElem? (i := 384) (by decide +kernel)) rfl
theorem qw_387 : Cond.code yX5_changePrice cX5_changePrice 3 none ∈ lw_tb := lw_up (List.mem_of_getElem? (i := 387) (by decide +kernel)) rfl
theorem qw_385 : Cond.instanceMethod yX5_changePrice ∈ lw_tb := lw_up (List.mem_of_getElem? (i := 385) (by decide +kernel)) rfl
theorem qw_386 : Cond.selects RX5 yX5_changePrice yX5_changePrice ∈ lw_tb := lw_up (List.mem_of_getElem? (i := 386) (by decide +kernel)) rfl
theorem qw_396 : Cond.methodLink RX6 108 yX5_losePower ∈ lw_tb := lw_up (List.mem_of_getElem? (i := 396) (by decide +kernel)) rfl
theorem qw_443 : Cond.methodLink RX6 129 yX4_restore ∈ lw_tb := lw_up (List.mem_of_getElem? (i := 443) (by decide +kernel)) rfl
theorem qw_446 : Cond.code yX4_restore cX4_restore 3 none ∈ lw_tb := lw_up (List.mem_of_getElem? (i := 446) (by decide +kernel)) rfl
theorem qw_444 : Cond.instanceMethod yX4_restore ∈ lw_tb := lw_up (List.mem_of_getElem? (i := 444) (by decide +kernel)) rfl
theorem qw_445 : Cond.selects RX4 yX4_restore yX4_restore ∈ lw_tb := lw_up (List.mem_of_getElem? (i := 445) (by decide +kernel)) rfl
theorem qw_566 : Cond.methodLink RX6 202 yX6_isImage ∈ lw_tb := lw_up (List.mem_of_getElem? (i := 566) (by decide +kernel)) rfl
theorem qw_569 : Cond.code yX6_isImage cX6_isImage 2 (some .boolean) ∈ lw_tb := lw_up (List.mem_of_getElem? (i := 569) (by decide +kernel)) rfl
theorem qw_568 : Cond.instanceMethod yX6_isImage ∈ lw_tb := lw_up (List.mem_of_getElem? (i := 568) (by decide +kernel)) rfl
theorem qw_12 : Cond.selects RX6 yX6_isImage yX6_isImage ∈ lw_tb := lw_up (List.mem_of_getElem? (i := 12) (by decide +kernel)) rfl
theorem qw_570 : Cond.methodLink RX6 205 yX1_store ∈ lw_tb := lw_up (List.mem_of_getElem? (i := 570) (by decide +kernel)) rfl
theorem qw_44 : Cond.initialized RX1 ∈ lw_tb := lw_up (List.mem_of_getElem? (i := 44) (by decide +kernel)) rfl
theorem qw_573 : Cond.code yX1_store cX1_store 2 none ∈ lw_tb := lw_up (List.mem_of_getElem? (i := 573) (by decide +kernel)) rfl
theorem qw_571 : Cond.instanceMethod yX1_store ∈ lw_tb := lw_up (List.mem_of_getElem? (i := 571) (by decide +kernel)) rfl
theorem qw_572 : Cond.selects RX1 yX1_store yX1_store ∈ lw_tb := lw_up (List.mem_of_getElem? (i := 572) (by decide +kernel)) rfl
theorem qw_195 : Cond.fieldLinkNest RX6 208 RX1 "filled" "Z" "TicketJournal" ∈ lw_ns := lw_un (List.mem_of_getElem? (i := 195) (by decide +kernel)) rfl
theorem qw_193 : Cond.fieldLinkNest RX6 211 RX1 "state" "LTicketJournal$Printer;" "TicketJournal" ∈ lw_ns := lw_un (List.mem_of_getElem? (i := 193) (by decide +kernel)) rfl
theorem kic_0 : Int32.ofInt 0 = 0 := by decide
theorem kic_1 : Int32.ofInt 1 = 1 := by decide
theorem kic_3 : Int32.ofInt 3 = 3 := by decide
theorem kic_4 : Int32.ofInt 4 = 4 := by decide
theorem kbp_40 : (Int8.ofInt 40).toInt32 = 40 := by decide
theorem kbp_20 : (Int8.ofInt 20).toInt32 = 20 := by decide
theorem kic_5 : Int32.ofInt 5 = 5 := by decide
theorem kbp_7 : (Int8.ofInt 7).toInt32 = 7 := by decide
theorem kbp_11 : (Int8.ofInt 11).toInt32 = 11 := by decide
theorem kbp_13 : (Int8.ofInt 13).toInt32 = 13 := by decide
theorem kic_2 : Int32.ofInt 2 = 2 := by decide
theorem kbp_m9 : (Int8.ofInt (-9)).toInt32 = (-9) := by decide
theorem kbp_22 : (Int8.ofInt 22).toInt32 = 22 := by decide
theorem kbp_6 : (Int8.ofInt 6).toInt32 = 6 := by decide
theorem ksp_10000 : (Int16.ofInt 10000).toInt32 = 10000 := by decide
theorem kbp_110 : (Int8.ofInt 110).toInt32 = 110 := by decide
theorem ksp_1000 : (Int16.ofInt 1000).toInt32 = 1000 := by decide
theorem kbp_m2 : (Int8.ofInt (-2)).toInt32 = (-2) := by decide
theorem kbp_m3 : (Int8.ofInt (-3)).toInt32 = (-3) := by decide
theorem kic_m1 : Int32.ofInt (-1) = (-1) := by decide
theorem kbp_m4 : (Int8.ofInt (-4)).toInt32 = (-4) := by decide
theorem ksp_131 : (Int16.ofInt 131).toInt32 = 131 := by decide
theorem ksp_917 : (Int16.ofInt 917).toInt32 = 917 := by decide
theorem kbp_8 : (Int8.ofInt 8).toInt32 = 8 := by decide
theorem kbp_125 : (Int8.ofInt 125).toInt32 = 125 := by decide
theorem kbp_126 : (Int8.ofInt 126).toInt32 = 126 := by decide
theorem kbp_115 : (Int8.ofInt 115).toInt32 = 115 := by decide
theorem kbp_116 : (Int8.ofInt 116).toInt32 = 116 := by decide
theorem kbp_117 : (Int8.ofInt 117).toInt32 = 117 := by decide
theorem kbp_119 : (Int8.ofInt 119).toInt32 = 119 := by decide
theorem kbp_120 : (Int8.ofInt 120).toInt32 = 120 := by decide
theorem kbp_121 : (Int8.ofInt 121).toInt32 = 121 := by decide
theorem kbp_118 : (Int8.ofInt 118).toInt32 = 118 := by decide
theorem kbp_127 : (Int8.ofInt 127).toInt32 = 127 := by decide
theorem kbp_122 : (Int8.ofInt 122).toInt32 = 122 := by decide
theorem kbp_123 : (Int8.ofInt 123).toInt32 = 123 := by decide
theorem kbp_124 : (Int8.ofInt 124).toInt32 = 124 := by decide
theorem ksp_5000 : (Int16.ofInt 5000).toInt32 = 5000 := by decide
theorem ksp_999 : (Int16.ofInt 999).toInt32 = 999 := by decide
theorem kbp_100 : (Int8.ofInt 100).toInt32 = 100 := by decide
theorem kbp_12 : (Int8.ofInt 12).toInt32 = 12 := by decide
theorem kbp_21 : (Int8.ofInt 21).toInt32 = 21 := by decide
theorem kbp_30 : (Int8.ofInt 30).toInt32 = 30 := by decide
theorem ms_X6_isWithin : mSo yX6_isWithin cX6_isWithin 3 3 (some .boolean) := ⟨qw_229, qw_38, qw_230, by decide +kernel⟩
theorem mv_X0_spendOperation : mVo yX0_spendOperation cX0_spendOperation 1 0 (some .boolean) := ⟨qw_289, qw_3, qw_40, qw_290, by decide +kernel⟩
theorem mv_X0_read : mVo yX0_read cX0_read 4 2 (some .int) := ⟨qw_276, qw_277, qw_40, qw_278, by decide +kernel⟩
theorem ms_X6_headerCheck : mSo yX6_headerCheck cX6_headerCheck 5 5 (some .int) := ⟨qw_280, qw_38, qw_281, by decide +kernel⟩
theorem mv_X0_recordWord : mVo yX0_recordWord cX0_recordWord 4 3 (some .int) := ⟨qw_332, qw_333, qw_40, qw_334, by decide +kernel⟩
theorem mv_X0_isEmpty : mVo yX0_isEmpty cX0_isEmpty 4 2 (some .boolean) := ⟨qw_329, qw_5, qw_40, qw_330, by decide +kernel⟩
theorem ms_X6_recordCheck : mSo yX6_recordCheck cX6_recordCheck 4 4 (some .int) := ⟨qw_300, qw_38, qw_301, by decide +kernel⟩
theorem mv_X0_stateOf : mVo yX0_stateOf cX0_stateOf 4 2 (some .int) := ⟨qw_324, qw_325, qw_40, qw_326, by decide +kernel⟩
theorem mv_X0_isWhole : mVo yX0_isWhole cX0_isWhole 3 1 (some .boolean) := ⟨qw_406, qw_407, qw_40, qw_408, by decide +kernel⟩
theorem mv_X0_tallyIn : mVo yX0_tallyIn cX0_tallyIn 5 2 (some .int) := ⟨qw_402, qw_403, qw_40, qw_404, by decide +kernel⟩
theorem mv_X0_isFollowed : mVo yX0_isFollowed cX0_isFollowed 4 1 (some .boolean) := ⟨qw_429, qw_6, qw_40, qw_430, by decide +kernel⟩
theorem ms_X6_lengthOf : mSo yX6_lengthOf cX6_lengthOf 1 1 (some .int) := ⟨qw_237, qw_38, qw_238, by decide +kernel⟩
theorem mv_X3_learn : mVo yX3_learn cX3_learn 4 2 none := ⟨qw_311, qw_312, qw_41, qw_313, by decide +kernel⟩
theorem mv_X0_newestBlock : mVo yX0_newestBlock cX0_newestBlock 2 0 (some .int) := ⟨qw_424, qw_425, qw_40, qw_426, by decide +kernel⟩
theorem mv_X0_nextPlaceIn : mVo yX0_nextPlaceIn cX0_nextPlaceIn 3 1 (some .int) := ⟨qw_432, qw_433, qw_40, qw_434, by decide +kernel⟩
theorem mv_X0_copyFrom : mVo yX0_copyFrom cX0_copyFrom 2 1 none := ⟨qw_252, qw_253, qw_40, qw_254, by decide +kernel⟩
theorem mv_X3_copyFrom : mVo yX3_copyFrom cX3_copyFrom 2 1 none := ⟨qw_259, qw_260, qw_41, qw_261, by decide +kernel⟩
theorem ms_X6_isSort : mSo yX6_isSort cX6_isSort 1 1 (some .boolean) := ⟨qw_226, qw_38, qw_227, by decide +kernel⟩
theorem mv_X5_priceOf : mVo yX5_priceOf cX5_priceOf 2 1 (some .int) := ⟨qw_232, qw_233, qw_39, qw_234, by decide +kernel⟩
theorem mv_X3_forget : mVo yX3_forget cX3_forget 1 0 none := ⟨qw_307, qw_308, qw_41, qw_309, by decide +kernel⟩
theorem mv_X3_recall : mVo yX3_recall cX3_recall 3 1 none := ⟨qw_420, qw_421, qw_41, qw_422, by decide +kernel⟩
theorem mv_X0_erase : mVo yX0_erase cX0_erase 3 1 (some .boolean) := ⟨qw_284, qw_285, qw_40, qw_286, by decide +kernel⟩
theorem mv_X0_write : mVo yX0_write cX0_write 5 3 (some .boolean) := ⟨qw_292, qw_293, qw_40, qw_294, by decide +kernel⟩
theorem mv_X5_losePower : mVo yX5_losePower cX5_losePower 1 0 none := ⟨qw_303, qw_304, qw_39, qw_305, by decide +kernel⟩
theorem mv_X5_fillPlace : mVo yX5_fillPlace cX5_fillPlace 7 3 (some .boolean) := ⟨qw_297, qw_4, qw_39, qw_298, by decide +kernel⟩
theorem mv_X5_beginBlock : mVo yX5_beginBlock cX5_beginBlock 5 0 (some .boolean) := ⟨qw_273, qw_2, qw_39, qw_274, by decide +kernel⟩
theorem mv_X5_writeRecord : mVo yX5_writeRecord cX5_writeRecord 6 3 (some .boolean) := ⟨qw_269, qw_1, qw_39, qw_270, by decide +kernel⟩
theorem mv_X2_setDetail : mVo yX2_setDetail cX2_setDetail 4 2 none := ⟨qw_495, qw_9, qw_42, qw_496, by decide +kernel⟩
theorem mv_X2_add : mVo yX2_add cX2_add 5 3 none := ⟨qw_490, qw_8, qw_42, qw_491, by decide +kernel⟩
theorem mv_X2_detail : mVo yX2_detail cX2_detail 4 2 (some .int) := ⟨qw_502, qw_503, qw_42, qw_504, by decide +kernel⟩
theorem mv_X2_stepTo : mVo yX2_stepTo cX2_stepTo 2 1 (some .int) := ⟨qw_532, qw_10, qw_42, qw_533, by decide +kernel⟩
theorem ms_X7_isIn : mSo yX7_isIn cX7_isIn 3 3 (some .boolean) := ⟨qw_630, qw_45, qw_631, by decide +kernel⟩
theorem mv_X7_canOperate : mVo yX7_canOperate cX7_canOperate 1 0 (some .boolean) := ⟨qw_662, qw_20, qw_45, qw_663, by decide +kernel⟩
theorem mv_X7_at : mVo yX7_at cX7_at 3 2 (some .int) := ⟨qw_654, qw_18, qw_45, qw_655, by decide +kernel⟩
theorem ms_X7_headCheck : mSo yX7_headCheck cX7_headCheck 5 5 (some .int) := ⟨qw_669, qw_45, qw_670, by decide +kernel⟩
theorem ms_X7_wordOf : mSo yX7_wordOf cX7_wordOf 2 2 (some .int) := ⟨qw_673, qw_45, qw_674, by decide +kernel⟩
theorem mv_X7_inPlace : mVo yX7_inPlace cX7_inPlace 4 3 (some .int) := ⟨qw_692, qw_24, qw_45, qw_693, by decide +kernel⟩
theorem mv_X7_isEmpty : mVo yX7_isEmpty cX7_isEmpty 5 2 (some .boolean) := ⟨qw_688, qw_23, qw_45, qw_689, by decide +kernel⟩
theorem ms_X7_recordCheck : mSo yX7_recordCheck cX7_recordCheck 4 4 (some .int) := ⟨qw_676, qw_45, qw_677, by decide +kernel⟩
theorem mv_X7_isRecord : mVo yX7_isRecord cX7_isRecord 3 2 (some .boolean) := ⟨qw_684, qw_22, qw_45, qw_685, by decide +kernel⟩
theorem mv_X7_put : mVo yX7_put cX7_put 5 3 (some .boolean) := ⟨qw_666, qw_21, qw_45, qw_667, by decide +kernel⟩
theorem mv_X7_erase : mVo yX7_erase cX7_erase 4 1 (some .boolean) := ⟨qw_658, qw_19, qw_45, qw_659, by decide +kernel⟩
theorem mv_X7_beginBlock : mVo yX7_beginBlock cX7_beginBlock 5 0 (some .boolean) := ⟨qw_650, qw_17, qw_45, qw_651, by decide +kernel⟩
theorem mv_X7_isWhole : mVo yX7_isWhole cX7_isWhole 4 1 (some .boolean) := ⟨qw_733, qw_27, qw_45, qw_734, by decide +kernel⟩
theorem ms_X7_lengthOf : mSo yX7_lengthOf cX7_lengthOf 1 1 (some .int) := ⟨qw_634, qw_45, qw_635, by decide +kernel⟩
theorem mv_X7_follow : mVo yX7_follow cX7_follow 3 2 none := ⟨qw_753, qw_31, qw_45, qw_754, by decide +kernel⟩
theorem mv_X7_newest : mVo yX7_newest cX7_newest 5 0 (some .int) := ⟨qw_749, qw_30, qw_45, qw_750, by decide +kernel⟩
theorem ms_X7_isSort : mSo yX7_isSort cX7_isSort 1 1 (some .boolean) := ⟨qw_627, qw_45, qw_628, by decide +kernel⟩
theorem mv_X7_write : mVo yX7_write cX7_write 8 3 (some .boolean) := ⟨qw_646, qw_16, qw_45, qw_647, by decide +kernel⟩
theorem mv_X7_refusal : mVo yX7_refusal cX7_refusal 2 1 (some .int) := ⟨qw_624, qw_13, qw_45, qw_625, by decide +kernel⟩
theorem mv_X7_keep : mVo yX7_keep cX7_keep 2 0 none := ⟨qw_638, qw_14, qw_45, qw_639, by decide +kernel⟩
theorem mv_X7_sellNow : mVo yX7_sellNow cX7_sellNow 5 1 (some .int) := ⟨qw_642, qw_15, qw_45, qw_643, by decide +kernel⟩
theorem mv_X7_isTorn : mVo yX7_isTorn cX7_isTorn 3 2 (some .boolean) := ⟨qw_737, qw_28, qw_45, qw_738, by decide +kernel⟩
theorem mv_X7_countIn : mVo yX7_countIn cX7_countIn 6 2 (some .int) := ⟨qw_729, qw_26, qw_45, qw_730, by decide +kernel⟩
theorem mv_X7_count : mVo yX7_count cX7_count 4 1 (some .int) := ⟨qw_725, qw_25, qw_45, qw_726, by decide +kernel⟩
theorem mv_X7_readMemory : mVo yX7_readMemory cX7_readMemory 3 0 none := ⟨qw_745, qw_29, qw_45, qw_746, by decide +kernel⟩
theorem ms_X7_isBlock : mSo yX7_isBlock cX7_isBlock 1 1 (some .boolean) := ⟨qw_768, qw_45, qw_769, by decide +kernel⟩
theorem mv_X7_layBlock : mVo yX7_layBlock cX7_layBlock 3 1 none := ⟨qw_788, qw_33, qw_45, qw_789, by decide +kernel⟩
theorem mv_X7_layRecords : mVo yX7_layRecords cX7_layRecords 4 0 none := ⟨qw_784, qw_32, qw_45, qw_785, by decide +kernel⟩
theorem mv_X7_of : mVo yX7_of cX7_of 3 2 (some .int) := ⟨qw_792, qw_34, qw_45, qw_793, by decide +kernel⟩
theorem mv_X7_putAside : mVo yX7_putAside cX7_putAside 2 0 none := ⟨qw_812, qw_35, qw_45, qw_813, by decide +kernel⟩
theorem mv_X7_putBack : mVo yX7_putBack cX7_putBack 2 0 none := ⟨qw_816, qw_36, qw_45, qw_817, by decide +kernel⟩
theorem ms_X7_isImage : mSo yX7_isImage cX7_isImage 1 1 (some .boolean) := ⟨qw_831, qw_45, qw_832, by decide +kernel⟩
theorem mv_X4_stateAt : mVo yX4_stateAt cX4_stateAt 3 1 (some (.object "TicketJournal$Printer")) := ⟨qw_245, qw_0, qw_43, qw_246, by decide +kernel⟩
theorem mv_X5_copyFrom : mVo yX5_copyFrom cX5_copyFrom 2 1 none := ⟨qw_248, qw_249, qw_39, qw_250, by decide +kernel⟩
theorem ms_X6_isBlock : mSo yX6_isBlock cX6_isBlock 1 1 (some .boolean) := ⟨qw_464, qw_38, qw_465, by decide +kernel⟩
theorem mv_X0_erasuresOf : mVo yX0_erasuresOf cX0_erasuresOf 2 1 (some .int) := ⟨qw_474, qw_475, qw_40, qw_476, by decide +kernel⟩
theorem mv_X6_knownNumber : mVo yX6_knownNumber cX6_knownNumber 2 1 (some .int) := ⟨qw_453, qw_7, qw_38, qw_454, by decide +kernel⟩
theorem mv_X5_issueTicket : mVo yX5_issueTicket cX5_issueTicket 4 1 (some .int) := ⟨qw_264, qw_265, qw_39, qw_266, by decide +kernel⟩
theorem mv_X5_refusalOf : mVo yX5_refusalOf cX5_refusalOf 2 1 (some .int) := ⟨qw_222, qw_223, qw_39, qw_224, by decide +kernel⟩
theorem mv_X6_trySale : mVo yX6_trySale cX6_trySale 3 2 none := ⟨qw_551, qw_11, qw_38, qw_552, by decide +kernel⟩
theorem mv_X0_tally : mVo yX0_tally cX0_tally 4 1 (some .int) := ⟨qw_398, qw_399, qw_40, qw_400, by decide +kernel⟩
theorem mv_X5_wake : mVo yX5_wake cX5_wake 1 0 none := ⟨qw_416, qw_417, qw_39, qw_418, by decide +kernel⟩
theorem mv_X2_gather : mVo yX2_gather cX2_gather 7 1 (some (.object "TicketJournal$Journal")) := ⟨qw_482, qw_483, qw_42, qw_484, by decide +kernel⟩
theorem mv_X2_countOf : mVo yX2_countOf cX2_countOf 4 1 (some .int) := ⟨qw_498, qw_499, qw_42, qw_500, by decide +kernel⟩
theorem mv_X2_pricesOf : mVo yX2_pricesOf cX2_pricesOf 7 2 (some .int) := ⟨qw_515, qw_516, qw_42, qw_517, by decide +kernel⟩
theorem mv_X2_stepsBack : mVo yX2_stepsBack cX2_stepsBack 3 0 (some .int) := ⟨qw_527, qw_528, qw_42, qw_529, by decide +kernel⟩
theorem mv_X2_greatestStep : mVo yX2_greatestStep cX2_greatestStep 3 0 (some .int) := ⟨qw_535, qw_536, qw_42, qw_537, by decide +kernel⟩
theorem mv_X2_numberGaps : mVo yX2_numberGaps cX2_numberGaps 3 0 (some .int) := ⟨qw_542, qw_543, qw_42, qw_544, by decide +kernel⟩
theorem mv_X4_remember : mVo yX4_remember cX4_remember 3 1 none := ⟨qw_240, qw_241, qw_43, qw_242, by decide +kernel⟩
theorem mv_X5_endsWithTicket : mVo yX5_endsWithTicket cX5_endsWithTicket 2 0 (some .boolean) := ⟨qw_320, qw_321, qw_39, qw_322, by decide +kernel⟩
theorem mv_X5_cancelLatest : mVo yX5_cancelLatest cX5_cancelLatest 2 0 (some .int) := ⟨qw_339, qw_340, qw_39, qw_341, by decide +kernel⟩
theorem mv_X5_closeDay : mVo yX5_closeDay cX5_closeDay 2 0 (some .int) := ⟨qw_347, qw_348, qw_39, qw_349, by decide +kernel⟩
theorem mv_X5_putInPaper : mVo yX5_putInPaper cX5_putInPaper 4 2 (some .int) := ⟨qw_356, qw_357, qw_39, qw_358, by decide +kernel⟩
theorem mv_X5_moveClock : mVo yX5_moveClock cX5_moveClock 3 1 (some .int) := ⟨qw_365, qw_366, qw_39, qw_367, by decide +kernel⟩
theorem mv_X5_changePrice : mVo yX5_changePrice cX5_changePrice 3 2 none := ⟨qw_385, qw_386, qw_39, qw_387, by decide +kernel⟩
theorem mv_X4_restore : mVo yX4_restore cX4_restore 3 1 none := ⟨qw_444, qw_445, qw_43, qw_446, by decide +kernel⟩
theorem mv_X6_isImage : mVo yX6_isImage cX6_isImage 2 1 (some .boolean) := ⟨qw_568, qw_12, qw_38, qw_569, by decide +kernel⟩
theorem mv_X1_store : mVo yX1_store cX1_store 2 1 none := ⟨qw_571, qw_572, qw_44, qw_573, by decide +kernel⟩
theorem gf_X0_2 {X : CX} {Z : GZ} {R : Room} {cc : ByteArray} {own : String} {nL kc ks : Nat} {ws : va_W} {pc : Nat} {lv : List (Nat × Value)} {st : List Value} {ix a : Nat} {fs : List Value} {v : Value} (q0 : Nat) (he : ws[q0]? = some (a, .inr (0, fs))) (hv : fs[2]? = some v) (q : Cond.fieldLink own ix RX0 "done" "I" ∈ lw_tb) (d : decode cc pc = .ok (.getfield ix, 3)) (kk : AtK X Z R cc own nL kc ks ws (pc + 3) lv (v :: st)) : AtK X Z R cc own nL kc ks ws pc lv (.ref a :: st) := r_getf (T := TX0) (N := 4) kX0 rfl 2 (by decide) rfl q0 he hv q d kk
theorem pf_X0_2 {X : CX} {Z : GZ} {R : Room} {cc : ByteArray} {own : String} {nL kc ks : Nat} {ws : va_W} {pc : Nat} {lv : List (Nat × Value)} {st : List Value} {ix a : Nat} {fs : List Value} {x : Int32} (q0 : Nat) (he : ws[q0]? = some (a, .inr (0, fs))) (hle : 2 < fs.length) (q : Cond.fieldLink own ix RX0 "done" "I" ∈ lw_tb) (d : decode cc pc = .ok (.putfield ix, 3)) {ws' : va_W} (hw9 : ws.set q0 (a, .inr (0, fs.set 2 (.int x))) = ws') (kk : AtK X Z R cc own nL kc ks ws' (pc + 3) lv st) : AtK X Z R cc own nL kc ks ws pc lv (.int x :: .ref a :: st) := r_putf (T := TX0) (N := 4) (host := "") kX0 rfl 2 (by decide) rfl tyX0 tyX0_ok nmX0 rfl (ty := .int) (by decide +kernel) rfl rfl q0 he hle q d hw9 kk
theorem gf_X0_3 {X : CX} {Z : GZ} {R : Room} {cc : ByteArray} {own : String} {nL kc ks : Nat} {ws : va_W} {pc : Nat} {lv : List (Nat × Value)} {st : List Value} {ix a : Nat} {fs : List Value} {v : Value} (q0 : Nat) (he : ws[q0]? = some (a, .inr (0, fs))) (hv : fs[3]? = some v) (q : Cond.fieldLink own ix RX0 "left" "I" ∈ lw_tb) (d : decode cc pc = .ok (.getfield ix, 3)) (kk : AtK X Z R cc own nL kc ks ws (pc + 3) lv (v :: st)) : AtK X Z R cc own nL kc ks ws pc lv (.ref a :: st) := r_getf (T := TX0) (N := 4) kX0 rfl 3 (by decide) rfl q0 he hv q d kk
theorem pf_X0_3 {X : CX} {Z : GZ} {R : Room} {cc : ByteArray} {own : String} {nL kc ks : Nat} {ws : va_W} {pc : Nat} {lv : List (Nat × Value)} {st : List Value} {ix a : Nat} {fs : List Value} {x : Int32} (q0 : Nat) (he : ws[q0]? = some (a, .inr (0, fs))) (hle : 3 < fs.length) (q : Cond.fieldLink own ix RX0 "left" "I" ∈ lw_tb) (d : decode cc pc = .ok (.putfield ix, 3)) {ws' : va_W} (hw9 : ws.set q0 (a, .inr (0, fs.set 3 (.int x))) = ws') (kk : AtK X Z R cc own nL kc ks ws' (pc + 3) lv st) : AtK X Z R cc own nL kc ks ws pc lv (.int x :: .ref a :: st) := r_putf (T := TX0) (N := 4) (host := "") kX0 rfl 3 (by decide) rfl tyX0 tyX0_ok nmX0 rfl (ty := .int) (by decide +kernel) rfl rfl q0 he hle q d hw9 kk
theorem gf_X0_0 {X : CX} {Z : GZ} {R : Room} {cc : ByteArray} {own : String} {nL kc ks : Nat} {ws : va_W} {pc : Nat} {lv : List (Nat × Value)} {st : List Value} {ix a : Nat} {fs : List Value} {v : Value} (q0 : Nat) (he : ws[q0]? = some (a, .inr (0, fs))) (hv : fs[0]? = some v) (q : Cond.fieldLink own ix RX0 "words" "[I" ∈ lw_tb) (d : decode cc pc = .ok (.getfield ix, 3)) (kk : AtK X Z R cc own nL kc ks ws (pc + 3) lv (v :: st)) : AtK X Z R cc own nL kc ks ws pc lv (.ref a :: st) := r_getf (T := TX0) (N := 4) kX0 rfl 0 (by decide) rfl q0 he hv q d kk
theorem gf_X0_1 {X : CX} {Z : GZ} {R : Room} {cc : ByteArray} {own : String} {nL kc ks : Nat} {ws : va_W} {pc : Nat} {lv : List (Nat × Value)} {st : List Value} {ix a : Nat} {fs : List Value} {v : Value} (q0 : Nat) (he : ws[q0]? = some (a, .inr (0, fs))) (hv : fs[1]? = some v) (q : Cond.fieldLink own ix RX0 "erasures" "[I" ∈ lw_tb) (d : decode cc pc = .ok (.getfield ix, 3)) (kk : AtK X Z R cc own nL kc ks ws (pc + 3) lv (v :: st)) : AtK X Z R cc own nL kc ks ws pc lv (.ref a :: st) := r_getf (T := TX0) (N := 4) kX0 rfl 1 (by decide) rfl q0 he hv q d kk
theorem gf_X3_0 {X : CX} {Z : GZ} {R : Room} {cc : ByteArray} {own : String} {nL kc ks : Nat} {ws : va_W} {pc : Nat} {lv : List (Nat × Value)} {st : List Value} {ix a : Nat} {fs : List Value} {v : Value} (q0 : Nat) (he : ws[q0]? = some (a, .inr (3, fs))) (hv : fs[0]? = some v) (q : Cond.fieldLink own ix RX3 "current" "I" ∈ lw_tb) (d : decode cc pc = .ok (.getfield ix, 3)) (kk : AtK X Z R cc own nL kc ks ws (pc + 3) lv (v :: st)) : AtK X Z R cc own nL kc ks ws pc lv (.ref a :: st) := r_getf (T := TX3) (N := 6) kX3 rfl 0 (by decide) rfl q0 he hv q d kk
theorem pf_X3_0 {X : CX} {Z : GZ} {R : Room} {cc : ByteArray} {own : String} {nL kc ks : Nat} {ws : va_W} {pc : Nat} {lv : List (Nat × Value)} {st : List Value} {ix a : Nat} {fs : List Value} {x : Int32} (q0 : Nat) (he : ws[q0]? = some (a, .inr (3, fs))) (hle : 0 < fs.length) (q : Cond.fieldLink own ix RX3 "current" "I" ∈ lw_tb) (d : decode cc pc = .ok (.putfield ix, 3)) {ws' : va_W} (hw9 : ws.set q0 (a, .inr (3, fs.set 0 (.int x))) = ws') (kk : AtK X Z R cc own nL kc ks ws' (pc + 3) lv st) : AtK X Z R cc own nL kc ks ws pc lv (.int x :: .ref a :: st) := r_putf (T := TX3) (N := 6) (host := "") kX3 rfl 0 (by decide) rfl tyX3 tyX3_ok nmX3 rfl (ty := .int) (by decide +kernel) rfl rfl q0 he hle q d hw9 kk
theorem gf_X3_1 {X : CX} {Z : GZ} {R : Room} {cc : ByteArray} {own : String} {nL kc ks : Nat} {ws : va_W} {pc : Nat} {lv : List (Nat × Value)} {st : List Value} {ix a : Nat} {fs : List Value} {v : Value} (q0 : Nat) (he : ws[q0]? = some (a, .inr (3, fs))) (hv : fs[1]? = some v) (q : Cond.fieldLink own ix RX3 "next" "I" ∈ lw_tb) (d : decode cc pc = .ok (.getfield ix, 3)) (kk : AtK X Z R cc own nL kc ks ws (pc + 3) lv (v :: st)) : AtK X Z R cc own nL kc ks ws pc lv (.ref a :: st) := r_getf (T := TX3) (N := 6) kX3 rfl 1 (by decide) rfl q0 he hv q d kk
theorem pf_X3_1 {X : CX} {Z : GZ} {R : Room} {cc : ByteArray} {own : String} {nL kc ks : Nat} {ws : va_W} {pc : Nat} {lv : List (Nat × Value)} {st : List Value} {ix a : Nat} {fs : List Value} {x : Int32} (q0 : Nat) (he : ws[q0]? = some (a, .inr (3, fs))) (hle : 1 < fs.length) (q : Cond.fieldLink own ix RX3 "next" "I" ∈ lw_tb) (d : decode cc pc = .ok (.putfield ix, 3)) {ws' : va_W} (hw9 : ws.set q0 (a, .inr (3, fs.set 1 (.int x))) = ws') (kk : AtK X Z R cc own nL kc ks ws' (pc + 3) lv st) : AtK X Z R cc own nL kc ks ws pc lv (.int x :: .ref a :: st) := r_putf (T := TX3) (N := 6) (host := "") kX3 rfl 1 (by decide) rfl tyX3 tyX3_ok nmX3 rfl (ty := .int) (by decide +kernel) rfl rfl q0 he hle q d hw9 kk
theorem gf_X3_2 {X : CX} {Z : GZ} {R : Room} {cc : ByteArray} {own : String} {nL kc ks : Nat} {ws : va_W} {pc : Nat} {lv : List (Nat × Value)} {st : List Value} {ix a : Nat} {fs : List Value} {v : Value} (q0 : Nat) (he : ws[q0]? = some (a, .inr (3, fs))) (hv : fs[2]? = some v) (q : Cond.fieldLink own ix RX3 "number" "I" ∈ lw_tb) (d : decode cc pc = .ok (.getfield ix, 3)) (kk : AtK X Z R cc own nL kc ks ws (pc + 3) lv (v :: st)) : AtK X Z R cc own nL kc ks ws pc lv (.ref a :: st) := r_getf (T := TX3) (N := 6) kX3 rfl 2 (by decide) rfl q0 he hv q d kk
theorem pf_X3_2 {X : CX} {Z : GZ} {R : Room} {cc : ByteArray} {own : String} {nL kc ks : Nat} {ws : va_W} {pc : Nat} {lv : List (Nat × Value)} {st : List Value} {ix a : Nat} {fs : List Value} {x : Int32} (q0 : Nat) (he : ws[q0]? = some (a, .inr (3, fs))) (hle : 2 < fs.length) (q : Cond.fieldLink own ix RX3 "number" "I" ∈ lw_tb) (d : decode cc pc = .ok (.putfield ix, 3)) {ws' : va_W} (hw9 : ws.set q0 (a, .inr (3, fs.set 2 (.int x))) = ws') (kk : AtK X Z R cc own nL kc ks ws' (pc + 3) lv st) : AtK X Z R cc own nL kc ks ws pc lv (.int x :: .ref a :: st) := r_putf (T := TX3) (N := 6) (host := "") kX3 rfl 2 (by decide) rfl tyX3 tyX3_ok nmX3 rfl (ty := .int) (by decide +kernel) rfl rfl q0 he hle q d hw9 kk
theorem gf_X3_3 {X : CX} {Z : GZ} {R : Room} {cc : ByteArray} {own : String} {nL kc ks : Nat} {ws : va_W} {pc : Nat} {lv : List (Nat × Value)} {st : List Value} {ix a : Nat} {fs : List Value} {v : Value} (q0 : Nat) (he : ws[q0]? = some (a, .inr (3, fs))) (hv : fs[3]? = some v) (q : Cond.fieldLink own ix RX3 "sum" "I" ∈ lw_tb) (d : decode cc pc = .ok (.getfield ix, 3)) (kk : AtK X Z R cc own nL kc ks ws (pc + 3) lv (v :: st)) : AtK X Z R cc own nL kc ks ws pc lv (.ref a :: st) := r_getf (T := TX3) (N := 6) kX3 rfl 3 (by decide) rfl q0 he hv q d kk
theorem pf_X3_3 {X : CX} {Z : GZ} {R : Room} {cc : ByteArray} {own : String} {nL kc ks : Nat} {ws : va_W} {pc : Nat} {lv : List (Nat × Value)} {st : List Value} {ix a : Nat} {fs : List Value} {x : Int32} (q0 : Nat) (he : ws[q0]? = some (a, .inr (3, fs))) (hle : 3 < fs.length) (q : Cond.fieldLink own ix RX3 "sum" "I" ∈ lw_tb) (d : decode cc pc = .ok (.putfield ix, 3)) {ws' : va_W} (hw9 : ws.set q0 (a, .inr (3, fs.set 3 (.int x))) = ws') (kk : AtK X Z R cc own nL kc ks ws' (pc + 3) lv st) : AtK X Z R cc own nL kc ks ws pc lv (.int x :: .ref a :: st) := r_putf (T := TX3) (N := 6) (host := "") kX3 rfl 3 (by decide) rfl tyX3 tyX3_ok nmX3 rfl (ty := .int) (by decide +kernel) rfl rfl q0 he hle q d hw9 kk
theorem gf_X3_4 {X : CX} {Z : GZ} {R : Room} {cc : ByteArray} {own : String} {nL kc ks : Nat} {ws : va_W} {pc : Nat} {lv : List (Nat × Value)} {st : List Value} {ix a : Nat} {fs : List Value} {v : Value} (q0 : Nat) (he : ws[q0]? = some (a, .inr (3, fs))) (hv : fs[4]? = some v) (q : Cond.fieldLink own ix RX3 "tickets" "I" ∈ lw_tb) (d : decode cc pc = .ok (.getfield ix, 3)) (kk : AtK X Z R cc own nL kc ks ws (pc + 3) lv (v :: st)) : AtK X Z R cc own nL kc ks ws pc lv (.ref a :: st) := r_getf (T := TX3) (N := 6) kX3 rfl 4 (by decide) rfl q0 he hv q d kk
theorem pf_X3_4 {X : CX} {Z : GZ} {R : Room} {cc : ByteArray} {own : String} {nL kc ks : Nat} {ws : va_W} {pc : Nat} {lv : List (Nat × Value)} {st : List Value} {ix a : Nat} {fs : List Value} {x : Int32} (q0 : Nat) (he : ws[q0]? = some (a, .inr (3, fs))) (hle : 4 < fs.length) (q : Cond.fieldLink own ix RX3 "tickets" "I" ∈ lw_tb) (d : decode cc pc = .ok (.putfield ix, 3)) {ws' : va_W} (hw9 : ws.set q0 (a, .inr (3, fs.set 4 (.int x))) = ws') (kk : AtK X Z R cc own nL kc ks ws' (pc + 3) lv st) : AtK X Z R cc own nL kc ks ws pc lv (.int x :: .ref a :: st) := r_putf (T := TX3) (N := 6) (host := "") kX3 rfl 4 (by decide) rfl tyX3 tyX3_ok nmX3 rfl (ty := .int) (by decide +kernel) rfl rfl q0 he hle q d hw9 kk
theorem gf_X3_5 {X : CX} {Z : GZ} {R : Room} {cc : ByteArray} {own : String} {nL kc ks : Nat} {ws : va_W} {pc : Nat} {lv : List (Nat × Value)} {st : List Value} {ix a : Nat} {fs : List Value} {v : Value} (q0 : Nat) (he : ws[q0]? = some (a, .inr (3, fs))) (hv : fs[5]? = some v) (q : Cond.fieldLink own ix RX3 "paper" "I" ∈ lw_tb) (d : decode cc pc = .ok (.getfield ix, 3)) (kk : AtK X Z R cc own nL kc ks ws (pc + 3) lv (v :: st)) : AtK X Z R cc own nL kc ks ws pc lv (.ref a :: st) := r_getf (T := TX3) (N := 6) kX3 rfl 5 (by decide) rfl q0 he hv q d kk
theorem pf_X3_5 {X : CX} {Z : GZ} {R : Room} {cc : ByteArray} {own : String} {nL kc ks : Nat} {ws : va_W} {pc : Nat} {lv : List (Nat × Value)} {st : List Value} {ix a : Nat} {fs : List Value} {x : Int32} (q0 : Nat) (he : ws[q0]? = some (a, .inr (3, fs))) (hle : 5 < fs.length) (q : Cond.fieldLink own ix RX3 "paper" "I" ∈ lw_tb) (d : decode cc pc = .ok (.putfield ix, 3)) {ws' : va_W} (hw9 : ws.set q0 (a, .inr (3, fs.set 5 (.int x))) = ws') (kk : AtK X Z R cc own nL kc ks ws' (pc + 3) lv st) : AtK X Z R cc own nL kc ks ws pc lv (.int x :: .ref a :: st) := r_putf (T := TX3) (N := 6) (host := "") kX3 rfl 5 (by decide) rfl tyX3 tyX3_ok nmX3 rfl (ty := .int) (by decide +kernel) rfl rfl q0 he hle q d hw9 kk
theorem gf_X5_0 {X : CX} {Z : GZ} {R : Room} {cc : ByteArray} {own : String} {nL kc ks : Nat} {ws : va_W} {pc : Nat} {lv : List (Nat × Value)} {st : List Value} {ix a : Nat} {fs : List Value} {v : Value} (q0 : Nat) (he : ws[q0]? = some (a, .inr (5, fs))) (hv : fs[0]? = some v) (q : Cond.fieldLink own ix RX5 "flash" "LTicketJournal$Flash;" ∈ lw_tb) (d : decode cc pc = .ok (.getfield ix, 3)) (kk : AtK X Z R cc own nL kc ks ws (pc + 3) lv (v :: st)) : AtK X Z R cc own nL kc ks ws pc lv (.ref a :: st) := r_getf (T := TX5) (N := 7) kX5 rfl 0 (by decide) rfl q0 he hv q d kk
theorem gf_X5_1 {X : CX} {Z : GZ} {R : Room} {cc : ByteArray} {own : String} {nL kc ks : Nat} {ws : va_W} {pc : Nat} {lv : List (Nat × Value)} {st : List Value} {ix a : Nat} {fs : List Value} {v : Value} (q0 : Nat) (he : ws[q0]? = some (a, .inr (5, fs))) (hv : fs[1]? = some v) (q : Cond.fieldLink own ix RX5 "memory" "LTicketJournal$Memory;" ∈ lw_tb) (d : decode cc pc = .ok (.getfield ix, 3)) (kk : AtK X Z R cc own nL kc ks ws (pc + 3) lv (v :: st)) : AtK X Z R cc own nL kc ks ws pc lv (.ref a :: st) := r_getf (T := TX5) (N := 7) kX5 rfl 1 (by decide) rfl q0 he hv q d kk
theorem gf_X5_2 {X : CX} {Z : GZ} {R : Room} {cc : ByteArray} {own : String} {nL kc ks : Nat} {ws : va_W} {pc : Nat} {lv : List (Nat × Value)} {st : List Value} {ix a : Nat} {fs : List Value} {v : Value} (q0 : Nat) (he : ws[q0]? = some (a, .inr (5, fs))) (hv : fs[2]? = some v) (q : Cond.fieldLink own ix RX5 "prices" "[I" ∈ lw_tb) (d : decode cc pc = .ok (.getfield ix, 3)) (kk : AtK X Z R cc own nL kc ks ws (pc + 3) lv (v :: st)) : AtK X Z R cc own nL kc ks ws pc lv (.ref a :: st) := r_getf (T := TX5) (N := 7) kX5 rfl 2 (by decide) rfl q0 he hv q d kk
theorem gf_X5_3 {X : CX} {Z : GZ} {R : Room} {cc : ByteArray} {own : String} {nL kc ks : Nat} {ws : va_W} {pc : Nat} {lv : List (Nat × Value)} {st : List Value} {ix a : Nat} {fs : List Value} {v : Value} (q0 : Nat) (he : ws[q0]? = some (a, .inr (5, fs))) (hv : fs[3]? = some v) (q : Cond.fieldLink own ix RX5 "on" "Z" ∈ lw_tb) (d : decode cc pc = .ok (.getfield ix, 3)) (kk : AtK X Z R cc own nL kc ks ws (pc + 3) lv (v :: st)) : AtK X Z R cc own nL kc ks ws pc lv (.ref a :: st) := r_getf (T := TX5) (N := 7) kX5 rfl 3 (by decide) rfl q0 he hv q d kk
theorem pf_X5_3 {X : CX} {Z : GZ} {R : Room} {cc : ByteArray} {own : String} {nL kc ks : Nat} {ws : va_W} {pc : Nat} {lv : List (Nat × Value)} {st : List Value} {ix a : Nat} {fs : List Value} {x : Int32} (hz : x = 0 ∨ x = 1) (q0 : Nat) (he : ws[q0]? = some (a, .inr (5, fs))) (hle : 3 < fs.length) (q : Cond.fieldLink own ix RX5 "on" "Z" ∈ lw_tb) (d : decode cc pc = .ok (.putfield ix, 3)) {ws' : va_W} (hw9 : ws.set q0 (a, .inr (5, fs.set 3 (.int x))) = ws') (kk : AtK X Z R cc own nL kc ks ws' (pc + 3) lv st) : AtK X Z R cc own nL kc ks ws pc lv (.int x :: .ref a :: st) := r_putf (T := TX5) (N := 7) (host := "") kX5 rfl 3 (by decide) rfl tyX5 tyX5_ok nmX5 rfl (ty := .boolean) (by decide +kernel) (bzn hz).1 (bzn hz).2 q0 he hle q d hw9 kk
theorem gf_X5_4 {X : CX} {Z : GZ} {R : Room} {cc : ByteArray} {own : String} {nL kc ks : Nat} {ws : va_W} {pc : Nat} {lv : List (Nat × Value)} {st : List Value} {ix a : Nat} {fs : List Value} {v : Value} (q0 : Nat) (he : ws[q0]? = some (a, .inr (5, fs))) (hv : fs[4]? = some v) (q : Cond.fieldLink own ix RX5 "time" "I" ∈ lw_tb) (d : decode cc pc = .ok (.getfield ix, 3)) (kk : AtK X Z R cc own nL kc ks ws (pc + 3) lv (v :: st)) : AtK X Z R cc own nL kc ks ws pc lv (.ref a :: st) := r_getf (T := TX5) (N := 7) kX5 rfl 4 (by decide) rfl q0 he hv q d kk
theorem pf_X5_4 {X : CX} {Z : GZ} {R : Room} {cc : ByteArray} {own : String} {nL kc ks : Nat} {ws : va_W} {pc : Nat} {lv : List (Nat × Value)} {st : List Value} {ix a : Nat} {fs : List Value} {x : Int32} (q0 : Nat) (he : ws[q0]? = some (a, .inr (5, fs))) (hle : 4 < fs.length) (q : Cond.fieldLink own ix RX5 "time" "I" ∈ lw_tb) (d : decode cc pc = .ok (.putfield ix, 3)) {ws' : va_W} (hw9 : ws.set q0 (a, .inr (5, fs.set 4 (.int x))) = ws') (kk : AtK X Z R cc own nL kc ks ws' (pc + 3) lv st) : AtK X Z R cc own nL kc ks ws pc lv (.int x :: .ref a :: st) := r_putf (T := TX5) (N := 7) (host := "") kX5 rfl 4 (by decide) rfl tyX5 tyX5_ok nmX5 rfl (ty := .int) (by decide +kernel) rfl rfl q0 he hle q d hw9 kk
theorem gf_X5_5 {X : CX} {Z : GZ} {R : Room} {cc : ByteArray} {own : String} {nL kc ks : Nat} {ws : va_W} {pc : Nat} {lv : List (Nat × Value)} {st : List Value} {ix a : Nat} {fs : List Value} {v : Value} (q0 : Nat) (he : ws[q0]? = some (a, .inr (5, fs))) (hv : fs[5]? = some v) (q : Cond.fieldLink own ix RX5 "there" "I" ∈ lw_tb) (d : decode cc pc = .ok (.getfield ix, 3)) (kk : AtK X Z R cc own nL kc ks ws (pc + 3) lv (v :: st)) : AtK X Z R cc own nL kc ks ws pc lv (.ref a :: st) := r_getf (T := TX5) (N := 7) kX5 rfl 5 (by decide) rfl q0 he hv q d kk
theorem pf_X5_5 {X : CX} {Z : GZ} {R : Room} {cc : ByteArray} {own : String} {nL kc ks : Nat} {ws : va_W} {pc : Nat} {lv : List (Nat × Value)} {st : List Value} {ix a : Nat} {fs : List Value} {x : Int32} (q0 : Nat) (he : ws[q0]? = some (a, .inr (5, fs))) (hle : 5 < fs.length) (q : Cond.fieldLink own ix RX5 "there" "I" ∈ lw_tb) (d : decode cc pc = .ok (.putfield ix, 3)) {ws' : va_W} (hw9 : ws.set q0 (a, .inr (5, fs.set 5 (.int x))) = ws') (kk : AtK X Z R cc own nL kc ks ws' (pc + 3) lv st) : AtK X Z R cc own nL kc ks ws pc lv (.int x :: .ref a :: st) := r_putf (T := TX5) (N := 7) (host := "") kX5 rfl 5 (by decide) rfl tyX5 tyX5_ok nmX5 rfl (ty := .int) (by decide +kernel) rfl rfl q0 he hle q d hw9 kk
theorem gf_X5_6 {X : CX} {Z : GZ} {R : Room} {cc : ByteArray} {own : String} {nL kc ks : Nat} {ws : va_W} {pc : Nat} {lv : List (Nat × Value)} {st : List Value} {ix a : Nat} {fs : List Value} {v : Value} (q0 : Nat) (he : ws[q0]? = some (a, .inr (5, fs))) (hv : fs[6]? = some v) (q : Cond.fieldLink own ix RX5 "printed" "I" ∈ lw_tb) (d : decode cc pc = .ok (.getfield ix, 3)) (kk : AtK X Z R cc own nL kc ks ws (pc + 3) lv (v :: st)) : AtK X Z R cc own nL kc ks ws pc lv (.ref a :: st) := r_getf (T := TX5) (N := 7) kX5 rfl 6 (by decide) rfl q0 he hv q d kk
theorem pf_X5_6 {X : CX} {Z : GZ} {R : Room} {cc : ByteArray} {own : String} {nL kc ks : Nat} {ws : va_W} {pc : Nat} {lv : List (Nat × Value)} {st : List Value} {ix a : Nat} {fs : List Value} {x : Int32} (q0 : Nat) (he : ws[q0]? = some (a, .inr (5, fs))) (hle : 6 < fs.length) (q : Cond.fieldLink own ix RX5 "printed" "I" ∈ lw_tb) (d : decode cc pc = .ok (.putfield ix, 3)) {ws' : va_W} (hw9 : ws.set q0 (a, .inr (5, fs.set 6 (.int x))) = ws') (kk : AtK X Z R cc own nL kc ks ws' (pc + 3) lv st) : AtK X Z R cc own nL kc ks ws pc lv (.int x :: .ref a :: st) := r_putf (T := TX5) (N := 7) (host := "") kX5 rfl 6 (by decide) rfl tyX5 tyX5_ok nmX5 rfl (ty := .int) (by decide +kernel) rfl rfl q0 he hle q d hw9 kk
theorem gfN_X3_3 {X : CX} {Z : GZ} {R : Room} {cc : ByteArray} {own : String} {nL kc ks : Nat} {ws : va_W} {pc : Nat} {lv : List (Nat × Value)} {st : List Value} {ix a : Nat} {fs : List Value} {host : String} {v : Value} (q0 : Nat) (he : ws[q0]? = some (a, .inr (3, fs))) (hv : fs[3]? = some v) (q : Cond.fieldLinkNest own ix RX3 "sum" "I" host ∈ lw_ns) (d : decode cc pc = .ok (.getfield ix, 3)) (kk : AtK X Z R cc own nL kc ks ws (pc + 3) lv (v :: st)) : AtK X Z R cc own nL kc ks ws pc lv (.ref a :: st) := r_getfN (T := TX3) (N := 6) kX3 rfl 3 (by decide) rfl q0 he hv q d kk
theorem gfN_X3_5 {X : CX} {Z : GZ} {R : Room} {cc : ByteArray} {own : String} {nL kc ks : Nat} {ws : va_W} {pc : Nat} {lv : List (Nat × Value)} {st : List Value} {ix a : Nat} {fs : List Value} {host : String} {v : Value} (q0 : Nat) (he : ws[q0]? = some (a, .inr (3, fs))) (hv : fs[5]? = some v) (q : Cond.fieldLinkNest own ix RX3 "paper" "I" host ∈ lw_ns) (d : decode cc pc = .ok (.getfield ix, 3)) (kk : AtK X Z R cc own nL kc ks ws (pc + 3) lv (v :: st)) : AtK X Z R cc own nL kc ks ws pc lv (.ref a :: st) := r_getfN (T := TX3) (N := 6) kX3 rfl 5 (by decide) rfl q0 he hv q d kk
theorem pfN_X3_0 {X : CX} {Z : GZ} {R : Room} {cc : ByteArray} {own : String} {nL kc ks : Nat} {ws : va_W} {pc : Nat} {lv : List (Nat × Value)} {st : List Value} {ix a : Nat} {fs : List Value} {host : String} {x : Int32} (q0 : Nat) (he : ws[q0]? = some (a, .inr (3, fs))) (hle : 0 < fs.length) (q : Cond.fieldLinkNest own ix RX3 "current" "I" host ∈ lw_ns) (d : decode cc pc = .ok (.putfield ix, 3)) {ws' : va_W} (hw9 : ws.set q0 (a, .inr (3, fs.set 0 (.int x))) = ws') (kk : AtK X Z R cc own nL kc ks ws' (pc + 3) lv st) : AtK X Z R cc own nL kc ks ws pc lv (.int x :: .ref a :: st) := r_putfN (T := TX3) (N := 6) (host := host) kX3 rfl 0 (by decide) rfl tyX3 tyX3_ok nmX3 rfl (ty := .int) (by decide +kernel) rfl rfl q0 he hle q d hw9 kk
theorem pfN_X3_1 {X : CX} {Z : GZ} {R : Room} {cc : ByteArray} {own : String} {nL kc ks : Nat} {ws : va_W} {pc : Nat} {lv : List (Nat × Value)} {st : List Value} {ix a : Nat} {fs : List Value} {host : String} {x : Int32} (q0 : Nat) (he : ws[q0]? = some (a, .inr (3, fs))) (hle : 1 < fs.length) (q : Cond.fieldLinkNest own ix RX3 "next" "I" host ∈ lw_ns) (d : decode cc pc = .ok (.putfield ix, 3)) {ws' : va_W} (hw9 : ws.set q0 (a, .inr (3, fs.set 1 (.int x))) = ws') (kk : AtK X Z R cc own nL kc ks ws' (pc + 3) lv st) : AtK X Z R cc own nL kc ks ws pc lv (.int x :: .ref a :: st) := r_putfN (T := TX3) (N := 6) (host := host) kX3 rfl 1 (by decide) rfl tyX3 tyX3_ok nmX3 rfl (ty := .int) (by decide +kernel) rfl rfl q0 he hle q d hw9 kk
theorem gfN_X3_0 {X : CX} {Z : GZ} {R : Room} {cc : ByteArray} {own : String} {nL kc ks : Nat} {ws : va_W} {pc : Nat} {lv : List (Nat × Value)} {st : List Value} {ix a : Nat} {fs : List Value} {host : String} {v : Value} (q0 : Nat) (he : ws[q0]? = some (a, .inr (3, fs))) (hv : fs[0]? = some v) (q : Cond.fieldLinkNest own ix RX3 "current" "I" host ∈ lw_ns) (d : decode cc pc = .ok (.getfield ix, 3)) (kk : AtK X Z R cc own nL kc ks ws (pc + 3) lv (v :: st)) : AtK X Z R cc own nL kc ks ws pc lv (.ref a :: st) := r_getfN (T := TX3) (N := 6) kX3 rfl 0 (by decide) rfl q0 he hv q d kk
theorem gfN_X3_4 {X : CX} {Z : GZ} {R : Room} {cc : ByteArray} {own : String} {nL kc ks : Nat} {ws : va_W} {pc : Nat} {lv : List (Nat × Value)} {st : List Value} {ix a : Nat} {fs : List Value} {host : String} {v : Value} (q0 : Nat) (he : ws[q0]? = some (a, .inr (3, fs))) (hv : fs[4]? = some v) (q : Cond.fieldLinkNest own ix RX3 "tickets" "I" host ∈ lw_ns) (d : decode cc pc = .ok (.getfield ix, 3)) (kk : AtK X Z R cc own nL kc ks ws (pc + 3) lv (v :: st)) : AtK X Z R cc own nL kc ks ws pc lv (.ref a :: st) := r_getfN (T := TX3) (N := 6) kX3 rfl 4 (by decide) rfl q0 he hv q d kk
theorem gfN_X3_2 {X : CX} {Z : GZ} {R : Room} {cc : ByteArray} {own : String} {nL kc ks : Nat} {ws : va_W} {pc : Nat} {lv : List (Nat × Value)} {st : List Value} {ix a : Nat} {fs : List Value} {host : String} {v : Value} (q0 : Nat) (he : ws[q0]? = some (a, .inr (3, fs))) (hv : fs[2]? = some v) (q : Cond.fieldLinkNest own ix RX3 "number" "I" host ∈ lw_ns) (d : decode cc pc = .ok (.getfield ix, 3)) (kk : AtK X Z R cc own nL kc ks ws (pc + 3) lv (v :: st)) : AtK X Z R cc own nL kc ks ws pc lv (.ref a :: st) := r_getfN (T := TX3) (N := 6) kX3 rfl 2 (by decide) rfl q0 he hv q d kk
theorem gfN_X3_1 {X : CX} {Z : GZ} {R : Room} {cc : ByteArray} {own : String} {nL kc ks : Nat} {ws : va_W} {pc : Nat} {lv : List (Nat × Value)} {st : List Value} {ix a : Nat} {fs : List Value} {host : String} {v : Value} (q0 : Nat) (he : ws[q0]? = some (a, .inr (3, fs))) (hv : fs[1]? = some v) (q : Cond.fieldLinkNest own ix RX3 "next" "I" host ∈ lw_ns) (d : decode cc pc = .ok (.getfield ix, 3)) (kk : AtK X Z R cc own nL kc ks ws (pc + 3) lv (v :: st)) : AtK X Z R cc own nL kc ks ws pc lv (.ref a :: st) := r_getfN (T := TX3) (N := 6) kX3 rfl 1 (by decide) rfl q0 he hv q d kk
theorem gf_X2_1 {X : CX} {Z : GZ} {R : Room} {cc : ByteArray} {own : String} {nL kc ks : Nat} {ws : va_W} {pc : Nat} {lv : List (Nat × Value)} {st : List Value} {ix a : Nat} {fs : List Value} {v : Value} (q0 : Nat) (he : ws[q0]? = some (a, .inr (2, fs))) (hv : fs[1]? = some v) (q : Cond.fieldLink own ix RX2 "count" "I" ∈ lw_tb) (d : decode cc pc = .ok (.getfield ix, 3)) (kk : AtK X Z R cc own nL kc ks ws (pc + 3) lv (v :: st)) : AtK X Z R cc own nL kc ks ws pc lv (.ref a :: st) := r_getf (T := TX2) (N := 2) kX2 rfl 1 (by decide) rfl q0 he hv q d kk
theorem gf_X2_0 {X : CX} {Z : GZ} {R : Room} {cc : ByteArray} {own : String} {nL kc ks : Nat} {ws : va_W} {pc : Nat} {lv : List (Nat × Value)} {st : List Value} {ix a : Nat} {fs : List Value} {v : Value} (q0 : Nat) (he : ws[q0]? = some (a, .inr (2, fs))) (hv : fs[0]? = some v) (q : Cond.fieldLink own ix RX2 "details" "[I" ∈ lw_tb) (d : decode cc pc = .ok (.getfield ix, 3)) (kk : AtK X Z R cc own nL kc ks ws (pc + 3) lv (v :: st)) : AtK X Z R cc own nL kc ks ws pc lv (.ref a :: st) := r_getf (T := TX2) (N := 2) kX2 rfl 0 (by decide) rfl q0 he hv q d kk
theorem pf_X2_1 {X : CX} {Z : GZ} {R : Room} {cc : ByteArray} {own : String} {nL kc ks : Nat} {ws : va_W} {pc : Nat} {lv : List (Nat × Value)} {st : List Value} {ix a : Nat} {fs : List Value} {x : Int32} (q0 : Nat) (he : ws[q0]? = some (a, .inr (2, fs))) (hle : 1 < fs.length) (q : Cond.fieldLink own ix RX2 "count" "I" ∈ lw_tb) (d : decode cc pc = .ok (.putfield ix, 3)) {ws' : va_W} (hw9 : ws.set q0 (a, .inr (2, fs.set 1 (.int x))) = ws') (kk : AtK X Z R cc own nL kc ks ws' (pc + 3) lv st) : AtK X Z R cc own nL kc ks ws pc lv (.int x :: .ref a :: st) := r_putf (T := TX2) (N := 2) (host := "") kX2 rfl 1 (by decide) rfl tyX2 tyX2_ok nmX2 rfl (ty := .int) (by decide +kernel) rfl rfl q0 he hle q d hw9 kk
theorem gf_X7_0 {X : CX} {Z : GZ} {R : Room} {cc : ByteArray} {own : String} {nL kc ks : Nat} {ws : va_W} {pc : Nat} {lv : List (Nat × Value)} {st : List Value} {ix a : Nat} {fs : List Value} {v : Value} (q0 : Nat) (he : ws[q0]? = some (a, .inr (7, fs))) (hv : fs[0]? = some v) (q : Cond.fieldLink own ix RX7 "w" "[I" ∈ lw_tb) (d : decode cc pc = .ok (.getfield ix, 3)) (kk : AtK X Z R cc own nL kc ks ws (pc + 3) lv (v :: st)) : AtK X Z R cc own nL kc ks ws pc lv (.ref a :: st) := r_getf (T := TX7) (N := 9) kX7 rfl 0 (by decide) rfl q0 he hv q d kk
theorem gf_X7_2 {X : CX} {Z : GZ} {R : Room} {cc : ByteArray} {own : String} {nL kc ks : Nat} {ws : va_W} {pc : Nat} {lv : List (Nat × Value)} {st : List Value} {ix a : Nat} {fs : List Value} {v : Value} (q0 : Nat) (he : ws[q0]? = some (a, .inr (7, fs))) (hv : fs[2]? = some v) (q : Cond.fieldLink own ix RX7 "changes" "I" ∈ lw_tb) (d : decode cc pc = .ok (.getfield ix, 3)) (kk : AtK X Z R cc own nL kc ks ws (pc + 3) lv (v :: st)) : AtK X Z R cc own nL kc ks ws pc lv (.ref a :: st) := r_getf (T := TX7) (N := 9) kX7 rfl 2 (by decide) rfl q0 he hv q d kk
theorem pf_X7_2 {X : CX} {Z : GZ} {R : Room} {cc : ByteArray} {own : String} {nL kc ks : Nat} {ws : va_W} {pc : Nat} {lv : List (Nat × Value)} {st : List Value} {ix a : Nat} {fs : List Value} {x : Int32} (q0 : Nat) (he : ws[q0]? = some (a, .inr (7, fs))) (hle : 2 < fs.length) (q : Cond.fieldLink own ix RX7 "changes" "I" ∈ lw_tb) (d : decode cc pc = .ok (.putfield ix, 3)) {ws' : va_W} (hw9 : ws.set q0 (a, .inr (7, fs.set 2 (.int x))) = ws') (kk : AtK X Z R cc own nL kc ks ws' (pc + 3) lv st) : AtK X Z R cc own nL kc ks ws pc lv (.int x :: .ref a :: st) := r_putf (T := TX7) (N := 9) (host := "") kX7 rfl 2 (by decide) rfl tyX7 tyX7_ok nmX7 rfl (ty := .int) (by decide +kernel) rfl rfl q0 he hle q d hw9 kk
theorem gf_X7_1 {X : CX} {Z : GZ} {R : Room} {cc : ByteArray} {own : String} {nL kc ks : Nat} {ws : va_W} {pc : Nat} {lv : List (Nat × Value)} {st : List Value} {ix a : Nat} {fs : List Value} {v : Value} (q0 : Nat) (he : ws[q0]? = some (a, .inr (7, fs))) (hv : fs[1]? = some v) (q : Cond.fieldLink own ix RX7 "past" "[I" ∈ lw_tb) (d : decode cc pc = .ok (.getfield ix, 3)) (kk : AtK X Z R cc own nL kc ks ws (pc + 3) lv (v :: st)) : AtK X Z R cc own nL kc ks ws pc lv (.ref a :: st) := r_getf (T := TX7) (N := 9) kX7 rfl 1 (by decide) rfl q0 he hv q d kk
theorem gf_X7_6 {X : CX} {Z : GZ} {R : Room} {cc : ByteArray} {own : String} {nL kc ks : Nat} {ws : va_W} {pc : Nat} {lv : List (Nat × Value)} {st : List Value} {ix a : Nat} {fs : List Value} {v : Value} (q0 : Nat) (he : ws[q0]? = some (a, .inr (7, fs))) (hv : fs[6]? = some v) (q : Cond.fieldLink own ix RX7 "recordBlock" "[I" ∈ lw_tb) (d : decode cc pc = .ok (.getfield ix, 3)) (kk : AtK X Z R cc own nL kc ks ws (pc + 3) lv (v :: st)) : AtK X Z R cc own nL kc ks ws pc lv (.ref a :: st) := r_getf (T := TX7) (N := 9) kX7 rfl 6 (by decide) rfl q0 he hv q d kk
theorem gf_X7_8 {X : CX} {Z : GZ} {R : Room} {cc : ByteArray} {own : String} {nL kc ks : Nat} {ws : va_W} {pc : Nat} {lv : List (Nat × Value)} {st : List Value} {ix a : Nat} {fs : List Value} {v : Value} (q0 : Nat) (he : ws[q0]? = some (a, .inr (7, fs))) (hv : fs[8]? = some v) (q : Cond.fieldLink own ix RX7 "many" "I" ∈ lw_tb) (d : decode cc pc = .ok (.getfield ix, 3)) (kk : AtK X Z R cc own nL kc ks ws (pc + 3) lv (v :: st)) : AtK X Z R cc own nL kc ks ws pc lv (.ref a :: st) := r_getf (T := TX7) (N := 9) kX7 rfl 8 (by decide) rfl q0 he hv q d kk
theorem gf_X7_7 {X : CX} {Z : GZ} {R : Room} {cc : ByteArray} {own : String} {nL kc ks : Nat} {ws : va_W} {pc : Nat} {lv : List (Nat × Value)} {st : List Value} {ix a : Nat} {fs : List Value} {v : Value} (q0 : Nat) (he : ws[q0]? = some (a, .inr (7, fs))) (hv : fs[7]? = some v) (q : Cond.fieldLink own ix RX7 "recordPlace" "[I" ∈ lw_tb) (d : decode cc pc = .ok (.getfield ix, 3)) (kk : AtK X Z R cc own nL kc ks ws (pc + 3) lv (v :: st)) : AtK X Z R cc own nL kc ks ws pc lv (.ref a :: st) := r_getf (T := TX7) (N := 9) kX7 rfl 7 (by decide) rfl q0 he hv q d kk
theorem pf_X7_8 {X : CX} {Z : GZ} {R : Room} {cc : ByteArray} {own : String} {nL kc ks : Nat} {ws : va_W} {pc : Nat} {lv : List (Nat × Value)} {st : List Value} {ix a : Nat} {fs : List Value} {x : Int32} (q0 : Nat) (he : ws[q0]? = some (a, .inr (7, fs))) (hle : 8 < fs.length) (q : Cond.fieldLink own ix RX7 "many" "I" ∈ lw_tb) (d : decode cc pc = .ok (.putfield ix, 3)) {ws' : va_W} (hw9 : ws.set q0 (a, .inr (7, fs.set 8 (.int x))) = ws') (kk : AtK X Z R cc own nL kc ks ws' (pc + 3) lv st) : AtK X Z R cc own nL kc ks ws pc lv (.int x :: .ref a :: st) := r_putf (T := TX7) (N := 9) (host := "") kX7 rfl 8 (by decide) rfl tyX7 tyX7_ok nmX7 rfl (ty := .int) (by decide +kernel) rfl rfl q0 he hle q d hw9 kk
theorem gf_X7_5 {X : CX} {Z : GZ} {R : Room} {cc : ByteArray} {own : String} {nL kc ks : Nat} {ws : va_W} {pc : Nat} {lv : List (Nat × Value)} {st : List Value} {ix a : Nat} {fs : List Value} {v : Value} (q0 : Nat) (he : ws[q0]? = some (a, .inr (7, fs))) (hv : fs[5]? = some v) (q : Cond.fieldLink own ix RX7 "aside" "[I" ∈ lw_tb) (d : decode cc pc = .ok (.getfield ix, 3)) (kk : AtK X Z R cc own nL kc ks ws (pc + 3) lv (v :: st)) : AtK X Z R cc own nL kc ks ws pc lv (.ref a :: st) := r_getf (T := TX7) (N := 9) kX7 rfl 5 (by decide) rfl q0 he hv q d kk
theorem gf_X7_4 {X : CX} {Z : GZ} {R : Room} {cc : ByteArray} {own : String} {nL kc ks : Nat} {ws : va_W} {pc : Nat} {lv : List (Nat × Value)} {st : List Value} {ix a : Nat} {fs : List Value} {v : Value} (q0 : Nat) (he : ws[q0]? = some (a, .inr (7, fs))) (hv : fs[4]? = some v) (q : Cond.fieldLink own ix RX7 "isKept" "[I" ∈ lw_tb) (d : decode cc pc = .ok (.getfield ix, 3)) (kk : AtK X Z R cc own nL kc ks ws (pc + 3) lv (v :: st)) : AtK X Z R cc own nL kc ks ws pc lv (.ref a :: st) := r_getf (T := TX7) (N := 9) kX7 rfl 4 (by decide) rfl q0 he hv q d kk
theorem gf_X7_3 {X : CX} {Z : GZ} {R : Room} {cc : ByteArray} {own : String} {nL kc ks : Nat} {ws : va_W} {pc : Nat} {lv : List (Nat × Value)} {st : List Value} {ix a : Nat} {fs : List Value} {v : Value} (q0 : Nat) (he : ws[q0]? = some (a, .inr (7, fs))) (hv : fs[3]? = some v) (q : Cond.fieldLink own ix RX7 "images" "[I" ∈ lw_tb) (d : decode cc pc = .ok (.getfield ix, 3)) (kk : AtK X Z R cc own nL kc ks ws (pc + 3) lv (v :: st)) : AtK X Z R cc own nL kc ks ws pc lv (.ref a :: st) := r_getf (T := TX7) (N := 9) kX7 rfl 3 (by decide) rfl q0 he hv q d kk
theorem gf_X4_0 {X : CX} {Z : GZ} {R : Room} {cc : ByteArray} {own : String} {nL kc ks : Nat} {ws : va_W} {pc : Nat} {lv : List (Nat × Value)} {st : List Value} {ix a : Nat} {fs : List Value} {v : Value} (q0 : Nat) (he : ws[q0]? = some (a, .inr (4, fs))) (hv : fs[0]? = some v) (q : Cond.fieldLink own ix RX4 "states" "[LTicketJournal$Printer;" ∈ lw_tb) (d : decode cc pc = .ok (.getfield ix, 3)) (kk : AtK X Z R cc own nL kc ks ws (pc + 3) lv (v :: st)) : AtK X Z R cc own nL kc ks ws pc lv (.ref a :: st) := r_getf (T := TX4) (N := 3) kX4 rfl 0 (by decide) rfl q0 he hv q d kk
theorem gf_X4_1 {X : CX} {Z : GZ} {R : Room} {cc : ByteArray} {own : String} {nL kc ks : Nat} {ws : va_W} {pc : Nat} {lv : List (Nat × Value)} {st : List Value} {ix a : Nat} {fs : List Value} {v : Value} (q0 : Nat) (he : ws[q0]? = some (a, .inr (4, fs))) (hv : fs[1]? = some v) (q : Cond.fieldLink own ix RX4 "oldest" "I" ∈ lw_tb) (d : decode cc pc = .ok (.getfield ix, 3)) (kk : AtK X Z R cc own nL kc ks ws (pc + 3) lv (v :: st)) : AtK X Z R cc own nL kc ks ws pc lv (.ref a :: st) := r_getf (T := TX4) (N := 3) kX4 rfl 1 (by decide) rfl q0 he hv q d kk
theorem gf_X4_2 {X : CX} {Z : GZ} {R : Room} {cc : ByteArray} {own : String} {nL kc ks : Nat} {ws : va_W} {pc : Nat} {lv : List (Nat × Value)} {st : List Value} {ix a : Nat} {fs : List Value} {v : Value} (q0 : Nat) (he : ws[q0]? = some (a, .inr (4, fs))) (hv : fs[2]? = some v) (q : Cond.fieldLink own ix RX4 "size" "I" ∈ lw_tb) (d : decode cc pc = .ok (.getfield ix, 3)) (kk : AtK X Z R cc own nL kc ks ws (pc + 3) lv (v :: st)) : AtK X Z R cc own nL kc ks ws pc lv (.ref a :: st) := r_getf (T := TX4) (N := 3) kX4 rfl 2 (by decide) rfl q0 he hv q d kk
theorem pf_X4_2 {X : CX} {Z : GZ} {R : Room} {cc : ByteArray} {own : String} {nL kc ks : Nat} {ws : va_W} {pc : Nat} {lv : List (Nat × Value)} {st : List Value} {ix a : Nat} {fs : List Value} {x : Int32} (q0 : Nat) (he : ws[q0]? = some (a, .inr (4, fs))) (hle : 2 < fs.length) (q : Cond.fieldLink own ix RX4 "size" "I" ∈ lw_tb) (d : decode cc pc = .ok (.putfield ix, 3)) {ws' : va_W} (hw9 : ws.set q0 (a, .inr (4, fs.set 2 (.int x))) = ws') (kk : AtK X Z R cc own nL kc ks ws' (pc + 3) lv st) : AtK X Z R cc own nL kc ks ws pc lv (.int x :: .ref a :: st) := r_putf (T := TX4) (N := 3) (host := "") kX4 rfl 2 (by decide) rfl tyX4 tyX4_ok nmX4 rfl (ty := .int) (by decide +kernel) rfl rfl q0 he hle q d hw9 kk
theorem pf_X4_1 {X : CX} {Z : GZ} {R : Room} {cc : ByteArray} {own : String} {nL kc ks : Nat} {ws : va_W} {pc : Nat} {lv : List (Nat × Value)} {st : List Value} {ix a : Nat} {fs : List Value} {x : Int32} (q0 : Nat) (he : ws[q0]? = some (a, .inr (4, fs))) (hle : 1 < fs.length) (q : Cond.fieldLink own ix RX4 "oldest" "I" ∈ lw_tb) (d : decode cc pc = .ok (.putfield ix, 3)) {ws' : va_W} (hw9 : ws.set q0 (a, .inr (4, fs.set 1 (.int x))) = ws') (kk : AtK X Z R cc own nL kc ks ws' (pc + 3) lv st) : AtK X Z R cc own nL kc ks ws pc lv (.int x :: .ref a :: st) := r_putf (T := TX4) (N := 3) (host := "") kX4 rfl 1 (by decide) rfl tyX4 tyX4_ok nmX4 rfl (ty := .int) (by decide +kernel) rfl rfl q0 he hle q d hw9 kk
theorem gf_X1_0 {X : CX} {Z : GZ} {R : Room} {cc : ByteArray} {own : String} {nL kc ks : Nat} {ws : va_W} {pc : Nat} {lv : List (Nat × Value)} {st : List Value} {ix a : Nat} {fs : List Value} {v : Value} (q0 : Nat) (he : ws[q0]? = some (a, .inr (1, fs))) (hv : fs[0]? = some v) (q : Cond.fieldLink own ix RX1 "state" "LTicketJournal$Printer;" ∈ lw_tb) (d : decode cc pc = .ok (.getfield ix, 3)) (kk : AtK X Z R cc own nL kc ks ws (pc + 3) lv (v :: st)) : AtK X Z R cc own nL kc ks ws pc lv (.ref a :: st) := r_getf (T := TX1) (N := 2) kX1 rfl 0 (by decide) rfl q0 he hv q d kk
theorem pf_X1_1 {X : CX} {Z : GZ} {R : Room} {cc : ByteArray} {own : String} {nL kc ks : Nat} {ws : va_W} {pc : Nat} {lv : List (Nat × Value)} {st : List Value} {ix a : Nat} {fs : List Value} {x : Int32} (hz : x = 0 ∨ x = 1) (q0 : Nat) (he : ws[q0]? = some (a, .inr (1, fs))) (hle : 1 < fs.length) (q : Cond.fieldLink own ix RX1 "filled" "Z" ∈ lw_tb) (d : decode cc pc = .ok (.putfield ix, 3)) {ws' : va_W} (hw9 : ws.set q0 (a, .inr (1, fs.set 1 (.int x))) = ws') (kk : AtK X Z R cc own nL kc ks ws' (pc + 3) lv st) : AtK X Z R cc own nL kc ks ws pc lv (.int x :: .ref a :: st) := r_putf (T := TX1) (N := 2) (host := "") kX1 rfl 1 (by decide) rfl tyX1 tyX1_ok nmX1 rfl (ty := .boolean) (by decide +kernel) (bzn hz).1 (bzn hz).2 q0 he hle q d hw9 kk
theorem gf_X6_4 {X : CX} {Z : GZ} {R : Room} {cc : ByteArray} {own : String} {nL kc ks : Nat} {ws : va_W} {pc : Nat} {lv : List (Nat × Value)} {st : List Value} {ix a : Nat} {fs : List Value} {v : Value} (q0 : Nat) (he : ws[q0]? = some (a, .inr (6, fs))) (hv : fs[4]? = some v) (q : Cond.fieldLink own ix RX6 "images" "[LTicketJournal$Image;" ∈ lw_tb) (d : decode cc pc = .ok (.getfield ix, 3)) (kk : AtK X Z R cc own nL kc ks ws (pc + 3) lv (v :: st)) : AtK X Z R cc own nL kc ks ws pc lv (.ref a :: st) := r_getf (T := TX6) (N := 5) kX6 rfl 4 (by decide) rfl q0 he hv q d kk
theorem gf_X6_0 {X : CX} {Z : GZ} {R : Room} {cc : ByteArray} {own : String} {nL kc ks : Nat} {ws : va_W} {pc : Nat} {lv : List (Nat × Value)} {st : List Value} {ix a : Nat} {fs : List Value} {v : Value} (q0 : Nat) (he : ws[q0]? = some (a, .inr (6, fs))) (hv : fs[0]? = some v) (q : Cond.fieldLink own ix RX6 "present" "LTicketJournal$Printer;" ∈ lw_tb) (d : decode cc pc = .ok (.getfield ix, 3)) (kk : AtK X Z R cc own nL kc ks ws (pc + 3) lv (v :: st)) : AtK X Z R cc own nL kc ks ws pc lv (.ref a :: st) := r_getf (T := TX6) (N := 5) kX6 rfl 0 (by decide) rfl q0 he hv q d kk
theorem gfN_X5_0 {X : CX} {Z : GZ} {R : Room} {cc : ByteArray} {own : String} {nL kc ks : Nat} {ws : va_W} {pc : Nat} {lv : List (Nat × Value)} {st : List Value} {ix a : Nat} {fs : List Value} {host : String} {v : Value} (q0 : Nat) (he : ws[q0]? = some (a, .inr (5, fs))) (hv : fs[0]? = some v) (q : Cond.fieldLinkNest own ix RX5 "flash" "LTicketJournal$Flash;" host ∈ lw_ns) (d : decode cc pc = .ok (.getfield ix, 3)) (kk : AtK X Z R cc own nL kc ks ws (pc + 3) lv (v :: st)) : AtK X Z R cc own nL kc ks ws pc lv (.ref a :: st) := r_getfN (T := TX5) (N := 7) kX5 rfl 0 (by decide) rfl q0 he hv q d kk
theorem gfN_X5_3 {X : CX} {Z : GZ} {R : Room} {cc : ByteArray} {own : String} {nL kc ks : Nat} {ws : va_W} {pc : Nat} {lv : List (Nat × Value)} {st : List Value} {ix a : Nat} {fs : List Value} {host : String} {v : Value} (q0 : Nat) (he : ws[q0]? = some (a, .inr (5, fs))) (hv : fs[3]? = some v) (q : Cond.fieldLinkNest own ix RX5 "on" "Z" host ∈ lw_ns) (d : decode cc pc = .ok (.getfield ix, 3)) (kk : AtK X Z R cc own nL kc ks ws (pc + 3) lv (v :: st)) : AtK X Z R cc own nL kc ks ws pc lv (.ref a :: st) := r_getfN (T := TX5) (N := 7) kX5 rfl 3 (by decide) rfl q0 he hv q d kk
theorem gfN_X5_1 {X : CX} {Z : GZ} {R : Room} {cc : ByteArray} {own : String} {nL kc ks : Nat} {ws : va_W} {pc : Nat} {lv : List (Nat × Value)} {st : List Value} {ix a : Nat} {fs : List Value} {host : String} {v : Value} (q0 : Nat) (he : ws[q0]? = some (a, .inr (5, fs))) (hv : fs[1]? = some v) (q : Cond.fieldLinkNest own ix RX5 "memory" "LTicketJournal$Memory;" host ∈ lw_ns) (d : decode cc pc = .ok (.getfield ix, 3)) (kk : AtK X Z R cc own nL kc ks ws (pc + 3) lv (v :: st)) : AtK X Z R cc own nL kc ks ws pc lv (.ref a :: st) := r_getfN (T := TX5) (N := 7) kX5 rfl 1 (by decide) rfl q0 he hv q d kk
theorem gfN_X5_4 {X : CX} {Z : GZ} {R : Room} {cc : ByteArray} {own : String} {nL kc ks : Nat} {ws : va_W} {pc : Nat} {lv : List (Nat × Value)} {st : List Value} {ix a : Nat} {fs : List Value} {host : String} {v : Value} (q0 : Nat) (he : ws[q0]? = some (a, .inr (5, fs))) (hv : fs[4]? = some v) (q : Cond.fieldLinkNest own ix RX5 "time" "I" host ∈ lw_ns) (d : decode cc pc = .ok (.getfield ix, 3)) (kk : AtK X Z R cc own nL kc ks ws (pc + 3) lv (v :: st)) : AtK X Z R cc own nL kc ks ws pc lv (.ref a :: st) := r_getfN (T := TX5) (N := 7) kX5 rfl 4 (by decide) rfl q0 he hv q d kk
theorem gfN_X5_5 {X : CX} {Z : GZ} {R : Room} {cc : ByteArray} {own : String} {nL kc ks : Nat} {ws : va_W} {pc : Nat} {lv : List (Nat × Value)} {st : List Value} {ix a : Nat} {fs : List Value} {host : String} {v : Value} (q0 : Nat) (he : ws[q0]? = some (a, .inr (5, fs))) (hv : fs[5]? = some v) (q : Cond.fieldLinkNest own ix RX5 "there" "I" host ∈ lw_ns) (d : decode cc pc = .ok (.getfield ix, 3)) (kk : AtK X Z R cc own nL kc ks ws (pc + 3) lv (v :: st)) : AtK X Z R cc own nL kc ks ws pc lv (.ref a :: st) := r_getfN (T := TX5) (N := 7) kX5 rfl 5 (by decide) rfl q0 he hv q d kk
theorem gfN_X5_6 {X : CX} {Z : GZ} {R : Room} {cc : ByteArray} {own : String} {nL kc ks : Nat} {ws : va_W} {pc : Nat} {lv : List (Nat × Value)} {st : List Value} {ix a : Nat} {fs : List Value} {host : String} {v : Value} (q0 : Nat) (he : ws[q0]? = some (a, .inr (5, fs))) (hv : fs[6]? = some v) (q : Cond.fieldLinkNest own ix RX5 "printed" "I" host ∈ lw_ns) (d : decode cc pc = .ok (.getfield ix, 3)) (kk : AtK X Z R cc own nL kc ks ws (pc + 3) lv (v :: st)) : AtK X Z R cc own nL kc ks ws pc lv (.ref a :: st) := r_getfN (T := TX5) (N := 7) kX5 rfl 6 (by decide) rfl q0 he hv q d kk
theorem gfN_X0_2 {X : CX} {Z : GZ} {R : Room} {cc : ByteArray} {own : String} {nL kc ks : Nat} {ws : va_W} {pc : Nat} {lv : List (Nat × Value)} {st : List Value} {ix a : Nat} {fs : List Value} {host : String} {v : Value} (q0 : Nat) (he : ws[q0]? = some (a, .inr (0, fs))) (hv : fs[2]? = some v) (q : Cond.fieldLinkNest own ix RX0 "done" "I" host ∈ lw_ns) (d : decode cc pc = .ok (.getfield ix, 3)) (kk : AtK X Z R cc own nL kc ks ws (pc + 3) lv (v :: st)) : AtK X Z R cc own nL kc ks ws pc lv (.ref a :: st) := r_getfN (T := TX0) (N := 4) kX0 rfl 2 (by decide) rfl q0 he hv q d kk
theorem gfN_X0_3 {X : CX} {Z : GZ} {R : Room} {cc : ByteArray} {own : String} {nL kc ks : Nat} {ws : va_W} {pc : Nat} {lv : List (Nat × Value)} {st : List Value} {ix a : Nat} {fs : List Value} {host : String} {v : Value} (q0 : Nat) (he : ws[q0]? = some (a, .inr (0, fs))) (hv : fs[3]? = some v) (q : Cond.fieldLinkNest own ix RX0 "left" "I" host ∈ lw_ns) (d : decode cc pc = .ok (.getfield ix, 3)) (kk : AtK X Z R cc own nL kc ks ws (pc + 3) lv (v :: st)) : AtK X Z R cc own nL kc ks ws pc lv (.ref a :: st) := r_getfN (T := TX0) (N := 4) kX0 rfl 3 (by decide) rfl q0 he hv q d kk
theorem gf_X6_3 {X : CX} {Z : GZ} {R : Room} {cc : ByteArray} {own : String} {nL kc ks : Nat} {ws : va_W} {pc : Nat} {lv : List (Nat × Value)} {st : List Value} {ix a : Nat} {fs : List Value} {v : Value} (q0 : Nat) (he : ws[q0]? = some (a, .inr (6, fs))) (hv : fs[3]? = some v) (q : Cond.fieldLink own ix RX6 "past" "LTicketJournal$Past;" ∈ lw_tb) (d : decode cc pc = .ok (.getfield ix, 3)) (kk : AtK X Z R cc own nL kc ks ws (pc + 3) lv (v :: st)) : AtK X Z R cc own nL kc ks ws pc lv (.ref a :: st) := r_getf (T := TX6) (N := 5) kX6 rfl 3 (by decide) rfl q0 he hv q d kk
theorem gfN_X4_2 {X : CX} {Z : GZ} {R : Room} {cc : ByteArray} {own : String} {nL kc ks : Nat} {ws : va_W} {pc : Nat} {lv : List (Nat × Value)} {st : List Value} {ix a : Nat} {fs : List Value} {host : String} {v : Value} (q0 : Nat) (he : ws[q0]? = some (a, .inr (4, fs))) (hv : fs[2]? = some v) (q : Cond.fieldLinkNest own ix RX4 "size" "I" host ∈ lw_ns) (d : decode cc pc = .ok (.getfield ix, 3)) (kk : AtK X Z R cc own nL kc ks ws (pc + 3) lv (v :: st)) : AtK X Z R cc own nL kc ks ws pc lv (.ref a :: st) := r_getfN (T := TX4) (N := 3) kX4 rfl 2 (by decide) rfl q0 he hv q d kk
theorem gf_X6_1 {X : CX} {Z : GZ} {R : Room} {cc : ByteArray} {own : String} {nL kc ks : Nat} {ws : va_W} {pc : Nat} {lv : List (Nat × Value)} {st : List Value} {ix a : Nat} {fs : List Value} {v : Value} (q0 : Nat) (he : ws[q0]? = some (a, .inr (6, fs))) (hv : fs[1]? = some v) (q : Cond.fieldLink own ix RX6 "trial" "LTicketJournal$Printer;" ∈ lw_tb) (d : decode cc pc = .ok (.getfield ix, 3)) (kk : AtK X Z R cc own nL kc ks ws (pc + 3) lv (v :: st)) : AtK X Z R cc own nL kc ks ws pc lv (.ref a :: st) := r_getf (T := TX6) (N := 5) kX6 rfl 1 (by decide) rfl q0 he hv q d kk
theorem pfN_X0_3 {X : CX} {Z : GZ} {R : Room} {cc : ByteArray} {own : String} {nL kc ks : Nat} {ws : va_W} {pc : Nat} {lv : List (Nat × Value)} {st : List Value} {ix a : Nat} {fs : List Value} {host : String} {x : Int32} (q0 : Nat) (he : ws[q0]? = some (a, .inr (0, fs))) (hle : 3 < fs.length) (q : Cond.fieldLinkNest own ix RX0 "left" "I" host ∈ lw_ns) (d : decode cc pc = .ok (.putfield ix, 3)) {ws' : va_W} (hw9 : ws.set q0 (a, .inr (0, fs.set 3 (.int x))) = ws') (kk : AtK X Z R cc own nL kc ks ws' (pc + 3) lv st) : AtK X Z R cc own nL kc ks ws pc lv (.int x :: .ref a :: st) := r_putfN (T := TX0) (N := 4) (host := host) kX0 rfl 3 (by decide) rfl tyX0 tyX0_ok nmX0 rfl (ty := .int) (by decide +kernel) rfl rfl q0 he hle q d hw9 kk
theorem gf_X6_2 {X : CX} {Z : GZ} {R : Room} {cc : ByteArray} {own : String} {nL kc ks : Nat} {ws : va_W} {pc : Nat} {lv : List (Nat × Value)} {st : List Value} {ix a : Nat} {fs : List Value} {v : Value} (q0 : Nat) (he : ws[q0]? = some (a, .inr (6, fs))) (hv : fs[2]? = some v) (q : Cond.fieldLink own ix RX6 "journal" "LTicketJournal$Journal;" ∈ lw_tb) (d : decode cc pc = .ok (.getfield ix, 3)) (kk : AtK X Z R cc own nL kc ks ws (pc + 3) lv (v :: st)) : AtK X Z R cc own nL kc ks ws pc lv (.ref a :: st) := r_getf (T := TX6) (N := 5) kX6 rfl 2 (by decide) rfl q0 he hv q d kk
theorem pfN_X5_4 {X : CX} {Z : GZ} {R : Room} {cc : ByteArray} {own : String} {nL kc ks : Nat} {ws : va_W} {pc : Nat} {lv : List (Nat × Value)} {st : List Value} {ix a : Nat} {fs : List Value} {host : String} {x : Int32} (q0 : Nat) (he : ws[q0]? = some (a, .inr (5, fs))) (hle : 4 < fs.length) (q : Cond.fieldLinkNest own ix RX5 "time" "I" host ∈ lw_ns) (d : decode cc pc = .ok (.putfield ix, 3)) {ws' : va_W} (hw9 : ws.set q0 (a, .inr (5, fs.set 4 (.int x))) = ws') (kk : AtK X Z R cc own nL kc ks ws' (pc + 3) lv st) : AtK X Z R cc own nL kc ks ws pc lv (.int x :: .ref a :: st) := r_putfN (T := TX5) (N := 7) (host := host) kX5 rfl 4 (by decide) rfl tyX5 tyX5_ok nmX5 rfl (ty := .int) (by decide +kernel) rfl rfl q0 he hle q d hw9 kk
theorem gfN_X1_1 {X : CX} {Z : GZ} {R : Room} {cc : ByteArray} {own : String} {nL kc ks : Nat} {ws : va_W} {pc : Nat} {lv : List (Nat × Value)} {st : List Value} {ix a : Nat} {fs : List Value} {host : String} {v : Value} (q0 : Nat) (he : ws[q0]? = some (a, .inr (1, fs))) (hv : fs[1]? = some v) (q : Cond.fieldLinkNest own ix RX1 "filled" "Z" host ∈ lw_ns) (d : decode cc pc = .ok (.getfield ix, 3)) (kk : AtK X Z R cc own nL kc ks ws (pc + 3) lv (v :: st)) : AtK X Z R cc own nL kc ks ws pc lv (.ref a :: st) := r_getfN (T := TX1) (N := 2) kX1 rfl 1 (by decide) rfl q0 he hv q d kk
theorem gfN_X1_0 {X : CX} {Z : GZ} {R : Room} {cc : ByteArray} {own : String} {nL kc ks : Nat} {ws : va_W} {pc : Nat} {lv : List (Nat × Value)} {st : List Value} {ix a : Nat} {fs : List Value} {host : String} {v : Value} (q0 : Nat) (he : ws[q0]? = some (a, .inr (1, fs))) (hv : fs[0]? = some v) (q : Cond.fieldLinkNest own ix RX1 "state" "LTicketJournal$Printer;" host ∈ lw_ns) (d : decode cc pc = .ok (.getfield ix, 3)) (kk : AtK X Z R cc own nL kc ks ws (pc + 3) lv (v :: st)) : AtK X Z R cc own nL kc ks ws pc lv (.ref a :: st) := r_getfN (T := TX1) (N := 2) kX1 rfl 0 (by decide) rfl q0 he hv q d kk

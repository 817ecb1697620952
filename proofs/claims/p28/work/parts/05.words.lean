/-! the worlds: what the cells of an object hold -/
def wF (Z : GZ) (h hw he : Nat) (w er fl : Nat → Int32) : va_W := [(h, .inr (0, [.ref hw, .ref he, .int (fl 0), .int (fl 1)])), (hw, .inl (Z.2.1, 110, .inl w)), (he, .inl (Z.2.1, 5, .inl er))]
def wM (_ : GZ) (h : Nat) (me : Nat → Int32) : va_W := [(h, .inr (3, [.int (me 0), .int (me 1), .int (me 2), .int (me 3), .int (me 4), .int (me 5)]))]
def wP (Z : GZ) (a : Nat → Nat) (w er fl me p pr : Nat → Int32) : va_W := [(a 0, .inr (5, [.ref (a 1), .ref (a 4), .ref (a 5), .int (pr 0), .int (pr 1), .int (pr 2), .int (pr 3)])), (a 1, .inr (0, [.ref (a 2), .ref (a 3), .int (fl 0), .int (fl 1)])), (a 2, .inl (Z.2.1, 110, .inl w)), (a 3, .inl (Z.2.1, 5, .inl er)), (a 4, .inr (3, [.int (me 0), .int (me 1), .int (me 2), .int (me 3), .int (me 4), .int (me 5)])), (a 5, .inl (Z.2.1, 4, .inl p))]
def wJ (Z : GZ) (hj hd : Nat) (d : Nat → Int32) (jc : Int32) : va_W := [(hj, .inr (2, [.ref hd, .int jc])), (hd, .inl (Z.2.1, 120, .inl d))]
def wX (Z : GZ) (a : Nat → Nat) (m ps im ik asd rb rp mv : Nat → Int32) : va_W := [(a 0, .inr (7, [.ref (a 1), .ref (a 2), .int (mv 0), .ref (a 3), .ref (a 4), .ref (a 5), .ref (a 6), .ref (a 7), .int (mv 1)])), (a 1, .inl (Z.2.1, 131, .inl m)), (a 2, .inl (Z.2.1, 1048, .inl ps)), (a 3, .inl (Z.2.1, 262, .inl im)), (a 4, .inl (Z.2.1, 2, .inl ik)), (a 5, .inl (Z.2.1, 131, .inl asd)), (a 6, .inl (Z.2.1, 20, .inl rb)), (a 7, .inl (Z.2.1, 20, .inl rp))]
def wS (Z : GZ) (hq hs : Nat) (AD : Nat → Nat → Nat) (pv : Nat → Int32) : va_W := [(hq, .inr (4, [.ref hs, .int (pv 0), .int (pv 1)])), (hs, .inl (Z.2.2.1, 8, .inr (.inr (.inr (.inr (fun k => some (AD k 0)))))))]
def wQ (Z : GZ) (hq hs : Nat) (AD : Nat → Nat → Nat) (pv : Nat → Int32) (W8 E8 F8 M8 P8 R8 : Nat → Nat → Int32) : va_W := wS Z hq hs AD pv ++ (wP Z (AD 0) (W8 0) (E8 0) (F8 0) (M8 0) (P8 0) (R8 0) ++ (wP Z (AD 1) (W8 1) (E8 1) (F8 1) (M8 1) (P8 1) (R8 1) ++ (wP Z (AD 2) (W8 2) (E8 2) (F8 2) (M8 2) (P8 2) (R8 2) ++ (wP Z (AD 3) (W8 3) (E8 3) (F8 3) (M8 3) (P8 3) (R8 3) ++ (wP Z (AD 4) (W8 4) (E8 4) (F8 4) (M8 4) (P8 4) (R8 4) ++ (wP Z (AD 5) (W8 5) (E8 5) (F8 5) (M8 5) (P8 5) (R8 5) ++ (wP Z (AD 6) (W8 6) (E8 6) (F8 6) (M8 6) (P8 6) (R8 6) ++ (wP Z (AD 7) (W8 7) (E8 7) (F8 7) (M8 7) (P8 7) (R8 7)))))))))
theorem wQ_dom {Z : GZ} {hq hs : Nat} {AD : Nat → Nat → Nat} {pv pw : Nat → Int32} {W8 E8 F8 M8 P8 R8 W9 E9 F9 M9 P9 R9 : Nat → Nat → Int32} : (wQ Z hq hs AD pw W9 E9 F9 M9 P9 R9).map Prod.fst = (wQ Z hq hs AD pv W8 E8 F8 M8 P8 R8).map Prod.fst := rfl
def wI (Z : GZ) (hi : Nat) (IH : Nat → Nat) (IA : Nat → Nat → Nat) (fi : Nat → Nat → Int32) (WI EI FI MI PI RI : Nat → Nat → Int32) : va_W := (hi, .inl (Z.2.2.2, 2, .inr (.inr (.inr (.inr (fun k => some (IH k))))))) :: (IH 0, .inr (1, [.ref (IA 0 0), .int (fi 0 0)])) :: (IH 1, .inr (1, [.ref (IA 1 0), .int (fi 1 0)])) :: (wP Z (IA 0) (WI 0) (EI 0) (FI 0) (MI 0) (PI 0) (RI 0) ++ wP Z (IA 1) (WI 1) (EI 1) (FI 1) (MI 1) (PI 1) (RI 1))
def wQ1 (_ : GZ) (hq hs : Nat) (pv : Nat → Int32) : va_W := [(hq, .inr (4, [.ref hs, .int (pv 0), .int (pv 1)]))]
def wI0 (Z : GZ) (hi : Nat) (IH : Nat → Nat) : va_W := [(hi, .inl (Z.2.2.2, 2, .inr (.inr (.inr (.inr (fun k => some (IH k)))))))]
def wO (_ : GZ) (hx b : Nat) (ff : Nat → Int32) : va_W := [(hx, .inr (1, [.ref b, .int (ff 0)]))]
def wT (_ : GZ) (t pr tr hj hq hi : Nat) : va_W := [(t, .inr (6, [.ref pr, .ref tr, .ref hj, .ref hq, .ref hi]))]
theorem qw_195 : Cond.methodLink RX6 67 yX6_isWithin ∈ lw_tb := lw_up (List.mem_of_getElem? (i := 195) (by decide +kernel)) rfl
theorem qw_13 : Cond.initialized RX6 ∈ lw_tb := lw_up (List.mem_of_getElem? (i := 13) (by decide +kernel)) rfl
theorem qw_197 : Cond.code yX6_isWithin cX6_isWithin 3 (some .boolean) ∈ lw_tb := lw_up (List.mem_of_getElem? (i := 197) (by decide +kernel)) rfl
theorem qw_196 : Cond.static yX6_isWithin ∈ lw_tb := lw_up (List.mem_of_getElem? (i := 196) (by decide +kernel)) rfl
theorem qw_275 : Cond.constant RX6 214 65521 ∈ lw_tb := lw_up (List.mem_of_getElem? (i := 275) (by decide +kernel)) rfl
theorem qw_45 : Cond.fieldLink RX0 18 RX0 "done" "I" ∈ lw_tb := lw_up (List.mem_of_getElem? (i := 45) (by decide +kernel)) rfl
theorem qw_47 : Cond.fieldLink RX0 22 RX0 "left" "I" ∈ lw_tb := lw_up (List.mem_of_getElem? (i := 47) (by decide +kernel)) rfl
theorem qw_42 : Cond.constant RX0 25 65535 ∈ lw_tb := lw_up (List.mem_of_getElem? (i := 42) (by decide +kernel)) rfl
theorem qw_43 : Cond.fieldLink RX0 9 RX0 "words" "[I" ∈ lw_tb := lw_up (List.mem_of_getElem? (i := 43) (by decide +kernel)) rfl
theorem qw_280 : Cond.methodLink RX0 32 yX0_spendOperation ∈ lw_tb := lw_up (List.mem_of_getElem? (i := 280) (by decide +kernel)) rfl
theorem qw_15 : Cond.initialized RX0 ∈ lw_tb := lw_up (List.mem_of_getElem? (i := 15) (by decide +kernel)) rfl
theorem qw_283 : Cond.code yX0_spendOperation cX0_spendOperation 1 (some .boolean) ∈ lw_tb := lw_up (List.mem_of_getElem? (i := 283) (by decide +kernel)) rfl
theorem qw_282 : Cond.instanceMethod yX0_spendOperation ∈ lw_tb := lw_up (List.mem_of_getElem? (i := 282) (by decide +kernel)) rfl
theorem qw_4 : Cond.selects RX0 yX0_spendOperation yX0_spendOperation ∈ lw_tb := lw_up (List.mem_of_getElem? (i := 4) (by decide +kernel)) rfl
theorem qw_44 : Cond.fieldLink RX0 15 RX0 "erasures" "[I" ∈ lw_tb := lw_up (List.mem_of_getElem? (i := 44) (by decide +kernel)) rfl
theorem qw_328 : Cond.methodLink RX0 36 yX0_read ∈ lw_tb := lw_up (List.mem_of_getElem? (i := 328) (by decide +kernel)) rfl
theorem qw_271 : Cond.code yX0_read cX0_read 4 (some .int) ∈ lw_tb := lw_up (List.mem_of_getElem? (i := 271) (by decide +kernel)) rfl
theorem qw_269 : Cond.instanceMethod yX0_read ∈ lw_tb := lw_up (List.mem_of_getElem? (i := 269) (by decide +kernel)) rfl
theorem qw_270 : Cond.selects RX0 yX0_read yX0_read ∈ lw_tb := lw_up (List.mem_of_getElem? (i := 270) (by decide +kernel)) rfl
theorem qw_403 : Cond.methodLinkNest RX0 40 yX6_headerCheck "TicketJournal" ∈ lw_ns := lw_un (List.mem_of_getElem? (i := 403) (by decide +kernel)) rfl
theorem qw_274 : Cond.code yX6_headerCheck cX6_headerCheck 5 (some .int) ∈ lw_tb := lw_up (List.mem_of_getElem? (i := 274) (by decide +kernel)) rfl
theorem qw_273 : Cond.static yX6_headerCheck ∈ lw_tb := lw_up (List.mem_of_getElem? (i := 273) (by decide +kernel)) rfl
theorem qw_324 : Cond.methodLink RX0 48 yX0_recordWord ∈ lw_tb := lw_up (List.mem_of_getElem? (i := 324) (by decide +kernel)) rfl
theorem qw_327 : Cond.code yX0_recordWord cX0_recordWord 4 (some .int) ∈ lw_tb := lw_up (List.mem_of_getElem? (i := 327) (by decide +kernel)) rfl
theorem qw_325 : Cond.instanceMethod yX0_recordWord ∈ lw_tb := lw_up (List.mem_of_getElem? (i := 325) (by decide +kernel)) rfl
theorem qw_326 : Cond.selects RX0 yX0_recordWord yX0_recordWord ∈ lw_tb := lw_up (List.mem_of_getElem? (i := 326) (by decide +kernel)) rfl
theorem qw_320 : Cond.methodLink RX0 44 yX0_isEmpty ∈ lw_tb := lw_up (List.mem_of_getElem? (i := 320) (by decide +kernel)) rfl
theorem qw_323 : Cond.code yX0_isEmpty cX0_isEmpty 4 (some .boolean) ∈ lw_tb := lw_up (List.mem_of_getElem? (i := 323) (by decide +kernel)) rfl
theorem qw_322 : Cond.instanceMethod yX0_isEmpty ∈ lw_tb := lw_up (List.mem_of_getElem? (i := 322) (by decide +kernel)) rfl
theorem qw_6 : Cond.selects RX0 yX0_isEmpty yX0_isEmpty ∈ lw_tb := lw_up (List.mem_of_getElem? (i := 6) (by decide +kernel)) rfl
theorem qw_329 : Cond.methodLinkNest RX0 52 yX6_recordCheck "TicketJournal" ∈ lw_ns := lw_un (List.mem_of_getElem? (i := 329) (by decide +kernel)) rfl
theorem qw_294 : Cond.code yX6_recordCheck cX6_recordCheck 4 (some .int) ∈ lw_tb := lw_up (List.mem_of_getElem? (i := 294) (by decide +kernel)) rfl
theorem qw_293 : Cond.static yX6_recordCheck ∈ lw_tb := lw_up (List.mem_of_getElem? (i := 293) (by decide +kernel)) rfl
theorem qw_404 : Cond.methodLink RX0 60 yX0_stateOf ∈ lw_tb := lw_up (List.mem_of_getElem? (i := 404) (by decide +kernel)) rfl
theorem qw_319 : Cond.code yX0_stateOf cX0_stateOf 4 (some .int) ∈ lw_tb := lw_up (List.mem_of_getElem? (i := 319) (by decide +kernel)) rfl
theorem qw_317 : Cond.instanceMethod yX0_stateOf ∈ lw_tb := lw_up (List.mem_of_getElem? (i := 317) (by decide +kernel)) rfl
theorem qw_318 : Cond.selects RX0 yX0_stateOf yX0_stateOf ∈ lw_tb := lw_up (List.mem_of_getElem? (i := 318) (by decide +kernel)) rfl
theorem qw_399 : Cond.methodLink RX0 56 yX0_isWhole ∈ lw_tb := lw_up (List.mem_of_getElem? (i := 399) (by decide +kernel)) rfl
theorem qw_402 : Cond.code yX0_isWhole cX0_isWhole 3 (some .boolean) ∈ lw_tb := lw_up (List.mem_of_getElem? (i := 402) (by decide +kernel)) rfl
theorem qw_400 : Cond.instanceMethod yX0_isWhole ∈ lw_tb := lw_up (List.mem_of_getElem? (i := 400) (by decide +kernel)) rfl
theorem qw_401 : Cond.selects RX0 yX0_isWhole yX0_isWhole ∈ lw_tb := lw_up (List.mem_of_getElem? (i := 401) (by decide +kernel)) rfl
theorem qw_395 : Cond.methodLink RX0 63 yX0_tallyIn ∈ lw_tb := lw_up (List.mem_of_getElem? (i := 395) (by decide +kernel)) rfl
theorem qw_398 : Cond.code yX0_tallyIn cX0_tallyIn 5 (some .int) ∈ lw_tb := lw_up (List.mem_of_getElem? (i := 398) (by decide +kernel)) rfl
theorem qw_396 : Cond.instanceMethod yX0_tallyIn ∈ lw_tb := lw_up (List.mem_of_getElem? (i := 396) (by decide +kernel)) rfl
theorem qw_397 : Cond.selects RX0 yX0_tallyIn yX0_tallyIn ∈ lw_tb := lw_up (List.mem_of_getElem? (i := 397) (by decide +kernel)) rfl
theorem qw_421 : Cond.methodLink RX0 66 yX0_isFollowed ∈ lw_tb := lw_up (List.mem_of_getElem? (i := 421) (by decide +kernel)) rfl
theorem qw_424 : Cond.code yX0_isFollowed cX0_isFollowed 4 (some .boolean) ∈ lw_tb := lw_up (List.mem_of_getElem? (i := 424) (by decide +kernel)) rfl
theorem qw_423 : Cond.instanceMethod yX0_isFollowed ∈ lw_tb := lw_up (List.mem_of_getElem? (i := 423) (by decide +kernel)) rfl
theorem qw_7 : Cond.selects RX0 yX0_isFollowed yX0_isFollowed ∈ lw_tb := lw_up (List.mem_of_getElem? (i := 7) (by decide +kernel)) rfl
theorem qw_248 : Cond.methodLink RX0 26 arraycopyName ∈ lw_tb := lw_up (List.mem_of_getElem? (i := 248) (by decide +kernel)) rfl
theorem qw_250 : Cond.native arraycopyName ∈ lw_tb := lw_up (List.mem_of_getElem? (i := 250) (by decide +kernel)) rfl
theorem qw_249 : Cond.static arraycopyName ∈ lw_tb := lw_up (List.mem_of_getElem? (i := 249) (by decide +kernel)) rfl
theorem qw_20 : Cond.initialized "java/lang/System" ∈ lw_tb := lw_up (List.mem_of_getElem? (i := 20) (by decide +kernel)) rfl
theorem qw_65 : Cond.fieldLink RX3 9 RX3 "current" "I" ∈ lw_tb := lw_up (List.mem_of_getElem? (i := 65) (by decide +kernel)) rfl
theorem qw_68 : Cond.fieldLink RX3 15 RX3 "next" "I" ∈ lw_tb := lw_up (List.mem_of_getElem? (i := 68) (by decide +kernel)) rfl
theorem qw_71 : Cond.fieldLink RX3 18 RX3 "number" "I" ∈ lw_tb := lw_up (List.mem_of_getElem? (i := 71) (by decide +kernel)) rfl
theorem qw_74 : Cond.fieldLink RX3 21 RX3 "sum" "I" ∈ lw_tb := lw_up (List.mem_of_getElem? (i := 74) (by decide +kernel)) rfl
theorem qw_77 : Cond.fieldLink RX3 24 RX3 "tickets" "I" ∈ lw_tb := lw_up (List.mem_of_getElem? (i := 77) (by decide +kernel)) rfl
theorem qw_80 : Cond.fieldLink RX3 27 RX3 "paper" "I" ∈ lw_tb := lw_up (List.mem_of_getElem? (i := 80) (by decide +kernel)) rfl
theorem qw_307 : Cond.methodLinkNest RX3 55 yX6_lengthOf "TicketJournal" ∈ lw_ns := lw_un (List.mem_of_getElem? (i := 307) (by decide +kernel)) rfl
theorem qw_231 : Cond.code yX6_lengthOf cX6_lengthOf 1 (some .int) ∈ lw_tb := lw_up (List.mem_of_getElem? (i := 231) (by decide +kernel)) rfl
theorem qw_230 : Cond.static yX6_lengthOf ∈ lw_tb := lw_up (List.mem_of_getElem? (i := 230) (by decide +kernel)) rfl
theorem qw_430 : Cond.methodLink RX3 44 yX0_stateOf ∈ lw_tb := lw_up (List.mem_of_getElem? (i := 430) (by decide +kernel)) rfl
theorem qw_431 : Cond.methodLink RX3 47 yX0_recordWord ∈ lw_tb := lw_up (List.mem_of_getElem? (i := 431) (by decide +kernel)) rfl
theorem qw_432 : Cond.methodLink RX3 51 yX3_learn ∈ lw_tb := lw_up (List.mem_of_getElem? (i := 432) (by decide +kernel)) rfl
theorem qw_16 : Cond.initialized RX3 ∈ lw_tb := lw_up (List.mem_of_getElem? (i := 16) (by decide +kernel)) rfl
theorem qw_306 : Cond.code yX3_learn cX3_learn 4 none ∈ lw_tb := lw_up (List.mem_of_getElem? (i := 306) (by decide +kernel)) rfl
theorem qw_304 : Cond.instanceMethod yX3_learn ∈ lw_tb := lw_up (List.mem_of_getElem? (i := 304) (by decide +kernel)) rfl
theorem qw_305 : Cond.selects RX3 yX3_learn yX3_learn ∈ lw_tb := lw_up (List.mem_of_getElem? (i := 305) (by decide +kernel)) rfl
theorem qw_417 : Cond.methodLink RX3 30 yX0_newestBlock ∈ lw_tb := lw_up (List.mem_of_getElem? (i := 417) (by decide +kernel)) rfl
theorem qw_420 : Cond.code yX0_newestBlock cX0_newestBlock 2 (some .int) ∈ lw_tb := lw_up (List.mem_of_getElem? (i := 420) (by decide +kernel)) rfl
theorem qw_418 : Cond.instanceMethod yX0_newestBlock ∈ lw_tb := lw_up (List.mem_of_getElem? (i := 418) (by decide +kernel)) rfl
theorem qw_419 : Cond.selects RX0 yX0_newestBlock yX0_newestBlock ∈ lw_tb := lw_up (List.mem_of_getElem? (i := 419) (by decide +kernel)) rfl
theorem qw_425 : Cond.methodLink RX3 36 yX0_nextPlaceIn ∈ lw_tb := lw_up (List.mem_of_getElem? (i := 425) (by decide +kernel)) rfl
theorem qw_428 : Cond.code yX0_nextPlaceIn cX0_nextPlaceIn 3 (some .int) ∈ lw_tb := lw_up (List.mem_of_getElem? (i := 428) (by decide +kernel)) rfl
theorem qw_426 : Cond.instanceMethod yX0_nextPlaceIn ∈ lw_tb := lw_up (List.mem_of_getElem? (i := 426) (by decide +kernel)) rfl
theorem qw_427 : Cond.selects RX0 yX0_nextPlaceIn yX0_nextPlaceIn ∈ lw_tb := lw_up (List.mem_of_getElem? (i := 427) (by decide +kernel)) rfl
theorem qw_429 : Cond.methodLink RX3 40 yX0_read ∈ lw_tb := lw_up (List.mem_of_getElem? (i := 429) (by decide +kernel)) rfl
theorem qw_96 : Cond.fieldLink RX5 12 RX5 "flash" "LTicketJournal$Flash;" ∈ lw_tb := lw_up (List.mem_of_getElem? (i := 96) (by decide +kernel)) rfl
theorem qw_244 : Cond.methodLink RX5 43 yX0_copyFrom ∈ lw_tb := lw_up (List.mem_of_getElem? (i := 244) (by decide +kernel)) rfl
theorem qw_247 : Cond.code yX0_copyFrom cX0_copyFrom 2 none ∈ lw_tb := lw_up (List.mem_of_getElem? (i := 247) (by decide +kernel)) rfl
theorem qw_245 : Cond.instanceMethod yX0_copyFrom ∈ lw_tb := lw_up (List.mem_of_getElem? (i := 245) (by decide +kernel)) rfl
theorem qw_246 : Cond.selects RX0 yX0_copyFrom yX0_copyFrom ∈ lw_tb := lw_up (List.mem_of_getElem? (i := 246) (by decide +kernel)) rfl
theorem qw_98 : Cond.fieldLink RX5 21 RX5 "memory" "LTicketJournal$Memory;" ∈ lw_tb := lw_up (List.mem_of_getElem? (i := 98) (by decide +kernel)) rfl
theorem qw_251 : Cond.methodLink RX5 47 yX3_copyFrom ∈ lw_tb := lw_up (List.mem_of_getElem? (i := 251) (by decide +kernel)) rfl
theorem qw_254 : Cond.code yX3_copyFrom cX3_copyFrom 2 none ∈ lw_tb := lw_up (List.mem_of_getElem? (i := 254) (by decide +kernel)) rfl
theorem qw_252 : Cond.instanceMethod yX3_copyFrom ∈ lw_tb := lw_up (List.mem_of_getElem? (i := 252) (by decide +kernel)) rfl
theorem qw_253 : Cond.selects RX3 yX3_copyFrom yX3_copyFrom ∈ lw_tb := lw_up (List.mem_of_getElem? (i := 253) (by decide +kernel)) rfl
theorem qw_100 : Cond.fieldLink RX5 25 RX5 "prices" "[I" ∈ lw_tb := lw_up (List.mem_of_getElem? (i := 100) (by decide +kernel)) rfl
theorem qw_255 : Cond.methodLink RX5 50 arraycopyName ∈ lw_tb := lw_up (List.mem_of_getElem? (i := 255) (by decide +kernel)) rfl
theorem qw_101 : Cond.fieldLink RX5 29 RX5 "on" "Z" ∈ lw_tb := lw_up (List.mem_of_getElem? (i := 101) (by decide +kernel)) rfl
theorem qw_103 : Cond.fieldLink RX5 33 RX5 "time" "I" ∈ lw_tb := lw_up (List.mem_of_getElem? (i := 103) (by decide +kernel)) rfl
theorem qw_105 : Cond.fieldLink RX5 37 RX5 "there" "I" ∈ lw_tb := lw_up (List.mem_of_getElem? (i := 105) (by decide +kernel)) rfl
theorem qw_107 : Cond.fieldLink RX5 40 RX5 "printed" "I" ∈ lw_tb := lw_up (List.mem_of_getElem? (i := 107) (by decide +kernel)) rfl
theorem qw_221 : Cond.methodLinkNest RX5 56 yX6_isSort "TicketJournal" ∈ lw_ns := lw_un (List.mem_of_getElem? (i := 221) (by decide +kernel)) rfl
theorem qw_223 : Cond.code yX6_isSort cX6_isSort 1 (some .boolean) ∈ lw_tb := lw_up (List.mem_of_getElem? (i := 223) (by decide +kernel)) rfl
theorem qw_222 : Cond.static yX6_isSort ∈ lw_tb := lw_up (List.mem_of_getElem? (i := 222) (by decide +kernel)) rfl
theorem qw_75 : Cond.fieldLinkNest RX5 60 RX3 "sum" "I" "TicketJournal" ∈ lw_ns := lw_un (List.mem_of_getElem? (i := 75) (by decide +kernel)) rfl
theorem qw_224 : Cond.methodLink RX5 63 yX5_priceOf ∈ lw_tb := lw_up (List.mem_of_getElem? (i := 224) (by decide +kernel)) rfl
theorem qw_14 : Cond.initialized RX5 ∈ lw_tb := lw_up (List.mem_of_getElem? (i := 14) (by decide +kernel)) rfl
theorem qw_227 : Cond.code yX5_priceOf cX5_priceOf 2 (some .int) ∈ lw_tb := lw_up (List.mem_of_getElem? (i := 227) (by decide +kernel)) rfl
theorem qw_225 : Cond.instanceMethod yX5_priceOf ∈ lw_tb := lw_up (List.mem_of_getElem? (i := 225) (by decide +kernel)) rfl
theorem qw_226 : Cond.selects RX5 yX5_priceOf yX5_priceOf ∈ lw_tb := lw_up (List.mem_of_getElem? (i := 226) (by decide +kernel)) rfl
theorem qw_228 : Cond.constant RX5 67 60000 ∈ lw_tb := lw_up (List.mem_of_getElem? (i := 228) (by decide +kernel)) rfl
theorem qw_81 : Cond.fieldLinkNest RX5 68 RX3 "paper" "I" "TicketJournal" ∈ lw_ns := lw_un (List.mem_of_getElem? (i := 81) (by decide +kernel)) rfl
theorem qw_229 : Cond.methodLinkNest RX5 71 yX6_lengthOf "TicketJournal" ∈ lw_ns := lw_un (List.mem_of_getElem? (i := 229) (by decide +kernel)) rfl
theorem qw_299 : Cond.methodLink RX5 100 yX3_forget ∈ lw_tb := lw_up (List.mem_of_getElem? (i := 299) (by decide +kernel)) rfl
theorem qw_302 : Cond.code yX3_forget cX3_forget 1 none ∈ lw_tb := lw_up (List.mem_of_getElem? (i := 302) (by decide +kernel)) rfl
theorem qw_300 : Cond.instanceMethod yX3_forget ∈ lw_tb := lw_up (List.mem_of_getElem? (i := 300) (by decide +kernel)) rfl
theorem qw_301 : Cond.selects RX3 yX3_forget yX3_forget ∈ lw_tb := lw_up (List.mem_of_getElem? (i := 301) (by decide +kernel)) rfl
theorem qw_413 : Cond.methodLink RX5 103 yX3_recall ∈ lw_tb := lw_up (List.mem_of_getElem? (i := 413) (by decide +kernel)) rfl
theorem qw_416 : Cond.code yX3_recall cX3_recall 3 none ∈ lw_tb := lw_up (List.mem_of_getElem? (i := 416) (by decide +kernel)) rfl
theorem qw_414 : Cond.instanceMethod yX3_recall ∈ lw_tb := lw_up (List.mem_of_getElem? (i := 414) (by decide +kernel)) rfl
theorem qw_415 : Cond.selects RX3 yX3_recall yX3_recall ∈ lw_tb := lw_up (List.mem_of_getElem? (i := 415) (by decide +kernel)) rfl
theorem qw_66 : Cond.fieldLinkNest RX5 84 RX3 "current" "I" "TicketJournal" ∈ lw_ns := lw_un (List.mem_of_getElem? (i := 66) (by decide +kernel)) rfl
theorem qw_69 : Cond.fieldLinkNest RX5 81 RX3 "next" "I" "TicketJournal" ∈ lw_ns := lw_un (List.mem_of_getElem? (i := 69) (by decide +kernel)) rfl
theorem qw_268 : Cond.methodLink RX5 120 yX0_read ∈ lw_tb := lw_up (List.mem_of_getElem? (i := 268) (by decide +kernel)) rfl
theorem qw_79 : Cond.fieldLinkNest RX5 123 RX3 "tickets" "I" "TicketJournal" ∈ lw_ns := lw_un (List.mem_of_getElem? (i := 79) (by decide +kernel)) rfl
theorem qw_72 : Cond.fieldLinkNest RX5 74 RX3 "number" "I" "TicketJournal" ∈ lw_ns := lw_un (List.mem_of_getElem? (i := 72) (by decide +kernel)) rfl
theorem qw_272 : Cond.methodLinkNest RX5 126 yX6_headerCheck "TicketJournal" ∈ lw_ns := lw_un (List.mem_of_getElem? (i := 272) (by decide +kernel)) rfl
theorem qw_276 : Cond.methodLink RX5 130 yX0_erase ∈ lw_tb := lw_up (List.mem_of_getElem? (i := 276) (by decide +kernel)) rfl
theorem qw_279 : Cond.code yX0_erase cX0_erase 3 (some .boolean) ∈ lw_tb := lw_up (List.mem_of_getElem? (i := 279) (by decide +kernel)) rfl
theorem qw_277 : Cond.instanceMethod yX0_erase ∈ lw_tb := lw_up (List.mem_of_getElem? (i := 277) (by decide +kernel)) rfl
theorem qw_278 : Cond.selects RX0 yX0_erase yX0_erase ∈ lw_tb := lw_up (List.mem_of_getElem? (i := 278) (by decide +kernel)) rfl
theorem qw_284 : Cond.methodLink RX5 133 yX0_write ∈ lw_tb := lw_up (List.mem_of_getElem? (i := 284) (by decide +kernel)) rfl
theorem qw_287 : Cond.code yX0_write cX0_write 5 (some .boolean) ∈ lw_tb := lw_up (List.mem_of_getElem? (i := 287) (by decide +kernel)) rfl
theorem qw_285 : Cond.instanceMethod yX0_write ∈ lw_tb := lw_up (List.mem_of_getElem? (i := 285) (by decide +kernel)) rfl
theorem qw_286 : Cond.selects RX0 yX0_write yX0_write ∈ lw_tb := lw_up (List.mem_of_getElem? (i := 286) (by decide +kernel)) rfl
theorem qw_292 : Cond.methodLinkNest RX5 136 yX6_recordCheck "TicketJournal" ∈ lw_ns := lw_un (List.mem_of_getElem? (i := 292) (by decide +kernel)) rfl
theorem qw_295 : Cond.methodLink RX5 113 yX5_losePower ∈ lw_tb := lw_up (List.mem_of_getElem? (i := 295) (by decide +kernel)) rfl
theorem qw_298 : Cond.code yX5_losePower cX5_losePower 1 none ∈ lw_tb := lw_up (List.mem_of_getElem? (i := 298) (by decide +kernel)) rfl
theorem qw_296 : Cond.instanceMethod yX5_losePower ∈ lw_tb := lw_up (List.mem_of_getElem? (i := 296) (by decide +kernel)) rfl
theorem qw_297 : Cond.selects RX5 yX5_losePower yX5_losePower ∈ lw_tb := lw_up (List.mem_of_getElem? (i := 297) (by decide +kernel)) rfl
theorem qw_288 : Cond.methodLink RX5 110 yX5_fillPlace ∈ lw_tb := lw_up (List.mem_of_getElem? (i := 288) (by decide +kernel)) rfl
theorem qw_291 : Cond.code yX5_fillPlace cX5_fillPlace 7 (some .boolean) ∈ lw_tb := lw_up (List.mem_of_getElem? (i := 291) (by decide +kernel)) rfl
theorem qw_290 : Cond.instanceMethod yX5_fillPlace ∈ lw_tb := lw_up (List.mem_of_getElem? (i := 290) (by decide +kernel)) rfl
theorem qw_5 : Cond.selects RX5 yX5_fillPlace yX5_fillPlace ∈ lw_tb := lw_up (List.mem_of_getElem? (i := 5) (by decide +kernel)) rfl
theorem qw_303 : Cond.methodLink RX5 116 yX3_learn ∈ lw_tb := lw_up (List.mem_of_getElem? (i := 303) (by decide +kernel)) rfl
theorem qw_264 : Cond.methodLink RX5 106 yX5_beginBlock ∈ lw_tb := lw_up (List.mem_of_getElem? (i := 264) (by decide +kernel)) rfl
theorem qw_267 : Cond.code yX5_beginBlock cX5_beginBlock 5 (some .boolean) ∈ lw_tb := lw_up (List.mem_of_getElem? (i := 267) (by decide +kernel)) rfl
theorem qw_266 : Cond.instanceMethod yX5_beginBlock ∈ lw_tb := lw_up (List.mem_of_getElem? (i := 266) (by decide +kernel)) rfl
theorem qw_3 : Cond.selects RX5 yX5_beginBlock yX5_beginBlock ∈ lw_tb := lw_up (List.mem_of_getElem? (i := 3) (by decide +kernel)) rfl
theorem qw_260 : Cond.methodLink RX5 77 yX5_writeRecord ∈ lw_tb := lw_up (List.mem_of_getElem? (i := 260) (by decide +kernel)) rfl
theorem qw_263 : Cond.code yX5_writeRecord cX5_writeRecord 6 (some .boolean) ∈ lw_tb := lw_up (List.mem_of_getElem? (i := 263) (by decide +kernel)) rfl
theorem qw_262 : Cond.instanceMethod yX5_writeRecord ∈ lw_tb := lw_up (List.mem_of_getElem? (i := 262) (by decide +kernel)) rfl
theorem qw_2 : Cond.selects RX5 yX5_writeRecord yX5_writeRecord ∈ lw_tb := lw_up (List.mem_of_getElem? (i := 2) (by decide +kernel)) rfl
theorem qw_316 : Cond.methodLink RX5 87 yX0_stateOf ∈ lw_tb := lw_up (List.mem_of_getElem? (i := 316) (by decide +kernel)) rfl
theorem qw_330 : Cond.methodLink RX5 91 yX0_recordWord ∈ lw_tb := lw_up (List.mem_of_getElem? (i := 330) (by decide +kernel)) rfl
theorem qw_362 : Cond.methodLink RX5 95 Lib.Math.abs.name ∈ lw_tb := lw_up (List.mem_of_getElem? (i := 362) (by decide +kernel)) rfl
theorem qw_363 : Cond.static Lib.Math.abs.name ∈ lw_tb := lw_up (List.mem_of_getElem? (i := 363) (by decide +kernel)) rfl
theorem qw_21 : Cond.initialized "java/lang/Math" ∈ lw_tb := lw_up (List.mem_of_getElem? (i := 21) (by decide +kernel)) rfl
theorem qw_364 : Cond.code Lib.Math.abs.name Lib.Math.abs.code 1 (some .int) ∈ lw_tb := lw_up (List.mem_of_getElem? (i := 364) (by decide +kernel)) rfl
theorem qw_131 : Cond.fieldLink RX2 15 RX2 "count" "I" ∈ lw_tb := lw_up (List.mem_of_getElem? (i := 131) (by decide +kernel)) rfl
theorem qw_130 : Cond.fieldLink RX2 9 RX2 "details" "[I" ∈ lw_tb := lw_up (List.mem_of_getElem? (i := 130) (by decide +kernel)) rfl
theorem qw_477 : Cond.methodLink RX2 37 yX0_recordWord ∈ lw_tb := lw_up (List.mem_of_getElem? (i := 477) (by decide +kernel)) rfl
theorem qw_478 : Cond.methodLink RX2 41 yX2_setDetail ∈ lw_tb := lw_up (List.mem_of_getElem? (i := 478) (by decide +kernel)) rfl
theorem qw_17 : Cond.initialized RX2 ∈ lw_tb := lw_up (List.mem_of_getElem? (i := 17) (by decide +kernel)) rfl
theorem qw_481 : Cond.code yX2_setDetail cX2_setDetail 4 none ∈ lw_tb := lw_up (List.mem_of_getElem? (i := 481) (by decide +kernel)) rfl
theorem qw_480 : Cond.instanceMethod yX2_setDetail ∈ lw_tb := lw_up (List.mem_of_getElem? (i := 480) (by decide +kernel)) rfl
theorem qw_10 : Cond.selects RX2 yX2_setDetail yX2_setDetail ∈ lw_tb := lw_up (List.mem_of_getElem? (i := 10) (by decide +kernel)) rfl
theorem qw_472 : Cond.methodLink RX2 29 yX0_stateOf ∈ lw_tb := lw_up (List.mem_of_getElem? (i := 472) (by decide +kernel)) rfl
theorem qw_473 : Cond.methodLink RX2 33 yX2_add ∈ lw_tb := lw_up (List.mem_of_getElem? (i := 473) (by decide +kernel)) rfl
theorem qw_476 : Cond.code yX2_add cX2_add 5 none ∈ lw_tb := lw_up (List.mem_of_getElem? (i := 476) (by decide +kernel)) rfl
theorem qw_475 : Cond.instanceMethod yX2_add ∈ lw_tb := lw_up (List.mem_of_getElem? (i := 475) (by decide +kernel)) rfl
theorem qw_9 : Cond.selects RX2 yX2_add yX2_add ∈ lw_tb := lw_up (List.mem_of_getElem? (i := 9) (by decide +kernel)) rfl
theorem qw_471 : Cond.methodLink RX2 25 yX0_isWhole ∈ lw_tb := lw_up (List.mem_of_getElem? (i := 471) (by decide +kernel)) rfl
theorem qw_470 : Cond.methodLink RX2 19 yX0_newestBlock ∈ lw_tb := lw_up (List.mem_of_getElem? (i := 470) (by decide +kernel)) rfl
theorem qw_486 : Cond.methodLink RX2 45 yX2_detail ∈ lw_tb := lw_up (List.mem_of_getElem? (i := 486) (by decide +kernel)) rfl
theorem qw_489 : Cond.code yX2_detail cX2_detail 4 (some .int) ∈ lw_tb := lw_up (List.mem_of_getElem? (i := 489) (by decide +kernel)) rfl
theorem qw_487 : Cond.instanceMethod yX2_detail ∈ lw_tb := lw_up (List.mem_of_getElem? (i := 487) (by decide +kernel)) rfl
theorem qw_488 : Cond.selects RX2 yX2_detail yX2_detail ∈ lw_tb := lw_up (List.mem_of_getElem? (i := 488) (by decide +kernel)) rfl
theorem qw_146 : Cond.fieldLink RX4 11 RX4 "states" "[LTicketJournal$Printer;" ∈ lw_tb := lw_up (List.mem_of_getElem? (i := 146) (by decide +kernel)) rfl
theorem qw_147 : Cond.fieldLink RX4 17 RX4 "oldest" "I" ∈ lw_tb := lw_up (List.mem_of_getElem? (i := 147) (by decide +kernel)) rfl
theorem qw_148 : Cond.fieldLink RX4 21 RX4 "size" "I" ∈ lw_tb := lw_up (List.mem_of_getElem? (i := 148) (by decide +kernel)) rfl
theorem qw_236 : Cond.methodLink RX4 25 yX4_stateAt ∈ lw_tb := lw_up (List.mem_of_getElem? (i := 236) (by decide +kernel)) rfl
theorem qw_18 : Cond.initialized RX4 ∈ lw_tb := lw_up (List.mem_of_getElem? (i := 18) (by decide +kernel)) rfl
theorem qw_239 : Cond.code yX4_stateAt cX4_stateAt 3 (some (.object "TicketJournal$Printer")) ∈ lw_tb := lw_up (List.mem_of_getElem? (i := 239) (by decide +kernel)) rfl
theorem qw_238 : Cond.instanceMethod yX4_stateAt ∈ lw_tb := lw_up (List.mem_of_getElem? (i := 238) (by decide +kernel)) rfl
theorem qw_1 : Cond.selects RX4 yX4_stateAt yX4_stateAt ∈ lw_tb := lw_up (List.mem_of_getElem? (i := 1) (by decide +kernel)) rfl
theorem qw_240 : Cond.methodLink RX4 29 yX5_copyFrom ∈ lw_tb := lw_up (List.mem_of_getElem? (i := 240) (by decide +kernel)) rfl
theorem qw_243 : Cond.code yX5_copyFrom cX5_copyFrom 2 none ∈ lw_tb := lw_up (List.mem_of_getElem? (i := 243) (by decide +kernel)) rfl
theorem qw_241 : Cond.instanceMethod yX5_copyFrom ∈ lw_tb := lw_up (List.mem_of_getElem? (i := 241) (by decide +kernel)) rfl
theorem qw_242 : Cond.selects RX5 yX5_copyFrom yX5_copyFrom ∈ lw_tb := lw_up (List.mem_of_getElem? (i := 242) (by decide +kernel)) rfl
theorem qw_166 : Cond.fieldLink RX1 10 RX1 "state" "LTicketJournal$Printer;" ∈ lw_tb := lw_up (List.mem_of_getElem? (i := 166) (by decide +kernel)) rfl
theorem qw_453 : Cond.methodLink RX1 20 yX5_copyFrom ∈ lw_tb := lw_up (List.mem_of_getElem? (i := 453) (by decide +kernel)) rfl
theorem qw_168 : Cond.fieldLink RX1 16 RX1 "filled" "Z" ∈ lw_tb := lw_up (List.mem_of_getElem? (i := 168) (by decide +kernel)) rfl
theorem qw_179 : Cond.fieldLink RX6 35 RX6 "images" "[LTicketJournal$Image;" ∈ lw_tb := lw_up (List.mem_of_getElem? (i := 179) (by decide +kernel)) rfl
theorem qw_494 : Cond.methodLink RX6 159 yX6_isBlock ∈ lw_tb := lw_up (List.mem_of_getElem? (i := 494) (by decide +kernel)) rfl
theorem qw_496 : Cond.code yX6_isBlock cX6_isBlock 1 (some .boolean) ∈ lw_tb := lw_up (List.mem_of_getElem? (i := 496) (by decide +kernel)) rfl
theorem qw_495 : Cond.static yX6_isBlock ∈ lw_tb := lw_up (List.mem_of_getElem? (i := 495) (by decide +kernel)) rfl
theorem qw_175 : Cond.fieldLink RX6 10 RX6 "present" "LTicketJournal$Printer;" ∈ lw_tb := lw_up (List.mem_of_getElem? (i := 175) (by decide +kernel)) rfl
theorem qw_97 : Cond.fieldLinkNest RX6 99 RX5 "flash" "LTicketJournal$Flash;" "TicketJournal" ∈ lw_ns := lw_un (List.mem_of_getElem? (i := 97) (by decide +kernel)) rfl
theorem qw_498 : Cond.methodLink RX6 162 yX0_read ∈ lw_tb := lw_up (List.mem_of_getElem? (i := 498) (by decide +kernel)) rfl
theorem qw_497 : Cond.methodLink RX6 165 yX0_isWhole ∈ lw_tb := lw_up (List.mem_of_getElem? (i := 497) (by decide +kernel)) rfl
theorem qw_499 : Cond.methodLink RX6 168 yX0_tallyIn ∈ lw_tb := lw_up (List.mem_of_getElem? (i := 499) (by decide +kernel)) rfl
theorem qw_500 : Cond.methodLink RX6 171 yX0_erasuresOf ∈ lw_tb := lw_up (List.mem_of_getElem? (i := 500) (by decide +kernel)) rfl
theorem qw_503 : Cond.code yX0_erasuresOf cX0_erasuresOf 2 (some .int) ∈ lw_tb := lw_up (List.mem_of_getElem? (i := 503) (by decide +kernel)) rfl
theorem qw_501 : Cond.instanceMethod yX0_erasuresOf ∈ lw_tb := lw_up (List.mem_of_getElem? (i := 501) (by decide +kernel)) rfl
theorem qw_502 : Cond.selects RX0 yX0_erasuresOf yX0_erasuresOf ∈ lw_tb := lw_up (List.mem_of_getElem? (i := 502) (by decide +kernel)) rfl
theorem qw_102 : Cond.fieldLinkNest RX6 51 RX5 "on" "Z" "TicketJournal" ∈ lw_ns := lw_un (List.mem_of_getElem? (i := 102) (by decide +kernel)) rfl
theorem qw_99 : Cond.fieldLinkNest RX6 117 RX5 "memory" "LTicketJournal$Memory;" "TicketJournal" ∈ lw_ns := lw_un (List.mem_of_getElem? (i := 99) (by decide +kernel)) rfl
theorem qw_73 : Cond.fieldLinkNest RX6 121 RX3 "number" "I" "TicketJournal" ∈ lw_ns := lw_un (List.mem_of_getElem? (i := 73) (by decide +kernel)) rfl
theorem qw_76 : Cond.fieldLinkNest RX6 144 RX3 "sum" "I" "TicketJournal" ∈ lw_ns := lw_un (List.mem_of_getElem? (i := 76) (by decide +kernel)) rfl
theorem qw_78 : Cond.fieldLinkNest RX6 147 RX3 "tickets" "I" "TicketJournal" ∈ lw_ns := lw_un (List.mem_of_getElem? (i := 78) (by decide +kernel)) rfl
theorem qw_82 : Cond.fieldLinkNest RX6 150 RX3 "paper" "I" "TicketJournal" ∈ lw_ns := lw_un (List.mem_of_getElem? (i := 82) (by decide +kernel)) rfl
theorem qw_67 : Cond.fieldLinkNest RX6 153 RX3 "current" "I" "TicketJournal" ∈ lw_ns := lw_un (List.mem_of_getElem? (i := 67) (by decide +kernel)) rfl
theorem qw_70 : Cond.fieldLinkNest RX6 156 RX3 "next" "I" "TicketJournal" ∈ lw_ns := lw_un (List.mem_of_getElem? (i := 70) (by decide +kernel)) rfl
theorem qw_104 : Cond.fieldLinkNest RX6 79 RX5 "time" "I" "TicketJournal" ∈ lw_ns := lw_un (List.mem_of_getElem? (i := 104) (by decide +kernel)) rfl
theorem qw_106 : Cond.fieldLinkNest RX6 132 RX5 "there" "I" "TicketJournal" ∈ lw_ns := lw_un (List.mem_of_getElem? (i := 106) (by decide +kernel)) rfl
theorem qw_108 : Cond.fieldLinkNest RX6 135 RX5 "printed" "I" "TicketJournal" ∈ lw_ns := lw_un (List.mem_of_getElem? (i := 108) (by decide +kernel)) rfl
theorem qw_46 : Cond.fieldLinkNest RX6 138 RX0 "done" "I" "TicketJournal" ∈ lw_ns := lw_un (List.mem_of_getElem? (i := 46) (by decide +kernel)) rfl
theorem qw_48 : Cond.fieldLinkNest RX6 103 RX0 "left" "I" "TicketJournal" ∈ lw_ns := lw_un (List.mem_of_getElem? (i := 48) (by decide +kernel)) rfl
theorem qw_178 : Cond.fieldLink RX6 29 RX6 "past" "LTicketJournal$Past;" ∈ lw_tb := lw_up (List.mem_of_getElem? (i := 178) (by decide +kernel)) rfl
theorem qw_149 : Cond.fieldLinkNest RX6 126 RX4 "size" "I" "TicketJournal" ∈ lw_ns := lw_un (List.mem_of_getElem? (i := 149) (by decide +kernel)) rfl
theorem qw_198 : Cond.methodLink RX6 141 yX6_knownNumber ∈ lw_tb := lw_up (List.mem_of_getElem? (i := 198) (by decide +kernel)) rfl
theorem qw_201 : Cond.code yX6_knownNumber cX6_knownNumber 2 (some .int) ∈ lw_tb := lw_up (List.mem_of_getElem? (i := 201) (by decide +kernel)) rfl
theorem qw_200 : Cond.instanceMethod yX6_knownNumber ∈ lw_tb := lw_up (List.mem_of_getElem? (i := 200) (by decide +kernel)) rfl
theorem qw_0 : Cond.selects RX6 yX6_knownNumber yX6_knownNumber ∈ lw_tb := lw_up (List.mem_of_getElem? (i := 0) (by decide +kernel)) rfl
theorem qw_176 : Cond.fieldLink RX6 16 RX6 "trial" "LTicketJournal$Printer;" ∈ lw_tb := lw_up (List.mem_of_getElem? (i := 176) (by decide +kernel)) rfl
theorem qw_458 : Cond.methodLink RX6 199 yX5_copyFrom ∈ lw_tb := lw_up (List.mem_of_getElem? (i := 458) (by decide +kernel)) rfl
theorem qw_256 : Cond.methodLink RX6 48 yX5_issueTicket ∈ lw_tb := lw_up (List.mem_of_getElem? (i := 256) (by decide +kernel)) rfl
theorem qw_259 : Cond.code yX5_issueTicket cX5_issueTicket 4 (some .int) ∈ lw_tb := lw_up (List.mem_of_getElem? (i := 259) (by decide +kernel)) rfl
theorem qw_257 : Cond.instanceMethod yX5_issueTicket ∈ lw_tb := lw_up (List.mem_of_getElem? (i := 257) (by decide +kernel)) rfl
theorem qw_258 : Cond.selects RX5 yX5_issueTicket yX5_issueTicket ∈ lw_tb := lw_up (List.mem_of_getElem? (i := 258) (by decide +kernel)) rfl
theorem qw_217 : Cond.methodLink RX6 40 yX5_refusalOf ∈ lw_tb := lw_up (List.mem_of_getElem? (i := 217) (by decide +kernel)) rfl
theorem qw_220 : Cond.code yX5_refusalOf cX5_refusalOf 2 (some .int) ∈ lw_tb := lw_up (List.mem_of_getElem? (i := 220) (by decide +kernel)) rfl
theorem qw_218 : Cond.instanceMethod yX5_refusalOf ∈ lw_tb := lw_up (List.mem_of_getElem? (i := 218) (by decide +kernel)) rfl
theorem qw_219 : Cond.selects RX5 yX5_refusalOf yX5_refusalOf ∈ lw_tb := lw_up (List.mem_of_getElem? (i := 219) (by decide +kernel)) rfl
theorem qw_537 : Cond.methodLink RX6 196 yX6_trySale ∈ lw_tb := lw_up (List.mem_of_getElem? (i := 537) (by decide +kernel)) rfl
theorem qw_540 : Cond.code yX6_trySale cX6_trySale 3 none ∈ lw_tb := lw_up (List.mem_of_getElem? (i := 540) (by decide +kernel)) rfl
theorem qw_539 : Cond.instanceMethod yX6_trySale ∈ lw_tb := lw_up (List.mem_of_getElem? (i := 539) (by decide +kernel)) rfl
theorem qw_11 : Cond.selects RX6 yX6_trySale yX6_trySale ∈ lw_tb := lw_up (List.mem_of_getElem? (i := 11) (by decide +kernel)) rfl
theorem qw_391 : Cond.methodLink RX6 111 yX0_tally ∈ lw_tb := lw_up (List.mem_of_getElem? (i := 391) (by decide +kernel)) rfl
theorem qw_394 : Cond.code yX0_tally cX0_tally 4 (some .int) ∈ lw_tb := lw_up (List.mem_of_getElem? (i := 394) (by decide +kernel)) rfl
theorem qw_392 : Cond.instanceMethod yX0_tally ∈ lw_tb := lw_up (List.mem_of_getElem? (i := 392) (by decide +kernel)) rfl
theorem qw_393 : Cond.selects RX0 yX0_tally yX0_tally ∈ lw_tb := lw_up (List.mem_of_getElem? (i := 393) (by decide +kernel)) rfl
theorem qw_409 : Cond.methodLink RX6 114 yX5_wake ∈ lw_tb := lw_up (List.mem_of_getElem? (i := 409) (by decide +kernel)) rfl
theorem qw_412 : Cond.code yX5_wake cX5_wake 1 none ∈ lw_tb := lw_up (List.mem_of_getElem? (i := 412) (by decide +kernel)) rfl
theorem qw_410 : Cond.instanceMethod yX5_wake ∈ lw_tb := lw_up (List.mem_of_getElem? (i := 410) (by decide +kernel)) rfl
theorem qw_411 : Cond.selects RX5 yX5_wake yX5_wake ∈ lw_tb := lw_up (List.mem_of_getElem? (i := 411) (by decide +kernel)) rfl
theorem qw_177 : Cond.fieldLink RX6 22 RX6 "journal" "LTicketJournal$Journal;" ∈ lw_tb := lw_up (List.mem_of_getElem? (i := 177) (by decide +kernel)) rfl
theorem qw_466 : Cond.methodLink RX6 174 yX2_gather ∈ lw_tb := lw_up (List.mem_of_getElem? (i := 466) (by decide +kernel)) rfl
theorem qw_469 : Cond.code yX2_gather cX2_gather 7 (some (.object "TicketJournal$Journal")) ∈ lw_tb := lw_up (List.mem_of_getElem? (i := 469) (by decide +kernel)) rfl
theorem qw_467 : Cond.instanceMethod yX2_gather ∈ lw_tb := lw_up (List.mem_of_getElem? (i := 467) (by decide +kernel)) rfl
theorem qw_468 : Cond.selects RX2 yX2_gather yX2_gather ∈ lw_tb := lw_up (List.mem_of_getElem? (i := 468) (by decide +kernel)) rfl
theorem qw_482 : Cond.methodLink RX6 178 yX2_countOf ∈ lw_tb := lw_up (List.mem_of_getElem? (i := 482) (by decide +kernel)) rfl
theorem qw_485 : Cond.code yX2_countOf cX2_countOf 4 (some .int) ∈ lw_tb := lw_up (List.mem_of_getElem? (i := 485) (by decide +kernel)) rfl
theorem qw_483 : Cond.instanceMethod yX2_countOf ∈ lw_tb := lw_up (List.mem_of_getElem? (i := 483) (by decide +kernel)) rfl
theorem qw_484 : Cond.selects RX2 yX2_countOf yX2_countOf ∈ lw_tb := lw_up (List.mem_of_getElem? (i := 484) (by decide +kernel)) rfl
theorem qw_522 : Cond.methodLink RX6 181 yX2_detail ∈ lw_tb := lw_up (List.mem_of_getElem? (i := 522) (by decide +kernel)) rfl
theorem qw_514 : Cond.methodLink RX6 184 yX2_pricesOf ∈ lw_tb := lw_up (List.mem_of_getElem? (i := 514) (by decide +kernel)) rfl
theorem qw_517 : Cond.code yX2_pricesOf cX2_pricesOf 7 (some .int) ∈ lw_tb := lw_up (List.mem_of_getElem? (i := 517) (by decide +kernel)) rfl
theorem qw_515 : Cond.instanceMethod yX2_pricesOf ∈ lw_tb := lw_up (List.mem_of_getElem? (i := 515) (by decide +kernel)) rfl
theorem qw_516 : Cond.selects RX2 yX2_pricesOf yX2_pricesOf ∈ lw_tb := lw_up (List.mem_of_getElem? (i := 516) (by decide +kernel)) rfl
theorem qw_376 : Cond.methodLink RX6 88 yX6_isSort ∈ lw_tb := lw_up (List.mem_of_getElem? (i := 376) (by decide +kernel)) rfl
theorem qw_232 : Cond.methodLink RX6 44 yX4_remember ∈ lw_tb := lw_up (List.mem_of_getElem? (i := 232) (by decide +kernel)) rfl
theorem qw_235 : Cond.code yX4_remember cX4_remember 3 none ∈ lw_tb := lw_up (List.mem_of_getElem? (i := 235) (by decide +kernel)) rfl
theorem qw_233 : Cond.instanceMethod yX4_remember ∈ lw_tb := lw_up (List.mem_of_getElem? (i := 233) (by decide +kernel)) rfl
theorem qw_234 : Cond.selects RX4 yX4_remember yX4_remember ∈ lw_tb := lw_up (List.mem_of_getElem? (i := 234) (by decide +kernel)) rfl
theorem qw_312 : Cond.methodLink RX6 55 yX5_endsWithTicket ∈ lw_tb := lw_up (List.mem_of_getElem? (i := 312) (by decide +kernel)) rfl
theorem qw_315 : Cond.code yX5_endsWithTicket cX5_endsWithTicket 2 (some .boolean) ∈ lw_tb := lw_up (List.mem_of_getElem? (i := 315) (by decide +kernel)) rfl
theorem qw_313 : Cond.instanceMethod yX5_endsWithTicket ∈ lw_tb := lw_up (List.mem_of_getElem? (i := 313) (by decide +kernel)) rfl
theorem qw_314 : Cond.selects RX5 yX5_endsWithTicket yX5_endsWithTicket ∈ lw_tb := lw_up (List.mem_of_getElem? (i := 314) (by decide +kernel)) rfl
theorem qw_331 : Cond.methodLink RX6 59 yX5_cancelLatest ∈ lw_tb := lw_up (List.mem_of_getElem? (i := 331) (by decide +kernel)) rfl
theorem qw_334 : Cond.code yX5_cancelLatest cX5_cancelLatest 2 (some .int) ∈ lw_tb := lw_up (List.mem_of_getElem? (i := 334) (by decide +kernel)) rfl
theorem qw_332 : Cond.instanceMethod yX5_cancelLatest ∈ lw_tb := lw_up (List.mem_of_getElem? (i := 332) (by decide +kernel)) rfl
theorem qw_333 : Cond.selects RX5 yX5_cancelLatest yX5_cancelLatest ∈ lw_tb := lw_up (List.mem_of_getElem? (i := 333) (by decide +kernel)) rfl
theorem qw_339 : Cond.methodLink RX6 63 yX5_closeDay ∈ lw_tb := lw_up (List.mem_of_getElem? (i := 339) (by decide +kernel)) rfl
theorem qw_342 : Cond.code yX5_closeDay cX5_closeDay 2 (some .int) ∈ lw_tb := lw_up (List.mem_of_getElem? (i := 342) (by decide +kernel)) rfl
theorem qw_340 : Cond.instanceMethod yX5_closeDay ∈ lw_tb := lw_up (List.mem_of_getElem? (i := 340) (by decide +kernel)) rfl
theorem qw_341 : Cond.selects RX5 yX5_closeDay yX5_closeDay ∈ lw_tb := lw_up (List.mem_of_getElem? (i := 341) (by decide +kernel)) rfl
theorem qw_347 : Cond.constant RX6 66 50000 ∈ lw_tb := lw_up (List.mem_of_getElem? (i := 347) (by decide +kernel)) rfl
theorem qw_348 : Cond.methodLink RX6 71 yX5_putInPaper ∈ lw_tb := lw_up (List.mem_of_getElem? (i := 348) (by decide +kernel)) rfl
theorem qw_351 : Cond.code yX5_putInPaper cX5_putInPaper 4 (some .int) ∈ lw_tb := lw_up (List.mem_of_getElem? (i := 351) (by decide +kernel)) rfl
theorem qw_349 : Cond.instanceMethod yX5_putInPaper ∈ lw_tb := lw_up (List.mem_of_getElem? (i := 349) (by decide +kernel)) rfl
theorem qw_350 : Cond.selects RX5 yX5_putInPaper yX5_putInPaper ∈ lw_tb := lw_up (List.mem_of_getElem? (i := 350) (by decide +kernel)) rfl
theorem qw_357 : Cond.constant RX6 75 60000 ∈ lw_tb := lw_up (List.mem_of_getElem? (i := 357) (by decide +kernel)) rfl
theorem qw_358 : Cond.methodLink RX6 76 yX5_moveClock ∈ lw_tb := lw_up (List.mem_of_getElem? (i := 358) (by decide +kernel)) rfl
theorem qw_361 : Cond.code yX5_moveClock cX5_moveClock 3 (some .int) ∈ lw_tb := lw_up (List.mem_of_getElem? (i := 361) (by decide +kernel)) rfl
theorem qw_359 : Cond.instanceMethod yX5_moveClock ∈ lw_tb := lw_up (List.mem_of_getElem? (i := 359) (by decide +kernel)) rfl
theorem qw_360 : Cond.selects RX5 yX5_moveClock yX5_moveClock ∈ lw_tb := lw_up (List.mem_of_getElem? (i := 360) (by decide +kernel)) rfl
theorem qw_369 : Cond.methodLink RX6 83 Lib.Math.min.name ∈ lw_tb := lw_up (List.mem_of_getElem? (i := 369) (by decide +kernel)) rfl
theorem qw_370 : Cond.static Lib.Math.min.name ∈ lw_tb := lw_up (List.mem_of_getElem? (i := 370) (by decide +kernel)) rfl
theorem qw_371 : Cond.code Lib.Math.min.name Lib.Math.min.code 2 (some .int) ∈ lw_tb := lw_up (List.mem_of_getElem? (i := 371) (by decide +kernel)) rfl
theorem qw_377 : Cond.methodLink RX6 92 yX5_priceOf ∈ lw_tb := lw_up (List.mem_of_getElem? (i := 377) (by decide +kernel)) rfl
theorem qw_378 : Cond.methodLink RX6 95 yX5_changePrice ∈ lw_tb := lw_up (List.mem_of_getElem? (i := 378) (by decide +kernel)) rfl
theorem qw_381 : Cond.code yX5_changePrice cX5_changePrice 3 none ∈ lw_tb := lw_up (List.mem_of_getElem? (i := 381) (by decide +kernel)) rfl
theorem qw_379 : Cond.instanceMethod yX5_changePrice ∈ lw_tb := lw_up (List.mem_of_getElem? (i := 379) (by decide +kernel)) rfl
theorem qw_380 : Cond.selects RX5 yX5_changePrice yX5_changePrice ∈ lw_tb := lw_up (List.mem_of_getElem? (i := 380) (by decide +kernel)) rfl
theorem qw_390 : Cond.methodLink RX6 108 yX5_losePower ∈ lw_tb := lw_up (List.mem_of_getElem? (i := 390) (by decide +kernel)) rfl
theorem qw_437 : Cond.methodLink RX6 129 yX4_restore ∈ lw_tb := lw_up (List.mem_of_getElem? (i := 437) (by decide +kernel)) rfl
theorem qw_440 : Cond.code yX4_restore cX4_restore 3 none ∈ lw_tb := lw_up (List.mem_of_getElem? (i := 440) (by decide +kernel)) rfl
theorem qw_438 : Cond.instanceMethod yX4_restore ∈ lw_tb := lw_up (List.mem_of_getElem? (i := 438) (by decide +kernel)) rfl
theorem qw_439 : Cond.selects RX4 yX4_restore yX4_restore ∈ lw_tb := lw_up (List.mem_of_getElem? (i := 439) (by decide +kernel)) rfl
theorem qw_445 : Cond.methodLink RX6 202 yX6_isImage ∈ lw_tb := lw_up (List.mem_of_getElem? (i := 445) (by decide +kernel)) rfl
theorem qw_448 : Cond.code yX6_isImage cX6_isImage 2 (some .boolean) ∈ lw_tb := lw_up (List.mem_of_getElem? (i := 448) (by decide +kernel)) rfl
theorem qw_447 : Cond.instanceMethod yX6_isImage ∈ lw_tb := lw_up (List.mem_of_getElem? (i := 447) (by decide +kernel)) rfl
theorem qw_8 : Cond.selects RX6 yX6_isImage yX6_isImage ∈ lw_tb := lw_up (List.mem_of_getElem? (i := 8) (by decide +kernel)) rfl
theorem qw_449 : Cond.methodLink RX6 205 yX1_store ∈ lw_tb := lw_up (List.mem_of_getElem? (i := 449) (by decide +kernel)) rfl
theorem qw_19 : Cond.initialized RX1 ∈ lw_tb := lw_up (List.mem_of_getElem? (i := 19) (by decide +kernel)) rfl
theorem qw_452 : Cond.code yX1_store cX1_store 2 none ∈ lw_tb := lw_up (List.mem_of_getElem? (i := 452) (by decide +kernel)) rfl
theorem qw_450 : Cond.instanceMethod yX1_store ∈ lw_tb := lw_up (List.mem_of_getElem? (i := 450) (by decide +kernel)) rfl
theorem qw_451 : Cond.selects RX1 yX1_store yX1_store ∈ lw_tb := lw_up (List.mem_of_getElem? (i := 451) (by decide +kernel)) rfl
theorem qw_169 : Cond.fieldLinkNest RX6 208 RX1 "filled" "Z" "TicketJournal" ∈ lw_ns := lw_un (List.mem_of_getElem? (i := 169) (by decide +kernel)) rfl
theorem qw_167 : Cond.fieldLinkNest RX6 211 RX1 "state" "LTicketJournal$Printer;" "TicketJournal" ∈ lw_ns := lw_un (List.mem_of_getElem? (i := 167) (by decide +kernel)) rfl
theorem kic_0 : Int32.ofInt 0 = 0 := by decide
theorem kic_1 : Int32.ofInt 1 = 1 := by decide
theorem kic_3 : Int32.ofInt 3 = 3 := by decide
theorem kic_4 : Int32.ofInt 4 = 4 := by decide
theorem kbp_40 : (Int8.ofInt 40).toInt32 = 40 := by decide
theorem kbp_20 : (Int8.ofInt 20).toInt32 = 20 := by decide
theorem kic_5 : Int32.ofInt 5 = 5 := by decide
theorem kbp_7 : (Int8.ofInt 7).toInt32 = 7 := by decide
theorem kbp_11 : (Int8.ofInt 11).toInt32 = 11 := by decide
theorem kbp_13 : (Int8.ofInt 13).toInt32 = 13 := by decide
theorem kic_2 : Int32.ofInt 2 = 2 := by decide
theorem kbp_m9 : (Int8.ofInt (-9)).toInt32 = (-9) := by decide
theorem kbp_22 : (Int8.ofInt 22).toInt32 = 22 := by decide
theorem kbp_6 : (Int8.ofInt 6).toInt32 = 6 := by decide
theorem ksp_10000 : (Int16.ofInt 10000).toInt32 = 10000 := by decide
theorem kbp_110 : (Int8.ofInt 110).toInt32 = 110 := by decide
theorem ksp_1000 : (Int16.ofInt 1000).toInt32 = 1000 := by decide
theorem kbp_m2 : (Int8.ofInt (-2)).toInt32 = (-2) := by decide
theorem kbp_m3 : (Int8.ofInt (-3)).toInt32 = (-3) := by decide
theorem kic_m1 : Int32.ofInt (-1) = (-1) := by decide
theorem kbp_m4 : (Int8.ofInt (-4)).toInt32 = (-4) := by decide
theorem kbp_8 : (Int8.ofInt 8).toInt32 = 8 := by decide
theorem kbp_21 : (Int8.ofInt 21).toInt32 = 21 := by decide
theorem kbp_30 : (Int8.ofInt 30).toInt32 = 30 := by decide
theorem ksp_5000 : (Int16.ofInt 5000).toInt32 = 5000 := by decide
theorem ksp_999 : (Int16.ofInt 999).toInt32 = 999 := by decide
theorem kbp_100 : (Int8.ofInt 100).toInt32 = 100 := by decide
theorem ms_X6_isWithin : mSo yX6_isWithin cX6_isWithin 3 3 (some .boolean) := ⟨qw_196, qw_13, qw_197, by decide +kernel⟩
theorem mv_X0_spendOperation : mVo yX0_spendOperation cX0_spendOperation 1 0 (some .boolean) := ⟨qw_282, qw_4, qw_15, qw_283, by decide +kernel⟩
theorem mv_X0_read : mVo yX0_read cX0_read 4 2 (some .int) := ⟨qw_269, qw_270, qw_15, qw_271, by decide +kernel⟩
theorem ms_X6_headerCheck : mSo yX6_headerCheck cX6_headerCheck 5 5 (some .int) := ⟨qw_273, qw_13, qw_274, by decide +kernel⟩
theorem mv_X0_recordWord : mVo yX0_recordWord cX0_recordWord 4 3 (some .int) := ⟨qw_325, qw_326, qw_15, qw_327, by decide +kernel⟩
theorem mv_X0_isEmpty : mVo yX0_isEmpty cX0_isEmpty 4 2 (some .boolean) := ⟨qw_322, qw_6, qw_15, qw_323, by decide +kernel⟩
theorem ms_X6_recordCheck : mSo yX6_recordCheck cX6_recordCheck 4 4 (some .int) := ⟨qw_293, qw_13, qw_294, by decide +kernel⟩
theorem mv_X0_stateOf : mVo yX0_stateOf cX0_stateOf 4 2 (some .int) := ⟨qw_317, qw_318, qw_15, qw_319, by decide +kernel⟩
theorem mv_X0_isWhole : mVo yX0_isWhole cX0_isWhole 3 1 (some .boolean) := ⟨qw_400, qw_401, qw_15, qw_402, by decide +kernel⟩
theorem mv_X0_tallyIn : mVo yX0_tallyIn cX0_tallyIn 5 2 (some .int) := ⟨qw_396, qw_397, qw_15, qw_398, by decide +kernel⟩
theorem mv_X0_isFollowed : mVo yX0_isFollowed cX0_isFollowed 4 1 (some .boolean) := ⟨qw_423, qw_7, qw_15, qw_424, by decide +kernel⟩
theorem ms_X6_lengthOf : mSo yX6_lengthOf cX6_lengthOf 1 1 (some .int) := ⟨qw_230, qw_13, qw_231, by decide +kernel⟩
theorem mv_X3_learn : mVo yX3_learn cX3_learn 4 2 none := ⟨qw_304, qw_305, qw_16, qw_306, by decide +kernel⟩
theorem mv_X0_newestBlock : mVo yX0_newestBlock cX0_newestBlock 2 0 (some .int) := ⟨qw_418, qw_419, qw_15, qw_420, by decide +kernel⟩
theorem mv_X0_nextPlaceIn : mVo yX0_nextPlaceIn cX0_nextPlaceIn 3 1 (some .int) := ⟨qw_426, qw_427, qw_15, qw_428, by decide +kernel⟩
theorem mv_X0_copyFrom : mVo yX0_copyFrom cX0_copyFrom 2 1 none := ⟨qw_245, qw_246, qw_15, qw_247, by decide +kernel⟩
theorem mv_X3_copyFrom : mVo yX3_copyFrom cX3_copyFrom 2 1 none := ⟨qw_252, qw_253, qw_16, qw_254, by decide +kernel⟩
theorem ms_X6_isSort : mSo yX6_isSort cX6_isSort 1 1 (some .boolean) := ⟨qw_222, qw_13, qw_223, by decide +kernel⟩
theorem mv_X5_priceOf : mVo yX5_priceOf cX5_priceOf 2 1 (some .int) := ⟨qw_225, qw_226, qw_14, qw_227, by decide +kernel⟩
theorem mv_X3_forget : mVo yX3_forget cX3_forget 1 0 none := ⟨qw_300, qw_301, qw_16, qw_302, by decide +kernel⟩
theorem mv_X3_recall : mVo yX3_recall cX3_recall 3 1 none := ⟨qw_414, qw_415, qw_16, qw_416, by decide +kernel⟩
theorem mv_X0_erase : mVo yX0_erase cX0_erase 3 1 (some .boolean) := ⟨qw_277, qw_278, qw_15, qw_279, by decide +kernel⟩
theorem mv_X0_write : mVo yX0_write cX0_write 5 3 (some .boolean) := ⟨qw_285, qw_286, qw_15, qw_287, by decide +kernel⟩
theorem mv_X5_losePower : mVo yX5_losePower cX5_losePower 1 0 none := ⟨qw_296, qw_297, qw_14, qw_298, by decide +kernel⟩
theorem mv_X5_fillPlace : mVo yX5_fillPlace cX5_fillPlace 7 3 (some .boolean) := ⟨qw_290, qw_5, qw_14, qw_291, by decide +kernel⟩
theorem mv_X5_beginBlock : mVo yX5_beginBlock cX5_beginBlock 5 0 (some .boolean) := ⟨qw_266, qw_3, qw_14, qw_267, by decide +kernel⟩
theorem mv_X5_writeRecord : mVo yX5_writeRecord cX5_writeRecord 6 3 (some .boolean) := ⟨qw_262, qw_2, qw_14, qw_263, by decide +kernel⟩
theorem mv_X2_setDetail : mVo yX2_setDetail cX2_setDetail 4 2 none := ⟨qw_480, qw_10, qw_17, qw_481, by decide +kernel⟩
theorem mv_X2_add : mVo yX2_add cX2_add 5 3 none := ⟨qw_475, qw_9, qw_17, qw_476, by decide +kernel⟩
theorem mv_X2_detail : mVo yX2_detail cX2_detail 4 2 (some .int) := ⟨qw_487, qw_488, qw_17, qw_489, by decide +kernel⟩
theorem mv_X4_stateAt : mVo yX4_stateAt cX4_stateAt 3 1 (some (.object "TicketJournal$Printer")) := ⟨qw_238, qw_1, qw_18, qw_239, by decide +kernel⟩
theorem mv_X5_copyFrom : mVo yX5_copyFrom cX5_copyFrom 2 1 none := ⟨qw_241, qw_242, qw_14, qw_243, by decide +kernel⟩
theorem ms_X6_isBlock : mSo yX6_isBlock cX6_isBlock 1 1 (some .boolean) := ⟨qw_495, qw_13, qw_496, by decide +kernel⟩
theorem mv_X0_erasuresOf : mVo yX0_erasuresOf cX0_erasuresOf 2 1 (some .int) := ⟨qw_501, qw_502, qw_15, qw_503, by decide +kernel⟩
theorem mv_X6_knownNumber : mVo yX6_knownNumber cX6_knownNumber 2 1 (some .int) := ⟨qw_200, qw_0, qw_13, qw_201, by decide +kernel⟩
theorem mv_X5_issueTicket : mVo yX5_issueTicket cX5_issueTicket 4 1 (some .int) := ⟨qw_257, qw_258, qw_14, qw_259, by decide +kernel⟩
theorem mv_X5_refusalOf : mVo yX5_refusalOf cX5_refusalOf 2 1 (some .int) := ⟨qw_218, qw_219, qw_14, qw_220, by decide +kernel⟩
theorem mv_X6_trySale : mVo yX6_trySale cX6_trySale 3 2 none := ⟨qw_539, qw_11, qw_13, qw_540, by decide +kernel⟩
theorem mv_X0_tally : mVo yX0_tally cX0_tally 4 1 (some .int) := ⟨qw_392, qw_393, qw_15, qw_394, by decide +kernel⟩
theorem mv_X5_wake : mVo yX5_wake cX5_wake 1 0 none := ⟨qw_410, qw_411, qw_14, qw_412, by decide +kernel⟩
theorem mv_X2_gather : mVo yX2_gather cX2_gather 7 1 (some (.object "TicketJournal$Journal")) := ⟨qw_467, qw_468, qw_17, qw_469, by decide +kernel⟩
theorem mv_X2_countOf : mVo yX2_countOf cX2_countOf 4 1 (some .int) := ⟨qw_483, qw_484, qw_17, qw_485, by decide +kernel⟩
theorem mv_X2_pricesOf : mVo yX2_pricesOf cX2_pricesOf 7 2 (some .int) := ⟨qw_515, qw_516, qw_17, qw_517, by decide +kernel⟩
theorem mv_X4_remember : mVo yX4_remember cX4_remember 3 1 none := ⟨qw_233, qw_234, qw_18, qw_235, by decide +kernel⟩
theorem mv_X5_endsWithTicket : mVo yX5_endsWithTicket cX5_endsWithTicket 2 0 (some .boolean) := ⟨qw_313, qw_314, qw_14, qw_315, by decide +kernel⟩
theorem mv_X5_cancelLatest : mVo yX5_cancelLatest cX5_cancelLatest 2 0 (some .int) := ⟨qw_332, qw_333, qw_14, qw_334, by decide +kernel⟩
theorem mv_X5_closeDay : mVo yX5_closeDay cX5_closeDay 2 0 (some .int) := ⟨qw_340, qw_341, qw_14, qw_342, by decide +kernel⟩
theorem mv_X5_putInPaper : mVo yX5_putInPaper cX5_putInPaper 4 2 (some .int) := ⟨qw_349, qw_350, qw_14, qw_351, by decide +kernel⟩
theorem mv_X5_moveClock : mVo yX5_moveClock cX5_moveClock 3 1 (some .int) := ⟨qw_359, qw_360, qw_14, qw_361, by decide +kernel⟩
theorem mv_X5_changePrice : mVo yX5_changePrice cX5_changePrice 3 2 none := ⟨qw_379, qw_380, qw_14, qw_381, by decide +kernel⟩
theorem mv_X4_restore : mVo yX4_restore cX4_restore 3 1 none := ⟨qw_438, qw_439, qw_18, qw_440, by decide +kernel⟩
theorem mv_X6_isImage : mVo yX6_isImage cX6_isImage 2 1 (some .boolean) := ⟨qw_447, qw_8, qw_13, qw_448, by decide +kernel⟩
theorem mv_X1_store : mVo yX1_store cX1_store 2 1 none := ⟨qw_450, qw_451, qw_19, qw_452, by decide +kernel⟩
theorem gf_X0_2 {X : CX} {Z : GZ} {R : Room} {cc : ByteArray} {own : String} {nL kc ks : Nat} {ws : va_W} {pc : Nat} {lv : List (Nat × Value)} {st : List Value} {ix a : Nat} {fs : List Value} {v : Value} (q0 : Nat) (he : ws[q0]? = some (a, .inr (0, fs))) (hv : fs[2]? = some v) (q : Cond.fieldLink own ix RX0 "done" "I" ∈ lw_tb) (d : decode cc pc = .ok (.getfield ix, 3)) (kk : AtK X Z R cc own nL kc ks ws (pc + 3) lv (v :: st)) : AtK X Z R cc own nL kc ks ws pc lv (.ref a :: st) := r_getf (T := TX0) (N := 4) kX0 rfl 2 (by decide) rfl q0 he hv q d kk
theorem pf_X0_2 {X : CX} {Z : GZ} {R : Room} {cc : ByteArray} {own : String} {nL kc ks : Nat} {ws : va_W} {pc : Nat} {lv : List (Nat × Value)} {st : List Value} {ix a : Nat} {fs : List Value} {x : Int32} (q0 : Nat) (he : ws[q0]? = some (a, .inr (0, fs))) (hle : 2 < fs.length) (q : Cond.fieldLink own ix RX0 "done" "I" ∈ lw_tb) (d : decode cc pc = .ok (.putfield ix, 3)) {ws' : va_W} (hw9 : ws.set q0 (a, .inr (0, fs.set 2 (.int x))) = ws') (kk : AtK X Z R cc own nL kc ks ws' (pc + 3) lv st) : AtK X Z R cc own nL kc ks ws pc lv (.int x :: .ref a :: st) := r_putf (T := TX0) (N := 4) (host := "") kX0 rfl 2 (by decide) rfl tyX0 tyX0_ok nmX0 rfl (ty := .int) (by decide +kernel) rfl rfl q0 he hle q d hw9 kk
theorem gf_X0_3 {X : CX} {Z : GZ} {R : Room} {cc : ByteArray} {own : String} {nL kc ks : Nat} {ws : va_W} {pc : Nat} {lv : List (Nat × Value)} {st : List Value} {ix a : Nat} {fs : List Value} {v : Value} (q0 : Nat) (he : ws[q0]? = some (a, .inr (0, fs))) (hv : fs[3]? = some v) (q : Cond.fieldLink own ix RX0 "left" "I" ∈ lw_tb) (d : decode cc pc = .ok (.getfield ix, 3)) (kk : AtK X Z R cc own nL kc ks ws (pc + 3) lv (v :: st)) : AtK X Z R cc own nL kc ks ws pc lv (.ref a :: st) := r_getf (T := TX0) (N := 4) kX0 rfl 3 (by decide) rfl q0 he hv q d kk
theorem pf_X0_3 {X : CX} {Z : GZ} {R : Room} {cc : ByteArray} {own : String} {nL kc ks : Nat} {ws : va_W} {pc : Nat} {lv : List (Nat × Value)} {st : List Value} {ix a : Nat} {fs : List Value} {x : Int32} (q0 : Nat) (he : ws[q0]? = some (a, .inr (0, fs))) (hle : 3 < fs.length) (q : Cond.fieldLink own ix RX0 "left" "I" ∈ lw_tb) (d : decode cc pc = .ok (.putfield ix, 3)) {ws' : va_W} (hw9 : ws.set q0 (a, .inr (0, fs.set 3 (.int x))) = ws') (kk : AtK X Z R cc own nL kc ks ws' (pc + 3) lv st) : AtK X Z R cc own nL kc ks ws pc lv (.int x :: .ref a :: st) := r_putf (T := TX0) (N := 4) (host := "") kX0 rfl 3 (by decide) rfl tyX0 tyX0_ok nmX0 rfl (ty := .int) (by decide +kernel) rfl rfl q0 he hle q d hw9 kk
theorem gf_X0_0 {X : CX} {Z : GZ} {R : Room} {cc : ByteArray} {own : String} {nL kc ks : Nat} {ws : va_W} {pc : Nat} {lv : List (Nat × Value)} {st : List Value} {ix a : Nat} {fs : List Value} {v : Value} (q0 : Nat) (he : ws[q0]? = some (a, .inr (0, fs))) (hv : fs[0]? = some v) (q : Cond.fieldLink own ix RX0 "words" "[I" ∈ lw_tb) (d : decode cc pc = .ok (.getfield ix, 3)) (kk : AtK X Z R cc own nL kc ks ws (pc + 3) lv (v :: st)) : AtK X Z R cc own nL kc ks ws pc lv (.ref a :: st) := r_getf (T := TX0) (N := 4) kX0 rfl 0 (by decide) rfl q0 he hv q d kk
theorem gf_X0_1 {X : CX} {Z : GZ} {R : Room} {cc : ByteArray} {own : String} {nL kc ks : Nat} {ws : va_W} {pc : Nat} {lv : List (Nat × Value)} {st : List Value} {ix a : Nat} {fs : List Value} {v : Value} (q0 : Nat) (he : ws[q0]? = some (a, .inr (0, fs))) (hv : fs[1]? = some v) (q : Cond.fieldLink own ix RX0 "erasures" "[I" ∈ lw_tb) (d : decode cc pc = .ok (.getfield ix, 3)) (kk : AtK X Z R cc own nL kc ks ws (pc + 3) lv (v :: st)) : AtK X Z R cc own nL kc ks ws pc lv (.ref a :: st) := r_getf (T := TX0) (N := 4) kX0 rfl 1 (by decide) rfl q0 he hv q d kk
theorem gf_X3_0 {X : CX} {Z : GZ} {R : Room} {cc : ByteArray} {own : String} {nL kc ks : Nat} {ws : va_W} {pc : Nat} {lv : List (Nat × Value)} {st : List Value} {ix a : Nat} {fs : List Value} {v : Value} (q0 : Nat) (he : ws[q0]? = some (a, .inr (3, fs))) (hv : fs[0]? = some v) (q : Cond.fieldLink own ix RX3 "current" "I" ∈ lw_tb) (d : decode cc pc = .ok (.getfield ix, 3)) (kk : AtK X Z R cc own nL kc ks ws (pc + 3) lv (v :: st)) : AtK X Z R cc own nL kc ks ws pc lv (.ref a :: st) := r_getf (T := TX3) (N := 6) kX3 rfl 0 (by decide) rfl q0 he hv q d kk
theorem pf_X3_0 {X : CX} {Z : GZ} {R : Room} {cc : ByteArray} {own : String} {nL kc ks : Nat} {ws : va_W} {pc : Nat} {lv : List (Nat × Value)} {st : List Value} {ix a : Nat} {fs : List Value} {x : Int32} (q0 : Nat) (he : ws[q0]? = some (a, .inr (3, fs))) (hle : 0 < fs.length) (q : Cond.fieldLink own ix RX3 "current" "I" ∈ lw_tb) (d : decode cc pc = .ok (.putfield ix, 3)) {ws' : va_W} (hw9 : ws.set q0 (a, .inr (3, fs.set 0 (.int x))) = ws') (kk : AtK X Z R cc own nL kc ks ws' (pc + 3) lv st) : AtK X Z R cc own nL kc ks ws pc lv (.int x :: .ref a :: st) := r_putf (T := TX3) (N := 6) (host := "") kX3 rfl 0 (by decide) rfl tyX3 tyX3_ok nmX3 rfl (ty := .int) (by decide +kernel) rfl rfl q0 he hle q d hw9 kk
theorem gf_X3_1 {X : CX} {Z : GZ} {R : Room} {cc : ByteArray} {own : String} {nL kc ks : Nat} {ws : va_W} {pc : Nat} {lv : List (Nat × Value)} {st : List Value} {ix a : Nat} {fs : List Value} {v : Value} (q0 : Nat) (he : ws[q0]? = some (a, .inr (3, fs))) (hv : fs[1]? = some v) (q : Cond.fieldLink own ix RX3 "next" "I" ∈ lw_tb) (d : decode cc pc = .ok (.getfield ix, 3)) (kk : AtK X Z R cc own nL kc ks ws (pc + 3) lv (v :: st)) : AtK X Z R cc own nL kc ks ws pc lv (.ref a :: st) := r_getf (T := TX3) (N := 6) kX3 rfl 1 (by decide) rfl q0 he hv q d kk
theorem pf_X3_1 {X : CX} {Z : GZ} {R : Room} {cc : ByteArray} {own : String} {nL kc ks : Nat} {ws : va_W} {pc : Nat} {lv : List (Nat × Value)} {st : List Value} {ix a : Nat} {fs : List Value} {x : Int32} (q0 : Nat) (he : ws[q0]? = some (a, .inr (3, fs))) (hle : 1 < fs.length) (q : Cond.fieldLink own ix RX3 "next" "I" ∈ lw_tb) (d : decode cc pc = .ok (.putfield ix, 3)) {ws' : va_W} (hw9 : ws.set q0 (a, .inr (3, fs.set 1 (.int x))) = ws') (kk : AtK X Z R cc own nL kc ks ws' (pc + 3) lv st) : AtK X Z R cc own nL kc ks ws pc lv (.int x :: .ref a :: st) := r_putf (T := TX3) (N := 6) (host := "") kX3 rfl 1 (by decide) rfl tyX3 tyX3_ok nmX3 rfl (ty := .int) (by decide +kernel) rfl rfl q0 he hle q d hw9 kk
theorem gf_X3_2 {X : CX} {Z : GZ} {R : Room} {cc : ByteArray} {own : String} {nL kc ks : Nat} {ws : va_W} {pc : Nat} {lv : List (Nat × Value)} {st : List Value} {ix a : Nat} {fs : List Value} {v : Value} (q0 : Nat) (he : ws[q0]? = some (a, .inr (3, fs))) (hv : fs[2]? = some v) (q : Cond.fieldLink own ix RX3 "number" "I" ∈ lw_tb) (d : decode cc pc = .ok (.getfield ix, 3)) (kk : AtK X Z R cc own nL kc ks ws (pc + 3) lv (v :: st)) : AtK X Z R cc own nL kc ks ws pc lv (.ref a :: st) := r_getf (T := TX3) (N := 6) kX3 rfl 2 (by decide) rfl q0 he hv q d kk
theorem pf_X3_2 {X : CX} {Z : GZ} {R : Room} {cc : ByteArray} {own : String} {nL kc ks : Nat} {ws : va_W} {pc : Nat} {lv : List (Nat × Value)} {st : List Value} {ix a : Nat} {fs : List Value} {x : Int32} (q0 : Nat) (he : ws[q0]? = some (a, .inr (3, fs))) (hle : 2 < fs.length) (q : Cond.fieldLink own ix RX3 "number" "I" ∈ lw_tb) (d : decode cc pc = .ok (.putfield ix, 3)) {ws' : va_W} (hw9 : ws.set q0 (a, .inr (3, fs.set 2 (.int x))) = ws') (kk : AtK X Z R cc own nL kc ks ws' (pc + 3) lv st) : AtK X Z R cc own nL kc ks ws pc lv (.int x :: .ref a :: st) := r_putf (T := TX3) (N := 6) (host := "") kX3 rfl 2 (by decide) rfl tyX3 tyX3_ok nmX3 rfl (ty := .int) (by decide +kernel) rfl rfl q0 he hle q d hw9 kk
theorem gf_X3_3 {X : CX} {Z : GZ} {R : Room} {cc : ByteArray} {own : String} {nL kc ks : Nat} {ws : va_W} {pc : Nat} {lv : List (Nat × Value)} {st : List Value} {ix a : Nat} {fs : List Value} {v : Value} (q0 : Nat) (he : ws[q0]? = some (a, .inr (3, fs))) (hv : fs[3]? = some v) (q : Cond.fieldLink own ix RX3 "sum" "I" ∈ lw_tb) (d : decode cc pc = .ok (.getfield ix, 3)) (kk : AtK X Z R cc own nL kc ks ws (pc + 3) lv (v :: st)) : AtK X Z R cc own nL kc ks ws pc lv (.ref a :: st) := r_getf (T := TX3) (N := 6) kX3 rfl 3 (by decide) rfl q0 he hv q d kk
theorem pf_X3_3 {X : CX} {Z : GZ} {R : Room} {cc : ByteArray} {own : String} {nL kc ks : Nat} {ws : va_W} {pc : Nat} {lv : List (Nat × Value)} {st : List Value} {ix a : Nat} {fs : List Value} {x : Int32} (q0 : Nat) (he : ws[q0]? = some (a, .inr (3, fs))) (hle : 3 < fs.length) (q : Cond.fieldLink own ix RX3 "sum" "I" ∈ lw_tb) (d : decode cc pc = .ok (.putfield ix, 3)) {ws' : va_W} (hw9 : ws.set q0 (a, .inr (3, fs.set 3 (.int x))) = ws') (kk : AtK X Z R cc own nL kc ks ws' (pc + 3) lv st) : AtK X Z R cc own nL kc ks ws pc lv (.int x :: .ref a :: st) := r_putf (T := TX3) (N := 6) (host := "") kX3 rfl 3 (by decide) rfl tyX3 tyX3_ok nmX3 rfl (ty := .int) (by decide +kernel) rfl rfl q0 he hle q d hw9 kk
theorem gf_X3_4 {X : CX} {Z : GZ} {R : Room} {cc : ByteArray} {own : String} {nL kc ks : Nat} {ws : va_W} {pc : Nat} {lv : List (Nat × Value)} {st : List Value} {ix a : Nat} {fs : List Value} {v : Value} (q0 : Nat) (he : ws[q0]? = some (a, .inr (3, fs))) (hv : fs[4]? = some v) (q : Cond.fieldLink own ix RX3 "tickets" "I" ∈ lw_tb) (d : decode cc pc = .ok (.getfield ix, 3)) (kk : AtK X Z R cc own nL kc ks ws (pc + 3) lv (v :: st)) : AtK X Z R cc own nL kc ks ws pc lv (.ref a :: st) := r_getf (T := TX3) (N := 6) kX3 rfl 4 (by decide) rfl q0 he hv q d kk
theorem pf_X3_4 {X : CX} {Z : GZ} {R : Room} {cc : ByteArray} {own : String} {nL kc ks : Nat} {ws : va_W} {pc : Nat} {lv : List (Nat × Value)} {st : List Value} {ix a : Nat} {fs : List Value} {x : Int32} (q0 : Nat) (he : ws[q0]? = some (a, .inr (3, fs))) (hle : 4 < fs.length) (q : Cond.fieldLink own ix RX3 "tickets" "I" ∈ lw_tb) (d : decode cc pc = .ok (.putfield ix, 3)) {ws' : va_W} (hw9 : ws.set q0 (a, .inr (3, fs.set 4 (.int x))) = ws') (kk : AtK X Z R cc own nL kc ks ws' (pc + 3) lv st) : AtK X Z R cc own nL kc ks ws pc lv (.int x :: .ref a :: st) := r_putf (T := TX3) (N := 6) (host := "") kX3 rfl 4 (by decide) rfl tyX3 tyX3_ok nmX3 rfl (ty := .int) (by decide +kernel) rfl rfl q0 he hle q d hw9 kk
theorem gf_X3_5 {X : CX} {Z : GZ} {R : Room} {cc : ByteArray} {own : String} {nL kc ks : Nat} {ws : va_W} {pc : Nat} {lv : List (Nat × Value)} {st : List Value} {ix a : Nat} {fs : List Value} {v : Value} (q0 : Nat) (he : ws[q0]? = some (a, .inr (3, fs))) (hv : fs[5]? = some v) (q : Cond.fieldLink own ix RX3 "paper" "I" ∈ lw_tb) (d : decode cc pc = .ok (.getfield ix, 3)) (kk : AtK X Z R cc own nL kc ks ws (pc + 3) lv (v :: st)) : AtK X Z R cc own nL kc ks ws pc lv (.ref a :: st) := r_getf (T := TX3) (N := 6) kX3 rfl 5 (by decide) rfl q0 he hv q d kk
theorem pf_X3_5 {X : CX} {Z : GZ} {R : Room} {cc : ByteArray} {own : String} {nL kc ks : Nat} {ws : va_W} {pc : Nat} {lv : List (Nat × Value)} {st : List Value} {ix a : Nat} {fs : List Value} {x : Int32} (q0 : Nat) (he : ws[q0]? = some (a, .inr (3, fs))) (hle : 5 < fs.length) (q : Cond.fieldLink own ix RX3 "paper" "I" ∈ lw_tb) (d : decode cc pc = .ok (.putfield ix, 3)) {ws' : va_W} (hw9 : ws.set q0 (a, .inr (3, fs.set 5 (.int x))) = ws') (kk : AtK X Z R cc own nL kc ks ws' (pc + 3) lv st) : AtK X Z R cc own nL kc ks ws pc lv (.int x :: .ref a :: st) := r_putf (T := TX3) (N := 6) (host := "") kX3 rfl 5 (by decide) rfl tyX3 tyX3_ok nmX3 rfl (ty := .int) (by decide +kernel) rfl rfl q0 he hle q d hw9 kk
theorem gf_X5_0 {X : CX} {Z : GZ} {R : Room} {cc : ByteArray} {own : String} {nL kc ks : Nat} {ws : va_W} {pc : Nat} {lv : List (Nat × Value)} {st : List Value} {ix a : Nat} {fs : List Value} {v : Value} (q0 : Nat) (he : ws[q0]? = some (a, .inr (5, fs))) (hv : fs[0]? = some v) (q : Cond.fieldLink own ix RX5 "flash" "LTicketJournal$Flash;" ∈ lw_tb) (d : decode cc pc = .ok (.getfield ix, 3)) (kk : AtK X Z R cc own nL kc ks ws (pc + 3) lv (v :: st)) : AtK X Z R cc own nL kc ks ws pc lv (.ref a :: st) := r_getf (T := TX5) (N := 7) kX5 rfl 0 (by decide) rfl q0 he hv q d kk
theorem gf_X5_1 {X : CX} {Z : GZ} {R : Room} {cc : ByteArray} {own : String} {nL kc ks : Nat} {ws : va_W} {pc : Nat} {lv : List (Nat × Value)} {st : List Value} {ix a : Nat} {fs : List Value} {v : Value} (q0 : Nat) (he : ws[q0]? = some (a, .inr (5, fs))) (hv : fs[1]? = some v) (q : Cond.fieldLink own ix RX5 "memory" "LTicketJournal$Memory;" ∈ lw_tb) (d : decode cc pc = .ok (.getfield ix, 3)) (kk : AtK X Z R cc own nL kc ks ws (pc + 3) lv (v :: st)) : AtK X Z R cc own nL kc ks ws pc lv (.ref a :: st) := r_getf (T := TX5) (N := 7) kX5 rfl 1 (by decide) rfl q0 he hv q d kk
theorem gf_X5_2 {X : CX} {Z : GZ} {R : Room} {cc : ByteArray} {own : String} {nL kc ks : Nat} {ws : va_W} {pc : Nat} {lv : List (Nat × Value)} {st : List Value} {ix a : Nat} {fs : List Value} {v : Value} (q0 : Nat) (he : ws[q0]? = some (a, .inr (5, fs))) (hv : fs[2]? = some v) (q : Cond.fieldLink own ix RX5 "prices" "[I" ∈ lw_tb) (d : decode cc pc = .ok (.getfield ix, 3)) (kk : AtK X Z R cc own nL kc ks ws (pc + 3) lv (v :: st)) : AtK X Z R cc own nL kc ks ws pc lv (.ref a :: st) := r_getf (T := TX5) (N := 7) kX5 rfl 2 (by decide) rfl q0 he hv q d kk
theorem gf_X5_3 {X : CX} {Z : GZ} {R : Room} {cc : ByteArray} {own : String} {nL kc ks : Nat} {ws : va_W} {pc : Nat} {lv : List (Nat × Value)} {st : List Value} {ix a : Nat} {fs : List Value} {v : Value} (q0 : Nat) (he : ws[q0]? = some (a, .inr (5, fs))) (hv : fs[3]? = some v) (q : Cond.fieldLink own ix RX5 "on" "Z" ∈ lw_tb) (d : decode cc pc = .ok (.getfield ix, 3)) (kk : AtK X Z R cc own nL kc ks ws (pc + 3) lv (v :: st)) : AtK X Z R cc own nL kc ks ws pc lv (.ref a :: st) := r_getf (T := TX5) (N := 7) kX5 rfl 3 (by decide) rfl q0 he hv q d kk
theorem pf_X5_3 {X : CX} {Z : GZ} {R : Room} {cc : ByteArray} {own : String} {nL kc ks : Nat} {ws : va_W} {pc : Nat} {lv : List (Nat × Value)} {st : List Value} {ix a : Nat} {fs : List Value} {x : Int32} (hz : x = 0 ∨ x = 1) (q0 : Nat) (he : ws[q0]? = some (a, .inr (5, fs))) (hle : 3 < fs.length) (q : Cond.fieldLink own ix RX5 "on" "Z" ∈ lw_tb) (d : decode cc pc = .ok (.putfield ix, 3)) {ws' : va_W} (hw9 : ws.set q0 (a, .inr (5, fs.set 3 (.int x))) = ws') (kk : AtK X Z R cc own nL kc ks ws' (pc + 3) lv st) : AtK X Z R cc own nL kc ks ws pc lv (.int x :: .ref a :: st) := r_putf (T := TX5) (N := 7) (host := "") kX5 rfl 3 (by decide) rfl tyX5 tyX5_ok nmX5 rfl (ty := .boolean) (by decide +kernel) (bzn hz).1 (bzn hz).2 q0 he hle q d hw9 kk
theorem gf_X5_4 {X : CX} {Z : GZ} {R : Room} {cc : ByteArray} {own : String} {nL kc ks : Nat} {ws : va_W} {pc : Nat} {lv : List (Nat × Value)} {st : List Value} {ix a : Nat} {fs : List Value} {v : Value} (q0 : Nat) (he : ws[q0]? = some (a, .inr (5, fs))) (hv : fs[4]? = some v) (q : Cond.fieldLink own ix RX5 "time" "I" ∈ lw_tb) (d : decode cc pc = .ok (.getfield ix, 3)) (kk : AtK X Z R cc own nL kc ks ws (pc + 3) lv (v :: st)) : AtK X Z R cc own nL kc ks ws pc lv (.ref a :: st) := r_getf (T := TX5) (N := 7) kX5 rfl 4 (by decide) rfl q0 he hv q d kk
theorem pf_X5_4 {X : CX} {Z : GZ} {R : Room} {cc : ByteArray} {own : String} {nL kc ks : Nat} {ws : va_W} {pc : Nat} {lv : List (Nat × Value)} {st : List Value} {ix a : Nat} {fs : List Value} {x : Int32} (q0 : Nat) (he : ws[q0]? = some (a, .inr (5, fs))) (hle : 4 < fs.length) (q : Cond.fieldLink own ix RX5 "time" "I" ∈ lw_tb) (d : decode cc pc = .ok (.putfield ix, 3)) {ws' : va_W} (hw9 : ws.set q0 (a, .inr (5, fs.set 4 (.int x))) = ws') (kk : AtK X Z R cc own nL kc ks ws' (pc + 3) lv st) : AtK X Z R cc own nL kc ks ws pc lv (.int x :: .ref a :: st) := r_putf (T := TX5) (N := 7) (host := "") kX5 rfl 4 (by decide) rfl tyX5 tyX5_ok nmX5 rfl (ty := .int) (by decide +kernel) rfl rfl q0 he hle q d hw9 kk
theorem gf_X5_5 {X : CX} {Z : GZ} {R : Room} {cc : ByteArray} {own : String} {nL kc ks : Nat} {ws : va_W} {pc : Nat} {lv : List (Nat × Value)} {st : List Value} {ix a : Nat} {fs : List Value} {v : Value} (q0 : Nat) (he : ws[q0]? = some (a, .inr (5, fs))) (hv : fs[5]? = some v) (q : Cond.fieldLink own ix RX5 "there" "I" ∈ lw_tb) (d : decode cc pc = .ok (.getfield ix, 3)) (kk : AtK X Z R cc own nL kc ks ws (pc + 3) lv (v :: st)) : AtK X Z R cc own nL kc ks ws pc lv (.ref a :: st) := r_getf (T := TX5) (N := 7) kX5 rfl 5 (by decide) rfl q0 he hv q d kk
theorem pf_X5_5 {X : CX} {Z : GZ} {R : Room} {cc : ByteArray} {own : String} {nL kc ks : Nat} {ws : va_W} {pc : Nat} {lv : List (Nat × Value)} {st : List Value} {ix a : Nat} {fs : List Value} {x : Int32} (q0 : Nat) (he : ws[q0]? = some (a, .inr (5, fs))) (hle : 5 < fs.length) (q : Cond.fieldLink own ix RX5 "there" "I" ∈ lw_tb) (d : decode cc pc = .ok (.putfield ix, 3)) {ws' : va_W} (hw9 : ws.set q0 (a, .inr (5, fs.set 5 (.int x))) = ws') (kk : AtK X Z R cc own nL kc ks ws' (pc + 3) lv st) : AtK X Z R cc own nL kc ks ws pc lv (.int x :: .ref a :: st) := r_putf (T := TX5) (N := 7) (host := "") kX5 rfl 5 (by decide) rfl tyX5 tyX5_ok nmX5 rfl (ty := .int) (by decide +kernel) rfl rfl q0 he hle q d hw9 kk
theorem gf_X5_6 {X : CX} {Z : GZ} {R : Room} {cc : ByteArray} {own : String} {nL kc ks : Nat} {ws : va_W} {pc : Nat} {lv : List (Nat × Value)} {st : List Value} {ix a : Nat} {fs : List Value} {v : Value} (q0 : Nat) (he : ws[q0]? = some (a, .inr (5, fs))) (hv : fs[6]? = some v) (q : Cond.fieldLink own ix RX5 "printed" "I" ∈ lw_tb) (d : decode cc pc = .ok (.getfield ix, 3)) (kk : AtK X Z R cc own nL kc ks ws (pc + 3) lv (v :: st)) : AtK X Z R cc own nL kc ks ws pc lv (.ref a :: st) := r_getf (T := TX5) (N := 7) kX5 rfl 6 (by decide) rfl q0 he hv q d kk
theorem pf_X5_6 {X : CX} {Z : GZ} {R : Room} {cc : ByteArray} {own : String} {nL kc ks : Nat} {ws : va_W} {pc : Nat} {lv : List (Nat × Value)} {st : List Value} {ix a : Nat} {fs : List Value} {x : Int32} (q0 : Nat) (he : ws[q0]? = some (a, .inr (5, fs))) (hle : 6 < fs.length) (q : Cond.fieldLink own ix RX5 "printed" "I" ∈ lw_tb) (d : decode cc pc = .ok (.putfield ix, 3)) {ws' : va_W} (hw9 : ws.set q0 (a, .inr (5, fs.set 6 (.int x))) = ws') (kk : AtK X Z R cc own nL kc ks ws' (pc + 3) lv st) : AtK X Z R cc own nL kc ks ws pc lv (.int x :: .ref a :: st) := r_putf (T := TX5) (N := 7) (host := "") kX5 rfl 6 (by decide) rfl tyX5 tyX5_ok nmX5 rfl (ty := .int) (by decide +kernel) rfl rfl q0 he hle q d hw9 kk
theorem gfN_X3_3 {X : CX} {Z : GZ} {R : Room} {cc : ByteArray} {own : String} {nL kc ks : Nat} {ws : va_W} {pc : Nat} {lv : List (Nat × Value)} {st : List Value} {ix a : Nat} {fs : List Value} {host : String} {v : Value} (q0 : Nat) (he : ws[q0]? = some (a, .inr (3, fs))) (hv : fs[3]? = some v) (q : Cond.fieldLinkNest own ix RX3 "sum" "I" host ∈ lw_ns) (d : decode cc pc = .ok (.getfield ix, 3)) (kk : AtK X Z R cc own nL kc ks ws (pc + 3) lv (v :: st)) : AtK X Z R cc own nL kc ks ws pc lv (.ref a :: st) := r_getfN (T := TX3) (N := 6) kX3 rfl 3 (by decide) rfl q0 he hv q d kk
theorem gfN_X3_5 {X : CX} {Z : GZ} {R : Room} {cc : ByteArray} {own : String} {nL kc ks : Nat} {ws : va_W} {pc : Nat} {lv : List (Nat × Value)} {st : List Value} {ix a : Nat} {fs : List Value} {host : String} {v : Value} (q0 : Nat) (he : ws[q0]? = some (a, .inr (3, fs))) (hv : fs[5]? = some v) (q : Cond.fieldLinkNest own ix RX3 "paper" "I" host ∈ lw_ns) (d : decode cc pc = .ok (.getfield ix, 3)) (kk : AtK X Z R cc own nL kc ks ws (pc + 3) lv (v :: st)) : AtK X Z R cc own nL kc ks ws pc lv (.ref a :: st) := r_getfN (T := TX3) (N := 6) kX3 rfl 5 (by decide) rfl q0 he hv q d kk
theorem pfN_X3_0 {X : CX} {Z : GZ} {R : Room} {cc : ByteArray} {own : String} {nL kc ks : Nat} {ws : va_W} {pc : Nat} {lv : List (Nat × Value)} {st : List Value} {ix a : Nat} {fs : List Value} {host : String} {x : Int32} (q0 : Nat) (he : ws[q0]? = some (a, .inr (3, fs))) (hle : 0 < fs.length) (q : Cond.fieldLinkNest own ix RX3 "current" "I" host ∈ lw_ns) (d : decode cc pc = .ok (.putfield ix, 3)) {ws' : va_W} (hw9 : ws.set q0 (a, .inr (3, fs.set 0 (.int x))) = ws') (kk : AtK X Z R cc own nL kc ks ws' (pc + 3) lv st) : AtK X Z R cc own nL kc ks ws pc lv (.int x :: .ref a :: st) := r_putfN (T := TX3) (N := 6) (host := host) kX3 rfl 0 (by decide) rfl tyX3 tyX3_ok nmX3 rfl (ty := .int) (by decide +kernel) rfl rfl q0 he hle q d hw9 kk
theorem pfN_X3_1 {X : CX} {Z : GZ} {R : Room} {cc : ByteArray} {own : String} {nL kc ks : Nat} {ws : va_W} {pc : Nat} {lv : List (Nat × Value)} {st : List Value} {ix a : Nat} {fs : List Value} {host : String} {x : Int32} (q0 : Nat) (he : ws[q0]? = some (a, .inr (3, fs))) (hle : 1 < fs.length) (q : Cond.fieldLinkNest own ix RX3 "next" "I" host ∈ lw_ns) (d : decode cc pc = .ok (.putfield ix, 3)) {ws' : va_W} (hw9 : ws.set q0 (a, .inr (3, fs.set 1 (.int x))) = ws') (kk : AtK X Z R cc own nL kc ks ws' (pc + 3) lv st) : AtK X Z R cc own nL kc ks ws pc lv (.int x :: .ref a :: st) := r_putfN (T := TX3) (N := 6) (host := host) kX3 rfl 1 (by decide) rfl tyX3 tyX3_ok nmX3 rfl (ty := .int) (by decide +kernel) rfl rfl q0 he hle q d hw9 kk
theorem gfN_X3_0 {X : CX} {Z : GZ} {R : Room} {cc : ByteArray} {own : String} {nL kc ks : Nat} {ws : va_W} {pc : Nat} {lv : List (Nat × Value)} {st : List Value} {ix a : Nat} {fs : List Value} {host : String} {v : Value} (q0 : Nat) (he : ws[q0]? = some (a, .inr (3, fs))) (hv : fs[0]? = some v) (q : Cond.fieldLinkNest own ix RX3 "current" "I" host ∈ lw_ns) (d : decode cc pc = .ok (.getfield ix, 3)) (kk : AtK X Z R cc own nL kc ks ws (pc + 3) lv (v :: st)) : AtK X Z R cc own nL kc ks ws pc lv (.ref a :: st) := r_getfN (T := TX3) (N := 6) kX3 rfl 0 (by decide) rfl q0 he hv q d kk
theorem gfN_X3_4 {X : CX} {Z : GZ} {R : Room} {cc : ByteArray} {own : String} {nL kc ks : Nat} {ws : va_W} {pc : Nat} {lv : List (Nat × Value)} {st : List Value} {ix a : Nat} {fs : List Value} {host : String} {v : Value} (q0 : Nat) (he : ws[q0]? = some (a, .inr (3, fs))) (hv : fs[4]? = some v) (q : Cond.fieldLinkNest own ix RX3 "tickets" "I" host ∈ lw_ns) (d : decode cc pc = .ok (.getfield ix, 3)) (kk : AtK X Z R cc own nL kc ks ws (pc + 3) lv (v :: st)) : AtK X Z R cc own nL kc ks ws pc lv (.ref a :: st) := r_getfN (T := TX3) (N := 6) kX3 rfl 4 (by decide) rfl q0 he hv q d kk
theorem gfN_X3_2 {X : CX} {Z : GZ} {R : Room} {cc : ByteArray} {own : String} {nL kc ks : Nat} {ws : va_W} {pc : Nat} {lv : List (Nat × Value)} {st : List Value} {ix a : Nat} {fs : List Value} {host : String} {v : Value} (q0 : Nat) (he : ws[q0]? = some (a, .inr (3, fs))) (hv : fs[2]? = some v) (q : Cond.fieldLinkNest own ix RX3 "number" "I" host ∈ lw_ns) (d : decode cc pc = .ok (.getfield ix, 3)) (kk : AtK X Z R cc own nL kc ks ws (pc + 3) lv (v :: st)) : AtK X Z R cc own nL kc ks ws pc lv (.ref a :: st) := r_getfN (T := TX3) (N := 6) kX3 rfl 2 (by decide) rfl q0 he hv q d kk
theorem gfN_X3_1 {X : CX} {Z : GZ} {R : Room} {cc : ByteArray} {own : String} {nL kc ks : Nat} {ws : va_W} {pc : Nat} {lv : List (Nat × Value)} {st : List Value} {ix a : Nat} {fs : List Value} {host : String} {v : Value} (q0 : Nat) (he : ws[q0]? = some (a, .inr (3, fs))) (hv : fs[1]? = some v) (q : Cond.fieldLinkNest own ix RX3 "next" "I" host ∈ lw_ns) (d : decode cc pc = .ok (.getfield ix, 3)) (kk : AtK X Z R cc own nL kc ks ws (pc + 3) lv (v :: st)) : AtK X Z R cc own nL kc ks ws pc lv (.ref a :: st) := r_getfN (T := TX3) (N := 6) kX3 rfl 1 (by decide) rfl q0 he hv q d kk
theorem gf_X2_1 {X : CX} {Z : GZ} {R : Room} {cc : ByteArray} {own : String} {nL kc ks : Nat} {ws : va_W} {pc : Nat} {lv : List (Nat × Value)} {st : List Value} {ix a : Nat} {fs : List Value} {v : Value} (q0 : Nat) (he : ws[q0]? = some (a, .inr (2, fs))) (hv : fs[1]? = some v) (q : Cond.fieldLink own ix RX2 "count" "I" ∈ lw_tb) (d : decode cc pc = .ok (.getfield ix, 3)) (kk : AtK X Z R cc own nL kc ks ws (pc + 3) lv (v :: st)) : AtK X Z R cc own nL kc ks ws pc lv (.ref a :: st) := r_getf (T := TX2) (N := 2) kX2 rfl 1 (by decide) rfl q0 he hv q d kk
theorem gf_X2_0 {X : CX} {Z : GZ} {R : Room} {cc : ByteArray} {own : String} {nL kc ks : Nat} {ws : va_W} {pc : Nat} {lv : List (Nat × Value)} {st : List Value} {ix a : Nat} {fs : List Value} {v : Value} (q0 : Nat) (he : ws[q0]? = some (a, .inr (2, fs))) (hv : fs[0]? = some v) (q : Cond.fieldLink own ix RX2 "details" "[I" ∈ lw_tb) (d : decode cc pc = .ok (.getfield ix, 3)) (kk : AtK X Z R cc own nL kc ks ws (pc + 3) lv (v :: st)) : AtK X Z R cc own nL kc ks ws pc lv (.ref a :: st) := r_getf (T := TX2) (N := 2) kX2 rfl 0 (by decide) rfl q0 he hv q d kk
theorem pf_X2_1 {X : CX} {Z : GZ} {R : Room} {cc : ByteArray} {own : String} {nL kc ks : Nat} {ws : va_W} {pc : Nat} {lv : List (Nat × Value)} {st : List Value} {ix a : Nat} {fs : List Value} {x : Int32} (q0 : Nat) (he : ws[q0]? = some (a, .inr (2, fs))) (hle : 1 < fs.length) (q : Cond.fieldLink own ix RX2 "count" "I" ∈ lw_tb) (d : decode cc pc = .ok (.putfield ix, 3)) {ws' : va_W} (hw9 : ws.set q0 (a, .inr (2, fs.set 1 (.int x))) = ws') (kk : AtK X Z R cc own nL kc ks ws' (pc + 3) lv st) : AtK X Z R cc own nL kc ks ws pc lv (.int x :: .ref a :: st) := r_putf (T := TX2) (N := 2) (host := "") kX2 rfl 1 (by decide) rfl tyX2 tyX2_ok nmX2 rfl (ty := .int) (by decide +kernel) rfl rfl q0 he hle q d hw9 kk
theorem gf_X4_0 {X : CX} {Z : GZ} {R : Room} {cc : ByteArray} {own : String} {nL kc ks : Nat} {ws : va_W} {pc : Nat} {lv : List (Nat × Value)} {st : List Value} {ix a : Nat} {fs : List Value} {v : Value} (q0 : Nat) (he : ws[q0]? = some (a, .inr (4, fs))) (hv : fs[0]? = some v) (q : Cond.fieldLink own ix RX4 "states" "[LTicketJournal$Printer;" ∈ lw_tb) (d : decode cc pc = .ok (.getfield ix, 3)) (kk : AtK X Z R cc own nL kc ks ws (pc + 3) lv (v :: st)) : AtK X Z R cc own nL kc ks ws pc lv (.ref a :: st) := r_getf (T := TX4) (N := 3) kX4 rfl 0 (by decide) rfl q0 he hv q d kk
theorem gf_X4_1 {X : CX} {Z : GZ} {R : Room} {cc : ByteArray} {own : String} {nL kc ks : Nat} {ws : va_W} {pc : Nat} {lv : List (Nat × Value)} {st : List Value} {ix a : Nat} {fs : List Value} {v : Value} (q0 : Nat) (he : ws[q0]? = some (a, .inr (4, fs))) (hv : fs[1]? = some v) (q : Cond.fieldLink own ix RX4 "oldest" "I" ∈ lw_tb) (d : decode cc pc = .ok (.getfield ix, 3)) (kk : AtK X Z R cc own nL kc ks ws (pc + 3) lv (v :: st)) : AtK X Z R cc own nL kc ks ws pc lv (.ref a :: st) := r_getf (T := TX4) (N := 3) kX4 rfl 1 (by decide) rfl q0 he hv q d kk
theorem gf_X4_2 {X : CX} {Z : GZ} {R : Room} {cc : ByteArray} {own : String} {nL kc ks : Nat} {ws : va_W} {pc : Nat} {lv : List (Nat × Value)} {st : List Value} {ix a : Nat} {fs : List Value} {v : Value} (q0 : Nat) (he : ws[q0]? = some (a, .inr (4, fs))) (hv : fs[2]? = some v) (q : Cond.fieldLink own ix RX4 "size" "I" ∈ lw_tb) (d : decode cc pc = .ok (.getfield ix, 3)) (kk : AtK X Z R cc own nL kc ks ws (pc + 3) lv (v :: st)) : AtK X Z R cc own nL kc ks ws pc lv (.ref a :: st) := r_getf (T := TX4) (N := 3) kX4 rfl 2 (by decide) rfl q0 he hv q d kk
theorem pf_X4_2 {X : CX} {Z : GZ} {R : Room} {cc : ByteArray} {own : String} {nL kc ks : Nat} {ws : va_W} {pc : Nat} {lv : List (Nat × Value)} {st : List Value} {ix a : Nat} {fs : List Value} {x : Int32} (q0 : Nat) (he : ws[q0]? = some (a, .inr (4, fs))) (hle : 2 < fs.length) (q : Cond.fieldLink own ix RX4 "size" "I" ∈ lw_tb) (d : decode cc pc = .ok (.putfield ix, 3)) {ws' : va_W} (hw9 : ws.set q0 (a, .inr (4, fs.set 2 (.int x))) = ws') (kk : AtK X Z R cc own nL kc ks ws' (pc + 3) lv st) : AtK X Z R cc own nL kc ks ws pc lv (.int x :: .ref a :: st) := r_putf (T := TX4) (N := 3) (host := "") kX4 rfl 2 (by decide) rfl tyX4 tyX4_ok nmX4 rfl (ty := .int) (by decide +kernel) rfl rfl q0 he hle q d hw9 kk
theorem pf_X4_1 {X : CX} {Z : GZ} {R : Room} {cc : ByteArray} {own : String} {nL kc ks : Nat} {ws : va_W} {pc : Nat} {lv : List (Nat × Value)} {st : List Value} {ix a : Nat} {fs : List Value} {x : Int32} (q0 : Nat) (he : ws[q0]? = some (a, .inr (4, fs))) (hle : 1 < fs.length) (q : Cond.fieldLink own ix RX4 "oldest" "I" ∈ lw_tb) (d : decode cc pc = .ok (.putfield ix, 3)) {ws' : va_W} (hw9 : ws.set q0 (a, .inr (4, fs.set 1 (.int x))) = ws') (kk : AtK X Z R cc own nL kc ks ws' (pc + 3) lv st) : AtK X Z R cc own nL kc ks ws pc lv (.int x :: .ref a :: st) := r_putf (T := TX4) (N := 3) (host := "") kX4 rfl 1 (by decide) rfl tyX4 tyX4_ok nmX4 rfl (ty := .int) (by decide +kernel) rfl rfl q0 he hle q d hw9 kk
theorem gf_X1_0 {X : CX} {Z : GZ} {R : Room} {cc : ByteArray} {own : String} {nL kc ks : Nat} {ws : va_W} {pc : Nat} {lv : List (Nat × Value)} {st : List Value} {ix a : Nat} {fs : List Value} {v : Value} (q0 : Nat) (he : ws[q0]? = some (a, .inr (1, fs))) (hv : fs[0]? = some v) (q : Cond.fieldLink own ix RX1 "state" "LTicketJournal$Printer;" ∈ lw_tb) (d : decode cc pc = .ok (.getfield ix, 3)) (kk : AtK X Z R cc own nL kc ks ws (pc + 3) lv (v :: st)) : AtK X Z R cc own nL kc ks ws pc lv (.ref a :: st) := r_getf (T := TX1) (N := 2) kX1 rfl 0 (by decide) rfl q0 he hv q d kk
theorem pf_X1_1 {X : CX} {Z : GZ} {R : Room} {cc : ByteArray} {own : String} {nL kc ks : Nat} {ws : va_W} {pc : Nat} {lv : List (Nat × Value)} {st : List Value} {ix a : Nat} {fs : List Value} {x : Int32} (hz : x = 0 ∨ x = 1) (q0 : Nat) (he : ws[q0]? = some (a, .inr (1, fs))) (hle : 1 < fs.length) (q : Cond.fieldLink own ix RX1 "filled" "Z" ∈ lw_tb) (d : decode cc pc = .ok (.putfield ix, 3)) {ws' : va_W} (hw9 : ws.set q0 (a, .inr (1, fs.set 1 (.int x))) = ws') (kk : AtK X Z R cc own nL kc ks ws' (pc + 3) lv st) : AtK X Z R cc own nL kc ks ws pc lv (.int x :: .ref a :: st) := r_putf (T := TX1) (N := 2) (host := "") kX1 rfl 1 (by decide) rfl tyX1 tyX1_ok nmX1 rfl (ty := .boolean) (by decide +kernel) (bzn hz).1 (bzn hz).2 q0 he hle q d hw9 kk
theorem gf_X6_4 {X : CX} {Z : GZ} {R : Room} {cc : ByteArray} {own : String} {nL kc ks : Nat} {ws : va_W} {pc : Nat} {lv : List (Nat × Value)} {st : List Value} {ix a : Nat} {fs : List Value} {v : Value} (q0 : Nat) (he : ws[q0]? = some (a, .inr (6, fs))) (hv : fs[4]? = some v) (q : Cond.fieldLink own ix RX6 "images" "[LTicketJournal$Image;" ∈ lw_tb) (d : decode cc pc = .ok (.getfield ix, 3)) (kk : AtK X Z R cc own nL kc ks ws (pc + 3) lv (v :: st)) : AtK X Z R cc own nL kc ks ws pc lv (.ref a :: st) := r_getf (T := TX6) (N := 5) kX6 rfl 4 (by decide) rfl q0 he hv q d kk
theorem gf_X6_0 {X : CX} {Z : GZ} {R : Room} {cc : ByteArray} {own : String} {nL kc ks : Nat} {ws : va_W} {pc : Nat} {lv : List (Nat × Value)} {st : List Value} {ix a : Nat} {fs : List Value} {v : Value} (q0 : Nat) (he : ws[q0]? = some (a, .inr (6, fs))) (hv : fs[0]? = some v) (q : Cond.fieldLink own ix RX6 "present" "LTicketJournal$Printer;" ∈ lw_tb) (d : decode cc pc = .ok (.getfield ix, 3)) (kk : AtK X Z R cc own nL kc ks ws (pc + 3) lv (v :: st)) : AtK X Z R cc own nL kc ks ws pc lv (.ref a :: st) := r_getf (T := TX6) (N := 5) kX6 rfl 0 (by decide) rfl q0 he hv q d kk
theorem gfN_X5_0 {X : CX} {Z : GZ} {R : Room} {cc : ByteArray} {own : String} {nL kc ks : Nat} {ws : va_W} {pc : Nat} {lv : List (Nat × Value)} {st : List Value} {ix a : Nat} {fs : List Value} {host : String} {v : Value} (q0 : Nat) (he : ws[q0]? = some (a, .inr (5, fs))) (hv : fs[0]? = some v) (q : Cond.fieldLinkNest own ix RX5 "flash" "LTicketJournal$Flash;" host ∈ lw_ns) (d : decode cc pc = .ok (.getfield ix, 3)) (kk : AtK X Z R cc own nL kc ks ws (pc + 3) lv (v :: st)) : AtK X Z R cc own nL kc ks ws pc lv (.ref a :: st) := r_getfN (T := TX5) (N := 7) kX5 rfl 0 (by decide) rfl q0 he hv q d kk
theorem gfN_X5_3 {X : CX} {Z : GZ} {R : Room} {cc : ByteArray} {own : String} {nL kc ks : Nat} {ws : va_W} {pc : Nat} {lv : List (Nat × Value)} {st : List Value} {ix a : Nat} {fs : List Value} {host : String} {v : Value} (q0 : Nat) (he : ws[q0]? = some (a, .inr (5, fs))) (hv : fs[3]? = some v) (q : Cond.fieldLinkNest own ix RX5 "on" "Z" host ∈ lw_ns) (d : decode cc pc = .ok (.getfield ix, 3)) (kk : AtK X Z R cc own nL kc ks ws (pc + 3) lv (v :: st)) : AtK X Z R cc own nL kc ks ws pc lv (.ref a :: st) := r_getfN (T := TX5) (N := 7) kX5 rfl 3 (by decide) rfl q0 he hv q d kk
theorem gfN_X5_1 {X : CX} {Z : GZ} {R : Room} {cc : ByteArray} {own : String} {nL kc ks : Nat} {ws : va_W} {pc : Nat} {lv : List (Nat × Value)} {st : List Value} {ix a : Nat} {fs : List Value} {host : String} {v : Value} (q0 : Nat) (he : ws[q0]? = some (a, .inr (5, fs))) (hv : fs[1]? = some v) (q : Cond.fieldLinkNest own ix RX5 "memory" "LTicketJournal$Memory;" host ∈ lw_ns) (d : decode cc pc = .ok (.getfield ix, 3)) (kk : AtK X Z R cc own nL kc ks ws (pc + 3) lv (v :: st)) : AtK X Z R cc own nL kc ks ws pc lv (.ref a :: st) := r_getfN (T := TX5) (N := 7) kX5 rfl 1 (by decide) rfl q0 he hv q d kk
theorem gfN_X5_4 {X : CX} {Z : GZ} {R : Room} {cc : ByteArray} {own : String} {nL kc ks : Nat} {ws : va_W} {pc : Nat} {lv : List (Nat × Value)} {st : List Value} {ix a : Nat} {fs : List Value} {host : String} {v : Value} (q0 : Nat) (he : ws[q0]? = some (a, .inr (5, fs))) (hv : fs[4]? = some v) (q : Cond.fieldLinkNest own ix RX5 "time" "I" host ∈ lw_ns) (d : decode cc pc = .ok (.getfield ix, 3)) (kk : AtK X Z R cc own nL kc ks ws (pc + 3) lv (v :: st)) : AtK X Z R cc own nL kc ks ws pc lv (.ref a :: st) := r_getfN (T := TX5) (N := 7) kX5 rfl 4 (by decide) rfl q0 he hv q d kk
theorem gfN_X5_5 {X : CX} {Z : GZ} {R : Room} {cc : ByteArray} {own : String} {nL kc ks : Nat} {ws : va_W} {pc : Nat} {lv : List (Nat × Value)} {st : List Value} {ix a : Nat} {fs : List Value} {host : String} {v : Value} (q0 : Nat) (he : ws[q0]? = some (a, .inr (5, fs))) (hv : fs[5]? = some v) (q : Cond.fieldLinkNest own ix RX5 "there" "I" host ∈ lw_ns) (d : decode cc pc = .ok (.getfield ix, 3)) (kk : AtK X Z R cc own nL kc ks ws (pc + 3) lv (v :: st)) : AtK X Z R cc own nL kc ks ws pc lv (.ref a :: st) := r_getfN (T := TX5) (N := 7) kX5 rfl 5 (by decide) rfl q0 he hv q d kk
theorem gfN_X5_6 {X : CX} {Z : GZ} {R : Room} {cc : ByteArray} {own : String} {nL kc ks : Nat} {ws : va_W} {pc : Nat} {lv : List (Nat × Value)} {st : List Value} {ix a : Nat} {fs : List Value} {host : String} {v : Value} (q0 : Nat) (he : ws[q0]? = some (a, .inr (5, fs))) (hv : fs[6]? = some v) (q : Cond.fieldLinkNest own ix RX5 "printed" "I" host ∈ lw_ns) (d : decode cc pc = .ok (.getfield ix, 3)) (kk : AtK X Z R cc own nL kc ks ws (pc + 3) lv (v :: st)) : AtK X Z R cc own nL kc ks ws pc lv (.ref a :: st) := r_getfN (T := TX5) (N := 7) kX5 rfl 6 (by decide) rfl q0 he hv q d kk
theorem gfN_X0_2 {X : CX} {Z : GZ} {R : Room} {cc : ByteArray} {own : String} {nL kc ks : Nat} {ws : va_W} {pc : Nat} {lv : List (Nat × Value)} {st : List Value} {ix a : Nat} {fs : List Value} {host : String} {v : Value} (q0 : Nat) (he : ws[q0]? = some (a, .inr (0, fs))) (hv : fs[2]? = some v) (q : Cond.fieldLinkNest own ix RX0 "done" "I" host ∈ lw_ns) (d : decode cc pc = .ok (.getfield ix, 3)) (kk : AtK X Z R cc own nL kc ks ws (pc + 3) lv (v :: st)) : AtK X Z R cc own nL kc ks ws pc lv (.ref a :: st) := r_getfN (T := TX0) (N := 4) kX0 rfl 2 (by decide) rfl q0 he hv q d kk
theorem gfN_X0_3 {X : CX} {Z : GZ} {R : Room} {cc : ByteArray} {own : String} {nL kc ks : Nat} {ws : va_W} {pc : Nat} {lv : List (Nat × Value)} {st : List Value} {ix a : Nat} {fs : List Value} {host : String} {v : Value} (q0 : Nat) (he : ws[q0]? = some (a, .inr (0, fs))) (hv : fs[3]? = some v) (q : Cond.fieldLinkNest own ix RX0 "left" "I" host ∈ lw_ns) (d : decode cc pc = .ok (.getfield ix, 3)) (kk : AtK X Z R cc own nL kc ks ws (pc + 3) lv (v :: st)) : AtK X Z R cc own nL kc ks ws pc lv (.ref a :: st) := r_getfN (T := TX0) (N := 4) kX0 rfl 3 (by decide) rfl q0 he hv q d kk
theorem gf_X6_3 {X : CX} {Z : GZ} {R : Room} {cc : ByteArray} {own : String} {nL kc ks : Nat} {ws : va_W} {pc : Nat} {lv : List (Nat × Value)} {st : List Value} {ix a : Nat} {fs : List Value} {v : Value} (q0 : Nat) (he : ws[q0]? = some (a, .inr (6, fs))) (hv : fs[3]? = some v) (q : Cond.fieldLink own ix RX6 "past" "LTicketJournal$Past;" ∈ lw_tb) (d : decode cc pc = .ok (.getfield ix, 3)) (kk : AtK X Z R cc own nL kc ks ws (pc + 3) lv (v :: st)) : AtK X Z R cc own nL kc ks ws pc lv (.ref a :: st) := r_getf (T := TX6) (N := 5) kX6 rfl 3 (by decide) rfl q0 he hv q d kk
theorem gfN_X4_2 {X : CX} {Z : GZ} {R : Room} {cc : ByteArray} {own : String} {nL kc ks : Nat} {ws : va_W} {pc : Nat} {lv : List (Nat × Value)} {st : List Value} {ix a : Nat} {fs : List Value} {host : String} {v : Value} (q0 : Nat) (he : ws[q0]? = some (a, .inr (4, fs))) (hv : fs[2]? = some v) (q : Cond.fieldLinkNest own ix RX4 "size" "I" host ∈ lw_ns) (d : decode cc pc = .ok (.getfield ix, 3)) (kk : AtK X Z R cc own nL kc ks ws (pc + 3) lv (v :: st)) : AtK X Z R cc own nL kc ks ws pc lv (.ref a :: st) := r_getfN (T := TX4) (N := 3) kX4 rfl 2 (by decide) rfl q0 he hv q d kk
theorem gf_X6_1 {X : CX} {Z : GZ} {R : Room} {cc : ByteArray} {own : String} {nL kc ks : Nat} {ws : va_W} {pc : Nat} {lv : List (Nat × Value)} {st : List Value} {ix a : Nat} {fs : List Value} {v : Value} (q0 : Nat) (he : ws[q0]? = some (a, .inr (6, fs))) (hv : fs[1]? = some v) (q : Cond.fieldLink own ix RX6 "trial" "LTicketJournal$Printer;" ∈ lw_tb) (d : decode cc pc = .ok (.getfield ix, 3)) (kk : AtK X Z R cc own nL kc ks ws (pc + 3) lv (v :: st)) : AtK X Z R cc own nL kc ks ws pc lv (.ref a :: st) := r_getf (T := TX6) (N := 5) kX6 rfl 1 (by decide) rfl q0 he hv q d kk
theorem pfN_X0_3 {X : CX} {Z : GZ} {R : Room} {cc : ByteArray} {own : String} {nL kc ks : Nat} {ws : va_W} {pc : Nat} {lv : List (Nat × Value)} {st : List Value} {ix a : Nat} {fs : List Value} {host : String} {x : Int32} (q0 : Nat) (he : ws[q0]? = some (a, .inr (0, fs))) (hle : 3 < fs.length) (q : Cond.fieldLinkNest own ix RX0 "left" "I" host ∈ lw_ns) (d : decode cc pc = .ok (.putfield ix, 3)) {ws' : va_W} (hw9 : ws.set q0 (a, .inr (0, fs.set 3 (.int x))) = ws') (kk : AtK X Z R cc own nL kc ks ws' (pc + 3) lv st) : AtK X Z R cc own nL kc ks ws pc lv (.int x :: .ref a :: st) := r_putfN (T := TX0) (N := 4) (host := host) kX0 rfl 3 (by decide) rfl tyX0 tyX0_ok nmX0 rfl (ty := .int) (by decide +kernel) rfl rfl q0 he hle q d hw9 kk
theorem gf_X6_2 {X : CX} {Z : GZ} {R : Room} {cc : ByteArray} {own : String} {nL kc ks : Nat} {ws : va_W} {pc : Nat} {lv : List (Nat × Value)} {st : List Value} {ix a : Nat} {fs : List Value} {v : Value} (q0 : Nat) (he : ws[q0]? = some (a, .inr (6, fs))) (hv : fs[2]? = some v) (q : Cond.fieldLink own ix RX6 "journal" "LTicketJournal$Journal;" ∈ lw_tb) (d : decode cc pc = .ok (.getfield ix, 3)) (kk : AtK X Z R cc own nL kc ks ws (pc + 3) lv (v :: st)) : AtK X Z R cc own nL kc ks ws pc lv (.ref a :: st) := r_getf (T := TX6) (N := 5) kX6 rfl 2 (by decide) rfl q0 he hv q d kk
theorem pfN_X5_4 {X : CX} {Z : GZ} {R : Room} {cc : ByteArray} {own : String} {nL kc ks : Nat} {ws : va_W} {pc : Nat} {lv : List (Nat × Value)} {st : List Value} {ix a : Nat} {fs : List Value} {host : String} {x : Int32} (q0 : Nat) (he : ws[q0]? = some (a, .inr (5, fs))) (hle : 4 < fs.length) (q : Cond.fieldLinkNest own ix RX5 "time" "I" host ∈ lw_ns) (d : decode cc pc = .ok (.putfield ix, 3)) {ws' : va_W} (hw9 : ws.set q0 (a, .inr (5, fs.set 4 (.int x))) = ws') (kk : AtK X Z R cc own nL kc ks ws' (pc + 3) lv st) : AtK X Z R cc own nL kc ks ws pc lv (.int x :: .ref a :: st) := r_putfN (T := TX5) (N := 7) (host := host) kX5 rfl 4 (by decide) rfl tyX5 tyX5_ok nmX5 rfl (ty := .int) (by decide +kernel) rfl rfl q0 he hle q d hw9 kk
theorem gfN_X1_1 {X : CX} {Z : GZ} {R : Room} {cc : ByteArray} {own : String} {nL kc ks : Nat} {ws : va_W} {pc : Nat} {lv : List (Nat × Value)} {st : List Value} {ix a : Nat} {fs : List Value} {host : String} {v : Value} (q0 : Nat) (he : ws[q0]? = some (a, .inr (1, fs))) (hv : fs[1]? = some v) (q : Cond.fieldLinkNest own ix RX1 "filled" "Z" host ∈ lw_ns) (d : decode cc pc = .ok (.getfield ix, 3)) (kk : AtK X Z R cc own nL kc ks ws (pc + 3) lv (v :: st)) : AtK X Z R cc own nL kc ks ws pc lv (.ref a :: st) := r_getfN (T := TX1) (N := 2) kX1 rfl 1 (by decide) rfl q0 he hv q d kk
theorem gfN_X1_0 {X : CX} {Z : GZ} {R : Room} {cc : ByteArray} {own : String} {nL kc ks : Nat} {ws : va_W} {pc : Nat} {lv : List (Nat × Value)} {st : List Value} {ix a : Nat} {fs : List Value} {host : String} {v : Value} (q0 : Nat) (he : ws[q0]? = some (a, .inr (1, fs))) (hv : fs[0]? = some v) (q : Cond.fieldLinkNest own ix RX1 "state" "LTicketJournal$Printer;" host ∈ lw_ns) (d : decode cc pc = .ok (.getfield ix, 3)) (kk : AtK X Z R cc own nL kc ks ws (pc + 3) lv (v :: st)) : AtK X Z R cc own nL kc ks ws pc lv (.ref a :: st) := r_getfN (T := TX1) (N := 2) kX1 rfl 0 (by decide) rfl q0 he hv q d kk

-- the law's own methods (laid by wip/genp/genl.py)
theorem qw_209 : Cond.constant RL 8 2147483647 ∈ lw_tb := lw_up (List.mem_of_getElem? (i := 209) (by decide +kernel)) rfl
theorem qw_382 : Cond.methodLink RL 44 yX6_cut ∈ lw_tb := lw_up (List.mem_of_getElem? (i := 382) (by decide +kernel)) rfl
theorem qw_385 : Cond.code yX6_cut cX6_cut 3 (some .int) ∈ lw_tb := lw_up (List.mem_of_getElem? (i := 385) (by decide +kernel)) rfl
theorem qw_383 : Cond.instanceMethod yX6_cut ∈ lw_tb := lw_up (List.mem_of_getElem? (i := 383) (by decide +kernel)) rfl
theorem qw_384 : Cond.selects RX6 yX6_cut yX6_cut ∈ lw_tb := lw_up (List.mem_of_getElem? (i := 384) (by decide +kernel)) rfl
theorem qw_353 : Cond.methodLink RL 35 yX6_setClock ∈ lw_tb := lw_up (List.mem_of_getElem? (i := 353) (by decide +kernel)) rfl
theorem qw_356 : Cond.code yX6_setClock cX6_setClock 2 (some .int) ∈ lw_tb := lw_up (List.mem_of_getElem? (i := 356) (by decide +kernel)) rfl
theorem qw_354 : Cond.instanceMethod yX6_setClock ∈ lw_tb := lw_up (List.mem_of_getElem? (i := 354) (by decide +kernel)) rfl
theorem qw_355 : Cond.selects RX6 yX6_setClock yX6_setClock ∈ lw_tb := lw_up (List.mem_of_getElem? (i := 355) (by decide +kernel)) rfl
theorem qw_206 : Cond.methodLink RL 9 yL_low ∈ lw_tb := lw_up (List.mem_of_getElem? (i := 206) (by decide +kernel)) rfl
theorem qw_12 : Cond.initialized RL ∈ lw_tb := lw_up (List.mem_of_getElem? (i := 12) (by decide +kernel)) rfl
theorem qw_208 : Cond.code yL_low cL_low 2 (some .int) ∈ lw_tb := lw_up (List.mem_of_getElem? (i := 208) (by decide +kernel)) rfl
theorem qw_207 : Cond.static yL_low ∈ lw_tb := lw_up (List.mem_of_getElem? (i := 207) (by decide +kernel)) rfl
theorem qw_343 : Cond.methodLink RL 28 yX6_load ∈ lw_tb := lw_up (List.mem_of_getElem? (i := 343) (by decide +kernel)) rfl
theorem qw_346 : Cond.code yX6_load cX6_load 3 (some .int) ∈ lw_tb := lw_up (List.mem_of_getElem? (i := 346) (by decide +kernel)) rfl
theorem qw_344 : Cond.instanceMethod yX6_load ∈ lw_tb := lw_up (List.mem_of_getElem? (i := 344) (by decide +kernel)) rfl
theorem qw_345 : Cond.selects RX6 yX6_load yX6_load ∈ lw_tb := lw_up (List.mem_of_getElem? (i := 345) (by decide +kernel)) rfl
theorem qw_213 : Cond.methodLink RL 15 yX6_sell ∈ lw_tb := lw_up (List.mem_of_getElem? (i := 213) (by decide +kernel)) rfl
theorem qw_216 : Cond.code yX6_sell cX6_sell 3 (some .int) ∈ lw_tb := lw_up (List.mem_of_getElem? (i := 216) (by decide +kernel)) rfl
theorem qw_214 : Cond.instanceMethod yX6_sell ∈ lw_tb := lw_up (List.mem_of_getElem? (i := 214) (by decide +kernel)) rfl
theorem qw_215 : Cond.selects RX6 yX6_sell yX6_sell ∈ lw_tb := lw_up (List.mem_of_getElem? (i := 215) (by decide +kernel)) rfl
theorem qw_308 : Cond.methodLink RL 21 yX6_cancel ∈ lw_tb := lw_up (List.mem_of_getElem? (i := 308) (by decide +kernel)) rfl
theorem qw_311 : Cond.code yX6_cancel cX6_cancel 1 (some .int) ∈ lw_tb := lw_up (List.mem_of_getElem? (i := 311) (by decide +kernel)) rfl
theorem qw_309 : Cond.instanceMethod yX6_cancel ∈ lw_tb := lw_up (List.mem_of_getElem? (i := 309) (by decide +kernel)) rfl
theorem qw_310 : Cond.selects RX6 yX6_cancel yX6_cancel ∈ lw_tb := lw_up (List.mem_of_getElem? (i := 310) (by decide +kernel)) rfl
theorem qw_335 : Cond.methodLink RL 25 yX6_close ∈ lw_tb := lw_up (List.mem_of_getElem? (i := 335) (by decide +kernel)) rfl
theorem qw_338 : Cond.code yX6_close cX6_close 1 (some .int) ∈ lw_tb := lw_up (List.mem_of_getElem? (i := 338) (by decide +kernel)) rfl
theorem qw_336 : Cond.instanceMethod yX6_close ∈ lw_tb := lw_up (List.mem_of_getElem? (i := 336) (by decide +kernel)) rfl
theorem qw_337 : Cond.selects RX6 yX6_close yX6_close ∈ lw_tb := lw_up (List.mem_of_getElem? (i := 337) (by decide +kernel)) rfl
theorem qw_352 : Cond.constant RL 34 60001 ∈ lw_tb := lw_up (List.mem_of_getElem? (i := 352) (by decide +kernel)) rfl
theorem qw_191 : Cond.methodLink RL 31 yX6_told ∈ lw_tb := lw_up (List.mem_of_getElem? (i := 191) (by decide +kernel)) rfl
theorem qw_194 : Cond.code yX6_told cX6_told 2 (some .int) ∈ lw_tb := lw_up (List.mem_of_getElem? (i := 194) (by decide +kernel)) rfl
theorem qw_192 : Cond.instanceMethod yX6_told ∈ lw_tb := lw_up (List.mem_of_getElem? (i := 192) (by decide +kernel)) rfl
theorem qw_193 : Cond.selects RX6 yX6_told yX6_told ∈ lw_tb := lw_up (List.mem_of_getElem? (i := 193) (by decide +kernel)) rfl
theorem qw_365 : Cond.methodLink RL 38 yX6_pass ∈ lw_tb := lw_up (List.mem_of_getElem? (i := 365) (by decide +kernel)) rfl
theorem qw_368 : Cond.code yX6_pass cX6_pass 2 (some .int) ∈ lw_tb := lw_up (List.mem_of_getElem? (i := 368) (by decide +kernel)) rfl
theorem qw_366 : Cond.instanceMethod yX6_pass ∈ lw_tb := lw_up (List.mem_of_getElem? (i := 366) (by decide +kernel)) rfl
theorem qw_367 : Cond.selects RX6 yX6_pass yX6_pass ∈ lw_tb := lw_up (List.mem_of_getElem? (i := 367) (by decide +kernel)) rfl
theorem qw_372 : Cond.methodLink RL 41 yX6_setPrice ∈ lw_tb := lw_up (List.mem_of_getElem? (i := 372) (by decide +kernel)) rfl
theorem qw_375 : Cond.code yX6_setPrice cX6_setPrice 4 (some .int) ∈ lw_tb := lw_up (List.mem_of_getElem? (i := 375) (by decide +kernel)) rfl
theorem qw_373 : Cond.instanceMethod yX6_setPrice ∈ lw_tb := lw_up (List.mem_of_getElem? (i := 373) (by decide +kernel)) rfl
theorem qw_374 : Cond.selects RX6 yX6_setPrice yX6_setPrice ∈ lw_tb := lw_up (List.mem_of_getElem? (i := 374) (by decide +kernel)) rfl
theorem qw_405 : Cond.methodLink RL 50 yX6_start ∈ lw_tb := lw_up (List.mem_of_getElem? (i := 405) (by decide +kernel)) rfl
theorem qw_408 : Cond.code yX6_start cX6_start 1 (some .int) ∈ lw_tb := lw_up (List.mem_of_getElem? (i := 408) (by decide +kernel)) rfl
theorem qw_406 : Cond.instanceMethod yX6_start ∈ lw_tb := lw_up (List.mem_of_getElem? (i := 406) (by decide +kernel)) rfl
theorem qw_407 : Cond.selects RX6 yX6_start yX6_start ∈ lw_tb := lw_up (List.mem_of_getElem? (i := 407) (by decide +kernel)) rfl
theorem qw_386 : Cond.methodLink RL 47 yX6_off ∈ lw_tb := lw_up (List.mem_of_getElem? (i := 386) (by decide +kernel)) rfl
theorem qw_389 : Cond.code yX6_off cX6_off 1 (some .int) ∈ lw_tb := lw_up (List.mem_of_getElem? (i := 389) (by decide +kernel)) rfl
theorem qw_387 : Cond.instanceMethod yX6_off ∈ lw_tb := lw_up (List.mem_of_getElem? (i := 387) (by decide +kernel)) rfl
theorem qw_388 : Cond.selects RX6 yX6_off yX6_off ∈ lw_tb := lw_up (List.mem_of_getElem? (i := 388) (by decide +kernel)) rfl
theorem qw_433 : Cond.methodLink RL 53 yX6_undo ∈ lw_tb := lw_up (List.mem_of_getElem? (i := 433) (by decide +kernel)) rfl
theorem qw_436 : Cond.code yX6_undo cX6_undo 1 (some .int) ∈ lw_tb := lw_up (List.mem_of_getElem? (i := 436) (by decide +kernel)) rfl
theorem qw_434 : Cond.instanceMethod yX6_undo ∈ lw_tb := lw_up (List.mem_of_getElem? (i := 434) (by decide +kernel)) rfl
theorem qw_435 : Cond.selects RX6 yX6_undo yX6_undo ∈ lw_tb := lw_up (List.mem_of_getElem? (i := 435) (by decide +kernel)) rfl
theorem qw_454 : Cond.methodLink RL 59 yX6_back ∈ lw_tb := lw_up (List.mem_of_getElem? (i := 454) (by decide +kernel)) rfl
theorem qw_457 : Cond.code yX6_back cX6_back 2 (some .int) ∈ lw_tb := lw_up (List.mem_of_getElem? (i := 457) (by decide +kernel)) rfl
theorem qw_455 : Cond.instanceMethod yX6_back ∈ lw_tb := lw_up (List.mem_of_getElem? (i := 455) (by decide +kernel)) rfl
theorem qw_456 : Cond.selects RX6 yX6_back yX6_back ∈ lw_tb := lw_up (List.mem_of_getElem? (i := 456) (by decide +kernel)) rfl
theorem qw_441 : Cond.methodLink RL 56 yX6_keep ∈ lw_tb := lw_up (List.mem_of_getElem? (i := 441) (by decide +kernel)) rfl
theorem qw_444 : Cond.code yX6_keep cX6_keep 2 (some .int) ∈ lw_tb := lw_up (List.mem_of_getElem? (i := 444) (by decide +kernel)) rfl
theorem qw_442 : Cond.instanceMethod yX6_keep ∈ lw_tb := lw_up (List.mem_of_getElem? (i := 442) (by decide +kernel)) rfl
theorem qw_443 : Cond.selects RX6 yX6_keep yX6_keep ∈ lw_tb := lw_up (List.mem_of_getElem? (i := 443) (by decide +kernel)) rfl
theorem qw_462 : Cond.methodLink RL 62 yX6_records ∈ lw_tb := lw_up (List.mem_of_getElem? (i := 462) (by decide +kernel)) rfl
theorem qw_465 : Cond.code yX6_records cX6_records 2 (some .int) ∈ lw_tb := lw_up (List.mem_of_getElem? (i := 465) (by decide +kernel)) rfl
theorem qw_463 : Cond.instanceMethod yX6_records ∈ lw_tb := lw_up (List.mem_of_getElem? (i := 463) (by decide +kernel)) rfl
theorem qw_464 : Cond.selects RX6 yX6_records yX6_records ∈ lw_tb := lw_up (List.mem_of_getElem? (i := 464) (by decide +kernel)) rfl
theorem qw_541 : Cond.methodLink RL 85 yX6_after ∈ lw_tb := lw_up (List.mem_of_getElem? (i := 541) (by decide +kernel)) rfl
theorem qw_544 : Cond.code yX6_after cX6_after 5 (some .int) ∈ lw_tb := lw_up (List.mem_of_getElem? (i := 544) (by decide +kernel)) rfl
theorem qw_542 : Cond.instanceMethod yX6_after ∈ lw_tb := lw_up (List.mem_of_getElem? (i := 542) (by decide +kernel)) rfl
theorem qw_543 : Cond.selects RX6 yX6_after yX6_after ∈ lw_tb := lw_up (List.mem_of_getElem? (i := 543) (by decide +kernel)) rfl
theorem qw_529 : Cond.methodLink RL 79 yX6_needed ∈ lw_tb := lw_up (List.mem_of_getElem? (i := 529) (by decide +kernel)) rfl
theorem qw_532 : Cond.code yX6_needed cX6_needed 3 (some .int) ∈ lw_tb := lw_up (List.mem_of_getElem? (i := 532) (by decide +kernel)) rfl
theorem qw_530 : Cond.instanceMethod yX6_needed ∈ lw_tb := lw_up (List.mem_of_getElem? (i := 530) (by decide +kernel)) rfl
theorem qw_531 : Cond.selects RX6 yX6_needed yX6_needed ∈ lw_tb := lw_up (List.mem_of_getElem? (i := 531) (by decide +kernel)) rfl
theorem qw_533 : Cond.methodLink RL 82 yX6_operations ∈ lw_tb := lw_up (List.mem_of_getElem? (i := 533) (by decide +kernel)) rfl
theorem qw_536 : Cond.code yX6_operations cX6_operations 3 (some .int) ∈ lw_tb := lw_up (List.mem_of_getElem? (i := 536) (by decide +kernel)) rfl
theorem qw_534 : Cond.instanceMethod yX6_operations ∈ lw_tb := lw_up (List.mem_of_getElem? (i := 534) (by decide +kernel)) rfl
theorem qw_535 : Cond.selects RX6 yX6_operations yX6_operations ∈ lw_tb := lw_up (List.mem_of_getElem? (i := 535) (by decide +kernel)) rfl
theorem qw_518 : Cond.methodLink RL 76 yX6_record ∈ lw_tb := lw_up (List.mem_of_getElem? (i := 518) (by decide +kernel)) rfl
theorem qw_521 : Cond.code yX6_record cX6_record 3 (some .int) ∈ lw_tb := lw_up (List.mem_of_getElem? (i := 521) (by decide +kernel)) rfl
theorem qw_519 : Cond.instanceMethod yX6_record ∈ lw_tb := lw_up (List.mem_of_getElem? (i := 519) (by decide +kernel)) rfl
theorem qw_520 : Cond.selects RX6 yX6_record yX6_record ∈ lw_tb := lw_up (List.mem_of_getElem? (i := 520) (by decide +kernel)) rfl
theorem qw_510 : Cond.methodLink RL 73 yX6_takings ∈ lw_tb := lw_up (List.mem_of_getElem? (i := 510) (by decide +kernel)) rfl
theorem qw_513 : Cond.code yX6_takings cX6_takings 3 (some .int) ∈ lw_tb := lw_up (List.mem_of_getElem? (i := 513) (by decide +kernel)) rfl
theorem qw_511 : Cond.instanceMethod yX6_takings ∈ lw_tb := lw_up (List.mem_of_getElem? (i := 511) (by decide +kernel)) rfl
theorem qw_512 : Cond.selects RX6 yX6_takings yX6_takings ∈ lw_tb := lw_up (List.mem_of_getElem? (i := 512) (by decide +kernel)) rfl
theorem qw_504 : Cond.methodLink RL 68 yX6_word ∈ lw_tb := lw_up (List.mem_of_getElem? (i := 504) (by decide +kernel)) rfl
theorem qw_507 : Cond.code yX6_word cX6_word 3 (some .int) ∈ lw_tb := lw_up (List.mem_of_getElem? (i := 507) (by decide +kernel)) rfl
theorem qw_505 : Cond.instanceMethod yX6_word ∈ lw_tb := lw_up (List.mem_of_getElem? (i := 505) (by decide +kernel)) rfl
theorem qw_506 : Cond.selects RX6 yX6_word yX6_word ∈ lw_tb := lw_up (List.mem_of_getElem? (i := 506) (by decide +kernel)) rfl
theorem qw_490 : Cond.methodLink RL 65 yX6_block ∈ lw_tb := lw_up (List.mem_of_getElem? (i := 490) (by decide +kernel)) rfl
theorem qw_493 : Cond.code yX6_block cX6_block 4 (some .int) ∈ lw_tb := lw_up (List.mem_of_getElem? (i := 493) (by decide +kernel)) rfl
theorem qw_491 : Cond.instanceMethod yX6_block ∈ lw_tb := lw_up (List.mem_of_getElem? (i := 491) (by decide +kernel)) rfl
theorem qw_492 : Cond.selects RX6 yX6_block yX6_block ∈ lw_tb := lw_up (List.mem_of_getElem? (i := 492) (by decide +kernel)) rfl
theorem qw_509 : Cond.constant RL 72 65521 ∈ lw_tb := lw_up (List.mem_of_getElem? (i := 509) (by decide +kernel)) rfl
theorem qw_508 : Cond.constant RL 71 65535 ∈ lw_tb := lw_up (List.mem_of_getElem? (i := 508) (by decide +kernel)) rfl
theorem qw_548 : Cond.methodLink RL 89 yX6_mean ∈ lw_tb := lw_up (List.mem_of_getElem? (i := 548) (by decide +kernel)) rfl
theorem qw_551 : Cond.code yX6_mean cX6_mean 3 (some .float) ∈ lw_tb := lw_up (List.mem_of_getElem? (i := 551) (by decide +kernel)) rfl
theorem qw_549 : Cond.instanceMethod yX6_mean ∈ lw_tb := lw_up (List.mem_of_getElem? (i := 549) (by decide +kernel)) rfl
theorem qw_550 : Cond.selects RX6 yX6_mean yX6_mean ∈ lw_tb := lw_up (List.mem_of_getElem? (i := 550) (by decide +kernel)) rfl
theorem kbp_18 : (Int8.ofInt 18).toInt32 = 18 := by decide
theorem ksp_2000 : (Int16.ofInt 2000).toInt32 = 2000 := by decide
theorem kbp_12 : (Int8.ofInt 12).toInt32 = 12 := by decide
theorem kbp_14 : (Int8.ofInt 14).toInt32 = 14 := by decide
theorem ksp_4000 : (Int16.ofInt 4000).toInt32 = 4000 := by decide
theorem ksp_600 : (Int16.ofInt 600).toInt32 = 600 := by decide
theorem kbp_25 : (Int8.ofInt 25).toInt32 = 25 := by decide
theorem mv_X6_cut : mVo yX6_cut cX6_cut 3 1 (some .int) := ⟨qw_383, qw_384, qw_13, qw_385, by decide +kernel⟩
theorem mv_X6_setClock : mVo yX6_setClock cX6_setClock 2 1 (some .int) := ⟨qw_354, qw_355, qw_13, qw_356, by decide +kernel⟩
theorem ms_L_low : mSo yL_low cL_low 2 2 (some .int) := ⟨qw_207, qw_12, qw_208, by decide +kernel⟩
theorem mv_X6_load : mVo yX6_load cX6_load 3 2 (some .int) := ⟨qw_344, qw_345, qw_13, qw_346, by decide +kernel⟩
theorem mv_X6_sell : mVo yX6_sell cX6_sell 3 1 (some .int) := ⟨qw_214, qw_215, qw_13, qw_216, by decide +kernel⟩
theorem mv_X6_cancel : mVo yX6_cancel cX6_cancel 1 0 (some .int) := ⟨qw_309, qw_310, qw_13, qw_311, by decide +kernel⟩
theorem mv_X6_close : mVo yX6_close cX6_close 1 0 (some .int) := ⟨qw_336, qw_337, qw_13, qw_338, by decide +kernel⟩
theorem mv_X6_told : mVo yX6_told cX6_told 2 1 (some .int) := ⟨qw_192, qw_193, qw_13, qw_194, by decide +kernel⟩
theorem mv_X6_pass : mVo yX6_pass cX6_pass 2 1 (some .int) := ⟨qw_366, qw_367, qw_13, qw_368, by decide +kernel⟩
theorem mv_X6_setPrice : mVo yX6_setPrice cX6_setPrice 4 2 (some .int) := ⟨qw_373, qw_374, qw_13, qw_375, by decide +kernel⟩
theorem mv_X6_start : mVo yX6_start cX6_start 1 0 (some .int) := ⟨qw_406, qw_407, qw_13, qw_408, by decide +kernel⟩
theorem mv_X6_off : mVo yX6_off cX6_off 1 0 (some .int) := ⟨qw_387, qw_388, qw_13, qw_389, by decide +kernel⟩
theorem mv_X6_undo : mVo yX6_undo cX6_undo 1 0 (some .int) := ⟨qw_434, qw_435, qw_13, qw_436, by decide +kernel⟩
theorem mv_X6_back : mVo yX6_back cX6_back 2 1 (some .int) := ⟨qw_455, qw_456, qw_13, qw_457, by decide +kernel⟩
theorem mv_X6_keep : mVo yX6_keep cX6_keep 2 1 (some .int) := ⟨qw_442, qw_443, qw_13, qw_444, by decide +kernel⟩
theorem mv_X6_records : mVo yX6_records cX6_records 2 1 (some .int) := ⟨qw_463, qw_464, qw_13, qw_465, by decide +kernel⟩
theorem mv_X6_after : mVo yX6_after cX6_after 5 3 (some .int) := ⟨qw_542, qw_543, qw_13, qw_544, by decide +kernel⟩
theorem mv_X6_needed : mVo yX6_needed cX6_needed 3 1 (some .int) := ⟨qw_530, qw_531, qw_13, qw_532, by decide +kernel⟩
theorem mv_X6_operations : mVo yX6_operations cX6_operations 3 1 (some .int) := ⟨qw_534, qw_535, qw_13, qw_536, by decide +kernel⟩
theorem mv_X6_record : mVo yX6_record cX6_record 3 2 (some .int) := ⟨qw_519, qw_520, qw_13, qw_521, by decide +kernel⟩
theorem mv_X6_takings : mVo yX6_takings cX6_takings 3 1 (some .int) := ⟨qw_511, qw_512, qw_13, qw_513, by decide +kernel⟩
theorem mv_X6_word : mVo yX6_word cX6_word 3 2 (some .int) := ⟨qw_505, qw_506, qw_13, qw_507, by decide +kernel⟩
theorem mv_X6_block : mVo yX6_block cX6_block 4 2 (some .int) := ⟨qw_491, qw_492, qw_13, qw_493, by decide +kernel⟩
theorem mv_X6_mean : mVo yX6_mean cX6_mean 3 0 (some .float) := ⟨qw_549, qw_550, qw_13, qw_551, by decide +kernel⟩
-- TicketJournalLaw.low(II)I
abbrev rm_L_low : Room := { frames := 0, cells := 0, slots := 0, locals := 0 }
def g_L_low  (n1 : Int32) (n2 : Int32) : Option (Int32) :=
  (if n2 = 0 then none else some ((jrem (n1 &&& 2147483647) n2)))
set_option maxHeartbeats 4000000 in
set_option maxRecDepth 100000 in
theorem c_L_low (Z : GZ) (l : Launch)   (n1 : Int32) (n2 : Int32) (o : (Int32)) (hg : g_L_low n1 n2 = some o) : Con Z l yL_low cL_low 2 (some .int) rm_L_low [.int n1, .int n2] (([] : va_W)) (some (.int o)) (([] : va_W)) := by
  refine Con.of (by decide) (Nat.le_of_ble_eq_true rfl) ?_
  intro X hE0
  have hE : ∀ z, z = o → endsX X Z (some .int) (some (.int z)) (([] : va_W)) := by
    rintro _ rfl; exact hE0
  unfold g_L_low at hg
  show AtK X Z rm_L_low cL_low RL 2 0 0 (([] : va_W)) 0 [(0, .int n1), (1, .int n2)] []
  refine r_iload_n dL_low_0 0 rfl ?_
  refine r_ldc qw_209 dL_low_1 ?_
  refine r_iand dL_low_3 ?_
  refine r_iload_n dL_low_4 1 rfl ?_
  obtain ⟨hd5, hg⟩ := og hg
  refine r_irem dL_low_5 hd5 ?_
  exact r_iret (hE _ (Option.some.inj hg)) dL_low_6

-- TicketJournalLaw.change(LTicketJournal;II)I
abbrev rm_L_change : Room := { frames := 7, cells := 0, slots := 0, locals := 160 }
def g_L_change_299   (t1 : Int32) (D : TD) : Option (Int32 × (TD)) :=
  (g_O_cut D t1).bind fun o299 => some (o299.1, o299.2)
def g_L_change_239   (t1 : Int32) (D : TD) : Option (Int32 × (TD)) :=
  (g_O_setClock D t1).bind fun o239 => some (o239.1, o239.2)
def g_L_change_197   (t1 : Int32) (t2 : Int32) (t3 : Int32) (t4 : Int32) (D : TD) : Option (Int32 × (TD)) :=
  (g_L_low t3 t4).bind fun o197 => (g_O_load D t1 (t2 + o197)).bind fun o201 => some (o201.1, o201.2)
def g_L_change_160   (t1 : Int32) (t2 : Int32) (D : TD) : Option (Int32 × (TD)) :=
  (g_O_load D t1 t2).bind fun o160 => some (o160.1, o160.2)
def g_L_change (D : TD) (n1 : Int32) (n2 : Int32) : Option (Int32 × (TD)) :=
  (g_L_low n1 18).bind fun o3 => (if o3 = 0 then (g_L_low n2 4).bind fun o91 => (g_O_sell D o91).bind fun o94 => some (o94.1, o94.2) else (if o3 = 1 then (g_L_low n2 4).bind fun o91 => (g_O_sell D o91).bind fun o94 => some (o94.1, o94.2) else (if o3 = 2 then (g_L_low n2 4).bind fun o91 => (g_O_sell D o91).bind fun o94 => some (o94.1, o94.2) else (if o3 = 3 then (g_L_low n2 4).bind fun o91 => (g_O_sell D o91).bind fun o94 => some (o94.1, o94.2) else (if o3 = 4 then (g_L_low n2 4).bind fun o91 => (g_O_sell D o91).bind fun o94 => some (o94.1, o94.2) else (if o3 = 5 then (g_L_low n2 4).bind fun o91 => (g_O_sell D o91).bind fun o94 => some (o94.1, o94.2) else (if o3 = 6 then (g_O_cancel D).bind fun o99 => some (o99.1, o99.2) else (if o3 = 7 then (g_L_low n2 2).bind fun o105 => (if o105 = 0 then (g_O_close D).bind fun o112 => some (o112.1, o112.2) else (g_L_low (n2 >>> 1) 2000).bind fun o125 => (g_L_low (n2 >>> 12) 3).bind fun o133 => (if o133 = 0 then (g_L_low (n2 >>> 14) 100).bind fun o145 => g_L_change_160 o125 o145 D else (g_L_low (n2 >>> 1) 2000).bind fun o157 => g_L_change_160 o125 o157 D)) else (if o3 = 8 then (g_L_low n2 4000).bind fun o171 => (g_L_low (n2 >>> 12) 3).bind fun o183 => (if o183 = 0 then g_L_change_197 (100 + o171) 100 n2 100 D else g_L_change_197 (100 + o171) 100 n2 4000 D) else (if o3 = 9 then (g_L_low n2 4000).bind fun o171 => (g_L_low (n2 >>> 12) 3).bind fun o183 => (if o183 = 0 then g_L_change_197 (100 + o171) 100 n2 100 D else g_L_change_197 (100 + o171) 100 n2 4000 D) else (if o3 = 10 then (g_L_low n2 2).bind fun o208 => (if o208 = 0 then (g_O_told D 1).bind fun o216 => (g_L_low (n2 >>> 1) 12).bind fun o224 => g_L_change_239 (o216 + o224) D else (g_L_low (n2 >>> 1) 60001).bind fun o236 => g_L_change_239 o236 D) else (if o3 = 11 then (g_L_low n2 600).bind fun o249 => (g_O_pass D (1 + o249)).bind fun o253 => some (o253.1, o253.2) else (if o3 = 12 then (g_L_low n2 4).bind fun o260 => (g_L_low (n2 >>> 2) 999).bind fun o270 => (g_O_setPrice D o260 (1 + o270)).bind fun o274 => some (o274.1, o274.2) else (if o3 = 13 then (g_L_low n2 3).bind fun o281 => (if o281 = 0 then g_L_change_299 (-1) D else (g_L_low (n2 >>> 2) 25).bind fun o296 => g_L_change_299 o296 D) else (if o3 = 14 then (g_L_low n2 2).bind fun o305 => (if o305 = 0 then (g_O_off D).bind fun o312 => some (o312.1, o312.2) else (g_O_start D).bind fun o319 => some (o319.1, o319.2)) else (if o3 = 15 then (g_O_undo D).bind fun o324 => some (o324.1, o324.2) else (if o3 = 16 then (g_L_low n2 3).bind fun o330 => (if o330 = 0 then (g_L_low (n2 >>> 2) 2).bind fun o341 => (g_O_keep D o341).bind fun o344 => some (o344.1, o344.2) else (g_L_low n2 3).bind fun o352 => (if o352 = 1 then (g_L_low (n2 >>> 2) 2).bind fun o364 => (g_O_back D o364).bind fun o367 => some (o367.1, o367.2) else (g_O_start D).bind fun o374 => some (o374.1, o374.2))) else (g_O_start D).bind fun o379 => some (o379.1, o379.2))))))))))))))))))
set_option maxHeartbeats 4000000 in
set_option maxRecDepth 100000 in
theorem c_L_change (Z : GZ) (l : Launch) (A : TA) (D : TD) (n1 : Int32) (n2 : Int32) (o : (Int32 × (TD))) (hg : g_L_change D n1 n2 = some o) : Con Z l yL_change cL_change 3 (some .int) rm_L_change [.ref A.1, .int n1, .int n2] (wB Z A D) (some (.int o.1)) (wB Z A o.2) := by
  refine Con.of (by decide) (Nat.le_of_ble_eq_true rfl) ?_
  intro X hE0
  have hE : ∀ z, z = o → endsX X Z (some .int) (some (.int z.1)) (wB Z A z.2) := by
    rintro _ rfl; exact hE0
  have J299 : ∀ (t1 : Int32) (D : TD), g_L_change_299 t1 D = some o → AtK X Z rm_L_change cL_change RL 3 0 0 (wB Z A D) 299 [] [.int t1, .ref A.1] := by
    intro t1 D hg
    unfold g_L_change_299 at hg
    obtain ⟨o299, e299, hg⟩ := ob hg
    refine r_callO (As := [.int t1]) (rest := []) (ws' := wB Z A o299.2) (cO_cut Z A D t1 o299 e299) (xPk.all wB_dom) rfl qw_382 mv_X6_cut ⟨Nat.le_of_ble_eq_true rfl, Nat.le_of_ble_eq_true rfl⟩ ⟨rfl, rfl⟩ ⟨Nat.zero_le _, Nat.zero_le _⟩ rfl (Nat.le_of_ble_eq_true rfl) rfl dL_change_299 ?_
    exact r_iret (hE _ (Option.some.inj hg)) dL_change_302
  have J239 : ∀ (t1 : Int32) (D : TD), g_L_change_239 t1 D = some o → AtK X Z rm_L_change cL_change RL 3 0 0 (wB Z A D) 239 [] [.int t1, .ref A.1] := by
    intro t1 D hg
    unfold g_L_change_239 at hg
    obtain ⟨o239, e239, hg⟩ := ob hg
    refine r_callO (As := [.int t1]) (rest := []) (ws' := wB Z A o239.2) (cO_setClock Z A D t1 o239 e239) (xPk.all wB_dom) rfl qw_353 mv_X6_setClock ⟨Nat.le_of_ble_eq_true rfl, Nat.le_of_ble_eq_true rfl⟩ ⟨rfl, rfl⟩ ⟨Nat.zero_le _, Nat.zero_le _⟩ rfl (Nat.le_of_ble_eq_true rfl) rfl dL_change_239 ?_
    exact r_iret (hE _ (Option.some.inj hg)) dL_change_242
  have J197 : ∀ (t1 : Int32) (t2 : Int32) (t3 : Int32) (t4 : Int32) (D : TD), g_L_change_197 t1 t2 t3 t4 D = some o → AtK X Z rm_L_change cL_change RL 3 0 0 (wB Z A D) 197 [] [.int t4, .int t3, .int t2, .int t1, .ref A.1] := by
    intro t1 t2 t3 t4 D hg
    unfold g_L_change_197 at hg
    obtain ⟨o197, e197, hg⟩ := ob hg
    refine r_callS (As := [.int t3, .int t4]) (rest := [.int t2, .int t1, .ref A.1]) (ws' := wB Z A D) (fun l => c_L_low Z l   t3 t4 o197 e197) qw_206 ms_L_low xPk.none ⟨Nat.le_of_ble_eq_true rfl, Nat.le_of_ble_eq_true rfl⟩ ⟨rfl, rfl⟩ ⟨Nat.zero_le _, Nat.zero_le _⟩ rfl (Nat.le_of_ble_eq_true rfl) rfl dL_change_197 ?_
    refine r_iadd dL_change_200 ?_
    obtain ⟨o201, e201, hg⟩ := ob hg
    refine r_callO (As := [.int t1, .int (t2 + o197)]) (rest := []) (ws' := wB Z A o201.2) (cO_load Z A D t1 (t2 + o197) o201 e201) (xPk.all wB_dom) rfl qw_343 mv_X6_load ⟨Nat.le_of_ble_eq_true rfl, Nat.le_of_ble_eq_true rfl⟩ ⟨rfl, rfl⟩ ⟨Nat.zero_le _, Nat.zero_le _⟩ rfl (Nat.le_of_ble_eq_true rfl) rfl dL_change_201 ?_
    exact r_iret (hE _ (Option.some.inj hg)) dL_change_204
  have J160 : ∀ (t1 : Int32) (t2 : Int32) (D : TD), g_L_change_160 t1 t2 D = some o → AtK X Z rm_L_change cL_change RL 3 0 0 (wB Z A D) 160 [] [.int t2, .int t1, .ref A.1] := by
    intro t1 t2 D hg
    unfold g_L_change_160 at hg
    obtain ⟨o160, e160, hg⟩ := ob hg
    refine r_callO (As := [.int t1, .int t2]) (rest := []) (ws' := wB Z A o160.2) (cO_load Z A D t1 t2 o160 e160) (xPk.all wB_dom) rfl qw_343 mv_X6_load ⟨Nat.le_of_ble_eq_true rfl, Nat.le_of_ble_eq_true rfl⟩ ⟨rfl, rfl⟩ ⟨Nat.zero_le _, Nat.zero_le _⟩ rfl (Nat.le_of_ble_eq_true rfl) rfl dL_change_160 ?_
    exact r_iret (hE _ (Option.some.inj hg)) dL_change_163
  unfold g_L_change at hg
  show AtK X Z rm_L_change cL_change RL 3 0 0 (wB Z A D) 0 [(0, .ref A.1), (1, .int n1), (2, .int n2)] []
  refine r_iload_n dL_change_0 1 rfl ?_
  refine r_bipush (v := 18) dL_change_1 kbp_18 ?_
  obtain ⟨o3, e3, hg⟩ := ob hg
  refine r_callS (As := [.int n1, .int 18]) (rest := []) (ws' := wB Z A D) (fun l => c_L_low Z l   n1 18 o3 e3) qw_206 ms_L_low xPk.none ⟨Nat.le_of_ble_eq_true rfl, Nat.le_of_ble_eq_true rfl⟩ ⟨rfl, rfl⟩ ⟨Nat.zero_le _, Nat.zero_le _⟩ rfl (Nat.le_of_ble_eq_true rfl) rfl dL_change_3 ?_
  by_cases h6_0 : o3 = 0
  · replace hg := (if_pos h6_0).symm.trans hg
    refine r_tableIn (tgt := 88) (off := 82) dL_change_6 (by rw [h6_0]; decide) (by rw [h6_0]; decide) (by rw [h6_0]; decide) (by decide) ?_
    refine r_aload_n dL_change_88 0 rfl ?_
    refine r_iload_n dL_change_89 2 rfl ?_
    refine r_iconst (v := 4) dL_change_90 kic_4 ?_
    obtain ⟨o91, e91, hg⟩ := ob hg
    refine r_callS (As := [.int n2, .int 4]) (rest := [.ref A.1]) (ws' := wB Z A D) (fun l => c_L_low Z l   n2 4 o91 e91) qw_206 ms_L_low xPk.none ⟨Nat.le_of_ble_eq_true rfl, Nat.le_of_ble_eq_true rfl⟩ ⟨rfl, rfl⟩ ⟨Nat.zero_le _, Nat.zero_le _⟩ rfl (Nat.le_of_ble_eq_true rfl) rfl dL_change_91 ?_
    obtain ⟨o94, e94, hg⟩ := ob hg
    refine r_callO (As := [.int o91]) (rest := []) (ws' := wB Z A o94.2) (cO_sell Z A D o91 o94 e94) (xPk.all wB_dom) rfl qw_213 mv_X6_sell ⟨Nat.le_of_ble_eq_true rfl, Nat.le_of_ble_eq_true rfl⟩ ⟨rfl, rfl⟩ ⟨Nat.zero_le _, Nat.zero_le _⟩ rfl (Nat.le_of_ble_eq_true rfl) rfl dL_change_94 ?_
    exact r_iret (hE _ (Option.some.inj hg)) dL_change_97
  replace hg := (if_neg h6_0).symm.trans hg
  by_cases h6_1 : o3 = 1
  · replace hg := (if_pos h6_1).symm.trans hg
    refine r_tableIn (tgt := 88) (off := 82) dL_change_6 (by rw [h6_1]; decide) (by rw [h6_1]; decide) (by rw [h6_1]; decide) (by decide) ?_
    refine r_aload_n dL_change_88 0 rfl ?_
    refine r_iload_n dL_change_89 2 rfl ?_
    refine r_iconst (v := 4) dL_change_90 kic_4 ?_
    obtain ⟨o91, e91, hg⟩ := ob hg
    refine r_callS (As := [.int n2, .int 4]) (rest := [.ref A.1]) (ws' := wB Z A D) (fun l => c_L_low Z l   n2 4 o91 e91) qw_206 ms_L_low xPk.none ⟨Nat.le_of_ble_eq_true rfl, Nat.le_of_ble_eq_true rfl⟩ ⟨rfl, rfl⟩ ⟨Nat.zero_le _, Nat.zero_le _⟩ rfl (Nat.le_of_ble_eq_true rfl) rfl dL_change_91 ?_
    obtain ⟨o94, e94, hg⟩ := ob hg
    refine r_callO (As := [.int o91]) (rest := []) (ws' := wB Z A o94.2) (cO_sell Z A D o91 o94 e94) (xPk.all wB_dom) rfl qw_213 mv_X6_sell ⟨Nat.le_of_ble_eq_true rfl, Nat.le_of_ble_eq_true rfl⟩ ⟨rfl, rfl⟩ ⟨Nat.zero_le _, Nat.zero_le _⟩ rfl (Nat.le_of_ble_eq_true rfl) rfl dL_change_94 ?_
    exact r_iret (hE _ (Option.some.inj hg)) dL_change_97
  replace hg := (if_neg h6_1).symm.trans hg
  by_cases h6_2 : o3 = 2
  · replace hg := (if_pos h6_2).symm.trans hg
    refine r_tableIn (tgt := 88) (off := 82) dL_change_6 (by rw [h6_2]; decide) (by rw [h6_2]; decide) (by rw [h6_2]; decide) (by decide) ?_
    refine r_aload_n dL_change_88 0 rfl ?_
    refine r_iload_n dL_change_89 2 rfl ?_
    refine r_iconst (v := 4) dL_change_90 kic_4 ?_
    obtain ⟨o91, e91, hg⟩ := ob hg
    refine r_callS (As := [.int n2, .int 4]) (rest := [.ref A.1]) (ws' := wB Z A D) (fun l => c_L_low Z l   n2 4 o91 e91) qw_206 ms_L_low xPk.none ⟨Nat.le_of_ble_eq_true rfl, Nat.le_of_ble_eq_true rfl⟩ ⟨rfl, rfl⟩ ⟨Nat.zero_le _, Nat.zero_le _⟩ rfl (Nat.le_of_ble_eq_true rfl) rfl dL_change_91 ?_
    obtain ⟨o94, e94, hg⟩ := ob hg
    refine r_callO (As := [.int o91]) (rest := []) (ws' := wB Z A o94.2) (cO_sell Z A D o91 o94 e94) (xPk.all wB_dom) rfl qw_213 mv_X6_sell ⟨Nat.le_of_ble_eq_true rfl, Nat.le_of_ble_eq_true rfl⟩ ⟨rfl, rfl⟩ ⟨Nat.zero_le _, Nat.zero_le _⟩ rfl (Nat.le_of_ble_eq_true rfl) rfl dL_change_94 ?_
    exact r_iret (hE _ (Option.some.inj hg)) dL_change_97
  replace hg := (if_neg h6_2).symm.trans hg
  by_cases h6_3 : o3 = 3
  · replace hg := (if_pos h6_3).symm.trans hg
    refine r_tableIn (tgt := 88) (off := 82) dL_change_6 (by rw [h6_3]; decide) (by rw [h6_3]; decide) (by rw [h6_3]; decide) (by decide) ?_
    refine r_aload_n dL_change_88 0 rfl ?_
    refine r_iload_n dL_change_89 2 rfl ?_
    refine r_iconst (v := 4) dL_change_90 kic_4 ?_
    obtain ⟨o91, e91, hg⟩ := ob hg
    refine r_callS (As := [.int n2, .int 4]) (rest := [.ref A.1]) (ws' := wB Z A D) (fun l => c_L_low Z l   n2 4 o91 e91) qw_206 ms_L_low xPk.none ⟨Nat.le_of_ble_eq_true rfl, Nat.le_of_ble_eq_true rfl⟩ ⟨rfl, rfl⟩ ⟨Nat.zero_le _, Nat.zero_le _⟩ rfl (Nat.le_of_ble_eq_true rfl) rfl dL_change_91 ?_
    obtain ⟨o94, e94, hg⟩ := ob hg
    refine r_callO (As := [.int o91]) (rest := []) (ws' := wB Z A o94.2) (cO_sell Z A D o91 o94 e94) (xPk.all wB_dom) rfl qw_213 mv_X6_sell ⟨Nat.le_of_ble_eq_true rfl, Nat.le_of_ble_eq_true rfl⟩ ⟨rfl, rfl⟩ ⟨Nat.zero_le _, Nat.zero_le _⟩ rfl (Nat.le_of_ble_eq_true rfl) rfl dL_change_94 ?_
    exact r_iret (hE _ (Option.some.inj hg)) dL_change_97
  replace hg := (if_neg h6_3).symm.trans hg
  by_cases h6_4 : o3 = 4
  · replace hg := (if_pos h6_4).symm.trans hg
    refine r_tableIn (tgt := 88) (off := 82) dL_change_6 (by rw [h6_4]; decide) (by rw [h6_4]; decide) (by rw [h6_4]; decide) (by decide) ?_
    refine r_aload_n dL_change_88 0 rfl ?_
    refine r_iload_n dL_change_89 2 rfl ?_
    refine r_iconst (v := 4) dL_change_90 kic_4 ?_
    obtain ⟨o91, e91, hg⟩ := ob hg
    refine r_callS (As := [.int n2, .int 4]) (rest := [.ref A.1]) (ws' := wB Z A D) (fun l => c_L_low Z l   n2 4 o91 e91) qw_206 ms_L_low xPk.none ⟨Nat.le_of_ble_eq_true rfl, Nat.le_of_ble_eq_true rfl⟩ ⟨rfl, rfl⟩ ⟨Nat.zero_le _, Nat.zero_le _⟩ rfl (Nat.le_of_ble_eq_true rfl) rfl dL_change_91 ?_
    obtain ⟨o94, e94, hg⟩ := ob hg
    refine r_callO (As := [.int o91]) (rest := []) (ws' := wB Z A o94.2) (cO_sell Z A D o91 o94 e94) (xPk.all wB_dom) rfl qw_213 mv_X6_sell ⟨Nat.le_of_ble_eq_true rfl, Nat.le_of_ble_eq_true rfl⟩ ⟨rfl, rfl⟩ ⟨Nat.zero_le _, Nat.zero_le _⟩ rfl (Nat.le_of_ble_eq_true rfl) rfl dL_change_94 ?_
    exact r_iret (hE _ (Option.some.inj hg)) dL_change_97
  replace hg := (if_neg h6_4).symm.trans hg
  by_cases h6_5 : o3 = 5
  · replace hg := (if_pos h6_5).symm.trans hg
    refine r_tableIn (tgt := 88) (off := 82) dL_change_6 (by rw [h6_5]; decide) (by rw [h6_5]; decide) (by rw [h6_5]; decide) (by decide) ?_
    refine r_aload_n dL_change_88 0 rfl ?_
    refine r_iload_n dL_change_89 2 rfl ?_
    refine r_iconst (v := 4) dL_change_90 kic_4 ?_
    obtain ⟨o91, e91, hg⟩ := ob hg
    refine r_callS (As := [.int n2, .int 4]) (rest := [.ref A.1]) (ws' := wB Z A D) (fun l => c_L_low Z l   n2 4 o91 e91) qw_206 ms_L_low xPk.none ⟨Nat.le_of_ble_eq_true rfl, Nat.le_of_ble_eq_true rfl⟩ ⟨rfl, rfl⟩ ⟨Nat.zero_le _, Nat.zero_le _⟩ rfl (Nat.le_of_ble_eq_true rfl) rfl dL_change_91 ?_
    obtain ⟨o94, e94, hg⟩ := ob hg
    refine r_callO (As := [.int o91]) (rest := []) (ws' := wB Z A o94.2) (cO_sell Z A D o91 o94 e94) (xPk.all wB_dom) rfl qw_213 mv_X6_sell ⟨Nat.le_of_ble_eq_true rfl, Nat.le_of_ble_eq_true rfl⟩ ⟨rfl, rfl⟩ ⟨Nat.zero_le _, Nat.zero_le _⟩ rfl (Nat.le_of_ble_eq_true rfl) rfl dL_change_94 ?_
    exact r_iret (hE _ (Option.some.inj hg)) dL_change_97
  replace hg := (if_neg h6_5).symm.trans hg
  by_cases h6_6 : o3 = 6
  · replace hg := (if_pos h6_6).symm.trans hg
    refine r_tableIn (tgt := 98) (off := 92) dL_change_6 (by rw [h6_6]; decide) (by rw [h6_6]; decide) (by rw [h6_6]; decide) (by decide) ?_
    refine r_aload_n dL_change_98 0 rfl ?_
    obtain ⟨o99, e99, hg⟩ := ob hg
    refine r_callO (As := []) (rest := []) (ws' := wB Z A o99.2) (cO_cancel Z A D o99 e99) (xPk.all wB_dom) rfl qw_308 mv_X6_cancel ⟨Nat.le_of_ble_eq_true rfl, Nat.le_of_ble_eq_true rfl⟩ ⟨rfl, rfl⟩ ⟨Nat.zero_le _, Nat.zero_le _⟩ rfl (Nat.le_of_ble_eq_true rfl) rfl dL_change_99 ?_
    exact r_iret (hE _ (Option.some.inj hg)) dL_change_102
  replace hg := (if_neg h6_6).symm.trans hg
  by_cases h6_7 : o3 = 7
  · replace hg := (if_pos h6_7).symm.trans hg
    refine r_tableIn (tgt := 103) (off := 97) dL_change_6 (by rw [h6_7]; decide) (by rw [h6_7]; decide) (by rw [h6_7]; decide) (by decide) ?_
    refine r_iload_n dL_change_103 2 rfl ?_
    refine r_iconst (v := 2) dL_change_104 kic_2 ?_
    obtain ⟨o105, e105, hg⟩ := ob hg
    refine r_callS (As := [.int n2, .int 2]) (rest := []) (ws' := wB Z A D) (fun l => c_L_low Z l   n2 2 o105 e105) qw_206 ms_L_low xPk.none ⟨Nat.le_of_ble_eq_true rfl, Nat.le_of_ble_eq_true rfl⟩ ⟨rfl, rfl⟩ ⟨Nat.zero_le _, Nat.zero_le _⟩ rfl (Nat.le_of_ble_eq_true rfl) rfl dL_change_105 ?_
    refine r_if_ne (tgt := 118) dL_change_108 (by decide) (fun h108 => ?_) (fun h108 => ?_)
    · replace hg := (if_neg h108).symm.trans hg
      refine r_aload_n dL_change_118 0 rfl ?_
      refine r_iload_n dL_change_119 2 rfl ?_
      refine r_iconst (v := 1) dL_change_120 kic_1 ?_
      refine r_ishr (n := 1) dL_change_121 (by decide) ?_
      refine r_sipush (v := 2000) dL_change_122 ksp_2000 ?_
      obtain ⟨o125, e125, hg⟩ := ob hg
      refine r_callS (As := [.int (n2 >>> 1), .int 2000]) (rest := [.ref A.1]) (ws' := wB Z A D) (fun l => c_L_low Z l   (n2 >>> 1) 2000 o125 e125) qw_206 ms_L_low xPk.none ⟨Nat.le_of_ble_eq_true rfl, Nat.le_of_ble_eq_true rfl⟩ ⟨rfl, rfl⟩ ⟨Nat.zero_le _, Nat.zero_le _⟩ rfl (Nat.le_of_ble_eq_true rfl) rfl dL_change_125 ?_
      refine r_iload_n dL_change_128 2 rfl ?_
      refine r_bipush (v := 12) dL_change_129 kbp_12 ?_
      refine r_ishr (n := 12) dL_change_131 (by decide) ?_
      refine r_iconst (v := 3) dL_change_132 kic_3 ?_
      obtain ⟨o133, e133, hg⟩ := ob hg
      refine r_callS (As := [.int (n2 >>> 12), .int 3]) (rest := [.int o125, .ref A.1]) (ws' := wB Z A D) (fun l => c_L_low Z l   (n2 >>> 12) 3 o133 e133) qw_206 ms_L_low xPk.none ⟨Nat.le_of_ble_eq_true rfl, Nat.le_of_ble_eq_true rfl⟩ ⟨rfl, rfl⟩ ⟨Nat.zero_le _, Nat.zero_le _⟩ rfl (Nat.le_of_ble_eq_true rfl) rfl dL_change_133 ?_
      refine r_if_ne (tgt := 151) dL_change_136 (by decide) (fun h136 => ?_) (fun h136 => ?_)
      · replace hg := (if_neg h136).symm.trans hg
        refine r_iload_n dL_change_151 2 rfl ?_
        refine r_iconst (v := 1) dL_change_152 kic_1 ?_
        refine r_ishr (n := 1) dL_change_153 (by decide) ?_
        refine r_sipush (v := 2000) dL_change_154 ksp_2000 ?_
        obtain ⟨o157, e157, hg⟩ := ob hg
        refine r_callS (As := [.int (n2 >>> 1), .int 2000]) (rest := [.int o125, .ref A.1]) (ws' := wB Z A D) (fun l => c_L_low Z l   (n2 >>> 1) 2000 o157 e157) qw_206 ms_L_low xPk.none ⟨Nat.le_of_ble_eq_true rfl, Nat.le_of_ble_eq_true rfl⟩ ⟨rfl, rfl⟩ ⟨Nat.zero_le _, Nat.zero_le _⟩ rfl (Nat.le_of_ble_eq_true rfl) rfl dL_change_157 ?_
        exact r_sub [] rfl (J160 o125 o157 D hg)
      · replace hg := (if_pos h136).symm.trans hg
        refine r_iload_n dL_change_139 2 rfl ?_
        refine r_bipush (v := 14) dL_change_140 kbp_14 ?_
        refine r_ishr (n := 14) dL_change_142 (by decide) ?_
        refine r_bipush (v := 100) dL_change_143 kbp_100 ?_
        obtain ⟨o145, e145, hg⟩ := ob hg
        refine r_callS (As := [.int (n2 >>> 14), .int 100]) (rest := [.int o125, .ref A.1]) (ws' := wB Z A D) (fun l => c_L_low Z l   (n2 >>> 14) 100 o145 e145) qw_206 ms_L_low xPk.none ⟨Nat.le_of_ble_eq_true rfl, Nat.le_of_ble_eq_true rfl⟩ ⟨rfl, rfl⟩ ⟨Nat.zero_le _, Nat.zero_le _⟩ rfl (Nat.le_of_ble_eq_true rfl) rfl dL_change_145 ?_
        refine r_goto (tgt := 160) dL_change_148 (by decide) ?_
        exact r_sub [] rfl (J160 o125 o145 D hg)
    · replace hg := (if_pos h108).symm.trans hg
      refine r_aload_n dL_change_111 0 rfl ?_
      obtain ⟨o112, e112, hg⟩ := ob hg
      refine r_callO (As := []) (rest := []) (ws' := wB Z A o112.2) (cO_close Z A D o112 e112) (xPk.all wB_dom) rfl qw_335 mv_X6_close ⟨Nat.le_of_ble_eq_true rfl, Nat.le_of_ble_eq_true rfl⟩ ⟨rfl, rfl⟩ ⟨Nat.zero_le _, Nat.zero_le _⟩ rfl (Nat.le_of_ble_eq_true rfl) rfl dL_change_112 ?_
      refine r_goto (tgt := 163) dL_change_115 (by decide) ?_
      exact r_iret (hE _ (Option.some.inj hg)) dL_change_163
  replace hg := (if_neg h6_7).symm.trans hg
  by_cases h6_8 : o3 = 8
  · replace hg := (if_pos h6_8).symm.trans hg
    refine r_tableIn (tgt := 164) (off := 158) dL_change_6 (by rw [h6_8]; decide) (by rw [h6_8]; decide) (by rw [h6_8]; decide) (by decide) ?_
    refine r_aload_n dL_change_164 0 rfl ?_
    refine r_bipush (v := 100) dL_change_165 kbp_100 ?_
    refine r_iload_n dL_change_167 2 rfl ?_
    refine r_sipush (v := 4000) dL_change_168 ksp_4000 ?_
    obtain ⟨o171, e171, hg⟩ := ob hg
    refine r_callS (As := [.int n2, .int 4000]) (rest := [.int 100, .ref A.1]) (ws' := wB Z A D) (fun l => c_L_low Z l   n2 4000 o171 e171) qw_206 ms_L_low xPk.none ⟨Nat.le_of_ble_eq_true rfl, Nat.le_of_ble_eq_true rfl⟩ ⟨rfl, rfl⟩ ⟨Nat.zero_le _, Nat.zero_le _⟩ rfl (Nat.le_of_ble_eq_true rfl) rfl dL_change_171 ?_
    refine r_iadd dL_change_174 ?_
    refine r_bipush (v := 100) dL_change_175 kbp_100 ?_
    refine r_iload_n dL_change_177 2 rfl ?_
    refine r_iload_n dL_change_178 2 rfl ?_
    refine r_bipush (v := 12) dL_change_179 kbp_12 ?_
    refine r_ishr (n := 12) dL_change_181 (by decide) ?_
    refine r_iconst (v := 3) dL_change_182 kic_3 ?_
    obtain ⟨o183, e183, hg⟩ := ob hg
    refine r_callS (As := [.int (n2 >>> 12), .int 3]) (rest := [.int n2, .int 100, .int (100 + o171), .ref A.1]) (ws' := wB Z A D) (fun l => c_L_low Z l   (n2 >>> 12) 3 o183 e183) qw_206 ms_L_low xPk.none ⟨Nat.le_of_ble_eq_true rfl, Nat.le_of_ble_eq_true rfl⟩ ⟨rfl, rfl⟩ ⟨Nat.zero_le _, Nat.zero_le _⟩ rfl (Nat.le_of_ble_eq_true rfl) rfl dL_change_183 ?_
    refine r_if_ne (tgt := 194) dL_change_186 (by decide) (fun h186 => ?_) (fun h186 => ?_)
    · replace hg := (if_neg h186).symm.trans hg
      refine r_sipush (v := 4000) dL_change_194 ksp_4000 ?_
      exact r_sub [] rfl (J197 (100 + o171) 100 n2 4000 D hg)
    · replace hg := (if_pos h186).symm.trans hg
      refine r_bipush (v := 100) dL_change_189 kbp_100 ?_
      refine r_goto (tgt := 197) dL_change_191 (by decide) ?_
      exact r_sub [] rfl (J197 (100 + o171) 100 n2 100 D hg)
  replace hg := (if_neg h6_8).symm.trans hg
  by_cases h6_9 : o3 = 9
  · replace hg := (if_pos h6_9).symm.trans hg
    refine r_tableIn (tgt := 164) (off := 158) dL_change_6 (by rw [h6_9]; decide) (by rw [h6_9]; decide) (by rw [h6_9]; decide) (by decide) ?_
    refine r_aload_n dL_change_164 0 rfl ?_
    refine r_bipush (v := 100) dL_change_165 kbp_100 ?_
    refine r_iload_n dL_change_167 2 rfl ?_
    refine r_sipush (v := 4000) dL_change_168 ksp_4000 ?_
    obtain ⟨o171, e171, hg⟩ := ob hg
    refine r_callS (As := [.int n2, .int 4000]) (rest := [.int 100, .ref A.1]) (ws' := wB Z A D) (fun l => c_L_low Z l   n2 4000 o171 e171) qw_206 ms_L_low xPk.none ⟨Nat.le_of_ble_eq_true rfl, Nat.le_of_ble_eq_true rfl⟩ ⟨rfl, rfl⟩ ⟨Nat.zero_le _, Nat.zero_le _⟩ rfl (Nat.le_of_ble_eq_true rfl) rfl dL_change_171 ?_
    refine r_iadd dL_change_174 ?_
    refine r_bipush (v := 100) dL_change_175 kbp_100 ?_
    refine r_iload_n dL_change_177 2 rfl ?_
    refine r_iload_n dL_change_178 2 rfl ?_
    refine r_bipush (v := 12) dL_change_179 kbp_12 ?_
    refine r_ishr (n := 12) dL_change_181 (by decide) ?_
    refine r_iconst (v := 3) dL_change_182 kic_3 ?_
    obtain ⟨o183, e183, hg⟩ := ob hg
    refine r_callS (As := [.int (n2 >>> 12), .int 3]) (rest := [.int n2, .int 100, .int (100 + o171), .ref A.1]) (ws' := wB Z A D) (fun l => c_L_low Z l   (n2 >>> 12) 3 o183 e183) qw_206 ms_L_low xPk.none ⟨Nat.le_of_ble_eq_true rfl, Nat.le_of_ble_eq_true rfl⟩ ⟨rfl, rfl⟩ ⟨Nat.zero_le _, Nat.zero_le _⟩ rfl (Nat.le_of_ble_eq_true rfl) rfl dL_change_183 ?_
    refine r_if_ne (tgt := 194) dL_change_186 (by decide) (fun h186 => ?_) (fun h186 => ?_)
    · replace hg := (if_neg h186).symm.trans hg
      refine r_sipush (v := 4000) dL_change_194 ksp_4000 ?_
      exact r_sub [] rfl (J197 (100 + o171) 100 n2 4000 D hg)
    · replace hg := (if_pos h186).symm.trans hg
      refine r_bipush (v := 100) dL_change_189 kbp_100 ?_
      refine r_goto (tgt := 197) dL_change_191 (by decide) ?_
      exact r_sub [] rfl (J197 (100 + o171) 100 n2 100 D hg)
  replace hg := (if_neg h6_9).symm.trans hg
  by_cases h6_10 : o3 = 10
  · replace hg := (if_pos h6_10).symm.trans hg
    refine r_tableIn (tgt := 205) (off := 199) dL_change_6 (by rw [h6_10]; decide) (by rw [h6_10]; decide) (by rw [h6_10]; decide) (by decide) ?_
    refine r_aload_n dL_change_205 0 rfl ?_
    refine r_iload_n dL_change_206 2 rfl ?_
    refine r_iconst (v := 2) dL_change_207 kic_2 ?_
    obtain ⟨o208, e208, hg⟩ := ob hg
    refine r_callS (As := [.int n2, .int 2]) (rest := [.ref A.1]) (ws' := wB Z A D) (fun l => c_L_low Z l   n2 2 o208 e208) qw_206 ms_L_low xPk.none ⟨Nat.le_of_ble_eq_true rfl, Nat.le_of_ble_eq_true rfl⟩ ⟨rfl, rfl⟩ ⟨Nat.zero_le _, Nat.zero_le _⟩ rfl (Nat.le_of_ble_eq_true rfl) rfl dL_change_208 ?_
    refine r_if_ne (tgt := 231) dL_change_211 (by decide) (fun h211 => ?_) (fun h211 => ?_)
    · replace hg := (if_neg h211).symm.trans hg
      refine r_iload_n dL_change_231 2 rfl ?_
      refine r_iconst (v := 1) dL_change_232 kic_1 ?_
      refine r_ishr (n := 1) dL_change_233 (by decide) ?_
      refine r_ldc qw_352 dL_change_234 ?_
      obtain ⟨o236, e236, hg⟩ := ob hg
      refine r_callS (As := [.int (n2 >>> 1), .int 60001]) (rest := [.ref A.1]) (ws' := wB Z A D) (fun l => c_L_low Z l   (n2 >>> 1) 60001 o236 e236) qw_206 ms_L_low xPk.none ⟨Nat.le_of_ble_eq_true rfl, Nat.le_of_ble_eq_true rfl⟩ ⟨rfl, rfl⟩ ⟨Nat.zero_le _, Nat.zero_le _⟩ rfl (Nat.le_of_ble_eq_true rfl) rfl dL_change_236 ?_
      exact r_sub [] rfl (J239 o236 D hg)
    · replace hg := (if_pos h211).symm.trans hg
      refine r_aload_n dL_change_214 0 rfl ?_
      refine r_iconst (v := 1) dL_change_215 kic_1 ?_
      obtain ⟨o216, e216, hg⟩ := ob hg
      refine r_callO (As := [.int 1]) (rest := [.ref A.1]) (ws' := wB Z A D) (cO_told Z A D 1 o216 e216) (xPk.all wB_dom) rfl qw_191 mv_X6_told ⟨Nat.le_of_ble_eq_true rfl, Nat.le_of_ble_eq_true rfl⟩ ⟨rfl, rfl⟩ ⟨Nat.zero_le _, Nat.zero_le _⟩ rfl (Nat.le_of_ble_eq_true rfl) rfl dL_change_216 ?_
      refine r_iload_n dL_change_219 2 rfl ?_
      refine r_iconst (v := 1) dL_change_220 kic_1 ?_
      refine r_ishr (n := 1) dL_change_221 (by decide) ?_
      refine r_bipush (v := 12) dL_change_222 kbp_12 ?_
      obtain ⟨o224, e224, hg⟩ := ob hg
      refine r_callS (As := [.int (n2 >>> 1), .int 12]) (rest := [.int o216, .ref A.1]) (ws' := wB Z A D) (fun l => c_L_low Z l   (n2 >>> 1) 12 o224 e224) qw_206 ms_L_low xPk.none ⟨Nat.le_of_ble_eq_true rfl, Nat.le_of_ble_eq_true rfl⟩ ⟨rfl, rfl⟩ ⟨Nat.zero_le _, Nat.zero_le _⟩ rfl (Nat.le_of_ble_eq_true rfl) rfl dL_change_224 ?_
      refine r_iadd dL_change_227 ?_
      refine r_goto (tgt := 239) dL_change_228 (by decide) ?_
      exact r_sub [] rfl (J239 (o216 + o224) D hg)
  replace hg := (if_neg h6_10).symm.trans hg
  by_cases h6_11 : o3 = 11
  · replace hg := (if_pos h6_11).symm.trans hg
    refine r_tableIn (tgt := 243) (off := 237) dL_change_6 (by rw [h6_11]; decide) (by rw [h6_11]; decide) (by rw [h6_11]; decide) (by decide) ?_
    refine r_aload_n dL_change_243 0 rfl ?_
    refine r_iconst (v := 1) dL_change_244 kic_1 ?_
    refine r_iload_n dL_change_245 2 rfl ?_
    refine r_sipush (v := 600) dL_change_246 ksp_600 ?_
    obtain ⟨o249, e249, hg⟩ := ob hg
    refine r_callS (As := [.int n2, .int 600]) (rest := [.int 1, .ref A.1]) (ws' := wB Z A D) (fun l => c_L_low Z l   n2 600 o249 e249) qw_206 ms_L_low xPk.none ⟨Nat.le_of_ble_eq_true rfl, Nat.le_of_ble_eq_true rfl⟩ ⟨rfl, rfl⟩ ⟨Nat.zero_le _, Nat.zero_le _⟩ rfl (Nat.le_of_ble_eq_true rfl) rfl dL_change_249 ?_
    refine r_iadd dL_change_252 ?_
    obtain ⟨o253, e253, hg⟩ := ob hg
    refine r_callO (As := [.int (1 + o249)]) (rest := []) (ws' := wB Z A o253.2) (cO_pass Z A D (1 + o249) o253 e253) (xPk.all wB_dom) rfl qw_365 mv_X6_pass ⟨Nat.le_of_ble_eq_true rfl, Nat.le_of_ble_eq_true rfl⟩ ⟨rfl, rfl⟩ ⟨Nat.zero_le _, Nat.zero_le _⟩ rfl (Nat.le_of_ble_eq_true rfl) rfl dL_change_253 ?_
    exact r_iret (hE _ (Option.some.inj hg)) dL_change_256
  replace hg := (if_neg h6_11).symm.trans hg
  by_cases h6_12 : o3 = 12
  · replace hg := (if_pos h6_12).symm.trans hg
    refine r_tableIn (tgt := 257) (off := 251) dL_change_6 (by rw [h6_12]; decide) (by rw [h6_12]; decide) (by rw [h6_12]; decide) (by decide) ?_
    refine r_aload_n dL_change_257 0 rfl ?_
    refine r_iload_n dL_change_258 2 rfl ?_
    refine r_iconst (v := 4) dL_change_259 kic_4 ?_
    obtain ⟨o260, e260, hg⟩ := ob hg
    refine r_callS (As := [.int n2, .int 4]) (rest := [.ref A.1]) (ws' := wB Z A D) (fun l => c_L_low Z l   n2 4 o260 e260) qw_206 ms_L_low xPk.none ⟨Nat.le_of_ble_eq_true rfl, Nat.le_of_ble_eq_true rfl⟩ ⟨rfl, rfl⟩ ⟨Nat.zero_le _, Nat.zero_le _⟩ rfl (Nat.le_of_ble_eq_true rfl) rfl dL_change_260 ?_
    refine r_iconst (v := 1) dL_change_263 kic_1 ?_
    refine r_iload_n dL_change_264 2 rfl ?_
    refine r_iconst (v := 2) dL_change_265 kic_2 ?_
    refine r_ishr (n := 2) dL_change_266 (by decide) ?_
    refine r_sipush (v := 999) dL_change_267 ksp_999 ?_
    obtain ⟨o270, e270, hg⟩ := ob hg
    refine r_callS (As := [.int (n2 >>> 2), .int 999]) (rest := [.int 1, .int o260, .ref A.1]) (ws' := wB Z A D) (fun l => c_L_low Z l   (n2 >>> 2) 999 o270 e270) qw_206 ms_L_low xPk.none ⟨Nat.le_of_ble_eq_true rfl, Nat.le_of_ble_eq_true rfl⟩ ⟨rfl, rfl⟩ ⟨Nat.zero_le _, Nat.zero_le _⟩ rfl (Nat.le_of_ble_eq_true rfl) rfl dL_change_270 ?_
    refine r_iadd dL_change_273 ?_
    obtain ⟨o274, e274, hg⟩ := ob hg
    refine r_callO (As := [.int o260, .int (1 + o270)]) (rest := []) (ws' := wB Z A o274.2) (cO_setPrice Z A D o260 (1 + o270) o274 e274) (xPk.all wB_dom) rfl qw_372 mv_X6_setPrice ⟨Nat.le_of_ble_eq_true rfl, Nat.le_of_ble_eq_true rfl⟩ ⟨rfl, rfl⟩ ⟨Nat.zero_le _, Nat.zero_le _⟩ rfl (Nat.le_of_ble_eq_true rfl) rfl dL_change_274 ?_
    exact r_iret (hE _ (Option.some.inj hg)) dL_change_277
  replace hg := (if_neg h6_12).symm.trans hg
  by_cases h6_13 : o3 = 13
  · replace hg := (if_pos h6_13).symm.trans hg
    refine r_tableIn (tgt := 278) (off := 272) dL_change_6 (by rw [h6_13]; decide) (by rw [h6_13]; decide) (by rw [h6_13]; decide) (by decide) ?_
    refine r_aload_n dL_change_278 0 rfl ?_
    refine r_iload_n dL_change_279 2 rfl ?_
    refine r_iconst (v := 3) dL_change_280 kic_3 ?_
    obtain ⟨o281, e281, hg⟩ := ob hg
    refine r_callS (As := [.int n2, .int 3]) (rest := [.ref A.1]) (ws' := wB Z A D) (fun l => c_L_low Z l   n2 3 o281 e281) qw_206 ms_L_low xPk.none ⟨Nat.le_of_ble_eq_true rfl, Nat.le_of_ble_eq_true rfl⟩ ⟨rfl, rfl⟩ ⟨Nat.zero_le _, Nat.zero_le _⟩ rfl (Nat.le_of_ble_eq_true rfl) rfl dL_change_281 ?_
    refine r_if_ne (tgt := 291) dL_change_284 (by decide) (fun h284 => ?_) (fun h284 => ?_)
    · replace hg := (if_neg h284).symm.trans hg
      refine r_iload_n dL_change_291 2 rfl ?_
      refine r_iconst (v := 2) dL_change_292 kic_2 ?_
      refine r_ishr (n := 2) dL_change_293 (by decide) ?_
      refine r_bipush (v := 25) dL_change_294 kbp_25 ?_
      obtain ⟨o296, e296, hg⟩ := ob hg
      refine r_callS (As := [.int (n2 >>> 2), .int 25]) (rest := [.ref A.1]) (ws' := wB Z A D) (fun l => c_L_low Z l   (n2 >>> 2) 25 o296 e296) qw_206 ms_L_low xPk.none ⟨Nat.le_of_ble_eq_true rfl, Nat.le_of_ble_eq_true rfl⟩ ⟨rfl, rfl⟩ ⟨Nat.zero_le _, Nat.zero_le _⟩ rfl (Nat.le_of_ble_eq_true rfl) rfl dL_change_296 ?_
      exact r_sub [] rfl (J299 o296 D hg)
    · replace hg := (if_pos h284).symm.trans hg
      refine r_iconst (v := (-1)) dL_change_287 kic_m1 ?_
      refine r_goto (tgt := 299) dL_change_288 (by decide) ?_
      exact r_sub [] rfl (J299 (-1) D hg)
  replace hg := (if_neg h6_13).symm.trans hg
  by_cases h6_14 : o3 = 14
  · replace hg := (if_pos h6_14).symm.trans hg
    refine r_tableIn (tgt := 303) (off := 297) dL_change_6 (by rw [h6_14]; decide) (by rw [h6_14]; decide) (by rw [h6_14]; decide) (by decide) ?_
    refine r_iload_n dL_change_303 2 rfl ?_
    refine r_iconst (v := 2) dL_change_304 kic_2 ?_
    obtain ⟨o305, e305, hg⟩ := ob hg
    refine r_callS (As := [.int n2, .int 2]) (rest := []) (ws' := wB Z A D) (fun l => c_L_low Z l   n2 2 o305 e305) qw_206 ms_L_low xPk.none ⟨Nat.le_of_ble_eq_true rfl, Nat.le_of_ble_eq_true rfl⟩ ⟨rfl, rfl⟩ ⟨Nat.zero_le _, Nat.zero_le _⟩ rfl (Nat.le_of_ble_eq_true rfl) rfl dL_change_305 ?_
    refine r_if_ne (tgt := 318) dL_change_308 (by decide) (fun h308 => ?_) (fun h308 => ?_)
    · replace hg := (if_neg h308).symm.trans hg
      refine r_aload_n dL_change_318 0 rfl ?_
      obtain ⟨o319, e319, hg⟩ := ob hg
      refine r_callO (As := []) (rest := []) (ws' := wB Z A o319.2) (cO_start Z A D o319 e319) (xPk.all wB_dom) rfl qw_405 mv_X6_start ⟨Nat.le_of_ble_eq_true rfl, Nat.le_of_ble_eq_true rfl⟩ ⟨rfl, rfl⟩ ⟨Nat.zero_le _, Nat.zero_le _⟩ rfl (Nat.le_of_ble_eq_true rfl) rfl dL_change_319 ?_
      exact r_iret (hE _ (Option.some.inj hg)) dL_change_322
    · replace hg := (if_pos h308).symm.trans hg
      refine r_aload_n dL_change_311 0 rfl ?_
      obtain ⟨o312, e312, hg⟩ := ob hg
      refine r_callO (As := []) (rest := []) (ws' := wB Z A o312.2) (cO_off Z A D o312 e312) (xPk.all wB_dom) rfl qw_386 mv_X6_off ⟨Nat.le_of_ble_eq_true rfl, Nat.le_of_ble_eq_true rfl⟩ ⟨rfl, rfl⟩ ⟨Nat.zero_le _, Nat.zero_le _⟩ rfl (Nat.le_of_ble_eq_true rfl) rfl dL_change_312 ?_
      refine r_goto (tgt := 322) dL_change_315 (by decide) ?_
      exact r_iret (hE _ (Option.some.inj hg)) dL_change_322
  replace hg := (if_neg h6_14).symm.trans hg
  by_cases h6_15 : o3 = 15
  · replace hg := (if_pos h6_15).symm.trans hg
    refine r_tableIn (tgt := 323) (off := 317) dL_change_6 (by rw [h6_15]; decide) (by rw [h6_15]; decide) (by rw [h6_15]; decide) (by decide) ?_
    refine r_aload_n dL_change_323 0 rfl ?_
    obtain ⟨o324, e324, hg⟩ := ob hg
    refine r_callO (As := []) (rest := []) (ws' := wB Z A o324.2) (cO_undo Z A D o324 e324) (xPk.all wB_dom) rfl qw_433 mv_X6_undo ⟨Nat.le_of_ble_eq_true rfl, Nat.le_of_ble_eq_true rfl⟩ ⟨rfl, rfl⟩ ⟨Nat.zero_le _, Nat.zero_le _⟩ rfl (Nat.le_of_ble_eq_true rfl) rfl dL_change_324 ?_
    exact r_iret (hE _ (Option.some.inj hg)) dL_change_327
  replace hg := (if_neg h6_15).symm.trans hg
  by_cases h6_16 : o3 = 16
  · replace hg := (if_pos h6_16).symm.trans hg
    refine r_tableIn (tgt := 328) (off := 322) dL_change_6 (by rw [h6_16]; decide) (by rw [h6_16]; decide) (by rw [h6_16]; decide) (by decide) ?_
    refine r_iload_n dL_change_328 2 rfl ?_
    refine r_iconst (v := 3) dL_change_329 kic_3 ?_
    obtain ⟨o330, e330, hg⟩ := ob hg
    refine r_callS (As := [.int n2, .int 3]) (rest := []) (ws' := wB Z A D) (fun l => c_L_low Z l   n2 3 o330 e330) qw_206 ms_L_low xPk.none ⟨Nat.le_of_ble_eq_true rfl, Nat.le_of_ble_eq_true rfl⟩ ⟨rfl, rfl⟩ ⟨Nat.zero_le _, Nat.zero_le _⟩ rfl (Nat.le_of_ble_eq_true rfl) rfl dL_change_330 ?_
    refine r_if_ne (tgt := 350) dL_change_333 (by decide) (fun h333 => ?_) (fun h333 => ?_)
    · replace hg := (if_neg h333).symm.trans hg
      refine r_iload_n dL_change_350 2 rfl ?_
      refine r_iconst (v := 3) dL_change_351 kic_3 ?_
      obtain ⟨o352, e352, hg⟩ := ob hg
      refine r_callS (As := [.int n2, .int 3]) (rest := []) (ws' := wB Z A D) (fun l => c_L_low Z l   n2 3 o352 e352) qw_206 ms_L_low xPk.none ⟨Nat.le_of_ble_eq_true rfl, Nat.le_of_ble_eq_true rfl⟩ ⟨rfl, rfl⟩ ⟨Nat.zero_le _, Nat.zero_le _⟩ rfl (Nat.le_of_ble_eq_true rfl) rfl dL_change_352 ?_
      refine r_iconst (v := 1) dL_change_355 kic_1 ?_
      refine r_icmp_ne (tgt := 373) dL_change_356 (by decide) (fun h356 => ?_) (fun h356 => ?_)
      · replace hg := (if_neg h356).symm.trans hg
        refine r_aload_n dL_change_373 0 rfl ?_
        obtain ⟨o374, e374, hg⟩ := ob hg
        refine r_callO (As := []) (rest := []) (ws' := wB Z A o374.2) (cO_start Z A D o374 e374) (xPk.all wB_dom) rfl qw_405 mv_X6_start ⟨Nat.le_of_ble_eq_true rfl, Nat.le_of_ble_eq_true rfl⟩ ⟨rfl, rfl⟩ ⟨Nat.zero_le _, Nat.zero_le _⟩ rfl (Nat.le_of_ble_eq_true rfl) rfl dL_change_374 ?_
        exact r_iret (hE _ (Option.some.inj hg)) dL_change_377
      · replace hg := (if_pos h356).symm.trans hg
        refine r_aload_n dL_change_359 0 rfl ?_
        refine r_iload_n dL_change_360 2 rfl ?_
        refine r_iconst (v := 2) dL_change_361 kic_2 ?_
        refine r_ishr (n := 2) dL_change_362 (by decide) ?_
        refine r_iconst (v := 2) dL_change_363 kic_2 ?_
        obtain ⟨o364, e364, hg⟩ := ob hg
        refine r_callS (As := [.int (n2 >>> 2), .int 2]) (rest := [.ref A.1]) (ws' := wB Z A D) (fun l => c_L_low Z l   (n2 >>> 2) 2 o364 e364) qw_206 ms_L_low xPk.none ⟨Nat.le_of_ble_eq_true rfl, Nat.le_of_ble_eq_true rfl⟩ ⟨rfl, rfl⟩ ⟨Nat.zero_le _, Nat.zero_le _⟩ rfl (Nat.le_of_ble_eq_true rfl) rfl dL_change_364 ?_
        obtain ⟨o367, e367, hg⟩ := ob hg
        refine r_callO (As := [.int o364]) (rest := []) (ws' := wB Z A o367.2) (cO_back Z A D o364 o367 e367) (xPk.all wB_dom) rfl qw_454 mv_X6_back ⟨Nat.le_of_ble_eq_true rfl, Nat.le_of_ble_eq_true rfl⟩ ⟨rfl, rfl⟩ ⟨Nat.zero_le _, Nat.zero_le _⟩ rfl (Nat.le_of_ble_eq_true rfl) rfl dL_change_367 ?_
        refine r_goto (tgt := 377) dL_change_370 (by decide) ?_
        exact r_iret (hE _ (Option.some.inj hg)) dL_change_377
    · replace hg := (if_pos h333).symm.trans hg
      refine r_aload_n dL_change_336 0 rfl ?_
      refine r_iload_n dL_change_337 2 rfl ?_
      refine r_iconst (v := 2) dL_change_338 kic_2 ?_
      refine r_ishr (n := 2) dL_change_339 (by decide) ?_
      refine r_iconst (v := 2) dL_change_340 kic_2 ?_
      obtain ⟨o341, e341, hg⟩ := ob hg
      refine r_callS (As := [.int (n2 >>> 2), .int 2]) (rest := [.ref A.1]) (ws' := wB Z A D) (fun l => c_L_low Z l   (n2 >>> 2) 2 o341 e341) qw_206 ms_L_low xPk.none ⟨Nat.le_of_ble_eq_true rfl, Nat.le_of_ble_eq_true rfl⟩ ⟨rfl, rfl⟩ ⟨Nat.zero_le _, Nat.zero_le _⟩ rfl (Nat.le_of_ble_eq_true rfl) rfl dL_change_341 ?_
      obtain ⟨o344, e344, hg⟩ := ob hg
      refine r_callO (As := [.int o341]) (rest := []) (ws' := wB Z A o344.2) (cO_keep Z A D o341 o344 e344) (xPk.all wB_dom) rfl qw_441 mv_X6_keep ⟨Nat.le_of_ble_eq_true rfl, Nat.le_of_ble_eq_true rfl⟩ ⟨rfl, rfl⟩ ⟨Nat.zero_le _, Nat.zero_le _⟩ rfl (Nat.le_of_ble_eq_true rfl) rfl dL_change_344 ?_
      refine r_goto (tgt := 377) dL_change_347 (by decide) ?_
      exact r_iret (hE _ (Option.some.inj hg)) dL_change_377
  replace hg := (if_neg h6_16).symm.trans hg
  have n6_0 : ¬ o3.toInt = 0 := x_nei (by decide) h6_0
  have n6_1 : ¬ o3.toInt = 1 := x_nei (by decide) h6_1
  have n6_2 : ¬ o3.toInt = 2 := x_nei (by decide) h6_2
  have n6_3 : ¬ o3.toInt = 3 := x_nei (by decide) h6_3
  have n6_4 : ¬ o3.toInt = 4 := x_nei (by decide) h6_4
  have n6_5 : ¬ o3.toInt = 5 := x_nei (by decide) h6_5
  have n6_6 : ¬ o3.toInt = 6 := x_nei (by decide) h6_6
  have n6_7 : ¬ o3.toInt = 7 := x_nei (by decide) h6_7
  have n6_8 : ¬ o3.toInt = 8 := x_nei (by decide) h6_8
  have n6_9 : ¬ o3.toInt = 9 := x_nei (by decide) h6_9
  have n6_10 : ¬ o3.toInt = 10 := x_nei (by decide) h6_10
  have n6_11 : ¬ o3.toInt = 11 := x_nei (by decide) h6_11
  have n6_12 : ¬ o3.toInt = 12 := x_nei (by decide) h6_12
  have n6_13 : ¬ o3.toInt = 13 := x_nei (by decide) h6_13
  have n6_14 : ¬ o3.toInt = 14 := x_nei (by decide) h6_14
  have n6_15 : ¬ o3.toInt = 15 := x_nei (by decide) h6_15
  have n6_16 : ¬ o3.toInt = 16 := x_nei (by decide) h6_16
  refine r_tableOut (tgt := 378) dL_change_6 (by omega) (by decide) ?_
  refine r_aload_n dL_change_378 0 rfl ?_
  obtain ⟨o379, e379, hg⟩ := ob hg
  refine r_callO (As := []) (rest := []) (ws' := wB Z A o379.2) (cO_start Z A D o379 e379) (xPk.all wB_dom) rfl qw_405 mv_X6_start ⟨Nat.le_of_ble_eq_true rfl, Nat.le_of_ble_eq_true rfl⟩ ⟨rfl, rfl⟩ ⟨Nat.zero_le _, Nat.zero_le _⟩ rfl (Nat.le_of_ble_eq_true rfl) rfl dL_change_379 ?_
  exact r_iret (hE _ (Option.some.inj hg)) dL_change_382

-- TicketJournalLaw.isKnown(LTicketJournal;)Z
abbrev rm_L_isKnown : Room := { frames := 7, cells := 0, slots := 0, locals := 160 }
def g_L_isKnown_198   (D : TD) : Option (Int32 × (TD)) :=
  some (0, D)
def g_L_isKnown_173   (t0 : Int32) (D : TD) : Option (Int32 × (TD)) :=
  (if t0 = 0 then g_L_isKnown_198 D else (g_O_undo D).bind fun o181 => (if o181.1 < 0 then g_L_isKnown_198 o181.2 else (g_O_undo o181.2).bind fun o188 => (if o188.1 < 0 then g_L_isKnown_198 o188.2 else some (1, o188.2))))
def g_L_isKnown_172   (D : TD) : Option (Int32 × (TD)) :=
  g_L_isKnown_173 0 D
def g_L_isKnown_42   (D : TD) : Option (Int32 × (TD)) :=
  some (0, D)
def g_L_isKnown (D : TD)  : Option (Int32 × (TD)) :=
  (g_O_told D 0).bind fun o2 => (if o2 = 0 then (g_O_told D 2).bind fun o10 => (if o10 = (-9) then (g_O_told D 7).bind fun o21 => (if o21 = (-9) then (g_O_off D).bind fun o30 => (if o30.1 = (-2) then some (1, o30.2) else g_L_isKnown_42 o30.2) else g_L_isKnown_42 D) else g_L_isKnown_42 D) else (g_O_told D 2).bind fun o46 => (g_O_told D 3).bind fun o52 => (g_O_told D 4).bind fun o58 => (g_O_told D 5).bind fun o64 => (g_O_told D 6).bind fun o72 => (g_O_told D 7).bind fun o80 => (g_O_records D (-1)).bind fun o87 => (g_O_start o87.2).bind fun o93 => (if o93.1 = (-2) then (g_O_off o93.2).bind fun o102 => (if o102.1 = o87.1 then (g_O_start o102.2).bind fun o111 => (if o111.1 = o46 then (g_O_told o111.2 3).bind fun o120 => (if o120 = o52 then (g_O_told o111.2 4).bind fun o129 => (if o129 = o58 then (g_O_told o111.2 5).bind fun o138 => (if o138 = o64 then (g_O_told o111.2 6).bind fun o149 => (if o149 = o72 then (g_O_told o111.2 7).bind fun o160 => (if o160 = o80 then g_L_isKnown_173 1 o111.2 else g_L_isKnown_172 o111.2) else g_L_isKnown_172 o111.2) else g_L_isKnown_172 o111.2) else g_L_isKnown_172 o111.2) else g_L_isKnown_172 o111.2) else g_L_isKnown_172 o111.2) else g_L_isKnown_172 o102.2) else g_L_isKnown_172 o93.2))
set_option maxHeartbeats 4000000 in
set_option maxRecDepth 100000 in
theorem c_L_isKnown (Z : GZ) (l : Launch) (A : TA) (D : TD)  (o : (Int32 × (TD))) (hg : g_L_isKnown D = some o) : Con Z l yL_isKnown cL_isKnown 9 (some .boolean) rm_L_isKnown [.ref A.1] (wB Z A D) (some (.int o.1)) (wB Z A o.2) := by
  refine Con.of (by decide) (Nat.le_of_ble_eq_true rfl) ?_
  intro X hE0
  have hE : ∀ z, z = o → endsX X Z (some .boolean) (some (.int z.1)) (wB Z A z.2) := by
    rintro _ rfl; exact hE0
  have J198 : ∀ (D : TD), g_L_isKnown_198 D = some o → AtK X Z rm_L_isKnown cL_isKnown RL 9 0 0 (wB Z A D) 198 [] [] := by
    intro D hg
    unfold g_L_isKnown_198 at hg
    refine r_iconst (v := 0) dL_isKnown_198 kic_0 ?_
    exact r_bret (hE _ (Option.some.inj hg)) (by decide) dL_isKnown_199
  have J173 : ∀ (t0 : Int32) (D : TD), g_L_isKnown_173 t0 D = some o → AtK X Z rm_L_isKnown cL_isKnown RL 9 0 0 (wB Z A D) 173 [(0, .ref A.1)] [.int t0] := by
    intro t0 D hg
    unfold g_L_isKnown_173 at hg
    refine r_istore (lv' := [(8, .int t0), (0, .ref A.1)]) dL_isKnown_173 (by decide) rfl ?_
    refine r_iload dL_isKnown_175 0 rfl ?_
    refine r_if_eq (tgt := 198) dL_isKnown_177 (by decide) (fun h177 => ?_) (fun h177 => ?_)
    · replace hg := (if_pos h177).symm.trans hg
      exact r_sub [] rfl (J198 D hg)
    · replace hg := (if_neg h177).symm.trans hg
      refine r_aload_n dL_isKnown_180 1 rfl ?_
      obtain ⟨o181, e181, hg⟩ := ob hg
      refine r_callO (As := []) (rest := []) (ws' := wB Z A o181.2) (cO_undo Z A D o181 e181) (xPk.all wB_dom) rfl qw_433 mv_X6_undo ⟨Nat.le_of_ble_eq_true rfl, Nat.le_of_ble_eq_true rfl⟩ ⟨rfl, rfl⟩ ⟨Nat.zero_le _, Nat.zero_le _⟩ rfl (Nat.le_of_ble_eq_true rfl) rfl dL_isKnown_181 ?_
      refine r_if_lt (tgt := 198) dL_isKnown_184 (by decide) (fun h184 => ?_) (fun h184 => ?_)
      · replace hg := (if_pos h184).symm.trans hg
        exact r_sub [] rfl (J198 o181.2 hg)
      · replace hg := (if_neg h184).symm.trans hg
        refine r_aload_n dL_isKnown_187 1 rfl ?_
        obtain ⟨o188, e188, hg⟩ := ob hg
        refine r_callO (As := []) (rest := []) (ws' := wB Z A o188.2) (cO_undo Z A o181.2 o188 e188) (xPk.all wB_dom) rfl qw_433 mv_X6_undo ⟨Nat.le_of_ble_eq_true rfl, Nat.le_of_ble_eq_true rfl⟩ ⟨rfl, rfl⟩ ⟨Nat.zero_le _, Nat.zero_le _⟩ rfl (Nat.le_of_ble_eq_true rfl) rfl dL_isKnown_188 ?_
        refine r_if_lt (tgt := 198) dL_isKnown_191 (by decide) (fun h191 => ?_) (fun h191 => ?_)
        · replace hg := (if_pos h191).symm.trans hg
          exact r_sub [] rfl (J198 o188.2 hg)
        · replace hg := (if_neg h191).symm.trans hg
          refine r_iconst (v := 1) dL_isKnown_194 kic_1 ?_
          refine r_goto (tgt := 199) dL_isKnown_195 (by decide) ?_
          exact r_bret (hE _ (Option.some.inj hg)) (by decide) dL_isKnown_199
  have J172 : ∀ (D : TD), g_L_isKnown_172 D = some o → AtK X Z rm_L_isKnown cL_isKnown RL 9 0 0 (wB Z A D) 172 [(0, .ref A.1)] [] := by
    intro D hg
    unfold g_L_isKnown_172 at hg
    refine r_iconst (v := 0) dL_isKnown_172 kic_0 ?_
    exact r_sub [0] rfl (J173 0 D hg)
  have J42 : ∀ (D : TD), g_L_isKnown_42 D = some o → AtK X Z rm_L_isKnown cL_isKnown RL 9 0 0 (wB Z A D) 42 [] [] := by
    intro D hg
    unfold g_L_isKnown_42 at hg
    refine r_iconst (v := 0) dL_isKnown_42 kic_0 ?_
    exact r_bret (hE _ (Option.some.inj hg)) (by decide) dL_isKnown_43
  unfold g_L_isKnown at hg
  show AtK X Z rm_L_isKnown cL_isKnown RL 9 0 0 (wB Z A D) 0 [(0, .ref A.1)] []
  refine r_aload_n dL_isKnown_0 0 rfl ?_
  refine r_iconst (v := 0) dL_isKnown_1 kic_0 ?_
  obtain ⟨o2, e2, hg⟩ := ob hg
  refine r_callO (As := [.int 0]) (rest := []) (ws' := wB Z A D) (cO_told Z A D 0 o2 e2) (xPk.all wB_dom) rfl qw_191 mv_X6_told ⟨Nat.le_of_ble_eq_true rfl, Nat.le_of_ble_eq_true rfl⟩ ⟨rfl, rfl⟩ ⟨Nat.zero_le _, Nat.zero_le _⟩ rfl (Nat.le_of_ble_eq_true rfl) rfl dL_isKnown_2 ?_
  refine r_if_ne (tgt := 44) dL_isKnown_5 (by decide) (fun h5 => ?_) (fun h5 => ?_)
  · replace hg := (if_neg h5).symm.trans hg
    refine r_aload_n dL_isKnown_44 0 rfl ?_
    refine r_iconst (v := 2) dL_isKnown_45 kic_2 ?_
    obtain ⟨o46, e46, hg⟩ := ob hg
    refine r_callO (As := [.int 2]) (rest := []) (ws' := wB Z A D) (cO_told Z A D 2 o46 e46) (xPk.all wB_dom) rfl qw_191 mv_X6_told ⟨Nat.le_of_ble_eq_true rfl, Nat.le_of_ble_eq_true rfl⟩ ⟨rfl, rfl⟩ ⟨Nat.zero_le _, Nat.zero_le _⟩ rfl (Nat.le_of_ble_eq_true rfl) rfl dL_isKnown_46 ?_
    refine r_istore_n (lv' := [(1, .int o46), (0, .ref A.1)]) dL_isKnown_49 (by decide) rfl ?_
    refine r_aload_n dL_isKnown_50 1 rfl ?_
    refine r_iconst (v := 3) dL_isKnown_51 kic_3 ?_
    obtain ⟨o52, e52, hg⟩ := ob hg
    refine r_callO (As := [.int 3]) (rest := []) (ws' := wB Z A D) (cO_told Z A D 3 o52 e52) (xPk.all wB_dom) rfl qw_191 mv_X6_told ⟨Nat.le_of_ble_eq_true rfl, Nat.le_of_ble_eq_true rfl⟩ ⟨rfl, rfl⟩ ⟨Nat.zero_le _, Nat.zero_le _⟩ rfl (Nat.le_of_ble_eq_true rfl) rfl dL_isKnown_52 ?_
    refine r_istore_n (lv' := [(2, .int o52), (1, .int o46), (0, .ref A.1)]) dL_isKnown_55 (by decide) rfl ?_
    refine r_aload_n dL_isKnown_56 2 rfl ?_
    refine r_iconst (v := 4) dL_isKnown_57 kic_4 ?_
    obtain ⟨o58, e58, hg⟩ := ob hg
    refine r_callO (As := [.int 4]) (rest := []) (ws' := wB Z A D) (cO_told Z A D 4 o58 e58) (xPk.all wB_dom) rfl qw_191 mv_X6_told ⟨Nat.le_of_ble_eq_true rfl, Nat.le_of_ble_eq_true rfl⟩ ⟨rfl, rfl⟩ ⟨Nat.zero_le _, Nat.zero_le _⟩ rfl (Nat.le_of_ble_eq_true rfl) rfl dL_isKnown_58 ?_
    refine r_istore_n (lv' := [(3, .int o58), (2, .int o52), (1, .int o46), (0, .ref A.1)]) dL_isKnown_61 (by decide) rfl ?_
    refine r_aload_n dL_isKnown_62 3 rfl ?_
    refine r_iconst (v := 5) dL_isKnown_63 kic_5 ?_
    obtain ⟨o64, e64, hg⟩ := ob hg
    refine r_callO (As := [.int 5]) (rest := []) (ws' := wB Z A D) (cO_told Z A D 5 o64 e64) (xPk.all wB_dom) rfl qw_191 mv_X6_told ⟨Nat.le_of_ble_eq_true rfl, Nat.le_of_ble_eq_true rfl⟩ ⟨rfl, rfl⟩ ⟨Nat.zero_le _, Nat.zero_le _⟩ rfl (Nat.le_of_ble_eq_true rfl) rfl dL_isKnown_64 ?_
    refine r_istore (lv' := [(4, .int o64), (3, .int o58), (2, .int o52), (1, .int o46), (0, .ref A.1)]) dL_isKnown_67 (by decide) rfl ?_
    refine r_aload_n dL_isKnown_69 4 rfl ?_
    refine r_bipush (v := 6) dL_isKnown_70 kbp_6 ?_
    obtain ⟨o72, e72, hg⟩ := ob hg
    refine r_callO (As := [.int 6]) (rest := []) (ws' := wB Z A D) (cO_told Z A D 6 o72 e72) (xPk.all wB_dom) rfl qw_191 mv_X6_told ⟨Nat.le_of_ble_eq_true rfl, Nat.le_of_ble_eq_true rfl⟩ ⟨rfl, rfl⟩ ⟨Nat.zero_le _, Nat.zero_le _⟩ rfl (Nat.le_of_ble_eq_true rfl) rfl dL_isKnown_72 ?_
    refine r_istore (lv' := [(5, .int o72), (4, .int o64), (3, .int o58), (2, .int o52), (1, .int o46), (0, .ref A.1)]) dL_isKnown_75 (by decide) rfl ?_
    refine r_aload_n dL_isKnown_77 5 rfl ?_
    refine r_bipush (v := 7) dL_isKnown_78 kbp_7 ?_
    obtain ⟨o80, e80, hg⟩ := ob hg
    refine r_callO (As := [.int 7]) (rest := []) (ws' := wB Z A D) (cO_told Z A D 7 o80 e80) (xPk.all wB_dom) rfl qw_191 mv_X6_told ⟨Nat.le_of_ble_eq_true rfl, Nat.le_of_ble_eq_true rfl⟩ ⟨rfl, rfl⟩ ⟨Nat.zero_le _, Nat.zero_le _⟩ rfl (Nat.le_of_ble_eq_true rfl) rfl dL_isKnown_80 ?_
    refine r_istore (lv' := [(6, .int o80), (5, .int o72), (4, .int o64), (3, .int o58), (2, .int o52), (1, .int o46), (0, .ref A.1)]) dL_isKnown_83 (by decide) rfl ?_
    refine r_aload_n dL_isKnown_85 6 rfl ?_
    refine r_iconst (v := (-1)) dL_isKnown_86 kic_m1 ?_
    obtain ⟨o87, e87, hg⟩ := ob hg
    refine r_callO (As := [.int (-1)]) (rest := []) (ws' := wB Z A o87.2) (cO_records Z A D (-1) o87 e87) (xPk.all wB_dom) rfl qw_462 mv_X6_records ⟨Nat.le_of_ble_eq_true rfl, Nat.le_of_ble_eq_true rfl⟩ ⟨rfl, rfl⟩ ⟨Nat.zero_le _, Nat.zero_le _⟩ rfl (Nat.le_of_ble_eq_true rfl) rfl dL_isKnown_87 ?_
    refine r_istore (lv' := [(7, .int o87.1), (6, .int o80), (5, .int o72), (4, .int o64), (3, .int o58), (2, .int o52), (1, .int o46), (0, .ref A.1)]) dL_isKnown_90 (by decide) rfl ?_
    refine r_aload_n dL_isKnown_92 7 rfl ?_
    obtain ⟨o93, e93, hg⟩ := ob hg
    refine r_callO (As := []) (rest := []) (ws' := wB Z A o93.2) (cO_start Z A o87.2 o93 e93) (xPk.all wB_dom) rfl qw_405 mv_X6_start ⟨Nat.le_of_ble_eq_true rfl, Nat.le_of_ble_eq_true rfl⟩ ⟨rfl, rfl⟩ ⟨Nat.zero_le _, Nat.zero_le _⟩ rfl (Nat.le_of_ble_eq_true rfl) rfl dL_isKnown_93 ?_
    refine r_bipush (v := (-2)) dL_isKnown_96 kbp_m2 ?_
    refine r_icmp_ne (tgt := 172) dL_isKnown_98 (by decide) (fun h98 => ?_) (fun h98 => ?_)
    · replace hg := (if_neg h98).symm.trans hg
      exact r_sub [7] rfl (J172 o93.2 hg)
    · replace hg := (if_pos h98).symm.trans hg
      refine r_aload_n dL_isKnown_101 7 rfl ?_
      obtain ⟨o102, e102, hg⟩ := ob hg
      refine r_callO (As := []) (rest := []) (ws' := wB Z A o102.2) (cO_off Z A o93.2 o102 e102) (xPk.all wB_dom) rfl qw_386 mv_X6_off ⟨Nat.le_of_ble_eq_true rfl, Nat.le_of_ble_eq_true rfl⟩ ⟨rfl, rfl⟩ ⟨Nat.zero_le _, Nat.zero_le _⟩ rfl (Nat.le_of_ble_eq_true rfl) rfl dL_isKnown_102 ?_
      refine r_iload dL_isKnown_105 0 rfl ?_
      refine r_icmp_ne (tgt := 172) dL_isKnown_107 (by decide) (fun h107 => ?_) (fun h107 => ?_)
      · replace hg := (if_neg h107).symm.trans hg
        exact r_sub [7] rfl (J172 o102.2 hg)
      · replace hg := (if_pos h107).symm.trans hg
        refine r_aload_n dL_isKnown_110 7 rfl ?_
        obtain ⟨o111, e111, hg⟩ := ob hg
        refine r_callO (As := []) (rest := []) (ws' := wB Z A o111.2) (cO_start Z A o102.2 o111 e111) (xPk.all wB_dom) rfl qw_405 mv_X6_start ⟨Nat.le_of_ble_eq_true rfl, Nat.le_of_ble_eq_true rfl⟩ ⟨rfl, rfl⟩ ⟨Nat.zero_le _, Nat.zero_le _⟩ rfl (Nat.le_of_ble_eq_true rfl) rfl dL_isKnown_111 ?_
        refine r_iload_n dL_isKnown_114 6 rfl ?_
        refine r_icmp_ne (tgt := 172) dL_isKnown_115 (by decide) (fun h115 => ?_) (fun h115 => ?_)
        · replace hg := (if_neg h115).symm.trans hg
          exact r_sub [7] rfl (J172 o111.2 hg)
        · replace hg := (if_pos h115).symm.trans hg
          refine r_aload_n dL_isKnown_118 7 rfl ?_
          refine r_iconst (v := 3) dL_isKnown_119 kic_3 ?_
          obtain ⟨o120, e120, hg⟩ := ob hg
          refine r_callO (As := [.int 3]) (rest := []) (ws' := wB Z A o111.2) (cO_told Z A o111.2 3 o120 e120) (xPk.all wB_dom) rfl qw_191 mv_X6_told ⟨Nat.le_of_ble_eq_true rfl, Nat.le_of_ble_eq_true rfl⟩ ⟨rfl, rfl⟩ ⟨Nat.zero_le _, Nat.zero_le _⟩ rfl (Nat.le_of_ble_eq_true rfl) rfl dL_isKnown_120 ?_
          refine r_iload_n dL_isKnown_123 5 rfl ?_
          refine r_icmp_ne (tgt := 172) dL_isKnown_124 (by decide) (fun h124 => ?_) (fun h124 => ?_)
          · replace hg := (if_neg h124).symm.trans hg
            exact r_sub [7] rfl (J172 o111.2 hg)
          · replace hg := (if_pos h124).symm.trans hg
            refine r_aload_n dL_isKnown_127 7 rfl ?_
            refine r_iconst (v := 4) dL_isKnown_128 kic_4 ?_
            obtain ⟨o129, e129, hg⟩ := ob hg
            refine r_callO (As := [.int 4]) (rest := []) (ws' := wB Z A o111.2) (cO_told Z A o111.2 4 o129 e129) (xPk.all wB_dom) rfl qw_191 mv_X6_told ⟨Nat.le_of_ble_eq_true rfl, Nat.le_of_ble_eq_true rfl⟩ ⟨rfl, rfl⟩ ⟨Nat.zero_le _, Nat.zero_le _⟩ rfl (Nat.le_of_ble_eq_true rfl) rfl dL_isKnown_129 ?_
            refine r_iload_n dL_isKnown_132 4 rfl ?_
            refine r_icmp_ne (tgt := 172) dL_isKnown_133 (by decide) (fun h133 => ?_) (fun h133 => ?_)
            · replace hg := (if_neg h133).symm.trans hg
              exact r_sub [7] rfl (J172 o111.2 hg)
            · replace hg := (if_pos h133).symm.trans hg
              refine r_aload_n dL_isKnown_136 7 rfl ?_
              refine r_iconst (v := 5) dL_isKnown_137 kic_5 ?_
              obtain ⟨o138, e138, hg⟩ := ob hg
              refine r_callO (As := [.int 5]) (rest := []) (ws' := wB Z A o111.2) (cO_told Z A o111.2 5 o138 e138) (xPk.all wB_dom) rfl qw_191 mv_X6_told ⟨Nat.le_of_ble_eq_true rfl, Nat.le_of_ble_eq_true rfl⟩ ⟨rfl, rfl⟩ ⟨Nat.zero_le _, Nat.zero_le _⟩ rfl (Nat.le_of_ble_eq_true rfl) rfl dL_isKnown_138 ?_
              refine r_iload dL_isKnown_141 3 rfl ?_
              refine r_icmp_ne (tgt := 172) dL_isKnown_143 (by decide) (fun h143 => ?_) (fun h143 => ?_)
              · replace hg := (if_neg h143).symm.trans hg
                exact r_sub [7] rfl (J172 o111.2 hg)
              · replace hg := (if_pos h143).symm.trans hg
                refine r_aload_n dL_isKnown_146 7 rfl ?_
                refine r_bipush (v := 6) dL_isKnown_147 kbp_6 ?_
                obtain ⟨o149, e149, hg⟩ := ob hg
                refine r_callO (As := [.int 6]) (rest := []) (ws' := wB Z A o111.2) (cO_told Z A o111.2 6 o149 e149) (xPk.all wB_dom) rfl qw_191 mv_X6_told ⟨Nat.le_of_ble_eq_true rfl, Nat.le_of_ble_eq_true rfl⟩ ⟨rfl, rfl⟩ ⟨Nat.zero_le _, Nat.zero_le _⟩ rfl (Nat.le_of_ble_eq_true rfl) rfl dL_isKnown_149 ?_
                refine r_iload dL_isKnown_152 2 rfl ?_
                refine r_icmp_ne (tgt := 172) dL_isKnown_154 (by decide) (fun h154 => ?_) (fun h154 => ?_)
                · replace hg := (if_neg h154).symm.trans hg
                  exact r_sub [7] rfl (J172 o111.2 hg)
                · replace hg := (if_pos h154).symm.trans hg
                  refine r_aload_n dL_isKnown_157 7 rfl ?_
                  refine r_bipush (v := 7) dL_isKnown_158 kbp_7 ?_
                  obtain ⟨o160, e160, hg⟩ := ob hg
                  refine r_callO (As := [.int 7]) (rest := []) (ws' := wB Z A o111.2) (cO_told Z A o111.2 7 o160 e160) (xPk.all wB_dom) rfl qw_191 mv_X6_told ⟨Nat.le_of_ble_eq_true rfl, Nat.le_of_ble_eq_true rfl⟩ ⟨rfl, rfl⟩ ⟨Nat.zero_le _, Nat.zero_le _⟩ rfl (Nat.le_of_ble_eq_true rfl) rfl dL_isKnown_160 ?_
                  refine r_iload dL_isKnown_163 1 rfl ?_
                  refine r_icmp_ne (tgt := 172) dL_isKnown_165 (by decide) (fun h165 => ?_) (fun h165 => ?_)
                  · replace hg := (if_neg h165).symm.trans hg
                    exact r_sub [7] rfl (J172 o111.2 hg)
                  · replace hg := (if_pos h165).symm.trans hg
                    refine r_iconst (v := 1) dL_isKnown_168 kic_1 ?_
                    refine r_goto (tgt := 173) dL_isKnown_169 (by decide) ?_
                    exact r_sub [7] rfl (J173 1 o111.2 hg)
  · replace hg := (if_pos h5).symm.trans hg
    refine r_aload_n dL_isKnown_8 0 rfl ?_
    refine r_iconst (v := 2) dL_isKnown_9 kic_2 ?_
    obtain ⟨o10, e10, hg⟩ := ob hg
    refine r_callO (As := [.int 2]) (rest := []) (ws' := wB Z A D) (cO_told Z A D 2 o10 e10) (xPk.all wB_dom) rfl qw_191 mv_X6_told ⟨Nat.le_of_ble_eq_true rfl, Nat.le_of_ble_eq_true rfl⟩ ⟨rfl, rfl⟩ ⟨Nat.zero_le _, Nat.zero_le _⟩ rfl (Nat.le_of_ble_eq_true rfl) rfl dL_isKnown_10 ?_
    refine r_bipush (v := (-9)) dL_isKnown_13 kbp_m9 ?_
    refine r_icmp_ne (tgt := 42) dL_isKnown_15 (by decide) (fun h15 => ?_) (fun h15 => ?_)
    · replace hg := (if_neg h15).symm.trans hg
      exact r_sub [] rfl (J42 D hg)
    · replace hg := (if_pos h15).symm.trans hg
      refine r_aload_n dL_isKnown_18 0 rfl ?_
      refine r_bipush (v := 7) dL_isKnown_19 kbp_7 ?_
      obtain ⟨o21, e21, hg⟩ := ob hg
      refine r_callO (As := [.int 7]) (rest := []) (ws' := wB Z A D) (cO_told Z A D 7 o21 e21) (xPk.all wB_dom) rfl qw_191 mv_X6_told ⟨Nat.le_of_ble_eq_true rfl, Nat.le_of_ble_eq_true rfl⟩ ⟨rfl, rfl⟩ ⟨Nat.zero_le _, Nat.zero_le _⟩ rfl (Nat.le_of_ble_eq_true rfl) rfl dL_isKnown_21 ?_
      refine r_bipush (v := (-9)) dL_isKnown_24 kbp_m9 ?_
      refine r_icmp_ne (tgt := 42) dL_isKnown_26 (by decide) (fun h26 => ?_) (fun h26 => ?_)
      · replace hg := (if_neg h26).symm.trans hg
        exact r_sub [] rfl (J42 D hg)
      · replace hg := (if_pos h26).symm.trans hg
        refine r_aload_n dL_isKnown_29 0 rfl ?_
        obtain ⟨o30, e30, hg⟩ := ob hg
        refine r_callO (As := []) (rest := []) (ws' := wB Z A o30.2) (cO_off Z A D o30 e30) (xPk.all wB_dom) rfl qw_386 mv_X6_off ⟨Nat.le_of_ble_eq_true rfl, Nat.le_of_ble_eq_true rfl⟩ ⟨rfl, rfl⟩ ⟨Nat.zero_le _, Nat.zero_le _⟩ rfl (Nat.le_of_ble_eq_true rfl) rfl dL_isKnown_30 ?_
        refine r_bipush (v := (-2)) dL_isKnown_33 kbp_m2 ?_
        refine r_icmp_ne (tgt := 42) dL_isKnown_35 (by decide) (fun h35 => ?_) (fun h35 => ?_)
        · replace hg := (if_neg h35).symm.trans hg
          exact r_sub [] rfl (J42 o30.2 hg)
        · replace hg := (if_pos h35).symm.trans hg
          refine r_iconst (v := 1) dL_isKnown_38 kic_1 ?_
          refine r_goto (tgt := 43) dL_isKnown_39 (by decide) ?_
          exact r_bret (hE _ (Option.some.inj hg)) (by decide) dL_isKnown_43

-- TicketJournalLaw.isCut(LTicketJournal;II)Z
abbrev rm_L_isCut : Room := { frames := 7, cells := 0, slots := 0, locals := 164 }
def g_L_isCut_297   (D : TD) : Option (Int32 × (TD)) :=
  some (0, D)
def g_L_isCut_240   (x1 : Int32) (x2 : Int32) (x5 : Int32) (x7 : Int32) (x11 : Int32) (x12 : Int32) (t0 : Int32) (D : TD) : Option (Int32 × (TD)) :=
  (g_O_undo D).bind fun o243 => (g_O_undo o243.2).bind fun o249 => (if x7 = 0 then g_L_isCut_297 o249.2 else (g_O_told o249.2 2).bind fun o261 => (if o261 = x5 then (g_O_after o249.2 x1 x2 0).bind fun o273 => (if o273.1 = x11 then (g_O_after o273.2 x1 x2 1).bind fun o285 => (if o285.1 = x12 then some (1, o285.2) else g_L_isCut_297 o285.2) else g_L_isCut_297 o273.2) else g_L_isCut_297 o249.2))
def g_L_isCut_208   (x1 : Int32) (x2 : Int32) (x5 : Int32) (x9 : Int32) (t0 : Int32) (D : TD) : Option (Int32 × (TD)) :=
  (g_O_records D (-1)).bind fun o212 => (g_O_records o212.2 (-2)).bind fun o220 => (if x9 = (-4) then (g_O_undo o220.2).bind fun o233 => g_L_isCut_240 x1 x2 x5 t0 o212.1 o220.1 o233.1 o233.2 else g_L_isCut_240 x1 x2 x5 t0 o212.1 o220.1 0 o220.2)
def g_L_isCut_207   (x1 : Int32) (x2 : Int32) (x5 : Int32) (x9 : Int32) (D : TD) : Option (Int32 × (TD)) :=
  g_L_isCut_208 x1 x2 x5 x9 0 D
def g_L_isCut_177   (x1 : Int32) (x2 : Int32) (x5 : Int32) (x6 : Int32) (x9 : Int32) (t0 : Int32) (t1 : Int32) (D : TD) : Option (Int32 × (TD)) :=
  (if t0 = t1 then (g_O_told D 2).bind fun o182 => (if o182 = x6 then (g_O_records D (-1)).bind fun o192 => (g_O_records o192.2 (-1)).bind fun o197 => (if o192.1 = o197.1 then g_L_isCut_208 x1 x2 x5 x9 1 o197.2 else g_L_isCut_207 x1 x2 x5 x9 o197.2) else g_L_isCut_207 x1 x2 x5 x9 D) else g_L_isCut_207 x1 x2 x5 x9 D)
def g_L_isCut_166   (x1 : Int32) (x2 : Int32) (x4 : Int32) (x5 : Int32) (x6 : Int32) (x9 : Int32) (t0 : Int32) (D : TD) : Option (Int32 × (TD)) :=
  (if x4 ≤ x2 then g_L_isCut_177 x1 x2 x5 x6 x9 t0 0 D else g_L_isCut_177 x1 x2 x5 x6 x9 t0 1 D)
def g_L_isCut_147   (x1 : Int32) (x2 : Int32) (x4 : Int32) (x5 : Int32) (x6 : Int32) (x7 : Int32) (x9 : Int32) (t0 : Int32) (D : TD) : Option (Int32 × (TD)) :=
  (if x7 = 0 then g_L_isCut_207 x1 x2 x5 x9 D else (if x9 = (-4) then g_L_isCut_166 x1 x2 x4 x5 x6 x9 1 D else g_L_isCut_166 x1 x2 x4 x5 x6 x9 0 D))
def g_L_isCut_116   (x1 : Int32) (x2 : Int32) (x4 : Int32) (x5 : Int32) (x6 : Int32) (t0 : Int32) (D : TD) : Option (Int32 × (TD)) :=
  (g_O_cut D x2).bind fun o120 => (g_O_sell o120.2 x1).bind fun o127 => (if o127.1 = (-4) then (g_O_start o127.2).bind fun o140 => g_L_isCut_147 x1 x2 x4 x5 x6 t0 o127.1 o140.1 o140.2 else g_L_isCut_147 x1 x2 x4 x5 x6 t0 o127.1 0 o127.2)
def g_L_isCut_115   (x1 : Int32) (x2 : Int32) (x4 : Int32) (x5 : Int32) (x6 : Int32) (D : TD) : Option (Int32 × (TD)) :=
  g_L_isCut_116 x1 x2 x4 x5 x6 0 D
def g_L_isCut_111   (x1 : Int32) (x2 : Int32) (x4 : Int32) (x5 : Int32) (x6 : Int32) (D : TD) : Option (Int32 × (TD)) :=
  g_L_isCut_116 x1 x2 x4 x5 x6 1 D
def g_L_isCut_84   (x1 : Int32) (x2 : Int32) (x4 : Int32) (x5 : Int32) (x6 : Int32) (t0 : Int32) (t1 : Int32) (D : TD) : Option (Int32 × (TD)) :=
  (if t0 = t1 then (if x2 < x4 then g_L_isCut_111 x1 x2 x4 x5 x6 D else (g_O_after D x1 x2 1).bind fun o97 => (g_O_after o97.2 x1 30 1).bind fun o105 => (if o97.1 = o105.1 then g_L_isCut_111 x1 x2 x4 x5 x6 o105.2 else g_L_isCut_115 x1 x2 x4 x5 x6 o105.2)) else g_L_isCut_115 x1 x2 x4 x5 x6 D)
def g_L_isCut_74   (x1 : Int32) (x2 : Int32) (x3 : Int32) (x4 : Int32) (x5 : Int32) (x6 : Int32) (t0 : Int32) (D : TD) : Option (Int32 × (TD)) :=
  (if x3 ≤ x2 then g_L_isCut_84 x1 x2 x4 x5 x6 t0 0 D else g_L_isCut_84 x1 x2 x4 x5 x6 t0 1 D)
def g_L_isCut_38   (D : TD) : Option (Int32 × (TD)) :=
  some (0, D)
def g_L_isCut (D : TD) (n1 : Int32) (n2 : Int32) : Option (Int32 × (TD)) :=
  (g_O_needed D n1).bind fun o2 => (g_O_operations D n1).bind fun o8 => (if 0 ≤ o2 then (g_O_told o8.2 2).bind fun o42 => (g_O_after o8.2 n1 n2 2).bind fun o51 => (if o8.1 < o2 then g_L_isCut_115 n1 n2 o8.1 o42 o51.1 o51.2 else (if o51.1 = o42 then g_L_isCut_74 n1 n2 o2 o8.1 o42 o51.1 1 o51.2 else g_L_isCut_74 n1 n2 o2 o8.1 o42 o51.1 0 o51.2)) else (if o8.1 = o2 then (g_O_after o8.2 n1 n2 0).bind fun o27 => (if o27.1 = o2 then some (1, o27.2) else g_L_isCut_38 o27.2) else g_L_isCut_38 o8.2))
set_option maxHeartbeats 4000000 in
set_option maxRecDepth 100000 in
theorem c_L_isCut (Z : GZ) (l : Launch) (A : TA) (D : TD) (n1 : Int32) (n2 : Int32) (o : (Int32 × (TD))) (hg : g_L_isCut D n1 n2 = some o) : Con Z l yL_isCut cL_isCut 14 (some .boolean) rm_L_isCut [.ref A.1, .int n1, .int n2] (wB Z A D) (some (.int o.1)) (wB Z A o.2) := by
  refine Con.of (by decide) (Nat.le_of_ble_eq_true rfl) ?_
  intro X hE0
  have hE : ∀ z, z = o → endsX X Z (some .boolean) (some (.int z.1)) (wB Z A z.2) := by
    rintro _ rfl; exact hE0
  have J297 : ∀ (D : TD), g_L_isCut_297 D = some o → AtK X Z rm_L_isCut cL_isCut RL 14 0 0 (wB Z A D) 297 [] [] := by
    intro D hg
    unfold g_L_isCut_297 at hg
    refine r_iconst (v := 0) dL_isCut_297 kic_0 ?_
    exact r_bret (hE _ (Option.some.inj hg)) (by decide) dL_isCut_298
  have J240 : ∀ (x1 : Int32) (x2 : Int32) (x5 : Int32) (x7 : Int32) (x11 : Int32) (x12 : Int32) (t0 : Int32) (D : TD), g_L_isCut_240 x1 x2 x5 x7 x11 x12 t0 D = some o → AtK X Z rm_L_isCut cL_isCut RL 14 0 0 (wB Z A D) 240 [(0, .ref A.1), (1, .int x1), (2, .int x2), (5, .int x5), (7, .int x7), (11, .int x11), (12, .int x12)] [.int t0] := by
    intro x1 x2 x5 x7 x11 x12 t0 D hg
    unfold g_L_isCut_240 at hg
    refine r_istore (lv' := [(13, .int t0), (0, .ref A.1), (1, .int x1), (2, .int x2), (5, .int x5), (7, .int x7), (11, .int x11), (12, .int x12)]) dL_isCut_240 (by decide) rfl ?_
    refine r_aload_n dL_isCut_242 1 rfl ?_
    obtain ⟨o243, e243, hg⟩ := ob hg
    refine r_callO (As := []) (rest := []) (ws' := wB Z A o243.2) (cO_undo Z A D o243 e243) (xPk.all wB_dom) rfl qw_433 mv_X6_undo ⟨Nat.le_of_ble_eq_true rfl, Nat.le_of_ble_eq_true rfl⟩ ⟨rfl, rfl⟩ ⟨Nat.zero_le _, Nat.zero_le _⟩ rfl (Nat.le_of_ble_eq_true rfl) rfl dL_isCut_243 ?_
    refine r_istore (lv' := [(13, .int o243.1), (0, .ref A.1), (1, .int x1), (2, .int x2), (5, .int x5), (7, .int x7), (11, .int x11), (12, .int x12)]) dL_isCut_246 (by decide) rfl ?_
    refine r_aload_n dL_isCut_248 1 rfl ?_
    obtain ⟨o249, e249, hg⟩ := ob hg
    refine r_callO (As := []) (rest := []) (ws' := wB Z A o249.2) (cO_undo Z A o243.2 o249 e249) (xPk.all wB_dom) rfl qw_433 mv_X6_undo ⟨Nat.le_of_ble_eq_true rfl, Nat.le_of_ble_eq_true rfl⟩ ⟨rfl, rfl⟩ ⟨Nat.zero_le _, Nat.zero_le _⟩ rfl (Nat.le_of_ble_eq_true rfl) rfl dL_isCut_249 ?_
    refine r_istore (lv' := [(13, .int o249.1), (0, .ref A.1), (1, .int x1), (2, .int x2), (5, .int x5), (7, .int x7), (11, .int x11), (12, .int x12)]) dL_isCut_252 (by decide) rfl ?_
    refine r_iload dL_isCut_254 5 rfl ?_
    refine r_if_eq (tgt := 297) dL_isCut_256 (by decide) (fun h256 => ?_) (fun h256 => ?_)
    · replace hg := (if_pos h256).symm.trans hg
      exact r_sub [] rfl (J297 o249.2 hg)
    · replace hg := (if_neg h256).symm.trans hg
      refine r_aload_n dL_isCut_259 1 rfl ?_
      refine r_iconst (v := 2) dL_isCut_260 kic_2 ?_
      obtain ⟨o261, e261, hg⟩ := ob hg
      refine r_callO (As := [.int 2]) (rest := []) (ws' := wB Z A o249.2) (cO_told Z A o249.2 2 o261 e261) (xPk.all wB_dom) rfl qw_191 mv_X6_told ⟨Nat.le_of_ble_eq_true rfl, Nat.le_of_ble_eq_true rfl⟩ ⟨rfl, rfl⟩ ⟨Nat.zero_le _, Nat.zero_le _⟩ rfl (Nat.le_of_ble_eq_true rfl) rfl dL_isCut_261 ?_
      refine r_iload dL_isCut_264 4 rfl ?_
      refine r_icmp_ne (tgt := 297) dL_isCut_266 (by decide) (fun h266 => ?_) (fun h266 => ?_)
      · replace hg := (if_neg h266).symm.trans hg
        exact r_sub [] rfl (J297 o249.2 hg)
      · replace hg := (if_pos h266).symm.trans hg
        refine r_aload_n dL_isCut_269 1 rfl ?_
        refine r_iload_n dL_isCut_270 2 rfl ?_
        refine r_iload_n dL_isCut_271 3 rfl ?_
        refine r_iconst (v := 0) dL_isCut_272 kic_0 ?_
        obtain ⟨o273, e273, hg⟩ := ob hg
        refine r_callO (As := [.int x1, .int x2, .int 0]) (rest := []) (ws' := wB Z A o273.2) (cO_after Z A o249.2 x1 x2 0 o273 e273) (xPk.all wB_dom) rfl qw_541 mv_X6_after ⟨Nat.le_of_ble_eq_true rfl, Nat.le_of_ble_eq_true rfl⟩ ⟨rfl, rfl⟩ ⟨Nat.zero_le _, Nat.zero_le _⟩ rfl (Nat.le_of_ble_eq_true rfl) rfl dL_isCut_273 ?_
        refine r_iload dL_isCut_276 6 rfl ?_
        refine r_icmp_ne (tgt := 297) dL_isCut_278 (by decide) (fun h278 => ?_) (fun h278 => ?_)
        · replace hg := (if_neg h278).symm.trans hg
          exact r_sub [] rfl (J297 o273.2 hg)
        · replace hg := (if_pos h278).symm.trans hg
          refine r_aload_n dL_isCut_281 1 rfl ?_
          refine r_iload_n dL_isCut_282 2 rfl ?_
          refine r_iload_n dL_isCut_283 3 rfl ?_
          refine r_iconst (v := 1) dL_isCut_284 kic_1 ?_
          obtain ⟨o285, e285, hg⟩ := ob hg
          refine r_callO (As := [.int x1, .int x2, .int 1]) (rest := []) (ws' := wB Z A o285.2) (cO_after Z A o273.2 x1 x2 1 o285 e285) (xPk.all wB_dom) rfl qw_541 mv_X6_after ⟨Nat.le_of_ble_eq_true rfl, Nat.le_of_ble_eq_true rfl⟩ ⟨rfl, rfl⟩ ⟨Nat.zero_le _, Nat.zero_le _⟩ rfl (Nat.le_of_ble_eq_true rfl) rfl dL_isCut_285 ?_
          refine r_iload dL_isCut_288 7 rfl ?_
          refine r_icmp_ne (tgt := 297) dL_isCut_290 (by decide) (fun h290 => ?_) (fun h290 => ?_)
          · replace hg := (if_neg h290).symm.trans hg
            exact r_sub [] rfl (J297 o285.2 hg)
          · replace hg := (if_pos h290).symm.trans hg
            refine r_iconst (v := 1) dL_isCut_293 kic_1 ?_
            refine r_goto (tgt := 298) dL_isCut_294 (by decide) ?_
            exact r_bret (hE _ (Option.some.inj hg)) (by decide) dL_isCut_298
  have J208 : ∀ (x1 : Int32) (x2 : Int32) (x5 : Int32) (x9 : Int32) (t0 : Int32) (D : TD), g_L_isCut_208 x1 x2 x5 x9 t0 D = some o → AtK X Z rm_L_isCut cL_isCut RL 14 0 0 (wB Z A D) 208 [(0, .ref A.1), (1, .int x1), (2, .int x2), (5, .int x5), (9, .int x9)] [.int t0] := by
    intro x1 x2 x5 x9 t0 D hg
    unfold g_L_isCut_208 at hg
    refine r_istore (lv' := [(7, .int t0), (0, .ref A.1), (1, .int x1), (2, .int x2), (5, .int x5), (9, .int x9)]) dL_isCut_208 (by decide) rfl ?_
    refine r_aload_n dL_isCut_210 1 rfl ?_
    refine r_iconst (v := (-1)) dL_isCut_211 kic_m1 ?_
    obtain ⟨o212, e212, hg⟩ := ob hg
    refine r_callO (As := [.int (-1)]) (rest := []) (ws' := wB Z A o212.2) (cO_records Z A D (-1) o212 e212) (xPk.all wB_dom) rfl qw_462 mv_X6_records ⟨Nat.le_of_ble_eq_true rfl, Nat.le_of_ble_eq_true rfl⟩ ⟨rfl, rfl⟩ ⟨Nat.zero_le _, Nat.zero_le _⟩ rfl (Nat.le_of_ble_eq_true rfl) rfl dL_isCut_212 ?_
    refine r_istore (lv' := [(11, .int o212.1), (7, .int t0), (0, .ref A.1), (1, .int x1), (2, .int x2), (5, .int x5), (9, .int x9)]) dL_isCut_215 (by decide) rfl ?_
    refine r_aload_n dL_isCut_217 2 rfl ?_
    refine r_bipush (v := (-2)) dL_isCut_218 kbp_m2 ?_
    obtain ⟨o220, e220, hg⟩ := ob hg
    refine r_callO (As := [.int (-2)]) (rest := []) (ws' := wB Z A o220.2) (cO_records Z A o212.2 (-2) o220 e220) (xPk.all wB_dom) rfl qw_462 mv_X6_records ⟨Nat.le_of_ble_eq_true rfl, Nat.le_of_ble_eq_true rfl⟩ ⟨rfl, rfl⟩ ⟨Nat.zero_le _, Nat.zero_le _⟩ rfl (Nat.le_of_ble_eq_true rfl) rfl dL_isCut_220 ?_
    refine r_istore (lv' := [(12, .int o220.1), (11, .int o212.1), (7, .int t0), (0, .ref A.1), (1, .int x1), (2, .int x2), (5, .int x5), (9, .int x9)]) dL_isCut_223 (by decide) rfl ?_
    refine r_iload dL_isCut_225 7 rfl ?_
    refine r_bipush (v := (-4)) dL_isCut_227 kbp_m4 ?_
    refine r_icmp_ne (tgt := 239) dL_isCut_229 (by decide) (fun h229 => ?_) (fun h229 => ?_)
    · replace hg := (if_neg h229).symm.trans hg
      refine r_iconst (v := 0) dL_isCut_239 kic_0 ?_
      exact r_sub [3, 4, 5, 6, 2, 1, 0] rfl (J240 x1 x2 x5 t0 o212.1 o220.1 0 o220.2 hg)
    · replace hg := (if_pos h229).symm.trans hg
      refine r_aload_n dL_isCut_232 3 rfl ?_
      obtain ⟨o233, e233, hg⟩ := ob hg
      refine r_callO (As := []) (rest := []) (ws' := wB Z A o233.2) (cO_undo Z A o220.2 o233 e233) (xPk.all wB_dom) rfl qw_433 mv_X6_undo ⟨Nat.le_of_ble_eq_true rfl, Nat.le_of_ble_eq_true rfl⟩ ⟨rfl, rfl⟩ ⟨Nat.zero_le _, Nat.zero_le _⟩ rfl (Nat.le_of_ble_eq_true rfl) rfl dL_isCut_233 ?_
      refine r_goto (tgt := 240) dL_isCut_236 (by decide) ?_
      exact r_sub [3, 4, 5, 6, 2, 1, 0] rfl (J240 x1 x2 x5 t0 o212.1 o220.1 o233.1 o233.2 hg)
  have J207 : ∀ (x1 : Int32) (x2 : Int32) (x5 : Int32) (x9 : Int32) (D : TD), g_L_isCut_207 x1 x2 x5 x9 D = some o → AtK X Z rm_L_isCut cL_isCut RL 14 0 0 (wB Z A D) 207 [(0, .ref A.1), (1, .int x1), (2, .int x2), (5, .int x5), (9, .int x9)] [] := by
    intro x1 x2 x5 x9 D hg
    unfold g_L_isCut_207 at hg
    refine r_iconst (v := 0) dL_isCut_207 kic_0 ?_
    exact r_sub [0, 1, 2, 3, 4] rfl (J208 x1 x2 x5 x9 0 D hg)
  have J177 : ∀ (x1 : Int32) (x2 : Int32) (x5 : Int32) (x6 : Int32) (x9 : Int32) (t0 : Int32) (t1 : Int32) (D : TD), g_L_isCut_177 x1 x2 x5 x6 x9 t0 t1 D = some o → AtK X Z rm_L_isCut cL_isCut RL 14 0 0 (wB Z A D) 177 [(0, .ref A.1), (1, .int x1), (2, .int x2), (5, .int x5), (6, .int x6), (9, .int x9)] [.int t1, .int t0] := by
    intro x1 x2 x5 x6 x9 t0 t1 D hg
    unfold g_L_isCut_177 at hg
    refine r_icmp_ne (tgt := 207) dL_isCut_177 (by decide) (fun h177 => ?_) (fun h177 => ?_)
    · replace hg := (if_neg h177).symm.trans hg
      exact r_sub [0, 1, 2, 3, 5] rfl (J207 x1 x2 x5 x9 D hg)
    · replace hg := (if_pos h177).symm.trans hg
      refine r_aload_n dL_isCut_180 0 rfl ?_
      refine r_iconst (v := 2) dL_isCut_181 kic_2 ?_
      obtain ⟨o182, e182, hg⟩ := ob hg
      refine r_callO (As := [.int 2]) (rest := []) (ws' := wB Z A D) (cO_told Z A D 2 o182 e182) (xPk.all wB_dom) rfl qw_191 mv_X6_told ⟨Nat.le_of_ble_eq_true rfl, Nat.le_of_ble_eq_true rfl⟩ ⟨rfl, rfl⟩ ⟨Nat.zero_le _, Nat.zero_le _⟩ rfl (Nat.le_of_ble_eq_true rfl) rfl dL_isCut_182 ?_
      refine r_iload dL_isCut_185 4 rfl ?_
      refine r_icmp_ne (tgt := 207) dL_isCut_187 (by decide) (fun h187 => ?_) (fun h187 => ?_)
      · replace hg := (if_neg h187).symm.trans hg
        exact r_sub [0, 1, 2, 3, 5] rfl (J207 x1 x2 x5 x9 D hg)
      · replace hg := (if_pos h187).symm.trans hg
        refine r_aload_n dL_isCut_190 0 rfl ?_
        refine r_iconst (v := (-1)) dL_isCut_191 kic_m1 ?_
        obtain ⟨o192, e192, hg⟩ := ob hg
        refine r_callO (As := [.int (-1)]) (rest := []) (ws' := wB Z A o192.2) (cO_records Z A D (-1) o192 e192) (xPk.all wB_dom) rfl qw_462 mv_X6_records ⟨Nat.le_of_ble_eq_true rfl, Nat.le_of_ble_eq_true rfl⟩ ⟨rfl, rfl⟩ ⟨Nat.zero_le _, Nat.zero_le _⟩ rfl (Nat.le_of_ble_eq_true rfl) rfl dL_isCut_192 ?_
        refine r_aload_n dL_isCut_195 0 rfl ?_
        refine r_iconst (v := (-1)) dL_isCut_196 kic_m1 ?_
        obtain ⟨o197, e197, hg⟩ := ob hg
        refine r_callO (As := [.int (-1)]) (rest := [.int o192.1]) (ws' := wB Z A o197.2) (cO_records Z A o192.2 (-1) o197 e197) (xPk.all wB_dom) rfl qw_462 mv_X6_records ⟨Nat.le_of_ble_eq_true rfl, Nat.le_of_ble_eq_true rfl⟩ ⟨rfl, rfl⟩ ⟨Nat.zero_le _, Nat.zero_le _⟩ rfl (Nat.le_of_ble_eq_true rfl) rfl dL_isCut_197 ?_
        refine r_icmp_ne (tgt := 207) dL_isCut_200 (by decide) (fun h200 => ?_) (fun h200 => ?_)
        · replace hg := (if_neg h200).symm.trans hg
          exact r_sub [0, 1, 2, 3, 5] rfl (J207 x1 x2 x5 x9 o197.2 hg)
        · replace hg := (if_pos h200).symm.trans hg
          refine r_iconst (v := 1) dL_isCut_203 kic_1 ?_
          refine r_goto (tgt := 208) dL_isCut_204 (by decide) ?_
          exact r_sub [0, 1, 2, 3, 5] rfl (J208 x1 x2 x5 x9 1 o197.2 hg)
  have J166 : ∀ (x1 : Int32) (x2 : Int32) (x4 : Int32) (x5 : Int32) (x6 : Int32) (x9 : Int32) (t0 : Int32) (D : TD), g_L_isCut_166 x1 x2 x4 x5 x6 x9 t0 D = some o → AtK X Z rm_L_isCut cL_isCut RL 14 0 0 (wB Z A D) 166 [(0, .ref A.1), (1, .int x1), (2, .int x2), (4, .int x4), (5, .int x5), (6, .int x6), (9, .int x9)] [.int t0] := by
    intro x1 x2 x4 x5 x6 x9 t0 D hg
    unfold g_L_isCut_166 at hg
    refine r_iload_n dL_isCut_166 2 rfl ?_
    refine r_iload dL_isCut_167 3 rfl ?_
    refine r_icmp_ge (tgt := 176) dL_isCut_169 (by decide) (fun h169 => ?_) (fun h169 => ?_)
    · replace hg := (if_pos h169).symm.trans hg
      refine r_iconst (v := 0) dL_isCut_176 kic_0 ?_
      exact r_sub [0, 1, 2, 4, 5, 6] rfl (J177 x1 x2 x5 x6 x9 t0 0 D hg)
    · replace hg := (if_neg h169).symm.trans hg
      refine r_iconst (v := 1) dL_isCut_172 kic_1 ?_
      refine r_goto (tgt := 177) dL_isCut_173 (by decide) ?_
      exact r_sub [0, 1, 2, 4, 5, 6] rfl (J177 x1 x2 x5 x6 x9 t0 1 D hg)
  have J147 : ∀ (x1 : Int32) (x2 : Int32) (x4 : Int32) (x5 : Int32) (x6 : Int32) (x7 : Int32) (x9 : Int32) (t0 : Int32) (D : TD), g_L_isCut_147 x1 x2 x4 x5 x6 x7 x9 t0 D = some o → AtK X Z rm_L_isCut cL_isCut RL 14 0 0 (wB Z A D) 147 [(0, .ref A.1), (1, .int x1), (2, .int x2), (4, .int x4), (5, .int x5), (6, .int x6), (7, .int x7), (9, .int x9)] [.int t0] := by
    intro x1 x2 x4 x5 x6 x7 x9 t0 D hg
    unfold g_L_isCut_147 at hg
    refine r_istore (lv' := [(10, .int t0), (0, .ref A.1), (1, .int x1), (2, .int x2), (4, .int x4), (5, .int x5), (6, .int x6), (7, .int x7), (9, .int x9)]) dL_isCut_147 (by decide) rfl ?_
    refine r_iload dL_isCut_149 7 rfl ?_
    refine r_if_eq (tgt := 207) dL_isCut_151 (by decide) (fun h151 => ?_) (fun h151 => ?_)
    · replace hg := (if_pos h151).symm.trans hg
      exact r_sub [1, 2, 3, 5, 8] rfl (J207 x1 x2 x5 x9 D hg)
    · replace hg := (if_neg h151).symm.trans hg
      refine r_iload dL_isCut_154 8 rfl ?_
      refine r_bipush (v := (-4)) dL_isCut_156 kbp_m4 ?_
      refine r_icmp_ne (tgt := 165) dL_isCut_158 (by decide) (fun h158 => ?_) (fun h158 => ?_)
      · replace hg := (if_neg h158).symm.trans hg
        refine r_iconst (v := 0) dL_isCut_165 kic_0 ?_
        exact r_sub [1, 2, 3, 4, 5, 6, 8] rfl (J166 x1 x2 x4 x5 x6 x9 0 D hg)
      · replace hg := (if_pos h158).symm.trans hg
        refine r_iconst (v := 1) dL_isCut_161 kic_1 ?_
        refine r_goto (tgt := 166) dL_isCut_162 (by decide) ?_
        exact r_sub [1, 2, 3, 4, 5, 6, 8] rfl (J166 x1 x2 x4 x5 x6 x9 1 D hg)
  have J116 : ∀ (x1 : Int32) (x2 : Int32) (x4 : Int32) (x5 : Int32) (x6 : Int32) (t0 : Int32) (D : TD), g_L_isCut_116 x1 x2 x4 x5 x6 t0 D = some o → AtK X Z rm_L_isCut cL_isCut RL 14 0 0 (wB Z A D) 116 [(0, .ref A.1), (1, .int x1), (2, .int x2), (4, .int x4), (5, .int x5), (6, .int x6)] [.int t0] := by
    intro x1 x2 x4 x5 x6 t0 D hg
    unfold g_L_isCut_116 at hg
    refine r_istore (lv' := [(7, .int t0), (0, .ref A.1), (1, .int x1), (2, .int x2), (4, .int x4), (5, .int x5), (6, .int x6)]) dL_isCut_116 (by decide) rfl ?_
    refine r_aload_n dL_isCut_118 1 rfl ?_
    refine r_iload_n dL_isCut_119 3 rfl ?_
    obtain ⟨o120, e120, hg⟩ := ob hg
    refine r_callO (As := [.int x2]) (rest := []) (ws' := wB Z A o120.2) (cO_cut Z A D x2 o120 e120) (xPk.all wB_dom) rfl qw_382 mv_X6_cut ⟨Nat.le_of_ble_eq_true rfl, Nat.le_of_ble_eq_true rfl⟩ ⟨rfl, rfl⟩ ⟨Nat.zero_le _, Nat.zero_le _⟩ rfl (Nat.le_of_ble_eq_true rfl) rfl dL_isCut_120 ?_
    refine r_istore (lv' := [(8, .int o120.1), (7, .int t0), (0, .ref A.1), (1, .int x1), (2, .int x2), (4, .int x4), (5, .int x5), (6, .int x6)]) dL_isCut_123 (by decide) rfl ?_
    refine r_aload_n dL_isCut_125 2 rfl ?_
    refine r_iload_n dL_isCut_126 3 rfl ?_
    obtain ⟨o127, e127, hg⟩ := ob hg
    refine r_callO (As := [.int x1]) (rest := []) (ws' := wB Z A o127.2) (cO_sell Z A o120.2 x1 o127 e127) (xPk.all wB_dom) rfl qw_213 mv_X6_sell ⟨Nat.le_of_ble_eq_true rfl, Nat.le_of_ble_eq_true rfl⟩ ⟨rfl, rfl⟩ ⟨Nat.zero_le _, Nat.zero_le _⟩ rfl (Nat.le_of_ble_eq_true rfl) rfl dL_isCut_127 ?_
    refine r_istore (lv' := [(9, .int o127.1), (8, .int o120.1), (7, .int t0), (0, .ref A.1), (1, .int x1), (2, .int x2), (4, .int x4), (5, .int x5), (6, .int x6)]) dL_isCut_130 (by decide) rfl ?_
    refine r_iload dL_isCut_132 0 rfl ?_
    refine r_bipush (v := (-4)) dL_isCut_134 kbp_m4 ?_
    refine r_icmp_ne (tgt := 146) dL_isCut_136 (by decide) (fun h136 => ?_) (fun h136 => ?_)
    · replace hg := (if_neg h136).symm.trans hg
      refine r_iconst (v := 0) dL_isCut_146 kic_0 ?_
      exact r_sub [3, 4, 5, 6, 7, 8, 2, 0] rfl (J147 x1 x2 x4 x5 x6 t0 o127.1 0 o127.2 hg)
    · replace hg := (if_pos h136).symm.trans hg
      refine r_aload_n dL_isCut_139 3 rfl ?_
      obtain ⟨o140, e140, hg⟩ := ob hg
      refine r_callO (As := []) (rest := []) (ws' := wB Z A o140.2) (cO_start Z A o127.2 o140 e140) (xPk.all wB_dom) rfl qw_405 mv_X6_start ⟨Nat.le_of_ble_eq_true rfl, Nat.le_of_ble_eq_true rfl⟩ ⟨rfl, rfl⟩ ⟨Nat.zero_le _, Nat.zero_le _⟩ rfl (Nat.le_of_ble_eq_true rfl) rfl dL_isCut_140 ?_
      refine r_goto (tgt := 147) dL_isCut_143 (by decide) ?_
      exact r_sub [3, 4, 5, 6, 7, 8, 2, 0] rfl (J147 x1 x2 x4 x5 x6 t0 o127.1 o140.1 o140.2 hg)
  have J115 : ∀ (x1 : Int32) (x2 : Int32) (x4 : Int32) (x5 : Int32) (x6 : Int32) (D : TD), g_L_isCut_115 x1 x2 x4 x5 x6 D = some o → AtK X Z rm_L_isCut cL_isCut RL 14 0 0 (wB Z A D) 115 [(0, .ref A.1), (1, .int x1), (2, .int x2), (4, .int x4), (5, .int x5), (6, .int x6)] [] := by
    intro x1 x2 x4 x5 x6 D hg
    unfold g_L_isCut_115 at hg
    refine r_iconst (v := 0) dL_isCut_115 kic_0 ?_
    exact r_sub [0, 1, 2, 3, 4, 5] rfl (J116 x1 x2 x4 x5 x6 0 D hg)
  have J111 : ∀ (x1 : Int32) (x2 : Int32) (x4 : Int32) (x5 : Int32) (x6 : Int32) (D : TD), g_L_isCut_111 x1 x2 x4 x5 x6 D = some o → AtK X Z rm_L_isCut cL_isCut RL 14 0 0 (wB Z A D) 111 [(0, .ref A.1), (1, .int x1), (2, .int x2), (4, .int x4), (5, .int x5), (6, .int x6)] [] := by
    intro x1 x2 x4 x5 x6 D hg
    unfold g_L_isCut_111 at hg
    refine r_iconst (v := 1) dL_isCut_111 kic_1 ?_
    refine r_goto (tgt := 116) dL_isCut_112 (by decide) ?_
    exact r_sub [0, 1, 2, 3, 4, 5] rfl (J116 x1 x2 x4 x5 x6 1 D hg)
  have J84 : ∀ (x1 : Int32) (x2 : Int32) (x4 : Int32) (x5 : Int32) (x6 : Int32) (t0 : Int32) (t1 : Int32) (D : TD), g_L_isCut_84 x1 x2 x4 x5 x6 t0 t1 D = some o → AtK X Z rm_L_isCut cL_isCut RL 14 0 0 (wB Z A D) 84 [(0, .ref A.1), (1, .int x1), (2, .int x2), (4, .int x4), (5, .int x5), (6, .int x6)] [.int t1, .int t0] := by
    intro x1 x2 x4 x5 x6 t0 t1 D hg
    unfold g_L_isCut_84 at hg
    refine r_icmp_ne (tgt := 115) dL_isCut_84 (by decide) (fun h84 => ?_) (fun h84 => ?_)
    · replace hg := (if_neg h84).symm.trans hg
      exact r_sub [0, 1, 2, 3, 4, 5] rfl (J115 x1 x2 x4 x5 x6 D hg)
    · replace hg := (if_pos h84).symm.trans hg
      refine r_iload_n dL_isCut_87 2 rfl ?_
      refine r_iload dL_isCut_88 3 rfl ?_
      refine r_icmp_lt (tgt := 111) dL_isCut_90 (by decide) (fun h90 => ?_) (fun h90 => ?_)
      · replace hg := (if_pos h90).symm.trans hg
        exact r_sub [0, 1, 2, 3, 4, 5] rfl (J111 x1 x2 x4 x5 x6 D hg)
      · replace hg := (if_neg h90).symm.trans hg
        refine r_aload_n dL_isCut_93 0 rfl ?_
        refine r_iload_n dL_isCut_94 1 rfl ?_
        refine r_iload_n dL_isCut_95 2 rfl ?_
        refine r_iconst (v := 1) dL_isCut_96 kic_1 ?_
        obtain ⟨o97, e97, hg⟩ := ob hg
        refine r_callO (As := [.int x1, .int x2, .int 1]) (rest := []) (ws' := wB Z A o97.2) (cO_after Z A D x1 x2 1 o97 e97) (xPk.all wB_dom) rfl qw_541 mv_X6_after ⟨Nat.le_of_ble_eq_true rfl, Nat.le_of_ble_eq_true rfl⟩ ⟨rfl, rfl⟩ ⟨Nat.zero_le _, Nat.zero_le _⟩ rfl (Nat.le_of_ble_eq_true rfl) rfl dL_isCut_97 ?_
        refine r_aload_n dL_isCut_100 0 rfl ?_
        refine r_iload_n dL_isCut_101 1 rfl ?_
        refine r_bipush (v := 30) dL_isCut_102 kbp_30 ?_
        refine r_iconst (v := 1) dL_isCut_104 kic_1 ?_
        obtain ⟨o105, e105, hg⟩ := ob hg
        refine r_callO (As := [.int x1, .int 30, .int 1]) (rest := [.int o97.1]) (ws' := wB Z A o105.2) (cO_after Z A o97.2 x1 30 1 o105 e105) (xPk.all wB_dom) rfl qw_541 mv_X6_after ⟨Nat.le_of_ble_eq_true rfl, Nat.le_of_ble_eq_true rfl⟩ ⟨rfl, rfl⟩ ⟨Nat.zero_le _, Nat.zero_le _⟩ rfl (Nat.le_of_ble_eq_true rfl) rfl dL_isCut_105 ?_
        refine r_icmp_ne (tgt := 115) dL_isCut_108 (by decide) (fun h108 => ?_) (fun h108 => ?_)
        · replace hg := (if_neg h108).symm.trans hg
          exact r_sub [0, 1, 2, 3, 4, 5] rfl (J115 x1 x2 x4 x5 x6 o105.2 hg)
        · replace hg := (if_pos h108).symm.trans hg
          exact r_sub [0, 1, 2, 3, 4, 5] rfl (J111 x1 x2 x4 x5 x6 o105.2 hg)
  have J74 : ∀ (x1 : Int32) (x2 : Int32) (x3 : Int32) (x4 : Int32) (x5 : Int32) (x6 : Int32) (t0 : Int32) (D : TD), g_L_isCut_74 x1 x2 x3 x4 x5 x6 t0 D = some o → AtK X Z rm_L_isCut cL_isCut RL 14 0 0 (wB Z A D) 74 [(0, .ref A.1), (1, .int x1), (2, .int x2), (3, .int x3), (4, .int x4), (5, .int x5), (6, .int x6)] [.int t0] := by
    intro x1 x2 x3 x4 x5 x6 t0 D hg
    unfold g_L_isCut_74 at hg
    refine r_iload_n dL_isCut_74 2 rfl ?_
    refine r_iload_n dL_isCut_75 3 rfl ?_
    refine r_icmp_ge (tgt := 83) dL_isCut_76 (by decide) (fun h76 => ?_) (fun h76 => ?_)
    · replace hg := (if_pos h76).symm.trans hg
      refine r_iconst (v := 0) dL_isCut_83 kic_0 ?_
      exact r_sub [0, 1, 2, 4, 5, 6] rfl (J84 x1 x2 x4 x5 x6 t0 0 D hg)
    · replace hg := (if_neg h76).symm.trans hg
      refine r_iconst (v := 1) dL_isCut_79 kic_1 ?_
      refine r_goto (tgt := 84) dL_isCut_80 (by decide) ?_
      exact r_sub [0, 1, 2, 4, 5, 6] rfl (J84 x1 x2 x4 x5 x6 t0 1 D hg)
  have J38 : ∀ (D : TD), g_L_isCut_38 D = some o → AtK X Z rm_L_isCut cL_isCut RL 14 0 0 (wB Z A D) 38 [] [] := by
    intro D hg
    unfold g_L_isCut_38 at hg
    refine r_iconst (v := 0) dL_isCut_38 kic_0 ?_
    exact r_bret (hE _ (Option.some.inj hg)) (by decide) dL_isCut_39
  unfold g_L_isCut at hg
  show AtK X Z rm_L_isCut cL_isCut RL 14 0 0 (wB Z A D) 0 [(0, .ref A.1), (1, .int n1), (2, .int n2)] []
  refine r_aload_n dL_isCut_0 0 rfl ?_
  refine r_iload_n dL_isCut_1 1 rfl ?_
  obtain ⟨o2, e2, hg⟩ := ob hg
  refine r_callO (As := [.int n1]) (rest := []) (ws' := wB Z A D) (cO_needed Z A D n1 o2 e2) (xPk.all wB_dom) rfl qw_529 mv_X6_needed ⟨Nat.le_of_ble_eq_true rfl, Nat.le_of_ble_eq_true rfl⟩ ⟨rfl, rfl⟩ ⟨Nat.zero_le _, Nat.zero_le _⟩ rfl (Nat.le_of_ble_eq_true rfl) rfl dL_isCut_2 ?_
  refine r_istore_n (lv' := [(3, .int o2), (0, .ref A.1), (1, .int n1), (2, .int n2)]) dL_isCut_5 (by decide) rfl ?_
  refine r_aload_n dL_isCut_6 1 rfl ?_
  refine r_iload_n dL_isCut_7 2 rfl ?_
  obtain ⟨o8, e8, hg⟩ := ob hg
  refine r_callO (As := [.int n1]) (rest := []) (ws' := wB Z A o8.2) (cO_operations Z A D n1 o8 e8) (xPk.all wB_dom) rfl qw_533 mv_X6_operations ⟨Nat.le_of_ble_eq_true rfl, Nat.le_of_ble_eq_true rfl⟩ ⟨rfl, rfl⟩ ⟨Nat.zero_le _, Nat.zero_le _⟩ rfl (Nat.le_of_ble_eq_true rfl) rfl dL_isCut_8 ?_
  refine r_istore (lv' := [(4, .int o8.1), (3, .int o2), (0, .ref A.1), (1, .int n1), (2, .int n2)]) dL_isCut_11 (by decide) rfl ?_
  refine r_iload_n dL_isCut_13 1 rfl ?_
  refine r_if_ge (tgt := 40) dL_isCut_14 (by decide) (fun h14 => ?_) (fun h14 => ?_)
  · replace hg := (if_pos h14).symm.trans hg
    refine r_aload_n dL_isCut_40 2 rfl ?_
    refine r_iconst (v := 2) dL_isCut_41 kic_2 ?_
    obtain ⟨o42, e42, hg⟩ := ob hg
    refine r_callO (As := [.int 2]) (rest := []) (ws' := wB Z A o8.2) (cO_told Z A o8.2 2 o42 e42) (xPk.all wB_dom) rfl qw_191 mv_X6_told ⟨Nat.le_of_ble_eq_true rfl, Nat.le_of_ble_eq_true rfl⟩ ⟨rfl, rfl⟩ ⟨Nat.zero_le _, Nat.zero_le _⟩ rfl (Nat.le_of_ble_eq_true rfl) rfl dL_isCut_42 ?_
    refine r_istore (lv' := [(5, .int o42), (4, .int o8.1), (3, .int o2), (0, .ref A.1), (1, .int n1), (2, .int n2)]) dL_isCut_45 (by decide) rfl ?_
    refine r_aload_n dL_isCut_47 3 rfl ?_
    refine r_iload_n dL_isCut_48 4 rfl ?_
    refine r_iload_n dL_isCut_49 5 rfl ?_
    refine r_iconst (v := 2) dL_isCut_50 kic_2 ?_
    obtain ⟨o51, e51, hg⟩ := ob hg
    refine r_callO (As := [.int n1, .int n2, .int 2]) (rest := []) (ws' := wB Z A o51.2) (cO_after Z A o8.2 n1 n2 2 o51 e51) (xPk.all wB_dom) rfl qw_541 mv_X6_after ⟨Nat.le_of_ble_eq_true rfl, Nat.le_of_ble_eq_true rfl⟩ ⟨rfl, rfl⟩ ⟨Nat.zero_le _, Nat.zero_le _⟩ rfl (Nat.le_of_ble_eq_true rfl) rfl dL_isCut_51 ?_
    refine r_istore (lv' := [(6, .int o51.1), (5, .int o42), (4, .int o8.1), (3, .int o2), (0, .ref A.1), (1, .int n1), (2, .int n2)]) dL_isCut_54 (by decide) rfl ?_
    refine r_iload_n dL_isCut_56 3 rfl ?_
    refine r_iload dL_isCut_57 2 rfl ?_
    refine r_icmp_gt (tgt := 115) dL_isCut_59 (by decide) (fun h59 => ?_) (fun h59 => ?_)
    · replace hg := (if_pos h59).symm.trans hg
      exact r_sub [4, 5, 6, 2, 1, 0] rfl (J115 n1 n2 o8.1 o42 o51.1 o51.2 hg)
    · replace hg := (if_neg h59).symm.trans hg
      refine r_iload dL_isCut_62 0 rfl ?_
      refine r_iload dL_isCut_64 1 rfl ?_
      refine r_icmp_ne (tgt := 73) dL_isCut_66 (by decide) (fun h66 => ?_) (fun h66 => ?_)
      · replace hg := (if_neg h66).symm.trans hg
        refine r_iconst (v := 0) dL_isCut_73 kic_0 ?_
        exact r_sub [4, 5, 6, 3, 2, 1, 0] rfl (J74 n1 n2 o2 o8.1 o42 o51.1 0 o51.2 hg)
      · replace hg := (if_pos h66).symm.trans hg
        refine r_iconst (v := 1) dL_isCut_69 kic_1 ?_
        refine r_goto (tgt := 74) dL_isCut_70 (by decide) ?_
        exact r_sub [4, 5, 6, 3, 2, 1, 0] rfl (J74 n1 n2 o2 o8.1 o42 o51.1 1 o51.2 hg)
  · replace hg := (if_neg h14).symm.trans hg
    refine r_iload dL_isCut_17 0 rfl ?_
    refine r_iload_n dL_isCut_19 1 rfl ?_
    refine r_icmp_ne (tgt := 38) dL_isCut_20 (by decide) (fun h20 => ?_) (fun h20 => ?_)
    · replace hg := (if_neg h20).symm.trans hg
      exact r_sub [] rfl (J38 o8.2 hg)
    · replace hg := (if_pos h20).symm.trans hg
      refine r_aload_n dL_isCut_23 2 rfl ?_
      refine r_iload_n dL_isCut_24 3 rfl ?_
      refine r_iload_n dL_isCut_25 4 rfl ?_
      refine r_iconst (v := 0) dL_isCut_26 kic_0 ?_
      obtain ⟨o27, e27, hg⟩ := ob hg
      refine r_callO (As := [.int n1, .int n2, .int 0]) (rest := []) (ws' := wB Z A o27.2) (cO_after Z A o8.2 n1 n2 0 o27 e27) (xPk.all wB_dom) rfl qw_541 mv_X6_after ⟨Nat.le_of_ble_eq_true rfl, Nat.le_of_ble_eq_true rfl⟩ ⟨rfl, rfl⟩ ⟨Nat.zero_le _, Nat.zero_le _⟩ rfl (Nat.le_of_ble_eq_true rfl) rfl dL_isCut_27 ?_
      refine r_iload_n dL_isCut_30 1 rfl ?_
      refine r_icmp_ne (tgt := 38) dL_isCut_31 (by decide) (fun h31 => ?_) (fun h31 => ?_)
      · replace hg := (if_neg h31).symm.trans hg
        exact r_sub [] rfl (J38 o27.2 hg)
      · replace hg := (if_pos h31).symm.trans hg
        refine r_iconst (v := 1) dL_isCut_34 kic_1 ?_
        refine r_goto (tgt := 39) dL_isCut_35 (by decide) ?_
        exact r_bret (hE _ (Option.some.inj hg)) (by decide) dL_isCut_39

-- TicketJournalLaw.isJournal(LTicketJournal;)Z
abbrev rm_L_isJournal : Room := { frames := 7, cells := 0, slots := 0, locals := 160 }
def g_L_isJournal_478   (D : TD) : Option (Int32 × (TD)) :=
  some (0, D)
def g_L_isJournal_409   (D : TD) : Option (Int32 × (TD)) :=
  some (0, D)
def g_L_isJournal_411  (k260 : Int32 → Int32 → Int32 → Int32 → Int32 → Int32 → Int32 → TD → Option (Int32 × (TD))) (x1 : Int32) (x2 : Int32) (x3 : Int32) (x4 : Int32) (x5 : Int32) (x6 : Int32) (x7 : Int32) (D : TD) : Option (Int32 × (TD)) :=
  k260 x1 x2 x3 x4 x5 x6 (x7 + 1) D
def g_L_isJournal_364  (k260 : Int32 → Int32 → Int32 → Int32 → Int32 → Int32 → Int32 → TD → Option (Int32 × (TD))) (x1 : Int32) (x2 : Int32) (x3 : Int32) (x4 : Int32) (x5 : Int32) (x6 : Int32) (x7 : Int32) (x8 : Int32) (t0 : Int32) (D : TD) : Option (Int32 × (TD)) :=
  (if t0 = 0 then g_L_isJournal_409 D else (if x7 ≤ 0 then g_L_isJournal_411 k260 x1 x2 x3 x4 x5 x6 x7 D else (g_O_record D (x7 - 1) 4).bind fun o382 => (if o382.1 = x8 then (g_O_record o382.2 (x7 - 1) 5).bind fun o396 => (g_O_record o396.2 x7 5).bind fun o403 => (if o396.1 < o403.1 then g_L_isJournal_411 k260 x1 x2 x3 x4 x5 x6 x7 o403.2 else g_L_isJournal_409 o403.2) else g_L_isJournal_411 k260 x1 x2 x3 x4 x5 x6 x7 o382.2)))
def g_L_isJournal_363  (k260 : Int32 → Int32 → Int32 → Int32 → Int32 → Int32 → Int32 → TD → Option (Int32 × (TD))) (x1 : Int32) (x2 : Int32) (x3 : Int32) (x4 : Int32) (x5 : Int32) (x6 : Int32) (x7 : Int32) (x8 : Int32) (D : TD) : Option (Int32 × (TD)) :=
  g_L_isJournal_364 k260 x1 x2 x3 x4 x5 x6 x7 x8 0 D
def g_L_isJournal_260   : Nat → Int32 → Int32 → Int32 → Int32 → Int32 → Int32 → Int32 → TD → Option (Int32 × (TD))
  | 0 => fun _ _ _ _ _ _ _ _ => none
  | n + 1 => fun x1 x2 x3 x4 x5 x6 x7 D => (if x1 ≤ x7 then (if x2 = x1 then (if x3 = x1 then (g_O_records D (-2)).bind fun o430 => (if o430.1 = x4 then (if x5 ≤ 0 then g_L_isJournal_478 o430.2 else (g_O_takings o430.2 (-1)).bind fun o447 => (if x6 = o447.1 then (g_O_record o447.2 x1 0).bind fun o456 => (if o456.1 = (-9) then (g_O_word o456.2 5 0).bind fun o467 => (if o467 = (-1) then some (1, o456.2) else g_L_isJournal_478 o456.2) else g_L_isJournal_478 o456.2) else g_L_isJournal_478 o447.2)) else g_L_isJournal_478 o430.2) else g_L_isJournal_478 D) else g_L_isJournal_478 D) else (g_O_record D x7 4).bind fun o270 => (g_O_record o270.2 x7 5).bind fun o282 => (g_O_word o282.2 o270.1 (6 + (4 * o282.1))).bind fun o294 => (g_O_record o282.2 x7 1).bind fun o304 => (g_O_record o304.2 x7 0).bind fun o312 => (if o294 = ((10000 * o304.1) + o312.1) then (g_O_word o312.2 o270.1 ((6 + (4 * o282.1)) + 1)).bind fun o326 => (g_O_record o312.2 x7 2).bind fun o333 => (if o326 = o333.1 then (g_O_word o333.2 o270.1 ((6 + (4 * o282.1)) + 2)).bind fun o346 => (g_O_record o333.2 x7 3).bind fun o353 => (if o346 = o353.1 then g_L_isJournal_364 (g_L_isJournal_260 n) x1 x2 x3 x4 x5 x6 x7 o270.1 1 o353.2 else g_L_isJournal_363 (g_L_isJournal_260 n) x1 x2 x3 x4 x5 x6 x7 o270.1 o353.2) else g_L_isJournal_363 (g_L_isJournal_260 n) x1 x2 x3 x4 x5 x6 x7 o270.1 o333.2) else g_L_isJournal_363 (g_L_isJournal_260 n) x1 x2 x3 x4 x5 x6 x7 o270.1 o312.2))
def g_L_isJournal_234   : Nat → Int32 → Int32 → Int32 → Int32 → Int32 → Int32 → Int32 → TD → Option (Int32 × (TD))
  | 0 => fun _ _ _ _ _ _ _ _ => none
  | n + 1 => fun x1 x2 x3 x4 x5 x6 x7 D => (if 4 ≤ x7 then g_L_isJournal_260 30 x1 x2 x3 x4 x5 x6 0 D else (g_O_takings D x7).bind fun o245 => (g_L_isJournal_234 n) x1 x2 x3 x4 x5 (x6 + o245.1) (x7 + 1) o245.2)
def g_L_isJournal_222  (k43 : Int32 → Int32 → Int32 → Int32 → Int32 → Int32 → TD → Option (Int32 × (TD))) (x1 : Int32) (x2 : Int32) (x3 : Int32) (x4 : Int32) (x5 : Int32) (x6 : Int32) (D : TD) : Option (Int32 × (TD)) :=
  k43 x1 x2 x3 x4 x5 (x6 + 1) D
def g_L_isJournal_220   (D : TD) : Option (Int32 × (TD)) :=
  some (0, D)
def g_L_isJournal_117   (D : TD) : Option (Int32 × (TD)) :=
  some (0, D)
def g_L_isJournal_86  (k43 : Int32 → Int32 → Int32 → Int32 → Int32 → Int32 → TD → Option (Int32 × (TD))) : Nat → Int32 → Int32 → Int32 → Int32 → Int32 → Int32 → Int32 → TD → Option (Int32 × (TD))
  | 0 => fun _ _ _ _ _ _ _ _ => none
  | n + 1 => fun x1 x2 x3 x4 x5 x6 x7 D => (if 22 ≤ x7 then (g_O_block D x6 0).bind fun o129 => (if o129 = 1 then (g_O_block D x6 1).bind fun o140 => (g_O_word D x6 0).bind fun o147 => (if o140 = o147 then (g_O_word D x6 5).bind fun o157 => (g_O_word D x6 0).bind fun o165 => (g_O_word D x6 1).bind fun o174 => (g_O_word D x6 2).bind fun o185 => (g_O_word D x6 3).bind fun o196 => (g_O_word D x6 4).bind fun o207 => (if o157 = (jrem ((((((3 * o165) + (5 * o174)) + (7 * o185)) + (11 * o196)) + (13 * o207)) + 1) 65521) then g_L_isJournal_222 k43 x1 x2 x3 x4 x5 x6 D else g_L_isJournal_220 D) else g_L_isJournal_220 D) else g_L_isJournal_222 k43 x1 x2 x3 x4 x5 x6 D) else (g_O_word D x6 x7).bind fun o98 => (if o98 < 0 then g_L_isJournal_117 D else (g_O_word D x6 x7).bind fun o109 => (if o109 ≤ 65535 then (g_L_isJournal_86 k43 n) x1 x2 x3 x4 x5 x6 (x7 + 1) D else g_L_isJournal_117 D)))
def g_L_isJournal_43   : Nat → Int32 → Int32 → Int32 → Int32 → Int32 → Int32 → TD → Option (Int32 × (TD))
  | 0 => fun _ _ _ _ _ _ _ => none
  | n + 1 => fun x1 x2 x3 x4 x5 x6 D => (if 5 ≤ x6 then g_L_isJournal_234 30 x1 x2 x3 x4 x5 0 0 D else (g_O_block D x6 2).bind fun o54 => (g_O_block D x6 3).bind fun o65 => (g_O_block D x6 0).bind fun o77 => g_L_isJournal_86 (g_L_isJournal_43 n) 30 x1 x2 (x3 + o54) (x4 + o65) (x5 + o77) x6 0 D)
def g_L_isJournal_19   : Nat → Int32 → Int32 → Int32 → Int32 → Int32 → Int32 → TD → Option (Int32 × (TD))
  | 0 => fun _ _ _ _ _ _ _ => none
  | n + 1 => fun x1 x2 x3 x4 x5 x6 D => (if 5 ≤ x6 then g_L_isJournal_43 30 x1 x2 x3 x4 x5 0 D else (g_O_records D x6).bind fun o29 => (g_L_isJournal_19 n) x1 (x2 + o29.1) x3 x4 x5 (x6 + 1) o29.2)
def g_L_isJournal (D : TD)  : Option (Int32 × (TD)) :=
  (g_O_records D (-1)).bind fun o2 => g_L_isJournal_19 30 o2.1 0 0 0 0 0 o2.2
set_option maxHeartbeats 4000000 in
set_option maxRecDepth 100000 in
theorem c_L_isJournal (Z : GZ) (l : Launch) (A : TA) (D : TD)  (o : (Int32 × (TD))) (hg : g_L_isJournal D = some o) : Con Z l yL_isJournal cL_isJournal 11 (some .boolean) rm_L_isJournal [.ref A.1] (wB Z A D) (some (.int o.1)) (wB Z A o.2) := by
  refine Con.of (by decide) (Nat.le_of_ble_eq_true rfl) ?_
  intro X hE0
  have hE : ∀ z, z = o → endsX X Z (some .boolean) (some (.int z.1)) (wB Z A z.2) := by
    rintro _ rfl; exact hE0
  have J478 : ∀ (D : TD), g_L_isJournal_478 D = some o → AtK X Z rm_L_isJournal cL_isJournal RL 11 0 0 (wB Z A D) 478 [] [] := by
    intro D hg
    unfold g_L_isJournal_478 at hg
    refine r_iconst (v := 0) dL_isJournal_478 kic_0 ?_
    exact r_bret (hE _ (Option.some.inj hg)) (by decide) dL_isJournal_479
  have J409 : ∀ (D : TD), g_L_isJournal_409 D = some o → AtK X Z rm_L_isJournal cL_isJournal RL 11 0 0 (wB Z A D) 409 [] [] := by
    intro D hg
    unfold g_L_isJournal_409 at hg
    refine r_iconst (v := 0) dL_isJournal_409 kic_0 ?_
    exact r_bret (hE _ (Option.some.inj hg)) (by decide) dL_isJournal_410
  have J411 : ∀ (k260 : Int32 → Int32 → Int32 → Int32 → Int32 → Int32 → Int32 → TD → Option (Int32 × (TD))) (hk260 : ∀ (x1 : Int32) (x2 : Int32) (x3 : Int32) (x4 : Int32) (x5 : Int32) (x6 : Int32) (x7 : Int32) (D : TD), k260 x1 x2 x3 x4 x5 x6 x7 D = some o → AtK X Z rm_L_isJournal cL_isJournal RL 11 0 0 (wB Z A D) 260 [(0, .ref A.1), (1, .int x1), (2, .int x2), (3, .int x3), (4, .int x4), (5, .int x5), (6, .int x6), (7, .int x7)] []), ∀ (x1 : Int32) (x2 : Int32) (x3 : Int32) (x4 : Int32) (x5 : Int32) (x6 : Int32) (x7 : Int32) (D : TD), g_L_isJournal_411 k260 x1 x2 x3 x4 x5 x6 x7 D = some o → AtK X Z rm_L_isJournal cL_isJournal RL 11 0 0 (wB Z A D) 411 [(0, .ref A.1), (1, .int x1), (2, .int x2), (3, .int x3), (4, .int x4), (5, .int x5), (6, .int x6), (7, .int x7)] [] := by
    intro k260 hk260 x1 x2 x3 x4 x5 x6 x7 D hg
    unfold g_L_isJournal_411 at hg
    refine r_iinc (v := (x7 + 1)) (lv' := [(7, .int (x7 + 1)), (0, .ref A.1), (1, .int x1), (2, .int x2), (3, .int x3), (4, .int x4), (5, .int x5), (6, .int x6)]) dL_isJournal_411 (k := 7) rfl rfl (by decide) rfl ?_
    refine r_goto (tgt := 260) dL_isJournal_414 (by decide) ?_
    exact r_sub [1, 2, 3, 4, 5, 6, 7, 0] rfl (hk260 x1 x2 x3 x4 x5 x6 (x7 + 1) D hg)
  have J364 : ∀ (k260 : Int32 → Int32 → Int32 → Int32 → Int32 → Int32 → Int32 → TD → Option (Int32 × (TD))) (hk260 : ∀ (x1 : Int32) (x2 : Int32) (x3 : Int32) (x4 : Int32) (x5 : Int32) (x6 : Int32) (x7 : Int32) (D : TD), k260 x1 x2 x3 x4 x5 x6 x7 D = some o → AtK X Z rm_L_isJournal cL_isJournal RL 11 0 0 (wB Z A D) 260 [(0, .ref A.1), (1, .int x1), (2, .int x2), (3, .int x3), (4, .int x4), (5, .int x5), (6, .int x6), (7, .int x7)] []), ∀ (x1 : Int32) (x2 : Int32) (x3 : Int32) (x4 : Int32) (x5 : Int32) (x6 : Int32) (x7 : Int32) (x8 : Int32) (t0 : Int32) (D : TD), g_L_isJournal_364 k260 x1 x2 x3 x4 x5 x6 x7 x8 t0 D = some o → AtK X Z rm_L_isJournal cL_isJournal RL 11 0 0 (wB Z A D) 364 [(0, .ref A.1), (1, .int x1), (2, .int x2), (3, .int x3), (4, .int x4), (5, .int x5), (6, .int x6), (7, .int x7), (8, .int x8)] [.int t0] := by
    intro k260 hk260 x1 x2 x3 x4 x5 x6 x7 x8 t0 D hg
    unfold g_L_isJournal_364 at hg
    refine r_istore (lv' := [(10, .int t0), (0, .ref A.1), (1, .int x1), (2, .int x2), (3, .int x3), (4, .int x4), (5, .int x5), (6, .int x6), (7, .int x7), (8, .int x8)]) dL_isJournal_364 (by decide) rfl ?_
    refine r_iload dL_isJournal_366 0 rfl ?_
    refine r_if_eq (tgt := 409) dL_isJournal_368 (by decide) (fun h368 => ?_) (fun h368 => ?_)
    · replace hg := (if_pos h368).symm.trans hg
      exact r_sub [] rfl (J409 D hg)
    · replace hg := (if_neg h368).symm.trans hg
      refine r_iload dL_isJournal_371 8 rfl ?_
      refine r_if_le (tgt := 411) dL_isJournal_373 (by decide) (fun h373 => ?_) (fun h373 => ?_)
      · replace hg := (if_pos h373).symm.trans hg
        exact r_sub [1, 2, 3, 4, 5, 6, 7, 8] rfl (J411 k260 hk260 x1 x2 x3 x4 x5 x6 x7 D hg)
      · replace hg := (if_neg h373).symm.trans hg
        refine r_aload_n dL_isJournal_376 1 rfl ?_
        refine r_iload dL_isJournal_377 8 rfl ?_
        refine r_iconst (v := 1) dL_isJournal_379 kic_1 ?_
        refine r_isub dL_isJournal_380 ?_
        refine r_iconst (v := 4) dL_isJournal_381 kic_4 ?_
        obtain ⟨o382, e382, hg⟩ := ob hg
        refine r_callO (As := [.int (x7 - 1), .int 4]) (rest := []) (ws' := wB Z A o382.2) (cO_record Z A D (x7 - 1) 4 o382 e382) (xPk.all wB_dom) rfl qw_518 mv_X6_record ⟨Nat.le_of_ble_eq_true rfl, Nat.le_of_ble_eq_true rfl⟩ ⟨rfl, rfl⟩ ⟨Nat.zero_le _, Nat.zero_le _⟩ rfl (Nat.le_of_ble_eq_true rfl) rfl dL_isJournal_382 ?_
        refine r_iload dL_isJournal_385 9 rfl ?_
        refine r_icmp_ne (tgt := 411) dL_isJournal_387 (by decide) (fun h387 => ?_) (fun h387 => ?_)
        · replace hg := (if_neg h387).symm.trans hg
          exact r_sub [1, 2, 3, 4, 5, 6, 7, 8] rfl (J411 k260 hk260 x1 x2 x3 x4 x5 x6 x7 o382.2 hg)
        · replace hg := (if_pos h387).symm.trans hg
          refine r_aload_n dL_isJournal_390 1 rfl ?_
          refine r_iload dL_isJournal_391 8 rfl ?_
          refine r_iconst (v := 1) dL_isJournal_393 kic_1 ?_
          refine r_isub dL_isJournal_394 ?_
          refine r_iconst (v := 5) dL_isJournal_395 kic_5 ?_
          obtain ⟨o396, e396, hg⟩ := ob hg
          refine r_callO (As := [.int (x7 - 1), .int 5]) (rest := []) (ws' := wB Z A o396.2) (cO_record Z A o382.2 (x7 - 1) 5 o396 e396) (xPk.all wB_dom) rfl qw_518 mv_X6_record ⟨Nat.le_of_ble_eq_true rfl, Nat.le_of_ble_eq_true rfl⟩ ⟨rfl, rfl⟩ ⟨Nat.zero_le _, Nat.zero_le _⟩ rfl (Nat.le_of_ble_eq_true rfl) rfl dL_isJournal_396 ?_
          refine r_aload_n dL_isJournal_399 1 rfl ?_
          refine r_iload dL_isJournal_400 8 rfl ?_
          refine r_iconst (v := 5) dL_isJournal_402 kic_5 ?_
          obtain ⟨o403, e403, hg⟩ := ob hg
          refine r_callO (As := [.int x7, .int 5]) (rest := [.int o396.1]) (ws' := wB Z A o403.2) (cO_record Z A o396.2 x7 5 o403 e403) (xPk.all wB_dom) rfl qw_518 mv_X6_record ⟨Nat.le_of_ble_eq_true rfl, Nat.le_of_ble_eq_true rfl⟩ ⟨rfl, rfl⟩ ⟨Nat.zero_le _, Nat.zero_le _⟩ rfl (Nat.le_of_ble_eq_true rfl) rfl dL_isJournal_403 ?_
          refine r_icmp_lt (tgt := 411) dL_isJournal_406 (by decide) (fun h406 => ?_) (fun h406 => ?_)
          · replace hg := (if_pos h406).symm.trans hg
            exact r_sub [1, 2, 3, 4, 5, 6, 7, 8] rfl (J411 k260 hk260 x1 x2 x3 x4 x5 x6 x7 o403.2 hg)
          · replace hg := (if_neg h406).symm.trans hg
            exact r_sub [] rfl (J409 o403.2 hg)
  have J363 : ∀ (k260 : Int32 → Int32 → Int32 → Int32 → Int32 → Int32 → Int32 → TD → Option (Int32 × (TD))) (hk260 : ∀ (x1 : Int32) (x2 : Int32) (x3 : Int32) (x4 : Int32) (x5 : Int32) (x6 : Int32) (x7 : Int32) (D : TD), k260 x1 x2 x3 x4 x5 x6 x7 D = some o → AtK X Z rm_L_isJournal cL_isJournal RL 11 0 0 (wB Z A D) 260 [(0, .ref A.1), (1, .int x1), (2, .int x2), (3, .int x3), (4, .int x4), (5, .int x5), (6, .int x6), (7, .int x7)] []), ∀ (x1 : Int32) (x2 : Int32) (x3 : Int32) (x4 : Int32) (x5 : Int32) (x6 : Int32) (x7 : Int32) (x8 : Int32) (D : TD), g_L_isJournal_363 k260 x1 x2 x3 x4 x5 x6 x7 x8 D = some o → AtK X Z rm_L_isJournal cL_isJournal RL 11 0 0 (wB Z A D) 363 [(0, .ref A.1), (1, .int x1), (2, .int x2), (3, .int x3), (4, .int x4), (5, .int x5), (6, .int x6), (7, .int x7), (8, .int x8)] [] := by
    intro k260 hk260 x1 x2 x3 x4 x5 x6 x7 x8 D hg
    unfold g_L_isJournal_363 at hg
    refine r_iconst (v := 0) dL_isJournal_363 kic_0 ?_
    exact r_sub [0, 1, 2, 3, 4, 5, 6, 7, 8] rfl (J364 k260 hk260 x1 x2 x3 x4 x5 x6 x7 x8 0 D hg)
  have J260 : ∀ (n : Nat), ∀ (x1 : Int32) (x2 : Int32) (x3 : Int32) (x4 : Int32) (x5 : Int32) (x6 : Int32) (x7 : Int32) (D : TD), g_L_isJournal_260 n x1 x2 x3 x4 x5 x6 x7 D = some o → AtK X Z rm_L_isJournal cL_isJournal RL 11 0 0 (wB Z A D) 260 [(0, .ref A.1), (1, .int x1), (2, .int x2), (3, .int x3), (4, .int x4), (5, .int x5), (6, .int x6), (7, .int x7)] [] := by
    intro  n
    induction n with
    | zero => intro x1 x2 x3 x4 x5 x6 x7 D hg; exact nomatch (show (none : Option _) = some o from hg)
    | succ n ih =>
      intro x1 x2 x3 x4 x5 x6 x7 D hg
      unfold g_L_isJournal_260 at hg
      refine r_iload dL_isJournal_260 7 rfl ?_
      refine r_iload_n dL_isJournal_262 1 rfl ?_
      refine r_icmp_ge (tgt := 417) dL_isJournal_263 (by decide) (fun h263 => ?_) (fun h263 => ?_)
      · replace hg := (if_pos h263).symm.trans hg
        refine r_iload_n dL_isJournal_417 2 rfl ?_
        refine r_iload_n dL_isJournal_418 1 rfl ?_
        refine r_icmp_ne (tgt := 478) dL_isJournal_419 (by decide) (fun h419 => ?_) (fun h419 => ?_)
        · replace hg := (if_neg h419).symm.trans hg
          exact r_sub [] rfl (J478 D hg)
        · replace hg := (if_pos h419).symm.trans hg
          refine r_iload_n dL_isJournal_422 3 rfl ?_
          refine r_iload_n dL_isJournal_423 1 rfl ?_
          refine r_icmp_ne (tgt := 478) dL_isJournal_424 (by decide) (fun h424 => ?_) (fun h424 => ?_)
          · replace hg := (if_neg h424).symm.trans hg
            exact r_sub [] rfl (J478 D hg)
          · replace hg := (if_pos h424).symm.trans hg
            refine r_aload_n dL_isJournal_427 0 rfl ?_
            refine r_bipush (v := (-2)) dL_isJournal_428 kbp_m2 ?_
            obtain ⟨o430, e430, hg⟩ := ob hg
            refine r_callO (As := [.int (-2)]) (rest := []) (ws' := wB Z A o430.2) (cO_records Z A D (-2) o430 e430) (xPk.all wB_dom) rfl qw_462 mv_X6_records ⟨Nat.le_of_ble_eq_true rfl, Nat.le_of_ble_eq_true rfl⟩ ⟨rfl, rfl⟩ ⟨Nat.zero_le _, Nat.zero_le _⟩ rfl (Nat.le_of_ble_eq_true rfl) rfl dL_isJournal_430 ?_
            refine r_iload dL_isJournal_433 4 rfl ?_
            refine r_icmp_ne (tgt := 478) dL_isJournal_435 (by decide) (fun h435 => ?_) (fun h435 => ?_)
            · replace hg := (if_neg h435).symm.trans hg
              exact r_sub [] rfl (J478 o430.2 hg)
            · replace hg := (if_pos h435).symm.trans hg
              refine r_iload dL_isJournal_438 5 rfl ?_
              refine r_if_le (tgt := 478) dL_isJournal_440 (by decide) (fun h440 => ?_) (fun h440 => ?_)
              · replace hg := (if_pos h440).symm.trans hg
                exact r_sub [] rfl (J478 o430.2 hg)
              · replace hg := (if_neg h440).symm.trans hg
                refine r_iload dL_isJournal_443 6 rfl ?_
                refine r_aload_n dL_isJournal_445 0 rfl ?_
                refine r_iconst (v := (-1)) dL_isJournal_446 kic_m1 ?_
                obtain ⟨o447, e447, hg⟩ := ob hg
                refine r_callO (As := [.int (-1)]) (rest := [.int x6]) (ws' := wB Z A o447.2) (cO_takings Z A o430.2 (-1) o447 e447) (xPk.all wB_dom) rfl qw_510 mv_X6_takings ⟨Nat.le_of_ble_eq_true rfl, Nat.le_of_ble_eq_true rfl⟩ ⟨rfl, rfl⟩ ⟨Nat.zero_le _, Nat.zero_le _⟩ rfl (Nat.le_of_ble_eq_true rfl) rfl dL_isJournal_447 ?_
                refine r_icmp_ne (tgt := 478) dL_isJournal_450 (by decide) (fun h450 => ?_) (fun h450 => ?_)
                · replace hg := (if_neg h450).symm.trans hg
                  exact r_sub [] rfl (J478 o447.2 hg)
                · replace hg := (if_pos h450).symm.trans hg
                  refine r_aload_n dL_isJournal_453 0 rfl ?_
                  refine r_iload_n dL_isJournal_454 1 rfl ?_
                  refine r_iconst (v := 0) dL_isJournal_455 kic_0 ?_
                  obtain ⟨o456, e456, hg⟩ := ob hg
                  refine r_callO (As := [.int x1, .int 0]) (rest := []) (ws' := wB Z A o456.2) (cO_record Z A o447.2 x1 0 o456 e456) (xPk.all wB_dom) rfl qw_518 mv_X6_record ⟨Nat.le_of_ble_eq_true rfl, Nat.le_of_ble_eq_true rfl⟩ ⟨rfl, rfl⟩ ⟨Nat.zero_le _, Nat.zero_le _⟩ rfl (Nat.le_of_ble_eq_true rfl) rfl dL_isJournal_456 ?_
                  refine r_bipush (v := (-9)) dL_isJournal_459 kbp_m9 ?_
                  refine r_icmp_ne (tgt := 478) dL_isJournal_461 (by decide) (fun h461 => ?_) (fun h461 => ?_)
                  · replace hg := (if_neg h461).symm.trans hg
                    exact r_sub [] rfl (J478 o456.2 hg)
                  · replace hg := (if_pos h461).symm.trans hg
                    refine r_aload_n dL_isJournal_464 0 rfl ?_
                    refine r_iconst (v := 5) dL_isJournal_465 kic_5 ?_
                    refine r_iconst (v := 0) dL_isJournal_466 kic_0 ?_
                    obtain ⟨o467, e467, hg⟩ := ob hg
                    refine r_callO (As := [.int 5, .int 0]) (rest := []) (ws' := wB Z A o456.2) (cO_word Z A o456.2 5 0 o467 e467) (xPk.all wB_dom) rfl qw_504 mv_X6_word ⟨Nat.le_of_ble_eq_true rfl, Nat.le_of_ble_eq_true rfl⟩ ⟨rfl, rfl⟩ ⟨Nat.zero_le _, Nat.zero_le _⟩ rfl (Nat.le_of_ble_eq_true rfl) rfl dL_isJournal_467 ?_
                    refine r_iconst (v := (-1)) dL_isJournal_470 kic_m1 ?_
                    refine r_icmp_ne (tgt := 478) dL_isJournal_471 (by decide) (fun h471 => ?_) (fun h471 => ?_)
                    · replace hg := (if_neg h471).symm.trans hg
                      exact r_sub [] rfl (J478 o456.2 hg)
                    · replace hg := (if_pos h471).symm.trans hg
                      refine r_iconst (v := 1) dL_isJournal_474 kic_1 ?_
                      refine r_goto (tgt := 479) dL_isJournal_475 (by decide) ?_
                      exact r_bret (hE _ (Option.some.inj hg)) (by decide) dL_isJournal_479
      · replace hg := (if_neg h263).symm.trans hg
        refine r_aload_n dL_isJournal_266 0 rfl ?_
        refine r_iload dL_isJournal_267 7 rfl ?_
        refine r_iconst (v := 4) dL_isJournal_269 kic_4 ?_
        obtain ⟨o270, e270, hg⟩ := ob hg
        refine r_callO (As := [.int x7, .int 4]) (rest := []) (ws' := wB Z A o270.2) (cO_record Z A D x7 4 o270 e270) (xPk.all wB_dom) rfl qw_518 mv_X6_record ⟨Nat.le_of_ble_eq_true rfl, Nat.le_of_ble_eq_true rfl⟩ ⟨rfl, rfl⟩ ⟨Nat.zero_le _, Nat.zero_le _⟩ rfl (Nat.le_of_ble_eq_true rfl) rfl dL_isJournal_270 ?_
        refine r_istore (lv' := [(8, .int o270.1), (0, .ref A.1), (1, .int x1), (2, .int x2), (3, .int x3), (4, .int x4), (5, .int x5), (6, .int x6), (7, .int x7)]) dL_isJournal_273 (by decide) rfl ?_
        refine r_bipush (v := 6) dL_isJournal_275 kbp_6 ?_
        refine r_iconst (v := 4) dL_isJournal_277 kic_4 ?_
        refine r_aload_n dL_isJournal_278 1 rfl ?_
        refine r_iload dL_isJournal_279 8 rfl ?_
        refine r_iconst (v := 5) dL_isJournal_281 kic_5 ?_
        obtain ⟨o282, e282, hg⟩ := ob hg
        refine r_callO (As := [.int x7, .int 5]) (rest := [.int 4, .int 6]) (ws' := wB Z A o282.2) (cO_record Z A o270.2 x7 5 o282 e282) (xPk.all wB_dom) rfl qw_518 mv_X6_record ⟨Nat.le_of_ble_eq_true rfl, Nat.le_of_ble_eq_true rfl⟩ ⟨rfl, rfl⟩ ⟨Nat.zero_le _, Nat.zero_le _⟩ rfl (Nat.le_of_ble_eq_true rfl) rfl dL_isJournal_282 ?_
        refine r_imul dL_isJournal_285 ?_
        refine r_iadd dL_isJournal_286 ?_
        refine r_istore (lv' := [(9, .int (6 + (4 * o282.1))), (8, .int o270.1), (0, .ref A.1), (1, .int x1), (2, .int x2), (3, .int x3), (4, .int x4), (5, .int x5), (6, .int x6), (7, .int x7)]) dL_isJournal_287 (by decide) rfl ?_
        refine r_aload_n dL_isJournal_289 2 rfl ?_
        refine r_iload dL_isJournal_290 1 rfl ?_
        refine r_iload dL_isJournal_292 0 rfl ?_
        obtain ⟨o294, e294, hg⟩ := ob hg
        refine r_callO (As := [.int o270.1, .int (6 + (4 * o282.1))]) (rest := []) (ws' := wB Z A o282.2) (cO_word Z A o282.2 o270.1 (6 + (4 * o282.1)) o294 e294) (xPk.all wB_dom) rfl qw_504 mv_X6_word ⟨Nat.le_of_ble_eq_true rfl, Nat.le_of_ble_eq_true rfl⟩ ⟨rfl, rfl⟩ ⟨Nat.zero_le _, Nat.zero_le _⟩ rfl (Nat.le_of_ble_eq_true rfl) rfl dL_isJournal_294 ?_
        refine r_sipush (v := 10000) dL_isJournal_297 ksp_10000 ?_
        refine r_aload_n dL_isJournal_300 2 rfl ?_
        refine r_iload dL_isJournal_301 9 rfl ?_
        refine r_iconst (v := 1) dL_isJournal_303 kic_1 ?_
        obtain ⟨o304, e304, hg⟩ := ob hg
        refine r_callO (As := [.int x7, .int 1]) (rest := [.int 10000, .int o294]) (ws' := wB Z A o304.2) (cO_record Z A o282.2 x7 1 o304 e304) (xPk.all wB_dom) rfl qw_518 mv_X6_record ⟨Nat.le_of_ble_eq_true rfl, Nat.le_of_ble_eq_true rfl⟩ ⟨rfl, rfl⟩ ⟨Nat.zero_le _, Nat.zero_le _⟩ rfl (Nat.le_of_ble_eq_true rfl) rfl dL_isJournal_304 ?_
        refine r_imul dL_isJournal_307 ?_
        refine r_aload_n dL_isJournal_308 2 rfl ?_
        refine r_iload dL_isJournal_309 9 rfl ?_
        refine r_iconst (v := 0) dL_isJournal_311 kic_0 ?_
        obtain ⟨o312, e312, hg⟩ := ob hg
        refine r_callO (As := [.int x7, .int 0]) (rest := [.int (10000 * o304.1), .int o294]) (ws' := wB Z A o312.2) (cO_record Z A o304.2 x7 0 o312 e312) (xPk.all wB_dom) rfl qw_518 mv_X6_record ⟨Nat.le_of_ble_eq_true rfl, Nat.le_of_ble_eq_true rfl⟩ ⟨rfl, rfl⟩ ⟨Nat.zero_le _, Nat.zero_le _⟩ rfl (Nat.le_of_ble_eq_true rfl) rfl dL_isJournal_312 ?_
        refine r_iadd dL_isJournal_315 ?_
        refine r_icmp_ne (tgt := 363) dL_isJournal_316 (by decide) (fun h316 => ?_) (fun h316 => ?_)
        · replace hg := (if_neg h316).symm.trans hg
          exact r_sub [2, 3, 4, 5, 6, 7, 8, 9, 1] rfl (J363 (g_L_isJournal_260 n) ih x1 x2 x3 x4 x5 x6 x7 o270.1 o312.2 hg)
        · replace hg := (if_pos h316).symm.trans hg
          refine r_aload_n dL_isJournal_319 2 rfl ?_
          refine r_iload dL_isJournal_320 1 rfl ?_
          refine r_iload dL_isJournal_322 0 rfl ?_
          refine r_iconst (v := 1) dL_isJournal_324 kic_1 ?_
          refine r_iadd dL_isJournal_325 ?_
          obtain ⟨o326, e326, hg⟩ := ob hg
          refine r_callO (As := [.int o270.1, .int ((6 + (4 * o282.1)) + 1)]) (rest := []) (ws' := wB Z A o312.2) (cO_word Z A o312.2 o270.1 ((6 + (4 * o282.1)) + 1) o326 e326) (xPk.all wB_dom) rfl qw_504 mv_X6_word ⟨Nat.le_of_ble_eq_true rfl, Nat.le_of_ble_eq_true rfl⟩ ⟨rfl, rfl⟩ ⟨Nat.zero_le _, Nat.zero_le _⟩ rfl (Nat.le_of_ble_eq_true rfl) rfl dL_isJournal_326 ?_
          refine r_aload_n dL_isJournal_329 2 rfl ?_
          refine r_iload dL_isJournal_330 9 rfl ?_
          refine r_iconst (v := 2) dL_isJournal_332 kic_2 ?_
          obtain ⟨o333, e333, hg⟩ := ob hg
          refine r_callO (As := [.int x7, .int 2]) (rest := [.int o326]) (ws' := wB Z A o333.2) (cO_record Z A o312.2 x7 2 o333 e333) (xPk.all wB_dom) rfl qw_518 mv_X6_record ⟨Nat.le_of_ble_eq_true rfl, Nat.le_of_ble_eq_true rfl⟩ ⟨rfl, rfl⟩ ⟨Nat.zero_le _, Nat.zero_le _⟩ rfl (Nat.le_of_ble_eq_true rfl) rfl dL_isJournal_333 ?_
          refine r_icmp_ne (tgt := 363) dL_isJournal_336 (by decide) (fun h336 => ?_) (fun h336 => ?_)
          · replace hg := (if_neg h336).symm.trans hg
            exact r_sub [2, 3, 4, 5, 6, 7, 8, 9, 1] rfl (J363 (g_L_isJournal_260 n) ih x1 x2 x3 x4 x5 x6 x7 o270.1 o333.2 hg)
          · replace hg := (if_pos h336).symm.trans hg
            refine r_aload_n dL_isJournal_339 2 rfl ?_
            refine r_iload dL_isJournal_340 1 rfl ?_
            refine r_iload dL_isJournal_342 0 rfl ?_
            refine r_iconst (v := 2) dL_isJournal_344 kic_2 ?_
            refine r_iadd dL_isJournal_345 ?_
            obtain ⟨o346, e346, hg⟩ := ob hg
            refine r_callO (As := [.int o270.1, .int ((6 + (4 * o282.1)) + 2)]) (rest := []) (ws' := wB Z A o333.2) (cO_word Z A o333.2 o270.1 ((6 + (4 * o282.1)) + 2) o346 e346) (xPk.all wB_dom) rfl qw_504 mv_X6_word ⟨Nat.le_of_ble_eq_true rfl, Nat.le_of_ble_eq_true rfl⟩ ⟨rfl, rfl⟩ ⟨Nat.zero_le _, Nat.zero_le _⟩ rfl (Nat.le_of_ble_eq_true rfl) rfl dL_isJournal_346 ?_
            refine r_aload_n dL_isJournal_349 2 rfl ?_
            refine r_iload dL_isJournal_350 9 rfl ?_
            refine r_iconst (v := 3) dL_isJournal_352 kic_3 ?_
            obtain ⟨o353, e353, hg⟩ := ob hg
            refine r_callO (As := [.int x7, .int 3]) (rest := [.int o346]) (ws' := wB Z A o353.2) (cO_record Z A o333.2 x7 3 o353 e353) (xPk.all wB_dom) rfl qw_518 mv_X6_record ⟨Nat.le_of_ble_eq_true rfl, Nat.le_of_ble_eq_true rfl⟩ ⟨rfl, rfl⟩ ⟨Nat.zero_le _, Nat.zero_le _⟩ rfl (Nat.le_of_ble_eq_true rfl) rfl dL_isJournal_353 ?_
            refine r_icmp_ne (tgt := 363) dL_isJournal_356 (by decide) (fun h356 => ?_) (fun h356 => ?_)
            · replace hg := (if_neg h356).symm.trans hg
              exact r_sub [2, 3, 4, 5, 6, 7, 8, 9, 1] rfl (J363 (g_L_isJournal_260 n) ih x1 x2 x3 x4 x5 x6 x7 o270.1 o353.2 hg)
            · replace hg := (if_pos h356).symm.trans hg
              refine r_iconst (v := 1) dL_isJournal_359 kic_1 ?_
              refine r_goto (tgt := 364) dL_isJournal_360 (by decide) ?_
              exact r_sub [2, 3, 4, 5, 6, 7, 8, 9, 1] rfl (J364 (g_L_isJournal_260 n) ih x1 x2 x3 x4 x5 x6 x7 o270.1 1 o353.2 hg)
  have J234 : ∀ (n : Nat), ∀ (x1 : Int32) (x2 : Int32) (x3 : Int32) (x4 : Int32) (x5 : Int32) (x6 : Int32) (x7 : Int32) (D : TD), g_L_isJournal_234 n x1 x2 x3 x4 x5 x6 x7 D = some o → AtK X Z rm_L_isJournal cL_isJournal RL 11 0 0 (wB Z A D) 234 [(0, .ref A.1), (1, .int x1), (2, .int x2), (3, .int x3), (4, .int x4), (5, .int x5), (6, .int x6), (7, .int x7)] [] := by
    intro  n
    induction n with
    | zero => intro x1 x2 x3 x4 x5 x6 x7 D hg; exact nomatch (show (none : Option _) = some o from hg)
    | succ n ih =>
      intro x1 x2 x3 x4 x5 x6 x7 D hg
      unfold g_L_isJournal_234 at hg
      refine r_iload dL_isJournal_234 7 rfl ?_
      refine r_iconst (v := 4) dL_isJournal_236 kic_4 ?_
      refine r_icmp_ge (tgt := 257) dL_isJournal_237 (by decide) (fun h237 => ?_) (fun h237 => ?_)
      · replace hg := (if_pos h237).symm.trans hg
        refine r_iconst (v := 0) dL_isJournal_257 kic_0 ?_
        refine r_istore (lv' := [(7, .int 0), (0, .ref A.1), (1, .int x1), (2, .int x2), (3, .int x3), (4, .int x4), (5, .int x5), (6, .int x6)]) dL_isJournal_258 (by decide) rfl ?_
        exact r_sub [1, 2, 3, 4, 5, 6, 7, 0] rfl (J260 30 x1 x2 x3 x4 x5 x6 0 D hg)
      · replace hg := (if_neg h237).symm.trans hg
        refine r_iload dL_isJournal_240 6 rfl ?_
        refine r_aload_n dL_isJournal_242 0 rfl ?_
        refine r_iload dL_isJournal_243 7 rfl ?_
        obtain ⟨o245, e245, hg⟩ := ob hg
        refine r_callO (As := [.int x7]) (rest := [.int x6]) (ws' := wB Z A o245.2) (cO_takings Z A D x7 o245 e245) (xPk.all wB_dom) rfl qw_510 mv_X6_takings ⟨Nat.le_of_ble_eq_true rfl, Nat.le_of_ble_eq_true rfl⟩ ⟨rfl, rfl⟩ ⟨Nat.zero_le _, Nat.zero_le _⟩ rfl (Nat.le_of_ble_eq_true rfl) rfl dL_isJournal_245 ?_
        refine r_iadd dL_isJournal_248 ?_
        refine r_istore (lv' := [(6, .int (x6 + o245.1)), (0, .ref A.1), (1, .int x1), (2, .int x2), (3, .int x3), (4, .int x4), (5, .int x5), (7, .int x7)]) dL_isJournal_249 (by decide) rfl ?_
        refine r_iinc (v := (x7 + 1)) (lv' := [(7, .int (x7 + 1)), (6, .int (x6 + o245.1)), (0, .ref A.1), (1, .int x1), (2, .int x2), (3, .int x3), (4, .int x4), (5, .int x5)]) dL_isJournal_251 (k := 7) rfl rfl (by decide) rfl ?_
        refine r_goto (tgt := 234) dL_isJournal_254 (by decide) ?_
        exact r_sub [2, 3, 4, 5, 6, 7, 1, 0] rfl (ih x1 x2 x3 x4 x5 (x6 + o245.1) (x7 + 1) o245.2 hg)
  have J222 : ∀ (k43 : Int32 → Int32 → Int32 → Int32 → Int32 → Int32 → TD → Option (Int32 × (TD))) (hk43 : ∀ (x1 : Int32) (x2 : Int32) (x3 : Int32) (x4 : Int32) (x5 : Int32) (x6 : Int32) (D : TD), k43 x1 x2 x3 x4 x5 x6 D = some o → AtK X Z rm_L_isJournal cL_isJournal RL 11 0 0 (wB Z A D) 43 [(0, .ref A.1), (1, .int x1), (2, .int x2), (3, .int x3), (4, .int x4), (5, .int x5), (6, .int x6)] []), ∀ (x1 : Int32) (x2 : Int32) (x3 : Int32) (x4 : Int32) (x5 : Int32) (x6 : Int32) (D : TD), g_L_isJournal_222 k43 x1 x2 x3 x4 x5 x6 D = some o → AtK X Z rm_L_isJournal cL_isJournal RL 11 0 0 (wB Z A D) 222 [(0, .ref A.1), (1, .int x1), (2, .int x2), (3, .int x3), (4, .int x4), (5, .int x5), (6, .int x6)] [] := by
    intro k43 hk43 x1 x2 x3 x4 x5 x6 D hg
    unfold g_L_isJournal_222 at hg
    refine r_iinc (v := (x6 + 1)) (lv' := [(6, .int (x6 + 1)), (0, .ref A.1), (1, .int x1), (2, .int x2), (3, .int x3), (4, .int x4), (5, .int x5)]) dL_isJournal_222 (k := 6) rfl rfl (by decide) rfl ?_
    refine r_goto (tgt := 43) dL_isJournal_225 (by decide) ?_
    exact r_sub [1, 2, 3, 4, 5, 6, 0] rfl (hk43 x1 x2 x3 x4 x5 (x6 + 1) D hg)
  have J220 : ∀ (D : TD), g_L_isJournal_220 D = some o → AtK X Z rm_L_isJournal cL_isJournal RL 11 0 0 (wB Z A D) 220 [] [] := by
    intro D hg
    unfold g_L_isJournal_220 at hg
    refine r_iconst (v := 0) dL_isJournal_220 kic_0 ?_
    exact r_bret (hE _ (Option.some.inj hg)) (by decide) dL_isJournal_221
  have J117 : ∀ (D : TD), g_L_isJournal_117 D = some o → AtK X Z rm_L_isJournal cL_isJournal RL 11 0 0 (wB Z A D) 117 [] [] := by
    intro D hg
    unfold g_L_isJournal_117 at hg
    refine r_iconst (v := 0) dL_isJournal_117 kic_0 ?_
    exact r_bret (hE _ (Option.some.inj hg)) (by decide) dL_isJournal_118
  have J86 : ∀ (k43 : Int32 → Int32 → Int32 → Int32 → Int32 → Int32 → TD → Option (Int32 × (TD))) (hk43 : ∀ (x1 : Int32) (x2 : Int32) (x3 : Int32) (x4 : Int32) (x5 : Int32) (x6 : Int32) (D : TD), k43 x1 x2 x3 x4 x5 x6 D = some o → AtK X Z rm_L_isJournal cL_isJournal RL 11 0 0 (wB Z A D) 43 [(0, .ref A.1), (1, .int x1), (2, .int x2), (3, .int x3), (4, .int x4), (5, .int x5), (6, .int x6)] []) (n : Nat), ∀ (x1 : Int32) (x2 : Int32) (x3 : Int32) (x4 : Int32) (x5 : Int32) (x6 : Int32) (x7 : Int32) (D : TD), g_L_isJournal_86 k43 n x1 x2 x3 x4 x5 x6 x7 D = some o → AtK X Z rm_L_isJournal cL_isJournal RL 11 0 0 (wB Z A D) 86 [(0, .ref A.1), (1, .int x1), (2, .int x2), (3, .int x3), (4, .int x4), (5, .int x5), (6, .int x6), (7, .int x7)] [] := by
    intro k43 hk43 n
    induction n with
    | zero => intro x1 x2 x3 x4 x5 x6 x7 D hg; exact nomatch (show (none : Option _) = some o from hg)
    | succ n ih =>
      intro x1 x2 x3 x4 x5 x6 x7 D hg
      unfold g_L_isJournal_86 at hg
      refine r_iload dL_isJournal_86 7 rfl ?_
      refine r_bipush (v := 22) dL_isJournal_88 kbp_22 ?_
      refine r_icmp_ge (tgt := 125) dL_isJournal_90 (by decide) (fun h90 => ?_) (fun h90 => ?_)
      · replace hg := (if_pos h90).symm.trans hg
        refine r_aload_n dL_isJournal_125 0 rfl ?_
        refine r_iload dL_isJournal_126 6 rfl ?_
        refine r_iconst (v := 0) dL_isJournal_128 kic_0 ?_
        obtain ⟨o129, e129, hg⟩ := ob hg
        refine r_callO (As := [.int x6, .int 0]) (rest := []) (ws' := wB Z A D) (cO_block Z A D x6 0 o129 e129) (xPk.all wB_dom) rfl qw_490 mv_X6_block ⟨Nat.le_of_ble_eq_true rfl, Nat.le_of_ble_eq_true rfl⟩ ⟨rfl, rfl⟩ ⟨Nat.zero_le _, Nat.zero_le _⟩ rfl (Nat.le_of_ble_eq_true rfl) rfl dL_isJournal_129 ?_
        refine r_iconst (v := 1) dL_isJournal_132 kic_1 ?_
        refine r_icmp_ne (tgt := 222) dL_isJournal_133 (by decide) (fun h133 => ?_) (fun h133 => ?_)
        · replace hg := (if_neg h133).symm.trans hg
          exact r_sub [0, 1, 2, 3, 4, 5, 6] rfl (J222 k43 hk43 x1 x2 x3 x4 x5 x6 D hg)
        · replace hg := (if_pos h133).symm.trans hg
          refine r_aload_n dL_isJournal_136 0 rfl ?_
          refine r_iload dL_isJournal_137 6 rfl ?_
          refine r_iconst (v := 1) dL_isJournal_139 kic_1 ?_
          obtain ⟨o140, e140, hg⟩ := ob hg
          refine r_callO (As := [.int x6, .int 1]) (rest := []) (ws' := wB Z A D) (cO_block Z A D x6 1 o140 e140) (xPk.all wB_dom) rfl qw_490 mv_X6_block ⟨Nat.le_of_ble_eq_true rfl, Nat.le_of_ble_eq_true rfl⟩ ⟨rfl, rfl⟩ ⟨Nat.zero_le _, Nat.zero_le _⟩ rfl (Nat.le_of_ble_eq_true rfl) rfl dL_isJournal_140 ?_
          refine r_aload_n dL_isJournal_143 0 rfl ?_
          refine r_iload dL_isJournal_144 6 rfl ?_
          refine r_iconst (v := 0) dL_isJournal_146 kic_0 ?_
          obtain ⟨o147, e147, hg⟩ := ob hg
          refine r_callO (As := [.int x6, .int 0]) (rest := [.int o140]) (ws' := wB Z A D) (cO_word Z A D x6 0 o147 e147) (xPk.all wB_dom) rfl qw_504 mv_X6_word ⟨Nat.le_of_ble_eq_true rfl, Nat.le_of_ble_eq_true rfl⟩ ⟨rfl, rfl⟩ ⟨Nat.zero_le _, Nat.zero_le _⟩ rfl (Nat.le_of_ble_eq_true rfl) rfl dL_isJournal_147 ?_
          refine r_icmp_ne (tgt := 220) dL_isJournal_150 (by decide) (fun h150 => ?_) (fun h150 => ?_)
          · replace hg := (if_neg h150).symm.trans hg
            exact r_sub [] rfl (J220 D hg)
          · replace hg := (if_pos h150).symm.trans hg
            refine r_aload_n dL_isJournal_153 0 rfl ?_
            refine r_iload dL_isJournal_154 6 rfl ?_
            refine r_iconst (v := 5) dL_isJournal_156 kic_5 ?_
            obtain ⟨o157, e157, hg⟩ := ob hg
            refine r_callO (As := [.int x6, .int 5]) (rest := []) (ws' := wB Z A D) (cO_word Z A D x6 5 o157 e157) (xPk.all wB_dom) rfl qw_504 mv_X6_word ⟨Nat.le_of_ble_eq_true rfl, Nat.le_of_ble_eq_true rfl⟩ ⟨rfl, rfl⟩ ⟨Nat.zero_le _, Nat.zero_le _⟩ rfl (Nat.le_of_ble_eq_true rfl) rfl dL_isJournal_157 ?_
            refine r_iconst (v := 3) dL_isJournal_160 kic_3 ?_
            refine r_aload_n dL_isJournal_161 0 rfl ?_
            refine r_iload dL_isJournal_162 6 rfl ?_
            refine r_iconst (v := 0) dL_isJournal_164 kic_0 ?_
            obtain ⟨o165, e165, hg⟩ := ob hg
            refine r_callO (As := [.int x6, .int 0]) (rest := [.int 3, .int o157]) (ws' := wB Z A D) (cO_word Z A D x6 0 o165 e165) (xPk.all wB_dom) rfl qw_504 mv_X6_word ⟨Nat.le_of_ble_eq_true rfl, Nat.le_of_ble_eq_true rfl⟩ ⟨rfl, rfl⟩ ⟨Nat.zero_le _, Nat.zero_le _⟩ rfl (Nat.le_of_ble_eq_true rfl) rfl dL_isJournal_165 ?_
            refine r_imul dL_isJournal_168 ?_
            refine r_iconst (v := 5) dL_isJournal_169 kic_5 ?_
            refine r_aload_n dL_isJournal_170 0 rfl ?_
            refine r_iload dL_isJournal_171 6 rfl ?_
            refine r_iconst (v := 1) dL_isJournal_173 kic_1 ?_
            obtain ⟨o174, e174, hg⟩ := ob hg
            refine r_callO (As := [.int x6, .int 1]) (rest := [.int 5, .int (3 * o165), .int o157]) (ws' := wB Z A D) (cO_word Z A D x6 1 o174 e174) (xPk.all wB_dom) rfl qw_504 mv_X6_word ⟨Nat.le_of_ble_eq_true rfl, Nat.le_of_ble_eq_true rfl⟩ ⟨rfl, rfl⟩ ⟨Nat.zero_le _, Nat.zero_le _⟩ rfl (Nat.le_of_ble_eq_true rfl) rfl dL_isJournal_174 ?_
            refine r_imul dL_isJournal_177 ?_
            refine r_iadd dL_isJournal_178 ?_
            refine r_bipush (v := 7) dL_isJournal_179 kbp_7 ?_
            refine r_aload_n dL_isJournal_181 0 rfl ?_
            refine r_iload dL_isJournal_182 6 rfl ?_
            refine r_iconst (v := 2) dL_isJournal_184 kic_2 ?_
            obtain ⟨o185, e185, hg⟩ := ob hg
            refine r_callO (As := [.int x6, .int 2]) (rest := [.int 7, .int ((3 * o165) + (5 * o174)), .int o157]) (ws' := wB Z A D) (cO_word Z A D x6 2 o185 e185) (xPk.all wB_dom) rfl qw_504 mv_X6_word ⟨Nat.le_of_ble_eq_true rfl, Nat.le_of_ble_eq_true rfl⟩ ⟨rfl, rfl⟩ ⟨Nat.zero_le _, Nat.zero_le _⟩ rfl (Nat.le_of_ble_eq_true rfl) rfl dL_isJournal_185 ?_
            refine r_imul dL_isJournal_188 ?_
            refine r_iadd dL_isJournal_189 ?_
            refine r_bipush (v := 11) dL_isJournal_190 kbp_11 ?_
            refine r_aload_n dL_isJournal_192 0 rfl ?_
            refine r_iload dL_isJournal_193 6 rfl ?_
            refine r_iconst (v := 3) dL_isJournal_195 kic_3 ?_
            obtain ⟨o196, e196, hg⟩ := ob hg
            refine r_callO (As := [.int x6, .int 3]) (rest := [.int 11, .int (((3 * o165) + (5 * o174)) + (7 * o185)), .int o157]) (ws' := wB Z A D) (cO_word Z A D x6 3 o196 e196) (xPk.all wB_dom) rfl qw_504 mv_X6_word ⟨Nat.le_of_ble_eq_true rfl, Nat.le_of_ble_eq_true rfl⟩ ⟨rfl, rfl⟩ ⟨Nat.zero_le _, Nat.zero_le _⟩ rfl (Nat.le_of_ble_eq_true rfl) rfl dL_isJournal_196 ?_
            refine r_imul dL_isJournal_199 ?_
            refine r_iadd dL_isJournal_200 ?_
            refine r_bipush (v := 13) dL_isJournal_201 kbp_13 ?_
            refine r_aload_n dL_isJournal_203 0 rfl ?_
            refine r_iload dL_isJournal_204 6 rfl ?_
            refine r_iconst (v := 4) dL_isJournal_206 kic_4 ?_
            obtain ⟨o207, e207, hg⟩ := ob hg
            refine r_callO (As := [.int x6, .int 4]) (rest := [.int 13, .int ((((3 * o165) + (5 * o174)) + (7 * o185)) + (11 * o196)), .int o157]) (ws' := wB Z A D) (cO_word Z A D x6 4 o207 e207) (xPk.all wB_dom) rfl qw_504 mv_X6_word ⟨Nat.le_of_ble_eq_true rfl, Nat.le_of_ble_eq_true rfl⟩ ⟨rfl, rfl⟩ ⟨Nat.zero_le _, Nat.zero_le _⟩ rfl (Nat.le_of_ble_eq_true rfl) rfl dL_isJournal_207 ?_
            refine r_imul dL_isJournal_210 ?_
            refine r_iadd dL_isJournal_211 ?_
            refine r_iconst (v := 1) dL_isJournal_212 kic_1 ?_
            refine r_iadd dL_isJournal_213 ?_
            refine r_ldc qw_509 dL_isJournal_214 ?_
            refine r_irem dL_isJournal_216 (by decide) ?_
            refine r_icmp_eq (tgt := 222) dL_isJournal_217 (by decide) (fun h217 => ?_) (fun h217 => ?_)
            · replace hg := (if_pos h217).symm.trans hg
              exact r_sub [0, 1, 2, 3, 4, 5, 6] rfl (J222 k43 hk43 x1 x2 x3 x4 x5 x6 D hg)
            · replace hg := (if_neg h217).symm.trans hg
              exact r_sub [] rfl (J220 D hg)
      · replace hg := (if_neg h90).symm.trans hg
        refine r_aload_n dL_isJournal_93 0 rfl ?_
        refine r_iload dL_isJournal_94 6 rfl ?_
        refine r_iload dL_isJournal_96 7 rfl ?_
        obtain ⟨o98, e98, hg⟩ := ob hg
        refine r_callO (As := [.int x6, .int x7]) (rest := []) (ws' := wB Z A D) (cO_word Z A D x6 x7 o98 e98) (xPk.all wB_dom) rfl qw_504 mv_X6_word ⟨Nat.le_of_ble_eq_true rfl, Nat.le_of_ble_eq_true rfl⟩ ⟨rfl, rfl⟩ ⟨Nat.zero_le _, Nat.zero_le _⟩ rfl (Nat.le_of_ble_eq_true rfl) rfl dL_isJournal_98 ?_
        refine r_if_lt (tgt := 117) dL_isJournal_101 (by decide) (fun h101 => ?_) (fun h101 => ?_)
        · replace hg := (if_pos h101).symm.trans hg
          exact r_sub [] rfl (J117 D hg)
        · replace hg := (if_neg h101).symm.trans hg
          refine r_aload_n dL_isJournal_104 0 rfl ?_
          refine r_iload dL_isJournal_105 6 rfl ?_
          refine r_iload dL_isJournal_107 7 rfl ?_
          obtain ⟨o109, e109, hg⟩ := ob hg
          refine r_callO (As := [.int x6, .int x7]) (rest := []) (ws' := wB Z A D) (cO_word Z A D x6 x7 o109 e109) (xPk.all wB_dom) rfl qw_504 mv_X6_word ⟨Nat.le_of_ble_eq_true rfl, Nat.le_of_ble_eq_true rfl⟩ ⟨rfl, rfl⟩ ⟨Nat.zero_le _, Nat.zero_le _⟩ rfl (Nat.le_of_ble_eq_true rfl) rfl dL_isJournal_109 ?_
          refine r_ldc qw_508 dL_isJournal_112 ?_
          refine r_icmp_le (tgt := 119) dL_isJournal_114 (by decide) (fun h114 => ?_) (fun h114 => ?_)
          · replace hg := (if_pos h114).symm.trans hg
            refine r_iinc (v := (x7 + 1)) (lv' := [(7, .int (x7 + 1)), (0, .ref A.1), (1, .int x1), (2, .int x2), (3, .int x3), (4, .int x4), (5, .int x5), (6, .int x6)]) dL_isJournal_119 (k := 7) rfl rfl (by decide) rfl ?_
            refine r_goto (tgt := 86) dL_isJournal_122 (by decide) ?_
            exact r_sub [1, 2, 3, 4, 5, 6, 7, 0] rfl (ih x1 x2 x3 x4 x5 x6 (x7 + 1) D hg)
          · replace hg := (if_neg h114).symm.trans hg
            exact r_sub [] rfl (J117 D hg)
  have J43 : ∀ (n : Nat), ∀ (x1 : Int32) (x2 : Int32) (x3 : Int32) (x4 : Int32) (x5 : Int32) (x6 : Int32) (D : TD), g_L_isJournal_43 n x1 x2 x3 x4 x5 x6 D = some o → AtK X Z rm_L_isJournal cL_isJournal RL 11 0 0 (wB Z A D) 43 [(0, .ref A.1), (1, .int x1), (2, .int x2), (3, .int x3), (4, .int x4), (5, .int x5), (6, .int x6)] [] := by
    intro  n
    induction n with
    | zero => intro x1 x2 x3 x4 x5 x6 D hg; exact nomatch (show (none : Option _) = some o from hg)
    | succ n ih =>
      intro x1 x2 x3 x4 x5 x6 D hg
      unfold g_L_isJournal_43 at hg
      refine r_iload dL_isJournal_43 6 rfl ?_
      refine r_iconst (v := 5) dL_isJournal_45 kic_5 ?_
      refine r_icmp_ge (tgt := 228) dL_isJournal_46 (by decide) (fun h46 => ?_) (fun h46 => ?_)
      · replace hg := (if_pos h46).symm.trans hg
        refine r_iconst (v := 0) dL_isJournal_228 kic_0 ?_
        refine r_istore (lv' := [(6, .int 0), (0, .ref A.1), (1, .int x1), (2, .int x2), (3, .int x3), (4, .int x4), (5, .int x5)]) dL_isJournal_229 (by decide) rfl ?_
        refine r_iconst (v := 0) dL_isJournal_231 kic_0 ?_
        refine r_istore (lv' := [(7, .int 0), (6, .int 0), (0, .ref A.1), (1, .int x1), (2, .int x2), (3, .int x3), (4, .int x4), (5, .int x5)]) dL_isJournal_232 (by decide) rfl ?_
        exact r_sub [2, 3, 4, 5, 6, 7, 1, 0] rfl (J234 30 x1 x2 x3 x4 x5 0 0 D hg)
      · replace hg := (if_neg h46).symm.trans hg
        refine r_iload_n dL_isJournal_49 3 rfl ?_
        refine r_aload_n dL_isJournal_50 0 rfl ?_
        refine r_iload dL_isJournal_51 6 rfl ?_
        refine r_iconst (v := 2) dL_isJournal_53 kic_2 ?_
        obtain ⟨o54, e54, hg⟩ := ob hg
        refine r_callO (As := [.int x6, .int 2]) (rest := [.int x3]) (ws' := wB Z A D) (cO_block Z A D x6 2 o54 e54) (xPk.all wB_dom) rfl qw_490 mv_X6_block ⟨Nat.le_of_ble_eq_true rfl, Nat.le_of_ble_eq_true rfl⟩ ⟨rfl, rfl⟩ ⟨Nat.zero_le _, Nat.zero_le _⟩ rfl (Nat.le_of_ble_eq_true rfl) rfl dL_isJournal_54 ?_
        refine r_iadd dL_isJournal_57 ?_
        refine r_istore_n (lv' := [(3, .int (x3 + o54)), (0, .ref A.1), (1, .int x1), (2, .int x2), (4, .int x4), (5, .int x5), (6, .int x6)]) dL_isJournal_58 (by decide) rfl ?_
        refine r_iload dL_isJournal_59 4 rfl ?_
        refine r_aload_n dL_isJournal_61 1 rfl ?_
        refine r_iload dL_isJournal_62 6 rfl ?_
        refine r_iconst (v := 3) dL_isJournal_64 kic_3 ?_
        obtain ⟨o65, e65, hg⟩ := ob hg
        refine r_callO (As := [.int x6, .int 3]) (rest := [.int x4]) (ws' := wB Z A D) (cO_block Z A D x6 3 o65 e65) (xPk.all wB_dom) rfl qw_490 mv_X6_block ⟨Nat.le_of_ble_eq_true rfl, Nat.le_of_ble_eq_true rfl⟩ ⟨rfl, rfl⟩ ⟨Nat.zero_le _, Nat.zero_le _⟩ rfl (Nat.le_of_ble_eq_true rfl) rfl dL_isJournal_65 ?_
        refine r_iadd dL_isJournal_68 ?_
        refine r_istore (lv' := [(4, .int (x4 + o65)), (3, .int (x3 + o54)), (0, .ref A.1), (1, .int x1), (2, .int x2), (5, .int x5), (6, .int x6)]) dL_isJournal_69 (by decide) rfl ?_
        refine r_iload dL_isJournal_71 5 rfl ?_
        refine r_aload_n dL_isJournal_73 2 rfl ?_
        refine r_iload dL_isJournal_74 6 rfl ?_
        refine r_iconst (v := 0) dL_isJournal_76 kic_0 ?_
        obtain ⟨o77, e77, hg⟩ := ob hg
        refine r_callO (As := [.int x6, .int 0]) (rest := [.int x5]) (ws' := wB Z A D) (cO_block Z A D x6 0 o77 e77) (xPk.all wB_dom) rfl qw_490 mv_X6_block ⟨Nat.le_of_ble_eq_true rfl, Nat.le_of_ble_eq_true rfl⟩ ⟨rfl, rfl⟩ ⟨Nat.zero_le _, Nat.zero_le _⟩ rfl (Nat.le_of_ble_eq_true rfl) rfl dL_isJournal_77 ?_
        refine r_iadd dL_isJournal_80 ?_
        refine r_istore (lv' := [(5, .int (x5 + o77)), (4, .int (x4 + o65)), (3, .int (x3 + o54)), (0, .ref A.1), (1, .int x1), (2, .int x2), (6, .int x6)]) dL_isJournal_81 (by decide) rfl ?_
        refine r_iconst (v := 0) dL_isJournal_83 kic_0 ?_
        refine r_istore (lv' := [(7, .int 0), (5, .int (x5 + o77)), (4, .int (x4 + o65)), (3, .int (x3 + o54)), (0, .ref A.1), (1, .int x1), (2, .int x2), (6, .int x6)]) dL_isJournal_84 (by decide) rfl ?_
        exact r_sub [4, 5, 6, 3, 2, 1, 7, 0] rfl (J86 (g_L_isJournal_43 n) ih 30 x1 x2 (x3 + o54) (x4 + o65) (x5 + o77) x6 0 D hg)
  have J19 : ∀ (n : Nat), ∀ (x1 : Int32) (x2 : Int32) (x3 : Int32) (x4 : Int32) (x5 : Int32) (x6 : Int32) (D : TD), g_L_isJournal_19 n x1 x2 x3 x4 x5 x6 D = some o → AtK X Z rm_L_isJournal cL_isJournal RL 11 0 0 (wB Z A D) 19 [(0, .ref A.1), (1, .int x1), (2, .int x2), (3, .int x3), (4, .int x4), (5, .int x5), (6, .int x6)] [] := by
    intro  n
    induction n with
    | zero => intro x1 x2 x3 x4 x5 x6 D hg; exact nomatch (show (none : Option _) = some o from hg)
    | succ n ih =>
      intro x1 x2 x3 x4 x5 x6 D hg
      unfold g_L_isJournal_19 at hg
      refine r_iload dL_isJournal_19 6 rfl ?_
      refine r_iconst (v := 5) dL_isJournal_21 kic_5 ?_
      refine r_icmp_ge (tgt := 40) dL_isJournal_22 (by decide) (fun h22 => ?_) (fun h22 => ?_)
      · replace hg := (if_pos h22).symm.trans hg
        refine r_iconst (v := 0) dL_isJournal_40 kic_0 ?_
        refine r_istore (lv' := [(6, .int 0), (0, .ref A.1), (1, .int x1), (2, .int x2), (3, .int x3), (4, .int x4), (5, .int x5)]) dL_isJournal_41 (by decide) rfl ?_
        exact r_sub [1, 2, 3, 4, 5, 6, 0] rfl (J43 30 x1 x2 x3 x4 x5 0 D hg)
      · replace hg := (if_neg h22).symm.trans hg
        refine r_iload_n dL_isJournal_25 2 rfl ?_
        refine r_aload_n dL_isJournal_26 0 rfl ?_
        refine r_iload dL_isJournal_27 6 rfl ?_
        obtain ⟨o29, e29, hg⟩ := ob hg
        refine r_callO (As := [.int x6]) (rest := [.int x2]) (ws' := wB Z A o29.2) (cO_records Z A D x6 o29 e29) (xPk.all wB_dom) rfl qw_462 mv_X6_records ⟨Nat.le_of_ble_eq_true rfl, Nat.le_of_ble_eq_true rfl⟩ ⟨rfl, rfl⟩ ⟨Nat.zero_le _, Nat.zero_le _⟩ rfl (Nat.le_of_ble_eq_true rfl) rfl dL_isJournal_29 ?_
        refine r_iadd dL_isJournal_32 ?_
        refine r_istore_n (lv' := [(2, .int (x2 + o29.1)), (0, .ref A.1), (1, .int x1), (3, .int x3), (4, .int x4), (5, .int x5), (6, .int x6)]) dL_isJournal_33 (by decide) rfl ?_
        refine r_iinc (v := (x6 + 1)) (lv' := [(6, .int (x6 + 1)), (2, .int (x2 + o29.1)), (0, .ref A.1), (1, .int x1), (3, .int x3), (4, .int x4), (5, .int x5)]) dL_isJournal_34 (k := 6) rfl rfl (by decide) rfl ?_
        refine r_goto (tgt := 19) dL_isJournal_37 (by decide) ?_
        exact r_sub [2, 3, 1, 4, 5, 6, 0] rfl (ih x1 (x2 + o29.1) x3 x4 x5 (x6 + 1) o29.2 hg)
  unfold g_L_isJournal at hg
  show AtK X Z rm_L_isJournal cL_isJournal RL 11 0 0 (wB Z A D) 0 [(0, .ref A.1)] []
  refine r_aload_n dL_isJournal_0 0 rfl ?_
  refine r_iconst (v := (-1)) dL_isJournal_1 kic_m1 ?_
  obtain ⟨o2, e2, hg⟩ := ob hg
  refine r_callO (As := [.int (-1)]) (rest := []) (ws' := wB Z A o2.2) (cO_records Z A D (-1) o2 e2) (xPk.all wB_dom) rfl qw_462 mv_X6_records ⟨Nat.le_of_ble_eq_true rfl, Nat.le_of_ble_eq_true rfl⟩ ⟨rfl, rfl⟩ ⟨Nat.zero_le _, Nat.zero_le _⟩ rfl (Nat.le_of_ble_eq_true rfl) rfl dL_isJournal_2 ?_
  refine r_istore_n (lv' := [(1, .int o2.1), (0, .ref A.1)]) dL_isJournal_5 (by decide) rfl ?_
  refine r_iconst (v := 0) dL_isJournal_6 kic_0 ?_
  refine r_istore_n (lv' := [(2, .int 0), (1, .int o2.1), (0, .ref A.1)]) dL_isJournal_7 (by decide) rfl ?_
  refine r_iconst (v := 0) dL_isJournal_8 kic_0 ?_
  refine r_istore_n (lv' := [(3, .int 0), (2, .int 0), (1, .int o2.1), (0, .ref A.1)]) dL_isJournal_9 (by decide) rfl ?_
  refine r_iconst (v := 0) dL_isJournal_10 kic_0 ?_
  refine r_istore (lv' := [(4, .int 0), (3, .int 0), (2, .int 0), (1, .int o2.1), (0, .ref A.1)]) dL_isJournal_11 (by decide) rfl ?_
  refine r_iconst (v := 0) dL_isJournal_13 kic_0 ?_
  refine r_istore (lv' := [(5, .int 0), (4, .int 0), (3, .int 0), (2, .int 0), (1, .int o2.1), (0, .ref A.1)]) dL_isJournal_14 (by decide) rfl ?_
  refine r_iconst (v := 0) dL_isJournal_16 kic_0 ?_
  refine r_istore (lv' := [(6, .int 0), (5, .int 0), (4, .int 0), (3, .int 0), (2, .int 0), (1, .int o2.1), (0, .ref A.1)]) dL_isJournal_17 (by decide) rfl ?_
  exact r_sub [6, 5, 4, 3, 2, 1, 0] rfl (J19 30 o2.1 0 0 0 0 0 o2.2 hg)

-- TicketJournalLaw.areAlike(LTicketJournal;LTicketJournal;)Z
abbrev rm_L_areAlike : Room := { frames := 6, cells := 0, slots := 0, locals := 140 }
def g_L_areAlike_98  (k57 : Int32 → Int32 → TD → TD → Option (Int32 × (TD) × (TD))) (k65 : Int32 → Int32 → Int32 → TD → TD → Option (Int32 × (TD) × (TD))) (x3 : Int32) (x4 : Int32) (t0 : Int32) (D : TD) (D2 : TD) : Option (Int32 × (TD) × (TD)) :=
  k65 t0 x3 (x4 + 1) D D2
def g_L_areAlike_97  (k57 : Int32 → Int32 → TD → TD → Option (Int32 × (TD) × (TD))) (k65 : Int32 → Int32 → Int32 → TD → TD → Option (Int32 × (TD) × (TD))) (x3 : Int32) (x4 : Int32) (D : TD) (D2 : TD) : Option (Int32 × (TD) × (TD)) :=
  g_L_areAlike_98 k57 k65 x3 x4 0 D D2
def g_L_areAlike_65  (k57 : Int32 → Int32 → TD → TD → Option (Int32 × (TD) × (TD))) : Nat → Int32 → Int32 → Int32 → TD → TD → Option (Int32 × (TD) × (TD))
  | 0 => fun _ _ _ _ _ => none
  | n + 1 => fun x2 x3 x4 D D2 => (if 22 ≤ x4 then k57 x2 (x3 + 1) D D2 else (if x2 = 0 then g_L_areAlike_97 k57 (g_L_areAlike_65 k57 n) x3 x4 D D2 else (g_O_word D x3 x4).bind fun o80 => (g_O_word D2 x3 x4).bind fun o87 => (if o80 = o87 then g_L_areAlike_98 k57 (g_L_areAlike_65 k57 n) x3 x4 1 D D2 else g_L_areAlike_97 k57 (g_L_areAlike_65 k57 n) x3 x4 D D2)))
def g_L_areAlike_57   : Nat → Int32 → Int32 → TD → TD → Option (Int32 × (TD) × (TD))
  | 0 => fun _ _ _ _ => none
  | n + 1 => fun x2 x3 D D2 => (if 5 ≤ x3 then (if ¬ (x2 = 0 ∨ x2 = 1) then none else some (x2, D, D2)) else g_L_areAlike_65 (g_L_areAlike_57 n) 30 x2 x3 0 D D2)
def g_L_areAlike_48  (k20 : Int32 → Int32 → TD → TD → Option (Int32 × (TD) × (TD))) (x3 : Int32) (t0 : Int32) (D : TD) (D2 : TD) : Option (Int32 × (TD) × (TD)) :=
  k20 t0 (x3 + 1) D D2
def g_L_areAlike_47  (k20 : Int32 → Int32 → TD → TD → Option (Int32 × (TD) × (TD))) (x3 : Int32) (D : TD) (D2 : TD) : Option (Int32 × (TD) × (TD)) :=
  g_L_areAlike_48 k20 x3 0 D D2
def g_L_areAlike_20   : Nat → Int32 → Int32 → TD → TD → Option (Int32 × (TD) × (TD))
  | 0 => fun _ _ _ _ => none
  | n + 1 => fun x2 x3 D D2 => (if 12 ≤ x3 then g_L_areAlike_57 30 x2 0 D D2 else (if x2 = 0 then g_L_areAlike_47 (g_L_areAlike_20 n) x3 D D2 else (g_O_told D x3).bind fun o32 => (g_O_told D2 x3).bind fun o37 => (if o32 = o37 then g_L_areAlike_48 (g_L_areAlike_20 n) x3 1 D D2 else g_L_areAlike_47 (g_L_areAlike_20 n) x3 D D2)))
def g_L_areAlike_17   (t0 : Int32) (D : TD) (D2 : TD) : Option (Int32 × (TD) × (TD)) :=
  g_L_areAlike_20 30 t0 0 D D2
def g_L_areAlike (D : TD) (D2 : TD)  : Option (Int32 × (TD) × (TD)) :=
  (g_O_mean D).bind fun o1 => (g_O_mean D2).bind fun o5 => (if (Op.cmpValue (FP.fcmp o1.1 o5.1) .l) = 0 then g_L_areAlike_17 1 o1.2 o5.2 else g_L_areAlike_17 0 o1.2 o5.2)
set_option maxHeartbeats 4000000 in
set_option maxRecDepth 100000 in
theorem c_L_areAlike (Z : GZ) (l : Launch) (A : TA) (A2 : TA) (D : TD) (D2 : TD)  (o : (Int32 × (TD) × (TD))) (hg : g_L_areAlike D D2 = some o) : Con Z l yL_areAlike cL_areAlike 5 (some .boolean) rm_L_areAlike [.ref A.1, .ref A2.1] (wB Z A D ++ (wB Z A2 D2)) (some (.int o.1)) (wB Z A o.2.1 ++ (wB Z A2 o.2.2)) := by
  refine Con.of (by decide) (Nat.le_of_ble_eq_true rfl) ?_
  intro X hE0
  have hE : ∀ z, z = o → endsX X Z (some .boolean) (some (.int z.1)) (wB Z A z.2.1 ++ (wB Z A2 z.2.2)) := by
    rintro _ rfl; exact hE0
  have J98 : ∀ (k57 : Int32 → Int32 → TD → TD → Option (Int32 × (TD) × (TD))) (hk57 : ∀ (x2 : Int32) (x3 : Int32) (D : TD) (D2 : TD), k57 x2 x3 D D2 = some o → AtK X Z rm_L_areAlike cL_areAlike RL 5 0 0 (wB Z A D ++ (wB Z A2 D2)) 57 [(0, .ref A.1), (1, .ref A2.1), (2, .int x2), (3, .int x3)] []) (k65 : Int32 → Int32 → Int32 → TD → TD → Option (Int32 × (TD) × (TD))) (hk65 : ∀ (x2 : Int32) (x3 : Int32) (x4 : Int32) (D : TD) (D2 : TD), k65 x2 x3 x4 D D2 = some o → AtK X Z rm_L_areAlike cL_areAlike RL 5 0 0 (wB Z A D ++ (wB Z A2 D2)) 65 [(0, .ref A.1), (1, .ref A2.1), (2, .int x2), (3, .int x3), (4, .int x4)] []), ∀ (x3 : Int32) (x4 : Int32) (t0 : Int32) (D : TD) (D2 : TD), g_L_areAlike_98 k57 k65 x3 x4 t0 D D2 = some o → AtK X Z rm_L_areAlike cL_areAlike RL 5 0 0 (wB Z A D ++ (wB Z A2 D2)) 98 [(0, .ref A.1), (1, .ref A2.1), (3, .int x3), (4, .int x4)] [.int t0] := by
    intro k57 hk57 k65 hk65 x3 x4 t0 D D2 hg
    unfold g_L_areAlike_98 at hg
    refine r_istore_n (lv' := [(2, .int t0), (0, .ref A.1), (1, .ref A2.1), (3, .int x3), (4, .int x4)]) dL_areAlike_98 (by decide) rfl ?_
    refine r_iinc (v := (x4 + 1)) (lv' := [(4, .int (x4 + 1)), (2, .int t0), (0, .ref A.1), (1, .ref A2.1), (3, .int x3)]) dL_areAlike_99 (k := 4) rfl rfl (by decide) rfl ?_
    refine r_goto (tgt := 65) dL_areAlike_102 (by decide) ?_
    exact r_sub [2, 3, 1, 4, 0] rfl (hk65 t0 x3 (x4 + 1) D D2 hg)
  have J97 : ∀ (k57 : Int32 → Int32 → TD → TD → Option (Int32 × (TD) × (TD))) (hk57 : ∀ (x2 : Int32) (x3 : Int32) (D : TD) (D2 : TD), k57 x2 x3 D D2 = some o → AtK X Z rm_L_areAlike cL_areAlike RL 5 0 0 (wB Z A D ++ (wB Z A2 D2)) 57 [(0, .ref A.1), (1, .ref A2.1), (2, .int x2), (3, .int x3)] []) (k65 : Int32 → Int32 → Int32 → TD → TD → Option (Int32 × (TD) × (TD))) (hk65 : ∀ (x2 : Int32) (x3 : Int32) (x4 : Int32) (D : TD) (D2 : TD), k65 x2 x3 x4 D D2 = some o → AtK X Z rm_L_areAlike cL_areAlike RL 5 0 0 (wB Z A D ++ (wB Z A2 D2)) 65 [(0, .ref A.1), (1, .ref A2.1), (2, .int x2), (3, .int x3), (4, .int x4)] []), ∀ (x3 : Int32) (x4 : Int32) (D : TD) (D2 : TD), g_L_areAlike_97 k57 k65 x3 x4 D D2 = some o → AtK X Z rm_L_areAlike cL_areAlike RL 5 0 0 (wB Z A D ++ (wB Z A2 D2)) 97 [(0, .ref A.1), (1, .ref A2.1), (3, .int x3), (4, .int x4)] [] := by
    intro k57 hk57 k65 hk65 x3 x4 D D2 hg
    unfold g_L_areAlike_97 at hg
    refine r_iconst (v := 0) dL_areAlike_97 kic_0 ?_
    exact r_sub [0, 1, 2, 3] rfl (J98 k57 hk57 k65 hk65 x3 x4 0 D D2 hg)
  have J65 : ∀ (k57 : Int32 → Int32 → TD → TD → Option (Int32 × (TD) × (TD))) (hk57 : ∀ (x2 : Int32) (x3 : Int32) (D : TD) (D2 : TD), k57 x2 x3 D D2 = some o → AtK X Z rm_L_areAlike cL_areAlike RL 5 0 0 (wB Z A D ++ (wB Z A2 D2)) 57 [(0, .ref A.1), (1, .ref A2.1), (2, .int x2), (3, .int x3)] []) (n : Nat), ∀ (x2 : Int32) (x3 : Int32) (x4 : Int32) (D : TD) (D2 : TD), g_L_areAlike_65 k57 n x2 x3 x4 D D2 = some o → AtK X Z rm_L_areAlike cL_areAlike RL 5 0 0 (wB Z A D ++ (wB Z A2 D2)) 65 [(0, .ref A.1), (1, .ref A2.1), (2, .int x2), (3, .int x3), (4, .int x4)] [] := by
    intro k57 hk57 n
    induction n with
    | zero => intro x2 x3 x4 D D2 hg; exact nomatch (show (none : Option _) = some o from hg)
    | succ n ih =>
      intro x2 x3 x4 D D2 hg
      unfold g_L_areAlike_65 at hg
      refine r_iload dL_areAlike_65 4 rfl ?_
      refine r_bipush (v := 22) dL_areAlike_67 kbp_22 ?_
      refine r_icmp_ge (tgt := 105) dL_areAlike_69 (by decide) (fun h69 => ?_) (fun h69 => ?_)
      · replace hg := (if_pos h69).symm.trans hg
        refine r_iinc (v := (x3 + 1)) (lv' := [(3, .int (x3 + 1)), (0, .ref A.1), (1, .ref A2.1), (2, .int x2), (4, .int x4)]) dL_areAlike_105 (k := 3) rfl rfl (by decide) rfl ?_
        refine r_goto (tgt := 57) dL_areAlike_108 (by decide) ?_
        exact r_sub [1, 2, 3, 0] rfl (hk57 x2 (x3 + 1) D D2 hg)
      · replace hg := (if_neg h69).symm.trans hg
        refine r_iload_n dL_areAlike_72 2 rfl ?_
        refine r_if_eq (tgt := 97) dL_areAlike_73 (by decide) (fun h73 => ?_) (fun h73 => ?_)
        · replace hg := (if_pos h73).symm.trans hg
          exact r_sub [0, 1, 3, 4] rfl (J97 k57 hk57 (g_L_areAlike_65 k57 n) ih x3 x4 D D2 hg)
        · replace hg := (if_neg h73).symm.trans hg
          refine r_aload_n dL_areAlike_76 0 rfl ?_
          refine r_iload_n dL_areAlike_77 3 rfl ?_
          refine r_iload dL_areAlike_78 4 rfl ?_
          obtain ⟨o80, e80, hg⟩ := ob hg
          refine r_callO (As := [.int x3, .int x4]) (rest := []) (ws' := wB Z A D ++ (wB Z A2 D2)) (cO_word Z A D x3 x4 o80 e80) (pk_O0 (B := wB Z A2 D2)) rfl qw_504 mv_X6_word ⟨Nat.le_of_ble_eq_true rfl, Nat.le_of_ble_eq_true rfl⟩ ⟨rfl, rfl⟩ ⟨Nat.zero_le _, Nat.zero_le _⟩ rfl (Nat.le_of_ble_eq_true rfl) rfl dL_areAlike_80 ?_
          refine r_aload_n dL_areAlike_83 1 rfl ?_
          refine r_iload_n dL_areAlike_84 3 rfl ?_
          refine r_iload dL_areAlike_85 4 rfl ?_
          obtain ⟨o87, e87, hg⟩ := ob hg
          refine r_callO (As := [.int x3, .int x4]) (rest := [.int o80]) (ws' := wB Z A D ++ (wB Z A2 D2)) (cO_word Z A2 D2 x3 x4 o87 e87) (pk_O1 (B := wB Z A D)) rfl qw_504 mv_X6_word ⟨Nat.le_of_ble_eq_true rfl, Nat.le_of_ble_eq_true rfl⟩ ⟨rfl, rfl⟩ ⟨Nat.zero_le _, Nat.zero_le _⟩ rfl (Nat.le_of_ble_eq_true rfl) rfl dL_areAlike_87 ?_
          refine r_icmp_ne (tgt := 97) dL_areAlike_90 (by decide) (fun h90 => ?_) (fun h90 => ?_)
          · replace hg := (if_neg h90).symm.trans hg
            exact r_sub [0, 1, 3, 4] rfl (J97 k57 hk57 (g_L_areAlike_65 k57 n) ih x3 x4 D D2 hg)
          · replace hg := (if_pos h90).symm.trans hg
            refine r_iconst (v := 1) dL_areAlike_93 kic_1 ?_
            refine r_goto (tgt := 98) dL_areAlike_94 (by decide) ?_
            exact r_sub [0, 1, 3, 4] rfl (J98 k57 hk57 (g_L_areAlike_65 k57 n) ih x3 x4 1 D D2 hg)
  have J57 : ∀ (n : Nat), ∀ (x2 : Int32) (x3 : Int32) (D : TD) (D2 : TD), g_L_areAlike_57 n x2 x3 D D2 = some o → AtK X Z rm_L_areAlike cL_areAlike RL 5 0 0 (wB Z A D ++ (wB Z A2 D2)) 57 [(0, .ref A.1), (1, .ref A2.1), (2, .int x2), (3, .int x3)] [] := by
    intro  n
    induction n with
    | zero => intro x2 x3 D D2 hg; exact nomatch (show (none : Option _) = some o from hg)
    | succ n ih =>
      intro x2 x3 D D2 hg
      unfold g_L_areAlike_57 at hg
      refine r_iload_n dL_areAlike_57 3 rfl ?_
      refine r_iconst (v := 5) dL_areAlike_58 kic_5 ?_
      refine r_icmp_ge (tgt := 111) dL_areAlike_59 (by decide) (fun h59 => ?_) (fun h59 => ?_)
      · replace hg := (if_pos h59).symm.trans hg
        refine r_iload_n dL_areAlike_111 2 rfl ?_
        obtain ⟨hz112, hg⟩ := og hg
        exact r_bret (hE _ (Option.some.inj hg)) (Decidable.not_not.mp hz112) dL_areAlike_112
      · replace hg := (if_neg h59).symm.trans hg
        refine r_iconst (v := 0) dL_areAlike_62 kic_0 ?_
        refine r_istore (lv' := [(4, .int 0), (0, .ref A.1), (1, .ref A2.1), (2, .int x2), (3, .int x3)]) dL_areAlike_63 (by decide) rfl ?_
        exact r_sub [1, 2, 3, 4, 0] rfl (J65 (g_L_areAlike_57 n) ih 30 x2 x3 0 D D2 hg)
  have J48 : ∀ (k20 : Int32 → Int32 → TD → TD → Option (Int32 × (TD) × (TD))) (hk20 : ∀ (x2 : Int32) (x3 : Int32) (D : TD) (D2 : TD), k20 x2 x3 D D2 = some o → AtK X Z rm_L_areAlike cL_areAlike RL 5 0 0 (wB Z A D ++ (wB Z A2 D2)) 20 [(0, .ref A.1), (1, .ref A2.1), (2, .int x2), (3, .int x3)] []), ∀ (x3 : Int32) (t0 : Int32) (D : TD) (D2 : TD), g_L_areAlike_48 k20 x3 t0 D D2 = some o → AtK X Z rm_L_areAlike cL_areAlike RL 5 0 0 (wB Z A D ++ (wB Z A2 D2)) 48 [(0, .ref A.1), (1, .ref A2.1), (3, .int x3)] [.int t0] := by
    intro k20 hk20 x3 t0 D D2 hg
    unfold g_L_areAlike_48 at hg
    refine r_istore_n (lv' := [(2, .int t0), (0, .ref A.1), (1, .ref A2.1), (3, .int x3)]) dL_areAlike_48 (by decide) rfl ?_
    refine r_iinc (v := (x3 + 1)) (lv' := [(3, .int (x3 + 1)), (2, .int t0), (0, .ref A.1), (1, .ref A2.1)]) dL_areAlike_49 (k := 3) rfl rfl (by decide) rfl ?_
    refine r_goto (tgt := 20) dL_areAlike_52 (by decide) ?_
    exact r_sub [2, 3, 1, 0] rfl (hk20 t0 (x3 + 1) D D2 hg)
  have J47 : ∀ (k20 : Int32 → Int32 → TD → TD → Option (Int32 × (TD) × (TD))) (hk20 : ∀ (x2 : Int32) (x3 : Int32) (D : TD) (D2 : TD), k20 x2 x3 D D2 = some o → AtK X Z rm_L_areAlike cL_areAlike RL 5 0 0 (wB Z A D ++ (wB Z A2 D2)) 20 [(0, .ref A.1), (1, .ref A2.1), (2, .int x2), (3, .int x3)] []), ∀ (x3 : Int32) (D : TD) (D2 : TD), g_L_areAlike_47 k20 x3 D D2 = some o → AtK X Z rm_L_areAlike cL_areAlike RL 5 0 0 (wB Z A D ++ (wB Z A2 D2)) 47 [(0, .ref A.1), (1, .ref A2.1), (3, .int x3)] [] := by
    intro k20 hk20 x3 D D2 hg
    unfold g_L_areAlike_47 at hg
    refine r_iconst (v := 0) dL_areAlike_47 kic_0 ?_
    exact r_sub [0, 1, 2] rfl (J48 k20 hk20 x3 0 D D2 hg)
  have J20 : ∀ (n : Nat), ∀ (x2 : Int32) (x3 : Int32) (D : TD) (D2 : TD), g_L_areAlike_20 n x2 x3 D D2 = some o → AtK X Z rm_L_areAlike cL_areAlike RL 5 0 0 (wB Z A D ++ (wB Z A2 D2)) 20 [(0, .ref A.1), (1, .ref A2.1), (2, .int x2), (3, .int x3)] [] := by
    intro  n
    induction n with
    | zero => intro x2 x3 D D2 hg; exact nomatch (show (none : Option _) = some o from hg)
    | succ n ih =>
      intro x2 x3 D D2 hg
      unfold g_L_areAlike_20 at hg
      refine r_iload_n dL_areAlike_20 3 rfl ?_
      refine r_bipush (v := 12) dL_areAlike_21 kbp_12 ?_
      refine r_icmp_ge (tgt := 55) dL_areAlike_23 (by decide) (fun h23 => ?_) (fun h23 => ?_)
      · replace hg := (if_pos h23).symm.trans hg
        refine r_iconst (v := 0) dL_areAlike_55 kic_0 ?_
        refine r_istore_n (lv' := [(3, .int 0), (0, .ref A.1), (1, .ref A2.1), (2, .int x2)]) dL_areAlike_56 (by decide) rfl ?_
        exact r_sub [1, 2, 3, 0] rfl (J57 30 x2 0 D D2 hg)
      · replace hg := (if_neg h23).symm.trans hg
        refine r_iload_n dL_areAlike_26 2 rfl ?_
        refine r_if_eq (tgt := 47) dL_areAlike_27 (by decide) (fun h27 => ?_) (fun h27 => ?_)
        · replace hg := (if_pos h27).symm.trans hg
          exact r_sub [0, 1, 3] rfl (J47 (g_L_areAlike_20 n) ih x3 D D2 hg)
        · replace hg := (if_neg h27).symm.trans hg
          refine r_aload_n dL_areAlike_30 0 rfl ?_
          refine r_iload_n dL_areAlike_31 3 rfl ?_
          obtain ⟨o32, e32, hg⟩ := ob hg
          refine r_callO (As := [.int x3]) (rest := []) (ws' := wB Z A D ++ (wB Z A2 D2)) (cO_told Z A D x3 o32 e32) (pk_O0 (B := wB Z A2 D2)) rfl qw_191 mv_X6_told ⟨Nat.le_of_ble_eq_true rfl, Nat.le_of_ble_eq_true rfl⟩ ⟨rfl, rfl⟩ ⟨Nat.zero_le _, Nat.zero_le _⟩ rfl (Nat.le_of_ble_eq_true rfl) rfl dL_areAlike_32 ?_
          refine r_aload_n dL_areAlike_35 1 rfl ?_
          refine r_iload_n dL_areAlike_36 3 rfl ?_
          obtain ⟨o37, e37, hg⟩ := ob hg
          refine r_callO (As := [.int x3]) (rest := [.int o32]) (ws' := wB Z A D ++ (wB Z A2 D2)) (cO_told Z A2 D2 x3 o37 e37) (pk_O1 (B := wB Z A D)) rfl qw_191 mv_X6_told ⟨Nat.le_of_ble_eq_true rfl, Nat.le_of_ble_eq_true rfl⟩ ⟨rfl, rfl⟩ ⟨Nat.zero_le _, Nat.zero_le _⟩ rfl (Nat.le_of_ble_eq_true rfl) rfl dL_areAlike_37 ?_
          refine r_icmp_ne (tgt := 47) dL_areAlike_40 (by decide) (fun h40 => ?_) (fun h40 => ?_)
          · replace hg := (if_neg h40).symm.trans hg
            exact r_sub [0, 1, 3] rfl (J47 (g_L_areAlike_20 n) ih x3 D D2 hg)
          · replace hg := (if_pos h40).symm.trans hg
            refine r_iconst (v := 1) dL_areAlike_43 kic_1 ?_
            refine r_goto (tgt := 48) dL_areAlike_44 (by decide) ?_
            exact r_sub [0, 1, 3] rfl (J48 (g_L_areAlike_20 n) ih x3 1 D D2 hg)
  have J17 : ∀ (t0 : Int32) (D : TD) (D2 : TD), g_L_areAlike_17 t0 D D2 = some o → AtK X Z rm_L_areAlike cL_areAlike RL 5 0 0 (wB Z A D ++ (wB Z A2 D2)) 17 [(0, .ref A.1), (1, .ref A2.1)] [.int t0] := by
    intro t0 D D2 hg
    unfold g_L_areAlike_17 at hg
    refine r_istore_n (lv' := [(2, .int t0), (0, .ref A.1), (1, .ref A2.1)]) dL_areAlike_17 (by decide) rfl ?_
    refine r_iconst (v := 0) dL_areAlike_18 kic_0 ?_
    refine r_istore_n (lv' := [(3, .int 0), (2, .int t0), (0, .ref A.1), (1, .ref A2.1)]) dL_areAlike_19 (by decide) rfl ?_
    exact r_sub [2, 3, 1, 0] rfl (J20 30 t0 0 D D2 hg)
  unfold g_L_areAlike at hg
  show AtK X Z rm_L_areAlike cL_areAlike RL 5 0 0 (wB Z A D ++ (wB Z A2 D2)) 0 [(0, .ref A.1), (1, .ref A2.1)] []
  refine r_aload_n dL_areAlike_0 0 rfl ?_
  obtain ⟨o1, e1, hg⟩ := ob hg
  refine r_callO (As := []) (rest := []) (ws' := wB Z A o1.2 ++ (wB Z A2 D2)) (cO_mean Z A D o1 e1) (pk_O0 (B := wB Z A2 D2)) rfl qw_548 mv_X6_mean ⟨Nat.le_of_ble_eq_true rfl, Nat.le_of_ble_eq_true rfl⟩ ⟨rfl, rfl⟩ ⟨Nat.zero_le _, Nat.zero_le _⟩ rfl (Nat.le_of_ble_eq_true rfl) rfl dL_areAlike_1 ?_
  refine r_aload_n dL_areAlike_4 1 rfl ?_
  obtain ⟨o5, e5, hg⟩ := ob hg
  refine r_callO (As := []) (rest := [.float o1.1]) (ws' := wB Z A o1.2 ++ (wB Z A2 o5.2)) (cO_mean Z A2 D2 o5 e5) (pk_O1 (B := wB Z A o1.2)) rfl qw_548 mv_X6_mean ⟨Nat.le_of_ble_eq_true rfl, Nat.le_of_ble_eq_true rfl⟩ ⟨rfl, rfl⟩ ⟨Nat.zero_le _, Nat.zero_le _⟩ rfl (Nat.le_of_ble_eq_true rfl) rfl dL_areAlike_5 ?_
  refine r_fcmp dL_areAlike_8 ?_
  refine r_if_ne (tgt := 16) dL_areAlike_9 (by decide) (fun h9 => ?_) (fun h9 => ?_)
  · replace hg := (if_neg h9).symm.trans hg
    refine r_iconst (v := 0) dL_areAlike_16 kic_0 ?_
    exact r_sub [0, 1] rfl (J17 0 o1.2 o5.2 hg)
  · replace hg := (if_pos h9).symm.trans hg
    refine r_iconst (v := 1) dL_areAlike_12 kic_1 ?_
    refine r_goto (tgt := 17) dL_areAlike_13 (by decide) ?_
    exact r_sub [0, 1] rfl (J17 1 o1.2 o5.2 hg)


-- the cases of the law (laid by wip/gen/law.py)
theorem qw_217 : Cond.methodLink RL 13 yX6_sell ∈ lw_tb := lw_up (List.mem_of_getElem? (i := 217) (by decide +kernel)) rfl
theorem qw_220 : Cond.code yX6_sell cX6_sell 3 (some .int) ∈ lw_tb := lw_up (List.mem_of_getElem? (i := 220) (by decide +kernel)) rfl
theorem qw_218 : Cond.instanceMethod yX6_sell ∈ lw_tb := lw_up (List.mem_of_getElem? (i := 218) (by decide +kernel)) rfl
theorem qw_219 : Cond.selects RX6 yX6_sell yX6_sell ∈ lw_tb := lw_up (List.mem_of_getElem? (i := 219) (by decide +kernel)) rfl
theorem qw_618 : Cond.methodLink RL 17 yX7_sell ∈ lw_tb := lw_up (List.mem_of_getElem? (i := 618) (by decide +kernel)) rfl
theorem qw_621 : Cond.code yX7_sell cX7_sell 3 (some .int) ∈ lw_tb := lw_up (List.mem_of_getElem? (i := 621) (by decide +kernel)) rfl
theorem qw_619 : Cond.instanceMethod yX7_sell ∈ lw_tb := lw_up (List.mem_of_getElem? (i := 619) (by decide +kernel)) rfl
theorem qw_620 : Cond.selects RX7 yX7_sell yX7_sell ∈ lw_tb := lw_up (List.mem_of_getElem? (i := 620) (by decide +kernel)) rfl
theorem qw_315 : Cond.methodLink RL 18 yX6_cancel ∈ lw_tb := lw_up (List.mem_of_getElem? (i := 315) (by decide +kernel)) rfl
theorem qw_318 : Cond.code yX6_cancel cX6_cancel 1 (some .int) ∈ lw_tb := lw_up (List.mem_of_getElem? (i := 318) (by decide +kernel)) rfl
theorem qw_316 : Cond.instanceMethod yX6_cancel ∈ lw_tb := lw_up (List.mem_of_getElem? (i := 316) (by decide +kernel)) rfl
theorem qw_317 : Cond.selects RX6 yX6_cancel yX6_cancel ∈ lw_tb := lw_up (List.mem_of_getElem? (i := 317) (by decide +kernel)) rfl
theorem qw_678 : Cond.methodLink RL 22 yX7_cancel ∈ lw_tb := lw_up (List.mem_of_getElem? (i := 678) (by decide +kernel)) rfl
theorem qw_681 : Cond.code yX7_cancel cX7_cancel 4 (some .int) ∈ lw_tb := lw_up (List.mem_of_getElem? (i := 681) (by decide +kernel)) rfl
theorem qw_679 : Cond.instanceMethod yX7_cancel ∈ lw_tb := lw_up (List.mem_of_getElem? (i := 679) (by decide +kernel)) rfl
theorem qw_680 : Cond.selects RX7 yX7_cancel yX7_cancel ∈ lw_tb := lw_up (List.mem_of_getElem? (i := 680) (by decide +kernel)) rfl
theorem qw_342 : Cond.methodLink RL 23 yX6_close ∈ lw_tb := lw_up (List.mem_of_getElem? (i := 342) (by decide +kernel)) rfl
theorem qw_345 : Cond.code yX6_close cX6_close 1 (some .int) ∈ lw_tb := lw_up (List.mem_of_getElem? (i := 345) (by decide +kernel)) rfl
theorem qw_343 : Cond.instanceMethod yX6_close ∈ lw_tb := lw_up (List.mem_of_getElem? (i := 343) (by decide +kernel)) rfl
theorem qw_344 : Cond.selects RX6 yX6_close yX6_close ∈ lw_tb := lw_up (List.mem_of_getElem? (i := 344) (by decide +kernel)) rfl
theorem qw_694 : Cond.methodLink RL 26 yX7_close ∈ lw_tb := lw_up (List.mem_of_getElem? (i := 694) (by decide +kernel)) rfl
theorem qw_697 : Cond.code yX7_close cX7_close 2 (some .int) ∈ lw_tb := lw_up (List.mem_of_getElem? (i := 697) (by decide +kernel)) rfl
theorem qw_695 : Cond.instanceMethod yX7_close ∈ lw_tb := lw_up (List.mem_of_getElem? (i := 695) (by decide +kernel)) rfl
theorem qw_696 : Cond.selects RX7 yX7_close yX7_close ∈ lw_tb := lw_up (List.mem_of_getElem? (i := 696) (by decide +kernel)) rfl
theorem qw_350 : Cond.methodLink RL 27 yX6_load ∈ lw_tb := lw_up (List.mem_of_getElem? (i := 350) (by decide +kernel)) rfl
theorem qw_353 : Cond.code yX6_load cX6_load 3 (some .int) ∈ lw_tb := lw_up (List.mem_of_getElem? (i := 353) (by decide +kernel)) rfl
theorem qw_351 : Cond.instanceMethod yX6_load ∈ lw_tb := lw_up (List.mem_of_getElem? (i := 351) (by decide +kernel)) rfl
theorem qw_352 : Cond.selects RX6 yX6_load yX6_load ∈ lw_tb := lw_up (List.mem_of_getElem? (i := 352) (by decide +kernel)) rfl
theorem qw_698 : Cond.methodLink RL 31 yX7_load ∈ lw_tb := lw_up (List.mem_of_getElem? (i := 698) (by decide +kernel)) rfl
theorem qw_701 : Cond.code yX7_load cX7_load 4 (some .int) ∈ lw_tb := lw_up (List.mem_of_getElem? (i := 701) (by decide +kernel)) rfl
theorem qw_699 : Cond.instanceMethod yX7_load ∈ lw_tb := lw_up (List.mem_of_getElem? (i := 699) (by decide +kernel)) rfl
theorem qw_700 : Cond.selects RX7 yX7_load yX7_load ∈ lw_tb := lw_up (List.mem_of_getElem? (i := 700) (by decide +kernel)) rfl
theorem qw_359 : Cond.methodLink RL 32 yX6_setClock ∈ lw_tb := lw_up (List.mem_of_getElem? (i := 359) (by decide +kernel)) rfl
theorem qw_362 : Cond.code yX6_setClock cX6_setClock 2 (some .int) ∈ lw_tb := lw_up (List.mem_of_getElem? (i := 362) (by decide +kernel)) rfl
theorem qw_360 : Cond.instanceMethod yX6_setClock ∈ lw_tb := lw_up (List.mem_of_getElem? (i := 360) (by decide +kernel)) rfl
theorem qw_361 : Cond.selects RX6 yX6_setClock yX6_setClock ∈ lw_tb := lw_up (List.mem_of_getElem? (i := 361) (by decide +kernel)) rfl
theorem qw_703 : Cond.methodLink RL 35 yX7_setClock ∈ lw_tb := lw_up (List.mem_of_getElem? (i := 703) (by decide +kernel)) rfl
theorem qw_706 : Cond.code yX7_setClock cX7_setClock 3 (some .int) ∈ lw_tb := lw_up (List.mem_of_getElem? (i := 706) (by decide +kernel)) rfl
theorem qw_704 : Cond.instanceMethod yX7_setClock ∈ lw_tb := lw_up (List.mem_of_getElem? (i := 704) (by decide +kernel)) rfl
theorem qw_705 : Cond.selects RX7 yX7_setClock yX7_setClock ∈ lw_tb := lw_up (List.mem_of_getElem? (i := 705) (by decide +kernel)) rfl
theorem qw_371 : Cond.methodLink RL 36 yX6_pass ∈ lw_tb := lw_up (List.mem_of_getElem? (i := 371) (by decide +kernel)) rfl
theorem qw_374 : Cond.code yX6_pass cX6_pass 2 (some .int) ∈ lw_tb := lw_up (List.mem_of_getElem? (i := 374) (by decide +kernel)) rfl
theorem qw_372 : Cond.instanceMethod yX6_pass ∈ lw_tb := lw_up (List.mem_of_getElem? (i := 372) (by decide +kernel)) rfl
theorem qw_373 : Cond.selects RX6 yX6_pass yX6_pass ∈ lw_tb := lw_up (List.mem_of_getElem? (i := 373) (by decide +kernel)) rfl
theorem qw_707 : Cond.methodLink RL 39 yX7_pass ∈ lw_tb := lw_up (List.mem_of_getElem? (i := 707) (by decide +kernel)) rfl
theorem qw_710 : Cond.code yX7_pass cX7_pass 2 (some .int) ∈ lw_tb := lw_up (List.mem_of_getElem? (i := 710) (by decide +kernel)) rfl
theorem qw_708 : Cond.instanceMethod yX7_pass ∈ lw_tb := lw_up (List.mem_of_getElem? (i := 708) (by decide +kernel)) rfl
theorem qw_709 : Cond.selects RX7 yX7_pass yX7_pass ∈ lw_tb := lw_up (List.mem_of_getElem? (i := 709) (by decide +kernel)) rfl
theorem qw_378 : Cond.methodLink RL 40 yX6_setPrice ∈ lw_tb := lw_up (List.mem_of_getElem? (i := 378) (by decide +kernel)) rfl
theorem qw_381 : Cond.code yX6_setPrice cX6_setPrice 4 (some .int) ∈ lw_tb := lw_up (List.mem_of_getElem? (i := 381) (by decide +kernel)) rfl
theorem qw_379 : Cond.instanceMethod yX6_setPrice ∈ lw_tb := lw_up (List.mem_of_getElem? (i := 379) (by decide +kernel)) rfl
theorem qw_380 : Cond.selects RX6 yX6_setPrice yX6_setPrice ∈ lw_tb := lw_up (List.mem_of_getElem? (i := 380) (by decide +kernel)) rfl
theorem qw_711 : Cond.methodLink RL 43 yX7_setPrice ∈ lw_tb := lw_up (List.mem_of_getElem? (i := 711) (by decide +kernel)) rfl
theorem qw_714 : Cond.code yX7_setPrice cX7_setPrice 4 (some .int) ∈ lw_tb := lw_up (List.mem_of_getElem? (i := 714) (by decide +kernel)) rfl
theorem qw_712 : Cond.instanceMethod yX7_setPrice ∈ lw_tb := lw_up (List.mem_of_getElem? (i := 712) (by decide +kernel)) rfl
theorem qw_713 : Cond.selects RX7 yX7_setPrice yX7_setPrice ∈ lw_tb := lw_up (List.mem_of_getElem? (i := 713) (by decide +kernel)) rfl
theorem qw_388 : Cond.methodLink RL 44 yX6_cut ∈ lw_tb := lw_up (List.mem_of_getElem? (i := 388) (by decide +kernel)) rfl
theorem qw_391 : Cond.code yX6_cut cX6_cut 3 (some .int) ∈ lw_tb := lw_up (List.mem_of_getElem? (i := 391) (by decide +kernel)) rfl
theorem qw_389 : Cond.instanceMethod yX6_cut ∈ lw_tb := lw_up (List.mem_of_getElem? (i := 389) (by decide +kernel)) rfl
theorem qw_390 : Cond.selects RX6 yX6_cut yX6_cut ∈ lw_tb := lw_up (List.mem_of_getElem? (i := 390) (by decide +kernel)) rfl
theorem qw_715 : Cond.methodLink RL 47 yX7_cut ∈ lw_tb := lw_up (List.mem_of_getElem? (i := 715) (by decide +kernel)) rfl
theorem qw_718 : Cond.code yX7_cut cX7_cut 3 (some .int) ∈ lw_tb := lw_up (List.mem_of_getElem? (i := 718) (by decide +kernel)) rfl
theorem qw_716 : Cond.instanceMethod yX7_cut ∈ lw_tb := lw_up (List.mem_of_getElem? (i := 716) (by decide +kernel)) rfl
theorem qw_717 : Cond.selects RX7 yX7_cut yX7_cut ∈ lw_tb := lw_up (List.mem_of_getElem? (i := 717) (by decide +kernel)) rfl
theorem qw_392 : Cond.methodLink RL 48 yX6_off ∈ lw_tb := lw_up (List.mem_of_getElem? (i := 392) (by decide +kernel)) rfl
theorem qw_395 : Cond.code yX6_off cX6_off 1 (some .int) ∈ lw_tb := lw_up (List.mem_of_getElem? (i := 395) (by decide +kernel)) rfl
theorem qw_393 : Cond.instanceMethod yX6_off ∈ lw_tb := lw_up (List.mem_of_getElem? (i := 393) (by decide +kernel)) rfl
theorem qw_394 : Cond.selects RX6 yX6_off yX6_off ∈ lw_tb := lw_up (List.mem_of_getElem? (i := 394) (by decide +kernel)) rfl
theorem qw_719 : Cond.methodLink RL 51 yX7_off ∈ lw_tb := lw_up (List.mem_of_getElem? (i := 719) (by decide +kernel)) rfl
theorem qw_722 : Cond.code yX7_off cX7_off 1 (some .int) ∈ lw_tb := lw_up (List.mem_of_getElem? (i := 722) (by decide +kernel)) rfl
theorem qw_720 : Cond.instanceMethod yX7_off ∈ lw_tb := lw_up (List.mem_of_getElem? (i := 720) (by decide +kernel)) rfl
theorem qw_721 : Cond.selects RX7 yX7_off yX7_off ∈ lw_tb := lw_up (List.mem_of_getElem? (i := 721) (by decide +kernel)) rfl
theorem qw_411 : Cond.methodLink RL 52 yX6_start ∈ lw_tb := lw_up (List.mem_of_getElem? (i := 411) (by decide +kernel)) rfl
theorem qw_414 : Cond.code yX6_start cX6_start 1 (some .int) ∈ lw_tb := lw_up (List.mem_of_getElem? (i := 414) (by decide +kernel)) rfl
theorem qw_412 : Cond.instanceMethod yX6_start ∈ lw_tb := lw_up (List.mem_of_getElem? (i := 412) (by decide +kernel)) rfl
theorem qw_413 : Cond.selects RX6 yX6_start yX6_start ∈ lw_tb := lw_up (List.mem_of_getElem? (i := 413) (by decide +kernel)) rfl
theorem qw_739 : Cond.methodLink RL 55 yX7_start ∈ lw_tb := lw_up (List.mem_of_getElem? (i := 739) (by decide +kernel)) rfl
theorem qw_742 : Cond.code yX7_start cX7_start 1 (some .int) ∈ lw_tb := lw_up (List.mem_of_getElem? (i := 742) (by decide +kernel)) rfl
theorem qw_740 : Cond.instanceMethod yX7_start ∈ lw_tb := lw_up (List.mem_of_getElem? (i := 740) (by decide +kernel)) rfl
theorem qw_741 : Cond.selects RX7 yX7_start yX7_start ∈ lw_tb := lw_up (List.mem_of_getElem? (i := 741) (by decide +kernel)) rfl
theorem qw_447 : Cond.methodLink RL 60 yX6_told ∈ lw_tb := lw_up (List.mem_of_getElem? (i := 447) (by decide +kernel)) rfl
theorem qw_450 : Cond.code yX6_told cX6_told 2 (some .int) ∈ lw_tb := lw_up (List.mem_of_getElem? (i := 450) (by decide +kernel)) rfl
theorem qw_448 : Cond.instanceMethod yX6_told ∈ lw_tb := lw_up (List.mem_of_getElem? (i := 448) (by decide +kernel)) rfl
theorem qw_449 : Cond.selects RX6 yX6_told yX6_told ∈ lw_tb := lw_up (List.mem_of_getElem? (i := 449) (by decide +kernel)) rfl
theorem qw_755 : Cond.methodLink RL 63 yX7_told ∈ lw_tb := lw_up (List.mem_of_getElem? (i := 755) (by decide +kernel)) rfl
theorem qw_758 : Cond.code yX7_told cX7_told 2 (some .int) ∈ lw_tb := lw_up (List.mem_of_getElem? (i := 758) (by decide +kernel)) rfl
theorem qw_756 : Cond.instanceMethod yX7_told ∈ lw_tb := lw_up (List.mem_of_getElem? (i := 756) (by decide +kernel)) rfl
theorem qw_757 : Cond.selects RX7 yX7_told yX7_told ∈ lw_tb := lw_up (List.mem_of_getElem? (i := 757) (by decide +kernel)) rfl
theorem qw_455 : Cond.methodLink RL 64 yX6_price ∈ lw_tb := lw_up (List.mem_of_getElem? (i := 455) (by decide +kernel)) rfl
theorem qw_458 : Cond.code yX6_price cX6_price 2 (some .int) ∈ lw_tb := lw_up (List.mem_of_getElem? (i := 458) (by decide +kernel)) rfl
theorem qw_456 : Cond.instanceMethod yX6_price ∈ lw_tb := lw_up (List.mem_of_getElem? (i := 456) (by decide +kernel)) rfl
theorem qw_457 : Cond.selects RX6 yX6_price yX6_price ∈ lw_tb := lw_up (List.mem_of_getElem? (i := 457) (by decide +kernel)) rfl
theorem qw_759 : Cond.methodLink RL 67 yX7_price ∈ lw_tb := lw_up (List.mem_of_getElem? (i := 759) (by decide +kernel)) rfl
theorem qw_762 : Cond.code yX7_price cX7_price 2 (some .int) ∈ lw_tb := lw_up (List.mem_of_getElem? (i := 762) (by decide +kernel)) rfl
theorem qw_760 : Cond.instanceMethod yX7_price ∈ lw_tb := lw_up (List.mem_of_getElem? (i := 760) (by decide +kernel)) rfl
theorem qw_761 : Cond.selects RX7 yX7_price yX7_price ∈ lw_tb := lw_up (List.mem_of_getElem? (i := 761) (by decide +kernel)) rfl
theorem qw_459 : Cond.methodLink RL 68 yX6_word ∈ lw_tb := lw_up (List.mem_of_getElem? (i := 459) (by decide +kernel)) rfl
theorem qw_462 : Cond.code yX6_word cX6_word 3 (some .int) ∈ lw_tb := lw_up (List.mem_of_getElem? (i := 462) (by decide +kernel)) rfl
theorem qw_460 : Cond.instanceMethod yX6_word ∈ lw_tb := lw_up (List.mem_of_getElem? (i := 460) (by decide +kernel)) rfl
theorem qw_461 : Cond.selects RX6 yX6_word yX6_word ∈ lw_tb := lw_up (List.mem_of_getElem? (i := 461) (by decide +kernel)) rfl
theorem qw_763 : Cond.methodLink RL 71 yX7_word ∈ lw_tb := lw_up (List.mem_of_getElem? (i := 763) (by decide +kernel)) rfl
theorem qw_766 : Cond.code yX7_word cX7_word 3 (some .int) ∈ lw_tb := lw_up (List.mem_of_getElem? (i := 766) (by decide +kernel)) rfl
theorem qw_764 : Cond.instanceMethod yX7_word ∈ lw_tb := lw_up (List.mem_of_getElem? (i := 764) (by decide +kernel)) rfl
theorem qw_765 : Cond.selects RX7 yX7_word yX7_word ∈ lw_tb := lw_up (List.mem_of_getElem? (i := 765) (by decide +kernel)) rfl
theorem qw_467 : Cond.methodLink RL 72 yX6_block ∈ lw_tb := lw_up (List.mem_of_getElem? (i := 467) (by decide +kernel)) rfl
theorem qw_470 : Cond.code yX6_block cX6_block 4 (some .int) ∈ lw_tb := lw_up (List.mem_of_getElem? (i := 470) (by decide +kernel)) rfl
theorem qw_468 : Cond.instanceMethod yX6_block ∈ lw_tb := lw_up (List.mem_of_getElem? (i := 468) (by decide +kernel)) rfl
theorem qw_469 : Cond.selects RX6 yX6_block yX6_block ∈ lw_tb := lw_up (List.mem_of_getElem? (i := 469) (by decide +kernel)) rfl
theorem qw_770 : Cond.methodLink RL 75 yX7_block ∈ lw_tb := lw_up (List.mem_of_getElem? (i := 770) (by decide +kernel)) rfl
theorem qw_773 : Cond.code yX7_block cX7_block 3 (some .int) ∈ lw_tb := lw_up (List.mem_of_getElem? (i := 773) (by decide +kernel)) rfl
theorem qw_771 : Cond.instanceMethod yX7_block ∈ lw_tb := lw_up (List.mem_of_getElem? (i := 771) (by decide +kernel)) rfl
theorem qw_772 : Cond.selects RX7 yX7_block yX7_block ∈ lw_tb := lw_up (List.mem_of_getElem? (i := 772) (by decide +kernel)) rfl
theorem qw_477 : Cond.methodLink RL 76 yX6_records ∈ lw_tb := lw_up (List.mem_of_getElem? (i := 477) (by decide +kernel)) rfl
theorem qw_480 : Cond.code yX6_records cX6_records 2 (some .int) ∈ lw_tb := lw_up (List.mem_of_getElem? (i := 480) (by decide +kernel)) rfl
theorem qw_478 : Cond.instanceMethod yX6_records ∈ lw_tb := lw_up (List.mem_of_getElem? (i := 478) (by decide +kernel)) rfl
theorem qw_479 : Cond.selects RX6 yX6_records yX6_records ∈ lw_tb := lw_up (List.mem_of_getElem? (i := 479) (by decide +kernel)) rfl
theorem qw_774 : Cond.methodLink RL 79 yX7_records ∈ lw_tb := lw_up (List.mem_of_getElem? (i := 774) (by decide +kernel)) rfl
theorem qw_777 : Cond.code yX7_records cX7_records 2 (some .int) ∈ lw_tb := lw_up (List.mem_of_getElem? (i := 777) (by decide +kernel)) rfl
theorem qw_775 : Cond.instanceMethod yX7_records ∈ lw_tb := lw_up (List.mem_of_getElem? (i := 775) (by decide +kernel)) rfl
theorem qw_776 : Cond.selects RX7 yX7_records yX7_records ∈ lw_tb := lw_up (List.mem_of_getElem? (i := 776) (by decide +kernel)) rfl
theorem qw_505 : Cond.methodLink RL 80 yX6_record ∈ lw_tb := lw_up (List.mem_of_getElem? (i := 505) (by decide +kernel)) rfl
theorem qw_508 : Cond.code yX6_record cX6_record 3 (some .int) ∈ lw_tb := lw_up (List.mem_of_getElem? (i := 508) (by decide +kernel)) rfl
theorem qw_506 : Cond.instanceMethod yX6_record ∈ lw_tb := lw_up (List.mem_of_getElem? (i := 506) (by decide +kernel)) rfl
theorem qw_507 : Cond.selects RX6 yX6_record yX6_record ∈ lw_tb := lw_up (List.mem_of_getElem? (i := 507) (by decide +kernel)) rfl
theorem qw_778 : Cond.methodLink RL 83 yX7_record ∈ lw_tb := lw_up (List.mem_of_getElem? (i := 778) (by decide +kernel)) rfl
theorem qw_781 : Cond.code yX7_record cX7_record 3 (some .int) ∈ lw_tb := lw_up (List.mem_of_getElem? (i := 781) (by decide +kernel)) rfl
theorem qw_779 : Cond.instanceMethod yX7_record ∈ lw_tb := lw_up (List.mem_of_getElem? (i := 779) (by decide +kernel)) rfl
theorem qw_780 : Cond.selects RX7 yX7_record yX7_record ∈ lw_tb := lw_up (List.mem_of_getElem? (i := 780) (by decide +kernel)) rfl
theorem qw_510 : Cond.methodLink RL 84 yX6_takings ∈ lw_tb := lw_up (List.mem_of_getElem? (i := 510) (by decide +kernel)) rfl
theorem qw_513 : Cond.code yX6_takings cX6_takings 3 (some .int) ∈ lw_tb := lw_up (List.mem_of_getElem? (i := 513) (by decide +kernel)) rfl
theorem qw_511 : Cond.instanceMethod yX6_takings ∈ lw_tb := lw_up (List.mem_of_getElem? (i := 511) (by decide +kernel)) rfl
theorem qw_512 : Cond.selects RX6 yX6_takings yX6_takings ∈ lw_tb := lw_up (List.mem_of_getElem? (i := 512) (by decide +kernel)) rfl
theorem qw_794 : Cond.methodLink RL 87 yX7_takings ∈ lw_tb := lw_up (List.mem_of_getElem? (i := 794) (by decide +kernel)) rfl
theorem qw_797 : Cond.code yX7_takings cX7_takings 6 (some .int) ∈ lw_tb := lw_up (List.mem_of_getElem? (i := 797) (by decide +kernel)) rfl
theorem qw_795 : Cond.instanceMethod yX7_takings ∈ lw_tb := lw_up (List.mem_of_getElem? (i := 795) (by decide +kernel)) rfl
theorem qw_796 : Cond.selects RX7 yX7_takings yX7_takings ∈ lw_tb := lw_up (List.mem_of_getElem? (i := 796) (by decide +kernel)) rfl
theorem qw_522 : Cond.methodLink RL 93 yX6_times ∈ lw_tb := lw_up (List.mem_of_getElem? (i := 522) (by decide +kernel)) rfl
theorem qw_525 : Cond.code yX6_times cX6_times 2 (some .int) ∈ lw_tb := lw_up (List.mem_of_getElem? (i := 525) (by decide +kernel)) rfl
theorem qw_523 : Cond.instanceMethod yX6_times ∈ lw_tb := lw_up (List.mem_of_getElem? (i := 523) (by decide +kernel)) rfl
theorem qw_524 : Cond.selects RX6 yX6_times yX6_times ∈ lw_tb := lw_up (List.mem_of_getElem? (i := 524) (by decide +kernel)) rfl
theorem qw_802 : Cond.methodLink RL 96 yX7_times ∈ lw_tb := lw_up (List.mem_of_getElem? (i := 802) (by decide +kernel)) rfl
theorem qw_805 : Cond.code yX7_times cX7_times 7 (some .int) ∈ lw_tb := lw_up (List.mem_of_getElem? (i := 805) (by decide +kernel)) rfl
theorem qw_803 : Cond.instanceMethod yX7_times ∈ lw_tb := lw_up (List.mem_of_getElem? (i := 803) (by decide +kernel)) rfl
theorem qw_804 : Cond.selects RX7 yX7_times yX7_times ∈ lw_tb := lw_up (List.mem_of_getElem? (i := 804) (by decide +kernel)) rfl
theorem qw_545 : Cond.methodLink RL 97 yX6_operations ∈ lw_tb := lw_up (List.mem_of_getElem? (i := 545) (by decide +kernel)) rfl
theorem qw_548 : Cond.code yX6_operations cX6_operations 3 (some .int) ∈ lw_tb := lw_up (List.mem_of_getElem? (i := 548) (by decide +kernel)) rfl
theorem qw_546 : Cond.instanceMethod yX6_operations ∈ lw_tb := lw_up (List.mem_of_getElem? (i := 546) (by decide +kernel)) rfl
theorem qw_547 : Cond.selects RX6 yX6_operations yX6_operations ∈ lw_tb := lw_up (List.mem_of_getElem? (i := 547) (by decide +kernel)) rfl
theorem qw_806 : Cond.methodLink RL 100 yX7_operations ∈ lw_tb := lw_up (List.mem_of_getElem? (i := 806) (by decide +kernel)) rfl
theorem qw_809 : Cond.code yX7_operations cX7_operations 6 (some .int) ∈ lw_tb := lw_up (List.mem_of_getElem? (i := 809) (by decide +kernel)) rfl
theorem qw_807 : Cond.instanceMethod yX7_operations ∈ lw_tb := lw_up (List.mem_of_getElem? (i := 807) (by decide +kernel)) rfl
theorem qw_808 : Cond.selects RX7 yX7_operations yX7_operations ∈ lw_tb := lw_up (List.mem_of_getElem? (i := 808) (by decide +kernel)) rfl
theorem qw_554 : Cond.methodLink RL 101 yX6_after ∈ lw_tb := lw_up (List.mem_of_getElem? (i := 554) (by decide +kernel)) rfl
theorem qw_557 : Cond.code yX6_after cX6_after 5 (some .int) ∈ lw_tb := lw_up (List.mem_of_getElem? (i := 557) (by decide +kernel)) rfl
theorem qw_555 : Cond.instanceMethod yX6_after ∈ lw_tb := lw_up (List.mem_of_getElem? (i := 555) (by decide +kernel)) rfl
theorem qw_556 : Cond.selects RX6 yX6_after yX6_after ∈ lw_tb := lw_up (List.mem_of_getElem? (i := 556) (by decide +kernel)) rfl
theorem qw_818 : Cond.methodLink RL 105 yX7_after ∈ lw_tb := lw_up (List.mem_of_getElem? (i := 818) (by decide +kernel)) rfl
theorem qw_821 : Cond.code yX7_after cX7_after 7 (some .int) ∈ lw_tb := lw_up (List.mem_of_getElem? (i := 821) (by decide +kernel)) rfl
theorem qw_819 : Cond.instanceMethod yX7_after ∈ lw_tb := lw_up (List.mem_of_getElem? (i := 819) (by decide +kernel)) rfl
theorem qw_820 : Cond.selects RX7 yX7_after yX7_after ∈ lw_tb := lw_up (List.mem_of_getElem? (i := 820) (by decide +kernel)) rfl
theorem qw_558 : Cond.methodLink RL 106 yX6_needed ∈ lw_tb := lw_up (List.mem_of_getElem? (i := 558) (by decide +kernel)) rfl
theorem qw_561 : Cond.code yX6_needed cX6_needed 3 (some .int) ∈ lw_tb := lw_up (List.mem_of_getElem? (i := 561) (by decide +kernel)) rfl
theorem qw_559 : Cond.instanceMethod yX6_needed ∈ lw_tb := lw_up (List.mem_of_getElem? (i := 559) (by decide +kernel)) rfl
theorem qw_560 : Cond.selects RX6 yX6_needed yX6_needed ∈ lw_tb := lw_up (List.mem_of_getElem? (i := 560) (by decide +kernel)) rfl
theorem qw_822 : Cond.methodLink RL 109 yX7_needed ∈ lw_tb := lw_up (List.mem_of_getElem? (i := 822) (by decide +kernel)) rfl
theorem qw_825 : Cond.code yX7_needed cX7_needed 3 (some .int) ∈ lw_tb := lw_up (List.mem_of_getElem? (i := 825) (by decide +kernel)) rfl
theorem qw_823 : Cond.instanceMethod yX7_needed ∈ lw_tb := lw_up (List.mem_of_getElem? (i := 823) (by decide +kernel)) rfl
theorem qw_824 : Cond.selects RX7 yX7_needed yX7_needed ∈ lw_tb := lw_up (List.mem_of_getElem? (i := 824) (by decide +kernel)) rfl
theorem qw_562 : Cond.methodLink RL 110 yX6_keep ∈ lw_tb := lw_up (List.mem_of_getElem? (i := 562) (by decide +kernel)) rfl
theorem qw_565 : Cond.code yX6_keep cX6_keep 2 (some .int) ∈ lw_tb := lw_up (List.mem_of_getElem? (i := 565) (by decide +kernel)) rfl
theorem qw_563 : Cond.instanceMethod yX6_keep ∈ lw_tb := lw_up (List.mem_of_getElem? (i := 563) (by decide +kernel)) rfl
theorem qw_564 : Cond.selects RX6 yX6_keep yX6_keep ∈ lw_tb := lw_up (List.mem_of_getElem? (i := 564) (by decide +kernel)) rfl
theorem qw_826 : Cond.methodLink RL 113 yX7_keep_ ∈ lw_tb := lw_up (List.mem_of_getElem? (i := 826) (by decide +kernel)) rfl
theorem qw_829 : Cond.code yX7_keep_ cX7_keep_ 3 (some .int) ∈ lw_tb := lw_up (List.mem_of_getElem? (i := 829) (by decide +kernel)) rfl
theorem qw_827 : Cond.instanceMethod yX7_keep_ ∈ lw_tb := lw_up (List.mem_of_getElem? (i := 827) (by decide +kernel)) rfl
theorem qw_828 : Cond.selects RX7 yX7_keep_ yX7_keep_ ∈ lw_tb := lw_up (List.mem_of_getElem? (i := 828) (by decide +kernel)) rfl
theorem qw_575 : Cond.methodLink RL 114 yX6_back ∈ lw_tb := lw_up (List.mem_of_getElem? (i := 575) (by decide +kernel)) rfl
theorem qw_578 : Cond.code yX6_back cX6_back 2 (some .int) ∈ lw_tb := lw_up (List.mem_of_getElem? (i := 578) (by decide +kernel)) rfl
theorem qw_576 : Cond.instanceMethod yX6_back ∈ lw_tb := lw_up (List.mem_of_getElem? (i := 576) (by decide +kernel)) rfl
theorem qw_577 : Cond.selects RX6 yX6_back yX6_back ∈ lw_tb := lw_up (List.mem_of_getElem? (i := 577) (by decide +kernel)) rfl
theorem qw_833 : Cond.methodLink RL 117 yX7_back ∈ lw_tb := lw_up (List.mem_of_getElem? (i := 833) (by decide +kernel)) rfl
theorem qw_836 : Cond.code yX7_back cX7_back 3 (some .int) ∈ lw_tb := lw_up (List.mem_of_getElem? (i := 836) (by decide +kernel)) rfl
theorem qw_834 : Cond.instanceMethod yX7_back ∈ lw_tb := lw_up (List.mem_of_getElem? (i := 834) (by decide +kernel)) rfl
theorem qw_835 : Cond.selects RX7 yX7_back yX7_back ∈ lw_tb := lw_up (List.mem_of_getElem? (i := 835) (by decide +kernel)) rfl
theorem qw_439 : Cond.methodLink RL 56 yX6_undo ∈ lw_tb := lw_up (List.mem_of_getElem? (i := 439) (by decide +kernel)) rfl
theorem qw_442 : Cond.code yX6_undo cX6_undo 1 (some .int) ∈ lw_tb := lw_up (List.mem_of_getElem? (i := 442) (by decide +kernel)) rfl
theorem qw_440 : Cond.instanceMethod yX6_undo ∈ lw_tb := lw_up (List.mem_of_getElem? (i := 440) (by decide +kernel)) rfl
theorem qw_441 : Cond.selects RX6 yX6_undo yX6_undo ∈ lw_tb := lw_up (List.mem_of_getElem? (i := 441) (by decide +kernel)) rfl
theorem qw_614 : Cond.methodLink RL 59 yX7_undo ∈ lw_tb := lw_up (List.mem_of_getElem? (i := 614) (by decide +kernel)) rfl
theorem qw_617 : Cond.code yX7_undo cX7_undo 2 (some .int) ∈ lw_tb := lw_up (List.mem_of_getElem? (i := 617) (by decide +kernel)) rfl
theorem qw_615 : Cond.instanceMethod yX7_undo ∈ lw_tb := lw_up (List.mem_of_getElem? (i := 615) (by decide +kernel)) rfl
theorem qw_616 : Cond.selects RX7 yX7_undo yX7_undo ∈ lw_tb := lw_up (List.mem_of_getElem? (i := 616) (by decide +kernel)) rfl
theorem mv_X6_sell : mVo yX6_sell cX6_sell 3 1 (some .int) := ⟨qw_218, qw_219, qw_38, qw_220, by decide +kernel⟩
theorem mv_X7_sell : mVo yX7_sell cX7_sell 3 1 (some .int) := ⟨qw_619, qw_620, qw_45, qw_621, by decide +kernel⟩
theorem mv_X6_cancel : mVo yX6_cancel cX6_cancel 1 0 (some .int) := ⟨qw_316, qw_317, qw_38, qw_318, by decide +kernel⟩
theorem mv_X7_cancel : mVo yX7_cancel cX7_cancel 4 0 (some .int) := ⟨qw_679, qw_680, qw_45, qw_681, by decide +kernel⟩
theorem mv_X6_close : mVo yX6_close cX6_close 1 0 (some .int) := ⟨qw_343, qw_344, qw_38, qw_345, by decide +kernel⟩
theorem mv_X7_close : mVo yX7_close cX7_close 2 0 (some .int) := ⟨qw_695, qw_696, qw_45, qw_697, by decide +kernel⟩
theorem mv_X6_load : mVo yX6_load cX6_load 3 2 (some .int) := ⟨qw_351, qw_352, qw_38, qw_353, by decide +kernel⟩
theorem mv_X7_load : mVo yX7_load cX7_load 4 2 (some .int) := ⟨qw_699, qw_700, qw_45, qw_701, by decide +kernel⟩
theorem mv_X6_setClock : mVo yX6_setClock cX6_setClock 2 1 (some .int) := ⟨qw_360, qw_361, qw_38, qw_362, by decide +kernel⟩
theorem mv_X7_setClock : mVo yX7_setClock cX7_setClock 3 1 (some .int) := ⟨qw_704, qw_705, qw_45, qw_706, by decide +kernel⟩
theorem mv_X6_pass : mVo yX6_pass cX6_pass 2 1 (some .int) := ⟨qw_372, qw_373, qw_38, qw_374, by decide +kernel⟩
theorem mv_X7_pass : mVo yX7_pass cX7_pass 2 1 (some .int) := ⟨qw_708, qw_709, qw_45, qw_710, by decide +kernel⟩
theorem mv_X6_setPrice : mVo yX6_setPrice cX6_setPrice 4 2 (some .int) := ⟨qw_379, qw_380, qw_38, qw_381, by decide +kernel⟩
theorem mv_X7_setPrice : mVo yX7_setPrice cX7_setPrice 4 2 (some .int) := ⟨qw_712, qw_713, qw_45, qw_714, by decide +kernel⟩
theorem mv_X6_cut : mVo yX6_cut cX6_cut 3 1 (some .int) := ⟨qw_389, qw_390, qw_38, qw_391, by decide +kernel⟩
theorem mv_X7_cut : mVo yX7_cut cX7_cut 3 1 (some .int) := ⟨qw_716, qw_717, qw_45, qw_718, by decide +kernel⟩
theorem mv_X6_off : mVo yX6_off cX6_off 1 0 (some .int) := ⟨qw_393, qw_394, qw_38, qw_395, by decide +kernel⟩
theorem mv_X7_off : mVo yX7_off cX7_off 1 0 (some .int) := ⟨qw_720, qw_721, qw_45, qw_722, by decide +kernel⟩
theorem mv_X6_start : mVo yX6_start cX6_start 1 0 (some .int) := ⟨qw_412, qw_413, qw_38, qw_414, by decide +kernel⟩
theorem mv_X7_start : mVo yX7_start cX7_start 1 0 (some .int) := ⟨qw_740, qw_741, qw_45, qw_742, by decide +kernel⟩
theorem mv_X6_told : mVo yX6_told cX6_told 2 1 (some .int) := ⟨qw_448, qw_449, qw_38, qw_450, by decide +kernel⟩
theorem mv_X7_told : mVo yX7_told cX7_told 2 1 (some .int) := ⟨qw_756, qw_757, qw_45, qw_758, by decide +kernel⟩
theorem mv_X6_price : mVo yX6_price cX6_price 2 1 (some .int) := ⟨qw_456, qw_457, qw_38, qw_458, by decide +kernel⟩
theorem mv_X7_price : mVo yX7_price cX7_price 2 1 (some .int) := ⟨qw_760, qw_761, qw_45, qw_762, by decide +kernel⟩
theorem mv_X6_word : mVo yX6_word cX6_word 3 2 (some .int) := ⟨qw_460, qw_461, qw_38, qw_462, by decide +kernel⟩
theorem mv_X7_word : mVo yX7_word cX7_word 3 2 (some .int) := ⟨qw_764, qw_765, qw_45, qw_766, by decide +kernel⟩
theorem mv_X6_block : mVo yX6_block cX6_block 4 2 (some .int) := ⟨qw_468, qw_469, qw_38, qw_470, by decide +kernel⟩
theorem mv_X7_block : mVo yX7_block cX7_block 3 2 (some .int) := ⟨qw_771, qw_772, qw_45, qw_773, by decide +kernel⟩
theorem mv_X6_records : mVo yX6_records cX6_records 2 1 (some .int) := ⟨qw_478, qw_479, qw_38, qw_480, by decide +kernel⟩
theorem mv_X7_records : mVo yX7_records cX7_records 2 1 (some .int) := ⟨qw_775, qw_776, qw_45, qw_777, by decide +kernel⟩
theorem mv_X6_record : mVo yX6_record cX6_record 3 2 (some .int) := ⟨qw_506, qw_507, qw_38, qw_508, by decide +kernel⟩
theorem mv_X7_record : mVo yX7_record cX7_record 3 2 (some .int) := ⟨qw_779, qw_780, qw_45, qw_781, by decide +kernel⟩
theorem mv_X6_takings : mVo yX6_takings cX6_takings 3 1 (some .int) := ⟨qw_511, qw_512, qw_38, qw_513, by decide +kernel⟩
theorem mv_X7_takings : mVo yX7_takings cX7_takings 6 1 (some .int) := ⟨qw_795, qw_796, qw_45, qw_797, by decide +kernel⟩
theorem mv_X6_times : mVo yX6_times cX6_times 2 1 (some .int) := ⟨qw_523, qw_524, qw_38, qw_525, by decide +kernel⟩
theorem mv_X7_times : mVo yX7_times cX7_times 7 1 (some .int) := ⟨qw_803, qw_804, qw_45, qw_805, by decide +kernel⟩
theorem mv_X6_operations : mVo yX6_operations cX6_operations 3 1 (some .int) := ⟨qw_546, qw_547, qw_38, qw_548, by decide +kernel⟩
theorem mv_X7_operations : mVo yX7_operations cX7_operations 6 1 (some .int) := ⟨qw_807, qw_808, qw_45, qw_809, by decide +kernel⟩
theorem mv_X6_after : mVo yX6_after cX6_after 5 3 (some .int) := ⟨qw_555, qw_556, qw_38, qw_557, by decide +kernel⟩
theorem mv_X7_after : mVo yX7_after cX7_after 7 3 (some .int) := ⟨qw_819, qw_820, qw_45, qw_821, by decide +kernel⟩
theorem mv_X6_needed : mVo yX6_needed cX6_needed 3 1 (some .int) := ⟨qw_559, qw_560, qw_38, qw_561, by decide +kernel⟩
theorem mv_X7_needed : mVo yX7_needed cX7_needed 3 1 (some .int) := ⟨qw_823, qw_824, qw_45, qw_825, by decide +kernel⟩
theorem mv_X6_keep : mVo yX6_keep cX6_keep 2 1 (some .int) := ⟨qw_563, qw_564, qw_38, qw_565, by decide +kernel⟩
theorem mv_X7_keep_ : mVo yX7_keep_ cX7_keep_ 3 1 (some .int) := ⟨qw_827, qw_828, qw_45, qw_829, by decide +kernel⟩
theorem mv_X6_back : mVo yX6_back cX6_back 2 1 (some .int) := ⟨qw_576, qw_577, qw_38, qw_578, by decide +kernel⟩
theorem mv_X7_back : mVo yX7_back cX7_back 3 1 (some .int) := ⟨qw_834, qw_835, qw_45, qw_836, by decide +kernel⟩
theorem mv_X6_undo : mVo yX6_undo cX6_undo 1 0 (some .int) := ⟨qw_440, qw_441, qw_38, qw_442, by decide +kernel⟩
theorem mv_X7_undo : mVo yX7_undo cX7_undo 2 0 (some .int) := ⟨qw_615, qw_616, qw_45, qw_617, by decide +kernel⟩
set_option maxHeartbeats 4000000 in
set_option maxRecDepth 100000 in
theorem k_sell {X : CX} {Z : GZ} {kc ks : Nat} {t : Nat} {a : Nat → Nat} {b : Nat → Nat} {hj : Nat} {hd : Nat} {hq : Nat} {hs : Nat} {AD : Nat → Nat → Nat} {hi : Nat} {IH : Nat → Nat} {IA : Nat → Nat → Nat} {x : Nat → Nat} {bs i L : Nat} {xs : Nat → Int32} (hX : scrX X bs L xs) (hi4 : i + 4 ≤ L) (hL : L ≤ 2048) (hkc : kc ≤ room_1.cells ∧ ks ≤ room_1.slots) (h : Nx X Z kc ks t a b hj hd hq hs AD hi IH IA x bs i 763) : Nx X Z kc ks t a b hj hd hq hs AD hi IH IA x bs i 148 := by
  intro w er fl me p pr wt ert flt met pt prt d jc pv W8 E8 F8 M8 P8 R8 fi WI EI FJ MI PJ RI m ps im ik asd rb rp mv hP hA hI
  obtain ⟨r, w', er', fl', me', pr', pv', W8', E8', F8', M8', P8', R8', m', ps', mv', e1, e2, hP2, hA2⟩ := sellF hA hP (xs (i + 1))
  refine r_aload_n dL_law_148 2 rfl ?_
  refine r_aload_n dL_law_149 3 rfl ?_
  refine r_iload_n dL_law_150 0 rfl ?_
  refine r_iconst (v := 1) dL_law_151 kic_1 ?_
  refine r_iadd dL_law_152 ?_
  refine r_sld hX (j := i + 1) (scr_j hi4 hL (k := 1) (by decide)) (scr_in hi4 hL (k := 1) (by decide)) dL_law_153 ?_
  refine r_callV (As := [.int (xs (i + 1))]) (rest := []) (ws' := wA Z t a b hj hd hq hs AD hi IH IA x w' er' fl' me' p pr' wt ert flt met pt prt d jc pv' W8' E8' F8' M8' P8' R8' fi WI EI FJ MI PJ RI m ps im ik asd rb rp mv) 0 rfl rfl rfl (fun l => c_X6_sell Z l t (b 0) hj hi a hq hs AD w er fl me p pr pv W8 E8 F8 M8 P8 R8 (xs (i + 1)) _ e1) qw_217 mv_X6_sell (pk_PQ rfl wQ_dom) ⟨Nat.le_of_ble_eq_true rfl, Nat.le_of_ble_eq_true rfl⟩ ⟨rfl, rfl⟩ hkc rfl (Nat.le_of_ble_eq_true rfl) rfl dL_law_154 ?_
  refine r_aload_n dL_law_157 1 rfl ?_
  refine r_aload_n dL_law_158 3 rfl ?_
  refine r_iload_n dL_law_159 0 rfl ?_
  refine r_iconst (v := 1) dL_law_160 kic_1 ?_
  refine r_iadd dL_law_161 ?_
  refine r_sld hX (j := i + 1) (scr_j hi4 hL (k := 1) (by decide)) (scr_in hi4 hL (k := 1) (by decide)) dL_law_162 ?_
  refine r_callV (As := [.int (xs (i + 1))]) (rest := [.int r]) (ws' := wA Z t a b hj hd hq hs AD hi IH IA x w' er' fl' me' p pr' wt ert flt met pt prt d jc pv' W8' E8' F8' M8' P8' R8' fi WI EI FJ MI PJ RI m' ps' im ik asd rb rp mv') 0 rfl rfl rfl (fun l => c_X7_sell Z l x m ps im ik asd rb rp mv (xs (i + 1)) _ e2) qw_618 mv_X7_sell (pk_X rfl) ⟨Nat.le_of_ble_eq_true rfl, Nat.le_of_ble_eq_true rfl⟩ ⟨rfl, rfl⟩ hkc rfl (Nat.le_of_ble_eq_true rfl) rfl dL_law_163 ?_
  refine r_icmp_eq (tgt := 763) dL_law_166 (by decide) (fun _ => ?_) (fun hh => absurd rfl hh)
  exact h w' er' fl' me' p pr' wt ert flt met pt prt d jc pv' W8' E8' F8' M8' P8' R8' fi WI EI FJ MI PJ RI m' ps' im ik asd rb rp mv' hP2 hA2 hI
set_option maxHeartbeats 4000000 in
set_option maxRecDepth 100000 in
theorem k_cancel {X : CX} {Z : GZ} {kc ks : Nat} {t : Nat} {a : Nat → Nat} {b : Nat → Nat} {hj : Nat} {hd : Nat} {hq : Nat} {hs : Nat} {AD : Nat → Nat → Nat} {hi : Nat} {IH : Nat → Nat} {IA : Nat → Nat → Nat} {x : Nat → Nat} {bs i L : Nat} {xs : Nat → Int32} (hX : scrX X bs L xs) (hi4 : i + 4 ≤ L) (hL : L ≤ 2048) (hkc : kc ≤ room_1.cells ∧ ks ≤ room_1.slots) (h : Nx X Z kc ks t a b hj hd hq hs AD hi IH IA x bs i 763) : Nx X Z kc ks t a b hj hd hq hs AD hi IH IA x bs i 171 := by
  intro w er fl me p pr wt ert flt met pt prt d jc pv W8 E8 F8 M8 P8 R8 fi WI EI FJ MI PJ RI m ps im ik asd rb rp mv hP hA hI
  obtain ⟨r, w', er', fl', me', pr', pv', W8', E8', F8', M8', P8', R8', m', ps', mv', e1, e2, hP2, hA2⟩ := cancelF hA hP 
  refine r_aload_n dL_law_171 2 rfl ?_
  refine r_callV (As := []) (rest := []) (ws' := wA Z t a b hj hd hq hs AD hi IH IA x w' er' fl' me' p pr' wt ert flt met pt prt d jc pv' W8' E8' F8' M8' P8' R8' fi WI EI FJ MI PJ RI m ps im ik asd rb rp mv) 0 rfl rfl rfl (fun l => c_X6_cancel Z l t (b 0) hj hi a hq hs AD w er fl me p pr pv W8 E8 F8 M8 P8 R8  _ e1) qw_315 mv_X6_cancel (pk_PQ rfl wQ_dom) ⟨Nat.le_of_ble_eq_true rfl, Nat.le_of_ble_eq_true rfl⟩ ⟨rfl, rfl⟩ hkc rfl (Nat.le_of_ble_eq_true rfl) rfl dL_law_172 ?_
  refine r_aload_n dL_law_175 1 rfl ?_
  refine r_callV (As := []) (rest := [.int r]) (ws' := wA Z t a b hj hd hq hs AD hi IH IA x w' er' fl' me' p pr' wt ert flt met pt prt d jc pv' W8' E8' F8' M8' P8' R8' fi WI EI FJ MI PJ RI m' ps' im ik asd rb rp mv') 0 rfl rfl rfl (fun l => c_X7_cancel Z l x m ps im ik asd rb rp mv  _ e2) qw_678 mv_X7_cancel (pk_X rfl) ⟨Nat.le_of_ble_eq_true rfl, Nat.le_of_ble_eq_true rfl⟩ ⟨rfl, rfl⟩ hkc rfl (Nat.le_of_ble_eq_true rfl) rfl dL_law_176 ?_
  refine r_icmp_eq (tgt := 763) dL_law_179 (by decide) (fun _ => ?_) (fun hh => absurd rfl hh)
  exact h w' er' fl' me' p pr' wt ert flt met pt prt d jc pv' W8' E8' F8' M8' P8' R8' fi WI EI FJ MI PJ RI m' ps' im ik asd rb rp mv' hP2 hA2 hI
set_option maxHeartbeats 4000000 in
set_option maxRecDepth 100000 in
theorem k_close {X : CX} {Z : GZ} {kc ks : Nat} {t : Nat} {a : Nat → Nat} {b : Nat → Nat} {hj : Nat} {hd : Nat} {hq : Nat} {hs : Nat} {AD : Nat → Nat → Nat} {hi : Nat} {IH : Nat → Nat} {IA : Nat → Nat → Nat} {x : Nat → Nat} {bs i L : Nat} {xs : Nat → Int32} (hX : scrX X bs L xs) (hi4 : i + 4 ≤ L) (hL : L ≤ 2048) (hkc : kc ≤ room_1.cells ∧ ks ≤ room_1.slots) (h : Nx X Z kc ks t a b hj hd hq hs AD hi IH IA x bs i 763) : Nx X Z kc ks t a b hj hd hq hs AD hi IH IA x bs i 184 := by
  intro w er fl me p pr wt ert flt met pt prt d jc pv W8 E8 F8 M8 P8 R8 fi WI EI FJ MI PJ RI m ps im ik asd rb rp mv hP hA hI
  obtain ⟨r, w', er', fl', me', pr', pv', W8', E8', F8', M8', P8', R8', m', ps', mv', e1, e2, hP2, hA2⟩ := closeF hA hP 
  refine r_aload_n dL_law_184 2 rfl ?_
  refine r_callV (As := []) (rest := []) (ws' := wA Z t a b hj hd hq hs AD hi IH IA x w' er' fl' me' p pr' wt ert flt met pt prt d jc pv' W8' E8' F8' M8' P8' R8' fi WI EI FJ MI PJ RI m ps im ik asd rb rp mv) 0 rfl rfl rfl (fun l => c_X6_close Z l t (b 0) hj hi a hq hs AD w er fl me p pr pv W8 E8 F8 M8 P8 R8  _ e1) qw_342 mv_X6_close (pk_PQ rfl wQ_dom) ⟨Nat.le_of_ble_eq_true rfl, Nat.le_of_ble_eq_true rfl⟩ ⟨rfl, rfl⟩ hkc rfl (Nat.le_of_ble_eq_true rfl) rfl dL_law_185 ?_
  refine r_aload_n dL_law_188 1 rfl ?_
  refine r_callV (As := []) (rest := [.int r]) (ws' := wA Z t a b hj hd hq hs AD hi IH IA x w' er' fl' me' p pr' wt ert flt met pt prt d jc pv' W8' E8' F8' M8' P8' R8' fi WI EI FJ MI PJ RI m' ps' im ik asd rb rp mv') 0 rfl rfl rfl (fun l => c_X7_close Z l x m ps im ik asd rb rp mv  _ e2) qw_694 mv_X7_close (pk_X rfl) ⟨Nat.le_of_ble_eq_true rfl, Nat.le_of_ble_eq_true rfl⟩ ⟨rfl, rfl⟩ hkc rfl (Nat.le_of_ble_eq_true rfl) rfl dL_law_189 ?_
  refine r_icmp_eq (tgt := 763) dL_law_192 (by decide) (fun _ => ?_) (fun hh => absurd rfl hh)
  exact h w' er' fl' me' p pr' wt ert flt met pt prt d jc pv' W8' E8' F8' M8' P8' R8' fi WI EI FJ MI PJ RI m' ps' im ik asd rb rp mv' hP2 hA2 hI
set_option maxHeartbeats 4000000 in
set_option maxRecDepth 100000 in
theorem k_load {X : CX} {Z : GZ} {kc ks : Nat} {t : Nat} {a : Nat → Nat} {b : Nat → Nat} {hj : Nat} {hd : Nat} {hq : Nat} {hs : Nat} {AD : Nat → Nat → Nat} {hi : Nat} {IH : Nat → Nat} {IA : Nat → Nat → Nat} {x : Nat → Nat} {bs i L : Nat} {xs : Nat → Int32} (hX : scrX X bs L xs) (hi4 : i + 4 ≤ L) (hL : L ≤ 2048) (hkc : kc ≤ room_1.cells ∧ ks ≤ room_1.slots) (h : Nx X Z kc ks t a b hj hd hq hs AD hi IH IA x bs i 763) : Nx X Z kc ks t a b hj hd hq hs AD hi IH IA x bs i 197 := by
  intro w er fl me p pr wt ert flt met pt prt d jc pv W8 E8 F8 M8 P8 R8 fi WI EI FJ MI PJ RI m ps im ik asd rb rp mv hP hA hI
  obtain ⟨r, w', er', fl', me', pr', pv', W8', E8', F8', M8', P8', R8', m', ps', mv', e1, e2, hP2, hA2⟩ := loadF hA hP (xs (i + 1)) (xs (i + 2))
  refine r_aload_n dL_law_197 2 rfl ?_
  refine r_aload_n dL_law_198 3 rfl ?_
  refine r_iload_n dL_law_199 0 rfl ?_
  refine r_iconst (v := 1) dL_law_200 kic_1 ?_
  refine r_iadd dL_law_201 ?_
  refine r_sld hX (j := i + 1) (scr_j hi4 hL (k := 1) (by decide)) (scr_in hi4 hL (k := 1) (by decide)) dL_law_202 ?_
  refine r_aload_n dL_law_203 3 rfl ?_
  refine r_iload_n dL_law_204 0 rfl ?_
  refine r_iconst (v := 2) dL_law_205 kic_2 ?_
  refine r_iadd dL_law_206 ?_
  refine r_sld hX (j := i + 2) (scr_j hi4 hL (k := 2) (by decide)) (scr_in hi4 hL (k := 2) (by decide)) dL_law_207 ?_
  refine r_callV (As := [.int (xs (i + 1)), .int (xs (i + 2))]) (rest := []) (ws' := wA Z t a b hj hd hq hs AD hi IH IA x w' er' fl' me' p pr' wt ert flt met pt prt d jc pv' W8' E8' F8' M8' P8' R8' fi WI EI FJ MI PJ RI m ps im ik asd rb rp mv) 0 rfl rfl rfl (fun l => c_X6_load Z l t (b 0) hj hi a hq hs AD w er fl me p pr pv W8 E8 F8 M8 P8 R8 (xs (i + 1)) (xs (i + 2)) _ e1) qw_350 mv_X6_load (pk_PQ rfl wQ_dom) ⟨Nat.le_of_ble_eq_true rfl, Nat.le_of_ble_eq_true rfl⟩ ⟨rfl, rfl⟩ hkc rfl (Nat.le_of_ble_eq_true rfl) rfl dL_law_208 ?_
  refine r_aload_n dL_law_211 1 rfl ?_
  refine r_aload_n dL_law_212 3 rfl ?_
  refine r_iload_n dL_law_213 0 rfl ?_
  refine r_iconst (v := 1) dL_law_214 kic_1 ?_
  refine r_iadd dL_law_215 ?_
  refine r_sld hX (j := i + 1) (scr_j hi4 hL (k := 1) (by decide)) (scr_in hi4 hL (k := 1) (by decide)) dL_law_216 ?_
  refine r_aload_n dL_law_217 3 rfl ?_
  refine r_iload_n dL_law_218 0 rfl ?_
  refine r_iconst (v := 2) dL_law_219 kic_2 ?_
  refine r_iadd dL_law_220 ?_
  refine r_sld hX (j := i + 2) (scr_j hi4 hL (k := 2) (by decide)) (scr_in hi4 hL (k := 2) (by decide)) dL_law_221 ?_
  refine r_callV (As := [.int (xs (i + 1)), .int (xs (i + 2))]) (rest := [.int r]) (ws' := wA Z t a b hj hd hq hs AD hi IH IA x w' er' fl' me' p pr' wt ert flt met pt prt d jc pv' W8' E8' F8' M8' P8' R8' fi WI EI FJ MI PJ RI m' ps' im ik asd rb rp mv') 0 rfl rfl rfl (fun l => c_X7_load Z l x m ps im ik asd rb rp mv (xs (i + 1)) (xs (i + 2)) _ e2) qw_698 mv_X7_load (pk_X rfl) ⟨Nat.le_of_ble_eq_true rfl, Nat.le_of_ble_eq_true rfl⟩ ⟨rfl, rfl⟩ hkc rfl (Nat.le_of_ble_eq_true rfl) rfl dL_law_222 ?_
  refine r_icmp_eq (tgt := 763) dL_law_225 (by decide) (fun _ => ?_) (fun hh => absurd rfl hh)
  exact h w' er' fl' me' p pr' wt ert flt met pt prt d jc pv' W8' E8' F8' M8' P8' R8' fi WI EI FJ MI PJ RI m' ps' im ik asd rb rp mv' hP2 hA2 hI
set_option maxHeartbeats 4000000 in
set_option maxRecDepth 100000 in
theorem k_setClock {X : CX} {Z : GZ} {kc ks : Nat} {t : Nat} {a : Nat → Nat} {b : Nat → Nat} {hj : Nat} {hd : Nat} {hq : Nat} {hs : Nat} {AD : Nat → Nat → Nat} {hi : Nat} {IH : Nat → Nat} {IA : Nat → Nat → Nat} {x : Nat → Nat} {bs i L : Nat} {xs : Nat → Int32} (hX : scrX X bs L xs) (hi4 : i + 4 ≤ L) (hL : L ≤ 2048) (hkc : kc ≤ room_1.cells ∧ ks ≤ room_1.slots) (h : Nx X Z kc ks t a b hj hd hq hs AD hi IH IA x bs i 763) : Nx X Z kc ks t a b hj hd hq hs AD hi IH IA x bs i 230 := by
  intro w er fl me p pr wt ert flt met pt prt d jc pv W8 E8 F8 M8 P8 R8 fi WI EI FJ MI PJ RI m ps im ik asd rb rp mv hP hA hI
  obtain ⟨r, w', er', fl', me', pr', pv', W8', E8', F8', M8', P8', R8', m', ps', mv', e1, e2, hP2, hA2⟩ := clockF hA hP (xs (i + 1))
  refine r_aload_n dL_law_230 2 rfl ?_
  refine r_aload_n dL_law_231 3 rfl ?_
  refine r_iload_n dL_law_232 0 rfl ?_
  refine r_iconst (v := 1) dL_law_233 kic_1 ?_
  refine r_iadd dL_law_234 ?_
  refine r_sld hX (j := i + 1) (scr_j hi4 hL (k := 1) (by decide)) (scr_in hi4 hL (k := 1) (by decide)) dL_law_235 ?_
  refine r_callV (As := [.int (xs (i + 1))]) (rest := []) (ws' := wA Z t a b hj hd hq hs AD hi IH IA x w' er' fl' me' p pr' wt ert flt met pt prt d jc pv' W8' E8' F8' M8' P8' R8' fi WI EI FJ MI PJ RI m ps im ik asd rb rp mv) 0 rfl rfl rfl (fun l => c_X6_setClock Z l t (b 0) hj hi a hq hs AD w er fl me p pr pv W8 E8 F8 M8 P8 R8 (xs (i + 1)) _ e1) qw_359 mv_X6_setClock (pk_PQ rfl wQ_dom) ⟨Nat.le_of_ble_eq_true rfl, Nat.le_of_ble_eq_true rfl⟩ ⟨rfl, rfl⟩ hkc rfl (Nat.le_of_ble_eq_true rfl) rfl dL_law_236 ?_
  refine r_aload_n dL_law_239 1 rfl ?_
  refine r_aload_n dL_law_240 3 rfl ?_
  refine r_iload_n dL_law_241 0 rfl ?_
  refine r_iconst (v := 1) dL_law_242 kic_1 ?_
  refine r_iadd dL_law_243 ?_
  refine r_sld hX (j := i + 1) (scr_j hi4 hL (k := 1) (by decide)) (scr_in hi4 hL (k := 1) (by decide)) dL_law_244 ?_
  refine r_callV (As := [.int (xs (i + 1))]) (rest := [.int r]) (ws' := wA Z t a b hj hd hq hs AD hi IH IA x w' er' fl' me' p pr' wt ert flt met pt prt d jc pv' W8' E8' F8' M8' P8' R8' fi WI EI FJ MI PJ RI m' ps' im ik asd rb rp mv') 0 rfl rfl rfl (fun l => c_X7_setClock Z l x m ps im ik asd rb rp mv (xs (i + 1)) _ e2) qw_703 mv_X7_setClock (pk_X rfl) ⟨Nat.le_of_ble_eq_true rfl, Nat.le_of_ble_eq_true rfl⟩ ⟨rfl, rfl⟩ hkc rfl (Nat.le_of_ble_eq_true rfl) rfl dL_law_245 ?_
  refine r_icmp_eq (tgt := 763) dL_law_248 (by decide) (fun _ => ?_) (fun hh => absurd rfl hh)
  exact h w' er' fl' me' p pr' wt ert flt met pt prt d jc pv' W8' E8' F8' M8' P8' R8' fi WI EI FJ MI PJ RI m' ps' im ik asd rb rp mv' hP2 hA2 hI
set_option maxHeartbeats 4000000 in
set_option maxRecDepth 100000 in
theorem k_pass {X : CX} {Z : GZ} {kc ks : Nat} {t : Nat} {a : Nat → Nat} {b : Nat → Nat} {hj : Nat} {hd : Nat} {hq : Nat} {hs : Nat} {AD : Nat → Nat → Nat} {hi : Nat} {IH : Nat → Nat} {IA : Nat → Nat → Nat} {x : Nat → Nat} {bs i L : Nat} {xs : Nat → Int32} (hX : scrX X bs L xs) (hi4 : i + 4 ≤ L) (hL : L ≤ 2048) (hkc : kc ≤ room_1.cells ∧ ks ≤ room_1.slots) (h : Nx X Z kc ks t a b hj hd hq hs AD hi IH IA x bs i 763) : Nx X Z kc ks t a b hj hd hq hs AD hi IH IA x bs i 253 := by
  intro w er fl me p pr wt ert flt met pt prt d jc pv W8 E8 F8 M8 P8 R8 fi WI EI FJ MI PJ RI m ps im ik asd rb rp mv hP hA hI
  obtain ⟨r, pr', pv', W8', E8', F8', M8', P8', R8', m', ps', mv', e1, e2, hP2, hA2⟩ := passF hA hP (xs (i + 1))
  refine r_aload_n dL_law_253 2 rfl ?_
  refine r_aload_n dL_law_254 3 rfl ?_
  refine r_iload_n dL_law_255 0 rfl ?_
  refine r_iconst (v := 1) dL_law_256 kic_1 ?_
  refine r_iadd dL_law_257 ?_
  refine r_sld hX (j := i + 1) (scr_j hi4 hL (k := 1) (by decide)) (scr_in hi4 hL (k := 1) (by decide)) dL_law_258 ?_
  refine r_callV (As := [.int (xs (i + 1))]) (rest := []) (ws' := wA Z t a b hj hd hq hs AD hi IH IA x w er fl me p pr' wt ert flt met pt prt d jc pv' W8' E8' F8' M8' P8' R8' fi WI EI FJ MI PJ RI m ps im ik asd rb rp mv) 0 rfl rfl rfl (fun l => c_X6_pass Z l t (b 0) hj hi a hq hs AD w er fl me p pr pv W8 E8 F8 M8 P8 R8 (xs (i + 1)) _ e1) qw_371 mv_X6_pass (pk_PQ rfl wQ_dom) ⟨Nat.le_of_ble_eq_true rfl, Nat.le_of_ble_eq_true rfl⟩ ⟨rfl, rfl⟩ hkc rfl (Nat.le_of_ble_eq_true rfl) rfl dL_law_259 ?_
  refine r_aload_n dL_law_262 1 rfl ?_
  refine r_aload_n dL_law_263 3 rfl ?_
  refine r_iload_n dL_law_264 0 rfl ?_
  refine r_iconst (v := 1) dL_law_265 kic_1 ?_
  refine r_iadd dL_law_266 ?_
  refine r_sld hX (j := i + 1) (scr_j hi4 hL (k := 1) (by decide)) (scr_in hi4 hL (k := 1) (by decide)) dL_law_267 ?_
  refine r_callV (As := [.int (xs (i + 1))]) (rest := [.int r]) (ws' := wA Z t a b hj hd hq hs AD hi IH IA x w er fl me p pr' wt ert flt met pt prt d jc pv' W8' E8' F8' M8' P8' R8' fi WI EI FJ MI PJ RI m' ps' im ik asd rb rp mv') 0 rfl rfl rfl (fun l => c_X7_pass Z l x m ps im ik asd rb rp mv (xs (i + 1)) _ e2) qw_707 mv_X7_pass (pk_X rfl) ⟨Nat.le_of_ble_eq_true rfl, Nat.le_of_ble_eq_true rfl⟩ ⟨rfl, rfl⟩ hkc rfl (Nat.le_of_ble_eq_true rfl) rfl dL_law_268 ?_
  refine r_icmp_eq (tgt := 763) dL_law_271 (by decide) (fun _ => ?_) (fun hh => absurd rfl hh)
  exact h w er fl me p pr' wt ert flt met pt prt d jc pv' W8' E8' F8' M8' P8' R8' fi WI EI FJ MI PJ RI m' ps' im ik asd rb rp mv' hP2 hA2 hI
set_option maxHeartbeats 4000000 in
set_option maxRecDepth 100000 in
theorem k_setPrice {X : CX} {Z : GZ} {kc ks : Nat} {t : Nat} {a : Nat → Nat} {b : Nat → Nat} {hj : Nat} {hd : Nat} {hq : Nat} {hs : Nat} {AD : Nat → Nat → Nat} {hi : Nat} {IH : Nat → Nat} {IA : Nat → Nat → Nat} {x : Nat → Nat} {bs i L : Nat} {xs : Nat → Int32} (hX : scrX X bs L xs) (hi4 : i + 4 ≤ L) (hL : L ≤ 2048) (hkc : kc ≤ room_1.cells ∧ ks ≤ room_1.slots) (h : Nx X Z kc ks t a b hj hd hq hs AD hi IH IA x bs i 763) : Nx X Z kc ks t a b hj hd hq hs AD hi IH IA x bs i 276 := by
  intro w er fl me p pr wt ert flt met pt prt d jc pv W8 E8 F8 M8 P8 R8 fi WI EI FJ MI PJ RI m ps im ik asd rb rp mv hP hA hI
  obtain ⟨r, p', pv', W8', E8', F8', M8', P8', R8', m', ps', mv', e1, e2, hP2, hA2⟩ := priceF hA hP (xs (i + 1)) (xs (i + 2))
  refine r_aload_n dL_law_276 2 rfl ?_
  refine r_aload_n dL_law_277 3 rfl ?_
  refine r_iload_n dL_law_278 0 rfl ?_
  refine r_iconst (v := 1) dL_law_279 kic_1 ?_
  refine r_iadd dL_law_280 ?_
  refine r_sld hX (j := i + 1) (scr_j hi4 hL (k := 1) (by decide)) (scr_in hi4 hL (k := 1) (by decide)) dL_law_281 ?_
  refine r_aload_n dL_law_282 3 rfl ?_
  refine r_iload_n dL_law_283 0 rfl ?_
  refine r_iconst (v := 2) dL_law_284 kic_2 ?_
  refine r_iadd dL_law_285 ?_
  refine r_sld hX (j := i + 2) (scr_j hi4 hL (k := 2) (by decide)) (scr_in hi4 hL (k := 2) (by decide)) dL_law_286 ?_
  refine r_callV (As := [.int (xs (i + 1)), .int (xs (i + 2))]) (rest := []) (ws' := wA Z t a b hj hd hq hs AD hi IH IA x w er fl me p' pr wt ert flt met pt prt d jc pv' W8' E8' F8' M8' P8' R8' fi WI EI FJ MI PJ RI m ps im ik asd rb rp mv) 0 rfl rfl rfl (fun l => c_X6_setPrice Z l t (b 0) hj hi a hq hs AD w er fl me p pr pv W8 E8 F8 M8 P8 R8 (xs (i + 1)) (xs (i + 2)) _ e1) qw_378 mv_X6_setPrice (pk_PQ rfl wQ_dom) ⟨Nat.le_of_ble_eq_true rfl, Nat.le_of_ble_eq_true rfl⟩ ⟨rfl, rfl⟩ hkc rfl (Nat.le_of_ble_eq_true rfl) rfl dL_law_287 ?_
  refine r_aload_n dL_law_290 1 rfl ?_
  refine r_aload_n dL_law_291 3 rfl ?_
  refine r_iload_n dL_law_292 0 rfl ?_
  refine r_iconst (v := 1) dL_law_293 kic_1 ?_
  refine r_iadd dL_law_294 ?_
  refine r_sld hX (j := i + 1) (scr_j hi4 hL (k := 1) (by decide)) (scr_in hi4 hL (k := 1) (by decide)) dL_law_295 ?_
  refine r_aload_n dL_law_296 3 rfl ?_
  refine r_iload_n dL_law_297 0 rfl ?_
  refine r_iconst (v := 2) dL_law_298 kic_2 ?_
  refine r_iadd dL_law_299 ?_
  refine r_sld hX (j := i + 2) (scr_j hi4 hL (k := 2) (by decide)) (scr_in hi4 hL (k := 2) (by decide)) dL_law_300 ?_
  refine r_callV (As := [.int (xs (i + 1)), .int (xs (i + 2))]) (rest := [.int r]) (ws' := wA Z t a b hj hd hq hs AD hi IH IA x w er fl me p' pr wt ert flt met pt prt d jc pv' W8' E8' F8' M8' P8' R8' fi WI EI FJ MI PJ RI m' ps' im ik asd rb rp mv') 0 rfl rfl rfl (fun l => c_X7_setPrice Z l x m ps im ik asd rb rp mv (xs (i + 1)) (xs (i + 2)) _ e2) qw_711 mv_X7_setPrice (pk_X rfl) ⟨Nat.le_of_ble_eq_true rfl, Nat.le_of_ble_eq_true rfl⟩ ⟨rfl, rfl⟩ hkc rfl (Nat.le_of_ble_eq_true rfl) rfl dL_law_301 ?_
  refine r_icmp_eq (tgt := 763) dL_law_304 (by decide) (fun _ => ?_) (fun hh => absurd rfl hh)
  exact h w er fl me p' pr wt ert flt met pt prt d jc pv' W8' E8' F8' M8' P8' R8' fi WI EI FJ MI PJ RI m' ps' im ik asd rb rp mv' hP2 hA2 hI
set_option maxHeartbeats 4000000 in
set_option maxRecDepth 100000 in
theorem k_cut {X : CX} {Z : GZ} {kc ks : Nat} {t : Nat} {a : Nat → Nat} {b : Nat → Nat} {hj : Nat} {hd : Nat} {hq : Nat} {hs : Nat} {AD : Nat → Nat → Nat} {hi : Nat} {IH : Nat → Nat} {IA : Nat → Nat → Nat} {x : Nat → Nat} {bs i L : Nat} {xs : Nat → Int32} (hX : scrX X bs L xs) (hi4 : i + 4 ≤ L) (hL : L ≤ 2048) (hkc : kc ≤ room_1.cells ∧ ks ≤ room_1.slots) (h : Nx X Z kc ks t a b hj hd hq hs AD hi IH IA x bs i 763) : Nx X Z kc ks t a b hj hd hq hs AD hi IH IA x bs i 309 := by
  intro w er fl me p pr wt ert flt met pt prt d jc pv W8 E8 F8 M8 P8 R8 fi WI EI FJ MI PJ RI m ps im ik asd rb rp mv hP hA hI
  obtain ⟨r, fl', pv', W8', E8', F8', M8', P8', R8', m', ps', mv', e1, e2, hP2, hA2⟩ := cutF hA hP (xs (i + 1))
  refine r_aload_n dL_law_309 2 rfl ?_
  refine r_aload_n dL_law_310 3 rfl ?_
  refine r_iload_n dL_law_311 0 rfl ?_
  refine r_iconst (v := 1) dL_law_312 kic_1 ?_
  refine r_iadd dL_law_313 ?_
  refine r_sld hX (j := i + 1) (scr_j hi4 hL (k := 1) (by decide)) (scr_in hi4 hL (k := 1) (by decide)) dL_law_314 ?_
  refine r_callV (As := [.int (xs (i + 1))]) (rest := []) (ws' := wA Z t a b hj hd hq hs AD hi IH IA x w er fl' me p pr wt ert flt met pt prt d jc pv' W8' E8' F8' M8' P8' R8' fi WI EI FJ MI PJ RI m ps im ik asd rb rp mv) 0 rfl rfl rfl (fun l => c_X6_cut Z l t (b 0) hj hi a hq hs AD w er fl me p pr pv W8 E8 F8 M8 P8 R8 (xs (i + 1)) _ e1) qw_388 mv_X6_cut (pk_PQ rfl wQ_dom) ⟨Nat.le_of_ble_eq_true rfl, Nat.le_of_ble_eq_true rfl⟩ ⟨rfl, rfl⟩ hkc rfl (Nat.le_of_ble_eq_true rfl) rfl dL_law_315 ?_
  refine r_aload_n dL_law_318 1 rfl ?_
  refine r_aload_n dL_law_319 3 rfl ?_
  refine r_iload_n dL_law_320 0 rfl ?_
  refine r_iconst (v := 1) dL_law_321 kic_1 ?_
  refine r_iadd dL_law_322 ?_
  refine r_sld hX (j := i + 1) (scr_j hi4 hL (k := 1) (by decide)) (scr_in hi4 hL (k := 1) (by decide)) dL_law_323 ?_
  refine r_callV (As := [.int (xs (i + 1))]) (rest := [.int r]) (ws' := wA Z t a b hj hd hq hs AD hi IH IA x w er fl' me p pr wt ert flt met pt prt d jc pv' W8' E8' F8' M8' P8' R8' fi WI EI FJ MI PJ RI m' ps' im ik asd rb rp mv') 0 rfl rfl rfl (fun l => c_X7_cut Z l x m ps im ik asd rb rp mv (xs (i + 1)) _ e2) qw_715 mv_X7_cut (pk_X rfl) ⟨Nat.le_of_ble_eq_true rfl, Nat.le_of_ble_eq_true rfl⟩ ⟨rfl, rfl⟩ hkc rfl (Nat.le_of_ble_eq_true rfl) rfl dL_law_324 ?_
  refine r_icmp_eq (tgt := 763) dL_law_327 (by decide) (fun _ => ?_) (fun hh => absurd rfl hh)
  exact h w er fl' me p pr wt ert flt met pt prt d jc pv' W8' E8' F8' M8' P8' R8' fi WI EI FJ MI PJ RI m' ps' im ik asd rb rp mv' hP2 hA2 hI
set_option maxHeartbeats 4000000 in
set_option maxRecDepth 100000 in
theorem k_off {X : CX} {Z : GZ} {kc ks : Nat} {t : Nat} {a : Nat → Nat} {b : Nat → Nat} {hj : Nat} {hd : Nat} {hq : Nat} {hs : Nat} {AD : Nat → Nat → Nat} {hi : Nat} {IH : Nat → Nat} {IA : Nat → Nat → Nat} {x : Nat → Nat} {bs i L : Nat} {xs : Nat → Int32} (hX : scrX X bs L xs) (hi4 : i + 4 ≤ L) (hL : L ≤ 2048) (hkc : kc ≤ room_1.cells ∧ ks ≤ room_1.slots) (h : Nx X Z kc ks t a b hj hd hq hs AD hi IH IA x bs i 763) : Nx X Z kc ks t a b hj hd hq hs AD hi IH IA x bs i 332 := by
  intro w er fl me p pr wt ert flt met pt prt d jc pv W8 E8 F8 M8 P8 R8 fi WI EI FJ MI PJ RI m ps im ik asd rb rp mv hP hA hI
  obtain ⟨r, me', pr', pv', W8', E8', F8', M8', P8', R8', m', ps', mv', e1, e2, hP2, hA2⟩ := powF hA hP 
  refine r_aload_n dL_law_332 2 rfl ?_
  refine r_callV (As := []) (rest := []) (ws' := wA Z t a b hj hd hq hs AD hi IH IA x w er fl me' p pr' wt ert flt met pt prt d jc pv' W8' E8' F8' M8' P8' R8' fi WI EI FJ MI PJ RI m ps im ik asd rb rp mv) 0 rfl rfl rfl (fun l => c_X6_off Z l t (b 0) hj hi a hq hs AD w er fl me p pr pv W8 E8 F8 M8 P8 R8  _ e1) qw_392 mv_X6_off (pk_PQ rfl wQ_dom) ⟨Nat.le_of_ble_eq_true rfl, Nat.le_of_ble_eq_true rfl⟩ ⟨rfl, rfl⟩ hkc rfl (Nat.le_of_ble_eq_true rfl) rfl dL_law_333 ?_
  refine r_aload_n dL_law_336 1 rfl ?_
  refine r_callV (As := []) (rest := [.int r]) (ws' := wA Z t a b hj hd hq hs AD hi IH IA x w er fl me' p pr' wt ert flt met pt prt d jc pv' W8' E8' F8' M8' P8' R8' fi WI EI FJ MI PJ RI m' ps' im ik asd rb rp mv') 0 rfl rfl rfl (fun l => c_X7_off Z l x m ps im ik asd rb rp mv  _ e2) qw_719 mv_X7_off (pk_X rfl) ⟨Nat.le_of_ble_eq_true rfl, Nat.le_of_ble_eq_true rfl⟩ ⟨rfl, rfl⟩ hkc rfl (Nat.le_of_ble_eq_true rfl) rfl dL_law_337 ?_
  refine r_icmp_eq (tgt := 763) dL_law_340 (by decide) (fun _ => ?_) (fun hh => absurd rfl hh)
  exact h w er fl me' p pr' wt ert flt met pt prt d jc pv' W8' E8' F8' M8' P8' R8' fi WI EI FJ MI PJ RI m' ps' im ik asd rb rp mv' hP2 hA2 hI
set_option maxHeartbeats 4000000 in
set_option maxRecDepth 100000 in
theorem k_start {X : CX} {Z : GZ} {kc ks : Nat} {t : Nat} {a : Nat → Nat} {b : Nat → Nat} {hj : Nat} {hd : Nat} {hq : Nat} {hs : Nat} {AD : Nat → Nat → Nat} {hi : Nat} {IH : Nat → Nat} {IA : Nat → Nat → Nat} {x : Nat → Nat} {bs i L : Nat} {xs : Nat → Int32} (hX : scrX X bs L xs) (hi4 : i + 4 ≤ L) (hL : L ≤ 2048) (hkc : kc ≤ room_1.cells ∧ ks ≤ room_1.slots) (h : Nx X Z kc ks t a b hj hd hq hs AD hi IH IA x bs i 763) : Nx X Z kc ks t a b hj hd hq hs AD hi IH IA x bs i 345 := by
  intro w er fl me p pr wt ert flt met pt prt d jc pv W8 E8 F8 M8 P8 R8 fi WI EI FJ MI PJ RI m ps im ik asd rb rp mv hP hA hI
  obtain ⟨r, me', pr', pv', W8', E8', F8', M8', P8', R8', m', ps', mv', e1, e2, hP2, hA2⟩ := startF hA hP 
  refine r_aload_n dL_law_345 2 rfl ?_
  refine r_callV (As := []) (rest := []) (ws' := wA Z t a b hj hd hq hs AD hi IH IA x w er fl me' p pr' wt ert flt met pt prt d jc pv' W8' E8' F8' M8' P8' R8' fi WI EI FJ MI PJ RI m ps im ik asd rb rp mv) 0 rfl rfl rfl (fun l => c_X6_start Z l t (b 0) hj hi a hq hs AD w er fl me p pr pv W8 E8 F8 M8 P8 R8  _ e1) qw_411 mv_X6_start (pk_PQ rfl wQ_dom) ⟨Nat.le_of_ble_eq_true rfl, Nat.le_of_ble_eq_true rfl⟩ ⟨rfl, rfl⟩ hkc rfl (Nat.le_of_ble_eq_true rfl) rfl dL_law_346 ?_
  refine r_aload_n dL_law_349 1 rfl ?_
  refine r_callV (As := []) (rest := [.int r]) (ws' := wA Z t a b hj hd hq hs AD hi IH IA x w er fl me' p pr' wt ert flt met pt prt d jc pv' W8' E8' F8' M8' P8' R8' fi WI EI FJ MI PJ RI m' ps' im ik asd rb rp mv') 0 rfl rfl rfl (fun l => c_X7_start Z l x m ps im ik asd rb rp mv  _ e2) qw_739 mv_X7_start (pk_X rfl) ⟨Nat.le_of_ble_eq_true rfl, Nat.le_of_ble_eq_true rfl⟩ ⟨rfl, rfl⟩ hkc rfl (Nat.le_of_ble_eq_true rfl) rfl dL_law_350 ?_
  refine r_icmp_eq (tgt := 763) dL_law_353 (by decide) (fun _ => ?_) (fun hh => absurd rfl hh)
  exact h w er fl me' p pr' wt ert flt met pt prt d jc pv' W8' E8' F8' M8' P8' R8' fi WI EI FJ MI PJ RI m' ps' im ik asd rb rp mv' hP2 hA2 hI
set_option maxHeartbeats 4000000 in
set_option maxRecDepth 100000 in
theorem k_told {X : CX} {Z : GZ} {kc ks : Nat} {t : Nat} {a : Nat → Nat} {b : Nat → Nat} {hj : Nat} {hd : Nat} {hq : Nat} {hs : Nat} {AD : Nat → Nat → Nat} {hi : Nat} {IH : Nat → Nat} {IA : Nat → Nat → Nat} {x : Nat → Nat} {bs i L : Nat} {xs : Nat → Int32} (hX : scrX X bs L xs) (hi4 : i + 4 ≤ L) (hL : L ≤ 2048) (hkc : kc ≤ room_1.cells ∧ ks ≤ room_1.slots) (h : Nx X Z kc ks t a b hj hd hq hs AD hi IH IA x bs i 763) : Nx X Z kc ks t a b hj hd hq hs AD hi IH IA x bs i 371 := by
  intro w er fl me p pr wt ert flt met pt prt d jc pv W8 E8 F8 M8 P8 R8 fi WI EI FJ MI PJ RI m ps im ik asd rb rp mv hP hA hI
  obtain ⟨r, e1, e2⟩ := tolF hA hP (xs (i + 1))
  refine r_aload_n dL_law_371 2 rfl ?_
  refine r_aload_n dL_law_372 3 rfl ?_
  refine r_iload_n dL_law_373 0 rfl ?_
  refine r_iconst (v := 1) dL_law_374 kic_1 ?_
  refine r_iadd dL_law_375 ?_
  refine r_sld hX (j := i + 1) (scr_j hi4 hL (k := 1) (by decide)) (scr_in hi4 hL (k := 1) (by decide)) dL_law_376 ?_
  refine r_callV (As := [.int (xs (i + 1))]) (rest := []) (ws' := wA Z t a b hj hd hq hs AD hi IH IA x w er fl me p pr wt ert flt met pt prt d jc pv W8 E8 F8 M8 P8 R8 fi WI EI FJ MI PJ RI m ps im ik asd rb rp mv) 0 rfl rfl rfl (fun l => c_X6_told Z l t (b 0) hj hq hi a hs w er fl me p pr pv (xs (i + 1)) _ e1) qw_447 mv_X6_told pk_Q1 ⟨Nat.le_of_ble_eq_true rfl, Nat.le_of_ble_eq_true rfl⟩ ⟨rfl, rfl⟩ hkc rfl (Nat.le_of_ble_eq_true rfl) rfl dL_law_377 ?_
  refine r_aload_n dL_law_380 1 rfl ?_
  refine r_aload_n dL_law_381 3 rfl ?_
  refine r_iload_n dL_law_382 0 rfl ?_
  refine r_iconst (v := 1) dL_law_383 kic_1 ?_
  refine r_iadd dL_law_384 ?_
  refine r_sld hX (j := i + 1) (scr_j hi4 hL (k := 1) (by decide)) (scr_in hi4 hL (k := 1) (by decide)) dL_law_385 ?_
  refine r_callV (As := [.int (xs (i + 1))]) (rest := [.int r]) (ws' := wA Z t a b hj hd hq hs AD hi IH IA x w er fl me p pr wt ert flt met pt prt d jc pv W8 E8 F8 M8 P8 R8 fi WI EI FJ MI PJ RI m ps im ik asd rb rp mv) 0 rfl rfl rfl (fun l => c_X7_told Z l x m ps im ik asd rb rp mv (xs (i + 1)) _ e2) qw_755 mv_X7_told (pk_X rfl) ⟨Nat.le_of_ble_eq_true rfl, Nat.le_of_ble_eq_true rfl⟩ ⟨rfl, rfl⟩ hkc rfl (Nat.le_of_ble_eq_true rfl) rfl dL_law_386 ?_
  refine r_icmp_eq (tgt := 763) dL_law_389 (by decide) (fun _ => ?_) (fun hh => absurd rfl hh)
  exact h w er fl me p pr wt ert flt met pt prt d jc pv W8 E8 F8 M8 P8 R8 fi WI EI FJ MI PJ RI m ps im ik asd rb rp mv hP hA hI
set_option maxHeartbeats 4000000 in
set_option maxRecDepth 100000 in
theorem k_price {X : CX} {Z : GZ} {kc ks : Nat} {t : Nat} {a : Nat → Nat} {b : Nat → Nat} {hj : Nat} {hd : Nat} {hq : Nat} {hs : Nat} {AD : Nat → Nat → Nat} {hi : Nat} {IH : Nat → Nat} {IA : Nat → Nat → Nat} {x : Nat → Nat} {bs i L : Nat} {xs : Nat → Int32} (hX : scrX X bs L xs) (hi4 : i + 4 ≤ L) (hL : L ≤ 2048) (hkc : kc ≤ room_1.cells ∧ ks ≤ room_1.slots) (h : Nx X Z kc ks t a b hj hd hq hs AD hi IH IA x bs i 763) : Nx X Z kc ks t a b hj hd hq hs AD hi IH IA x bs i 394 := by
  intro w er fl me p pr wt ert flt met pt prt d jc pv W8 E8 F8 M8 P8 R8 fi WI EI FJ MI PJ RI m ps im ik asd rb rp mv hP hA hI
  obtain ⟨r, e1, e2⟩ := prcF hP (xs (i + 1))
  refine r_aload_n dL_law_394 2 rfl ?_
  refine r_aload_n dL_law_395 3 rfl ?_
  refine r_iload_n dL_law_396 0 rfl ?_
  refine r_iconst (v := 1) dL_law_397 kic_1 ?_
  refine r_iadd dL_law_398 ?_
  refine r_sld hX (j := i + 1) (scr_j hi4 hL (k := 1) (by decide)) (scr_in hi4 hL (k := 1) (by decide)) dL_law_399 ?_
  refine r_callV (As := [.int (xs (i + 1))]) (rest := []) (ws' := wA Z t a b hj hd hq hs AD hi IH IA x w er fl me p pr wt ert flt met pt prt d jc pv W8 E8 F8 M8 P8 R8 fi WI EI FJ MI PJ RI m ps im ik asd rb rp mv) 0 rfl rfl rfl (fun l => c_X6_price Z l t (b 0) hj hq hi a w er fl me p pr (xs (i + 1)) _ e1) qw_455 mv_X6_price (pk_P rfl) ⟨Nat.le_of_ble_eq_true rfl, Nat.le_of_ble_eq_true rfl⟩ ⟨rfl, rfl⟩ hkc rfl (Nat.le_of_ble_eq_true rfl) rfl dL_law_400 ?_
  refine r_aload_n dL_law_403 1 rfl ?_
  refine r_aload_n dL_law_404 3 rfl ?_
  refine r_iload_n dL_law_405 0 rfl ?_
  refine r_iconst (v := 1) dL_law_406 kic_1 ?_
  refine r_iadd dL_law_407 ?_
  refine r_sld hX (j := i + 1) (scr_j hi4 hL (k := 1) (by decide)) (scr_in hi4 hL (k := 1) (by decide)) dL_law_408 ?_
  refine r_callV (As := [.int (xs (i + 1))]) (rest := [.int r]) (ws' := wA Z t a b hj hd hq hs AD hi IH IA x w er fl me p pr wt ert flt met pt prt d jc pv W8 E8 F8 M8 P8 R8 fi WI EI FJ MI PJ RI m ps im ik asd rb rp mv) 0 rfl rfl rfl (fun l => c_X7_price Z l x m ps im ik asd rb rp mv (xs (i + 1)) _ e2) qw_759 mv_X7_price (pk_X rfl) ⟨Nat.le_of_ble_eq_true rfl, Nat.le_of_ble_eq_true rfl⟩ ⟨rfl, rfl⟩ hkc rfl (Nat.le_of_ble_eq_true rfl) rfl dL_law_409 ?_
  refine r_icmp_eq (tgt := 763) dL_law_412 (by decide) (fun _ => ?_) (fun hh => absurd rfl hh)
  exact h w er fl me p pr wt ert flt met pt prt d jc pv W8 E8 F8 M8 P8 R8 fi WI EI FJ MI PJ RI m ps im ik asd rb rp mv hP hA hI
set_option maxHeartbeats 4000000 in
set_option maxRecDepth 100000 in
theorem k_word {X : CX} {Z : GZ} {kc ks : Nat} {t : Nat} {a : Nat → Nat} {b : Nat → Nat} {hj : Nat} {hd : Nat} {hq : Nat} {hs : Nat} {AD : Nat → Nat → Nat} {hi : Nat} {IH : Nat → Nat} {IA : Nat → Nat → Nat} {x : Nat → Nat} {bs i L : Nat} {xs : Nat → Int32} (hX : scrX X bs L xs) (hi4 : i + 4 ≤ L) (hL : L ≤ 2048) (hkc : kc ≤ room_1.cells ∧ ks ≤ room_1.slots) (h : Nx X Z kc ks t a b hj hd hq hs AD hi IH IA x bs i 763) : Nx X Z kc ks t a b hj hd hq hs AD hi IH IA x bs i 417 := by
  intro w er fl me p pr wt ert flt met pt prt d jc pv W8 E8 F8 M8 P8 R8 fi WI EI FJ MI PJ RI m ps im ik asd rb rp mv hP hA hI
  obtain ⟨r, e1, e2⟩ := wrdF hP (xs (i + 1)) (xs (i + 2))
  refine r_aload_n dL_law_417 2 rfl ?_
  refine r_aload_n dL_law_418 3 rfl ?_
  refine r_iload_n dL_law_419 0 rfl ?_
  refine r_iconst (v := 1) dL_law_420 kic_1 ?_
  refine r_iadd dL_law_421 ?_
  refine r_sld hX (j := i + 1) (scr_j hi4 hL (k := 1) (by decide)) (scr_in hi4 hL (k := 1) (by decide)) dL_law_422 ?_
  refine r_aload_n dL_law_423 3 rfl ?_
  refine r_iload_n dL_law_424 0 rfl ?_
  refine r_iconst (v := 2) dL_law_425 kic_2 ?_
  refine r_iadd dL_law_426 ?_
  refine r_sld hX (j := i + 2) (scr_j hi4 hL (k := 2) (by decide)) (scr_in hi4 hL (k := 2) (by decide)) dL_law_427 ?_
  refine r_callV (As := [.int (xs (i + 1)), .int (xs (i + 2))]) (rest := []) (ws' := wA Z t a b hj hd hq hs AD hi IH IA x w er fl me p pr wt ert flt met pt prt d jc pv W8 E8 F8 M8 P8 R8 fi WI EI FJ MI PJ RI m ps im ik asd rb rp mv) 0 rfl rfl rfl (fun l => c_X6_word Z l t (b 0) hj hq hi a w er fl me p pr (xs (i + 1)) (xs (i + 2)) _ e1) qw_459 mv_X6_word (pk_P rfl) ⟨Nat.le_of_ble_eq_true rfl, Nat.le_of_ble_eq_true rfl⟩ ⟨rfl, rfl⟩ hkc rfl (Nat.le_of_ble_eq_true rfl) rfl dL_law_428 ?_
  refine r_aload_n dL_law_431 1 rfl ?_
  refine r_aload_n dL_law_432 3 rfl ?_
  refine r_iload_n dL_law_433 0 rfl ?_
  refine r_iconst (v := 1) dL_law_434 kic_1 ?_
  refine r_iadd dL_law_435 ?_
  refine r_sld hX (j := i + 1) (scr_j hi4 hL (k := 1) (by decide)) (scr_in hi4 hL (k := 1) (by decide)) dL_law_436 ?_
  refine r_aload_n dL_law_437 3 rfl ?_
  refine r_iload_n dL_law_438 0 rfl ?_
  refine r_iconst (v := 2) dL_law_439 kic_2 ?_
  refine r_iadd dL_law_440 ?_
  refine r_sld hX (j := i + 2) (scr_j hi4 hL (k := 2) (by decide)) (scr_in hi4 hL (k := 2) (by decide)) dL_law_441 ?_
  refine r_callV (As := [.int (xs (i + 1)), .int (xs (i + 2))]) (rest := [.int r]) (ws' := wA Z t a b hj hd hq hs AD hi IH IA x w er fl me p pr wt ert flt met pt prt d jc pv W8 E8 F8 M8 P8 R8 fi WI EI FJ MI PJ RI m ps im ik asd rb rp mv) 0 rfl rfl rfl (fun l => c_X7_word Z l x m ps im ik asd rb rp mv (xs (i + 1)) (xs (i + 2)) _ e2) qw_763 mv_X7_word (pk_X rfl) ⟨Nat.le_of_ble_eq_true rfl, Nat.le_of_ble_eq_true rfl⟩ ⟨rfl, rfl⟩ hkc rfl (Nat.le_of_ble_eq_true rfl) rfl dL_law_442 ?_
  refine r_icmp_eq (tgt := 763) dL_law_445 (by decide) (fun _ => ?_) (fun hh => absurd rfl hh)
  exact h w er fl me p pr wt ert flt met pt prt d jc pv W8 E8 F8 M8 P8 R8 fi WI EI FJ MI PJ RI m ps im ik asd rb rp mv hP hA hI
set_option maxHeartbeats 4000000 in
set_option maxRecDepth 100000 in
theorem k_block {X : CX} {Z : GZ} {kc ks : Nat} {t : Nat} {a : Nat → Nat} {b : Nat → Nat} {hj : Nat} {hd : Nat} {hq : Nat} {hs : Nat} {AD : Nat → Nat → Nat} {hi : Nat} {IH : Nat → Nat} {IA : Nat → Nat → Nat} {x : Nat → Nat} {bs i L : Nat} {xs : Nat → Int32} (hX : scrX X bs L xs) (hi4 : i + 4 ≤ L) (hL : L ≤ 2048) (hkc : kc ≤ room_1.cells ∧ ks ≤ room_1.slots) (h : Nx X Z kc ks t a b hj hd hq hs AD hi IH IA x bs i 763) : Nx X Z kc ks t a b hj hd hq hs AD hi IH IA x bs i 450 := by
  intro w er fl me p pr wt ert flt met pt prt d jc pv W8 E8 F8 M8 P8 R8 fi WI EI FJ MI PJ RI m ps im ik asd rb rp mv hP hA hI
  obtain ⟨r, e1, e2⟩ := blkF hP (xs (i + 1)) (xs (i + 2))
  refine r_aload_n dL_law_450 2 rfl ?_
  refine r_aload_n dL_law_451 3 rfl ?_
  refine r_iload_n dL_law_452 0 rfl ?_
  refine r_iconst (v := 1) dL_law_453 kic_1 ?_
  refine r_iadd dL_law_454 ?_
  refine r_sld hX (j := i + 1) (scr_j hi4 hL (k := 1) (by decide)) (scr_in hi4 hL (k := 1) (by decide)) dL_law_455 ?_
  refine r_aload_n dL_law_456 3 rfl ?_
  refine r_iload_n dL_law_457 0 rfl ?_
  refine r_iconst (v := 2) dL_law_458 kic_2 ?_
  refine r_iadd dL_law_459 ?_
  refine r_sld hX (j := i + 2) (scr_j hi4 hL (k := 2) (by decide)) (scr_in hi4 hL (k := 2) (by decide)) dL_law_460 ?_
  refine r_callV (As := [.int (xs (i + 1)), .int (xs (i + 2))]) (rest := []) (ws' := wA Z t a b hj hd hq hs AD hi IH IA x w er fl me p pr wt ert flt met pt prt d jc pv W8 E8 F8 M8 P8 R8 fi WI EI FJ MI PJ RI m ps im ik asd rb rp mv) 0 rfl rfl rfl (fun l => c_X6_block Z l t (b 0) hj hq hi a w er fl me p pr (xs (i + 1)) (xs (i + 2)) _ e1) qw_467 mv_X6_block (pk_P rfl) ⟨Nat.le_of_ble_eq_true rfl, Nat.le_of_ble_eq_true rfl⟩ ⟨rfl, rfl⟩ hkc rfl (Nat.le_of_ble_eq_true rfl) rfl dL_law_461 ?_
  refine r_aload_n dL_law_464 1 rfl ?_
  refine r_aload_n dL_law_465 3 rfl ?_
  refine r_iload_n dL_law_466 0 rfl ?_
  refine r_iconst (v := 1) dL_law_467 kic_1 ?_
  refine r_iadd dL_law_468 ?_
  refine r_sld hX (j := i + 1) (scr_j hi4 hL (k := 1) (by decide)) (scr_in hi4 hL (k := 1) (by decide)) dL_law_469 ?_
  refine r_aload_n dL_law_470 3 rfl ?_
  refine r_iload_n dL_law_471 0 rfl ?_
  refine r_iconst (v := 2) dL_law_472 kic_2 ?_
  refine r_iadd dL_law_473 ?_
  refine r_sld hX (j := i + 2) (scr_j hi4 hL (k := 2) (by decide)) (scr_in hi4 hL (k := 2) (by decide)) dL_law_474 ?_
  refine r_callV (As := [.int (xs (i + 1)), .int (xs (i + 2))]) (rest := [.int r]) (ws' := wA Z t a b hj hd hq hs AD hi IH IA x w er fl me p pr wt ert flt met pt prt d jc pv W8 E8 F8 M8 P8 R8 fi WI EI FJ MI PJ RI m ps im ik asd rb rp mv) 0 rfl rfl rfl (fun l => c_X7_block Z l x m ps im ik asd rb rp mv (xs (i + 1)) (xs (i + 2)) _ e2) qw_770 mv_X7_block (pk_X rfl) ⟨Nat.le_of_ble_eq_true rfl, Nat.le_of_ble_eq_true rfl⟩ ⟨rfl, rfl⟩ hkc rfl (Nat.le_of_ble_eq_true rfl) rfl dL_law_475 ?_
  refine r_icmp_eq (tgt := 763) dL_law_478 (by decide) (fun _ => ?_) (fun hh => absurd rfl hh)
  exact h w er fl me p pr wt ert flt met pt prt d jc pv W8 E8 F8 M8 P8 R8 fi WI EI FJ MI PJ RI m ps im ik asd rb rp mv hP hA hI
set_option maxHeartbeats 4000000 in
set_option maxRecDepth 100000 in
theorem k_records {X : CX} {Z : GZ} {kc ks : Nat} {t : Nat} {a : Nat → Nat} {b : Nat → Nat} {hj : Nat} {hd : Nat} {hq : Nat} {hs : Nat} {AD : Nat → Nat → Nat} {hi : Nat} {IH : Nat → Nat} {IA : Nat → Nat → Nat} {x : Nat → Nat} {bs i L : Nat} {xs : Nat → Int32} (hX : scrX X bs L xs) (hi4 : i + 4 ≤ L) (hL : L ≤ 2048) (hkc : kc ≤ room_1.cells ∧ ks ≤ room_1.slots) (h : Nx X Z kc ks t a b hj hd hq hs AD hi IH IA x bs i 763) : Nx X Z kc ks t a b hj hd hq hs AD hi IH IA x bs i 483 := by
  intro w er fl me p pr wt ert flt met pt prt d jc pv W8 E8 F8 M8 P8 R8 fi WI EI FJ MI PJ RI m ps im ik asd rb rp mv hP hA hI
  obtain ⟨B, S, kq, hFI⟩ := hP.fi
  obtain ⟨r, d', jc', e1, e2⟩ := recsF hP.1.1.1 hFI d jc (xs (i + 1))
  refine r_aload_n dL_law_483 2 rfl ?_
  refine r_aload_n dL_law_484 3 rfl ?_
  refine r_iload_n dL_law_485 0 rfl ?_
  refine r_iconst (v := 1) dL_law_486 kic_1 ?_
  refine r_iadd dL_law_487 ?_
  refine r_sld hX (j := i + 1) (scr_j hi4 hL (k := 1) (by decide)) (scr_in hi4 hL (k := 1) (by decide)) dL_law_488 ?_
  refine r_callV (As := [.int (xs (i + 1))]) (rest := []) (ws' := wA Z t a b hj hd hq hs AD hi IH IA x w er fl me p pr wt ert flt met pt prt d' jc' pv W8 E8 F8 M8 P8 R8 fi WI EI FJ MI PJ RI m ps im ik asd rb rp mv) 0 rfl rfl rfl (fun l => c_X6_records Z l t (b 0) hq hi a hj hd w er fl me p pr d jc (xs (i + 1)) _ e1) qw_477 mv_X6_records (pk_PJ rfl rfl) ⟨Nat.le_of_ble_eq_true rfl, Nat.le_of_ble_eq_true rfl⟩ ⟨rfl, rfl⟩ hkc rfl (Nat.le_of_ble_eq_true rfl) rfl dL_law_489 ?_
  refine r_aload_n dL_law_492 1 rfl ?_
  refine r_aload_n dL_law_493 3 rfl ?_
  refine r_iload_n dL_law_494 0 rfl ?_
  refine r_iconst (v := 1) dL_law_495 kic_1 ?_
  refine r_iadd dL_law_496 ?_
  refine r_sld hX (j := i + 1) (scr_j hi4 hL (k := 1) (by decide)) (scr_in hi4 hL (k := 1) (by decide)) dL_law_497 ?_
  refine r_callV (As := [.int (xs (i + 1))]) (rest := [.int r]) (ws' := wA Z t a b hj hd hq hs AD hi IH IA x w er fl me p pr wt ert flt met pt prt d' jc' pv W8 E8 F8 M8 P8 R8 fi WI EI FJ MI PJ RI m ps im ik asd rb rp mv) 0 rfl rfl rfl (fun l => c_X7_records Z l x m ps im ik asd rb rp mv (xs (i + 1)) _ e2) qw_774 mv_X7_records (pk_X rfl) ⟨Nat.le_of_ble_eq_true rfl, Nat.le_of_ble_eq_true rfl⟩ ⟨rfl, rfl⟩ hkc rfl (Nat.le_of_ble_eq_true rfl) rfl dL_law_498 ?_
  refine r_icmp_eq (tgt := 763) dL_law_501 (by decide) (fun _ => ?_) (fun hh => absurd rfl hh)
  exact h w er fl me p pr wt ert flt met pt prt d' jc' pv W8 E8 F8 M8 P8 R8 fi WI EI FJ MI PJ RI m ps im ik asd rb rp mv hP hA hI
set_option maxHeartbeats 4000000 in
set_option maxRecDepth 100000 in
theorem k_record {X : CX} {Z : GZ} {kc ks : Nat} {t : Nat} {a : Nat → Nat} {b : Nat → Nat} {hj : Nat} {hd : Nat} {hq : Nat} {hs : Nat} {AD : Nat → Nat → Nat} {hi : Nat} {IH : Nat → Nat} {IA : Nat → Nat → Nat} {x : Nat → Nat} {bs i L : Nat} {xs : Nat → Int32} (hX : scrX X bs L xs) (hi4 : i + 4 ≤ L) (hL : L ≤ 2048) (hkc : kc ≤ room_1.cells ∧ ks ≤ room_1.slots) (h : Nx X Z kc ks t a b hj hd hq hs AD hi IH IA x bs i 763) : Nx X Z kc ks t a b hj hd hq hs AD hi IH IA x bs i 506 := by
  intro w er fl me p pr wt ert flt met pt prt d jc pv W8 E8 F8 M8 P8 R8 fi WI EI FJ MI PJ RI m ps im ik asd rb rp mv hP hA hI
  obtain ⟨B, S, kq, hFI⟩ := hP.fi
  obtain ⟨r, d', jc', rb', rp', mv', e1, e2, he⟩ := recF hP.1.1.1 hFI d rb rp mv jc (xs (i + 1)) (xs (i + 2))
  have hA2 := hA.cgm he
  refine r_aload_n dL_law_506 2 rfl ?_
  refine r_aload_n dL_law_507 3 rfl ?_
  refine r_iload_n dL_law_508 0 rfl ?_
  refine r_iconst (v := 1) dL_law_509 kic_1 ?_
  refine r_iadd dL_law_510 ?_
  refine r_sld hX (j := i + 1) (scr_j hi4 hL (k := 1) (by decide)) (scr_in hi4 hL (k := 1) (by decide)) dL_law_511 ?_
  refine r_aload_n dL_law_512 3 rfl ?_
  refine r_iload_n dL_law_513 0 rfl ?_
  refine r_iconst (v := 2) dL_law_514 kic_2 ?_
  refine r_iadd dL_law_515 ?_
  refine r_sld hX (j := i + 2) (scr_j hi4 hL (k := 2) (by decide)) (scr_in hi4 hL (k := 2) (by decide)) dL_law_516 ?_
  refine r_callV (As := [.int (xs (i + 1)), .int (xs (i + 2))]) (rest := []) (ws' := wA Z t a b hj hd hq hs AD hi IH IA x w er fl me p pr wt ert flt met pt prt d' jc' pv W8 E8 F8 M8 P8 R8 fi WI EI FJ MI PJ RI m ps im ik asd rb rp mv) 0 rfl rfl rfl (fun l => c_X6_record Z l t (b 0) hq hi a hj hd w er fl me p pr d jc (xs (i + 1)) (xs (i + 2)) _ e1) qw_505 mv_X6_record (pk_PJ rfl rfl) ⟨Nat.le_of_ble_eq_true rfl, Nat.le_of_ble_eq_true rfl⟩ ⟨rfl, rfl⟩ hkc rfl (Nat.le_of_ble_eq_true rfl) rfl dL_law_517 ?_
  refine r_aload_n dL_law_520 1 rfl ?_
  refine r_aload_n dL_law_521 3 rfl ?_
  refine r_iload_n dL_law_522 0 rfl ?_
  refine r_iconst (v := 1) dL_law_523 kic_1 ?_
  refine r_iadd dL_law_524 ?_
  refine r_sld hX (j := i + 1) (scr_j hi4 hL (k := 1) (by decide)) (scr_in hi4 hL (k := 1) (by decide)) dL_law_525 ?_
  refine r_aload_n dL_law_526 3 rfl ?_
  refine r_iload_n dL_law_527 0 rfl ?_
  refine r_iconst (v := 2) dL_law_528 kic_2 ?_
  refine r_iadd dL_law_529 ?_
  refine r_sld hX (j := i + 2) (scr_j hi4 hL (k := 2) (by decide)) (scr_in hi4 hL (k := 2) (by decide)) dL_law_530 ?_
  refine r_callV (As := [.int (xs (i + 1)), .int (xs (i + 2))]) (rest := [.int r]) (ws' := wA Z t a b hj hd hq hs AD hi IH IA x w er fl me p pr wt ert flt met pt prt d' jc' pv W8 E8 F8 M8 P8 R8 fi WI EI FJ MI PJ RI m ps im ik asd rb' rp' mv') 0 rfl rfl rfl (fun l => c_X7_record Z l x m ps im ik asd rb rp mv (xs (i + 1)) (xs (i + 2)) _ e2) qw_778 mv_X7_record (pk_X rfl) ⟨Nat.le_of_ble_eq_true rfl, Nat.le_of_ble_eq_true rfl⟩ ⟨rfl, rfl⟩ hkc rfl (Nat.le_of_ble_eq_true rfl) rfl dL_law_531 ?_
  refine r_icmp_eq (tgt := 763) dL_law_534 (by decide) (fun _ => ?_) (fun hh => absurd rfl hh)
  exact h w er fl me p pr wt ert flt met pt prt d' jc' pv W8 E8 F8 M8 P8 R8 fi WI EI FJ MI PJ RI m ps im ik asd rb' rp' mv' hP hA2 hI
set_option maxHeartbeats 4000000 in
set_option maxRecDepth 100000 in
theorem k_takings {X : CX} {Z : GZ} {kc ks : Nat} {t : Nat} {a : Nat → Nat} {b : Nat → Nat} {hj : Nat} {hd : Nat} {hq : Nat} {hs : Nat} {AD : Nat → Nat → Nat} {hi : Nat} {IH : Nat → Nat} {IA : Nat → Nat → Nat} {x : Nat → Nat} {bs i L : Nat} {xs : Nat → Int32} (hX : scrX X bs L xs) (hi4 : i + 4 ≤ L) (hL : L ≤ 2048) (hkc : kc ≤ room_1.cells ∧ ks ≤ room_1.slots) (h : Nx X Z kc ks t a b hj hd hq hs AD hi IH IA x bs i 763) : Nx X Z kc ks t a b hj hd hq hs AD hi IH IA x bs i 539 := by
  intro w er fl me p pr wt ert flt met pt prt d jc pv W8 E8 F8 M8 P8 R8 fi WI EI FJ MI PJ RI m ps im ik asd rb rp mv hP hA hI
  obtain ⟨B, S, kq, hFI⟩ := hP.fi
  obtain ⟨r, d', jc', rb', rp', mv', e1, e2, he⟩ := takF hP.1.1.1 hFI d rb rp mv jc (xs (i + 1))
  have hA2 := hA.cgm he
  refine r_aload_n dL_law_539 2 rfl ?_
  refine r_aload_n dL_law_540 3 rfl ?_
  refine r_iload_n dL_law_541 0 rfl ?_
  refine r_iconst (v := 1) dL_law_542 kic_1 ?_
  refine r_iadd dL_law_543 ?_
  refine r_sld hX (j := i + 1) (scr_j hi4 hL (k := 1) (by decide)) (scr_in hi4 hL (k := 1) (by decide)) dL_law_544 ?_
  refine r_callV (As := [.int (xs (i + 1))]) (rest := []) (ws' := wA Z t a b hj hd hq hs AD hi IH IA x w er fl me p pr wt ert flt met pt prt d' jc' pv W8 E8 F8 M8 P8 R8 fi WI EI FJ MI PJ RI m ps im ik asd rb rp mv) 0 rfl rfl rfl (fun l => c_X6_takings Z l t (b 0) hq hi a hj hd w er fl me p pr d jc (xs (i + 1)) _ e1) qw_510 mv_X6_takings (pk_PJ rfl rfl) ⟨Nat.le_of_ble_eq_true rfl, Nat.le_of_ble_eq_true rfl⟩ ⟨rfl, rfl⟩ hkc rfl (Nat.le_of_ble_eq_true rfl) rfl dL_law_545 ?_
  refine r_aload_n dL_law_548 1 rfl ?_
  refine r_aload_n dL_law_549 3 rfl ?_
  refine r_iload_n dL_law_550 0 rfl ?_
  refine r_iconst (v := 1) dL_law_551 kic_1 ?_
  refine r_iadd dL_law_552 ?_
  refine r_sld hX (j := i + 1) (scr_j hi4 hL (k := 1) (by decide)) (scr_in hi4 hL (k := 1) (by decide)) dL_law_553 ?_
  refine r_callV (As := [.int (xs (i + 1))]) (rest := [.int r]) (ws' := wA Z t a b hj hd hq hs AD hi IH IA x w er fl me p pr wt ert flt met pt prt d' jc' pv W8 E8 F8 M8 P8 R8 fi WI EI FJ MI PJ RI m ps im ik asd rb' rp' mv') 0 rfl rfl rfl (fun l => c_X7_takings Z l x m ps im ik asd rb rp mv (xs (i + 1)) _ e2) qw_794 mv_X7_takings (pk_X rfl) ⟨Nat.le_of_ble_eq_true rfl, Nat.le_of_ble_eq_true rfl⟩ ⟨rfl, rfl⟩ hkc rfl (Nat.le_of_ble_eq_true rfl) rfl dL_law_554 ?_
  refine r_icmp_eq (tgt := 763) dL_law_557 (by decide) (fun _ => ?_) (fun hh => absurd rfl hh)
  exact h w er fl me p pr wt ert flt met pt prt d' jc' pv W8 E8 F8 M8 P8 R8 fi WI EI FJ MI PJ RI m ps im ik asd rb' rp' mv' hP hA2 hI
set_option maxHeartbeats 4000000 in
set_option maxRecDepth 100000 in
theorem k_times {X : CX} {Z : GZ} {kc ks : Nat} {t : Nat} {a : Nat → Nat} {b : Nat → Nat} {hj : Nat} {hd : Nat} {hq : Nat} {hs : Nat} {AD : Nat → Nat → Nat} {hi : Nat} {IH : Nat → Nat} {IA : Nat → Nat → Nat} {x : Nat → Nat} {bs i L : Nat} {xs : Nat → Int32} (hX : scrX X bs L xs) (hi4 : i + 4 ≤ L) (hL : L ≤ 2048) (hkc : kc ≤ room_1.cells ∧ ks ≤ room_1.slots) (h : Nx X Z kc ks t a b hj hd hq hs AD hi IH IA x bs i 763) : Nx X Z kc ks t a b hj hd hq hs AD hi IH IA x bs i 605 := by
  intro w er fl me p pr wt ert flt met pt prt d jc pv W8 E8 F8 M8 P8 R8 fi WI EI FJ MI PJ RI m ps im ik asd rb rp mv hP hA hI
  obtain ⟨B, S, kq, hFI⟩ := hP.fi
  obtain ⟨r, d', jc', rb', rp', mv', e1, e2, he⟩ := timF hP.1.1.1 hFI d rb rp mv jc (xs (i + 1))
  have hA2 := hA.cgm he
  refine r_aload_n dL_law_605 2 rfl ?_
  refine r_aload_n dL_law_606 3 rfl ?_
  refine r_iload_n dL_law_607 0 rfl ?_
  refine r_iconst (v := 1) dL_law_608 kic_1 ?_
  refine r_iadd dL_law_609 ?_
  refine r_sld hX (j := i + 1) (scr_j hi4 hL (k := 1) (by decide)) (scr_in hi4 hL (k := 1) (by decide)) dL_law_610 ?_
  refine r_callV (As := [.int (xs (i + 1))]) (rest := []) (ws' := wA Z t a b hj hd hq hs AD hi IH IA x w er fl me p pr wt ert flt met pt prt d' jc' pv W8 E8 F8 M8 P8 R8 fi WI EI FJ MI PJ RI m ps im ik asd rb rp mv) 0 rfl rfl rfl (fun l => c_X6_times Z l t (b 0) hq hi a hj hd w er fl me p pr d jc (xs (i + 1)) _ e1) qw_522 mv_X6_times (pk_PJ rfl rfl) ⟨Nat.le_of_ble_eq_true rfl, Nat.le_of_ble_eq_true rfl⟩ ⟨rfl, rfl⟩ hkc rfl (Nat.le_of_ble_eq_true rfl) rfl dL_law_611 ?_
  refine r_aload_n dL_law_614 1 rfl ?_
  refine r_aload_n dL_law_615 3 rfl ?_
  refine r_iload_n dL_law_616 0 rfl ?_
  refine r_iconst (v := 1) dL_law_617 kic_1 ?_
  refine r_iadd dL_law_618 ?_
  refine r_sld hX (j := i + 1) (scr_j hi4 hL (k := 1) (by decide)) (scr_in hi4 hL (k := 1) (by decide)) dL_law_619 ?_
  refine r_callV (As := [.int (xs (i + 1))]) (rest := [.int r]) (ws' := wA Z t a b hj hd hq hs AD hi IH IA x w er fl me p pr wt ert flt met pt prt d' jc' pv W8 E8 F8 M8 P8 R8 fi WI EI FJ MI PJ RI m ps im ik asd rb' rp' mv') 0 rfl rfl rfl (fun l => c_X7_times Z l x m ps im ik asd rb rp mv (xs (i + 1)) _ e2) qw_802 mv_X7_times (pk_X rfl) ⟨Nat.le_of_ble_eq_true rfl, Nat.le_of_ble_eq_true rfl⟩ ⟨rfl, rfl⟩ hkc rfl (Nat.le_of_ble_eq_true rfl) rfl dL_law_620 ?_
  refine r_icmp_eq (tgt := 763) dL_law_623 (by decide) (fun _ => ?_) (fun hh => absurd rfl hh)
  exact h w er fl me p pr wt ert flt met pt prt d' jc' pv W8 E8 F8 M8 P8 R8 fi WI EI FJ MI PJ RI m ps im ik asd rb' rp' mv' hP hA2 hI
set_option maxHeartbeats 4000000 in
set_option maxRecDepth 100000 in
theorem k_operations {X : CX} {Z : GZ} {kc ks : Nat} {t : Nat} {a : Nat → Nat} {b : Nat → Nat} {hj : Nat} {hd : Nat} {hq : Nat} {hs : Nat} {AD : Nat → Nat → Nat} {hi : Nat} {IH : Nat → Nat} {IA : Nat → Nat → Nat} {x : Nat → Nat} {bs i L : Nat} {xs : Nat → Int32} (hX : scrX X bs L xs) (hi4 : i + 4 ≤ L) (hL : L ≤ 2048) (hkc : kc ≤ room_1.cells ∧ ks ≤ room_1.slots) (h : Nx X Z kc ks t a b hj hd hq hs AD hi IH IA x bs i 763) : Nx X Z kc ks t a b hj hd hq hs AD hi IH IA x bs i 628 := by
  intro w er fl me p pr wt ert flt met pt prt d jc pv W8 E8 F8 M8 P8 R8 fi WI EI FJ MI PJ RI m ps im ik asd rb rp mv hP hA hI
  obtain ⟨r, wt', ert', flt', met', pt', prt', m', asd', e1, e2, hP2⟩ := opsF hP wt ert flt met pt prt asd (xs (i + 1))
  refine r_aload_n dL_law_628 2 rfl ?_
  refine r_aload_n dL_law_629 3 rfl ?_
  refine r_iload_n dL_law_630 0 rfl ?_
  refine r_iconst (v := 1) dL_law_631 kic_1 ?_
  refine r_iadd dL_law_632 ?_
  refine r_sld hX (j := i + 1) (scr_j hi4 hL (k := 1) (by decide)) (scr_in hi4 hL (k := 1) (by decide)) dL_law_633 ?_
  refine r_callV (As := [.int (xs (i + 1))]) (rest := []) (ws' := wA Z t a b hj hd hq hs AD hi IH IA x w er fl me p pr wt' ert' flt' met' pt' prt' d jc pv W8 E8 F8 M8 P8 R8 fi WI EI FJ MI PJ RI m ps im ik asd rb rp mv) 0 rfl rfl rfl (fun l => c_X6_operations Z l t hj hq hi a b w er fl me p pr wt ert flt met pt prt (xs (i + 1)) _ e1) qw_545 mv_X6_operations (pk_PR rfl rfl) ⟨Nat.le_of_ble_eq_true rfl, Nat.le_of_ble_eq_true rfl⟩ ⟨rfl, rfl⟩ hkc rfl (Nat.le_of_ble_eq_true rfl) rfl dL_law_634 ?_
  refine r_aload_n dL_law_637 1 rfl ?_
  refine r_aload_n dL_law_638 3 rfl ?_
  refine r_iload_n dL_law_639 0 rfl ?_
  refine r_iconst (v := 1) dL_law_640 kic_1 ?_
  refine r_iadd dL_law_641 ?_
  refine r_sld hX (j := i + 1) (scr_j hi4 hL (k := 1) (by decide)) (scr_in hi4 hL (k := 1) (by decide)) dL_law_642 ?_
  refine r_callV (As := [.int (xs (i + 1))]) (rest := [.int r]) (ws' := wA Z t a b hj hd hq hs AD hi IH IA x w er fl me p pr wt' ert' flt' met' pt' prt' d jc pv W8 E8 F8 M8 P8 R8 fi WI EI FJ MI PJ RI m' ps im ik asd' rb rp mv) 0 rfl rfl rfl (fun l => c_X7_operations Z l x m ps im ik asd rb rp mv (xs (i + 1)) _ e2) qw_806 mv_X7_operations (pk_X rfl) ⟨Nat.le_of_ble_eq_true rfl, Nat.le_of_ble_eq_true rfl⟩ ⟨rfl, rfl⟩ hkc rfl (Nat.le_of_ble_eq_true rfl) rfl dL_law_643 ?_
  refine r_icmp_eq (tgt := 763) dL_law_646 (by decide) (fun _ => ?_) (fun hh => absurd rfl hh)
  exact h w er fl me p pr wt' ert' flt' met' pt' prt' d jc pv W8 E8 F8 M8 P8 R8 fi WI EI FJ MI PJ RI m' ps im ik asd' rb rp mv hP2 hA hI
set_option maxHeartbeats 4000000 in
set_option maxRecDepth 100000 in
theorem k_after {X : CX} {Z : GZ} {kc ks : Nat} {t : Nat} {a : Nat → Nat} {b : Nat → Nat} {hj : Nat} {hd : Nat} {hq : Nat} {hs : Nat} {AD : Nat → Nat → Nat} {hi : Nat} {IH : Nat → Nat} {IA : Nat → Nat → Nat} {x : Nat → Nat} {bs i L : Nat} {xs : Nat → Int32} (hX : scrX X bs L xs) (hi4 : i + 4 ≤ L) (hL : L ≤ 2048) (hkc : kc ≤ room_1.cells ∧ ks ≤ room_1.slots) (h : Nx X Z kc ks t a b hj hd hq hs AD hi IH IA x bs i 763) : Nx X Z kc ks t a b hj hd hq hs AD hi IH IA x bs i 651 := by
  intro w er fl me p pr wt ert flt met pt prt d jc pv W8 E8 F8 M8 P8 R8 fi WI EI FJ MI PJ RI m ps im ik asd rb rp mv hP hA hI
  obtain ⟨r, wt', ert', flt', met', pt', prt', m', asd', e1, e2, hP2⟩ := aftF hP wt ert flt met pt prt asd (xs (i + 1)) (xs (i + 2)) (xs (i + 3))
  refine r_aload_n dL_law_651 2 rfl ?_
  refine r_aload_n dL_law_652 3 rfl ?_
  refine r_iload_n dL_law_653 0 rfl ?_
  refine r_iconst (v := 1) dL_law_654 kic_1 ?_
  refine r_iadd dL_law_655 ?_
  refine r_sld hX (j := i + 1) (scr_j hi4 hL (k := 1) (by decide)) (scr_in hi4 hL (k := 1) (by decide)) dL_law_656 ?_
  refine r_aload_n dL_law_657 3 rfl ?_
  refine r_iload_n dL_law_658 0 rfl ?_
  refine r_iconst (v := 2) dL_law_659 kic_2 ?_
  refine r_iadd dL_law_660 ?_
  refine r_sld hX (j := i + 2) (scr_j hi4 hL (k := 2) (by decide)) (scr_in hi4 hL (k := 2) (by decide)) dL_law_661 ?_
  refine r_aload_n dL_law_662 3 rfl ?_
  refine r_iload_n dL_law_663 0 rfl ?_
  refine r_iconst (v := 3) dL_law_664 kic_3 ?_
  refine r_iadd dL_law_665 ?_
  refine r_sld hX (j := i + 3) (scr_j hi4 hL (k := 3) (by decide)) (scr_in hi4 hL (k := 3) (by decide)) dL_law_666 ?_
  refine r_callV (As := [.int (xs (i + 1)), .int (xs (i + 2)), .int (xs (i + 3))]) (rest := []) (ws' := wA Z t a b hj hd hq hs AD hi IH IA x w er fl me p pr wt' ert' flt' met' pt' prt' d jc pv W8 E8 F8 M8 P8 R8 fi WI EI FJ MI PJ RI m ps im ik asd rb rp mv) 0 rfl rfl rfl (fun l => c_X6_after Z l t hj hq hi a b w er fl me p pr wt ert flt met pt prt (xs (i + 1)) (xs (i + 2)) (xs (i + 3)) _ e1) qw_554 mv_X6_after (pk_PR rfl rfl) ⟨Nat.le_of_ble_eq_true rfl, Nat.le_of_ble_eq_true rfl⟩ ⟨rfl, rfl⟩ hkc rfl (Nat.le_of_ble_eq_true rfl) rfl dL_law_667 ?_
  refine r_aload_n dL_law_670 1 rfl ?_
  refine r_aload_n dL_law_671 3 rfl ?_
  refine r_iload_n dL_law_672 0 rfl ?_
  refine r_iconst (v := 1) dL_law_673 kic_1 ?_
  refine r_iadd dL_law_674 ?_
  refine r_sld hX (j := i + 1) (scr_j hi4 hL (k := 1) (by decide)) (scr_in hi4 hL (k := 1) (by decide)) dL_law_675 ?_
  refine r_aload_n dL_law_676 3 rfl ?_
  refine r_iload_n dL_law_677 0 rfl ?_
  refine r_iconst (v := 2) dL_law_678 kic_2 ?_
  refine r_iadd dL_law_679 ?_
  refine r_sld hX (j := i + 2) (scr_j hi4 hL (k := 2) (by decide)) (scr_in hi4 hL (k := 2) (by decide)) dL_law_680 ?_
  refine r_aload_n dL_law_681 3 rfl ?_
  refine r_iload_n dL_law_682 0 rfl ?_
  refine r_iconst (v := 3) dL_law_683 kic_3 ?_
  refine r_iadd dL_law_684 ?_
  refine r_sld hX (j := i + 3) (scr_j hi4 hL (k := 3) (by decide)) (scr_in hi4 hL (k := 3) (by decide)) dL_law_685 ?_
  refine r_callV (As := [.int (xs (i + 1)), .int (xs (i + 2)), .int (xs (i + 3))]) (rest := [.int r]) (ws' := wA Z t a b hj hd hq hs AD hi IH IA x w er fl me p pr wt' ert' flt' met' pt' prt' d jc pv W8 E8 F8 M8 P8 R8 fi WI EI FJ MI PJ RI m' ps im ik asd' rb rp mv) 0 rfl rfl rfl (fun l => c_X7_after Z l x m ps im ik asd rb rp mv (xs (i + 1)) (xs (i + 2)) (xs (i + 3)) _ e2) qw_818 mv_X7_after (pk_X rfl) ⟨Nat.le_of_ble_eq_true rfl, Nat.le_of_ble_eq_true rfl⟩ ⟨rfl, rfl⟩ hkc rfl (Nat.le_of_ble_eq_true rfl) rfl dL_law_686 ?_
  refine r_icmp_eq (tgt := 763) dL_law_689 (by decide) (fun _ => ?_) (fun hh => absurd rfl hh)
  exact h w er fl me p pr wt' ert' flt' met' pt' prt' d jc pv W8 E8 F8 M8 P8 R8 fi WI EI FJ MI PJ RI m' ps im ik asd' rb rp mv hP2 hA hI
set_option maxHeartbeats 4000000 in
set_option maxRecDepth 100000 in
theorem k_needed {X : CX} {Z : GZ} {kc ks : Nat} {t : Nat} {a : Nat → Nat} {b : Nat → Nat} {hj : Nat} {hd : Nat} {hq : Nat} {hs : Nat} {AD : Nat → Nat → Nat} {hi : Nat} {IH : Nat → Nat} {IA : Nat → Nat → Nat} {x : Nat → Nat} {bs i L : Nat} {xs : Nat → Int32} (hX : scrX X bs L xs) (hi4 : i + 4 ≤ L) (hL : L ≤ 2048) (hkc : kc ≤ room_1.cells ∧ ks ≤ room_1.slots) (h : Nx X Z kc ks t a b hj hd hq hs AD hi IH IA x bs i 763) : Nx X Z kc ks t a b hj hd hq hs AD hi IH IA x bs i 694 := by
  intro w er fl me p pr wt ert flt met pt prt d jc pv W8 E8 F8 M8 P8 R8 fi WI EI FJ MI PJ RI m ps im ik asd rb rp mv hP hA hI
  obtain ⟨r, e1, e2⟩ := nedF hP (xs (i + 1))
  refine r_aload_n dL_law_694 2 rfl ?_
  refine r_aload_n dL_law_695 3 rfl ?_
  refine r_iload_n dL_law_696 0 rfl ?_
  refine r_iconst (v := 1) dL_law_697 kic_1 ?_
  refine r_iadd dL_law_698 ?_
  refine r_sld hX (j := i + 1) (scr_j hi4 hL (k := 1) (by decide)) (scr_in hi4 hL (k := 1) (by decide)) dL_law_699 ?_
  refine r_callV (As := [.int (xs (i + 1))]) (rest := []) (ws' := wA Z t a b hj hd hq hs AD hi IH IA x w er fl me p pr wt ert flt met pt prt d jc pv W8 E8 F8 M8 P8 R8 fi WI EI FJ MI PJ RI m ps im ik asd rb rp mv) 0 rfl rfl rfl (fun l => c_X6_needed Z l t (b 0) hj hq hi a w er fl me p pr (xs (i + 1)) _ e1) qw_558 mv_X6_needed (pk_P rfl) ⟨Nat.le_of_ble_eq_true rfl, Nat.le_of_ble_eq_true rfl⟩ ⟨rfl, rfl⟩ hkc rfl (Nat.le_of_ble_eq_true rfl) rfl dL_law_700 ?_
  refine r_aload_n dL_law_703 1 rfl ?_
  refine r_aload_n dL_law_704 3 rfl ?_
  refine r_iload_n dL_law_705 0 rfl ?_
  refine r_iconst (v := 1) dL_law_706 kic_1 ?_
  refine r_iadd dL_law_707 ?_
  refine r_sld hX (j := i + 1) (scr_j hi4 hL (k := 1) (by decide)) (scr_in hi4 hL (k := 1) (by decide)) dL_law_708 ?_
  refine r_callV (As := [.int (xs (i + 1))]) (rest := [.int r]) (ws' := wA Z t a b hj hd hq hs AD hi IH IA x w er fl me p pr wt ert flt met pt prt d jc pv W8 E8 F8 M8 P8 R8 fi WI EI FJ MI PJ RI m ps im ik asd rb rp mv) 0 rfl rfl rfl (fun l => c_X7_needed Z l x m ps im ik asd rb rp mv (xs (i + 1)) _ e2) qw_822 mv_X7_needed (pk_X rfl) ⟨Nat.le_of_ble_eq_true rfl, Nat.le_of_ble_eq_true rfl⟩ ⟨rfl, rfl⟩ hkc rfl (Nat.le_of_ble_eq_true rfl) rfl dL_law_709 ?_
  refine r_icmp_eq (tgt := 763) dL_law_712 (by decide) (fun _ => ?_) (fun hh => absurd rfl hh)
  exact h w er fl me p pr wt ert flt met pt prt d jc pv W8 E8 F8 M8 P8 R8 fi WI EI FJ MI PJ RI m ps im ik asd rb rp mv hP hA hI
set_option maxHeartbeats 4000000 in
set_option maxRecDepth 100000 in
theorem k_keep {X : CX} {Z : GZ} {kc ks : Nat} {t : Nat} {a : Nat → Nat} {b : Nat → Nat} {hj : Nat} {hd : Nat} {hq : Nat} {hs : Nat} {AD : Nat → Nat → Nat} {hi : Nat} {IH : Nat → Nat} {IA : Nat → Nat → Nat} {x : Nat → Nat} {bs i L : Nat} {xs : Nat → Int32} (hX : scrX X bs L xs) (hi4 : i + 4 ≤ L) (hL : L ≤ 2048) (hkc : kc ≤ room_1.cells ∧ ks ≤ room_1.slots) (h : Nx X Z kc ks t a b hj hd hq hs AD hi IH IA x bs i 763) : Nx X Z kc ks t a b hj hd hq hs AD hi IH IA x bs i 717 := by
  intro w er fl me p pr wt ert flt met pt prt d jc pv W8 E8 F8 M8 P8 R8 fi WI EI FJ MI PJ RI m ps im ik asd rb rp mv hP hA hI
  obtain ⟨r, fi', WI', EI', FJ', MI', PJ', RI', im', ik', e1, e2, hI2⟩ := keepF hI hP (xs (i + 1))
  refine r_aload_n dL_law_717 2 rfl ?_
  refine r_aload_n dL_law_718 3 rfl ?_
  refine r_iload_n dL_law_719 0 rfl ?_
  refine r_iconst (v := 1) dL_law_720 kic_1 ?_
  refine r_iadd dL_law_721 ?_
  refine r_sld hX (j := i + 1) (scr_j hi4 hL (k := 1) (by decide)) (scr_in hi4 hL (k := 1) (by decide)) dL_law_722 ?_
  refine r_callV (As := [.int (xs (i + 1))]) (rest := []) (ws' := wA Z t a b hj hd hq hs AD hi IH IA x w er fl me p pr wt ert flt met pt prt d jc pv W8 E8 F8 M8 P8 R8 fi' WI' EI' FJ' MI' PJ' RI' m ps im ik asd rb rp mv) 0 rfl rfl rfl (fun l => c_X6_keep Z l t (b 0) hj hq a hi IH IA w er fl me p pr fi WI EI FJ MI PJ RI (xs (i + 1)) _ e1) qw_562 mv_X6_keep (pk_PI rfl rfl) ⟨Nat.le_of_ble_eq_true rfl, Nat.le_of_ble_eq_true rfl⟩ ⟨rfl, rfl⟩ hkc rfl (Nat.le_of_ble_eq_true rfl) rfl dL_law_723 ?_
  refine r_aload_n dL_law_726 1 rfl ?_
  refine r_aload_n dL_law_727 3 rfl ?_
  refine r_iload_n dL_law_728 0 rfl ?_
  refine r_iconst (v := 1) dL_law_729 kic_1 ?_
  refine r_iadd dL_law_730 ?_
  refine r_sld hX (j := i + 1) (scr_j hi4 hL (k := 1) (by decide)) (scr_in hi4 hL (k := 1) (by decide)) dL_law_731 ?_
  refine r_callV (As := [.int (xs (i + 1))]) (rest := [.int r]) (ws' := wA Z t a b hj hd hq hs AD hi IH IA x w er fl me p pr wt ert flt met pt prt d jc pv W8 E8 F8 M8 P8 R8 fi' WI' EI' FJ' MI' PJ' RI' m ps im' ik' asd rb rp mv) 0 rfl rfl rfl (fun l => c_X7_keep_ Z l x m ps im ik asd rb rp mv (xs (i + 1)) _ e2) qw_826 mv_X7_keep_ (pk_X rfl) ⟨Nat.le_of_ble_eq_true rfl, Nat.le_of_ble_eq_true rfl⟩ ⟨rfl, rfl⟩ hkc rfl (Nat.le_of_ble_eq_true rfl) rfl dL_law_732 ?_
  refine r_icmp_eq (tgt := 763) dL_law_735 (by decide) (fun _ => ?_) (fun hh => absurd rfl hh)
  exact h w er fl me p pr wt ert flt met pt prt d jc pv W8 E8 F8 M8 P8 R8 fi' WI' EI' FJ' MI' PJ' RI' m ps im' ik' asd rb rp mv hP hA hI2
set_option maxHeartbeats 4000000 in
set_option maxRecDepth 100000 in
theorem k_back {X : CX} {Z : GZ} {kc ks : Nat} {t : Nat} {a : Nat → Nat} {b : Nat → Nat} {hj : Nat} {hd : Nat} {hq : Nat} {hs : Nat} {AD : Nat → Nat → Nat} {hi : Nat} {IH : Nat → Nat} {IA : Nat → Nat → Nat} {x : Nat → Nat} {bs i L : Nat} {xs : Nat → Int32} (hX : scrX X bs L xs) (hi4 : i + 4 ≤ L) (hL : L ≤ 2048) (hkc : kc ≤ room_1.cells ∧ ks ≤ room_1.slots) (h : Nx X Z kc ks t a b hj hd hq hs AD hi IH IA x bs i 763) : Nx X Z kc ks t a b hj hd hq hs AD hi IH IA x bs i 740 := by
  intro w er fl me p pr wt ert flt met pt prt d jc pv W8 E8 F8 M8 P8 R8 fi WI EI FJ MI PJ RI m ps im ik asd rb rp mv hP hA hI
  obtain ⟨r, w', er', fl', me', p', pr', pv', W8', E8', F8', M8', P8', R8', m', ps', mv', e1, e2, hP2, hA2⟩ := backF hA hI hP (xs (i + 1))
  refine r_aload_n dL_law_740 2 rfl ?_
  refine r_aload_n dL_law_741 3 rfl ?_
  refine r_iload_n dL_law_742 0 rfl ?_
  refine r_iconst (v := 1) dL_law_743 kic_1 ?_
  refine r_iadd dL_law_744 ?_
  refine r_sld hX (j := i + 1) (scr_j hi4 hL (k := 1) (by decide)) (scr_in hi4 hL (k := 1) (by decide)) dL_law_745 ?_
  refine r_callV (As := [.int (xs (i + 1))]) (rest := []) (ws' := wA Z t a b hj hd hq hs AD hi IH IA x w' er' fl' me' p' pr' wt ert flt met pt prt d jc pv' W8' E8' F8' M8' P8' R8' fi WI EI FJ MI PJ RI m ps im ik asd rb rp mv) 0 rfl rfl rfl (fun l => c_X6_back Z l t (b 0) hj a hi IH IA hq hs AD w er fl me p pr fi WI EI FJ MI PJ RI pv W8 E8 F8 M8 P8 R8 (xs (i + 1)) _ e1) qw_575 mv_X6_back (pk_PIQ rfl wQ_dom rfl) ⟨Nat.le_of_ble_eq_true rfl, Nat.le_of_ble_eq_true rfl⟩ ⟨rfl, rfl⟩ hkc rfl (Nat.le_of_ble_eq_true rfl) rfl dL_law_746 ?_
  refine r_aload_n dL_law_749 1 rfl ?_
  refine r_aload_n dL_law_750 3 rfl ?_
  refine r_iload_n dL_law_751 0 rfl ?_
  refine r_iconst (v := 1) dL_law_752 kic_1 ?_
  refine r_iadd dL_law_753 ?_
  refine r_sld hX (j := i + 1) (scr_j hi4 hL (k := 1) (by decide)) (scr_in hi4 hL (k := 1) (by decide)) dL_law_754 ?_
  refine r_callV (As := [.int (xs (i + 1))]) (rest := [.int r]) (ws' := wA Z t a b hj hd hq hs AD hi IH IA x w' er' fl' me' p' pr' wt ert flt met pt prt d jc pv' W8' E8' F8' M8' P8' R8' fi WI EI FJ MI PJ RI m' ps' im ik asd rb rp mv') 0 rfl rfl rfl (fun l => c_X7_back Z l x m ps im ik asd rb rp mv (xs (i + 1)) _ e2) qw_833 mv_X7_back (pk_X rfl) ⟨Nat.le_of_ble_eq_true rfl, Nat.le_of_ble_eq_true rfl⟩ ⟨rfl, rfl⟩ hkc rfl (Nat.le_of_ble_eq_true rfl) rfl dL_law_755 ?_
  refine r_icmp_eq (tgt := 763) dL_law_758 (by decide) (fun _ => ?_) (fun hh => absurd rfl hh)
  exact h w' er' fl' me' p' pr' wt ert flt met pt prt d jc pv' W8' E8' F8' M8' P8' R8' fi WI EI FJ MI PJ RI m' ps' im ik asd rb rp mv' hP2 hA2 hI
set_option maxHeartbeats 4000000 in
set_option maxRecDepth 100000 in
theorem k_undo {X : CX} {Z : GZ} {kc ks : Nat} {t : Nat} {a : Nat → Nat} {b : Nat → Nat} {hj : Nat} {hd : Nat} {hq : Nat} {hs : Nat} {AD : Nat → Nat → Nat} {hi : Nat} {IH : Nat → Nat} {IA : Nat → Nat → Nat} {x : Nat → Nat} {bs i L : Nat} {xs : Nat → Int32} (hX : scrX X bs L xs) (hi4 : i + 4 ≤ L) (hL : L ≤ 2048) (hkc : kc ≤ room_1.cells ∧ ks ≤ room_1.slots) (h : Nx X Z kc ks t a b hj hd hq hs AD hi IH IA x bs i 763) : Nx X Z kc ks t a b hj hd hq hs AD hi IH IA x bs i 358 := by
  intro w er fl me p pr wt ert flt met pt prt d jc pv W8 E8 F8 M8 P8 R8 fi WI EI FJ MI PJ RI m ps im ik asd rb rp mv hP hA hI
  obtain ⟨r, w', er', fl', me', p', pr', pv', m', mv', e1, e2, hP2, hA2⟩ := undoF hA hP 
  refine r_aload_n dL_law_358 2 rfl ?_
  refine r_callV (As := []) (rest := []) (ws' := wA Z t a b hj hd hq hs AD hi IH IA x w' er' fl' me' p' pr' wt ert flt met pt prt d jc pv' W8 E8 F8 M8 P8 R8 fi WI EI FJ MI PJ RI m ps im ik asd rb rp mv) 0 rfl rfl rfl (fun l => c_X6_undo Z l t (b 0) hj hi a hq hs AD w er fl me p pr pv W8 E8 F8 M8 P8 R8  _ e1) qw_439 mv_X6_undo (pk_PQ rfl wQ_dom) ⟨Nat.le_of_ble_eq_true rfl, Nat.le_of_ble_eq_true rfl⟩ ⟨rfl, rfl⟩ hkc rfl (Nat.le_of_ble_eq_true rfl) rfl dL_law_359 ?_
  refine r_aload_n dL_law_362 1 rfl ?_
  refine r_callV (As := []) (rest := [.int r]) (ws' := wA Z t a b hj hd hq hs AD hi IH IA x w' er' fl' me' p' pr' wt ert flt met pt prt d jc pv' W8 E8 F8 M8 P8 R8 fi WI EI FJ MI PJ RI m' ps im ik asd rb rp mv') 0 rfl rfl rfl (fun l => c_X7_undo Z l x m ps im ik asd rb rp mv  _ e2) qw_614 mv_X7_undo (pk_X rfl) ⟨Nat.le_of_ble_eq_true rfl, Nat.le_of_ble_eq_true rfl⟩ ⟨rfl, rfl⟩ hkc rfl (Nat.le_of_ble_eq_true rfl) rfl dL_law_363 ?_
  refine r_icmp_eq (tgt := 763) dL_law_366 (by decide) (fun _ => ?_) (fun hh => absurd rfl hh)
  exact h w' er' fl' me' p' pr' wt ert flt met pt prt d jc pv' W8 E8 F8 M8 P8 R8 fi WI EI FJ MI PJ RI m' ps im ik asd rb rp mv' hP2 hA2 hI

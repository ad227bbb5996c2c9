theorem qw_498 : qG (Cond.instanceMethod yX5_partsShown) := ⟨List.mem_append_right _ (List.mem_of_getElem? (i := 640) (by decide +kernel)), good_of_word (by decide +kernel)⟩
theorem qw_499 : qG (Cond.methodLink RX5 192 yX5_partsShown) := ⟨List.mem_append_right _ (List.mem_of_getElem? (i := 638) (by decide +kernel)), good_of_word (by decide +kernel)⟩
theorem qw_500 : qG (Cond.code yX5_isTenth cX5_isTenth 1 (some .boolean)) := ⟨List.mem_append_right _ (List.mem_of_getElem? (i := 637) (by decide +kernel)), good_of_word (by decide +kernel)⟩
theorem qw_501 : qG (Cond.static yX5_isTenth) := ⟨List.mem_append_right _ (List.mem_of_getElem? (i := 636) (by decide +kernel)), good_of_word (by decide +kernel)⟩
theorem qw_502 : qG (Cond.methodLink RX5 189 yX5_isTenth) := ⟨List.mem_append_right _ (List.mem_of_getElem? (i := 635) (by decide +kernel)), good_of_word (by decide +kernel)⟩
theorem qw_503 : qG (Cond.constantLong RX5 196 (1000000)) := ⟨List.mem_append_right _ (List.mem_of_getElem? (i := 643) (by decide +kernel)), good_of_word (by decide +kernel)⟩
theorem qw_504 : qG (Cond.code yX5_luck cX5_luck 5 (some .long)) := ⟨List.mem_append_right _ (List.mem_of_getElem? (i := 634) (by decide +kernel)), good_of_word (by decide +kernel)⟩
theorem qw_505 : qG (Cond.selects RX5 yX5_luck yX5_luck) := ⟨List.mem_append_right _ (List.mem_of_getElem? (i := 633) (by decide +kernel)), good_of_word (by decide +kernel)⟩
theorem qw_506 : qG (Cond.instanceMethod yX5_luck) := ⟨List.mem_append_right _ (List.mem_of_getElem? (i := 632) (by decide +kernel)), good_of_word (by decide +kernel)⟩
theorem qw_507 : qG (Cond.methodLink RL 151 yX5_luck) := ⟨List.mem_append_right _ (List.mem_of_getElem? (i := 631) (by decide +kernel)), good_of_word (by decide +kernel)⟩
theorem qw_508 : qG (Cond.code yX5_mean cX5_mean 7 (some .long)) := ⟨List.mem_append_right _ (List.mem_of_getElem? (i := 647) (by decide +kernel)), good_of_word (by decide +kernel)⟩
theorem qw_509 : qG (Cond.selects RX5 yX5_mean yX5_mean) := ⟨List.mem_append_right _ (List.mem_of_getElem? (i := 646) (by decide +kernel)), good_of_word (by decide +kernel)⟩
theorem qw_510 : qG (Cond.instanceMethod yX5_mean) := ⟨List.mem_append_right _ (List.mem_of_getElem? (i := 645) (by decide +kernel)), good_of_word (by decide +kernel)⟩
theorem qw_511 : qG (Cond.methodLink RL 156 yX5_mean) := ⟨List.mem_append_right _ (List.mem_of_getElem? (i := 644) (by decide +kernel)), good_of_word (by decide +kernel)⟩
theorem qw_512 : qG (Cond.code yX4_markOnSpareDay cX4_markOnSpareDay 3 none) := ⟨List.mem_append_right _ (List.mem_of_getElem? (i := 666) (by decide +kernel)), good_of_word (by decide +kernel)⟩
theorem qw_513 : qG (Cond.selects RX4 yX4_markOnSpareDay yX4_markOnSpareDay) := ⟨List.mem_append_right _ (List.mem_of_getElem? (i := 665) (by decide +kernel)), good_of_word (by decide +kernel)⟩
theorem qw_514 : qG (Cond.instanceMethod yX4_markOnSpareDay) := ⟨List.mem_append_right _ (List.mem_of_getElem? (i := 664) (by decide +kernel)), good_of_word (by decide +kernel)⟩
theorem qw_515 : qG (Cond.methodLink RX5 208 yX4_markOnSpareDay) := ⟨List.mem_append_right _ (List.mem_of_getElem? (i := 663) (by decide +kernel)), good_of_word (by decide +kernel)⟩
theorem qw_516 : qG (Cond.code yX5_drawn cX5_drawn 2 (some .int)) := ⟨List.mem_append_right _ (List.mem_of_getElem? (i := 662) (by decide +kernel)), good_of_word (by decide +kernel)⟩
theorem qw_517 : qG (Cond.static yX5_drawn) := ⟨List.mem_append_right _ (List.mem_of_getElem? (i := 661) (by decide +kernel)), good_of_word (by decide +kernel)⟩
theorem qw_518 : qG (Cond.methodLink RX5 205 yX5_drawn) := ⟨List.mem_append_right _ (List.mem_of_getElem? (i := 660) (by decide +kernel)), good_of_word (by decide +kernel)⟩
theorem qw_519 : qG (Cond.constant RX5 277 (1103515245)) := ⟨List.mem_append_right _ (List.mem_of_getElem? (i := 659) (by decide +kernel)), good_of_word (by decide +kernel)⟩
theorem qw_520 : qG (Cond.code yX5_nextSeed cX5_nextSeed 1 (some .int)) := ⟨List.mem_append_right _ (List.mem_of_getElem? (i := 658) (by decide +kernel)), good_of_word (by decide +kernel)⟩
theorem qw_521 : qG (Cond.static yX5_nextSeed) := ⟨List.mem_append_right _ (List.mem_of_getElem? (i := 657) (by decide +kernel)), good_of_word (by decide +kernel)⟩
theorem qw_522 : qG (Cond.methodLink RX5 202 yX5_nextSeed) := ⟨List.mem_append_right _ (List.mem_of_getElem? (i := 656) (by decide +kernel)), good_of_word (by decide +kernel)⟩
theorem qw_523 : qG (Cond.code yX4_copyToSpareDay cX4_copyToSpareDay 2 none) := ⟨List.mem_append_right _ (List.mem_of_getElem? (i := 655) (by decide +kernel)), good_of_word (by decide +kernel)⟩
theorem qw_524 : qG (Cond.selects RX4 yX4_copyToSpareDay yX4_copyToSpareDay) := ⟨List.mem_append_right _ (List.mem_of_getElem? (i := 654) (by decide +kernel)), good_of_word (by decide +kernel)⟩
theorem qw_525 : qG (Cond.instanceMethod yX4_copyToSpareDay) := ⟨List.mem_append_right _ (List.mem_of_getElem? (i := 653) (by decide +kernel)), good_of_word (by decide +kernel)⟩
theorem qw_526 : qG (Cond.methodLink RX5 198 yX4_copyToSpareDay) := ⟨List.mem_append_right _ (List.mem_of_getElem? (i := 652) (by decide +kernel)), good_of_word (by decide +kernel)⟩
theorem qw_527 : qG (Cond.code yX4_sightOnSpareDay cX4_sightOnSpareDay 2 (some .int)) := ⟨List.mem_append_right _ (List.mem_of_getElem? (i := 670) (by decide +kernel)), good_of_word (by decide +kernel)⟩
theorem qw_528 : qG (Cond.selects RX4 yX4_sightOnSpareDay yX4_sightOnSpareDay) := ⟨List.mem_append_right _ (List.mem_of_getElem? (i := 669) (by decide +kernel)), good_of_word (by decide +kernel)⟩
theorem qw_529 : qG (Cond.instanceMethod yX4_sightOnSpareDay) := ⟨List.mem_append_right _ (List.mem_of_getElem? (i := 668) (by decide +kernel)), good_of_word (by decide +kernel)⟩
theorem qw_530 : qG (Cond.methodLink RX5 212 yX4_sightOnSpareDay) := ⟨List.mem_append_right _ (List.mem_of_getElem? (i := 667) (by decide +kernel)), good_of_word (by decide +kernel)⟩
theorem qw_531 : qG (Cond.code yX5_drift cX5_drift 9 (some .int)) := ⟨List.mem_append_right _ (List.mem_of_getElem? (i := 651) (by decide +kernel)), good_of_word (by decide +kernel)⟩
theorem qw_532 : qG (Cond.selects RX5 yX5_drift yX5_drift) := ⟨List.mem_append_right _ (List.mem_of_getElem? (i := 650) (by decide +kernel)), good_of_word (by decide +kernel)⟩
theorem qw_533 : qG (Cond.instanceMethod yX5_drift) := ⟨List.mem_append_right _ (List.mem_of_getElem? (i := 649) (by decide +kernel)), good_of_word (by decide +kernel)⟩
theorem qw_534 : qG (Cond.methodLink RL 160 yX5_drift) := ⟨List.mem_append_right _ (List.mem_of_getElem? (i := 648) (by decide +kernel)), good_of_word (by decide +kernel)⟩
theorem qw_535 : qG (Cond.code yX5_keep cX5_keep 3 (some .int)) := ⟨List.mem_append_right _ (List.mem_of_getElem? (i := 674) (by decide +kernel)), good_of_word (by decide +kernel)⟩
theorem qw_536 : qG (Cond.selects RX5 yX5_keep yX5_keep) := ⟨List.mem_append_right _ (List.mem_of_getElem? (i := 673) (by decide +kernel)), good_of_word (by decide +kernel)⟩
theorem qw_537 : qG (Cond.instanceMethod yX5_keep) := ⟨List.mem_append_right _ (List.mem_of_getElem? (i := 672) (by decide +kernel)), good_of_word (by decide +kernel)⟩
theorem qw_538 : qG (Cond.methodLink RL 164 yX5_keep) := ⟨List.mem_append_right _ (List.mem_of_getElem? (i := 671) (by decide +kernel)), good_of_word (by decide +kernel)⟩
theorem qw_539 : qG (Cond.code yX5_back cX5_back 2 (some .int)) := ⟨List.mem_append_right _ (List.mem_of_getElem? (i := 678) (by decide +kernel)), good_of_word (by decide +kernel)⟩
theorem qw_540 : qG (Cond.selects RX5 yX5_back yX5_back) := ⟨List.mem_append_right _ (List.mem_of_getElem? (i := 677) (by decide +kernel)), good_of_word (by decide +kernel)⟩
theorem qw_541 : qG (Cond.instanceMethod yX5_back) := ⟨List.mem_append_right _ (List.mem_of_getElem? (i := 676) (by decide +kernel)), good_of_word (by decide +kernel)⟩
theorem qw_542 : qG (Cond.methodLink RL 168 yX5_back) := ⟨List.mem_append_right _ (List.mem_of_getElem? (i := 675) (by decide +kernel)), good_of_word (by decide +kernel)⟩
theorem qw_543 : qG (Cond.methodLink RX3 22 yJ7_fill_53178) := ⟨List.mem_append_right _ (List.mem_of_getElem? (i := 693) (by decide +kernel)), good_of_word (by decide +kernel)⟩
theorem qw_544 : qG (Cond.fieldLink RX3 19 "BackLenses$Sheet" "lane" "I") := ⟨List.mem_append_right _ (List.mem_of_getElem? (i := 178) (by decide +kernel)), good_of_word (by decide +kernel)⟩
theorem qw_545 : qG (Cond.code yX3_renew cX3_renew 3 none) := ⟨List.mem_append_right _ (List.mem_of_getElem? (i := 692) (by decide +kernel)), good_of_word (by decide +kernel)⟩
theorem qw_546 : qG (Cond.selects RX3 yX3_renew yX3_renew) := ⟨List.mem_append_right _ (List.mem_of_getElem? (i := 691) (by decide +kernel)), good_of_word (by decide +kernel)⟩
theorem qw_547 : qG (Cond.instanceMethod yX3_renew) := ⟨List.mem_append_right _ (List.mem_of_getElem? (i := 690) (by decide +kernel)), good_of_word (by decide +kernel)⟩
theorem qw_548 : qG (Cond.methodLink RX5 221 yX3_renew) := ⟨List.mem_append_right _ (List.mem_of_getElem? (i := 689) (by decide +kernel)), good_of_word (by decide +kernel)⟩
theorem qw_549 : qG (Cond.code yX5_isLane cX5_isLane 1 (some .boolean)) := ⟨List.mem_append_right _ (List.mem_of_getElem? (i := 688) (by decide +kernel)), good_of_word (by decide +kernel)⟩
theorem qw_550 : qG (Cond.static yX5_isLane) := ⟨List.mem_append_right _ (List.mem_of_getElem? (i := 687) (by decide +kernel)), good_of_word (by decide +kernel)⟩
theorem qw_551 : qG (Cond.methodLink RX5 218 yX5_isLane) := ⟨List.mem_append_right _ (List.mem_of_getElem? (i := 686) (by decide +kernel)), good_of_word (by decide +kernel)⟩
theorem qw_552 : qG (Cond.code yX5_isSheet cX5_isSheet 1 (some .boolean)) := ⟨List.mem_append_right _ (List.mem_of_getElem? (i := 685) (by decide +kernel)), good_of_word (by decide +kernel)⟩
theorem qw_553 : qG (Cond.static yX5_isSheet) := ⟨List.mem_append_right _ (List.mem_of_getElem? (i := 684) (by decide +kernel)), good_of_word (by decide +kernel)⟩
theorem qw_554 : qG (Cond.methodLink RX5 215 yX5_isSheet) := ⟨List.mem_append_right _ (List.mem_of_getElem? (i := 683) (by decide +kernel)), good_of_word (by decide +kernel)⟩
theorem qw_555 : qG (Cond.code yX5_sheet cX5_sheet 4 (some .int)) := ⟨List.mem_append_right _ (List.mem_of_getElem? (i := 682) (by decide +kernel)), good_of_word (by decide +kernel)⟩
theorem qw_556 : qG (Cond.selects RX5 yX5_sheet yX5_sheet) := ⟨List.mem_append_right _ (List.mem_of_getElem? (i := 681) (by decide +kernel)), good_of_word (by decide +kernel)⟩
theorem qw_557 : qG (Cond.instanceMethod yX5_sheet) := ⟨List.mem_append_right _ (List.mem_of_getElem? (i := 680) (by decide +kernel)), good_of_word (by decide +kernel)⟩
theorem qw_558 : qG (Cond.methodLink RL 172 yX5_sheet) := ⟨List.mem_append_right _ (List.mem_of_getElem? (i := 679) (by decide +kernel)), good_of_word (by decide +kernel)⟩
theorem qw_559 : qG (Cond.code yX3_put cX3_put 3 none) := ⟨List.mem_append_right _ (List.mem_of_getElem? (i := 709) (by decide +kernel)), good_of_word (by decide +kernel)⟩
theorem qw_560 : qG (Cond.selects RX3 yX3_put yX3_put) := ⟨List.mem_append_right _ (List.mem_of_getElem? (i := 708) (by decide +kernel)), good_of_word (by decide +kernel)⟩
theorem qw_561 : qG (Cond.instanceMethod yX3_put) := ⟨List.mem_append_right _ (List.mem_of_getElem? (i := 707) (by decide +kernel)), good_of_word (by decide +kernel)⟩
theorem qw_562 : qG (Cond.methodLink RX5 227 yX3_put) := ⟨List.mem_append_right _ (List.mem_of_getElem? (i := 706) (by decide +kernel)), good_of_word (by decide +kernel)⟩
theorem qw_563 : qG (Cond.code yX3_isNothing cX3_isNothing 1 (some .boolean)) := ⟨List.mem_append_right _ (List.mem_of_getElem? (i := 705) (by decide +kernel)), good_of_word (by decide +kernel)⟩
theorem qw_564 : qG (Cond.selects RX3 yX3_isNothing yX3_isNothing) := ⟨List.mem_append_right _ (List.mem_of_getElem? (i := 704) (by decide +kernel)), good_of_word (by decide +kernel)⟩
theorem qw_565 : qG (Cond.instanceMethod yX3_isNothing) := ⟨List.mem_append_right _ (List.mem_of_getElem? (i := 703) (by decide +kernel)), good_of_word (by decide +kernel)⟩
theorem qw_566 : qG (Cond.methodLink RX3 28 yX3_isNothing) := ⟨List.mem_append_right _ (List.mem_of_getElem? (i := 702) (by decide +kernel)), good_of_word (by decide +kernel)⟩
theorem qw_567 : qG (Cond.code yX3_faultAt cX3_faultAt 2 (some .int)) := ⟨List.mem_append_right _ (List.mem_of_getElem? (i := 701) (by decide +kernel)), good_of_word (by decide +kernel)⟩
theorem qw_568 : qG (Cond.selects RX3 yX3_faultAt yX3_faultAt) := ⟨List.mem_append_right _ (List.mem_of_getElem? (i := 700) (by decide +kernel)), good_of_word (by decide +kernel)⟩
theorem qw_569 : qG (Cond.instanceMethod yX3_faultAt) := ⟨List.mem_append_right _ (List.mem_of_getElem? (i := 699) (by decide +kernel)), good_of_word (by decide +kernel)⟩
theorem qw_570 : qG (Cond.methodLink RX5 224 yX3_faultAt) := ⟨List.mem_append_right _ (List.mem_of_getElem? (i := 698) (by decide +kernel)), good_of_word (by decide +kernel)⟩
theorem qw_571 : qG (Cond.code yX5_lay cX5_lay 5 (some .int)) := ⟨List.mem_append_right _ (List.mem_of_getElem? (i := 697) (by decide +kernel)), good_of_word (by decide +kernel)⟩
theorem qw_572 : qG (Cond.selects RX5 yX5_lay yX5_lay) := ⟨List.mem_append_right _ (List.mem_of_getElem? (i := 696) (by decide +kernel)), good_of_word (by decide +kernel)⟩
theorem qw_573 : qG (Cond.instanceMethod yX5_lay) := ⟨List.mem_append_right _ (List.mem_of_getElem? (i := 695) (by decide +kernel)), good_of_word (by decide +kernel)⟩
theorem qw_574 : qG (Cond.methodLink RL 176 yX5_lay) := ⟨List.mem_append_right _ (List.mem_of_getElem? (i := 694) (by decide +kernel)), good_of_word (by decide +kernel)⟩
theorem qw_575 : qG (Cond.instanceMethod yX3_faultAtThree) := ⟨List.mem_append_right _ (List.mem_of_getElem? (i := 719) (by decide +kernel)), good_of_word (by decide +kernel)⟩
theorem qw_576 : qG (Cond.methodLink RX5 232 yX3_faultAtThree) := ⟨List.mem_append_right _ (List.mem_of_getElem? (i := 718) (by decide +kernel)), good_of_word (by decide +kernel)⟩
theorem qw_577 : qG (Cond.code yX3_faultAsLane cX3_faultAsLane 2 (some .int)) := ⟨List.mem_append_right _ (List.mem_of_getElem? (i := 717) (by decide +kernel)), good_of_word (by decide +kernel)⟩
theorem qw_578 : qG (Cond.selects RX3 yX3_faultAsLane yX3_faultAsLane) := ⟨List.mem_append_right _ (List.mem_of_getElem? (i := 716) (by decide +kernel)), good_of_word (by decide +kernel)⟩
theorem qw_579 : qG (Cond.instanceMethod yX3_faultAsLane) := ⟨List.mem_append_right _ (List.mem_of_getElem? (i := 715) (by decide +kernel)), good_of_word (by decide +kernel)⟩
theorem qw_580 : qG (Cond.methodLink RX5 229 yX3_faultAsLane) := ⟨List.mem_append_right _ (List.mem_of_getElem? (i := 714) (by decide +kernel)), good_of_word (by decide +kernel)⟩
theorem qw_581 : qG (Cond.fieldLink RX5 237 "BackLenses" "readFault" "I") := ⟨List.mem_append_right _ (List.mem_of_getElem? (i := 195) (by decide +kernel)), good_of_word (by decide +kernel)⟩
theorem qw_582 : qG (Cond.methodLink RX3 32 yX3_faultAt) := ⟨List.mem_append_right _ (List.mem_of_getElem? (i := 722) (by decide +kernel)), good_of_word (by decide +kernel)⟩
theorem qw_583 : qG (Cond.code yX3_faultAtThree cX3_faultAtThree 3 (some .int)) := ⟨List.mem_append_right _ (List.mem_of_getElem? (i := 721) (by decide +kernel)), good_of_word (by decide +kernel)⟩
theorem qw_584 : qG (Cond.selects RX3 yX3_faultAtThree yX3_faultAtThree) := ⟨List.mem_append_right _ (List.mem_of_getElem? (i := 720) (by decide +kernel)), good_of_word (by decide +kernel)⟩
theorem qw_585 : qG (Cond.code yX5_read cX5_read 10 (some .int)) := ⟨List.mem_append_right _ (List.mem_of_getElem? (i := 713) (by decide +kernel)), good_of_word (by decide +kernel)⟩
theorem qw_586 : qG (Cond.selects RX5 yX5_read yX5_read) := ⟨List.mem_append_right _ (List.mem_of_getElem? (i := 712) (by decide +kernel)), good_of_word (by decide +kernel)⟩
theorem qw_587 : qG (Cond.instanceMethod yX5_read) := ⟨List.mem_append_right _ (List.mem_of_getElem? (i := 711) (by decide +kernel)), good_of_word (by decide +kernel)⟩
theorem qw_588 : qG (Cond.methodLink RL 180 yX5_read) := ⟨List.mem_append_right _ (List.mem_of_getElem? (i := 710) (by decide +kernel)), good_of_word (by decide +kernel)⟩
theorem qw_589 : qG (Cond.code yX5_torn cX5_torn 1 (some .int)) := ⟨List.mem_append_right _ (List.mem_of_getElem? (i := 726) (by decide +kernel)), good_of_word (by decide +kernel)⟩
theorem qw_590 : qG (Cond.selects RX5 yX5_torn yX5_torn) := ⟨List.mem_append_right _ (List.mem_of_getElem? (i := 725) (by decide +kernel)), good_of_word (by decide +kernel)⟩
theorem qw_591 : qG (Cond.instanceMethod yX5_torn) := ⟨List.mem_append_right _ (List.mem_of_getElem? (i := 724) (by decide +kernel)), good_of_word (by decide +kernel)⟩
theorem qw_592 : qG (Cond.methodLink RL 185 yX5_torn) := ⟨List.mem_append_right _ (List.mem_of_getElem? (i := 723) (by decide +kernel)), good_of_word (by decide +kernel)⟩
theorem qw_593 : qG (Cond.methodLink RX5 243 yX3_isNothing) := ⟨List.mem_append_right _ (List.mem_of_getElem? (i := 731) (by decide +kernel)), good_of_word (by decide +kernel)⟩
theorem qw_594 : qG (Cond.code yX5_daysOfChange cX5_daysOfChange 4 (some .int)) := ⟨List.mem_append_right _ (List.mem_of_getElem? (i := 735) (by decide +kernel)), good_of_word (by decide +kernel)⟩
theorem qw_595 : qG (Cond.selects RX5 yX5_daysOfChange yX5_daysOfChange) := ⟨List.mem_append_left _ (List.mem_of_getElem? (i := 23) (by decide +kernel)), good_of_word (by decide +kernel)⟩
theorem qw_596 : qG (Cond.instanceMethod yX5_daysOfChange) := ⟨List.mem_append_right _ (List.mem_of_getElem? (i := 734) (by decide +kernel)), good_of_word (by decide +kernel)⟩
theorem qw_597 : qG (Cond.methodLink RX5 248 yX5_daysOfChange) := ⟨List.mem_append_right _ (List.mem_of_getElem? (i := 732) (by decide +kernel)), good_of_word (by decide +kernel)⟩
theorem qw_598 : qG (Cond.code yX5_count cX5_count 2 (some .int)) := ⟨List.mem_append_right _ (List.mem_of_getElem? (i := 730) (by decide +kernel)), good_of_word (by decide +kernel)⟩
theorem qw_599 : qG (Cond.selects RX5 yX5_count yX5_count) := ⟨List.mem_append_right _ (List.mem_of_getElem? (i := 729) (by decide +kernel)), good_of_word (by decide +kernel)⟩
theorem qw_600 : qG (Cond.instanceMethod yX5_count) := ⟨List.mem_append_right _ (List.mem_of_getElem? (i := 728) (by decide +kernel)), good_of_word (by decide +kernel)⟩
theorem qw_601 : qG (Cond.methodLink RL 189 yX5_count) := ⟨List.mem_append_right _ (List.mem_of_getElem? (i := 727) (by decide +kernel)), good_of_word (by decide +kernel)⟩
theorem qw_602 : qG (Cond.fieldLink RX6 57 "BackLensesModel" "dLast" "I") := ⟨List.mem_append_right _ (List.mem_of_getElem? (i := 758) (by decide +kernel)), good_of_word (by decide +kernel)⟩
theorem qw_603 : qG (Cond.fieldLink RX6 54 "BackLensesModel" "dHigh" "I") := ⟨List.mem_append_right _ (List.mem_of_getElem? (i := 757) (by decide +kernel)), good_of_word (by decide +kernel)⟩
theorem qw_604 : qG (Cond.fieldLink RX6 50 "BackLensesModel" "dWide" "I") := ⟨List.mem_append_right _ (List.mem_of_getElem? (i := 756) (by decide +kernel)), good_of_word (by decide +kernel)⟩
theorem qw_605 : qG (Cond.code yX6_firstDraft cX6_firstDraft 2 none) := ⟨List.mem_append_right _ (List.mem_of_getElem? (i := 745) (by decide +kernel)), good_of_word (by decide +kernel)⟩
theorem qw_606 : qG (Cond.initialized RX6) := ⟨List.mem_append_right _ (List.mem_of_getElem? (i := 7) (by decide +kernel)), good_of_word (by decide +kernel)⟩
theorem qw_607 : qG (Cond.selects RX6 yX6_firstDraft yX6_firstDraft) := ⟨List.mem_append_left _ (List.mem_of_getElem? (i := 24) (by decide +kernel)), good_of_word (by decide +kernel)⟩
theorem qw_608 : qG (Cond.instanceMethod yX6_firstDraft) := ⟨List.mem_append_right _ (List.mem_of_getElem? (i := 744) (by decide +kernel)), good_of_word (by decide +kernel)⟩
theorem qw_609 : qG (Cond.methodLink RX6 44 yX6_firstDraft) := ⟨List.mem_append_right _ (List.mem_of_getElem? (i := 742) (by decide +kernel)), good_of_word (by decide +kernel)⟩
theorem qw_610 : qG (Cond.fieldLink RX6 41 "BackLensesModel" "cells" "[I") := ⟨List.mem_append_right _ (List.mem_of_getElem? (i := 777) (by decide +kernel)), good_of_word (by decide +kernel)⟩
theorem qw_611 : qG (Cond.fieldLink RX6 38 "BackLensesModel" "sizes" "[I") := ⟨List.mem_append_right _ (List.mem_of_getElem? (i := 776) (by decide +kernel)), good_of_word (by decide +kernel)⟩
theorem qw_612 : qG (Cond.fieldLink RX6 35 "BackLensesModel" "lanes" "[I") := ⟨List.mem_append_right _ (List.mem_of_getElem? (i := 775) (by decide +kernel)), good_of_word (by decide +kernel)⟩
theorem qw_613 : qG (Cond.fieldLink RX6 32 "BackLensesModel" "pairs" "[I") := ⟨List.mem_append_right _ (List.mem_of_getElem? (i := 774) (by decide +kernel)), good_of_word (by decide +kernel)⟩
theorem qw_614 : qG (Cond.fieldLink RX6 29 "BackLensesModel" "views" "[I") := ⟨List.mem_append_right _ (List.mem_of_getElem? (i := 773) (by decide +kernel)), good_of_word (by decide +kernel)⟩
theorem qw_615 : qG (Cond.fieldLink RX6 26 "BackLensesModel" "groups" "[I") := ⟨List.mem_append_right _ (List.mem_of_getElem? (i := 772) (by decide +kernel)), good_of_word (by decide +kernel)⟩
theorem qw_616 : qG (Cond.fieldLink RX6 23 "BackLensesModel" "marks" "[I") := ⟨List.mem_append_right _ (List.mem_of_getElem? (i := 771) (by decide +kernel)), good_of_word (by decide +kernel)⟩
theorem qw_617 : qG (Cond.fieldLink RX6 20 "BackLensesModel" "tape" "[I") := ⟨List.mem_append_right _ (List.mem_of_getElem? (i := 763) (by decide +kernel)), good_of_word (by decide +kernel)⟩
theorem qw_618 : qG (Cond.fieldLink RX6 17 "BackLensesModel" "draft" "[I") := ⟨List.mem_append_right _ (List.mem_of_getElem? (i := 755) (by decide +kernel)), good_of_word (by decide +kernel)⟩
theorem qw_619 : qG (Cond.fieldLink RX6 13 "BackLensesModel" "isKept" "[Z") := ⟨List.mem_append_right _ (List.mem_of_getElem? (i := 751) (by decide +kernel)), good_of_word (by decide +kernel)⟩
theorem qw_620 : qG (Cond.fieldLink RX6 7 "BackLensesModel" "st" "[I") := ⟨List.mem_append_right _ (List.mem_of_getElem? (i := 750) (by decide +kernel)), good_of_word (by decide +kernel)⟩
theorem qw_621 : qG (Cond.methodLink RX6 1 objectInit) := ⟨List.mem_append_right _ (List.mem_of_getElem? (i := 741) (by decide +kernel)), good_of_word (by decide +kernel)⟩
theorem qw_622 : qG (Cond.fieldLink RX6 78 "BackLensesModel" "last" "I") := ⟨List.mem_append_right _ (List.mem_of_getElem? (i := 754) (by decide +kernel)), good_of_word (by decide +kernel)⟩
theorem qw_623 : qG (Cond.fieldLink RX6 75 "BackLensesModel" "high" "I") := ⟨List.mem_append_right _ (List.mem_of_getElem? (i := 753) (by decide +kernel)), good_of_word (by decide +kernel)⟩
theorem qw_624 : qG (Cond.fieldLink RX6 72 "BackLensesModel" "wide" "I") := ⟨List.mem_append_right _ (List.mem_of_getElem? (i := 752) (by decide +kernel)), good_of_word (by decide +kernel)⟩
theorem qw_625 : qG (Cond.code yX6_keepDraft cX6_keepDraft 2 none) := ⟨List.mem_append_right _ (List.mem_of_getElem? (i := 749) (by decide +kernel)), good_of_word (by decide +kernel)⟩
theorem qw_626 : qG (Cond.selects RX6 yX6_keepDraft yX6_keepDraft) := ⟨List.mem_append_left _ (List.mem_of_getElem? (i := 25) (by decide +kernel)), good_of_word (by decide +kernel)⟩
theorem qw_627 : qG (Cond.instanceMethod yX6_keepDraft) := ⟨List.mem_append_right _ (List.mem_of_getElem? (i := 748) (by decide +kernel)), good_of_word (by decide +kernel)⟩
theorem qw_628 : qG (Cond.methodLink RX6 47 yX6_keepDraft) := ⟨List.mem_append_right _ (List.mem_of_getElem? (i := 746) (by decide +kernel)), good_of_word (by decide +kernel)⟩
theorem qw_629 : qG (Cond.fieldLink RX6 69 "BackLensesModel" "highestDay" "I") := ⟨List.mem_append_right _ (List.mem_of_getElem? (i := 762) (by decide +kernel)), good_of_word (by decide +kernel)⟩
theorem qw_630 : qG (Cond.fieldLink RX6 66 "BackLensesModel" "highestCell" "I") := ⟨List.mem_append_right _ (List.mem_of_getElem? (i := 761) (by decide +kernel)), good_of_word (by decide +kernel)⟩
theorem qw_631 : qG (Cond.fieldLink RX6 63 "BackLensesModel" "toldCells" "I") := ⟨List.mem_append_right _ (List.mem_of_getElem? (i := 760) (by decide +kernel)), good_of_word (by decide +kernel)⟩
theorem qw_632 : qG (Cond.fieldLink RX6 60 "BackLensesModel" "toldLines" "I") := ⟨List.mem_append_right _ (List.mem_of_getElem? (i := 759) (by decide +kernel)), good_of_word (by decide +kernel)⟩
theorem qw_633 : qG (Cond.code yX6_init cX6_init 2 none) := ⟨List.mem_append_right _ (List.mem_of_getElem? (i := 740) (by decide +kernel)), good_of_word (by decide +kernel)⟩
theorem qw_634 : qG (Cond.code yX6_in cX6_in 6 (some .boolean)) := ⟨List.mem_append_right _ (List.mem_of_getElem? (i := 845) (by decide +kernel)), good_of_word (by decide +kernel)⟩
theorem qw_635 : qG (Cond.static yX6_in) := ⟨List.mem_append_right _ (List.mem_of_getElem? (i := 844) (by decide +kernel)), good_of_word (by decide +kernel)⟩
theorem qw_636 : qG (Cond.methodLink RX6 83 yX6_in) := ⟨List.mem_append_right _ (List.mem_of_getElem? (i := 843) (by decide +kernel)), good_of_word (by decide +kernel)⟩
theorem qw_637 : qG (Cond.fieldLink RX6 87 "BackLensesModel" "taped" "I") := ⟨List.mem_append_right _ (List.mem_of_getElem? (i := 764) (by decide +kernel)), good_of_word (by decide +kernel)⟩
theorem qw_638 : qG (Cond.constantLong RX6 81 (127)) := ⟨List.mem_append_right _ (List.mem_of_getElem? (i := 842) (by decide +kernel)), good_of_word (by decide +kernel)⟩
theorem qw_639 : qG (Cond.code yX6_feed cX6_feed 2 (some .int)) := ⟨List.mem_append_right _ (List.mem_of_getElem? (i := 841) (by decide +kernel)), good_of_word (by decide +kernel)⟩
theorem qw_640 : qG (Cond.selects RX6 yX6_feed yX6_feed) := ⟨List.mem_append_right _ (List.mem_of_getElem? (i := 840) (by decide +kernel)), good_of_word (by decide +kernel)⟩
theorem qw_641 : qG (Cond.instanceMethod yX6_feed) := ⟨List.mem_append_right _ (List.mem_of_getElem? (i := 839) (by decide +kernel)), good_of_word (by decide +kernel)⟩
theorem qw_642 : qG (Cond.methodLink RL 17 yX6_feed) := ⟨List.mem_append_right _ (List.mem_of_getElem? (i := 838) (by decide +kernel)), good_of_word (by decide +kernel)⟩
theorem qw_643 : qG (Cond.code yX6_end cX6_end 3 (some .int)) := ⟨List.mem_append_right _ (List.mem_of_getElem? (i := 849) (by decide +kernel)), good_of_word (by decide +kernel)⟩
theorem qw_644 : qG (Cond.selects RX6 yX6_end yX6_end) := ⟨List.mem_append_right _ (List.mem_of_getElem? (i := 848) (by decide +kernel)), good_of_word (by decide +kernel)⟩
theorem qw_645 : qG (Cond.instanceMethod yX6_end) := ⟨List.mem_append_right _ (List.mem_of_getElem? (i := 847) (by decide +kernel)), good_of_word (by decide +kernel)⟩
theorem qw_646 : qG (Cond.methodLink RL 21 yX6_end) := ⟨List.mem_append_right _ (List.mem_of_getElem? (i := 846) (by decide +kernel)), good_of_word (by decide +kernel)⟩
theorem qw_647 : qG (Cond.constantLong RX6 113 (97)) := ⟨List.mem_append_right _ (List.mem_of_getElem? (i := 862) (by decide +kernel)), good_of_word (by decide +kernel)⟩
theorem qw_648 : qG (Cond.fieldLink RX6 93 "BackLensesModel" "from" "I") := ⟨List.mem_append_right _ (List.mem_of_getElem? (i := 766) (by decide +kernel)), good_of_word (by decide +kernel)⟩
theorem qw_649 : qG (Cond.code yX6_nextToken cX6_nextToken 2 none) := ⟨List.mem_append_right _ (List.mem_of_getElem? (i := 857) (by decide +kernel)), good_of_word (by decide +kernel)⟩
theorem qw_650 : qG (Cond.selects RX6 yX6_nextToken yX6_nextToken) := ⟨List.mem_append_left _ (List.mem_of_getElem? (i := 26) (by decide +kernel)), good_of_word (by decide +kernel)⟩
theorem qw_651 : qG (Cond.instanceMethod yX6_nextToken) := ⟨List.mem_append_right _ (List.mem_of_getElem? (i := 856) (by decide +kernel)), good_of_word (by decide +kernel)⟩
theorem qw_652 : qG (Cond.methodLink RX6 132 yX6_nextToken) := ⟨List.mem_append_right _ (List.mem_of_getElem? (i := 854) (by decide +kernel)), good_of_word (by decide +kernel)⟩
theorem qw_653 : qG (Cond.fieldLink RX6 96 "BackLensesModel" "wrongAt" "I") := ⟨List.mem_append_right _ (List.mem_of_getElem? (i := 770) (by decide +kernel)), good_of_word (by decide +kernel)⟩
theorem qw_654 : qG (Cond.fieldLink RX6 110 "BackLensesModel" "sort" "I") := ⟨List.mem_append_right _ (List.mem_of_getElem? (i := 767) (by decide +kernel)), good_of_word (by decide +kernel)⟩
theorem qw_655 : qG (Cond.fieldLink RX6 99 "BackLensesModel" "pos" "I") := ⟨List.mem_append_right _ (List.mem_of_getElem? (i := 765) (by decide +kernel)), good_of_word (by decide +kernel)⟩
theorem qw_656 : qG (Cond.fieldLink RX6 90 "BackLensesModel" "fault" "I") := ⟨List.mem_append_right _ (List.mem_of_getElem? (i := 769) (by decide +kernel)), good_of_word (by decide +kernel)⟩
theorem qw_657 : qG (Cond.code yX6_lineNow cX6_lineNow 1 (some .int)) := ⟨List.mem_append_right _ (List.mem_of_getElem? (i := 877) (by decide +kernel)), good_of_word (by decide +kernel)⟩
theorem qw_658 : qG (Cond.selects RX6 yX6_lineNow yX6_lineNow) := ⟨List.mem_append_left _ (List.mem_of_getElem? (i := 30) (by decide +kernel)), good_of_word (by decide +kernel)⟩
theorem qw_659 : qG (Cond.instanceMethod yX6_lineNow) := ⟨List.mem_append_right _ (List.mem_of_getElem? (i := 876) (by decide +kernel)), good_of_word (by decide +kernel)⟩
theorem qw_660 : qG (Cond.methodLink RX6 148 yX6_lineNow) := ⟨List.mem_append_right _ (List.mem_of_getElem? (i := 874) (by decide +kernel)), good_of_word (by decide +kernel)⟩
theorem qw_661 : qG (Cond.code yX6_readLine cX6_readLine 2 none) := ⟨List.mem_append_right _ (List.mem_of_getElem? (i := 873) (by decide +kernel)), good_of_word (by decide +kernel)⟩
theorem qw_662 : qG (Cond.selects RX6 yX6_readLine yX6_readLine) := ⟨List.mem_append_left _ (List.mem_of_getElem? (i := 29) (by decide +kernel)), good_of_word (by decide +kernel)⟩
theorem qw_663 : qG (Cond.instanceMethod yX6_readLine) := ⟨List.mem_append_right _ (List.mem_of_getElem? (i := 872) (by decide +kernel)), good_of_word (by decide +kernel)⟩
theorem qw_664 : qG (Cond.methodLink RX6 155 yX6_readLine) := ⟨List.mem_append_right _ (List.mem_of_getElem? (i := 870) (by decide +kernel)), good_of_word (by decide +kernel)⟩
theorem qw_665 : qG (Cond.code yX6_needs cX6_needs 3 none) := ⟨List.mem_append_right _ (List.mem_of_getElem? (i := 869) (by decide +kernel)), good_of_word (by decide +kernel)⟩
theorem qw_666 : qG (Cond.selects RX6 yX6_needs yX6_needs) := ⟨List.mem_append_left _ (List.mem_of_getElem? (i := 28) (by decide +kernel)), good_of_word (by decide +kernel)⟩
theorem qw_667 : qG (Cond.instanceMethod yX6_needs) := ⟨List.mem_append_right _ (List.mem_of_getElem? (i := 868) (by decide +kernel)), good_of_word (by decide +kernel)⟩
theorem qw_668 : qG (Cond.methodLink RX6 124 yX6_needs) := ⟨List.mem_append_right _ (List.mem_of_getElem? (i := 866) (by decide +kernel)), good_of_word (by decide +kernel)⟩
theorem qw_669 : qG (Cond.code yX6_byteAt cX6_byteAt 2 (some .int)) := ⟨List.mem_append_right _ (List.mem_of_getElem? (i := 861) (by decide +kernel)), good_of_word (by decide +kernel)⟩
theorem qw_670 : qG (Cond.selects RX6 yX6_byteAt yX6_byteAt) := ⟨List.mem_append_left _ (List.mem_of_getElem? (i := 27) (by decide +kernel)), good_of_word (by decide +kernel)⟩
theorem qw_671 : qG (Cond.instanceMethod yX6_byteAt) := ⟨List.mem_append_right _ (List.mem_of_getElem? (i := 860) (by decide +kernel)), good_of_word (by decide +kernel)⟩
theorem qw_672 : qG (Cond.methodLink RX6 102 yX6_byteAt) := ⟨List.mem_append_right _ (List.mem_of_getElem? (i := 858) (by decide +kernel)), good_of_word (by decide +kernel)⟩
theorem qw_673 : qG (Cond.fieldLink RX6 121 "BackLensesModel" "value" "I") := ⟨List.mem_append_right _ (List.mem_of_getElem? (i := 768) (by decide +kernel)), good_of_word (by decide +kernel)⟩
theorem qw_674 : qG (Cond.constantLong RX6 119 (57)) := ⟨List.mem_append_right _ (List.mem_of_getElem? (i := 865) (by decide +kernel)), good_of_word (by decide +kernel)⟩
theorem qw_675 : qG (Cond.constantLong RX6 117 (48)) := ⟨List.mem_append_right _ (List.mem_of_getElem? (i := 864) (by decide +kernel)), good_of_word (by decide +kernel)⟩
theorem qw_676 : qG (Cond.constantLong RX6 115 (122)) := ⟨List.mem_append_right _ (List.mem_of_getElem? (i := 863) (by decide +kernel)), good_of_word (by decide +kernel)⟩
theorem qw_677 : qG (Cond.code yX6_readDay cX6_readDay 2 (some .int)) := ⟨List.mem_append_right _ (List.mem_of_getElem? (i := 901) (by decide +kernel)), good_of_word (by decide +kernel)⟩
theorem qw_678 : qG (Cond.selects RX6 yX6_readDay yX6_readDay) := ⟨List.mem_append_left _ (List.mem_of_getElem? (i := 36) (by decide +kernel)), good_of_word (by decide +kernel)⟩
theorem qw_679 : qG (Cond.instanceMethod yX6_readDay) := ⟨List.mem_append_right _ (List.mem_of_getElem? (i := 900) (by decide +kernel)), good_of_word (by decide +kernel)⟩
theorem qw_680 : qG (Cond.methodLink RX6 135 yX6_readDay) := ⟨List.mem_append_right _ (List.mem_of_getElem? (i := 898) (by decide +kernel)), good_of_word (by decide +kernel)⟩
theorem qw_681 : qG (Cond.code yX6_readCellBut cX6_readCellBut 3 (some .int)) := ⟨List.mem_append_right _ (List.mem_of_getElem? (i := 897) (by decide +kernel)), good_of_word (by decide +kernel)⟩
theorem qw_682 : qG (Cond.selects RX6 yX6_readCellBut yX6_readCellBut) := ⟨List.mem_append_left _ (List.mem_of_getElem? (i := 35) (by decide +kernel)), good_of_word (by decide +kernel)⟩
theorem qw_683 : qG (Cond.instanceMethod yX6_readCellBut) := ⟨List.mem_append_right _ (List.mem_of_getElem? (i := 896) (by decide +kernel)), good_of_word (by decide +kernel)⟩
theorem qw_684 : qG (Cond.methodLink RX6 139 yX6_readCellBut) := ⟨List.mem_append_right _ (List.mem_of_getElem? (i := 894) (by decide +kernel)), good_of_word (by decide +kernel)⟩
theorem qw_685 : qG (Cond.code yX6_looked cX6_looked 3 (some .int)) := ⟨List.mem_append_right _ (List.mem_of_getElem? (i := 893) (by decide +kernel)), good_of_word (by decide +kernel)⟩
theorem qw_686 : qG (Cond.selects RX6 yX6_looked yX6_looked) := ⟨List.mem_append_left _ (List.mem_of_getElem? (i := 34) (by decide +kernel)), good_of_word (by decide +kernel)⟩
theorem qw_687 : qG (Cond.instanceMethod yX6_looked) := ⟨List.mem_append_right _ (List.mem_of_getElem? (i := 892) (by decide +kernel)), good_of_word (by decide +kernel)⟩
theorem qw_688 : qG (Cond.methodLink RX6 128 yX6_looked) := ⟨List.mem_append_right _ (List.mem_of_getElem? (i := 890) (by decide +kernel)), good_of_word (by decide +kernel)⟩
theorem qw_689 : qG (Cond.code yX6_readNumber cX6_readNumber 4 (some .int)) := ⟨List.mem_append_right _ (List.mem_of_getElem? (i := 889) (by decide +kernel)), good_of_word (by decide +kernel)⟩
theorem qw_690 : qG (Cond.selects RX6 yX6_readNumber yX6_readNumber) := ⟨List.mem_append_left _ (List.mem_of_getElem? (i := 33) (by decide +kernel)), good_of_word (by decide +kernel)⟩
theorem qw_691 : qG (Cond.instanceMethod yX6_readNumber) := ⟨List.mem_append_right _ (List.mem_of_getElem? (i := 888) (by decide +kernel)), good_of_word (by decide +kernel)⟩
theorem qw_692 : qG (Cond.methodLink RX6 142 yX6_readNumber) := ⟨List.mem_append_right _ (List.mem_of_getElem? (i := 886) (by decide +kernel)), good_of_word (by decide +kernel)⟩
theorem qw_693 : qG (Cond.code yX6_readLineOf cX6_readLineOf 3 none) := ⟨List.mem_append_right _ (List.mem_of_getElem? (i := 885) (by decide +kernel)), good_of_word (by decide +kernel)⟩
theorem qw_694 : qG (Cond.selects RX6 yX6_readLineOf yX6_readLineOf) := ⟨List.mem_append_left _ (List.mem_of_getElem? (i := 32) (by decide +kernel)), good_of_word (by decide +kernel)⟩
theorem qw_695 : qG (Cond.instanceMethod yX6_readLineOf) := ⟨List.mem_append_right _ (List.mem_of_getElem? (i := 884) (by decide +kernel)), good_of_word (by decide +kernel)⟩
theorem qw_696 : qG (Cond.methodLink RX6 151 yX6_readLineOf) := ⟨List.mem_append_right _ (List.mem_of_getElem? (i := 882) (by decide +kernel)), good_of_word (by decide +kernel)⟩
theorem qw_697 : qG (Cond.code yX6_is cX6_is 6 (some .boolean)) := ⟨List.mem_append_right _ (List.mem_of_getElem? (i := 881) (by decide +kernel)), good_of_word (by decide +kernel)⟩
theorem qw_698 : qG (Cond.selects RX6 yX6_is yX6_is) := ⟨List.mem_append_left _ (List.mem_of_getElem? (i := 31) (by decide +kernel)), good_of_word (by decide +kernel)⟩
theorem qw_699 : qG (Cond.instanceMethod yX6_is) := ⟨List.mem_append_right _ (List.mem_of_getElem? (i := 880) (by decide +kernel)), good_of_word (by decide +kernel)⟩
theorem qw_700 : qG (Cond.methodLink RX6 106 yX6_is) := ⟨List.mem_append_right _ (List.mem_of_getElem? (i := 878) (by decide +kernel)), good_of_word (by decide +kernel)⟩
theorem qw_701 : qG (Cond.code yX6_readLens cX6_readLens 3 none) := ⟨List.mem_append_right _ (List.mem_of_getElem? (i := 905) (by decide +kernel)), good_of_word (by decide +kernel)⟩
theorem qw_702 : qG (Cond.selects RX6 yX6_readLens yX6_readLens) := ⟨List.mem_append_left _ (List.mem_of_getElem? (i := 37) (by decide +kernel)), good_of_word (by decide +kernel)⟩
theorem qw_703 : qG (Cond.instanceMethod yX6_readLens) := ⟨List.mem_append_right _ (List.mem_of_getElem? (i := 904) (by decide +kernel)), good_of_word (by decide +kernel)⟩
theorem qw_704 : qG (Cond.methodLink RX6 145 yX6_readLens) := ⟨List.mem_append_right _ (List.mem_of_getElem? (i := 902) (by decide +kernel)), good_of_word (by decide +kernel)⟩
theorem qw_705 : qG (Cond.code yX6_text cX6_text 2 (some .int)) := ⟨List.mem_append_right _ (List.mem_of_getElem? (i := 853) (by decide +kernel)), good_of_word (by decide +kernel)⟩
theorem qw_706 : qG (Cond.selects RX6 yX6_text yX6_text) := ⟨List.mem_append_right _ (List.mem_of_getElem? (i := 852) (by decide +kernel)), good_of_word (by decide +kernel)⟩
theorem qw_707 : qG (Cond.instanceMethod yX6_text) := ⟨List.mem_append_right _ (List.mem_of_getElem? (i := 851) (by decide +kernel)), good_of_word (by decide +kernel)⟩
theorem qw_708 : qG (Cond.methodLink RL 26 yX6_text) := ⟨List.mem_append_right _ (List.mem_of_getElem? (i := 850) (by decide +kernel)), good_of_word (by decide +kernel)⟩
theorem qw_709 : qG (Cond.code yX6_fault cX6_fault 1 (some .int)) := ⟨List.mem_append_right _ (List.mem_of_getElem? (i := 909) (by decide +kernel)), good_of_word (by decide +kernel)⟩
theorem qw_710 : qG (Cond.selects RX6 yX6_fault yX6_fault) := ⟨List.mem_append_right _ (List.mem_of_getElem? (i := 908) (by decide +kernel)), good_of_word (by decide +kernel)⟩
theorem qw_711 : qG (Cond.instanceMethod yX6_fault) := ⟨List.mem_append_right _ (List.mem_of_getElem? (i := 907) (by decide +kernel)), good_of_word (by decide +kernel)⟩
theorem qw_712 : qG (Cond.methodLink RL 30 yX6_fault) := ⟨List.mem_append_right _ (List.mem_of_getElem? (i := 906) (by decide +kernel)), good_of_word (by decide +kernel)⟩
theorem qw_713 : qG (Cond.code yX6_rule cX6_rule 2 (some .int)) := ⟨List.mem_append_right _ (List.mem_of_getElem? (i := 913) (by decide +kernel)), good_of_word (by decide +kernel)⟩
theorem qw_714 : qG (Cond.selects RX6 yX6_rule yX6_rule) := ⟨List.mem_append_right _ (List.mem_of_getElem? (i := 912) (by decide +kernel)), good_of_word (by decide +kernel)⟩
theorem qw_715 : qG (Cond.instanceMethod yX6_rule) := ⟨List.mem_append_right _ (List.mem_of_getElem? (i := 911) (by decide +kernel)), good_of_word (by decide +kernel)⟩
theorem qw_716 : qG (Cond.methodLink RL 34 yX6_rule) := ⟨List.mem_append_right _ (List.mem_of_getElem? (i := 910) (by decide +kernel)), good_of_word (by decide +kernel)⟩
theorem qw_717 : qG (Cond.code yX6_markOf cX6_markOf 8 (some .int)) := ⟨List.mem_append_right _ (List.mem_of_getElem? (i := 933) (by decide +kernel)), good_of_word (by decide +kernel)⟩
theorem qw_718 : qG (Cond.selects RX6 yX6_markOf yX6_markOf) := ⟨List.mem_append_left _ (List.mem_of_getElem? (i := 41) (by decide +kernel)), good_of_word (by decide +kernel)⟩
theorem qw_719 : qG (Cond.instanceMethod yX6_markOf) := ⟨List.mem_append_right _ (List.mem_of_getElem? (i := 932) (by decide +kernel)), good_of_word (by decide +kernel)⟩
theorem qw_720 : qG (Cond.methodLink RX6 163 yX6_markOf) := ⟨List.mem_append_right _ (List.mem_of_getElem? (i := 930) (by decide +kernel)), good_of_word (by decide +kernel)⟩
theorem qw_721 : qG (Cond.code yX6_isDay cX6_isDay 2 (some .boolean)) := ⟨List.mem_append_right _ (List.mem_of_getElem? (i := 929) (by decide +kernel)), good_of_word (by decide +kernel)⟩
theorem qw_722 : qG (Cond.selects RX6 yX6_isDay yX6_isDay) := ⟨List.mem_append_left _ (List.mem_of_getElem? (i := 40) (by decide +kernel)), good_of_word (by decide +kernel)⟩
theorem qw_723 : qG (Cond.instanceMethod yX6_isDay) := ⟨List.mem_append_right _ (List.mem_of_getElem? (i := 928) (by decide +kernel)), good_of_word (by decide +kernel)⟩
theorem qw_724 : qG (Cond.methodLink RX6 182 yX6_isDay) := ⟨List.mem_append_right _ (List.mem_of_getElem? (i := 926) (by decide +kernel)), good_of_word (by decide +kernel)⟩
theorem qw_725 : qG (Cond.code yX6_cellsNow cX6_cellsNow 1 (some .int)) := ⟨List.mem_append_right _ (List.mem_of_getElem? (i := 925) (by decide +kernel)), good_of_word (by decide +kernel)⟩
theorem qw_726 : qG (Cond.selects RX6 yX6_cellsNow yX6_cellsNow) := ⟨List.mem_append_left _ (List.mem_of_getElem? (i := 39) (by decide +kernel)), good_of_word (by decide +kernel)⟩
theorem qw_727 : qG (Cond.instanceMethod yX6_cellsNow) := ⟨List.mem_append_right _ (List.mem_of_getElem? (i := 924) (by decide +kernel)), good_of_word (by decide +kernel)⟩
theorem qw_728 : qG (Cond.methodLink RX6 158 yX6_cellsNow) := ⟨List.mem_append_right _ (List.mem_of_getElem? (i := 922) (by decide +kernel)), good_of_word (by decide +kernel)⟩
theorem qw_729 : qG (Cond.code yX6_isCell cX6_isCell 2 (some .boolean)) := ⟨List.mem_append_right _ (List.mem_of_getElem? (i := 921) (by decide +kernel)), good_of_word (by decide +kernel)⟩
theorem qw_730 : qG (Cond.selects RX6 yX6_isCell yX6_isCell) := ⟨List.mem_append_left _ (List.mem_of_getElem? (i := 38) (by decide +kernel)), good_of_word (by decide +kernel)⟩
theorem qw_731 : qG (Cond.instanceMethod yX6_isCell) := ⟨List.mem_append_right _ (List.mem_of_getElem? (i := 920) (by decide +kernel)), good_of_word (by decide +kernel)⟩
theorem qw_732 : qG (Cond.methodLink RX6 178 yX6_isCell) := ⟨List.mem_append_right _ (List.mem_of_getElem? (i := 918) (by decide +kernel)), good_of_word (by decide +kernel)⟩
theorem qw_733 : qG (Cond.code yX6_mark cX6_mark 3 (some .int)) := ⟨List.mem_append_right _ (List.mem_of_getElem? (i := 917) (by decide +kernel)), good_of_word (by decide +kernel)⟩
theorem qw_734 : qG (Cond.selects RX6 yX6_mark yX6_mark) := ⟨List.mem_append_right _ (List.mem_of_getElem? (i := 916) (by decide +kernel)), good_of_word (by decide +kernel)⟩
theorem qw_735 : qG (Cond.instanceMethod yX6_mark) := ⟨List.mem_append_right _ (List.mem_of_getElem? (i := 915) (by decide +kernel)), good_of_word (by decide +kernel)⟩
theorem qw_736 : qG (Cond.methodLink RL 39 yX6_mark) := ⟨List.mem_append_right _ (List.mem_of_getElem? (i := 914) (by decide +kernel)), good_of_word (by decide +kernel)⟩
theorem qw_737 : qG (Cond.constantLong RX6 185 (2)) := ⟨List.mem_append_right _ (List.mem_of_getElem? (i := 938) (by decide +kernel)), good_of_word (by decide +kernel)⟩
theorem qw_738 : qG (Cond.code yX6_change cX6_change 3 (some .int)) := ⟨List.mem_append_right _ (List.mem_of_getElem? (i := 937) (by decide +kernel)), good_of_word (by decide +kernel)⟩
theorem qw_739 : qG (Cond.selects RX6 yX6_change yX6_change) := ⟨List.mem_append_right _ (List.mem_of_getElem? (i := 936) (by decide +kernel)), good_of_word (by decide +kernel)⟩
theorem qw_740 : qG (Cond.instanceMethod yX6_change) := ⟨List.mem_append_right _ (List.mem_of_getElem? (i := 935) (by decide +kernel)), good_of_word (by decide +kernel)⟩
theorem qw_741 : qG (Cond.methodLink RL 43 yX6_change) := ⟨List.mem_append_right _ (List.mem_of_getElem? (i := 934) (by decide +kernel)), good_of_word (by decide +kernel)⟩
theorem qw_742 : qG (Cond.code yX6_isPart cX6_isPart 1 (some .boolean)) := ⟨List.mem_append_right _ (List.mem_of_getElem? (i := 949) (by decide +kernel)), good_of_word (by decide +kernel)⟩
theorem qw_743 : qG (Cond.static yX6_isPart) := ⟨List.mem_append_right _ (List.mem_of_getElem? (i := 948) (by decide +kernel)), good_of_word (by decide +kernel)⟩
theorem qw_744 : qG (Cond.methodLink RX6 190 yX6_isPart) := ⟨List.mem_append_right _ (List.mem_of_getElem? (i := 947) (by decide +kernel)), good_of_word (by decide +kernel)⟩
theorem qw_745 : qG (Cond.code yX6_isLens cX6_isLens 2 (some .boolean)) := ⟨List.mem_append_right _ (List.mem_of_getElem? (i := 946) (by decide +kernel)), good_of_word (by decide +kernel)⟩
theorem qw_746 : qG (Cond.selects RX6 yX6_isLens yX6_isLens) := ⟨List.mem_append_left _ (List.mem_of_getElem? (i := 42) (by decide +kernel)), good_of_word (by decide +kernel)⟩

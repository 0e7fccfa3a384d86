set_option maxRecDepth 20000 in
theorem xw_500 : Cond.methodLink RX5 75 yX4_restsIn ∈ xgt := wm_4 133 rfl rfl
set_option maxRecDepth 20000 in
theorem xw_501 : Cond.instanceMethod yX4_highestIn ∈ xgt := wm_4 138 rfl rfl
set_option maxRecDepth 20000 in
theorem xw_502 : Cond.selects yX4_highestIn.cls yX4_highestIn yX4_highestIn ∈ xgt := wm_4 139 rfl rfl
set_option maxRecDepth 20000 in
theorem xw_503 : Cond.methodLink RX5 78 yX4_highestIn ∈ xgt := wm_4 137 rfl rfl
set_option maxRecDepth 20000 in
theorem xw_504 : Cond.methodLink RX5 98 yJ9_max_7cf53 ∈ xgt := wm_4 197 rfl rfl
set_option maxRecDepth 20000 in
theorem xw_505 : Cond.fieldLink RX5 68 (TX10 7).1 (TX10 7).2.1 (TX10 7).2.2.1 ∈ xgt := wm_2 111 rfl rfl
set_option maxRecDepth 20000 in
theorem xw_506 : Cond.instanceMethod yX5_setOwner ∈ xgt := wm_4 131 rfl rfl
set_option maxRecDepth 20000 in
theorem xw_507 : Cond.selects yX5_setOwner.cls yX5_setOwner yX5_setOwner ∈ xgt := ws_2 (q := (yX5_setOwner, 6)) 8 rfl rfl
set_option maxRecDepth 20000 in
theorem xw_508 : Cond.methodLink RX5 71 yX5_setOwner ∈ xgt := wm_4 129 rfl rfl
set_option maxRecDepth 20000 in
theorem xw_509 : Cond.instanceMethod yX5_setMusic ∈ xgt := wm_4 146 rfl rfl
set_option maxRecDepth 20000 in
theorem xw_510 : Cond.selects yX5_setMusic.cls yX5_setMusic yX5_setMusic ∈ xgt := ws_2 (q := (yX5_setMusic, 6)) 9 rfl rfl
set_option maxRecDepth 20000 in
theorem xw_511 : Cond.methodLink RX5 84 yX5_setMusic ∈ xgt := wm_4 144 rfl rfl
set_option maxRecDepth 20000 in
theorem xw_512 : Cond.instanceMethod yX5_reckon ∈ xgt := wm_4 150 rfl rfl
set_option maxRecDepth 20000 in
theorem xw_513 : Cond.selects yX5_reckon.cls yX5_reckon yX5_reckon ∈ xgt := ws_2 (q := (yX5_reckon, 6)) 10 rfl rfl
set_option maxRecDepth 20000 in
theorem xw_514 : Cond.methodLink RX5 88 yX5_reckon ∈ xgt := wm_4 148 rfl rfl
set_option maxRecDepth 20000 in
theorem xw_515 : Cond.methodLink RX5 103 yJ9_min_7cf53 ∈ xgt := wm_4 198 rfl rfl
set_option maxRecDepth 20000 in
theorem xw_516 : Cond.code yX5_bidFor cX5_bidFor 9 (some .int) ∈ xgt := wm_4 196 rfl rfl
set_option maxRecDepth 20000 in
theorem xw_517 : Cond.fieldLink RX5 46 (TX4 8).1 (TX4 8).2.1 (TX4 8).2.2.1 ∈ xgt := wm_1 139 rfl rfl
set_option maxRecDepth 20000 in
theorem xw_518 : Cond.fieldLink RX5 53 (TX4 9).1 (TX4 9).2.1 (TX4 9).2.2.1 ∈ xgt := wm_1 143 rfl rfl
set_option maxRecDepth 20000 in
theorem xw_519 : Cond.fieldLink RX5 65 (TX4 4).1 (TX4 4).2.1 (TX4 4).2.2.1 ∈ xgt := wm_1 126 rfl rfl
set_option maxRecDepth 20000 in
theorem xw_520 : Cond.fieldLink RX5 92 (TX4 7).1 (TX4 7).2.1 (TX4 7).2.2.1 ∈ xgt := wm_1 136 rfl rfl
set_option maxRecDepth 20000 in
theorem xw_521 : Cond.code yX5_crackFor cX5_crackFor 4 (some .int) ∈ xgt := wm_4 206 rfl rfl
set_option maxRecDepth 20000 in
theorem xw_522 : Cond.methodLink RX5 56 yX5_soundBits ∈ xgt := wm_4 110 rfl rfl
set_option maxRecDepth 20000 in
theorem xw_523 : Cond.methodLink RX5 59 yJ6_bitCount_0f7a4 ∈ xgt := wm_4 123 rfl rfl
set_option maxRecDepth 20000 in
theorem xw_524 : Cond.code yX5_dueFor cX5_dueFor 8 (some .int) ∈ xgt := wm_4 108 rfl rfl
set_option maxRecDepth 20000 in
theorem xw_525 : Cond.code yX5_join cX5_join 5 (some .long) ∈ xgt := wm_4 176 rfl rfl
set_option maxRecDepth 20000 in
theorem xw_526 : Cond.code yX5_pop cX5_pop 1 (some .long) ∈ xgt := wm_4 166 rfl rfl
set_option maxRecDepth 20000 in
theorem xw_527 : Cond.constantLong RX5 155 (lN 1000000000000) ∈ xgt := wm_4 161 rfl rfl
set_option maxRecDepth 20000 in
theorem xw_528 : Cond.constantLong RX5 157 (lN 18446743073709551616) ∈ xgt := wm_4 162 rfl rfl
set_option maxRecDepth 20000 in
theorem xw_529 : Cond.code yX5_push cX5_push 3 none ∈ xgt := wm_4 160 rfl rfl
set_option maxRecDepth 20000 in
theorem xw_530 : Cond.fieldLink RX5 106 (TX4 15).1 (TX4 15).2.1 (TX4 15).2.2.1 ∈ xgt := wm_1 166 rfl rfl
set_option maxRecDepth 20000 in
theorem xw_531 : Cond.instanceMethod yX2_isTold ∈ xgt := wm_4 44 rfl rfl
set_option maxRecDepth 20000 in
theorem xw_532 : Cond.selects yX2_isTold.cls yX2_isTold yX2_isTold ∈ xgt := wm_4 45 rfl rfl
set_option maxRecDepth 20000 in
theorem xw_533 : Cond.methodLink RX5 110 yX2_isTold ∈ xgt := wm_4 152 rfl rfl
set_option maxRecDepth 20000 in
theorem xw_534 : Cond.fieldLink RX5 115 (TX2 2).1 (TX2 2).2.1 (TX2 2).2.2.1 ∈ xgt := wm_1 74 rfl rfl
set_option maxRecDepth 20000 in
theorem xw_535 : Cond.fieldLink RX5 118 (TX2 3).1 (TX2 3).2.1 (TX2 3).2.2.1 ∈ xgt := wm_1 76 rfl rfl
set_option maxRecDepth 20000 in
theorem xw_536 : Cond.fieldLink RX5 121 (TX2 0).1 (TX2 0).2.1 (TX2 0).2.2.1 ∈ xgt := wm_1 70 rfl rfl
set_option maxRecDepth 20000 in
theorem xw_537 : Cond.fieldLink RX5 124 (TX2 1).1 (TX2 1).2.1 (TX2 1).2.2.1 ∈ xgt := wm_1 72 rfl rfl
set_option maxRecDepth 20000 in
theorem xw_538 : Cond.instanceMethod yX5_apply ∈ xgt := wm_4 155 rfl rfl
set_option maxRecDepth 20000 in
theorem xw_539 : Cond.selects yX5_apply.cls yX5_apply yX5_apply ∈ xgt := ws_2 (q := (yX5_apply, 6)) 11 rfl rfl
set_option maxRecDepth 20000 in
theorem xw_540 : Cond.methodLink RX5 127 yX5_apply ∈ xgt := wm_4 153 rfl rfl
set_option maxRecDepth 20000 in
theorem xw_541 : Cond.methodLink RX5 135 yJ9_min_f86c9 ∈ xgt := wm_4 177 rfl rfl
set_option maxRecDepth 20000 in
theorem xw_542 : Cond.static yJ9_min_f86c9 ∈ xgt := wm_4 178 rfl rfl
set_option maxRecDepth 20000 in
theorem xw_543 : Cond.methodLink RX5 138 yJ9_max_f86c9 ∈ xgt := wm_4 180 rfl rfl
set_option maxRecDepth 20000 in
theorem xw_544 : Cond.static yJ9_max_f86c9 ∈ xgt := wm_4 181 rfl rfl
set_option maxRecDepth 20000 in
theorem xw_545 : Cond.code yX5_reckon cX5_reckon 6 (some .int) ∈ xgt := wm_4 151 rfl rfl
set_option maxRecDepth 20000 in
theorem xw_546 : Cond.methodLink RX5 151 yJ9_abs_067f4 ∈ xgt := wm_4 171 rfl rfl
set_option maxRecDepth 20000 in
theorem xw_547 : Cond.static yJ9_abs_067f4 ∈ xgt := wm_4 172 rfl rfl
set_option maxRecDepth 20000 in
theorem xw_548 : Cond.code yX5_scale cX5_scale 6 (some .long) ∈ xgt := wm_4 170 rfl rfl
set_option maxRecDepth 20000 in
theorem xw_549 : Cond.code yX5_setMusic cX5_setMusic 5 none ∈ xgt := wm_4 147 rfl rfl
set_option maxRecDepth 20000 in
theorem xw_550 : Cond.code yX5_setOwner cX5_setOwner 4 none ∈ xgt := wm_4 132 rfl rfl
set_option maxRecDepth 20000 in
theorem xw_551 : Cond.methodLink RX5 34 yX10_isCracked ∈ xgt := wm_4 114 rfl rfl
set_option maxRecDepth 20000 in
theorem xw_552 : Cond.instanceMethod yX4_reachedBars ∈ xgt := wm_4 119 rfl rfl
set_option maxRecDepth 20000 in
theorem xw_553 : Cond.selects yX4_reachedBars.cls yX4_reachedBars yX4_reachedBars ∈ xgt := wm_4 120 rfl rfl
set_option maxRecDepth 20000 in
theorem xw_554 : Cond.methodLink RX5 40 yX4_reachedBars ∈ xgt := wm_4 118 rfl rfl
set_option maxRecDepth 20000 in
theorem xw_555 : Cond.code yX5_soundBits cX5_soundBits 3 (some .int) ∈ xgt := wm_4 113 rfl rfl
set_option maxRecDepth 20000 in
theorem xw_556 : Cond.methodLink RX6 3 Lib.objectInit ∈ xgt := wm_1 47 rfl rfl
set_option maxRecDepth 20000 in
theorem xw_557 : Cond.fieldLink RX6 9 (TX6 1).1 (TX6 1).2.1 (TX6 1).2.2.1 ∈ xgt := wm_1 49 rfl rfl
set_option maxRecDepth 20000 in
theorem xw_558 : Cond.fieldLink RX6 15 (TX6 0).1 (TX6 0).2.1 (TX6 0).2.2.1 ∈ xgt := wm_1 48 rfl rfl
set_option maxRecDepth 20000 in
theorem xw_559 : Cond.code yX6_init cX6_init 2 none ∈ xgt := wm_1 46 rfl rfl
set_option maxRecDepth 20000 in
theorem xw_560 : Cond.instanceMethod yX6_isFull ∈ xgt := wm_3 189 rfl rfl
set_option maxRecDepth 20000 in
theorem xw_561 : Cond.selects yX6_isFull.cls yX6_isFull yX6_isFull ∈ xgt := wm_3 190 rfl rfl
set_option maxRecDepth 20000 in
theorem xw_562 : Cond.methodLink RX6 19 yX6_isFull ∈ xgt := wm_3 205 rfl rfl
set_option maxRecDepth 20000 in
theorem xw_563 : Cond.code yX6_add cX6_add 2 (some .int) ∈ xgt := wm_3 204 rfl rfl
set_option maxRecDepth 20000 in
theorem xw_564 : Cond.code yX6_find cX6_find 3 (some .int) ∈ xgt := wm_3 200 rfl rfl
set_option maxRecDepth 20000 in
theorem xw_565 : Cond.code yX6_holds cX6_holds 2 (some .boolean) ∈ xgt := wm_4 78 rfl rfl
set_option maxRecDepth 20000 in
theorem xw_566 : Cond.code yX6_isFull cX6_isFull 1 (some .boolean) ∈ xgt := wm_3 191 rfl rfl
set_option maxRecDepth 20000 in
theorem xw_567 : Cond.methodLink RX6 23 arraycopyName ∈ xgt := wm_4 55 rfl rfl
set_option maxRecDepth 20000 in
theorem xw_568 : Cond.code yX6_take cX6_take 2 none ∈ xgt := wm_4 54 rfl rfl
set_option maxRecDepth 20000 in
theorem xw_569 : Cond.methodLink RX7 3 Lib.objectInit ∈ xgt := wm_3 0 rfl rfl
set_option maxRecDepth 20000 in
theorem xw_570 : Cond.fieldLink RX7 9 (TX7 3).1 (TX7 3).2.1 (TX7 3).2.2.1 ∈ xgt := wm_3 4 rfl rfl
set_option maxRecDepth 20000 in
theorem xw_571 : Cond.fieldLink RX7 15 (TX7 4).1 (TX7 4).2.1 (TX7 4).2.2.1 ∈ xgt := wm_3 6 rfl rfl
set_option maxRecDepth 20000 in
theorem xw_572 : Cond.fieldLink RX7 18 (TX7 5).1 (TX7 5).2.1 (TX7 5).2.2.1 ∈ xgt := wm_3 8 rfl rfl
set_option maxRecDepth 20000 in
theorem xw_573 : Cond.fieldLink RX7 21 (TX7 0).1 (TX7 0).2.1 (TX7 0).2.2.1 ∈ xgt := wm_3 1 rfl rfl
set_option maxRecDepth 20000 in
theorem xw_574 : Cond.fieldLink RX7 25 (TX7 1).1 (TX7 1).2.1 (TX7 1).2.2.1 ∈ xgt := wm_3 2 rfl rfl
set_option maxRecDepth 20000 in
theorem xw_575 : Cond.fieldLink RX7 29 (TX7 2).1 (TX7 2).2.1 (TX7 2).2.2.1 ∈ xgt := wm_3 3 rfl rfl
set_option maxRecDepth 20000 in
theorem xw_576 : Cond.code yX7_init cX7_init 4 none ∈ xgt := wm_2 239 rfl rfl
set_option maxRecDepth 20000 in
theorem xw_577 : Cond.fieldLink RX7 33 (TX10 2).1 (TX10 2).2.1 (TX10 2).2.2.1 ∈ xgt := wm_2 100 rfl rfl
set_option maxRecDepth 20000 in
theorem xw_578 : Cond.methodLink RX7 38 arraycopyName ∈ xgt := wm_5 90 rfl rfl
set_option maxRecDepth 20000 in
theorem xw_579 : Cond.fieldLink RX7 44 (TX4 2).1 (TX4 2).2.1 (TX4 2).2.2.1 ∈ xgt := wm_1 115 rfl rfl
set_option maxRecDepth 20000 in
theorem xw_580 : Cond.fieldLink RX7 50 (TX6 1).1 (TX6 1).2.1 (TX6 1).2.2.1 ∈ xgt := wm_1 52 rfl rfl
set_option maxRecDepth 20000 in
theorem xw_581 : Cond.instanceMethod yX7_sellVerse ∈ xgt := wm_5 93 rfl rfl
set_option maxRecDepth 20000 in
theorem xw_582 : Cond.selects yX7_sellVerse.cls yX7_sellVerse yX7_sellVerse ∈ xgt := ws_3 (q := (yX7_sellVerse, 6)) 8 rfl rfl
set_option maxRecDepth 20000 in
theorem xw_583 : Cond.methodLink RX7 56 yX7_sellVerse ∈ xgt := wm_5 91 rfl rfl
set_option maxRecDepth 20000 in
theorem xw_584 : Cond.code yX7_hold cX7_hold 4 (some .int) ∈ xgt := wm_5 89 rfl rfl
set_option maxRecDepth 20000 in
theorem xw_585 : Cond.fieldLink RX7 60 (TX4 3).1 (TX4 3).2.1 (TX4 3).2.2.1 ∈ xgt := wm_1 121 rfl rfl
set_option maxRecDepth 20000 in
theorem xw_586 : Cond.methodLink RX7 63 yX5_bidFor ∈ xgt := wm_5 95 rfl rfl
set_option maxRecDepth 20000 in
theorem xw_587 : Cond.methodLink RX7 69 yJ9_max_7cf53 ∈ xgt := wm_5 96 rfl rfl
set_option maxRecDepth 20000 in
theorem xw_588 : Cond.code yX7_sellVerse cX7_sellVerse 7 none ∈ xgt := wm_5 94 rfl rfl
set_option maxRecDepth 20000 in
theorem xw_589 : Cond.methodLink RX8 3 Lib.objectInit ∈ xgt := wm_2 74 rfl rfl
set_option maxRecDepth 20000 in
theorem xw_590 : Cond.fieldLink RX8 9 (TX8 2).1 (TX8 2).2.1 (TX8 2).2.2.1 ∈ xgt := wm_2 78 rfl rfl
set_option maxRecDepth 20000 in
theorem xw_591 : Cond.fieldLink RX8 15 (TX8 3).1 (TX8 3).2.1 (TX8 3).2.2.1 ∈ xgt := wm_2 79 rfl rfl
set_option maxRecDepth 20000 in
theorem xw_592 : Cond.fieldLink RX8 18 (TX8 0).1 (TX8 0).2.1 (TX8 0).2.2.1 ∈ xgt := wm_2 75 rfl rfl
set_option maxRecDepth 20000 in
theorem xw_593 : Cond.fieldLink RX8 22 (TX8 1).1 (TX8 1).2.1 (TX8 1).2.2.1 ∈ xgt := wm_2 77 rfl rfl
set_option maxRecDepth 20000 in
theorem xw_594 : Cond.code yX8_init cX8_init 3 none ∈ xgt := wm_2 73 rfl rfl
set_option maxRecDepth 20000 in
theorem xw_595 : Cond.methodLink RX8 158 yX6_isFull ∈ xgt := wm_3 188 rfl rfl
set_option maxRecDepth 20000 in
theorem xw_596 : Cond.methodLink RX8 67 yX9_fail ∈ xgt := wm_3 192 rfl rfl
set_option maxRecDepth 20000 in
theorem xw_597 : Cond.methodLink RX8 152 yX9_next ∈ xgt := wm_3 196 rfl rfl
set_option maxRecDepth 20000 in
theorem xw_598 : Cond.fieldLink RX8 37 (TX9 4).1 (TX9 4).2.1 (TX9 4).2.2.1 ∈ xgt := wm_2 42 rfl rfl
set_option maxRecDepth 20000 in
theorem xw_599 : Cond.fieldLink RX8 164 (TX9 6).1 (TX9 6).2.1 (TX9 6).2.2.1 ∈ xgt := wm_2 47 rfl rfl
set_option maxRecDepth 20000 in
theorem xw_600 : Cond.methodLink RX8 167 yX6_find ∈ xgt := wm_3 197 rfl rfl
set_option maxRecDepth 20000 in
theorem xw_601 : Cond.instanceMethod yX6_add ∈ xgt := wm_3 202 rfl rfl
set_option maxRecDepth 20000 in
theorem xw_602 : Cond.selects yX6_add.cls yX6_add yX6_add ∈ xgt := wm_3 203 rfl rfl
set_option maxRecDepth 20000 in
theorem xw_603 : Cond.methodLink RX8 171 yX6_add ∈ xgt := wm_3 201 rfl rfl
set_option maxRecDepth 20000 in
theorem xw_604 : Cond.code yX8_begin cX8_begin 3 (some .int) ∈ xgt := wm_3 187 rfl rfl
set_option maxRecDepth 20000 in
theorem xw_605 : Cond.instanceMethod yX8_number ∈ xgt := wm_3 208 rfl rfl
set_option maxRecDepth 20000 in
theorem xw_606 : Cond.selects yX8_number.cls yX8_number yX8_number ∈ xgt := ws_1 (q := (yX8_number, 4)) 7 rfl rfl
set_option maxRecDepth 20000 in
theorem xw_607 : Cond.methodLink RX8 86 yX8_number ∈ xgt := wm_3 206 rfl rfl
set_option maxRecDepth 20000 in
theorem xw_608 : Cond.code yX8_loneNumber cX8_loneNumber 3 (some .int) ∈ xgt := wm_4 37 rfl rfl
set_option maxRecDepth 20000 in
theorem xw_609 : Cond.code yX8_number cX8_number 4 (some .int) ∈ xgt := wm_3 209 rfl rfl
set_option maxRecDepth 20000 in
theorem xw_610 : Cond.fieldLink RX8 136 (TX4 3).1 (TX4 3).2.1 (TX4 3).2.2.1 ∈ xgt := wm_1 123 rfl rfl
set_option maxRecDepth 20000 in
theorem xw_611 : Cond.instanceMethod yX8_begin ∈ xgt := wm_3 186 rfl rfl
set_option maxRecDepth 20000 in
theorem xw_612 : Cond.selects yX8_begin.cls yX8_begin yX8_begin ∈ xgt := ws_1 (q := (yX8_begin, 4)) 6 rfl rfl
set_option maxRecDepth 20000 in
theorem xw_613 : Cond.methodLink RX8 78 yX8_begin ∈ xgt := wm_3 184 rfl rfl
set_option maxRecDepth 20000 in
theorem xw_614 : Cond.fieldLink RX8 139 (TX4 14).1 (TX4 14).2.1 (TX4 14).2.2.1 ∈ xgt := wm_1 163 rfl rfl
set_option maxRecDepth 20000 in
theorem xw_615 : Cond.fieldLink RX8 142 (TX4 15).1 (TX4 15).2.1 (TX4 15).2.2.1 ∈ xgt := wm_1 165 rfl rfl
set_option maxRecDepth 20000 in
theorem xw_616 : Cond.instanceMethod yX2_tell ∈ xgt := wm_3 238 rfl rfl
set_option maxRecDepth 20000 in
theorem xw_617 : Cond.selects yX2_tell.cls yX2_tell yX2_tell ∈ xgt := wm_3 239 rfl rfl
set_option maxRecDepth 20000 in
theorem xw_618 : Cond.methodLink RX8 146 yX2_tell ∈ xgt := wm_3 237 rfl rfl
set_option maxRecDepth 20000 in
theorem xw_619 : Cond.code yX8_readBaker cX8_readBaker 2 none ∈ xgt := wm_3 236 rfl rfl
set_option maxRecDepth 20000 in
theorem xw_620 : Cond.methodLink RX8 155 yX2_isTold ∈ xgt := wm_4 43 rfl rfl
set_option maxRecDepth 20000 in
theorem xw_621 : Cond.code yX8_readLaw cX8_readLaw 2 none ∈ xgt := wm_4 42 rfl rfl
set_option maxRecDepth 20000 in
theorem xw_622 : Cond.instanceMethod yX8_skips ∈ xgt := wm_3 216 rfl rfl
set_option maxRecDepth 20000 in
theorem xw_623 : Cond.selects yX8_skips.cls yX8_skips yX8_skips ∈ xgt := ws_1 (q := (yX8_skips, 4)) 9 rfl rfl
set_option maxRecDepth 20000 in
theorem xw_624 : Cond.methodLink RX8 71 yX8_skips ∈ xgt := wm_3 214 rfl rfl
set_option maxRecDepth 20000 in
theorem xw_625 : Cond.fieldLink RX8 130 (TX4 13).1 (TX4 13).2.1 (TX4 13).2.2.1 ∈ xgt := wm_1 160 rfl rfl
set_option maxRecDepth 20000 in
theorem xw_626 : Cond.fieldLink RX8 133 (TX4 12).1 (TX4 12).2.1 (TX4 12).2.2.1 ∈ xgt := wm_1 157 rfl rfl
set_option maxRecDepth 20000 in
theorem xw_627 : Cond.code yX8_readPart cX8_readPart 3 none ∈ xgt := wm_3 232 rfl rfl
set_option maxRecDepth 20000 in
theorem xw_628 : Cond.fieldLink RX8 74 (TX4 0).1 (TX4 0).2.1 (TX4 0).2.2.1 ∈ xgt := wm_1 107 rfl rfl
set_option maxRecDepth 20000 in
theorem xw_629 : Cond.fieldLink RX8 82 (TX4 4).1 (TX4 4).2.1 (TX4 4).2.2.1 ∈ xgt := wm_1 125 rfl rfl
set_option maxRecDepth 20000 in
theorem xw_630 : Cond.fieldLink RX8 90 (TX4 5).1 (TX4 5).2.1 (TX4 5).2.2.1 ∈ xgt := wm_1 130 rfl rfl
set_option maxRecDepth 20000 in
theorem xw_631 : Cond.code yX8_readTavern cX8_readTavern 2 none ∈ xgt := wm_3 183 rfl rfl
set_option maxRecDepth 20000 in
theorem xw_632 : Cond.fieldLink RX8 118 (TX4 2).1 (TX4 2).2.1 (TX4 2).2.2.1 ∈ xgt := wm_1 117 rfl rfl
set_option maxRecDepth 20000 in
theorem xw_633 : Cond.instanceMethod yX8_readPart ∈ xgt := wm_3 231 rfl rfl
set_option maxRecDepth 20000 in
theorem xw_634 : Cond.selects yX8_readPart.cls yX8_readPart yX8_readPart ∈ xgt := ws_1 (q := (yX8_readPart, 4)) 12 rfl rfl
set_option maxRecDepth 20000 in
theorem xw_635 : Cond.methodLink RX8 124 yX8_readPart ∈ xgt := wm_3 229 rfl rfl
set_option maxRecDepth 20000 in
theorem xw_636 : Cond.fieldLink RX8 127 (TX4 11).1 (TX4 11).2.1 (TX4 11).2.2.1 ∈ xgt := wm_1 152 rfl rfl
set_option maxRecDepth 20000 in
theorem xw_637 : Cond.code yX8_readVerse cX8_readVerse 3 none ∈ xgt := wm_3 225 rfl rfl
set_option maxRecDepth 20000 in
theorem xw_638 : Cond.fieldLink RX8 93 (TX4 1).1 (TX4 1).2.1 (TX4 1).2.2.1 ∈ xgt := wm_1 111 rfl rfl
set_option maxRecDepth 20000 in
theorem xw_639 : Cond.fieldLink RX8 96 (TX4 6).1 (TX4 6).2.1 (TX4 6).2.2.1 ∈ xgt := wm_1 132 rfl rfl
set_option maxRecDepth 20000 in
theorem xw_640 : Cond.fieldLink RX8 99 (TX4 7).1 (TX4 7).2.1 (TX4 7).2.2.1 ∈ xgt := wm_1 135 rfl rfl
set_option maxRecDepth 20000 in
theorem xw_641 : Cond.fieldLink RX8 102 (TX4 8).1 (TX4 8).2.1 (TX4 8).2.2.1 ∈ xgt := wm_1 140 rfl rfl
set_option maxRecDepth 20000 in
theorem xw_642 : Cond.fieldLink RX8 105 (TX4 9).1 (TX4 9).2.1 (TX4 9).2.2.1 ∈ xgt := wm_1 144 rfl rfl
set_option maxRecDepth 20000 in
theorem xw_643 : Cond.fieldLink RX8 108 (TX4 10).1 (TX4 10).2.1 (TX4 10).2.2.1 ∈ xgt := wm_1 147 rfl rfl
set_option maxRecDepth 20000 in
theorem xw_644 : Cond.fieldLink RX8 111 (TX4 16).1 (TX4 16).2.1 (TX4 16).2.2.1 ∈ xgt := wm_1 169 rfl rfl
set_option maxRecDepth 20000 in
theorem xw_645 : Cond.instanceMethod yX8_toldTavern ∈ xgt := wm_3 220 rfl rfl
set_option maxRecDepth 20000 in
theorem xw_646 : Cond.selects yX8_toldTavern.cls yX8_toldTavern yX8_toldTavern ∈ xgt := ws_1 (q := (yX8_toldTavern, 4)) 10 rfl rfl
set_option maxRecDepth 20000 in
theorem xw_647 : Cond.methodLink RX8 114 yX8_toldTavern ∈ xgt := wm_3 218 rfl rfl
set_option maxRecDepth 20000 in
theorem xw_648 : Cond.code yX8_readVoice cX8_readVoice 2 none ∈ xgt := wm_3 213 rfl rfl
set_option maxRecDepth 20000 in
theorem xw_649 : Cond.code yX8_skips cX8_skips 2 (some .boolean) ∈ xgt := wm_3 217 rfl rfl
set_option maxRecDepth 20000 in
theorem xw_650 : Cond.instanceMethod yX4_clear ∈ xgt := wm_3 139 rfl rfl
set_option maxRecDepth 20000 in
theorem xw_651 : Cond.selects yX4_clear.cls yX4_clear yX4_clear ∈ xgt := wm_3 140 rfl rfl
set_option maxRecDepth 20000 in
theorem xw_652 : Cond.methodLink RX8 26 yX4_clear ∈ xgt := wm_3 138 rfl rfl
set_option maxRecDepth 20000 in
theorem xw_653 : Cond.instanceMethod yX9_start ∈ xgt := wm_3 148 rfl rfl
set_option maxRecDepth 20000 in
theorem xw_654 : Cond.selects yX9_start.cls yX9_start yX9_start ∈ xgt := wm_3 149 rfl rfl
set_option maxRecDepth 20000 in
theorem xw_655 : Cond.methodLink RX8 31 yX9_start ∈ xgt := wm_3 147 rfl rfl
set_option maxRecDepth 20000 in
theorem xw_656 : Cond.instanceMethod yX8_readTavern ∈ xgt := wm_3 182 rfl rfl
set_option maxRecDepth 20000 in
theorem xw_657 : Cond.selects yX8_readTavern.cls yX8_readTavern yX8_readTavern ∈ xgt := ws_1 (q := (yX8_readTavern, 4)) 5 rfl rfl
set_option maxRecDepth 20000 in
theorem xw_658 : Cond.methodLink RX8 41 yX8_readTavern ∈ xgt := wm_3 180 rfl rfl
set_option maxRecDepth 20000 in
theorem xw_659 : Cond.instanceMethod yX8_readVoice ∈ xgt := wm_3 212 rfl rfl
set_option maxRecDepth 20000 in
theorem xw_660 : Cond.selects yX8_readVoice.cls yX8_readVoice yX8_readVoice ∈ xgt := ws_1 (q := (yX8_readVoice, 4)) 8 rfl rfl
set_option maxRecDepth 20000 in
theorem xw_661 : Cond.methodLink RX8 44 yX8_readVoice ∈ xgt := wm_3 210 rfl rfl
set_option maxRecDepth 20000 in
theorem xw_662 : Cond.instanceMethod yX8_readVerse ∈ xgt := wm_3 224 rfl rfl
set_option maxRecDepth 20000 in
theorem xw_663 : Cond.selects yX8_readVerse.cls yX8_readVerse yX8_readVerse ∈ xgt := ws_1 (q := (yX8_readVerse, 4)) 11 rfl rfl
set_option maxRecDepth 20000 in
theorem xw_664 : Cond.methodLink RX8 47 yX8_readVerse ∈ xgt := wm_3 222 rfl rfl
set_option maxRecDepth 20000 in
theorem xw_665 : Cond.instanceMethod yX8_readBaker ∈ xgt := wm_3 235 rfl rfl
set_option maxRecDepth 20000 in
theorem xw_666 : Cond.selects yX8_readBaker.cls yX8_readBaker yX8_readBaker ∈ xgt := ws_1 (q := (yX8_readBaker, 4)) 13 rfl rfl
set_option maxRecDepth 20000 in
theorem xw_667 : Cond.methodLink RX8 50 yX8_readBaker ∈ xgt := wm_3 233 rfl rfl
set_option maxRecDepth 20000 in
theorem xw_668 : Cond.instanceMethod yX8_loneNumber ∈ xgt := wm_4 36 rfl rfl
set_option maxRecDepth 20000 in
theorem xw_669 : Cond.selects yX8_loneNumber.cls yX8_loneNumber yX8_loneNumber ∈ xgt := ws_2 (q := (yX8_loneNumber, 4)) 5 rfl rfl
set_option maxRecDepth 20000 in
theorem xw_670 : Cond.methodLink RX8 53 yX8_loneNumber ∈ xgt := wm_4 34 rfl rfl
set_option maxRecDepth 20000 in
theorem xw_671 : Cond.fieldLink RX8 57 (TX4 17).1 (TX4 17).2.1 (TX4 17).2.2.1 ∈ xgt := wm_1 172 rfl rfl
set_option maxRecDepth 20000 in
theorem xw_672 : Cond.constant RX8 60 (nI 99999) ∈ xgt := wm_4 38 rfl rfl
set_option maxRecDepth 20000 in
theorem xw_673 : Cond.fieldLink RX8 61 (TX4 18).1 (TX4 18).2.1 (TX4 18).2.2.1 ∈ xgt := wm_1 175 rfl rfl
set_option maxRecDepth 20000 in
theorem xw_674 : Cond.instanceMethod yX8_readLaw ∈ xgt := wm_4 41 rfl rfl
set_option maxRecDepth 20000 in
theorem xw_675 : Cond.selects yX8_readLaw.cls yX8_readLaw yX8_readLaw ∈ xgt := ws_2 (q := (yX8_readLaw, 4)) 6 rfl rfl
set_option maxRecDepth 20000 in
theorem xw_676 : Cond.methodLink RX8 64 yX8_readLaw ∈ xgt := wm_4 39 rfl rfl
set_option maxRecDepth 20000 in
theorem xw_677 : Cond.code yX8_tell cX8_tell 4 (some .int) ∈ xgt := wm_3 137 rfl rfl
set_option maxRecDepth 20000 in
theorem xw_678 : Cond.code yX8_toldTavern cX8_toldTavern 2 (some .int) ∈ xgt := wm_3 221 rfl rfl
set_option maxRecDepth 20000 in
theorem xw_679 : Cond.methodLink RX9 3 Lib.objectInit ∈ xgt := wm_1 222 rfl rfl
set_option maxRecDepth 20000 in
theorem xw_680 : Cond.fieldLink RX9 9 (TX9 1).1 (TX9 1).2.1 (TX9 1).2.2.1 ∈ xgt := wm_2 38 rfl rfl
set_option maxRecDepth 20000 in
theorem xw_681 : Cond.fieldLink RX9 15 (TX9 2).1 (TX9 2).2.1 (TX9 2).2.2.1 ∈ xgt := wm_2 39 rfl rfl
set_option maxRecDepth 20000 in
theorem xw_682 : Cond.fieldLink RX9 19 (TX9 3).1 (TX9 3).2.1 (TX9 3).2.2.1 ∈ xgt := wm_2 40 rfl rfl
set_option maxRecDepth 20000 in
theorem xw_683 : Cond.fieldLink RX9 22 (TX9 4).1 (TX9 4).2.1 (TX9 4).2.2.1 ∈ xgt := wm_2 41 rfl rfl
set_option maxRecDepth 20000 in
theorem xw_684 : Cond.fieldLink RX9 25 (TX9 5).1 (TX9 5).2.1 (TX9 5).2.2.1 ∈ xgt := wm_2 44 rfl rfl
set_option maxRecDepth 20000 in
theorem xw_685 : Cond.fieldLink RX9 28 (TX9 6).1 (TX9 6).2.1 (TX9 6).2.2.1 ∈ xgt := wm_2 45 rfl rfl
set_option maxRecDepth 20000 in
theorem xw_686 : Cond.fieldLink RX9 31 (TX9 7).1 (TX9 7).2.1 (TX9 7).2.2.1 ∈ xgt := wm_2 48 rfl rfl
set_option maxRecDepth 20000 in
theorem xw_687 : Cond.fieldLink RX9 34 (TX9 8).1 (TX9 8).2.1 (TX9 8).2.2.1 ∈ xgt := wm_2 50 rfl rfl
set_option maxRecDepth 20000 in
theorem xw_688 : Cond.fieldLink RX9 37 (TX9 0).1 (TX9 0).2.1 (TX9 0).2.2.1 ∈ xgt := wm_2 37 rfl rfl
set_option maxRecDepth 20000 in
theorem xw_689 : Cond.instanceMethod yX9_packWords ∈ xgt := wm_1 226 rfl rfl
set_option maxRecDepth 20000 in
theorem xw_690 : Cond.selects yX9_packWords.cls yX9_packWords yX9_packWords ∈ xgt := ws_1 (q := (yX9_packWords, 9)) 0 rfl rfl
set_option maxRecDepth 20000 in
theorem xw_691 : Cond.methodLink RX9 43 yX9_packWords ∈ xgt := wm_1 224 rfl rfl
set_option maxRecDepth 20000 in
theorem xw_692 : Cond.code yX9_init cX9_init 2 none ∈ xgt := wm_1 221 rfl rfl
set_option maxRecDepth 20000 in
theorem xw_693 : Cond.code yX9_fail cX9_fail 2 (some .boolean) ∈ xgt := wm_3 195 rfl rfl
set_option maxRecDepth 20000 in
theorem xw_694 : Cond.code yX9_isDigit cX9_isDigit 1 (some .boolean) ∈ xgt := wm_3 167 rfl rfl
set_option maxRecDepth 20000 in
theorem xw_695 : Cond.code yX9_isLetter cX9_isLetter 1 (some .boolean) ∈ xgt := wm_3 160 rfl rfl
set_option maxRecDepth 20000 in
theorem xw_696 : Cond.methodLink RX9 68 yX9_isLetter ∈ xgt := wm_3 158 rfl rfl
set_option maxRecDepth 20000 in
theorem xw_697 : Cond.static yX9_isLetter ∈ xgt := wm_3 159 rfl rfl
set_option maxRecDepth 20000 in
theorem xw_698 : Cond.instanceMethod yX9_readWord ∈ xgt := wm_3 163 rfl rfl
set_option maxRecDepth 20000 in
theorem xw_699 : Cond.selects yX9_readWord.cls yX9_readWord yX9_readWord ∈ xgt := ws_1 (q := (yX9_readWord, 9)) 2 rfl rfl
set_option maxRecDepth 20000 in
theorem xw_700 : Cond.methodLink RX9 72 yX9_readWord ∈ xgt := wm_3 161 rfl rfl
set_option maxRecDepth 20000 in
theorem xw_701 : Cond.methodLink RX9 75 yX9_isDigit ∈ xgt := wm_3 165 rfl rfl
set_option maxRecDepth 20000 in
theorem xw_702 : Cond.static yX9_isDigit ∈ xgt := wm_3 166 rfl rfl
set_option maxRecDepth 20000 in
theorem xw_703 : Cond.instanceMethod yX9_readNumber ∈ xgt := wm_3 170 rfl rfl
set_option maxRecDepth 20000 in
theorem xw_704 : Cond.selects yX9_readNumber.cls yX9_readNumber yX9_readNumber ∈ xgt := ws_1 (q := (yX9_readNumber, 9)) 3 rfl rfl
set_option maxRecDepth 20000 in
theorem xw_705 : Cond.methodLink RX9 78 yX9_readNumber ∈ xgt := wm_3 168 rfl rfl
set_option maxRecDepth 20000 in
theorem xw_706 : Cond.instanceMethod yX9_readSign ∈ xgt := wm_3 175 rfl rfl
set_option maxRecDepth 20000 in
theorem xw_707 : Cond.selects yX9_readSign.cls yX9_readSign yX9_readSign ∈ xgt := ws_1 (q := (yX9_readSign, 9)) 4 rfl rfl
set_option maxRecDepth 20000 in
theorem xw_708 : Cond.methodLink RX9 81 yX9_readSign ∈ xgt := wm_3 173 rfl rfl
set_option maxRecDepth 20000 in
theorem xw_709 : Cond.code yX9_next cX9_next 1 none ∈ xgt := wm_3 157 rfl rfl
set_option maxRecDepth 20000 in
theorem xw_710 : Cond.instanceMethod yJ0_length_8abf5 ∈ xgt := wm_1 229 rfl rfl
set_option maxRecDepth 20000 in
theorem xw_711 : Cond.selects yJ0_length_8abf5.cls yJ0_length_8abf5 yJ0_length_8abf5 ∈ xgt := wm_1 230 rfl rfl
set_option maxRecDepth 20000 in
theorem xw_712 : Cond.methodLink RX9 49 yJ0_length_8abf5 ∈ xgt := wm_1 228 rfl rfl
set_option maxRecDepth 20000 in
theorem xw_713 : Cond.instanceMethod yJ0_charAt_5068e ∈ xgt := wm_1 239 rfl rfl
set_option maxRecDepth 20000 in
theorem xw_714 : Cond.selects yJ0_charAt_5068e.cls yJ0_charAt_5068e yJ0_charAt_5068e ∈ xgt := wm_2 0 rfl rfl
set_option maxRecDepth 20000 in
theorem xw_715 : Cond.methodLink RX9 55 yJ0_charAt_5068e ∈ xgt := wm_1 238 rfl rfl
set_option maxRecDepth 20000 in
theorem xw_716 : Cond.code yX9_packWords cX9_packWords 7 none ∈ xgt := wm_1 227 rfl rfl
set_option maxRecDepth 20000 in
theorem xw_717 : Cond.constant RX9 84 (nI 1000000) ∈ xgt := wm_3 172 rfl rfl
set_option maxRecDepth 20000 in
theorem xw_718 : Cond.methodLink RX9 59 yJ9_min_7cf53 ∈ xgt := wm_3 151 rfl rfl
set_option maxRecDepth 20000 in
theorem xw_719 : Cond.code yX9_readNumber cX9_readNumber 1 none ∈ xgt := wm_3 171 rfl rfl
set_option maxRecDepth 20000 in
theorem xw_720 : Cond.methodLink RX9 85 yX9_signKind ∈ xgt := wm_3 177 rfl rfl
set_option maxRecDepth 20000 in
theorem xw_721 : Cond.static yX9_signKind ∈ xgt := wm_3 178 rfl rfl
set_option maxRecDepth 20000 in
theorem xw_722 : Cond.code yX9_readSign cX9_readSign 3 none ∈ xgt := wm_3 176 rfl rfl
set_option maxRecDepth 20000 in
theorem xw_723 : Cond.code yX9_readWord cX9_readWord 3 none ∈ xgt := wm_3 164 rfl rfl
set_option maxRecDepth 20000 in
theorem xw_724 : Cond.code yX9_signKind cX9_signKind 2 (some .int) ∈ xgt := wm_3 179 rfl rfl
set_option maxRecDepth 20000 in
theorem xw_725 : Cond.methodLink RX9 65 yX9_next ∈ xgt := wm_3 154 rfl rfl
set_option maxRecDepth 20000 in
theorem xw_726 : Cond.code yX9_start cX9_start 2 none ∈ xgt := wm_3 150 rfl rfl
set_option maxRecDepth 20000 in
theorem xw_727 : Cond.methodLink RX10 3 Lib.objectInit ∈ xgt := wm_2 94 rfl rfl
set_option maxRecDepth 20000 in
theorem xw_728 : Cond.fieldLink RX10 9 (TX10 0).1 (TX10 0).2.1 (TX10 0).2.2.1 ∈ xgt := wm_2 95 rfl rfl
set_option maxRecDepth 20000 in
theorem xw_729 : Cond.fieldLink RX10 15 (TX10 1).1 (TX10 1).2.1 (TX10 1).2.2.1 ∈ xgt := wm_2 97 rfl rfl
set_option maxRecDepth 20000 in
theorem xw_730 : Cond.fieldLink RX10 18 (TX10 2).1 (TX10 2).2.1 (TX10 2).2.2.1 ∈ xgt := wm_2 99 rfl rfl
set_option maxRecDepth 20000 in
theorem xw_731 : Cond.fieldLink RX10 21 (TX10 3).1 (TX10 3).2.1 (TX10 3).2.2.1 ∈ xgt := wm_2 102 rfl rfl
set_option maxRecDepth 20000 in
theorem xw_732 : Cond.fieldLink RX10 24 (TX10 4).1 (TX10 4).2.1 (TX10 4).2.2.1 ∈ xgt := wm_2 104 rfl rfl
set_option maxRecDepth 20000 in
theorem xw_733 : Cond.fieldLink RX10 27 (TX10 5).1 (TX10 5).2.1 (TX10 5).2.2.1 ∈ xgt := wm_2 106 rfl rfl
set_option maxRecDepth 20000 in
theorem xw_734 : Cond.fieldLink RX10 30 (TX10 6).1 (TX10 6).2.1 (TX10 6).2.2.1 ∈ xgt := wm_2 108 rfl rfl
set_option maxRecDepth 20000 in
theorem xw_735 : Cond.fieldLink RX10 34 (TX10 7).1 (TX10 7).2.1 (TX10 7).2.2.1 ∈ xgt := wm_2 110 rfl rfl
set_option maxRecDepth 20000 in
theorem xw_736 : Cond.fieldLink RX10 37 (TX10 8).1 (TX10 8).2.1 (TX10 8).2.2.1 ∈ xgt := wm_2 113 rfl rfl
set_option maxRecDepth 20000 in
theorem xw_737 : Cond.fieldLink RX10 40 (TX10 9).1 (TX10 9).2.1 (TX10 9).2.2.1 ∈ xgt := wm_2 115 rfl rfl
set_option maxRecDepth 20000 in
theorem xw_738 : Cond.fieldLink RX10 43 (TX10 10).1 (TX10 10).2.1 (TX10 10).2.2.1 ∈ xgt := wm_2 117 rfl rfl
set_option maxRecDepth 20000 in
theorem xw_739 : Cond.fieldLink RX10 46 (TX10 11).1 (TX10 11).2.1 (TX10 11).2.2.1 ∈ xgt := wm_2 121 rfl rfl
set_option maxRecDepth 20000 in
theorem xw_740 : Cond.fieldLink RX10 49 (TX10 12).1 (TX10 12).2.1 (TX10 12).2.2.1 ∈ xgt := wm_2 123 rfl rfl
set_option maxRecDepth 20000 in
theorem xw_741 : Cond.code yX10_init cX10_init 1 none ∈ xgt := wm_2 93 rfl rfl
set_option maxRecDepth 20000 in
theorem xw_742 : Cond.code yX10_allCoin cX10_allCoin 6 (some .int) ∈ xgt := wm_5 218 rfl rfl
set_option maxRecDepth 20000 in
theorem xw_743 : Cond.methodLink RX10 52 yJ7_fill_53178 ∈ xgt := wm_3 66 rfl rfl
set_option maxRecDepth 20000 in
theorem xw_744 : Cond.fieldLink RX10 58 (TX4 5).1 (TX4 5).2.1 (TX4 5).2.2.1 ∈ xgt := wm_1 129 rfl rfl
set_option maxRecDepth 20000 in
theorem xw_745 : Cond.fieldLink RX10 61 (TX4 0).1 (TX4 0).2.1 (TX4 0).2.2.1 ∈ xgt := wm_1 106 rfl rfl
set_option maxRecDepth 20000 in
theorem xw_746 : Cond.fieldLink RX10 65 (TX6 1).1 (TX6 1).2.1 (TX6 1).2.2.1 ∈ xgt := wm_1 53 rfl rfl
set_option maxRecDepth 20000 in
theorem xw_747 : Cond.methodLink RX10 70 arraycopyName ∈ xgt := wm_3 69 rfl rfl
set_option maxRecDepth 20000 in
theorem xw_748 : Cond.fieldLink RX10 76 (TX4 14).1 (TX4 14).2.1 (TX4 14).2.2.1 ∈ xgt := wm_1 162 rfl rfl
set_option maxRecDepth 20000 in
theorem xw_749 : Cond.fieldLink RX10 77 (TX4 3).1 (TX4 3).2.1 (TX4 3).2.2.1 ∈ xgt := wm_1 120 rfl rfl
set_option maxRecDepth 20000 in
theorem xw_750 : Cond.methodLink RX10 80 yX10_dismissAll ∈ xgt := wm_3 72 rfl rfl
set_option maxRecDepth 20000 in
theorem xw_751 : Cond.fieldLink RX10 83 (TX4 17).1 (TX4 17).2.1 (TX4 17).2.2.1 ∈ xgt := wm_1 171 rfl rfl
set_option maxRecDepth 20000 in
theorem xw_752 : Cond.fieldLink RX10 84 (TX4 18).1 (TX4 18).2.1 (TX4 18).2.2.1 ∈ xgt := wm_1 174 rfl rfl
set_option maxRecDepth 20000 in
theorem xw_753 : Cond.code yX10_begin cX10_begin 2 none ∈ xgt := wm_3 65 rfl rfl
set_option maxRecDepth 20000 in
theorem xw_754 : Cond.code yX10_dismiss cX10_dismiss 2 none ∈ xgt := wm_4 227 rfl rfl
set_option maxRecDepth 20000 in
theorem xw_755 : Cond.code yX10_dismissAll cX10_dismissAll 1 none ∈ xgt := wm_3 75 rfl rfl
set_option maxRecDepth 20000 in
theorem xw_756 : Cond.code yX10_enlist cX10_enlist 5 none ∈ xgt := wm_4 219 rfl rfl
set_option maxRecDepth 20000 in
theorem xw_757 : Cond.code yX10_isCracked cX10_isCracked 2 (some .boolean) ∈ xgt := wm_4 117 rfl rfl
set_option maxRecDepth 20000 in
theorem xw_758 : Cond.constantLong RX10 87 (lN 1103515245) ∈ xgt := wm_5 18 rfl rfl
set_option maxRecDepth 20000 in
theorem xw_759 : Cond.constantLong RX10 89 (lN 12345) ∈ xgt := wm_5 19 rfl rfl
set_option maxRecDepth 20000 in
theorem xw_760 : Cond.constantLong RX10 91 (lN 2147483647) ∈ xgt := wm_5 20 rfl rfl
set_option maxRecDepth 20000 in
theorem xw_761 : Cond.constant RX10 93 (nI 65536) ∈ xgt := wm_5 21 rfl rfl
set_option maxRecDepth 20000 in
theorem xw_762 : Cond.code yX10_nextNumber cX10_nextNumber 1 (some .int) ∈ xgt := wm_5 17 rfl rfl
set_option maxRecDepth 20000 in
theorem xw_763 : Cond.code yX10_take cX10_take 2 none ∈ xgt := wm_5 206 rfl rfl
set_option maxRecDepth 20000 in
theorem xw_764 : Cond.methodLink RX12 1 Lib.objectInit ∈ xgt := wm_6 75 rfl rfl
set_option maxRecDepth 20000 in
theorem xw_765 : Cond.fieldLink RX12 7 (TX12 1).1 (TX12 1).2.1 (TX12 1).2.2.1 ∈ xgt := wm_6 81 rfl rfl
set_option maxRecDepth 20000 in
theorem xw_766 : Cond.fieldLink RX12 13 (TX12 3).1 (TX12 3).2.1 (TX12 3).2.2.1 ∈ xgt := wm_6 83 rfl rfl
set_option maxRecDepth 20000 in
theorem xw_767 : Cond.fieldLink RX12 16 (TX12 4).1 (TX12 4).2.1 (TX12 4).2.2.1 ∈ xgt := wm_6 84 rfl rfl
set_option maxRecDepth 20000 in
theorem xw_768 : Cond.fieldLink RX12 19 (TX12 5).1 (TX12 5).2.1 (TX12 5).2.2.1 ∈ xgt := wm_6 85 rfl rfl
set_option maxRecDepth 20000 in
theorem xw_769 : Cond.fieldLink RX12 22 (TX12 6).1 (TX12 6).2.1 (TX12 6).2.2.1 ∈ xgt := wm_6 86 rfl rfl
set_option maxRecDepth 20000 in
theorem xw_770 : Cond.fieldLink RX12 25 (TX12 7).1 (TX12 7).2.1 (TX12 7).2.2.1 ∈ xgt := wm_6 87 rfl rfl
set_option maxRecDepth 20000 in
theorem xw_771 : Cond.fieldLink RX12 28 (TX12 8).1 (TX12 8).2.1 (TX12 8).2.2.1 ∈ xgt := wm_6 88 rfl rfl
set_option maxRecDepth 20000 in
theorem xw_772 : Cond.fieldLink RX12 31 (TX12 9).1 (TX12 9).2.1 (TX12 9).2.2.1 ∈ xgt := wm_6 89 rfl rfl
set_option maxRecDepth 20000 in
theorem xw_773 : Cond.arrayClass .boolean ∈ xgt := wm_7 48 rfl rfl
set_option maxRecDepth 20000 in
theorem xw_774 : Cond.fieldLink RX12 34 (TX12 10).1 (TX12 10).2.1 (TX12 10).2.2.1 ∈ xgt := wm_6 90 rfl rfl
set_option maxRecDepth 20000 in
theorem xw_775 : Cond.fieldLink RX12 38 (TX12 11).1 (TX12 11).2.1 (TX12 11).2.2.1 ∈ xgt := wm_6 91 rfl rfl
set_option maxRecDepth 20000 in
theorem xw_776 : Cond.fieldLink RX12 41 (TX12 12).1 (TX12 12).2.1 (TX12 12).2.2.1 ∈ xgt := wm_6 92 rfl rfl
set_option maxRecDepth 20000 in
theorem xw_777 : Cond.fieldLink RX12 44 (TX12 13).1 (TX12 13).2.1 (TX12 13).2.2.1 ∈ xgt := wm_6 93 rfl rfl
set_option maxRecDepth 20000 in
theorem xw_778 : Cond.fieldLink RX12 47 (TX12 14).1 (TX12 14).2.1 (TX12 14).2.2.1 ∈ xgt := wm_6 94 rfl rfl
set_option maxRecDepth 20000 in
theorem xw_779 : Cond.fieldLink RX12 50 (TX12 15).1 (TX12 15).2.1 (TX12 15).2.2.1 ∈ xgt := wm_6 95 rfl rfl
set_option maxRecDepth 20000 in
theorem xw_780 : Cond.fieldLink RX12 53 (TX12 16).1 (TX12 16).2.1 (TX12 16).2.2.1 ∈ xgt := wm_6 96 rfl rfl
set_option maxRecDepth 20000 in
theorem xw_781 : Cond.fieldLink RX12 56 (TX12 17).1 (TX12 17).2.1 (TX12 17).2.2.1 ∈ xgt := wm_6 97 rfl rfl
set_option maxRecDepth 20000 in
theorem xw_782 : Cond.fieldLink RX12 59 (TX12 18).1 (TX12 18).2.1 (TX12 18).2.2.1 ∈ xgt := wm_6 98 rfl rfl
set_option maxRecDepth 20000 in
theorem xw_783 : Cond.fieldLink RX12 62 (TX12 19).1 (TX12 19).2.1 (TX12 19).2.2.1 ∈ xgt := wm_6 99 rfl rfl
set_option maxRecDepth 20000 in
theorem xw_784 : Cond.fieldLink RX12 65 (TX12 20).1 (TX12 20).2.1 (TX12 20).2.2.1 ∈ xgt := wm_6 100 rfl rfl
set_option maxRecDepth 20000 in
theorem xw_785 : Cond.fieldLink RX12 68 (TX12 21).1 (TX12 21).2.1 (TX12 21).2.2.1 ∈ xgt := wm_6 101 rfl rfl
set_option maxRecDepth 20000 in
theorem xw_786 : Cond.fieldLink RX12 71 (TX12 22).1 (TX12 22).2.1 (TX12 22).2.2.1 ∈ xgt := wm_6 102 rfl rfl
set_option maxRecDepth 20000 in
theorem xw_787 : Cond.fieldLink RX12 74 (TX12 23).1 (TX12 23).2.1 (TX12 23).2.2.1 ∈ xgt := wm_6 103 rfl rfl
set_option maxRecDepth 20000 in
theorem xw_788 : Cond.fieldLink RX12 77 (TX12 34).1 (TX12 34).2.1 (TX12 34).2.2.1 ∈ xgt := wm_6 114 rfl rfl
set_option maxRecDepth 20000 in
theorem xw_789 : Cond.fieldLink RX12 81 (TX12 37).1 (TX12 37).2.1 (TX12 37).2.2.1 ∈ xgt := wm_6 117 rfl rfl
set_option maxRecDepth 20000 in
theorem xw_790 : Cond.fieldLink RX12 84 (TX12 38).1 (TX12 38).2.1 (TX12 38).2.2.1 ∈ xgt := wm_6 118 rfl rfl
set_option maxRecDepth 20000 in
theorem xw_791 : Cond.fieldLink RX12 87 (TX12 39).1 (TX12 39).2.1 (TX12 39).2.2.1 ∈ xgt := wm_6 119 rfl rfl
set_option maxRecDepth 20000 in
theorem xw_792 : Cond.fieldLink RX12 90 (TX12 40).1 (TX12 40).2.1 (TX12 40).2.2.1 ∈ xgt := wm_6 120 rfl rfl
set_option maxRecDepth 20000 in
theorem xw_793 : Cond.fieldLink RX12 93 (TX12 41).1 (TX12 41).2.1 (TX12 41).2.2.1 ∈ xgt := wm_6 121 rfl rfl
set_option maxRecDepth 20000 in
theorem xw_794 : Cond.fieldLink RX12 96 (TX12 42).1 (TX12 42).2.1 (TX12 42).2.2.1 ∈ xgt := wm_6 122 rfl rfl
set_option maxRecDepth 20000 in
theorem xw_795 : Cond.fieldLink RX12 99 (TX12 43).1 (TX12 43).2.1 (TX12 43).2.2.1 ∈ xgt := wm_6 123 rfl rfl
set_option maxRecDepth 20000 in
theorem xw_796 : Cond.fieldLink RX12 102 (TX12 44).1 (TX12 44).2.1 (TX12 44).2.2.1 ∈ xgt := wm_6 124 rfl rfl
set_option maxRecDepth 20000 in
theorem xw_797 : Cond.fieldLink RX12 105 (TX12 45).1 (TX12 45).2.1 (TX12 45).2.2.1 ∈ xgt := wm_6 125 rfl rfl
set_option maxRecDepth 20000 in
theorem xw_798 : Cond.fieldLink RX12 108 (TX12 46).1 (TX12 46).2.1 (TX12 46).2.2.1 ∈ xgt := wm_6 126 rfl rfl
set_option maxRecDepth 20000 in
theorem xw_799 : Cond.fieldLink RX12 111 (TX12 47).1 (TX12 47).2.1 (TX12 47).2.2.1 ∈ xgt := wm_6 127 rfl rfl
set_option maxRecDepth 20000 in
theorem xw_800 : Cond.fieldLink RX12 114 (TX12 48).1 (TX12 48).2.1 (TX12 48).2.2.1 ∈ xgt := wm_6 128 rfl rfl
set_option maxRecDepth 20000 in
theorem xw_801 : Cond.fieldLink RX12 117 (TX12 50).1 (TX12 50).2.1 (TX12 50).2.2.1 ∈ xgt := wm_6 130 rfl rfl
set_option maxRecDepth 20000 in
theorem xw_802 : Cond.fieldLink RX12 121 (TX12 51).1 (TX12 51).2.1 (TX12 51).2.2.1 ∈ xgt := wm_6 131 rfl rfl
set_option maxRecDepth 20000 in
theorem xw_803 : Cond.fieldLink RX12 124 (TX12 53).1 (TX12 53).2.1 (TX12 53).2.2.1 ∈ xgt := wm_6 133 rfl rfl
set_option maxRecDepth 20000 in
theorem xw_804 : Cond.fieldLink RX12 127 (TX12 54).1 (TX12 54).2.1 (TX12 54).2.2.1 ∈ xgt := wm_6 134 rfl rfl
set_option maxRecDepth 20000 in
theorem xw_805 : Cond.fieldLink RX12 130 (TX12 55).1 (TX12 55).2.1 (TX12 55).2.2.1 ∈ xgt := wm_6 135 rfl rfl
set_option maxRecDepth 20000 in
theorem xw_806 : Cond.fieldLink RX12 133 (TX12 56).1 (TX12 56).2.1 (TX12 56).2.2.1 ∈ xgt := wm_6 136 rfl rfl
set_option maxRecDepth 20000 in
theorem xw_807 : Cond.fieldLink RX12 136 (TX12 57).1 (TX12 57).2.1 (TX12 57).2.2.1 ∈ xgt := wm_6 137 rfl rfl
set_option maxRecDepth 20000 in
theorem xw_808 : Cond.fieldLink RX12 139 (TX12 58).1 (TX12 58).2.1 (TX12 58).2.2.1 ∈ xgt := wm_6 138 rfl rfl
set_option maxRecDepth 20000 in
theorem xw_809 : Cond.fieldLink RX12 142 (TX12 62).1 (TX12 62).2.1 (TX12 62).2.2.1 ∈ xgt := wm_6 142 rfl rfl
set_option maxRecDepth 20000 in
theorem xw_810 : Cond.fieldLink RX12 145 (TX12 63).1 (TX12 63).2.1 (TX12 63).2.2.1 ∈ xgt := wm_6 143 rfl rfl
set_option maxRecDepth 20000 in
theorem xw_811 : Cond.fieldLink RX12 148 (TX12 64).1 (TX12 64).2.1 (TX12 64).2.2.1 ∈ xgt := wm_6 144 rfl rfl
set_option maxRecDepth 20000 in
theorem xw_812 : Cond.fieldLink RX12 151 (TX12 65).1 (TX12 65).2.1 (TX12 65).2.2.1 ∈ xgt := wm_6 145 rfl rfl
set_option maxRecDepth 20000 in
theorem xw_813 : Cond.fieldLink RX12 154 (TX12 66).1 (TX12 66).2.1 (TX12 66).2.2.1 ∈ xgt := wm_6 146 rfl rfl
set_option maxRecDepth 20000 in
theorem xw_814 : Cond.fieldLink RX12 157 (TX12 67).1 (TX12 67).2.1 (TX12 67).2.2.1 ∈ xgt := wm_6 147 rfl rfl
set_option maxRecDepth 20000 in
theorem xw_815 : Cond.instanceMethod yX12_begins ∈ xgt := wm_6 78 rfl rfl
set_option maxRecDepth 20000 in
theorem xw_816 : Cond.selects yX12_begins.cls yX12_begins yX12_begins ∈ xgt := ws_3 (q := (yX12_begins, 69)) 15 rfl rfl
set_option maxRecDepth 20000 in
theorem xw_817 : Cond.methodLink RX12 160 yX12_begins ∈ xgt := wm_6 76 rfl rfl
set_option maxRecDepth 20000 in
theorem xw_818 : Cond.code yX12_init cX12_init 1 none ∈ xgt := wm_6 74 rfl rfl
set_option maxRecDepth 20000 in
theorem xw_819 : Cond.initialized RX12 ∈ xgt := wm_1 19 rfl rfl
set_option maxRecDepth 20000 in
theorem xw_820 : Cond.code yX12_areVerses cX12_areVerses 2 (some .boolean) ∈ xgt := wm_8 151 rfl rfl
set_option maxRecDepth 20000 in
theorem xw_821 : Cond.fieldLink RX12 163 (TX12 0).1 (TX12 0).2.1 (TX12 0).2.2.1 ∈ xgt := wm_6 80 rfl rfl
set_option maxRecDepth 20000 in
theorem xw_822 : Cond.fieldLink RX12 328 (TX12 49).1 (TX12 49).2.1 (TX12 49).2.2.1 ∈ xgt := wm_6 129 rfl rfl
set_option maxRecDepth 20000 in
theorem xw_823 : Cond.instanceMethod yX12_copies ∈ xgt := wm_9 10 rfl rfl
set_option maxRecDepth 20000 in
theorem xw_824 : Cond.selects yX12_copies.cls yX12_copies yX12_copies ∈ xgt := ws_8 (q := (yX12_copies, 69)) 2 rfl rfl
set_option maxRecDepth 20000 in
theorem xw_825 : Cond.methodLink RX12 508 yX12_copies ∈ xgt := wm_9 8 rfl rfl
set_option maxRecDepth 20000 in
theorem xw_826 : Cond.code yX12_back cX12_back 1 (some .int) ∈ xgt := wm_9 15 rfl rfl
set_option maxRecDepth 20000 in
theorem xw_827 : Cond.instanceMethod yX12_isVerse ∈ xgt := wm_7 223 rfl rfl
set_option maxRecDepth 20000 in
theorem xw_828 : Cond.selects yX12_isVerse.cls yX12_isVerse yX12_isVerse ∈ xgt := ws_6 (q := (yX12_isVerse, 69)) 0 rfl rfl
set_option maxRecDepth 20000 in
theorem xw_829 : Cond.methodLink RX12 332 yX12_isVerse ∈ xgt := wm_7 221 rfl rfl
set_option maxRecDepth 20000 in
theorem xw_830 : Cond.instanceMethod yX12_isSounded ∈ xgt := wm_8 11 rfl rfl
set_option maxRecDepth 20000 in
theorem xw_831 : Cond.selects yX12_isSounded.cls yX12_isSounded yX12_isSounded ∈ xgt := ws_6 (q := (yX12_isSounded, 69)) 5 rfl rfl
set_option maxRecDepth 20000 in
theorem xw_832 : Cond.methodLink RX12 381 yX12_isSounded ∈ xgt := wm_8 9 rfl rfl
set_option maxRecDepth 20000 in
theorem xw_833 : Cond.code yX12_bar cX12_bar 6 (some .int) ∈ xgt := wm_8 86 rfl rfl
set_option maxRecDepth 20000 in
theorem xw_834 : Cond.code yX12_begins cX12_begins 2 none ∈ xgt := wm_6 79 rfl rfl
set_option maxRecDepth 20000 in
theorem xw_835 : Cond.methodLink RX12 446 yX12_isCrowns ∈ xgt := wm_8 101 rfl rfl
set_option maxRecDepth 20000 in
theorem xw_836 : Cond.static yX12_isCrowns ∈ xgt := wm_8 102 rfl rfl
set_option maxRecDepth 20000 in
theorem xw_837 : Cond.instanceMethod yX12_layBest ∈ xgt := wm_8 106 rfl rfl
set_option maxRecDepth 20000 in
theorem xw_838 : Cond.selects yX12_layBest.cls yX12_layBest yX12_layBest ∈ xgt := ws_7 (q := (yX12_layBest, 69)) 0 rfl rfl
set_option maxRecDepth 20000 in
theorem xw_839 : Cond.methodLink RX12 449 yX12_layBest ∈ xgt := wm_8 104 rfl rfl
set_option maxRecDepth 20000 in
theorem xw_840 : Cond.code yX12_best cX12_best 3 (some .int) ∈ xgt := wm_8 100 rfl rfl
set_option maxRecDepth 20000 in
theorem xw_841 : Cond.instanceMethod yX12_restsOf ∈ xgt := wm_8 19 rfl rfl
set_option maxRecDepth 20000 in
theorem xw_842 : Cond.selects yX12_restsOf.cls yX12_restsOf yX12_restsOf ∈ xgt := ws_6 (q := (yX12_restsOf, 69)) 7 rfl rfl
set_option maxRecDepth 20000 in
theorem xw_843 : Cond.methodLink RX12 393 yX12_restsOf ∈ xgt := wm_8 17 rfl rfl
set_option maxRecDepth 20000 in
theorem xw_844 : Cond.instanceMethod yX12_highOf ∈ xgt := wm_8 23 rfl rfl
set_option maxRecDepth 20000 in
theorem xw_845 : Cond.selects yX12_highOf.cls yX12_highOf yX12_highOf ∈ xgt := ws_6 (q := (yX12_highOf, 69)) 8 rfl rfl
set_option maxRecDepth 20000 in
theorem xw_846 : Cond.methodLink RX12 396 yX12_highOf ∈ xgt := wm_8 21 rfl rfl
set_option maxRecDepth 20000 in
theorem xw_847 : Cond.methodLink RX12 375 yJ9_max_f86c9 ∈ xgt := wm_8 45 rfl rfl
set_option maxRecDepth 20000 in
theorem xw_848 : Cond.instanceMethod yX12_within ∈ xgt := wm_8 28 rfl rfl
set_option maxRecDepth 20000 in
theorem xw_849 : Cond.selects yX12_within.cls yX12_within yX12_within ∈ xgt := ws_6 (q := (yX12_within, 69)) 9 rfl rfl
set_option maxRecDepth 20000 in
theorem xw_850 : Cond.methodLink RX12 399 yX12_within ∈ xgt := wm_8 26 rfl rfl
set_option maxRecDepth 20000 in
theorem xw_851 : Cond.methodLink RX12 403 yJ9_min_7cf53 ∈ xgt := wm_8 58 rfl rfl
set_option maxRecDepth 20000 in
theorem xw_852 : Cond.code yX12_bidOf cX12_bidOf 5 (some .int) ∈ xgt := wm_8 57 rfl rfl
set_option maxRecDepth 20000 in
theorem xw_853 : Cond.instanceMethod yX12_bidOf ∈ xgt := wm_8 56 rfl rfl
set_option maxRecDepth 20000 in
theorem xw_854 : Cond.selects yX12_bidOf.cls yX12_bidOf yX12_bidOf ∈ xgt := ws_6 (q := (yX12_bidOf, 69)) 12 rfl rfl
set_option maxRecDepth 20000 in
theorem xw_855 : Cond.methodLink RX12 408 yX12_bidOf ∈ xgt := wm_8 54 rfl rfl
set_option maxRecDepth 20000 in
theorem xw_856 : Cond.code yX12_bids cX12_bids 3 (some .int) ∈ xgt := wm_8 53 rfl rfl
set_option maxRecDepth 20000 in
theorem xw_857 : Cond.code yX12_bitsOf cX12_bitsOf 3 (some .int) ∈ xgt := wm_8 206 rfl rfl
set_option maxRecDepth 20000 in
theorem xw_858 : Cond.code yX12_calls cX12_calls 2 none ∈ xgt := wm_8 4 rfl rfl
set_option maxRecDepth 20000 in
theorem xw_859 : Cond.instanceMethod yX12_isPart ∈ xgt := wm_7 227 rfl rfl
set_option maxRecDepth 20000 in
theorem xw_860 : Cond.selects yX12_isPart.cls yX12_isPart yX12_isPart ∈ xgt := ws_6 (q := (yX12_isPart, 69)) 1 rfl rfl
set_option maxRecDepth 20000 in
theorem xw_861 : Cond.methodLink RX12 344 yX12_isPart ∈ xgt := wm_7 225 rfl rfl
set_option maxRecDepth 20000 in
theorem xw_862 : Cond.instanceMethod yX12_starts ∈ xgt := wm_8 114 rfl rfl
set_option maxRecDepth 20000 in
theorem xw_863 : Cond.selects yX12_starts.cls yX12_starts yX12_starts ∈ xgt := ws_7 (q := (yX12_starts, 69)) 2 rfl rfl
set_option maxRecDepth 20000 in
theorem xw_864 : Cond.methodLink RX12 427 yX12_starts ∈ xgt := wm_8 112 rfl rfl
set_option maxRecDepth 20000 in
theorem xw_865 : Cond.instanceMethod yX12_mayBe ∈ xgt := wm_8 118 rfl rfl
set_option maxRecDepth 20000 in
theorem xw_866 : Cond.selects yX12_mayBe.cls yX12_mayBe yX12_mayBe ∈ xgt := ws_7 (q := (yX12_mayBe, 69)) 3 rfl rfl
set_option maxRecDepth 20000 in
theorem xw_867 : Cond.methodLink RX12 430 yX12_mayBe ∈ xgt := wm_8 116 rfl rfl
set_option maxRecDepth 20000 in
theorem xw_868 : Cond.instanceMethod yX12_isBest ∈ xgt := wm_8 142 rfl rfl
set_option maxRecDepth 20000 in
theorem xw_869 : Cond.selects yX12_isBest.cls yX12_isBest yX12_isBest ∈ xgt := ws_7 (q := (yX12_isBest, 69)) 8 rfl rfl
set_option maxRecDepth 20000 in
theorem xw_870 : Cond.methodLink RX12 452 yX12_isBest ∈ xgt := wm_8 140 rfl rfl
set_option maxRecDepth 20000 in
theorem xw_871 : Cond.instanceMethod yX12_goesNext ∈ xgt := wm_8 134 rfl rfl
set_option maxRecDepth 20000 in
theorem xw_872 : Cond.selects yX12_goesNext.cls yX12_goesNext yX12_goesNext ∈ xgt := ws_7 (q := (yX12_goesNext, 69)) 7 rfl rfl
set_option maxRecDepth 20000 in
theorem xw_873 : Cond.methodLink RX12 443 yX12_goesNext ∈ xgt := wm_8 132 rfl rfl
set_option maxRecDepth 20000 in
theorem xw_874 : Cond.instanceMethod yX12_costOf ∈ xgt := wm_8 122 rfl rfl
set_option maxRecDepth 20000 in
theorem xw_875 : Cond.selects yX12_costOf.cls yX12_costOf yX12_costOf ∈ xgt := ws_7 (q := (yX12_costOf, 69)) 4 rfl rfl
set_option maxRecDepth 20000 in
theorem xw_876 : Cond.methodLink RX12 433 yX12_costOf ∈ xgt := wm_8 120 rfl rfl
set_option maxRecDepth 20000 in
theorem xw_877 : Cond.code yX12_chosen cX12_chosen 6 (some .int) ∈ xgt := wm_8 139 rfl rfl
set_option maxRecDepth 20000 in
theorem xw_878 : Cond.code yX12_common cX12_common 10 (some .long) ∈ xgt := wm_8 199 rfl rfl
set_option maxRecDepth 20000 in
theorem xw_879 : Cond.instanceMethod yX12_negation ∈ xgt := wm_7 156 rfl rfl
set_option maxRecDepth 20000 in
theorem xw_880 : Cond.selects yX12_negation.cls yX12_negation yX12_negation ∈ xgt := ws_5 (q := (yX12_negation, 69)) 5 rfl rfl
set_option maxRecDepth 20000 in
theorem xw_881 : Cond.methodLink RX12 300 yX12_negation ∈ xgt := wm_7 154 rfl rfl
set_option maxRecDepth 20000 in
theorem xw_882 : Cond.instanceMethod yX12_isWord ∈ xgt := wm_7 124 rfl rfl
set_option maxRecDepth 20000 in
theorem xw_883 : Cond.selects yX12_isWord.cls yX12_isWord yX12_isWord ∈ xgt := ws_4 (q := (yX12_isWord, 69)) 13 rfl rfl
set_option maxRecDepth 20000 in
theorem xw_884 : Cond.methodLink RX12 279 yX12_isWord ∈ xgt := wm_7 122 rfl rfl
set_option maxRecDepth 20000 in
theorem xw_885 : Cond.instanceMethod yX12_knot ∈ xgt := wm_7 160 rfl rfl
set_option maxRecDepth 20000 in
theorem xw_886 : Cond.selects yX12_knot.cls yX12_knot yX12_knot ∈ xgt := ws_5 (q := (yX12_knot, 69)) 6 rfl rfl
set_option maxRecDepth 20000 in
theorem xw_887 : Cond.methodLink RX12 294 yX12_knot ∈ xgt := wm_7 158 rfl rfl
set_option maxRecDepth 20000 in
theorem xw_888 : Cond.instanceMethod yX12_goOn ∈ xgt := wm_7 132 rfl rfl
set_option maxRecDepth 20000 in
theorem xw_889 : Cond.selects yX12_goOn.cls yX12_goOn yX12_goOn ∈ xgt := ws_4 (q := (yX12_goOn, 69)) 15 rfl rfl
set_option maxRecDepth 20000 in
theorem xw_890 : Cond.methodLink RX12 237 yX12_goOn ∈ xgt := wm_7 130 rfl rfl
set_option maxRecDepth 20000 in
theorem xw_891 : Cond.instanceMethod yX12_puts ∈ xgt := wm_7 164 rfl rfl
set_option maxRecDepth 20000 in
theorem xw_892 : Cond.selects yX12_puts.cls yX12_puts yX12_puts ∈ xgt := ws_5 (q := (yX12_puts, 69)) 7 rfl rfl
set_option maxRecDepth 20000 in
theorem xw_893 : Cond.methodLink RX12 297 yX12_puts ∈ xgt := wm_7 162 rfl rfl
set_option maxRecDepth 20000 in
theorem xw_894 : Cond.code yX12_conjunction cX12_conjunction 1 none ∈ xgt := wm_7 153 rfl rfl
set_option maxRecDepth 20000 in
theorem xw_895 : Cond.code yX12_copies cX12_copies 4 none ∈ xgt := wm_9 11 rfl rfl
set_option maxRecDepth 20000 in
theorem xw_896 : Cond.code yX12_costOf cX12_costOf 4 (some .int) ∈ xgt := wm_8 123 rfl rfl
set_option maxRecDepth 20000 in
theorem xw_897 : Cond.fieldLink RX12 325 (TX12 61).1 (TX12 61).2.1 (TX12 61).2.2.1 ∈ xgt := wm_6 141 rfl rfl
set_option maxRecDepth 20000 in
theorem xw_898 : Cond.instanceMethod yX12_knownMany ∈ xgt := wm_8 182 rfl rfl
set_option maxRecDepth 20000 in
theorem xw_899 : Cond.selects yX12_knownMany.cls yX12_knownMany yX12_knownMany ∈ xgt := ws_7 (q := (yX12_knownMany, 69)) 12 rfl rfl
set_option maxRecDepth 20000 in
theorem xw_900 : Cond.methodLink RX12 467 yX12_knownMany ∈ xgt := wm_8 180 rfl rfl
set_option maxRecDepth 20000 in
theorem xw_901 : Cond.methodLink RX12 485 yX12_bitsOf ∈ xgt := wm_8 204 rfl rfl
set_option maxRecDepth 20000 in
theorem xw_902 : Cond.static yX12_bitsOf ∈ xgt := wm_8 205 rfl rfl
set_option maxRecDepth 20000 in
theorem xw_903 : Cond.code yX12_count cX12_count 4 (some .int) ∈ xgt := wm_9 19 rfl rfl
set_option maxRecDepth 20000 in
theorem xw_904 : Cond.instanceMethod yX12_calls ∈ xgt := wm_8 3 rfl rfl
set_option maxRecDepth 20000 in
theorem xw_905 : Cond.selects yX12_calls.cls yX12_calls yX12_calls ∈ xgt := ws_6 (q := (yX12_calls, 69)) 3 rfl rfl
set_option maxRecDepth 20000 in
theorem xw_906 : Cond.methodLink RX12 387 yX12_calls ∈ xgt := wm_8 1 rfl rfl
set_option maxRecDepth 20000 in
theorem xw_907 : Cond.code yX12_crackOf cX12_crackOf 3 (some .int) ∈ xgt := wm_8 66 rfl rfl
set_option maxRecDepth 20000 in
theorem xw_908 : Cond.instanceMethod yX12_isVoice ∈ xgt := wm_7 203 rfl rfl
set_option maxRecDepth 20000 in
theorem xw_909 : Cond.selects yX12_isVoice.cls yX12_isVoice yX12_isVoice ∈ xgt := ws_5 (q := (yX12_isVoice, 69)) 13 rfl rfl
set_option maxRecDepth 20000 in
theorem xw_910 : Cond.methodLink RX12 335 yX12_isVoice ∈ xgt := wm_7 201 rfl rfl
set_option maxRecDepth 20000 in
theorem xw_911 : Cond.instanceMethod yX12_crackOf ∈ xgt := wm_8 65 rfl rfl
set_option maxRecDepth 20000 in
theorem xw_912 : Cond.selects yX12_crackOf.cls yX12_crackOf yX12_crackOf ∈ xgt := ws_6 (q := (yX12_crackOf, 69)) 13 rfl rfl
set_option maxRecDepth 20000 in
theorem xw_913 : Cond.methodLink RX12 411 yX12_crackOf ∈ xgt := wm_8 63 rfl rfl
set_option maxRecDepth 20000 in
theorem xw_914 : Cond.code yX12_cracks cX12_cracks 2 (some .int) ∈ xgt := wm_8 62 rfl rfl
set_option maxRecDepth 20000 in
theorem xw_915 : Cond.constant RX12 417 (nI 1103515245) ∈ xgt := wm_8 95 rfl rfl
set_option maxRecDepth 20000 in
theorem xw_916 : Cond.constant RX12 420 (nI 2147483647) ∈ xgt := wm_8 96 rfl rfl
set_option maxRecDepth 20000 in
theorem xw_917 : Cond.code yX12_draw cX12_draw 1 (some .int) ∈ xgt := wm_8 94 rfl rfl
set_option maxRecDepth 20000 in
theorem xw_918 : Cond.instanceMethod yX12_dueOf ∈ xgt := wm_7 239 rfl rfl
set_option maxRecDepth 20000 in
theorem xw_919 : Cond.selects yX12_dueOf.cls yX12_dueOf yX12_dueOf ∈ xgt := ws_6 (q := (yX12_dueOf, 69)) 2 rfl rfl
set_option maxRecDepth 20000 in
theorem xw_920 : Cond.methodLink RX12 405 yX12_dueOf ∈ xgt := wm_7 237 rfl rfl
set_option maxRecDepth 20000 in
theorem xw_921 : Cond.code yX12_due cX12_due 4 (some .int) ∈ xgt := wm_7 236 rfl rfl
set_option maxRecDepth 20000 in
theorem xw_922 : Cond.instanceMethod yX12_soundsOf ∈ xgt := wm_8 7 rfl rfl
set_option maxRecDepth 20000 in
theorem xw_923 : Cond.selects yX12_soundsOf.cls yX12_soundsOf yX12_soundsOf ∈ xgt := ws_6 (q := (yX12_soundsOf, 69)) 4 rfl rfl
set_option maxRecDepth 20000 in
theorem xw_924 : Cond.methodLink RX12 390 yX12_soundsOf ∈ xgt := wm_8 5 rfl rfl
set_option maxRecDepth 20000 in
theorem xw_925 : Cond.code yX12_dueOf cX12_dueOf 3 (some .int) ∈ xgt := wm_8 0 rfl rfl
set_option maxRecDepth 20000 in
theorem xw_926 : Cond.instanceMethod yX12_areVerses ∈ xgt := wm_8 150 rfl rfl
set_option maxRecDepth 20000 in
theorem xw_927 : Cond.selects yX12_areVerses.cls yX12_areVerses yX12_areVerses ∈ xgt := ws_7 (q := (yX12_areVerses, 69)) 9 rfl rfl
set_option maxRecDepth 20000 in
theorem xw_928 : Cond.methodLink RX12 461 yX12_areVerses ∈ xgt := wm_8 148 rfl rfl
set_option maxRecDepth 20000 in
theorem xw_929 : Cond.instanceMethod yX12_sells ∈ xgt := wm_8 154 rfl rfl
set_option maxRecDepth 20000 in
theorem xw_930 : Cond.selects yX12_sells.cls yX12_sells yX12_sells ∈ xgt := ws_7 (q := (yX12_sells, 69)) 10 rfl rfl
set_option maxRecDepth 20000 in
theorem xw_931 : Cond.methodLink RX12 464 yX12_sells ∈ xgt := wm_8 152 rfl rfl
set_option maxRecDepth 20000 in
theorem xw_932 : Cond.code yX12_easter cX12_easter 4 (some .int) ∈ xgt := wm_8 159 rfl rfl
set_option maxRecDepth 20000 in
theorem xw_933 : Cond.methodLink RX12 498 yX12_isRound ∈ xgt := wm_8 215 rfl rfl
set_option maxRecDepth 20000 in
theorem xw_934 : Cond.static yX12_isRound ∈ xgt := wm_8 216 rfl rfl
set_option maxRecDepth 20000 in
theorem xw_935 : Cond.fieldLink RX12 491 (TX12 68).1 (TX12 68).2.1 (TX12 68).2.2.1 ∈ xgt := wm_6 148 rfl rfl
set_option maxRecDepth 20000 in
theorem xw_936 : Cond.instanceMethod yX12_rows ∈ xgt := wm_8 220 rfl rfl
set_option maxRecDepth 20000 in
theorem xw_937 : Cond.selects yX12_rows.cls yX12_rows yX12_rows ∈ xgt := ws_8 (q := (yX12_rows, 69)) 0 rfl rfl
set_option maxRecDepth 20000 in
theorem xw_938 : Cond.methodLink RX12 494 yX12_rows ∈ xgt := wm_8 218 rfl rfl
set_option maxRecDepth 20000 in
theorem xw_939 : Cond.code yX12_entry cX12_entry 6 (some .int) ∈ xgt := wm_8 225 rfl rfl
set_option maxRecDepth 20000 in
theorem xw_940 : Cond.instanceMethod yX12_conjunction ∈ xgt := wm_7 152 rfl rfl
set_option maxRecDepth 20000 in
theorem xw_941 : Cond.selects yX12_conjunction.cls yX12_conjunction yX12_conjunction ∈ xgt := ws_5 (q := (yX12_conjunction, 69)) 4 rfl rfl
set_option maxRecDepth 20000 in
theorem xw_942 : Cond.methodLink RX12 291 yX12_conjunction ∈ xgt := wm_7 150 rfl rfl
set_option maxRecDepth 20000 in
theorem xw_943 : Cond.code yX12_expression cX12_expression 1 none ∈ xgt := wm_7 149 rfl rfl
set_option maxRecDepth 20000 in
theorem xw_944 : Cond.fieldLink RX12 318 (TX12 33).1 (TX12 33).2.1 (TX12 33).2.2.1 ∈ xgt := wm_6 113 rfl rfl
set_option maxRecDepth 20000 in
theorem xw_945 : Cond.code yX12_fault cX12_fault 2 (some .int) ∈ xgt := wm_7 192 rfl rfl
set_option maxRecDepth 20000 in
theorem xw_946 : Cond.fieldLink RX12 166 (TX12 2).1 (TX12 2).2.1 (TX12 2).2.2.1 ∈ xgt := wm_6 82 rfl rfl
set_option maxRecDepth 20000 in
theorem xw_947 : Cond.code yX12_feed cX12_feed 8 (some .int) ∈ xgt := wm_7 52 rfl rfl
set_option maxRecDepth 20000 in
theorem xw_948 : Cond.code yX12_found cX12_found 5 (some .int) ∈ xgt := wm_7 113 rfl rfl
set_option maxRecDepth 20000 in
theorem xw_949 : Cond.fieldLink RX12 217 (TX12 31).1 (TX12 31).2.1 (TX12 31).2.2.1 ∈ xgt := wm_6 111 rfl rfl
set_option maxRecDepth 20000 in
theorem xw_950 : Cond.fieldLink RX12 182 (TX12 29).1 (TX12 29).2.1 (TX12 29).2.2.1 ∈ xgt := wm_6 109 rfl rfl
set_option maxRecDepth 20000 in
theorem xw_951 : Cond.instanceMethod yX12_wrong ∈ xgt := wm_7 97 rfl rfl
set_option maxRecDepth 20000 in
theorem xw_952 : Cond.selects yX12_wrong.cls yX12_wrong yX12_wrong ∈ xgt := ws_4 (q := (yX12_wrong, 69)) 7 rfl rfl
set_option maxRecDepth 20000 in
theorem xw_953 : Cond.methodLink RX12 226 yX12_wrong ∈ xgt := wm_7 95 rfl rfl
set_option maxRecDepth 20000 in
theorem xw_954 : Cond.fieldLink RX12 192 (TX12 30).1 (TX12 30).2.1 (TX12 30).2.2.1 ∈ xgt := wm_6 110 rfl rfl
set_option maxRecDepth 20000 in
theorem xw_955 : Cond.methodLink RX12 229 yX12_found ∈ xgt := wm_7 111 rfl rfl
set_option maxRecDepth 20000 in
theorem xw_956 : Cond.static yX12_found ∈ xgt := wm_7 112 rfl rfl
set_option maxRecDepth 20000 in
theorem xw_957 : Cond.instanceMethod yX12_token ∈ xgt := wm_7 63 rfl rfl
set_option maxRecDepth 20000 in
theorem xw_958 : Cond.selects yX12_token.cls yX12_token yX12_token ∈ xgt := ws_4 (q := (yX12_token, 69)) 1 rfl rfl
set_option maxRecDepth 20000 in
theorem xw_959 : Cond.methodLink RX12 223 yX12_token ∈ xgt := wm_7 61 rfl rfl
set_option maxRecDepth 20000 in
theorem xw_960 : Cond.code yX12_fresh cX12_fresh 5 (some .int) ∈ xgt := wm_7 110 rfl rfl
set_option maxRecDepth 20000 in
theorem xw_961 : Cond.code yX12_fresher cX12_fresher 2 (some .int) ∈ xgt := wm_7 106 rfl rfl
set_option maxRecDepth 20000 in
theorem xw_962 : Cond.code yX12_gainOf cX12_gainOf 4 (some .int) ∈ xgt := wm_8 127 rfl rfl
set_option maxRecDepth 20000 in
theorem xw_963 : Cond.instanceMethod yX12_strikes ∈ xgt := wm_8 178 rfl rfl
set_option maxRecDepth 20000 in
theorem xw_964 : Cond.selects yX12_strikes.cls yX12_strikes yX12_strikes ∈ xgt := ws_7 (q := (yX12_strikes, 69)) 11 rfl rfl
set_option maxRecDepth 20000 in
theorem xw_965 : Cond.methodLink RX12 473 yX12_strikes ∈ xgt := wm_8 176 rfl rfl
set_option maxRecDepth 20000 in
theorem xw_966 : Cond.instanceMethod yX12_isGang ∈ xgt := wm_8 209 rfl rfl
set_option maxRecDepth 20000 in
theorem xw_967 : Cond.selects yX12_isGang.cls yX12_isGang yX12_isGang ∈ xgt := ws_7 (q := (yX12_isGang, 69)) 15 rfl rfl
set_option maxRecDepth 20000 in
theorem xw_968 : Cond.methodLink RX12 488 yX12_isGang ∈ xgt := wm_8 207 rfl rfl
set_option maxRecDepth 20000 in
theorem xw_969 : Cond.code yX12_gang cX12_gang 3 (some .int) ∈ xgt := wm_8 203 rfl rfl
set_option maxRecDepth 20000 in
theorem xw_970 : Cond.code yX12_goOn cX12_goOn 1 none ∈ xgt := wm_7 133 rfl rfl
set_option maxRecDepth 20000 in
theorem xw_971 : Cond.fieldLink RX12 348 (TX12 52).1 (TX12 52).2.1 (TX12 52).2.2.1 ∈ xgt := wm_6 132 rfl rfl
set_option maxRecDepth 20000 in
theorem xw_972 : Cond.instanceMethod yX12_works ∈ xgt := wm_8 36 rfl rfl
set_option maxRecDepth 20000 in
theorem xw_973 : Cond.selects yX12_works.cls yX12_works yX12_works ∈ xgt := ws_6 (q := (yX12_works, 69)) 11 rfl rfl
set_option maxRecDepth 20000 in
theorem xw_974 : Cond.methodLink RX12 365 yX12_works ∈ xgt := wm_8 34 rfl rfl
set_option maxRecDepth 20000 in
theorem xw_975 : Cond.code yX12_goes cX12_goes 3 (some .boolean) ∈ xgt := wm_8 33 rfl rfl
set_option maxRecDepth 20000 in
theorem xw_976 : Cond.code yX12_goesNext cX12_goesNext 3 (some .boolean) ∈ xgt := wm_8 135 rfl rfl
set_option maxRecDepth 20000 in
theorem xw_977 : Cond.code yX12_half cX12_half 3 none ∈ xgt := wm_7 188 rfl rfl
set_option maxRecDepth 20000 in
theorem xw_978 : Cond.methodLink RX12 385 yJ9_max_7cf53 ∈ xgt := wm_8 25 rfl rfl
set_option maxRecDepth 20000 in
theorem xw_979 : Cond.code yX12_hasOf cX12_hasOf 7 (some .int) ∈ xgt := wm_8 233 rfl rfl
set_option maxRecDepth 20000 in
theorem xw_980 : Cond.fieldLink RX12 169 (TX12 27).1 (TX12 27).2.1 (TX12 27).2.2.1 ∈ xgt := wm_6 107 rfl rfl
set_option maxRecDepth 20000 in
theorem xw_981 : Cond.fieldLink RX12 172 (TX12 26).1 (TX12 26).2.1 (TX12 26).2.2.1 ∈ xgt := wm_6 106 rfl rfl
set_option maxRecDepth 20000 in
theorem xw_982 : Cond.code yX12_here cX12_here 1 (some .int) ∈ xgt := wm_7 68 rfl rfl
set_option maxRecDepth 20000 in
theorem xw_983 : Cond.code yX12_highOf cX12_highOf 4 (some .int) ∈ xgt := wm_8 24 rfl rfl
set_option maxRecDepth 20000 in
theorem xw_984 : Cond.code yX12_hum cX12_hum 2 (some .int) ∈ xgt := wm_8 163 rfl rfl
set_option maxRecDepth 20000 in
theorem xw_985 : Cond.code yX12_is cX12_is 1 (some .long) ∈ xgt := wm_8 40 rfl rfl
set_option maxRecDepth 20000 in
theorem xw_986 : Cond.instanceMethod yX12_gainOf ∈ xgt := wm_8 126 rfl rfl
set_option maxRecDepth 20000 in
theorem xw_987 : Cond.selects yX12_gainOf.cls yX12_gainOf yX12_gainOf ∈ xgt := ws_7 (q := (yX12_gainOf, 69)) 5 rfl rfl
set_option maxRecDepth 20000 in
theorem xw_988 : Cond.methodLink RX12 436 yX12_gainOf ∈ xgt := wm_8 124 rfl rfl
set_option maxRecDepth 20000 in
theorem xw_989 : Cond.code yX12_isBest cX12_isBest 6 (some .boolean) ∈ xgt := wm_8 143 rfl rfl
set_option maxRecDepth 20000 in
theorem xw_990 : Cond.code yX12_isCracked cX12_isCracked 2 (some .boolean) ∈ xgt := wm_7 208 rfl rfl
set_option maxRecDepth 20000 in
theorem xw_991 : Cond.code yX12_isCrowns cX12_isCrowns 1 (some .boolean) ∈ xgt := wm_8 103 rfl rfl
set_option maxRecDepth 20000 in
theorem xw_992 : Cond.code yX12_isDigit cX12_isDigit 1 (some .boolean) ∈ xgt := wm_7 85 rfl rfl
set_option maxRecDepth 20000 in
theorem xw_993 : Cond.instanceMethod yX12_fresher ∈ xgt := wm_7 105 rfl rfl
set_option maxRecDepth 20000 in
theorem xw_994 : Cond.selects yX12_fresher.cls yX12_fresher yX12_fresher ∈ xgt := ws_4 (q := (yX12_fresher, 69)) 9 rfl rfl
set_option maxRecDepth 20000 in
theorem xw_995 : Cond.methodLink RX12 233 yX12_fresher ∈ xgt := wm_7 103 rfl rfl
set_option maxRecDepth 20000 in
theorem xw_996 : Cond.code yX12_isFull cX12_isFull 2 (some .boolean) ∈ xgt := wm_7 102 rfl rfl
set_option maxRecDepth 20000 in
theorem xw_997 : Cond.instanceMethod yX12_isHummed ∈ xgt := wm_8 190 rfl rfl
set_option maxRecDepth 20000 in
theorem xw_998 : Cond.selects yX12_isHummed.cls yX12_isHummed yX12_isHummed ∈ xgt := ws_7 (q := (yX12_isHummed, 69)) 14 rfl rfl
set_option maxRecDepth 20000 in
theorem xw_999 : Cond.methodLink RX12 470 yX12_isHummed ∈ xgt := wm_8 188 rfl rfl

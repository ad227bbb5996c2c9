set_option maxRecDepth 20000 in
theorem qw_498 : qG (Cond.instanceMethod yX5_partsShown) := ⟨List.mem_append_right _ (List.mem_append_right _ (List.mem_append_right _ (List.mem_append_left _ (List.mem_of_getElem? (l := tables_1_3) (i := 160) rfl)))), good_of_word (by decide +kernel)⟩
set_option maxRecDepth 20000 in
theorem qw_499 : qG (Cond.methodLink RX5 192 yX5_partsShown) := ⟨List.mem_append_right _ (List.mem_append_right _ (List.mem_append_right _ (List.mem_append_left _ (List.mem_of_getElem? (l := tables_1_3) (i := 158) rfl)))), good_of_word (by decide +kernel)⟩
set_option maxRecDepth 20000 in
theorem qw_500 : qG (Cond.code yX5_isTenth cX5_isTenth 1 (some .boolean)) := ⟨List.mem_append_right _ (List.mem_append_right _ (List.mem_append_right _ (List.mem_append_left _ (List.mem_of_getElem? (l := tables_1_3) (i := 157) rfl)))), good_of_word (by decide +kernel)⟩
set_option maxRecDepth 20000 in
theorem qw_501 : qG (Cond.static yX5_isTenth) := ⟨List.mem_append_right _ (List.mem_append_right _ (List.mem_append_right _ (List.mem_append_left _ (List.mem_of_getElem? (l := tables_1_3) (i := 156) rfl)))), good_of_word (by decide +kernel)⟩
set_option maxRecDepth 20000 in
theorem qw_502 : qG (Cond.methodLink RX5 189 yX5_isTenth) := ⟨List.mem_append_right _ (List.mem_append_right _ (List.mem_append_right _ (List.mem_append_left _ (List.mem_of_getElem? (l := tables_1_3) (i := 155) rfl)))), good_of_word (by decide +kernel)⟩
set_option maxRecDepth 20000 in
theorem qw_503 : qG (Cond.constantLong RX5 196 (1000000)) := ⟨List.mem_append_right _ (List.mem_append_right _ (List.mem_append_right _ (List.mem_append_left _ (List.mem_of_getElem? (l := tables_1_3) (i := 163) rfl)))), good_of_word (by decide +kernel)⟩
set_option maxRecDepth 20000 in
theorem qw_504 : qG (Cond.code yX5_luck cX5_luck 5 (some .long)) := ⟨List.mem_append_right _ (List.mem_append_right _ (List.mem_append_right _ (List.mem_append_left _ (List.mem_of_getElem? (l := tables_1_3) (i := 154) rfl)))), good_of_word (by decide +kernel)⟩
set_option maxRecDepth 20000 in
theorem qw_505 : qG (Cond.selects RX5 yX5_luck yX5_luck) := ⟨List.mem_append_right _ (List.mem_append_right _ (List.mem_append_right _ (List.mem_append_left _ (List.mem_of_getElem? (l := tables_1_3) (i := 153) rfl)))), good_of_word (by decide +kernel)⟩
set_option maxRecDepth 20000 in
theorem qw_506 : qG (Cond.instanceMethod yX5_luck) := ⟨List.mem_append_right _ (List.mem_append_right _ (List.mem_append_right _ (List.mem_append_left _ (List.mem_of_getElem? (l := tables_1_3) (i := 152) rfl)))), good_of_word (by decide +kernel)⟩
set_option maxRecDepth 20000 in
theorem qw_507 : qG (Cond.methodLink RL 151 yX5_luck) := ⟨List.mem_append_right _ (List.mem_append_right _ (List.mem_append_right _ (List.mem_append_left _ (List.mem_of_getElem? (l := tables_1_3) (i := 151) rfl)))), good_of_word (by decide +kernel)⟩
set_option maxRecDepth 20000 in
theorem qw_508 : qG (Cond.code yX5_mean cX5_mean 7 (some .long)) := ⟨List.mem_append_right _ (List.mem_append_right _ (List.mem_append_right _ (List.mem_append_left _ (List.mem_of_getElem? (l := tables_1_3) (i := 167) rfl)))), good_of_word (by decide +kernel)⟩
set_option maxRecDepth 20000 in
theorem qw_509 : qG (Cond.selects RX5 yX5_mean yX5_mean) := ⟨List.mem_append_right _ (List.mem_append_right _ (List.mem_append_right _ (List.mem_append_left _ (List.mem_of_getElem? (l := tables_1_3) (i := 166) rfl)))), good_of_word (by decide +kernel)⟩
set_option maxRecDepth 20000 in
theorem qw_510 : qG (Cond.instanceMethod yX5_mean) := ⟨List.mem_append_right _ (List.mem_append_right _ (List.mem_append_right _ (List.mem_append_left _ (List.mem_of_getElem? (l := tables_1_3) (i := 165) rfl)))), good_of_word (by decide +kernel)⟩
set_option maxRecDepth 20000 in
theorem qw_511 : qG (Cond.methodLink RL 156 yX5_mean) := ⟨List.mem_append_right _ (List.mem_append_right _ (List.mem_append_right _ (List.mem_append_left _ (List.mem_of_getElem? (l := tables_1_3) (i := 164) rfl)))), good_of_word (by decide +kernel)⟩
set_option maxRecDepth 20000 in
theorem qw_512 : qG (Cond.code yX4_markOnSpareDay cX4_markOnSpareDay 3 none) := ⟨List.mem_append_right _ (List.mem_append_right _ (List.mem_append_right _ (List.mem_append_left _ (List.mem_of_getElem? (l := tables_1_3) (i := 186) rfl)))), good_of_word (by decide +kernel)⟩
set_option maxRecDepth 20000 in
theorem qw_513 : qG (Cond.selects RX4 yX4_markOnSpareDay yX4_markOnSpareDay) := ⟨List.mem_append_right _ (List.mem_append_right _ (List.mem_append_right _ (List.mem_append_left _ (List.mem_of_getElem? (l := tables_1_3) (i := 185) rfl)))), good_of_word (by decide +kernel)⟩
set_option maxRecDepth 20000 in
theorem qw_514 : qG (Cond.instanceMethod yX4_markOnSpareDay) := ⟨List.mem_append_right _ (List.mem_append_right _ (List.mem_append_right _ (List.mem_append_left _ (List.mem_of_getElem? (l := tables_1_3) (i := 184) rfl)))), good_of_word (by decide +kernel)⟩
set_option maxRecDepth 20000 in
theorem qw_515 : qG (Cond.methodLink RX5 208 yX4_markOnSpareDay) := ⟨List.mem_append_right _ (List.mem_append_right _ (List.mem_append_right _ (List.mem_append_left _ (List.mem_of_getElem? (l := tables_1_3) (i := 183) rfl)))), good_of_word (by decide +kernel)⟩
set_option maxRecDepth 20000 in
theorem qw_516 : qG (Cond.code yX5_drawn cX5_drawn 2 (some .int)) := ⟨List.mem_append_right _ (List.mem_append_right _ (List.mem_append_right _ (List.mem_append_left _ (List.mem_of_getElem? (l := tables_1_3) (i := 182) rfl)))), good_of_word (by decide +kernel)⟩
set_option maxRecDepth 20000 in
theorem qw_517 : qG (Cond.static yX5_drawn) := ⟨List.mem_append_right _ (List.mem_append_right _ (List.mem_append_right _ (List.mem_append_left _ (List.mem_of_getElem? (l := tables_1_3) (i := 181) rfl)))), good_of_word (by decide +kernel)⟩
set_option maxRecDepth 20000 in
theorem qw_518 : qG (Cond.methodLink RX5 205 yX5_drawn) := ⟨List.mem_append_right _ (List.mem_append_right _ (List.mem_append_right _ (List.mem_append_left _ (List.mem_of_getElem? (l := tables_1_3) (i := 180) rfl)))), good_of_word (by decide +kernel)⟩
set_option maxRecDepth 20000 in
theorem qw_519 : qG (Cond.constant RX5 277 (1103515245)) := ⟨List.mem_append_right _ (List.mem_append_right _ (List.mem_append_right _ (List.mem_append_left _ (List.mem_of_getElem? (l := tables_1_3) (i := 179) rfl)))), good_of_word (by decide +kernel)⟩
set_option maxRecDepth 20000 in
theorem qw_520 : qG (Cond.code yX5_nextSeed cX5_nextSeed 1 (some .int)) := ⟨List.mem_append_right _ (List.mem_append_right _ (List.mem_append_right _ (List.mem_append_left _ (List.mem_of_getElem? (l := tables_1_3) (i := 178) rfl)))), good_of_word (by decide +kernel)⟩
set_option maxRecDepth 20000 in
theorem qw_521 : qG (Cond.static yX5_nextSeed) := ⟨List.mem_append_right _ (List.mem_append_right _ (List.mem_append_right _ (List.mem_append_left _ (List.mem_of_getElem? (l := tables_1_3) (i := 177) rfl)))), good_of_word (by decide +kernel)⟩
set_option maxRecDepth 20000 in
theorem qw_522 : qG (Cond.methodLink RX5 202 yX5_nextSeed) := ⟨List.mem_append_right _ (List.mem_append_right _ (List.mem_append_right _ (List.mem_append_left _ (List.mem_of_getElem? (l := tables_1_3) (i := 176) rfl)))), good_of_word (by decide +kernel)⟩
set_option maxRecDepth 20000 in
theorem qw_523 : qG (Cond.code yX4_copyToSpareDay cX4_copyToSpareDay 2 none) := ⟨List.mem_append_right _ (List.mem_append_right _ (List.mem_append_right _ (List.mem_append_left _ (List.mem_of_getElem? (l := tables_1_3) (i := 175) rfl)))), good_of_word (by decide +kernel)⟩
set_option maxRecDepth 20000 in
theorem qw_524 : qG (Cond.selects RX4 yX4_copyToSpareDay yX4_copyToSpareDay) := ⟨List.mem_append_right _ (List.mem_append_right _ (List.mem_append_right _ (List.mem_append_left _ (List.mem_of_getElem? (l := tables_1_3) (i := 174) rfl)))), good_of_word (by decide +kernel)⟩
set_option maxRecDepth 20000 in
theorem qw_525 : qG (Cond.instanceMethod yX4_copyToSpareDay) := ⟨List.mem_append_right _ (List.mem_append_right _ (List.mem_append_right _ (List.mem_append_left _ (List.mem_of_getElem? (l := tables_1_3) (i := 173) rfl)))), good_of_word (by decide +kernel)⟩
set_option maxRecDepth 20000 in
theorem qw_526 : qG (Cond.methodLink RX5 198 yX4_copyToSpareDay) := ⟨List.mem_append_right _ (List.mem_append_right _ (List.mem_append_right _ (List.mem_append_left _ (List.mem_of_getElem? (l := tables_1_3) (i := 172) rfl)))), good_of_word (by decide +kernel)⟩
set_option maxRecDepth 20000 in
theorem qw_527 : qG (Cond.code yX4_sightOnSpareDay cX4_sightOnSpareDay 2 (some .int)) := ⟨List.mem_append_right _ (List.mem_append_right _ (List.mem_append_right _ (List.mem_append_left _ (List.mem_of_getElem? (l := tables_1_3) (i := 190) rfl)))), good_of_word (by decide +kernel)⟩
set_option maxRecDepth 20000 in
theorem qw_528 : qG (Cond.selects RX4 yX4_sightOnSpareDay yX4_sightOnSpareDay) := ⟨List.mem_append_right _ (List.mem_append_right _ (List.mem_append_right _ (List.mem_append_left _ (List.mem_of_getElem? (l := tables_1_3) (i := 189) rfl)))), good_of_word (by decide +kernel)⟩
set_option maxRecDepth 20000 in
theorem qw_529 : qG (Cond.instanceMethod yX4_sightOnSpareDay) := ⟨List.mem_append_right _ (List.mem_append_right _ (List.mem_append_right _ (List.mem_append_left _ (List.mem_of_getElem? (l := tables_1_3) (i := 188) rfl)))), good_of_word (by decide +kernel)⟩
set_option maxRecDepth 20000 in
theorem qw_530 : qG (Cond.methodLink RX5 212 yX4_sightOnSpareDay) := ⟨List.mem_append_right _ (List.mem_append_right _ (List.mem_append_right _ (List.mem_append_left _ (List.mem_of_getElem? (l := tables_1_3) (i := 187) rfl)))), good_of_word (by decide +kernel)⟩
set_option maxRecDepth 20000 in
theorem qw_531 : qG (Cond.code yX5_drift cX5_drift 9 (some .int)) := ⟨List.mem_append_right _ (List.mem_append_right _ (List.mem_append_right _ (List.mem_append_left _ (List.mem_of_getElem? (l := tables_1_3) (i := 171) rfl)))), good_of_word (by decide +kernel)⟩
set_option maxRecDepth 20000 in
theorem qw_532 : qG (Cond.selects RX5 yX5_drift yX5_drift) := ⟨List.mem_append_right _ (List.mem_append_right _ (List.mem_append_right _ (List.mem_append_left _ (List.mem_of_getElem? (l := tables_1_3) (i := 170) rfl)))), good_of_word (by decide +kernel)⟩
set_option maxRecDepth 20000 in
theorem qw_533 : qG (Cond.instanceMethod yX5_drift) := ⟨List.mem_append_right _ (List.mem_append_right _ (List.mem_append_right _ (List.mem_append_left _ (List.mem_of_getElem? (l := tables_1_3) (i := 169) rfl)))), good_of_word (by decide +kernel)⟩
set_option maxRecDepth 20000 in
theorem qw_534 : qG (Cond.methodLink RL 160 yX5_drift) := ⟨List.mem_append_right _ (List.mem_append_right _ (List.mem_append_right _ (List.mem_append_left _ (List.mem_of_getElem? (l := tables_1_3) (i := 168) rfl)))), good_of_word (by decide +kernel)⟩
set_option maxRecDepth 20000 in
theorem qw_535 : qG (Cond.code yX5_keep cX5_keep 3 (some .int)) := ⟨List.mem_append_right _ (List.mem_append_right _ (List.mem_append_right _ (List.mem_append_left _ (List.mem_of_getElem? (l := tables_1_3) (i := 194) rfl)))), good_of_word (by decide +kernel)⟩
set_option maxRecDepth 20000 in
theorem qw_536 : qG (Cond.selects RX5 yX5_keep yX5_keep) := ⟨List.mem_append_right _ (List.mem_append_right _ (List.mem_append_right _ (List.mem_append_left _ (List.mem_of_getElem? (l := tables_1_3) (i := 193) rfl)))), good_of_word (by decide +kernel)⟩
set_option maxRecDepth 20000 in
theorem qw_537 : qG (Cond.instanceMethod yX5_keep) := ⟨List.mem_append_right _ (List.mem_append_right _ (List.mem_append_right _ (List.mem_append_left _ (List.mem_of_getElem? (l := tables_1_3) (i := 192) rfl)))), good_of_word (by decide +kernel)⟩
set_option maxRecDepth 20000 in
theorem qw_538 : qG (Cond.methodLink RL 164 yX5_keep) := ⟨List.mem_append_right _ (List.mem_append_right _ (List.mem_append_right _ (List.mem_append_left _ (List.mem_of_getElem? (l := tables_1_3) (i := 191) rfl)))), good_of_word (by decide +kernel)⟩
set_option maxRecDepth 20000 in
theorem qw_539 : qG (Cond.code yX5_back cX5_back 2 (some .int)) := ⟨List.mem_append_right _ (List.mem_append_right _ (List.mem_append_right _ (List.mem_append_left _ (List.mem_of_getElem? (l := tables_1_3) (i := 198) rfl)))), good_of_word (by decide +kernel)⟩
set_option maxRecDepth 20000 in
theorem qw_540 : qG (Cond.selects RX5 yX5_back yX5_back) := ⟨List.mem_append_right _ (List.mem_append_right _ (List.mem_append_right _ (List.mem_append_left _ (List.mem_of_getElem? (l := tables_1_3) (i := 197) rfl)))), good_of_word (by decide +kernel)⟩
set_option maxRecDepth 20000 in
theorem qw_541 : qG (Cond.instanceMethod yX5_back) := ⟨List.mem_append_right _ (List.mem_append_right _ (List.mem_append_right _ (List.mem_append_left _ (List.mem_of_getElem? (l := tables_1_3) (i := 196) rfl)))), good_of_word (by decide +kernel)⟩
set_option maxRecDepth 20000 in
theorem qw_542 : qG (Cond.methodLink RL 168 yX5_back) := ⟨List.mem_append_right _ (List.mem_append_right _ (List.mem_append_right _ (List.mem_append_left _ (List.mem_of_getElem? (l := tables_1_3) (i := 195) rfl)))), good_of_word (by decide +kernel)⟩
set_option maxRecDepth 20000 in
theorem qw_543 : qG (Cond.methodLink RX3 22 yJ7_fill_53178) := ⟨List.mem_append_right _ (List.mem_append_right _ (List.mem_append_right _ (List.mem_append_left _ (List.mem_of_getElem? (l := tables_1_3) (i := 213) rfl)))), good_of_word (by decide +kernel)⟩
set_option maxRecDepth 20000 in
theorem qw_544 : qG (Cond.fieldLink RX3 19 "BackLenses$Sheet" "lane" "I") := ⟨List.mem_append_right _ (List.mem_append_left _ (List.mem_of_getElem? (l := tables_1_1) (i := 178) rfl)), good_of_word (by decide +kernel)⟩
set_option maxRecDepth 20000 in
theorem qw_545 : qG (Cond.code yX3_renew cX3_renew 3 none) := ⟨List.mem_append_right _ (List.mem_append_right _ (List.mem_append_right _ (List.mem_append_left _ (List.mem_of_getElem? (l := tables_1_3) (i := 212) rfl)))), good_of_word (by decide +kernel)⟩
set_option maxRecDepth 20000 in
theorem qw_546 : qG (Cond.selects RX3 yX3_renew yX3_renew) := ⟨List.mem_append_right _ (List.mem_append_right _ (List.mem_append_right _ (List.mem_append_left _ (List.mem_of_getElem? (l := tables_1_3) (i := 211) rfl)))), good_of_word (by decide +kernel)⟩
set_option maxRecDepth 20000 in
theorem qw_547 : qG (Cond.instanceMethod yX3_renew) := ⟨List.mem_append_right _ (List.mem_append_right _ (List.mem_append_right _ (List.mem_append_left _ (List.mem_of_getElem? (l := tables_1_3) (i := 210) rfl)))), good_of_word (by decide +kernel)⟩
set_option maxRecDepth 20000 in
theorem qw_548 : qG (Cond.methodLink RX5 221 yX3_renew) := ⟨List.mem_append_right _ (List.mem_append_right _ (List.mem_append_right _ (List.mem_append_left _ (List.mem_of_getElem? (l := tables_1_3) (i := 209) rfl)))), good_of_word (by decide +kernel)⟩
set_option maxRecDepth 20000 in
theorem qw_549 : qG (Cond.code yX5_isLane cX5_isLane 1 (some .boolean)) := ⟨List.mem_append_right _ (List.mem_append_right _ (List.mem_append_right _ (List.mem_append_left _ (List.mem_of_getElem? (l := tables_1_3) (i := 208) rfl)))), good_of_word (by decide +kernel)⟩
set_option maxRecDepth 20000 in
theorem qw_550 : qG (Cond.static yX5_isLane) := ⟨List.mem_append_right _ (List.mem_append_right _ (List.mem_append_right _ (List.mem_append_left _ (List.mem_of_getElem? (l := tables_1_3) (i := 207) rfl)))), good_of_word (by decide +kernel)⟩
set_option maxRecDepth 20000 in
theorem qw_551 : qG (Cond.methodLink RX5 218 yX5_isLane) := ⟨List.mem_append_right _ (List.mem_append_right _ (List.mem_append_right _ (List.mem_append_left _ (List.mem_of_getElem? (l := tables_1_3) (i := 206) rfl)))), good_of_word (by decide +kernel)⟩
set_option maxRecDepth 20000 in
theorem qw_552 : qG (Cond.code yX5_isSheet cX5_isSheet 1 (some .boolean)) := ⟨List.mem_append_right _ (List.mem_append_right _ (List.mem_append_right _ (List.mem_append_left _ (List.mem_of_getElem? (l := tables_1_3) (i := 205) rfl)))), good_of_word (by decide +kernel)⟩
set_option maxRecDepth 20000 in
theorem qw_553 : qG (Cond.static yX5_isSheet) := ⟨List.mem_append_right _ (List.mem_append_right _ (List.mem_append_right _ (List.mem_append_left _ (List.mem_of_getElem? (l := tables_1_3) (i := 204) rfl)))), good_of_word (by decide +kernel)⟩
set_option maxRecDepth 20000 in
theorem qw_554 : qG (Cond.methodLink RX5 215 yX5_isSheet) := ⟨List.mem_append_right _ (List.mem_append_right _ (List.mem_append_right _ (List.mem_append_left _ (List.mem_of_getElem? (l := tables_1_3) (i := 203) rfl)))), good_of_word (by decide +kernel)⟩
set_option maxRecDepth 20000 in
theorem qw_555 : qG (Cond.code yX5_sheet cX5_sheet 4 (some .int)) := ⟨List.mem_append_right _ (List.mem_append_right _ (List.mem_append_right _ (List.mem_append_left _ (List.mem_of_getElem? (l := tables_1_3) (i := 202) rfl)))), good_of_word (by decide +kernel)⟩
set_option maxRecDepth 20000 in
theorem qw_556 : qG (Cond.selects RX5 yX5_sheet yX5_sheet) := ⟨List.mem_append_right _ (List.mem_append_right _ (List.mem_append_right _ (List.mem_append_left _ (List.mem_of_getElem? (l := tables_1_3) (i := 201) rfl)))), good_of_word (by decide +kernel)⟩
set_option maxRecDepth 20000 in
theorem qw_557 : qG (Cond.instanceMethod yX5_sheet) := ⟨List.mem_append_right _ (List.mem_append_right _ (List.mem_append_right _ (List.mem_append_left _ (List.mem_of_getElem? (l := tables_1_3) (i := 200) rfl)))), good_of_word (by decide +kernel)⟩
set_option maxRecDepth 20000 in
theorem qw_558 : qG (Cond.methodLink RL 172 yX5_sheet) := ⟨List.mem_append_right _ (List.mem_append_right _ (List.mem_append_right _ (List.mem_append_left _ (List.mem_of_getElem? (l := tables_1_3) (i := 199) rfl)))), good_of_word (by decide +kernel)⟩
set_option maxRecDepth 20000 in
theorem qw_559 : qG (Cond.code yX3_put cX3_put 3 none) := ⟨List.mem_append_right _ (List.mem_append_right _ (List.mem_append_right _ (List.mem_append_left _ (List.mem_of_getElem? (l := tables_1_3) (i := 229) rfl)))), good_of_word (by decide +kernel)⟩
set_option maxRecDepth 20000 in
theorem qw_560 : qG (Cond.selects RX3 yX3_put yX3_put) := ⟨List.mem_append_right _ (List.mem_append_right _ (List.mem_append_right _ (List.mem_append_left _ (List.mem_of_getElem? (l := tables_1_3) (i := 228) rfl)))), good_of_word (by decide +kernel)⟩
set_option maxRecDepth 20000 in
theorem qw_561 : qG (Cond.instanceMethod yX3_put) := ⟨List.mem_append_right _ (List.mem_append_right _ (List.mem_append_right _ (List.mem_append_left _ (List.mem_of_getElem? (l := tables_1_3) (i := 227) rfl)))), good_of_word (by decide +kernel)⟩
set_option maxRecDepth 20000 in
theorem qw_562 : qG (Cond.methodLink RX5 227 yX3_put) := ⟨List.mem_append_right _ (List.mem_append_right _ (List.mem_append_right _ (List.mem_append_left _ (List.mem_of_getElem? (l := tables_1_3) (i := 226) rfl)))), good_of_word (by decide +kernel)⟩
set_option maxRecDepth 20000 in
theorem qw_563 : qG (Cond.code yX3_isNothing cX3_isNothing 1 (some .boolean)) := ⟨List.mem_append_right _ (List.mem_append_right _ (List.mem_append_right _ (List.mem_append_left _ (List.mem_of_getElem? (l := tables_1_3) (i := 225) rfl)))), good_of_word (by decide +kernel)⟩
set_option maxRecDepth 20000 in
theorem qw_564 : qG (Cond.selects RX3 yX3_isNothing yX3_isNothing) := ⟨List.mem_append_right _ (List.mem_append_right _ (List.mem_append_right _ (List.mem_append_left _ (List.mem_of_getElem? (l := tables_1_3) (i := 224) rfl)))), good_of_word (by decide +kernel)⟩
set_option maxRecDepth 20000 in
theorem qw_565 : qG (Cond.instanceMethod yX3_isNothing) := ⟨List.mem_append_right _ (List.mem_append_right _ (List.mem_append_right _ (List.mem_append_left _ (List.mem_of_getElem? (l := tables_1_3) (i := 223) rfl)))), good_of_word (by decide +kernel)⟩
set_option maxRecDepth 20000 in
theorem qw_566 : qG (Cond.methodLink RX3 28 yX3_isNothing) := ⟨List.mem_append_right _ (List.mem_append_right _ (List.mem_append_right _ (List.mem_append_left _ (List.mem_of_getElem? (l := tables_1_3) (i := 222) rfl)))), good_of_word (by decide +kernel)⟩
set_option maxRecDepth 20000 in
theorem qw_567 : qG (Cond.code yX3_faultAt cX3_faultAt 2 (some .int)) := ⟨List.mem_append_right _ (List.mem_append_right _ (List.mem_append_right _ (List.mem_append_left _ (List.mem_of_getElem? (l := tables_1_3) (i := 221) rfl)))), good_of_word (by decide +kernel)⟩
set_option maxRecDepth 20000 in
theorem qw_568 : qG (Cond.selects RX3 yX3_faultAt yX3_faultAt) := ⟨List.mem_append_right _ (List.mem_append_right _ (List.mem_append_right _ (List.mem_append_left _ (List.mem_of_getElem? (l := tables_1_3) (i := 220) rfl)))), good_of_word (by decide +kernel)⟩
set_option maxRecDepth 20000 in
theorem qw_569 : qG (Cond.instanceMethod yX3_faultAt) := ⟨List.mem_append_right _ (List.mem_append_right _ (List.mem_append_right _ (List.mem_append_left _ (List.mem_of_getElem? (l := tables_1_3) (i := 219) rfl)))), good_of_word (by decide +kernel)⟩
set_option maxRecDepth 20000 in
theorem qw_570 : qG (Cond.methodLink RX5 224 yX3_faultAt) := ⟨List.mem_append_right _ (List.mem_append_right _ (List.mem_append_right _ (List.mem_append_left _ (List.mem_of_getElem? (l := tables_1_3) (i := 218) rfl)))), good_of_word (by decide +kernel)⟩
set_option maxRecDepth 20000 in
theorem qw_571 : qG (Cond.code yX5_lay cX5_lay 5 (some .int)) := ⟨List.mem_append_right _ (List.mem_append_right _ (List.mem_append_right _ (List.mem_append_left _ (List.mem_of_getElem? (l := tables_1_3) (i := 217) rfl)))), good_of_word (by decide +kernel)⟩
set_option maxRecDepth 20000 in
theorem qw_572 : qG (Cond.selects RX5 yX5_lay yX5_lay) := ⟨List.mem_append_right _ (List.mem_append_right _ (List.mem_append_right _ (List.mem_append_left _ (List.mem_of_getElem? (l := tables_1_3) (i := 216) rfl)))), good_of_word (by decide +kernel)⟩
set_option maxRecDepth 20000 in
theorem qw_573 : qG (Cond.instanceMethod yX5_lay) := ⟨List.mem_append_right _ (List.mem_append_right _ (List.mem_append_right _ (List.mem_append_left _ (List.mem_of_getElem? (l := tables_1_3) (i := 215) rfl)))), good_of_word (by decide +kernel)⟩
set_option maxRecDepth 20000 in
theorem qw_574 : qG (Cond.methodLink RL 176 yX5_lay) := ⟨List.mem_append_right _ (List.mem_append_right _ (List.mem_append_right _ (List.mem_append_left _ (List.mem_of_getElem? (l := tables_1_3) (i := 214) rfl)))), good_of_word (by decide +kernel)⟩
set_option maxRecDepth 20000 in
theorem qw_575 : qG (Cond.instanceMethod yX3_faultAtThree) := ⟨List.mem_append_right _ (List.mem_append_right _ (List.mem_append_right _ (List.mem_append_left _ (List.mem_of_getElem? (l := tables_1_3) (i := 239) rfl)))), good_of_word (by decide +kernel)⟩
set_option maxRecDepth 20000 in
theorem qw_576 : qG (Cond.methodLink RX5 232 yX3_faultAtThree) := ⟨List.mem_append_right _ (List.mem_append_right _ (List.mem_append_right _ (List.mem_append_left _ (List.mem_of_getElem? (l := tables_1_3) (i := 238) rfl)))), good_of_word (by decide +kernel)⟩
set_option maxRecDepth 20000 in
theorem qw_577 : qG (Cond.code yX3_faultAsLane cX3_faultAsLane 2 (some .int)) := ⟨List.mem_append_right _ (List.mem_append_right _ (List.mem_append_right _ (List.mem_append_left _ (List.mem_of_getElem? (l := tables_1_3) (i := 237) rfl)))), good_of_word (by decide +kernel)⟩
set_option maxRecDepth 20000 in
theorem qw_578 : qG (Cond.selects RX3 yX3_faultAsLane yX3_faultAsLane) := ⟨List.mem_append_right _ (List.mem_append_right _ (List.mem_append_right _ (List.mem_append_left _ (List.mem_of_getElem? (l := tables_1_3) (i := 236) rfl)))), good_of_word (by decide +kernel)⟩
set_option maxRecDepth 20000 in
theorem qw_579 : qG (Cond.instanceMethod yX3_faultAsLane) := ⟨List.mem_append_right _ (List.mem_append_right _ (List.mem_append_right _ (List.mem_append_left _ (List.mem_of_getElem? (l := tables_1_3) (i := 235) rfl)))), good_of_word (by decide +kernel)⟩
set_option maxRecDepth 20000 in
theorem qw_580 : qG (Cond.methodLink RX5 229 yX3_faultAsLane) := ⟨List.mem_append_right _ (List.mem_append_right _ (List.mem_append_right _ (List.mem_append_left _ (List.mem_of_getElem? (l := tables_1_3) (i := 234) rfl)))), good_of_word (by decide +kernel)⟩
set_option maxRecDepth 20000 in
theorem qw_581 : qG (Cond.fieldLink RX5 237 "BackLenses" "readFault" "I") := ⟨List.mem_append_right _ (List.mem_append_left _ (List.mem_of_getElem? (l := tables_1_1) (i := 195) rfl)), good_of_word (by decide +kernel)⟩
set_option maxRecDepth 20000 in
theorem qw_582 : qG (Cond.methodLink RX3 32 yX3_faultAt) := ⟨List.mem_append_right _ (List.mem_append_right _ (List.mem_append_right _ (List.mem_append_right _ (List.mem_append_left _ (List.mem_of_getElem? (l := tables_1_4) (i := 2) rfl))))), good_of_word (by decide +kernel)⟩
set_option maxRecDepth 20000 in
theorem qw_583 : qG (Cond.code yX3_faultAtThree cX3_faultAtThree 3 (some .int)) := ⟨List.mem_append_right _ (List.mem_append_right _ (List.mem_append_right _ (List.mem_append_right _ (List.mem_append_left _ (List.mem_of_getElem? (l := tables_1_4) (i := 1) rfl))))), good_of_word (by decide +kernel)⟩
set_option maxRecDepth 20000 in
theorem qw_584 : qG (Cond.selects RX3 yX3_faultAtThree yX3_faultAtThree) := ⟨List.mem_append_right _ (List.mem_append_right _ (List.mem_append_right _ (List.mem_append_right _ (List.mem_append_left _ (List.mem_of_getElem? (l := tables_1_4) (i := 0) rfl))))), good_of_word (by decide +kernel)⟩
set_option maxRecDepth 20000 in
theorem qw_585 : qG (Cond.code yX5_read cX5_read 10 (some .int)) := ⟨List.mem_append_right _ (List.mem_append_right _ (List.mem_append_right _ (List.mem_append_left _ (List.mem_of_getElem? (l := tables_1_3) (i := 233) rfl)))), good_of_word (by decide +kernel)⟩
set_option maxRecDepth 20000 in
theorem qw_586 : qG (Cond.selects RX5 yX5_read yX5_read) := ⟨List.mem_append_right _ (List.mem_append_right _ (List.mem_append_right _ (List.mem_append_left _ (List.mem_of_getElem? (l := tables_1_3) (i := 232) rfl)))), good_of_word (by decide +kernel)⟩
set_option maxRecDepth 20000 in
theorem qw_587 : qG (Cond.instanceMethod yX5_read) := ⟨List.mem_append_right _ (List.mem_append_right _ (List.mem_append_right _ (List.mem_append_left _ (List.mem_of_getElem? (l := tables_1_3) (i := 231) rfl)))), good_of_word (by decide +kernel)⟩
set_option maxRecDepth 20000 in
theorem qw_588 : qG (Cond.methodLink RL 180 yX5_read) := ⟨List.mem_append_right _ (List.mem_append_right _ (List.mem_append_right _ (List.mem_append_left _ (List.mem_of_getElem? (l := tables_1_3) (i := 230) rfl)))), good_of_word (by decide +kernel)⟩
set_option maxRecDepth 20000 in
theorem qw_589 : qG (Cond.code yX5_torn cX5_torn 1 (some .int)) := ⟨List.mem_append_right _ (List.mem_append_right _ (List.mem_append_right _ (List.mem_append_right _ (List.mem_append_left _ (List.mem_of_getElem? (l := tables_1_4) (i := 6) rfl))))), good_of_word (by decide +kernel)⟩
set_option maxRecDepth 20000 in
theorem qw_590 : qG (Cond.selects RX5 yX5_torn yX5_torn) := ⟨List.mem_append_right _ (List.mem_append_right _ (List.mem_append_right _ (List.mem_append_right _ (List.mem_append_left _ (List.mem_of_getElem? (l := tables_1_4) (i := 5) rfl))))), good_of_word (by decide +kernel)⟩
set_option maxRecDepth 20000 in
theorem qw_591 : qG (Cond.instanceMethod yX5_torn) := ⟨List.mem_append_right _ (List.mem_append_right _ (List.mem_append_right _ (List.mem_append_right _ (List.mem_append_left _ (List.mem_of_getElem? (l := tables_1_4) (i := 4) rfl))))), good_of_word (by decide +kernel)⟩
set_option maxRecDepth 20000 in
theorem qw_592 : qG (Cond.methodLink RL 185 yX5_torn) := ⟨List.mem_append_right _ (List.mem_append_right _ (List.mem_append_right _ (List.mem_append_right _ (List.mem_append_left _ (List.mem_of_getElem? (l := tables_1_4) (i := 3) rfl))))), good_of_word (by decide +kernel)⟩
set_option maxRecDepth 20000 in
theorem qw_593 : qG (Cond.methodLink RX5 243 yX3_isNothing) := ⟨List.mem_append_right _ (List.mem_append_right _ (List.mem_append_right _ (List.mem_append_right _ (List.mem_append_left _ (List.mem_of_getElem? (l := tables_1_4) (i := 11) rfl))))), good_of_word (by decide +kernel)⟩
set_option maxRecDepth 20000 in
theorem qw_594 : qG (Cond.code yX5_daysOfChange cX5_daysOfChange 4 (some .int)) := ⟨List.mem_append_right _ (List.mem_append_right _ (List.mem_append_right _ (List.mem_append_right _ (List.mem_append_left _ (List.mem_of_getElem? (l := tables_1_4) (i := 15) rfl))))), good_of_word (by decide +kernel)⟩
theorem qw_595 : qG (Cond.selects RX5 yX5_daysOfChange yX5_daysOfChange) := ⟨List.mem_append_left _ (List.mem_of_getElem? (i := 23) (by decide +kernel)), good_of_word (by decide +kernel)⟩
set_option maxRecDepth 20000 in
theorem qw_596 : qG (Cond.instanceMethod yX5_daysOfChange) := ⟨List.mem_append_right _ (List.mem_append_right _ (List.mem_append_right _ (List.mem_append_right _ (List.mem_append_left _ (List.mem_of_getElem? (l := tables_1_4) (i := 14) rfl))))), good_of_word (by decide +kernel)⟩
set_option maxRecDepth 20000 in
theorem qw_597 : qG (Cond.methodLink RX5 248 yX5_daysOfChange) := ⟨List.mem_append_right _ (List.mem_append_right _ (List.mem_append_right _ (List.mem_append_right _ (List.mem_append_left _ (List.mem_of_getElem? (l := tables_1_4) (i := 12) rfl))))), good_of_word (by decide +kernel)⟩
set_option maxRecDepth 20000 in
theorem qw_598 : qG (Cond.code yX5_count cX5_count 2 (some .int)) := ⟨List.mem_append_right _ (List.mem_append_right _ (List.mem_append_right _ (List.mem_append_right _ (List.mem_append_left _ (List.mem_of_getElem? (l := tables_1_4) (i := 10) rfl))))), good_of_word (by decide +kernel)⟩
set_option maxRecDepth 20000 in
theorem qw_599 : qG (Cond.selects RX5 yX5_count yX5_count) := ⟨List.mem_append_right _ (List.mem_append_right _ (List.mem_append_right _ (List.mem_append_right _ (List.mem_append_left _ (List.mem_of_getElem? (l := tables_1_4) (i := 9) rfl))))), good_of_word (by decide +kernel)⟩
set_option maxRecDepth 20000 in
theorem qw_600 : qG (Cond.instanceMethod yX5_count) := ⟨List.mem_append_right _ (List.mem_append_right _ (List.mem_append_right _ (List.mem_append_right _ (List.mem_append_left _ (List.mem_of_getElem? (l := tables_1_4) (i := 8) rfl))))), good_of_word (by decide +kernel)⟩
set_option maxRecDepth 20000 in
theorem qw_601 : qG (Cond.methodLink RL 189 yX5_count) := ⟨List.mem_append_right _ (List.mem_append_right _ (List.mem_append_right _ (List.mem_append_right _ (List.mem_append_left _ (List.mem_of_getElem? (l := tables_1_4) (i := 7) rfl))))), good_of_word (by decide +kernel)⟩
set_option maxRecDepth 20000 in
theorem qw_602 : qG (Cond.fieldLink RX6 57 "BackLensesModel" "dLast" "I") := ⟨List.mem_append_right _ (List.mem_append_right _ (List.mem_append_right _ (List.mem_append_right _ (List.mem_append_left _ (List.mem_of_getElem? (l := tables_1_4) (i := 38) rfl))))), good_of_word (by decide +kernel)⟩
set_option maxRecDepth 20000 in
theorem qw_603 : qG (Cond.fieldLink RX6 54 "BackLensesModel" "dHigh" "I") := ⟨List.mem_append_right _ (List.mem_append_right _ (List.mem_append_right _ (List.mem_append_right _ (List.mem_append_left _ (List.mem_of_getElem? (l := tables_1_4) (i := 37) rfl))))), good_of_word (by decide +kernel)⟩
set_option maxRecDepth 20000 in
theorem qw_604 : qG (Cond.fieldLink RX6 50 "BackLensesModel" "dWide" "I") := ⟨List.mem_append_right _ (List.mem_append_right _ (List.mem_append_right _ (List.mem_append_right _ (List.mem_append_left _ (List.mem_of_getElem? (l := tables_1_4) (i := 36) rfl))))), good_of_word (by decide +kernel)⟩
set_option maxRecDepth 20000 in
theorem qw_605 : qG (Cond.code yX6_firstDraft cX6_firstDraft 2 none) := ⟨List.mem_append_right _ (List.mem_append_right _ (List.mem_append_right _ (List.mem_append_right _ (List.mem_append_left _ (List.mem_of_getElem? (l := tables_1_4) (i := 25) rfl))))), good_of_word (by decide +kernel)⟩
set_option maxRecDepth 20000 in
theorem qw_606 : qG (Cond.initialized RX6) := ⟨List.mem_append_right _ (List.mem_append_left _ (List.mem_of_getElem? (l := tables_1_1) (i := 7) rfl)), good_of_word (by decide +kernel)⟩
theorem qw_607 : qG (Cond.selects RX6 yX6_firstDraft yX6_firstDraft) := ⟨List.mem_append_left _ (List.mem_of_getElem? (i := 24) (by decide +kernel)), good_of_word (by decide +kernel)⟩
set_option maxRecDepth 20000 in
theorem qw_608 : qG (Cond.instanceMethod yX6_firstDraft) := ⟨List.mem_append_right _ (List.mem_append_right _ (List.mem_append_right _ (List.mem_append_right _ (List.mem_append_left _ (List.mem_of_getElem? (l := tables_1_4) (i := 24) rfl))))), good_of_word (by decide +kernel)⟩
set_option maxRecDepth 20000 in
theorem qw_609 : qG (Cond.methodLink RX6 44 yX6_firstDraft) := ⟨List.mem_append_right _ (List.mem_append_right _ (List.mem_append_right _ (List.mem_append_right _ (List.mem_append_left _ (List.mem_of_getElem? (l := tables_1_4) (i := 22) rfl))))), good_of_word (by decide +kernel)⟩
set_option maxRecDepth 20000 in
theorem qw_610 : qG (Cond.fieldLink RX6 41 "BackLensesModel" "cells" "[I") := ⟨List.mem_append_right _ (List.mem_append_right _ (List.mem_append_right _ (List.mem_append_right _ (List.mem_append_left _ (List.mem_of_getElem? (l := tables_1_4) (i := 57) rfl))))), good_of_word (by decide +kernel)⟩
set_option maxRecDepth 20000 in
theorem qw_611 : qG (Cond.fieldLink RX6 38 "BackLensesModel" "sizes" "[I") := ⟨List.mem_append_right _ (List.mem_append_right _ (List.mem_append_right _ (List.mem_append_right _ (List.mem_append_left _ (List.mem_of_getElem? (l := tables_1_4) (i := 56) rfl))))), good_of_word (by decide +kernel)⟩
set_option maxRecDepth 20000 in
theorem qw_612 : qG (Cond.fieldLink RX6 35 "BackLensesModel" "lanes" "[I") := ⟨List.mem_append_right _ (List.mem_append_right _ (List.mem_append_right _ (List.mem_append_right _ (List.mem_append_left _ (List.mem_of_getElem? (l := tables_1_4) (i := 55) rfl))))), good_of_word (by decide +kernel)⟩
set_option maxRecDepth 20000 in
theorem qw_613 : qG (Cond.fieldLink RX6 32 "BackLensesModel" "pairs" "[I") := ⟨List.mem_append_right _ (List.mem_append_right _ (List.mem_append_right _ (List.mem_append_right _ (List.mem_append_left _ (List.mem_of_getElem? (l := tables_1_4) (i := 54) rfl))))), good_of_word (by decide +kernel)⟩
set_option maxRecDepth 20000 in
theorem qw_614 : qG (Cond.fieldLink RX6 29 "BackLensesModel" "views" "[I") := ⟨List.mem_append_right _ (List.mem_append_right _ (List.mem_append_right _ (List.mem_append_right _ (List.mem_append_left _ (List.mem_of_getElem? (l := tables_1_4) (i := 53) rfl))))), good_of_word (by decide +kernel)⟩
set_option maxRecDepth 20000 in
theorem qw_615 : qG (Cond.fieldLink RX6 26 "BackLensesModel" "groups" "[I") := ⟨List.mem_append_right _ (List.mem_append_right _ (List.mem_append_right _ (List.mem_append_right _ (List.mem_append_left _ (List.mem_of_getElem? (l := tables_1_4) (i := 52) rfl))))), good_of_word (by decide +kernel)⟩
set_option maxRecDepth 20000 in
theorem qw_616 : qG (Cond.fieldLink RX6 23 "BackLensesModel" "marks" "[I") := ⟨List.mem_append_right _ (List.mem_append_right _ (List.mem_append_right _ (List.mem_append_right _ (List.mem_append_left _ (List.mem_of_getElem? (l := tables_1_4) (i := 51) rfl))))), good_of_word (by decide +kernel)⟩
set_option maxRecDepth 20000 in
theorem qw_617 : qG (Cond.fieldLink RX6 20 "BackLensesModel" "tape" "[I") := ⟨List.mem_append_right _ (List.mem_append_right _ (List.mem_append_right _ (List.mem_append_right _ (List.mem_append_left _ (List.mem_of_getElem? (l := tables_1_4) (i := 43) rfl))))), good_of_word (by decide +kernel)⟩
set_option maxRecDepth 20000 in
theorem qw_618 : qG (Cond.fieldLink RX6 17 "BackLensesModel" "draft" "[I") := ⟨List.mem_append_right _ (List.mem_append_right _ (List.mem_append_right _ (List.mem_append_right _ (List.mem_append_left _ (List.mem_of_getElem? (l := tables_1_4) (i := 35) rfl))))), good_of_word (by decide +kernel)⟩
set_option maxRecDepth 20000 in
theorem qw_619 : qG (Cond.fieldLink RX6 13 "BackLensesModel" "isKept" "[Z") := ⟨List.mem_append_right _ (List.mem_append_right _ (List.mem_append_right _ (List.mem_append_right _ (List.mem_append_left _ (List.mem_of_getElem? (l := tables_1_4) (i := 31) rfl))))), good_of_word (by decide +kernel)⟩
set_option maxRecDepth 20000 in
theorem qw_620 : qG (Cond.fieldLink RX6 7 "BackLensesModel" "st" "[I") := ⟨List.mem_append_right _ (List.mem_append_right _ (List.mem_append_right _ (List.mem_append_right _ (List.mem_append_left _ (List.mem_of_getElem? (l := tables_1_4) (i := 30) rfl))))), good_of_word (by decide +kernel)⟩
set_option maxRecDepth 20000 in
theorem qw_621 : qG (Cond.methodLink RX6 1 objectInit) := ⟨List.mem_append_right _ (List.mem_append_right _ (List.mem_append_right _ (List.mem_append_right _ (List.mem_append_left _ (List.mem_of_getElem? (l := tables_1_4) (i := 21) rfl))))), good_of_word (by decide +kernel)⟩
set_option maxRecDepth 20000 in
theorem qw_622 : qG (Cond.fieldLink RX6 78 "BackLensesModel" "last" "I") := ⟨List.mem_append_right _ (List.mem_append_right _ (List.mem_append_right _ (List.mem_append_right _ (List.mem_append_left _ (List.mem_of_getElem? (l := tables_1_4) (i := 34) rfl))))), good_of_word (by decide +kernel)⟩
set_option maxRecDepth 20000 in
theorem qw_623 : qG (Cond.fieldLink RX6 75 "BackLensesModel" "high" "I") := ⟨List.mem_append_right _ (List.mem_append_right _ (List.mem_append_right _ (List.mem_append_right _ (List.mem_append_left _ (List.mem_of_getElem? (l := tables_1_4) (i := 33) rfl))))), good_of_word (by decide +kernel)⟩
set_option maxRecDepth 20000 in
theorem qw_624 : qG (Cond.fieldLink RX6 72 "BackLensesModel" "wide" "I") := ⟨List.mem_append_right _ (List.mem_append_right _ (List.mem_append_right _ (List.mem_append_right _ (List.mem_append_left _ (List.mem_of_getElem? (l := tables_1_4) (i := 32) rfl))))), good_of_word (by decide +kernel)⟩
set_option maxRecDepth 20000 in
theorem qw_625 : qG (Cond.code yX6_keepDraft cX6_keepDraft 2 none) := ⟨List.mem_append_right _ (List.mem_append_right _ (List.mem_append_right _ (List.mem_append_right _ (List.mem_append_left _ (List.mem_of_getElem? (l := tables_1_4) (i := 29) rfl))))), good_of_word (by decide +kernel)⟩
theorem qw_626 : qG (Cond.selects RX6 yX6_keepDraft yX6_keepDraft) := ⟨List.mem_append_left _ (List.mem_of_getElem? (i := 25) (by decide +kernel)), good_of_word (by decide +kernel)⟩
set_option maxRecDepth 20000 in
theorem qw_627 : qG (Cond.instanceMethod yX6_keepDraft) := ⟨List.mem_append_right _ (List.mem_append_right _ (List.mem_append_right _ (List.mem_append_right _ (List.mem_append_left _ (List.mem_of_getElem? (l := tables_1_4) (i := 28) rfl))))), good_of_word (by decide +kernel)⟩
set_option maxRecDepth 20000 in
theorem qw_628 : qG (Cond.methodLink RX6 47 yX6_keepDraft) := ⟨List.mem_append_right _ (List.mem_append_right _ (List.mem_append_right _ (List.mem_append_right _ (List.mem_append_left _ (List.mem_of_getElem? (l := tables_1_4) (i := 26) rfl))))), good_of_word (by decide +kernel)⟩
set_option maxRecDepth 20000 in
theorem qw_629 : qG (Cond.fieldLink RX6 69 "BackLensesModel" "highestDay" "I") := ⟨List.mem_append_right _ (List.mem_append_right _ (List.mem_append_right _ (List.mem_append_right _ (List.mem_append_left _ (List.mem_of_getElem? (l := tables_1_4) (i := 42) rfl))))), good_of_word (by decide +kernel)⟩
set_option maxRecDepth 20000 in
theorem qw_630 : qG (Cond.fieldLink RX6 66 "BackLensesModel" "highestCell" "I") := ⟨List.mem_append_right _ (List.mem_append_right _ (List.mem_append_right _ (List.mem_append_right _ (List.mem_append_left _ (List.mem_of_getElem? (l := tables_1_4) (i := 41) rfl))))), good_of_word (by decide +kernel)⟩
set_option maxRecDepth 20000 in
theorem qw_631 : qG (Cond.fieldLink RX6 63 "BackLensesModel" "toldCells" "I") := ⟨List.mem_append_right _ (List.mem_append_right _ (List.mem_append_right _ (List.mem_append_right _ (List.mem_append_left _ (List.mem_of_getElem? (l := tables_1_4) (i := 40) rfl))))), good_of_word (by decide +kernel)⟩
set_option maxRecDepth 20000 in
theorem qw_632 : qG (Cond.fieldLink RX6 60 "BackLensesModel" "toldLines" "I") := ⟨List.mem_append_right _ (List.mem_append_right _ (List.mem_append_right _ (List.mem_append_right _ (List.mem_append_left _ (List.mem_of_getElem? (l := tables_1_4) (i := 39) rfl))))), good_of_word (by decide +kernel)⟩
set_option maxRecDepth 20000 in
theorem qw_633 : qG (Cond.code yX6_init cX6_init 2 none) := ⟨List.mem_append_right _ (List.mem_append_right _ (List.mem_append_right _ (List.mem_append_right _ (List.mem_append_left _ (List.mem_of_getElem? (l := tables_1_4) (i := 20) rfl))))), good_of_word (by decide +kernel)⟩
set_option maxRecDepth 20000 in
theorem qw_634 : qG (Cond.code yX6_in cX6_in 6 (some .boolean)) := ⟨List.mem_append_right _ (List.mem_append_right _ (List.mem_append_right _ (List.mem_append_right _ (List.mem_append_left _ (List.mem_of_getElem? (l := tables_1_4) (i := 125) rfl))))), good_of_word (by decide +kernel)⟩
set_option maxRecDepth 20000 in
theorem qw_635 : qG (Cond.static yX6_in) := ⟨List.mem_append_right _ (List.mem_append_right _ (List.mem_append_right _ (List.mem_append_right _ (List.mem_append_left _ (List.mem_of_getElem? (l := tables_1_4) (i := 124) rfl))))), good_of_word (by decide +kernel)⟩
set_option maxRecDepth 20000 in
theorem qw_636 : qG (Cond.methodLink RX6 83 yX6_in) := ⟨List.mem_append_right _ (List.mem_append_right _ (List.mem_append_right _ (List.mem_append_right _ (List.mem_append_left _ (List.mem_of_getElem? (l := tables_1_4) (i := 123) rfl))))), good_of_word (by decide +kernel)⟩
set_option maxRecDepth 20000 in
theorem qw_637 : qG (Cond.fieldLink RX6 87 "BackLensesModel" "taped" "I") := ⟨List.mem_append_right _ (List.mem_append_right _ (List.mem_append_right _ (List.mem_append_right _ (List.mem_append_left _ (List.mem_of_getElem? (l := tables_1_4) (i := 44) rfl))))), good_of_word (by decide +kernel)⟩
set_option maxRecDepth 20000 in
theorem qw_638 : qG (Cond.constantLong RX6 81 (127)) := ⟨List.mem_append_right _ (List.mem_append_right _ (List.mem_append_right _ (List.mem_append_right _ (List.mem_append_left _ (List.mem_of_getElem? (l := tables_1_4) (i := 122) rfl))))), good_of_word (by decide +kernel)⟩
set_option maxRecDepth 20000 in
theorem qw_639 : qG (Cond.code yX6_feed cX6_feed 2 (some .int)) := ⟨List.mem_append_right _ (List.mem_append_right _ (List.mem_append_right _ (List.mem_append_right _ (List.mem_append_left _ (List.mem_of_getElem? (l := tables_1_4) (i := 121) rfl))))), good_of_word (by decide +kernel)⟩
set_option maxRecDepth 20000 in
theorem qw_640 : qG (Cond.selects RX6 yX6_feed yX6_feed) := ⟨List.mem_append_right _ (List.mem_append_right _ (List.mem_append_right _ (List.mem_append_right _ (List.mem_append_left _ (List.mem_of_getElem? (l := tables_1_4) (i := 120) rfl))))), good_of_word (by decide +kernel)⟩
set_option maxRecDepth 20000 in
theorem qw_641 : qG (Cond.instanceMethod yX6_feed) := ⟨List.mem_append_right _ (List.mem_append_right _ (List.mem_append_right _ (List.mem_append_right _ (List.mem_append_left _ (List.mem_of_getElem? (l := tables_1_4) (i := 119) rfl))))), good_of_word (by decide +kernel)⟩
set_option maxRecDepth 20000 in
theorem qw_642 : qG (Cond.methodLink RL 17 yX6_feed) := ⟨List.mem_append_right _ (List.mem_append_right _ (List.mem_append_right _ (List.mem_append_right _ (List.mem_append_left _ (List.mem_of_getElem? (l := tables_1_4) (i := 118) rfl))))), good_of_word (by decide +kernel)⟩
set_option maxRecDepth 20000 in
theorem qw_643 : qG (Cond.code yX6_end cX6_end 3 (some .int)) := ⟨List.mem_append_right _ (List.mem_append_right _ (List.mem_append_right _ (List.mem_append_right _ (List.mem_append_left _ (List.mem_of_getElem? (l := tables_1_4) (i := 129) rfl))))), good_of_word (by decide +kernel)⟩
set_option maxRecDepth 20000 in
theorem qw_644 : qG (Cond.selects RX6 yX6_end yX6_end) := ⟨List.mem_append_right _ (List.mem_append_right _ (List.mem_append_right _ (List.mem_append_right _ (List.mem_append_left _ (List.mem_of_getElem? (l := tables_1_4) (i := 128) rfl))))), good_of_word (by decide +kernel)⟩
set_option maxRecDepth 20000 in
theorem qw_645 : qG (Cond.instanceMethod yX6_end) := ⟨List.mem_append_right _ (List.mem_append_right _ (List.mem_append_right _ (List.mem_append_right _ (List.mem_append_left _ (List.mem_of_getElem? (l := tables_1_4) (i := 127) rfl))))), good_of_word (by decide +kernel)⟩
set_option maxRecDepth 20000 in
theorem qw_646 : qG (Cond.methodLink RL 21 yX6_end) := ⟨List.mem_append_right _ (List.mem_append_right _ (List.mem_append_right _ (List.mem_append_right _ (List.mem_append_left _ (List.mem_of_getElem? (l := tables_1_4) (i := 126) rfl))))), good_of_word (by decide +kernel)⟩
set_option maxRecDepth 20000 in
theorem qw_647 : qG (Cond.constantLong RX6 113 (97)) := ⟨List.mem_append_right _ (List.mem_append_right _ (List.mem_append_right _ (List.mem_append_right _ (List.mem_append_left _ (List.mem_of_getElem? (l := tables_1_4) (i := 142) rfl))))), good_of_word (by decide +kernel)⟩
set_option maxRecDepth 20000 in
theorem qw_648 : qG (Cond.fieldLink RX6 93 "BackLensesModel" "from" "I") := ⟨List.mem_append_right _ (List.mem_append_right _ (List.mem_append_right _ (List.mem_append_right _ (List.mem_append_left _ (List.mem_of_getElem? (l := tables_1_4) (i := 46) rfl))))), good_of_word (by decide +kernel)⟩
set_option maxRecDepth 20000 in
theorem qw_649 : qG (Cond.code yX6_nextToken cX6_nextToken 2 none) := ⟨List.mem_append_right _ (List.mem_append_right _ (List.mem_append_right _ (List.mem_append_right _ (List.mem_append_left _ (List.mem_of_getElem? (l := tables_1_4) (i := 137) rfl))))), good_of_word (by decide +kernel)⟩
theorem qw_650 : qG (Cond.selects RX6 yX6_nextToken yX6_nextToken) := ⟨List.mem_append_left _ (List.mem_of_getElem? (i := 26) (by decide +kernel)), good_of_word (by decide +kernel)⟩
set_option maxRecDepth 20000 in
theorem qw_651 : qG (Cond.instanceMethod yX6_nextToken) := ⟨List.mem_append_right _ (List.mem_append_right _ (List.mem_append_right _ (List.mem_append_right _ (List.mem_append_left _ (List.mem_of_getElem? (l := tables_1_4) (i := 136) rfl))))), good_of_word (by decide +kernel)⟩
set_option maxRecDepth 20000 in
theorem qw_652 : qG (Cond.methodLink RX6 132 yX6_nextToken) := ⟨List.mem_append_right _ (List.mem_append_right _ (List.mem_append_right _ (List.mem_append_right _ (List.mem_append_left _ (List.mem_of_getElem? (l := tables_1_4) (i := 134) rfl))))), good_of_word (by decide +kernel)⟩
set_option maxRecDepth 20000 in
theorem qw_653 : qG (Cond.fieldLink RX6 96 "BackLensesModel" "wrongAt" "I") := ⟨List.mem_append_right _ (List.mem_append_right _ (List.mem_append_right _ (List.mem_append_right _ (List.mem_append_left _ (List.mem_of_getElem? (l := tables_1_4) (i := 50) rfl))))), good_of_word (by decide +kernel)⟩
set_option maxRecDepth 20000 in
theorem qw_654 : qG (Cond.fieldLink RX6 110 "BackLensesModel" "sort" "I") := ⟨List.mem_append_right _ (List.mem_append_right _ (List.mem_append_right _ (List.mem_append_right _ (List.mem_append_left _ (List.mem_of_getElem? (l := tables_1_4) (i := 47) rfl))))), good_of_word (by decide +kernel)⟩
set_option maxRecDepth 20000 in
theorem qw_655 : qG (Cond.fieldLink RX6 99 "BackLensesModel" "pos" "I") := ⟨List.mem_append_right _ (List.mem_append_right _ (List.mem_append_right _ (List.mem_append_right _ (List.mem_append_left _ (List.mem_of_getElem? (l := tables_1_4) (i := 45) rfl))))), good_of_word (by decide +kernel)⟩
set_option maxRecDepth 20000 in
theorem qw_656 : qG (Cond.fieldLink RX6 90 "BackLensesModel" "fault" "I") := ⟨List.mem_append_right _ (List.mem_append_right _ (List.mem_append_right _ (List.mem_append_right _ (List.mem_append_left _ (List.mem_of_getElem? (l := tables_1_4) (i := 49) rfl))))), good_of_word (by decide +kernel)⟩
set_option maxRecDepth 20000 in
theorem qw_657 : qG (Cond.code yX6_lineNow cX6_lineNow 1 (some .int)) := ⟨List.mem_append_right _ (List.mem_append_right _ (List.mem_append_right _ (List.mem_append_right _ (List.mem_append_left _ (List.mem_of_getElem? (l := tables_1_4) (i := 157) rfl))))), good_of_word (by decide +kernel)⟩
theorem qw_658 : qG (Cond.selects RX6 yX6_lineNow yX6_lineNow) := ⟨List.mem_append_left _ (List.mem_of_getElem? (i := 30) (by decide +kernel)), good_of_word (by decide +kernel)⟩
set_option maxRecDepth 20000 in
theorem qw_659 : qG (Cond.instanceMethod yX6_lineNow) := ⟨List.mem_append_right _ (List.mem_append_right _ (List.mem_append_right _ (List.mem_append_right _ (List.mem_append_left _ (List.mem_of_getElem? (l := tables_1_4) (i := 156) rfl))))), good_of_word (by decide +kernel)⟩
set_option maxRecDepth 20000 in
theorem qw_660 : qG (Cond.methodLink RX6 148 yX6_lineNow) := ⟨List.mem_append_right _ (List.mem_append_right _ (List.mem_append_right _ (List.mem_append_right _ (List.mem_append_left _ (List.mem_of_getElem? (l := tables_1_4) (i := 154) rfl))))), good_of_word (by decide +kernel)⟩
set_option maxRecDepth 20000 in
theorem qw_661 : qG (Cond.code yX6_readLine cX6_readLine 2 none) := ⟨List.mem_append_right _ (List.mem_append_right _ (List.mem_append_right _ (List.mem_append_right _ (List.mem_append_left _ (List.mem_of_getElem? (l := tables_1_4) (i := 153) rfl))))), good_of_word (by decide +kernel)⟩
theorem qw_662 : qG (Cond.selects RX6 yX6_readLine yX6_readLine) := ⟨List.mem_append_left _ (List.mem_of_getElem? (i := 29) (by decide +kernel)), good_of_word (by decide +kernel)⟩
set_option maxRecDepth 20000 in
theorem qw_663 : qG (Cond.instanceMethod yX6_readLine) := ⟨List.mem_append_right _ (List.mem_append_right _ (List.mem_append_right _ (List.mem_append_right _ (List.mem_append_left _ (List.mem_of_getElem? (l := tables_1_4) (i := 152) rfl))))), good_of_word (by decide +kernel)⟩
set_option maxRecDepth 20000 in
theorem qw_664 : qG (Cond.methodLink RX6 155 yX6_readLine) := ⟨List.mem_append_right _ (List.mem_append_right _ (List.mem_append_right _ (List.mem_append_right _ (List.mem_append_left _ (List.mem_of_getElem? (l := tables_1_4) (i := 150) rfl))))), good_of_word (by decide +kernel)⟩
set_option maxRecDepth 20000 in
theorem qw_665 : qG (Cond.code yX6_needs cX6_needs 3 none) := ⟨List.mem_append_right _ (List.mem_append_right _ (List.mem_append_right _ (List.mem_append_right _ (List.mem_append_left _ (List.mem_of_getElem? (l := tables_1_4) (i := 149) rfl))))), good_of_word (by decide +kernel)⟩
theorem qw_666 : qG (Cond.selects RX6 yX6_needs yX6_needs) := ⟨List.mem_append_left _ (List.mem_of_getElem? (i := 28) (by decide +kernel)), good_of_word (by decide +kernel)⟩
set_option maxRecDepth 20000 in
theorem qw_667 : qG (Cond.instanceMethod yX6_needs) := ⟨List.mem_append_right _ (List.mem_append_right _ (List.mem_append_right _ (List.mem_append_right _ (List.mem_append_left _ (List.mem_of_getElem? (l := tables_1_4) (i := 148) rfl))))), good_of_word (by decide +kernel)⟩
set_option maxRecDepth 20000 in
theorem qw_668 : qG (Cond.methodLink RX6 124 yX6_needs) := ⟨List.mem_append_right _ (List.mem_append_right _ (List.mem_append_right _ (List.mem_append_right _ (List.mem_append_left _ (List.mem_of_getElem? (l := tables_1_4) (i := 146) rfl))))), good_of_word (by decide +kernel)⟩
set_option maxRecDepth 20000 in
theorem qw_669 : qG (Cond.code yX6_byteAt cX6_byteAt 2 (some .int)) := ⟨List.mem_append_right _ (List.mem_append_right _ (List.mem_append_right _ (List.mem_append_right _ (List.mem_append_left _ (List.mem_of_getElem? (l := tables_1_4) (i := 141) rfl))))), good_of_word (by decide +kernel)⟩
theorem qw_670 : qG (Cond.selects RX6 yX6_byteAt yX6_byteAt) := ⟨List.mem_append_left _ (List.mem_of_getElem? (i := 27) (by decide +kernel)), good_of_word (by decide +kernel)⟩
set_option maxRecDepth 20000 in
theorem qw_671 : qG (Cond.instanceMethod yX6_byteAt) := ⟨List.mem_append_right _ (List.mem_append_right _ (List.mem_append_right _ (List.mem_append_right _ (List.mem_append_left _ (List.mem_of_getElem? (l := tables_1_4) (i := 140) rfl))))), good_of_word (by decide +kernel)⟩
set_option maxRecDepth 20000 in
theorem qw_672 : qG (Cond.methodLink RX6 102 yX6_byteAt) := ⟨List.mem_append_right _ (List.mem_append_right _ (List.mem_append_right _ (List.mem_append_right _ (List.mem_append_left _ (List.mem_of_getElem? (l := tables_1_4) (i := 138) rfl))))), good_of_word (by decide +kernel)⟩
set_option maxRecDepth 20000 in
theorem qw_673 : qG (Cond.fieldLink RX6 121 "BackLensesModel" "value" "I") := ⟨List.mem_append_right _ (List.mem_append_right _ (List.mem_append_right _ (List.mem_append_right _ (List.mem_append_left _ (List.mem_of_getElem? (l := tables_1_4) (i := 48) rfl))))), good_of_word (by decide +kernel)⟩
set_option maxRecDepth 20000 in
theorem qw_674 : qG (Cond.constantLong RX6 119 (57)) := ⟨List.mem_append_right _ (List.mem_append_right _ (List.mem_append_right _ (List.mem_append_right _ (List.mem_append_left _ (List.mem_of_getElem? (l := tables_1_4) (i := 145) rfl))))), good_of_word (by decide +kernel)⟩
set_option maxRecDepth 20000 in
theorem qw_675 : qG (Cond.constantLong RX6 117 (48)) := ⟨List.mem_append_right _ (List.mem_append_right _ (List.mem_append_right _ (List.mem_append_right _ (List.mem_append_left _ (List.mem_of_getElem? (l := tables_1_4) (i := 144) rfl))))), good_of_word (by decide +kernel)⟩
set_option maxRecDepth 20000 in
theorem qw_676 : qG (Cond.constantLong RX6 115 (122)) := ⟨List.mem_append_right _ (List.mem_append_right _ (List.mem_append_right _ (List.mem_append_right _ (List.mem_append_left _ (List.mem_of_getElem? (l := tables_1_4) (i := 143) rfl))))), good_of_word (by decide +kernel)⟩
set_option maxRecDepth 20000 in
theorem qw_677 : qG (Cond.code yX6_readDay cX6_readDay 2 (some .int)) := ⟨List.mem_append_right _ (List.mem_append_right _ (List.mem_append_right _ (List.mem_append_right _ (List.mem_append_left _ (List.mem_of_getElem? (l := tables_1_4) (i := 181) rfl))))), good_of_word (by decide +kernel)⟩
theorem qw_678 : qG (Cond.selects RX6 yX6_readDay yX6_readDay) := ⟨List.mem_append_left _ (List.mem_of_getElem? (i := 36) (by decide +kernel)), good_of_word (by decide +kernel)⟩
set_option maxRecDepth 20000 in
theorem qw_679 : qG (Cond.instanceMethod yX6_readDay) := ⟨List.mem_append_right _ (List.mem_append_right _ (List.mem_append_right _ (List.mem_append_right _ (List.mem_append_left _ (List.mem_of_getElem? (l := tables_1_4) (i := 180) rfl))))), good_of_word (by decide +kernel)⟩
set_option maxRecDepth 20000 in
theorem qw_680 : qG (Cond.methodLink RX6 135 yX6_readDay) := ⟨List.mem_append_right _ (List.mem_append_right _ (List.mem_append_right _ (List.mem_append_right _ (List.mem_append_left _ (List.mem_of_getElem? (l := tables_1_4) (i := 178) rfl))))), good_of_word (by decide +kernel)⟩
set_option maxRecDepth 20000 in
theorem qw_681 : qG (Cond.code yX6_readCellBut cX6_readCellBut 3 (some .int)) := ⟨List.mem_append_right _ (List.mem_append_right _ (List.mem_append_right _ (List.mem_append_right _ (List.mem_append_left _ (List.mem_of_getElem? (l := tables_1_4) (i := 177) rfl))))), good_of_word (by decide +kernel)⟩
theorem qw_682 : qG (Cond.selects RX6 yX6_readCellBut yX6_readCellBut) := ⟨List.mem_append_left _ (List.mem_of_getElem? (i := 35) (by decide +kernel)), good_of_word (by decide +kernel)⟩
set_option maxRecDepth 20000 in
theorem qw_683 : qG (Cond.instanceMethod yX6_readCellBut) := ⟨List.mem_append_right _ (List.mem_append_right _ (List.mem_append_right _ (List.mem_append_right _ (List.mem_append_left _ (List.mem_of_getElem? (l := tables_1_4) (i := 176) rfl))))), good_of_word (by decide +kernel)⟩
set_option maxRecDepth 20000 in
theorem qw_684 : qG (Cond.methodLink RX6 139 yX6_readCellBut) := ⟨List.mem_append_right _ (List.mem_append_right _ (List.mem_append_right _ (List.mem_append_right _ (List.mem_append_left _ (List.mem_of_getElem? (l := tables_1_4) (i := 174) rfl))))), good_of_word (by decide +kernel)⟩
set_option maxRecDepth 20000 in
theorem qw_685 : qG (Cond.code yX6_looked cX6_looked 3 (some .int)) := ⟨List.mem_append_right _ (List.mem_append_right _ (List.mem_append_right _ (List.mem_append_right _ (List.mem_append_left _ (List.mem_of_getElem? (l := tables_1_4) (i := 173) rfl))))), good_of_word (by decide +kernel)⟩
theorem qw_686 : qG (Cond.selects RX6 yX6_looked yX6_looked) := ⟨List.mem_append_left _ (List.mem_of_getElem? (i := 34) (by decide +kernel)), good_of_word (by decide +kernel)⟩
set_option maxRecDepth 20000 in
theorem qw_687 : qG (Cond.instanceMethod yX6_looked) := ⟨List.mem_append_right _ (List.mem_append_right _ (List.mem_append_right _ (List.mem_append_right _ (List.mem_append_left _ (List.mem_of_getElem? (l := tables_1_4) (i := 172) rfl))))), good_of_word (by decide +kernel)⟩
set_option maxRecDepth 20000 in
theorem qw_688 : qG (Cond.methodLink RX6 128 yX6_looked) := ⟨List.mem_append_right _ (List.mem_append_right _ (List.mem_append_right _ (List.mem_append_right _ (List.mem_append_left _ (List.mem_of_getElem? (l := tables_1_4) (i := 170) rfl))))), good_of_word (by decide +kernel)⟩
set_option maxRecDepth 20000 in
theorem qw_689 : qG (Cond.code yX6_readNumber cX6_readNumber 4 (some .int)) := ⟨List.mem_append_right _ (List.mem_append_right _ (List.mem_append_right _ (List.mem_append_right _ (List.mem_append_left _ (List.mem_of_getElem? (l := tables_1_4) (i := 169) rfl))))), good_of_word (by decide +kernel)⟩
theorem qw_690 : qG (Cond.selects RX6 yX6_readNumber yX6_readNumber) := ⟨List.mem_append_left _ (List.mem_of_getElem? (i := 33) (by decide +kernel)), good_of_word (by decide +kernel)⟩
set_option maxRecDepth 20000 in
theorem qw_691 : qG (Cond.instanceMethod yX6_readNumber) := ⟨List.mem_append_right _ (List.mem_append_right _ (List.mem_append_right _ (List.mem_append_right _ (List.mem_append_left _ (List.mem_of_getElem? (l := tables_1_4) (i := 168) rfl))))), good_of_word (by decide +kernel)⟩
set_option maxRecDepth 20000 in
theorem qw_692 : qG (Cond.methodLink RX6 142 yX6_readNumber) := ⟨List.mem_append_right _ (List.mem_append_right _ (List.mem_append_right _ (List.mem_append_right _ (List.mem_append_left _ (List.mem_of_getElem? (l := tables_1_4) (i := 166) rfl))))), good_of_word (by decide +kernel)⟩
set_option maxRecDepth 20000 in
theorem qw_693 : qG (Cond.code yX6_readLineOf cX6_readLineOf 3 none) := ⟨List.mem_append_right _ (List.mem_append_right _ (List.mem_append_right _ (List.mem_append_right _ (List.mem_append_left _ (List.mem_of_getElem? (l := tables_1_4) (i := 165) rfl))))), good_of_word (by decide +kernel)⟩
theorem qw_694 : qG (Cond.selects RX6 yX6_readLineOf yX6_readLineOf) := ⟨List.mem_append_left _ (List.mem_of_getElem? (i := 32) (by decide +kernel)), good_of_word (by decide +kernel)⟩
set_option maxRecDepth 20000 in
theorem qw_695 : qG (Cond.instanceMethod yX6_readLineOf) := ⟨List.mem_append_right _ (List.mem_append_right _ (List.mem_append_right _ (List.mem_append_right _ (List.mem_append_left _ (List.mem_of_getElem? (l := tables_1_4) (i := 164) rfl))))), good_of_word (by decide +kernel)⟩
set_option maxRecDepth 20000 in
theorem qw_696 : qG (Cond.methodLink RX6 151 yX6_readLineOf) := ⟨List.mem_append_right _ (List.mem_append_right _ (List.mem_append_right _ (List.mem_append_right _ (List.mem_append_left _ (List.mem_of_getElem? (l := tables_1_4) (i := 162) rfl))))), good_of_word (by decide +kernel)⟩
set_option maxRecDepth 20000 in
theorem qw_697 : qG (Cond.code yX6_is cX6_is 6 (some .boolean)) := ⟨List.mem_append_right _ (List.mem_append_right _ (List.mem_append_right _ (List.mem_append_right _ (List.mem_append_left _ (List.mem_of_getElem? (l := tables_1_4) (i := 161) rfl))))), good_of_word (by decide +kernel)⟩
theorem qw_698 : qG (Cond.selects RX6 yX6_is yX6_is) := ⟨List.mem_append_left _ (List.mem_of_getElem? (i := 31) (by decide +kernel)), good_of_word (by decide +kernel)⟩
set_option maxRecDepth 20000 in
theorem qw_699 : qG (Cond.instanceMethod yX6_is) := ⟨List.mem_append_right _ (List.mem_append_right _ (List.mem_append_right _ (List.mem_append_right _ (List.mem_append_left _ (List.mem_of_getElem? (l := tables_1_4) (i := 160) rfl))))), good_of_word (by decide +kernel)⟩
set_option maxRecDepth 20000 in
theorem qw_700 : qG (Cond.methodLink RX6 106 yX6_is) := ⟨List.mem_append_right _ (List.mem_append_right _ (List.mem_append_right _ (List.mem_append_right _ (List.mem_append_left _ (List.mem_of_getElem? (l := tables_1_4) (i := 158) rfl))))), good_of_word (by decide +kernel)⟩
set_option maxRecDepth 20000 in
theorem qw_701 : qG (Cond.code yX6_readLens cX6_readLens 3 none) := ⟨List.mem_append_right _ (List.mem_append_right _ (List.mem_append_right _ (List.mem_append_right _ (List.mem_append_left _ (List.mem_of_getElem? (l := tables_1_4) (i := 185) rfl))))), good_of_word (by decide +kernel)⟩
theorem qw_702 : qG (Cond.selects RX6 yX6_readLens yX6_readLens) := ⟨List.mem_append_left _ (List.mem_of_getElem? (i := 37) (by decide +kernel)), good_of_word (by decide +kernel)⟩
set_option maxRecDepth 20000 in
theorem qw_703 : qG (Cond.instanceMethod yX6_readLens) := ⟨List.mem_append_right _ (List.mem_append_right _ (List.mem_append_right _ (List.mem_append_right _ (List.mem_append_left _ (List.mem_of_getElem? (l := tables_1_4) (i := 184) rfl))))), good_of_word (by decide +kernel)⟩
set_option maxRecDepth 20000 in
theorem qw_704 : qG (Cond.methodLink RX6 145 yX6_readLens) := ⟨List.mem_append_right _ (List.mem_append_right _ (List.mem_append_right _ (List.mem_append_right _ (List.mem_append_left _ (List.mem_of_getElem? (l := tables_1_4) (i := 182) rfl))))), good_of_word (by decide +kernel)⟩
set_option maxRecDepth 20000 in
theorem qw_705 : qG (Cond.code yX6_text cX6_text 2 (some .int)) := ⟨List.mem_append_right _ (List.mem_append_right _ (List.mem_append_right _ (List.mem_append_right _ (List.mem_append_left _ (List.mem_of_getElem? (l := tables_1_4) (i := 133) rfl))))), good_of_word (by decide +kernel)⟩
set_option maxRecDepth 20000 in
theorem qw_706 : qG (Cond.selects RX6 yX6_text yX6_text) := ⟨List.mem_append_right _ (List.mem_append_right _ (List.mem_append_right _ (List.mem_append_right _ (List.mem_append_left _ (List.mem_of_getElem? (l := tables_1_4) (i := 132) rfl))))), good_of_word (by decide +kernel)⟩
set_option maxRecDepth 20000 in
theorem qw_707 : qG (Cond.instanceMethod yX6_text) := ⟨List.mem_append_right _ (List.mem_append_right _ (List.mem_append_right _ (List.mem_append_right _ (List.mem_append_left _ (List.mem_of_getElem? (l := tables_1_4) (i := 131) rfl))))), good_of_word (by decide +kernel)⟩
set_option maxRecDepth 20000 in
theorem qw_708 : qG (Cond.methodLink RL 26 yX6_text) := ⟨List.mem_append_right _ (List.mem_append_right _ (List.mem_append_right _ (List.mem_append_right _ (List.mem_append_left _ (List.mem_of_getElem? (l := tables_1_4) (i := 130) rfl))))), good_of_word (by decide +kernel)⟩
set_option maxRecDepth 20000 in
theorem qw_709 : qG (Cond.code yX6_fault cX6_fault 1 (some .int)) := ⟨List.mem_append_right _ (List.mem_append_right _ (List.mem_append_right _ (List.mem_append_right _ (List.mem_append_left _ (List.mem_of_getElem? (l := tables_1_4) (i := 189) rfl))))), good_of_word (by decide +kernel)⟩
set_option maxRecDepth 20000 in
theorem qw_710 : qG (Cond.selects RX6 yX6_fault yX6_fault) := ⟨List.mem_append_right _ (List.mem_append_right _ (List.mem_append_right _ (List.mem_append_right _ (List.mem_append_left _ (List.mem_of_getElem? (l := tables_1_4) (i := 188) rfl))))), good_of_word (by decide +kernel)⟩
set_option maxRecDepth 20000 in
theorem qw_711 : qG (Cond.instanceMethod yX6_fault) := ⟨List.mem_append_right _ (List.mem_append_right _ (List.mem_append_right _ (List.mem_append_right _ (List.mem_append_left _ (List.mem_of_getElem? (l := tables_1_4) (i := 187) rfl))))), good_of_word (by decide +kernel)⟩
set_option maxRecDepth 20000 in
theorem qw_712 : qG (Cond.methodLink RL 30 yX6_fault) := ⟨List.mem_append_right _ (List.mem_append_right _ (List.mem_append_right _ (List.mem_append_right _ (List.mem_append_left _ (List.mem_of_getElem? (l := tables_1_4) (i := 186) rfl))))), good_of_word (by decide +kernel)⟩
set_option maxRecDepth 20000 in
theorem qw_713 : qG (Cond.code yX6_rule cX6_rule 2 (some .int)) := ⟨List.mem_append_right _ (List.mem_append_right _ (List.mem_append_right _ (List.mem_append_right _ (List.mem_append_left _ (List.mem_of_getElem? (l := tables_1_4) (i := 193) rfl))))), good_of_word (by decide +kernel)⟩
set_option maxRecDepth 20000 in
theorem qw_714 : qG (Cond.selects RX6 yX6_rule yX6_rule) := ⟨List.mem_append_right _ (List.mem_append_right _ (List.mem_append_right _ (List.mem_append_right _ (List.mem_append_left _ (List.mem_of_getElem? (l := tables_1_4) (i := 192) rfl))))), good_of_word (by decide +kernel)⟩
set_option maxRecDepth 20000 in
theorem qw_715 : qG (Cond.instanceMethod yX6_rule) := ⟨List.mem_append_right _ (List.mem_append_right _ (List.mem_append_right _ (List.mem_append_right _ (List.mem_append_left _ (List.mem_of_getElem? (l := tables_1_4) (i := 191) rfl))))), good_of_word (by decide +kernel)⟩
set_option maxRecDepth 20000 in
theorem qw_716 : qG (Cond.methodLink RL 34 yX6_rule) := ⟨List.mem_append_right _ (List.mem_append_right _ (List.mem_append_right _ (List.mem_append_right _ (List.mem_append_left _ (List.mem_of_getElem? (l := tables_1_4) (i := 190) rfl))))), good_of_word (by decide +kernel)⟩
set_option maxRecDepth 20000 in
theorem qw_717 : qG (Cond.code yX6_markOf cX6_markOf 8 (some .int)) := ⟨List.mem_append_right _ (List.mem_append_right _ (List.mem_append_right _ (List.mem_append_right _ (List.mem_append_left _ (List.mem_of_getElem? (l := tables_1_4) (i := 213) rfl))))), good_of_word (by decide +kernel)⟩
theorem qw_718 : qG (Cond.selects RX6 yX6_markOf yX6_markOf) := ⟨List.mem_append_left _ (List.mem_of_getElem? (i := 41) (by decide +kernel)), good_of_word (by decide +kernel)⟩
set_option maxRecDepth 20000 in
theorem qw_719 : qG (Cond.instanceMethod yX6_markOf) := ⟨List.mem_append_right _ (List.mem_append_right _ (List.mem_append_right _ (List.mem_append_right _ (List.mem_append_left _ (List.mem_of_getElem? (l := tables_1_4) (i := 212) rfl))))), good_of_word (by decide +kernel)⟩
set_option maxRecDepth 20000 in
theorem qw_720 : qG (Cond.methodLink RX6 163 yX6_markOf) := ⟨List.mem_append_right _ (List.mem_append_right _ (List.mem_append_right _ (List.mem_append_right _ (List.mem_append_left _ (List.mem_of_getElem? (l := tables_1_4) (i := 210) rfl))))), good_of_word (by decide +kernel)⟩
set_option maxRecDepth 20000 in
theorem qw_721 : qG (Cond.code yX6_isDay cX6_isDay 2 (some .boolean)) := ⟨List.mem_append_right _ (List.mem_append_right _ (List.mem_append_right _ (List.mem_append_right _ (List.mem_append_left _ (List.mem_of_getElem? (l := tables_1_4) (i := 209) rfl))))), good_of_word (by decide +kernel)⟩
theorem qw_722 : qG (Cond.selects RX6 yX6_isDay yX6_isDay) := ⟨List.mem_append_left _ (List.mem_of_getElem? (i := 40) (by decide +kernel)), good_of_word (by decide +kernel)⟩
set_option maxRecDepth 20000 in
theorem qw_723 : qG (Cond.instanceMethod yX6_isDay) := ⟨List.mem_append_right _ (List.mem_append_right _ (List.mem_append_right _ (List.mem_append_right _ (List.mem_append_left _ (List.mem_of_getElem? (l := tables_1_4) (i := 208) rfl))))), good_of_word (by decide +kernel)⟩
set_option maxRecDepth 20000 in
theorem qw_724 : qG (Cond.methodLink RX6 182 yX6_isDay) := ⟨List.mem_append_right _ (List.mem_append_right _ (List.mem_append_right _ (List.mem_append_right _ (List.mem_append_left _ (List.mem_of_getElem? (l := tables_1_4) (i := 206) rfl))))), good_of_word (by decide +kernel)⟩
set_option maxRecDepth 20000 in
theorem qw_725 : qG (Cond.code yX6_cellsNow cX6_cellsNow 1 (some .int)) := ⟨List.mem_append_right _ (List.mem_append_right _ (List.mem_append_right _ (List.mem_append_right _ (List.mem_append_left _ (List.mem_of_getElem? (l := tables_1_4) (i := 205) rfl))))), good_of_word (by decide +kernel)⟩
theorem qw_726 : qG (Cond.selects RX6 yX6_cellsNow yX6_cellsNow) := ⟨List.mem_append_left _ (List.mem_of_getElem? (i := 39) (by decide +kernel)), good_of_word (by decide +kernel)⟩
set_option maxRecDepth 20000 in
theorem qw_727 : qG (Cond.instanceMethod yX6_cellsNow) := ⟨List.mem_append_right _ (List.mem_append_right _ (List.mem_append_right _ (List.mem_append_right _ (List.mem_append_left _ (List.mem_of_getElem? (l := tables_1_4) (i := 204) rfl))))), good_of_word (by decide +kernel)⟩
set_option maxRecDepth 20000 in
theorem qw_728 : qG (Cond.methodLink RX6 158 yX6_cellsNow) := ⟨List.mem_append_right _ (List.mem_append_right _ (List.mem_append_right _ (List.mem_append_right _ (List.mem_append_left _ (List.mem_of_getElem? (l := tables_1_4) (i := 202) rfl))))), good_of_word (by decide +kernel)⟩
set_option maxRecDepth 20000 in
theorem qw_729 : qG (Cond.code yX6_isCell cX6_isCell 2 (some .boolean)) := ⟨List.mem_append_right _ (List.mem_append_right _ (List.mem_append_right _ (List.mem_append_right _ (List.mem_append_left _ (List.mem_of_getElem? (l := tables_1_4) (i := 201) rfl))))), good_of_word (by decide +kernel)⟩
theorem qw_730 : qG (Cond.selects RX6 yX6_isCell yX6_isCell) := ⟨List.mem_append_left _ (List.mem_of_getElem? (i := 38) (by decide +kernel)), good_of_word (by decide +kernel)⟩
set_option maxRecDepth 20000 in
theorem qw_731 : qG (Cond.instanceMethod yX6_isCell) := ⟨List.mem_append_right _ (List.mem_append_right _ (List.mem_append_right _ (List.mem_append_right _ (List.mem_append_left _ (List.mem_of_getElem? (l := tables_1_4) (i := 200) rfl))))), good_of_word (by decide +kernel)⟩
set_option maxRecDepth 20000 in
theorem qw_732 : qG (Cond.methodLink RX6 178 yX6_isCell) := ⟨List.mem_append_right _ (List.mem_append_right _ (List.mem_append_right _ (List.mem_append_right _ (List.mem_append_left _ (List.mem_of_getElem? (l := tables_1_4) (i := 198) rfl))))), good_of_word (by decide +kernel)⟩
set_option maxRecDepth 20000 in
theorem qw_733 : qG (Cond.code yX6_mark cX6_mark 3 (some .int)) := ⟨List.mem_append_right _ (List.mem_append_right _ (List.mem_append_right _ (List.mem_append_right _ (List.mem_append_left _ (List.mem_of_getElem? (l := tables_1_4) (i := 197) rfl))))), good_of_word (by decide +kernel)⟩
set_option maxRecDepth 20000 in
theorem qw_734 : qG (Cond.selects RX6 yX6_mark yX6_mark) := ⟨List.mem_append_right _ (List.mem_append_right _ (List.mem_append_right _ (List.mem_append_right _ (List.mem_append_left _ (List.mem_of_getElem? (l := tables_1_4) (i := 196) rfl))))), good_of_word (by decide +kernel)⟩
set_option maxRecDepth 20000 in
theorem qw_735 : qG (Cond.instanceMethod yX6_mark) := ⟨List.mem_append_right _ (List.mem_append_right _ (List.mem_append_right _ (List.mem_append_right _ (List.mem_append_left _ (List.mem_of_getElem? (l := tables_1_4) (i := 195) rfl))))), good_of_word (by decide +kernel)⟩
set_option maxRecDepth 20000 in
theorem qw_736 : qG (Cond.methodLink RL 39 yX6_mark) := ⟨List.mem_append_right _ (List.mem_append_right _ (List.mem_append_right _ (List.mem_append_right _ (List.mem_append_left _ (List.mem_of_getElem? (l := tables_1_4) (i := 194) rfl))))), good_of_word (by decide +kernel)⟩
set_option maxRecDepth 20000 in
theorem qw_737 : qG (Cond.constantLong RX6 185 (2)) := ⟨List.mem_append_right _ (List.mem_append_right _ (List.mem_append_right _ (List.mem_append_right _ (List.mem_append_left _ (List.mem_of_getElem? (l := tables_1_4) (i := 218) rfl))))), good_of_word (by decide +kernel)⟩
set_option maxRecDepth 20000 in
theorem qw_738 : qG (Cond.code yX6_change cX6_change 3 (some .int)) := ⟨List.mem_append_right _ (List.mem_append_right _ (List.mem_append_right _ (List.mem_append_right _ (List.mem_append_left _ (List.mem_of_getElem? (l := tables_1_4) (i := 217) rfl))))), good_of_word (by decide +kernel)⟩
set_option maxRecDepth 20000 in
theorem qw_739 : qG (Cond.selects RX6 yX6_change yX6_change) := ⟨List.mem_append_right _ (List.mem_append_right _ (List.mem_append_right _ (List.mem_append_right _ (List.mem_append_left _ (List.mem_of_getElem? (l := tables_1_4) (i := 216) rfl))))), good_of_word (by decide +kernel)⟩
set_option maxRecDepth 20000 in
theorem qw_740 : qG (Cond.instanceMethod yX6_change) := ⟨List.mem_append_right _ (List.mem_append_right _ (List.mem_append_right _ (List.mem_append_right _ (List.mem_append_left _ (List.mem_of_getElem? (l := tables_1_4) (i := 215) rfl))))), good_of_word (by decide +kernel)⟩
set_option maxRecDepth 20000 in
theorem qw_741 : qG (Cond.methodLink RL 43 yX6_change) := ⟨List.mem_append_right _ (List.mem_append_right _ (List.mem_append_right _ (List.mem_append_right _ (List.mem_append_left _ (List.mem_of_getElem? (l := tables_1_4) (i := 214) rfl))))), good_of_word (by decide +kernel)⟩
set_option maxRecDepth 20000 in
theorem qw_742 : qG (Cond.code yX6_isPart cX6_isPart 1 (some .boolean)) := ⟨List.mem_append_right _ (List.mem_append_right _ (List.mem_append_right _ (List.mem_append_right _ (List.mem_append_left _ (List.mem_of_getElem? (l := tables_1_4) (i := 229) rfl))))), good_of_word (by decide +kernel)⟩
set_option maxRecDepth 20000 in
theorem qw_743 : qG (Cond.static yX6_isPart) := ⟨List.mem_append_right _ (List.mem_append_right _ (List.mem_append_right _ (List.mem_append_right _ (List.mem_append_left _ (List.mem_of_getElem? (l := tables_1_4) (i := 228) rfl))))), good_of_word (by decide +kernel)⟩
set_option maxRecDepth 20000 in
theorem qw_744 : qG (Cond.methodLink RX6 190 yX6_isPart) := ⟨List.mem_append_right _ (List.mem_append_right _ (List.mem_append_right _ (List.mem_append_right _ (List.mem_append_left _ (List.mem_of_getElem? (l := tables_1_4) (i := 227) rfl))))), good_of_word (by decide +kernel)⟩
set_option maxRecDepth 20000 in
theorem qw_745 : qG (Cond.code yX6_isLens cX6_isLens 2 (some .boolean)) := ⟨List.mem_append_right _ (List.mem_append_right _ (List.mem_append_right _ (List.mem_append_right _ (List.mem_append_left _ (List.mem_of_getElem? (l := tables_1_4) (i := 226) rfl))))), good_of_word (by decide +kernel)⟩
theorem qw_746 : qG (Cond.selects RX6 yX6_isLens yX6_isLens) := ⟨List.mem_append_left _ (List.mem_of_getElem? (i := 42) (by decide +kernel)), good_of_word (by decide +kernel)⟩

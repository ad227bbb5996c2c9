/-- a word of the tables that a call may ask for -/
abbrev qG (w : Cond) : Prop := w ∈ lw_tbl ∧ ((w.onTables && w.keeps) = true ∨ ∃ ty, w = .arrayClass ty)
set_option maxRecDepth 20000 in
theorem qw_0 : qG (Cond.fieldLink RX5 45 "BackLenses" "wants" "[I") := ⟨List.mem_append_right _ (List.mem_append_left _ (List.mem_of_getElem? (l := tables_1_1) (i := 196) rfl)), good_of_word (by decide +kernel)⟩
set_option maxRecDepth 20000 in
theorem qw_1 : qG (Cond.arrayClass .int) := ⟨List.mem_append_right _ (List.mem_append_left _ (List.mem_of_getElem? (l := tables_1_1) (i := 50) rfl)), good_of_word (by decide +kernel)⟩
set_option maxRecDepth 20000 in
theorem qw_2 : qG (Cond.initialized RX3) := ⟨List.mem_append_right _ (List.mem_append_left _ (List.mem_of_getElem? (l := tables_1_1) (i := 6) rfl)), good_of_word (by decide +kernel)⟩
set_option maxRecDepth 20000 in
theorem qw_3 : qG (Cond.instantiable RX3 3) := ⟨List.mem_append_right _ (List.mem_append_left _ (List.mem_of_getElem? (l := tables_1_1) (i := 171) rfl)), good_of_word (by decide +kernel)⟩
set_option maxRecDepth 20000 in
theorem qw_4 : qG (Cond.fieldLink RX5 40 "BackLenses" "sheets" "[LBackLenses$Sheet;") := ⟨List.mem_append_right _ (List.mem_append_left _ (List.mem_of_getElem? (l := tables_1_1) (i := 194) rfl)), good_of_word (by decide +kernel)⟩
set_option maxRecDepth 20000 in
theorem qw_5 : qG (Cond.classLink RX5 38 RX3) := ⟨List.mem_append_right _ (List.mem_append_left _ (List.mem_of_getElem? (l := tables_1_1) (i := 169) rfl)), good_of_word (by decide +kernel)⟩
set_option maxRecDepth 20000 in
theorem qw_6 : qG (Cond.fieldLink RX5 34 "BackLenses" "reader" "LBackLenses$Reader;") := ⟨List.mem_append_right _ (List.mem_append_left _ (List.mem_of_getElem? (l := tables_1_1) (i := 192) rfl)), good_of_word (by decide +kernel)⟩
set_option maxRecDepth 20000 in
theorem qw_7 : qG (Cond.initialized RX1) := ⟨List.mem_append_right _ (List.mem_append_left _ (List.mem_of_getElem? (l := tables_1_1) (i := 5) rfl)), good_of_word (by decide +kernel)⟩
set_option maxRecDepth 20000 in
theorem qw_8 : qG (Cond.instantiable RX1 13) := ⟨List.mem_append_right _ (List.mem_append_left _ (List.mem_of_getElem? (l := tables_1_1) (i := 117) rfl)), good_of_word (by decide +kernel)⟩
set_option maxRecDepth 20000 in
theorem qw_9 : qG (Cond.classLink RX5 31 RX1) := ⟨List.mem_append_right _ (List.mem_append_left _ (List.mem_of_getElem? (l := tables_1_1) (i := 116) rfl)), good_of_word (by decide +kernel)⟩
set_option maxRecDepth 20000 in
theorem qw_10 : qG (Cond.fieldLink RX5 27 "BackLenses" "views" "LBackLenses$Views;") := ⟨List.mem_append_right _ (List.mem_append_left _ (List.mem_of_getElem? (l := tables_1_1) (i := 191) rfl)), good_of_word (by decide +kernel)⟩
set_option maxRecDepth 20000 in
theorem qw_11 : qG (Cond.initialized RX4) := ⟨List.mem_append_right _ (List.mem_append_left _ (List.mem_of_getElem? (l := tables_1_1) (i := 4) rfl)), good_of_word (by decide +kernel)⟩
set_option maxRecDepth 20000 in
theorem qw_12 : qG (Cond.instantiable RX4 5) := ⟨List.mem_append_right _ (List.mem_append_left _ (List.mem_of_getElem? (l := tables_1_1) (i := 93) rfl)), good_of_word (by decide +kernel)⟩
set_option maxRecDepth 20000 in
theorem qw_13 : qG (Cond.classLink RX5 24 RX4) := ⟨List.mem_append_right _ (List.mem_append_left _ (List.mem_of_getElem? (l := tables_1_1) (i := 92) rfl)), good_of_word (by decide +kernel)⟩
set_option maxRecDepth 20000 in
theorem qw_14 : qG (Cond.fieldLink RX5 20 "BackLenses" "imageThere" "[Z") := ⟨List.mem_append_right _ (List.mem_append_left _ (List.mem_of_getElem? (l := tables_1_1) (i := 190) rfl)), good_of_word (by decide +kernel)⟩
set_option maxRecDepth 20000 in
theorem qw_15 : qG (Cond.arrayClass .boolean) := ⟨List.mem_append_right _ (List.mem_append_left _ (List.mem_of_getElem? (l := tables_1_1) (i := 115) rfl)), good_of_word (by decide +kernel)⟩
set_option maxRecDepth 20000 in
theorem qw_16 : qG (Cond.fieldLink RX5 16 "BackLenses" "images" "[LBackLenses$Book;") := ⟨List.mem_append_right _ (List.mem_append_left _ (List.mem_of_getElem? (l := tables_1_1) (i := 189) rfl)), good_of_word (by decide +kernel)⟩
set_option maxRecDepth 20000 in
theorem qw_17 : qG (Cond.fieldLink RX5 10 "BackLenses" "book" "LBackLenses$Book;") := ⟨List.mem_append_right _ (List.mem_append_left _ (List.mem_of_getElem? (l := tables_1_1) (i := 188) rfl)), good_of_word (by decide +kernel)⟩
set_option maxRecDepth 20000 in
theorem qw_18 : qG (Cond.initialized RX0) := ⟨List.mem_append_right _ (List.mem_append_left _ (List.mem_of_getElem? (l := tables_1_1) (i := 2) rfl)), good_of_word (by decide +kernel)⟩
set_option maxRecDepth 20000 in
theorem qw_19 : qG (Cond.instantiable RX0 7) := ⟨List.mem_append_right _ (List.mem_append_left _ (List.mem_of_getElem? (l := tables_1_1) (i := 25) rfl)), good_of_word (by decide +kernel)⟩
set_option maxRecDepth 20000 in
theorem qw_20 : qG (Cond.classLink RX5 7 RX0) := ⟨List.mem_append_right _ (List.mem_append_left _ (List.mem_of_getElem? (l := tables_1_1) (i := 24) rfl)), good_of_word (by decide +kernel)⟩
set_option maxRecDepth 20000 in
theorem qw_21 : qG (Cond.code objectInit ⟨#[0xb1]⟩ 1 none) := ⟨List.mem_append_right _ (List.mem_append_left _ (List.mem_of_getElem? (l := tables_1_1) (i := 23) rfl)), good_of_word (by decide +kernel)⟩
set_option maxRecDepth 20000 in
theorem qw_22 : qG (Cond.instanceMethod objectInit) := ⟨List.mem_append_right _ (List.mem_append_left _ (List.mem_of_getElem? (l := tables_1_1) (i := 22) rfl)), good_of_word (by decide +kernel)⟩
set_option maxRecDepth 20000 in
theorem qw_23 : qG (Cond.methodLink RX5 1 objectInit) := ⟨List.mem_append_right _ (List.mem_append_left _ (List.mem_of_getElem? (l := tables_1_1) (i := 21) rfl)), good_of_word (by decide +kernel)⟩
set_option maxRecDepth 20000 in
theorem qw_24 : qG (Cond.code yX4_init cX4_init 1 none) := ⟨List.mem_append_right _ (List.mem_append_left _ (List.mem_of_getElem? (l := tables_1_1) (i := 96) rfl)), good_of_word (by decide +kernel)⟩
set_option maxRecDepth 20000 in
theorem qw_25 : qG (Cond.instanceMethod yX4_init) := ⟨List.mem_append_right _ (List.mem_append_left _ (List.mem_of_getElem? (l := tables_1_1) (i := 95) rfl)), good_of_word (by decide +kernel)⟩
set_option maxRecDepth 20000 in
theorem qw_26 : qG (Cond.methodLink RX5 26 yX4_init) := ⟨List.mem_append_right _ (List.mem_append_left _ (List.mem_of_getElem? (l := tables_1_1) (i := 94) rfl)), good_of_word (by decide +kernel)⟩
set_option maxRecDepth 20000 in
theorem qw_27 : qG (Cond.fieldLink RX2 15 "BackLenses$Rows" "numbers" "[I") := ⟨List.mem_append_right _ (List.mem_append_left _ (List.mem_of_getElem? (l := tables_1_1) (i := 36) rfl)), good_of_word (by decide +kernel)⟩
set_option maxRecDepth 20000 in
theorem qw_28 : qG (Cond.fieldLink RX2 9 "BackLenses$Rows" "room" "I") := ⟨List.mem_append_right _ (List.mem_append_left _ (List.mem_of_getElem? (l := tables_1_1) (i := 37) rfl)), good_of_word (by decide +kernel)⟩
set_option maxRecDepth 20000 in
theorem qw_29 : qG (Cond.methodLink RX2 3 objectInit) := ⟨List.mem_append_right _ (List.mem_append_left _ (List.mem_of_getElem? (l := tables_1_1) (i := 35) rfl)), good_of_word (by decide +kernel)⟩
set_option maxRecDepth 20000 in
theorem qw_30 : qG (Cond.code yX2_init cX2_init 2 none) := ⟨List.mem_append_right _ (List.mem_append_left _ (List.mem_of_getElem? (l := tables_1_1) (i := 34) rfl)), good_of_word (by decide +kernel)⟩
set_option maxRecDepth 20000 in
theorem qw_31 : qG (Cond.instanceMethod yX2_init) := ⟨List.mem_append_right _ (List.mem_append_left _ (List.mem_of_getElem? (l := tables_1_1) (i := 33) rfl)), good_of_word (by decide +kernel)⟩
set_option maxRecDepth 20000 in
theorem qw_32 : qG (Cond.methodLink RX0 27 yX2_init) := ⟨List.mem_append_right _ (List.mem_append_left _ (List.mem_of_getElem? (l := tables_1_1) (i := 32) rfl)), good_of_word (by decide +kernel)⟩
set_option maxRecDepth 20000 in
theorem qw_33 : qG (Cond.fieldLink RX0 37 "BackLenses$Book" "shown" "LBackLenses$Rows;") := ⟨List.mem_append_right _ (List.mem_append_left _ (List.mem_of_getElem? (l := tables_1_1) (i := 74) rfl)), good_of_word (by decide +kernel)⟩
set_option maxRecDepth 20000 in
theorem qw_34 : qG (Cond.fieldLink RX0 34 "BackLenses$Book" "lenses" "LBackLenses$Rows;") := ⟨List.mem_append_right _ (List.mem_append_left _ (List.mem_of_getElem? (l := tables_1_1) (i := 71) rfl)), good_of_word (by decide +kernel)⟩
set_option maxRecDepth 20000 in
theorem qw_35 : qG (Cond.fieldLink RX0 30 "BackLenses$Book" "changes" "LBackLenses$Rows;") := ⟨List.mem_append_right _ (List.mem_append_left _ (List.mem_of_getElem? (l := tables_1_1) (i := 67) rfl)), good_of_word (by decide +kernel)⟩
set_option maxRecDepth 20000 in
theorem qw_36 : qG (Cond.initialized RX2) := ⟨List.mem_append_right _ (List.mem_append_left _ (List.mem_of_getElem? (l := tables_1_1) (i := 3) rfl)), good_of_word (by decide +kernel)⟩
set_option maxRecDepth 20000 in
theorem qw_37 : qG (Cond.instantiable RX2 3) := ⟨List.mem_append_right _ (List.mem_append_left _ (List.mem_of_getElem? (l := tables_1_1) (i := 31) rfl)), good_of_word (by decide +kernel)⟩
set_option maxRecDepth 20000 in
theorem qw_38 : qG (Cond.classLink RX0 25 RX2) := ⟨List.mem_append_right _ (List.mem_append_left _ (List.mem_of_getElem? (l := tables_1_1) (i := 30) rfl)), good_of_word (by decide +kernel)⟩
set_option maxRecDepth 20000 in
theorem qw_39 : qG (Cond.fieldLink RX0 21 "BackLenses$Book" "atFirst" "[I") := ⟨List.mem_append_right _ (List.mem_append_left _ (List.mem_of_getElem? (l := tables_1_1) (i := 63) rfl)), good_of_word (by decide +kernel)⟩
set_option maxRecDepth 20000 in
theorem qw_40 : qG (Cond.fieldLink RX0 18 "BackLenses$Book" "last" "I") := ⟨List.mem_append_right _ (List.mem_append_left _ (List.mem_of_getElem? (l := tables_1_1) (i := 59) rfl)), good_of_word (by decide +kernel)⟩
set_option maxRecDepth 20000 in
theorem qw_41 : qG (Cond.fieldLink RX0 15 "BackLenses$Book" "high" "I") := ⟨List.mem_append_right _ (List.mem_append_left _ (List.mem_of_getElem? (l := tables_1_1) (i := 55) rfl)), good_of_word (by decide +kernel)⟩
set_option maxRecDepth 20000 in
theorem qw_42 : qG (Cond.fieldLink RX0 9 "BackLenses$Book" "wide" "I") := ⟨List.mem_append_right _ (List.mem_append_left _ (List.mem_of_getElem? (l := tables_1_1) (i := 51) rfl)), good_of_word (by decide +kernel)⟩
set_option maxRecDepth 20000 in
theorem qw_43 : qG (Cond.methodLink RX0 3 objectInit) := ⟨List.mem_append_right _ (List.mem_append_left _ (List.mem_of_getElem? (l := tables_1_1) (i := 29) rfl)), good_of_word (by decide +kernel)⟩
set_option maxRecDepth 20000 in
theorem qw_44 : qG (Cond.code yX0_init cX0_init 1 none) := ⟨List.mem_append_right _ (List.mem_append_left _ (List.mem_of_getElem? (l := tables_1_1) (i := 28) rfl)), good_of_word (by decide +kernel)⟩
set_option maxRecDepth 20000 in
theorem qw_45 : qG (Cond.instanceMethod yX0_init) := ⟨List.mem_append_right _ (List.mem_append_left _ (List.mem_of_getElem? (l := tables_1_1) (i := 27) rfl)), good_of_word (by decide +kernel)⟩
set_option maxRecDepth 20000 in
theorem qw_46 : qG (Cond.methodLink RX5 9 yX0_init) := ⟨List.mem_append_right _ (List.mem_append_left _ (List.mem_of_getElem? (l := tables_1_1) (i := 26) rfl)), good_of_word (by decide +kernel)⟩
set_option maxRecDepth 20000 in
theorem qw_47 : qG (Cond.fieldLink RX5 49 "BackLenses" "tally" "[I") := ⟨List.mem_append_right _ (List.mem_append_left _ (List.mem_of_getElem? (l := tables_1_1) (i := 197) rfl)), good_of_word (by decide +kernel)⟩
set_option maxRecDepth 20000 in
theorem qw_48 : qG (Cond.fieldLink RX3 15 "BackLenses$Sheet" "size" "I") := ⟨List.mem_append_right _ (List.mem_append_left _ (List.mem_of_getElem? (l := tables_1_1) (i := 179) rfl)), good_of_word (by decide +kernel)⟩
set_option maxRecDepth 20000 in
theorem qw_49 : qG (Cond.fieldLink RX3 9 "BackLenses$Sheet" "cells" "[I") := ⟨List.mem_append_right _ (List.mem_append_left _ (List.mem_of_getElem? (l := tables_1_1) (i := 176) rfl)), good_of_word (by decide +kernel)⟩
set_option maxRecDepth 20000 in
theorem qw_50 : qG (Cond.methodLink RX3 3 objectInit) := ⟨List.mem_append_right _ (List.mem_append_left _ (List.mem_of_getElem? (l := tables_1_1) (i := 175) rfl)), good_of_word (by decide +kernel)⟩
set_option maxRecDepth 20000 in
theorem qw_51 : qG (Cond.code yX3_init cX3_init 1 none) := ⟨List.mem_append_right _ (List.mem_append_left _ (List.mem_of_getElem? (l := tables_1_1) (i := 174) rfl)), good_of_word (by decide +kernel)⟩
set_option maxRecDepth 20000 in
theorem qw_52 : qG (Cond.instanceMethod yX3_init) := ⟨List.mem_append_right _ (List.mem_append_left _ (List.mem_of_getElem? (l := tables_1_1) (i := 173) rfl)), good_of_word (by decide +kernel)⟩
set_option maxRecDepth 20000 in
theorem qw_53 : qG (Cond.methodLink RX5 44 yX3_init) := ⟨List.mem_append_right _ (List.mem_append_left _ (List.mem_of_getElem? (l := tables_1_1) (i := 172) rfl)), good_of_word (by decide +kernel)⟩
set_option maxRecDepth 20000 in
theorem qw_54 : qG (Cond.methodLink RX1 11 yX0_init) := ⟨List.mem_append_right _ (List.mem_append_left _ (List.mem_of_getElem? (l := tables_1_1) (i := 123) rfl)), good_of_word (by decide +kernel)⟩
set_option maxRecDepth 20000 in
theorem qw_55 : qG (Cond.fieldLink RX1 18 "BackLenses$Reader" "bytes" "[B") := ⟨List.mem_append_right _ (List.mem_append_left _ (List.mem_of_getElem? (l := tables_1_1) (i := 126) rfl)), good_of_word (by decide +kernel)⟩
set_option maxRecDepth 20000 in
theorem qw_56 : qG (Cond.arrayClass .byte) := ⟨List.mem_append_right _ (List.mem_append_left _ (List.mem_of_getElem? (l := tables_1_1) (i := 168) rfl)), good_of_word (by decide +kernel)⟩
set_option maxRecDepth 20000 in
theorem qw_57 : qG (Cond.fieldLink RX1 12 "BackLenses$Reader" "target" "LBackLenses$Book;") := ⟨List.mem_append_right _ (List.mem_append_left _ (List.mem_of_getElem? (l := tables_1_1) (i := 124) rfl)), good_of_word (by decide +kernel)⟩
set_option maxRecDepth 20000 in
theorem qw_58 : qG (Cond.classLink RX1 9 RX0) := ⟨List.mem_append_right _ (List.mem_append_left _ (List.mem_of_getElem? (l := tables_1_1) (i := 122) rfl)), good_of_word (by decide +kernel)⟩
set_option maxRecDepth 20000 in
theorem qw_59 : qG (Cond.methodLink RX1 3 objectInit) := ⟨List.mem_append_right _ (List.mem_append_left _ (List.mem_of_getElem? (l := tables_1_1) (i := 121) rfl)), good_of_word (by decide +kernel)⟩
set_option maxRecDepth 20000 in
theorem qw_60 : qG (Cond.code yX1_init cX1_init 1 none) := ⟨List.mem_append_right _ (List.mem_append_left _ (List.mem_of_getElem? (l := tables_1_1) (i := 120) rfl)), good_of_word (by decide +kernel)⟩
set_option maxRecDepth 20000 in
theorem qw_61 : qG (Cond.instanceMethod yX1_init) := ⟨List.mem_append_right _ (List.mem_append_left _ (List.mem_of_getElem? (l := tables_1_1) (i := 119) rfl)), good_of_word (by decide +kernel)⟩
set_option maxRecDepth 20000 in
theorem qw_62 : qG (Cond.methodLink RX5 33 yX1_init) := ⟨List.mem_append_right _ (List.mem_append_left _ (List.mem_of_getElem? (l := tables_1_1) (i := 118) rfl)), good_of_word (by decide +kernel)⟩
set_option maxRecDepth 20000 in
theorem qw_63 : qG (Cond.fieldLink RX4 18 "BackLenses$Views" "stale" "Z") := ⟨List.mem_append_right _ (List.mem_append_left _ (List.mem_of_getElem? (l := tables_1_1) (i := 102) rfl)), good_of_word (by decide +kernel)⟩
set_option maxRecDepth 20000 in
theorem qw_64 : qG (Cond.fieldLink RX4 15 "BackLenses$Views" "sights" "[I") := ⟨List.mem_append_right _ (List.mem_append_left _ (List.mem_of_getElem? (l := tables_1_1) (i := 99) rfl)), good_of_word (by decide +kernel)⟩
set_option maxRecDepth 20000 in
theorem qw_65 : qG (Cond.fieldLink RX4 9 "BackLenses$Views" "marks" "[I") := ⟨List.mem_append_right _ (List.mem_append_left _ (List.mem_of_getElem? (l := tables_1_1) (i := 98) rfl)), good_of_word (by decide +kernel)⟩
set_option maxRecDepth 20000 in
theorem qw_66 : qG (Cond.methodLink RX4 3 objectInit) := ⟨List.mem_append_right _ (List.mem_append_left _ (List.mem_of_getElem? (l := tables_1_1) (i := 97) rfl)), good_of_word (by decide +kernel)⟩
set_option maxRecDepth 20000 in
theorem qw_67 : qG (Cond.code yX5_init cX5_init 2 none) := ⟨List.mem_append_right _ (List.mem_append_left _ (List.mem_of_getElem? (l := tables_1_1) (i := 20) rfl)), good_of_word (by decide +kernel)⟩
set_option maxRecDepth 20000 in
theorem qw_68 : qG (Cond.fieldLink RX1 22 "BackLenses$Reader" "length" "I") := ⟨List.mem_append_right _ (List.mem_append_left _ (List.mem_of_getElem? (l := tables_1_1) (i := 127) rfl)), good_of_word (by decide +kernel)⟩
set_option maxRecDepth 20000 in
theorem qw_69 : qG (Cond.code yX1_put cX1_put 2 (some .int)) := ⟨List.mem_append_right _ (List.mem_append_left _ (List.mem_of_getElem? (l := tables_1_1) (i := 226) rfl)), good_of_word (by decide +kernel)⟩
set_option maxRecDepth 20000 in
theorem qw_70 : qG (Cond.selects RX1 yX1_put yX1_put) := ⟨List.mem_append_right _ (List.mem_append_left _ (List.mem_of_getElem? (l := tables_1_1) (i := 225) rfl)), good_of_word (by decide +kernel)⟩
set_option maxRecDepth 20000 in
theorem qw_71 : qG (Cond.instanceMethod yX1_put) := ⟨List.mem_append_right _ (List.mem_append_left _ (List.mem_of_getElem? (l := tables_1_1) (i := 224) rfl)), good_of_word (by decide +kernel)⟩
set_option maxRecDepth 20000 in
theorem qw_72 : qG (Cond.methodLink RX5 52 yX1_put) := ⟨List.mem_append_right _ (List.mem_append_left _ (List.mem_of_getElem? (l := tables_1_1) (i := 223) rfl)), good_of_word (by decide +kernel)⟩
set_option maxRecDepth 20000 in
theorem qw_73 : qG (Cond.code yX5_feed cX5_feed 2 (some .int)) := ⟨List.mem_append_right _ (List.mem_append_left _ (List.mem_of_getElem? (l := tables_1_1) (i := 222) rfl)), good_of_word (by decide +kernel)⟩
set_option maxRecDepth 20000 in
theorem qw_74 : qG (Cond.initialized RX5) := ⟨List.mem_append_right _ (List.mem_append_left _ (List.mem_of_getElem? (l := tables_1_1) (i := 1) rfl)), good_of_word (by decide +kernel)⟩
set_option maxRecDepth 20000 in
theorem qw_75 : qG (Cond.selects RX5 yX5_feed yX5_feed) := ⟨List.mem_append_right _ (List.mem_append_left _ (List.mem_of_getElem? (l := tables_1_1) (i := 221) rfl)), good_of_word (by decide +kernel)⟩
set_option maxRecDepth 20000 in
theorem qw_76 : qG (Cond.instanceMethod yX5_feed) := ⟨List.mem_append_right _ (List.mem_append_left _ (List.mem_of_getElem? (l := tables_1_1) (i := 220) rfl)), good_of_word (by decide +kernel)⟩
set_option maxRecDepth 20000 in
theorem qw_77 : qG (Cond.methodLink RL 13 yX5_feed) := ⟨List.mem_append_right _ (List.mem_append_left _ (List.mem_of_getElem? (l := tables_1_1) (i := 219) rfl)), good_of_word (by decide +kernel)⟩
set_option maxRecDepth 20000 in
theorem qw_78 : qG (Cond.code yX1_shorten cX1_shorten 3 (some .int)) := ⟨List.mem_append_right _ (List.mem_append_left _ (List.mem_of_getElem? (l := tables_1_1) (i := 234) rfl)), good_of_word (by decide +kernel)⟩
set_option maxRecDepth 20000 in
theorem qw_79 : qG (Cond.selects RX1 yX1_shorten yX1_shorten) := ⟨List.mem_append_right _ (List.mem_append_left _ (List.mem_of_getElem? (l := tables_1_1) (i := 233) rfl)), good_of_word (by decide +kernel)⟩
set_option maxRecDepth 20000 in
theorem qw_80 : qG (Cond.instanceMethod yX1_shorten) := ⟨List.mem_append_right _ (List.mem_append_left _ (List.mem_of_getElem? (l := tables_1_1) (i := 232) rfl)), good_of_word (by decide +kernel)⟩
set_option maxRecDepth 20000 in
theorem qw_81 : qG (Cond.methodLink RX5 56 yX1_shorten) := ⟨List.mem_append_right _ (List.mem_append_left _ (List.mem_of_getElem? (l := tables_1_1) (i := 231) rfl)), good_of_word (by decide +kernel)⟩
set_option maxRecDepth 20000 in
theorem qw_82 : qG (Cond.code yX5_end cX5_end 2 (some .int)) := ⟨List.mem_append_right _ (List.mem_append_left _ (List.mem_of_getElem? (l := tables_1_1) (i := 230) rfl)), good_of_word (by decide +kernel)⟩
set_option maxRecDepth 20000 in
theorem qw_83 : qG (Cond.selects RX5 yX5_end yX5_end) := ⟨List.mem_append_right _ (List.mem_append_left _ (List.mem_of_getElem? (l := tables_1_1) (i := 229) rfl)), good_of_word (by decide +kernel)⟩
set_option maxRecDepth 20000 in
theorem qw_84 : qG (Cond.instanceMethod yX5_end) := ⟨List.mem_append_right _ (List.mem_append_left _ (List.mem_of_getElem? (l := tables_1_1) (i := 228) rfl)), good_of_word (by decide +kernel)⟩
set_option maxRecDepth 20000 in
theorem qw_85 : qG (Cond.methodLink RL 18 yX5_end) := ⟨List.mem_append_right _ (List.mem_append_left _ (List.mem_of_getElem? (l := tables_1_1) (i := 227) rfl)), good_of_word (by decide +kernel)⟩
set_option maxRecDepth 20000 in
theorem qw_86 : qG (Cond.selects RX0 yX0_empty yX0_empty) := ⟨List.mem_append_right _ (List.mem_append_right _ (List.mem_append_left _ (List.mem_of_getElem? (l := tables_1_2) (i := 5) rfl))), good_of_word (by decide +kernel)⟩
set_option maxRecDepth 20000 in
theorem qw_87 : qG (Cond.instanceMethod yX0_empty) := ⟨List.mem_append_right _ (List.mem_append_right _ (List.mem_append_left _ (List.mem_of_getElem? (l := tables_1_2) (i := 4) rfl))), good_of_word (by decide +kernel)⟩
set_option maxRecDepth 20000 in
theorem qw_88 : qG (Cond.methodLink RX1 48 yX0_empty) := ⟨List.mem_append_right _ (List.mem_append_right _ (List.mem_append_left _ (List.mem_of_getElem? (l := tables_1_2) (i := 3) rfl))), good_of_word (by decide +kernel)⟩
set_option maxRecDepth 20000 in
theorem qw_89 : qG (Cond.fieldLink RX1 55 "BackLenses$Reader" "kind" "I") := ⟨List.mem_append_right _ (List.mem_append_left _ (List.mem_of_getElem? (l := tables_1_1) (i := 130) rfl)), good_of_word (by decide +kernel)⟩
set_option maxRecDepth 20000 in
theorem qw_90 : qG (Cond.fieldLink RX1 45 "BackLenses$Reader" "cellsTold" "I") := ⟨List.mem_append_right _ (List.mem_append_left _ (List.mem_of_getElem? (l := tables_1_1) (i := 140) rfl)), good_of_word (by decide +kernel)⟩
set_option maxRecDepth 20000 in
theorem qw_91 : qG (Cond.fieldLink RX1 42 "BackLenses$Reader" "lastTold" "Z") := ⟨List.mem_append_right _ (List.mem_append_left _ (List.mem_of_getElem? (l := tables_1_1) (i := 139) rfl)), good_of_word (by decide +kernel)⟩
set_option maxRecDepth 20000 in
theorem qw_92 : qG (Cond.fieldLink RX1 38 "BackLenses$Reader" "houseTold" "Z") := ⟨List.mem_append_right _ (List.mem_append_left _ (List.mem_of_getElem? (l := tables_1_1) (i := 138) rfl)), good_of_word (by decide +kernel)⟩
set_option maxRecDepth 20000 in
theorem qw_93 : qG (Cond.fieldLink RX1 35 "BackLenses$Reader" "lines" "I") := ⟨List.mem_append_right _ (List.mem_append_left _ (List.mem_of_getElem? (l := tables_1_1) (i := 136) rfl)), good_of_word (by decide +kernel)⟩
set_option maxRecDepth 20000 in
theorem qw_94 : qG (Cond.fieldLink RX1 32 "BackLenses$Reader" "place" "I") := ⟨List.mem_append_right _ (List.mem_append_left _ (List.mem_of_getElem? (l := tables_1_1) (i := 134) rfl)), good_of_word (by decide +kernel)⟩
set_option maxRecDepth 20000 in
theorem qw_95 : qG (Cond.fieldLink RX1 29 "BackLenses$Reader" "found" "I") := ⟨List.mem_append_right _ (List.mem_append_left _ (List.mem_of_getElem? (l := tables_1_1) (i := 133) rfl)), good_of_word (by decide +kernel)⟩
set_option maxRecDepth 20000 in
theorem qw_96 : qG (Cond.fieldLink RX1 26 "BackLenses$Reader" "next" "I") := ⟨List.mem_append_right _ (List.mem_append_left _ (List.mem_of_getElem? (l := tables_1_1) (i := 129) rfl)), good_of_word (by decide +kernel)⟩
set_option maxRecDepth 20000 in
theorem qw_97 : qG (Cond.code yX1_readTape cX1_readTape 3 (some .int)) := ⟨List.mem_append_right _ (List.mem_append_right _ (List.mem_append_left _ (List.mem_of_getElem? (l := tables_1_2) (i := 2) rfl))), good_of_word (by decide +kernel)⟩
set_option maxRecDepth 20000 in
theorem qw_98 : qG (Cond.selects RX1 yX1_readTape yX1_readTape) := ⟨List.mem_append_right _ (List.mem_append_right _ (List.mem_append_left _ (List.mem_of_getElem? (l := tables_1_2) (i := 1) rfl))), good_of_word (by decide +kernel)⟩
set_option maxRecDepth 20000 in
theorem qw_99 : qG (Cond.instanceMethod yX1_readTape) := ⟨List.mem_append_right _ (List.mem_append_right _ (List.mem_append_left _ (List.mem_of_getElem? (l := tables_1_2) (i := 0) rfl))), good_of_word (by decide +kernel)⟩
set_option maxRecDepth 20000 in
theorem qw_100 : qG (Cond.methodLink RX5 59 yX1_readTape) := ⟨List.mem_append_right _ (List.mem_append_left _ (List.mem_of_getElem? (l := tables_1_1) (i := 239) rfl)), good_of_word (by decide +kernel)⟩
set_option maxRecDepth 20000 in
theorem qw_101 : qG (Cond.fieldLink RX5 63 "BackLenses" "textFault" "I") := ⟨List.mem_append_right _ (List.mem_append_left _ (List.mem_of_getElem? (l := tables_1_1) (i := 193) rfl)), good_of_word (by decide +kernel)⟩
set_option maxRecDepth 20000 in
theorem qw_102 : qG (Cond.static yX1_isFigure) := ⟨List.mem_append_right _ (List.mem_append_right _ (List.mem_append_left _ (List.mem_of_getElem? (l := tables_1_2) (i := 18) rfl))), good_of_word (by decide +kernel)⟩
set_option maxRecDepth 20000 in
theorem qw_103 : qG (Cond.methodLink RX1 158 yX1_isFigure) := ⟨List.mem_append_right _ (List.mem_append_right _ (List.mem_append_left _ (List.mem_of_getElem? (l := tables_1_2) (i := 17) rfl))), good_of_word (by decide +kernel)⟩
set_option maxRecDepth 20000 in
theorem qw_104 : qG (Cond.code yX1_isLetter cX1_isLetter 1 (some .boolean)) := ⟨List.mem_append_right _ (List.mem_append_right _ (List.mem_append_left _ (List.mem_of_getElem? (l := tables_1_2) (i := 16) rfl))), good_of_word (by decide +kernel)⟩
set_option maxRecDepth 20000 in
theorem qw_105 : qG (Cond.static yX1_isLetter) := ⟨List.mem_append_right _ (List.mem_append_right _ (List.mem_append_left _ (List.mem_of_getElem? (l := tables_1_2) (i := 15) rfl))), good_of_word (by decide +kernel)⟩
set_option maxRecDepth 20000 in
theorem qw_106 : qG (Cond.methodLink RX1 155 yX1_isLetter) := ⟨List.mem_append_right _ (List.mem_append_right _ (List.mem_append_left _ (List.mem_of_getElem? (l := tables_1_2) (i := 14) rfl))), good_of_word (by decide +kernel)⟩
set_option maxRecDepth 20000 in
theorem qw_107 : qG (Cond.fieldLink RX1 130 "BackLenses$Reader" "value" "I") := ⟨List.mem_append_right _ (List.mem_append_left _ (List.mem_of_getElem? (l := tables_1_1) (i := 132) rfl)), good_of_word (by decide +kernel)⟩
set_option maxRecDepth 20000 in
theorem qw_108 : qG (Cond.fieldLink RX1 95 "BackLenses$Reader" "start" "I") := ⟨List.mem_append_right _ (List.mem_append_left _ (List.mem_of_getElem? (l := tables_1_1) (i := 131) rfl)), good_of_word (by decide +kernel)⟩
set_option maxRecDepth 20000 in
theorem qw_109 : qG (Cond.code yX1_takeToken cX1_takeToken 1 (some .boolean)) := ⟨List.mem_append_right _ (List.mem_append_right _ (List.mem_append_left _ (List.mem_of_getElem? (l := tables_1_2) (i := 13) rfl))), good_of_word (by decide +kernel)⟩
theorem qw_110 : qG (Cond.selects RX1 yX1_takeToken yX1_takeToken) := ⟨List.mem_append_left _ (List.mem_of_getElem? (i := 0) (by decide +kernel)), good_of_word (by decide +kernel)⟩
set_option maxRecDepth 20000 in
theorem qw_111 : qG (Cond.instanceMethod yX1_takeToken) := ⟨List.mem_append_right _ (List.mem_append_right _ (List.mem_append_left _ (List.mem_of_getElem? (l := tables_1_2) (i := 12) rfl))), good_of_word (by decide +kernel)⟩
set_option maxRecDepth 20000 in
theorem qw_112 : qG (Cond.methodLink RX1 51 yX1_takeToken) := ⟨List.mem_append_right _ (List.mem_append_right _ (List.mem_append_left _ (List.mem_of_getElem? (l := tables_1_2) (i := 10) rfl))), good_of_word (by decide +kernel)⟩
set_option maxRecDepth 20000 in
theorem qw_113 : qG (Cond.code yJ7_fill_53178 cJ7_fill_53178 4 none) := ⟨List.mem_append_right _ (List.mem_append_right _ (List.mem_append_left _ (List.mem_of_getElem? (l := tables_1_2) (i := 9) rfl))), good_of_word (by decide +kernel)⟩
set_option maxRecDepth 20000 in
theorem qw_114 : qG (Cond.initialized RJ7) := ⟨List.mem_append_right _ (List.mem_append_left _ (List.mem_of_getElem? (l := tables_1_1) (i := 8) rfl)), good_of_word (by decide +kernel)⟩
set_option maxRecDepth 20000 in
theorem qw_115 : qG (Cond.static yJ7_fill_53178) := ⟨List.mem_append_right _ (List.mem_append_right _ (List.mem_append_left _ (List.mem_of_getElem? (l := tables_1_2) (i := 8) rfl))), good_of_word (by decide +kernel)⟩
set_option maxRecDepth 20000 in
theorem qw_116 : qG (Cond.methodLink RX0 40 yJ7_fill_53178) := ⟨List.mem_append_right _ (List.mem_append_right _ (List.mem_append_left _ (List.mem_of_getElem? (l := tables_1_2) (i := 7) rfl))), good_of_word (by decide +kernel)⟩
set_option maxRecDepth 20000 in
theorem qw_117 : qG (Cond.code yX0_empty cX0_empty 1 none) := ⟨List.mem_append_right _ (List.mem_append_right _ (List.mem_append_left _ (List.mem_of_getElem? (l := tables_1_2) (i := 6) rfl))), good_of_word (by decide +kernel)⟩
set_option maxRecDepth 20000 in
theorem qw_118 : qG (Cond.fieldLink RJ0 38 "java/lang/String" "COMPACT_STRINGS" "Z") := ⟨List.mem_append_right _ (List.mem_append_right _ (List.mem_append_left _ (List.mem_of_getElem? (l := tables_1_2) (i := 41) rfl))), good_of_word (by decide +kernel)⟩
set_option maxRecDepth 20000 in
theorem qw_119 : qG (Cond.code yJ0_coder_7d493 cJ0_coder_7d493 1 (some .byte)) := ⟨List.mem_append_right _ (List.mem_append_right _ (List.mem_append_left _ (List.mem_of_getElem? (l := tables_1_2) (i := 40) rfl))), good_of_word (by decide +kernel)⟩
set_option maxRecDepth 20000 in
theorem qw_120 : qG (Cond.selects RJ0 yJ0_coder_7d493 yJ0_coder_7d493) := ⟨List.mem_append_right _ (List.mem_append_right _ (List.mem_append_left _ (List.mem_of_getElem? (l := tables_1_2) (i := 39) rfl))), good_of_word (by decide +kernel)⟩
set_option maxRecDepth 20000 in
theorem qw_121 : qG (Cond.instanceMethod yJ0_coder_7d493) := ⟨List.mem_append_right _ (List.mem_append_right _ (List.mem_append_left _ (List.mem_of_getElem? (l := tables_1_2) (i := 38) rfl))), good_of_word (by decide +kernel)⟩
set_option maxRecDepth 20000 in
theorem qw_122 : qG (Cond.methodLink RJ0 335 yJ0_coder_7d493) := ⟨List.mem_append_right _ (List.mem_append_right _ (List.mem_append_left _ (List.mem_of_getElem? (l := tables_1_2) (i := 37) rfl))), good_of_word (by decide +kernel)⟩
set_option maxRecDepth 20000 in
theorem qw_123 : qG (Cond.fieldLink RJ0 9 "java/lang/String" "value" "[B") := ⟨List.mem_append_right _ (List.mem_append_right _ (List.mem_append_right _ (List.mem_append_right _ (List.mem_append_right _ (List.mem_of_getElem? (l := tables_1_5) (i := 222) rfl))))), good_of_word (by decide +kernel)⟩
set_option maxRecDepth 20000 in
theorem qw_124 : qG (Cond.code yJ0_length_8abf5 cJ0_length_8abf5 1 (some .int)) := ⟨List.mem_append_right _ (List.mem_append_right _ (List.mem_append_left _ (List.mem_of_getElem? (l := tables_1_2) (i := 36) rfl))), good_of_word (by decide +kernel)⟩
set_option maxRecDepth 20000 in
theorem qw_125 : qG (Cond.initialized RJ0) := ⟨List.mem_append_right _ (List.mem_append_left _ (List.mem_of_getElem? (l := tables_1_1) (i := 9) rfl)), good_of_word (by decide +kernel)⟩
set_option maxRecDepth 20000 in
theorem qw_126 : qG (Cond.selects RJ0 yJ0_length_8abf5 yJ0_length_8abf5) := ⟨List.mem_append_right _ (List.mem_append_right _ (List.mem_append_left _ (List.mem_of_getElem? (l := tables_1_2) (i := 35) rfl))), good_of_word (by decide +kernel)⟩
set_option maxRecDepth 20000 in
theorem qw_127 : qG (Cond.instanceMethod yJ0_length_8abf5) := ⟨List.mem_append_right _ (List.mem_append_right _ (List.mem_append_left _ (List.mem_of_getElem? (l := tables_1_2) (i := 34) rfl))), good_of_word (by decide +kernel)⟩
set_option maxRecDepth 20000 in
theorem qw_128 : qG (Cond.methodLink RX1 161 yJ0_length_8abf5) := ⟨List.mem_append_right _ (List.mem_append_right _ (List.mem_append_left _ (List.mem_of_getElem? (l := tables_1_2) (i := 33) rfl))), good_of_word (by decide +kernel)⟩
set_option maxRecDepth 20000 in
theorem qw_129 : qG (Cond.code yX1_isName cX1_isName 3 (some .boolean)) := ⟨List.mem_append_right _ (List.mem_append_right _ (List.mem_append_left _ (List.mem_of_getElem? (l := tables_1_2) (i := 32) rfl))), good_of_word (by decide +kernel)⟩
theorem qw_130 : qG (Cond.selects RX1 yX1_isName yX1_isName) := ⟨List.mem_append_left _ (List.mem_of_getElem? (i := 3) (by decide +kernel)), good_of_word (by decide +kernel)⟩
set_option maxRecDepth 20000 in
theorem qw_131 : qG (Cond.instanceMethod yX1_isName) := ⟨List.mem_append_right _ (List.mem_append_right _ (List.mem_append_left _ (List.mem_of_getElem? (l := tables_1_2) (i := 31) rfl))), good_of_word (by decide +kernel)⟩
set_option maxRecDepth 20000 in
theorem qw_132 : qG (Cond.methodLink RX1 100 yX1_isName) := ⟨List.mem_append_right _ (List.mem_append_right _ (List.mem_append_left _ (List.mem_of_getElem? (l := tables_1_2) (i := 29) rfl))), good_of_word (by decide +kernel)⟩
set_option maxRecDepth 20000 in
theorem qw_133 : qG (Cond.code yX1_takeLine cX1_takeLine 1 (some .boolean)) := ⟨List.mem_append_right _ (List.mem_append_right _ (List.mem_append_left _ (List.mem_of_getElem? (l := tables_1_2) (i := 27) rfl))), good_of_word (by decide +kernel)⟩
theorem qw_134 : qG (Cond.selects RX1 yX1_takeLine yX1_takeLine) := ⟨List.mem_append_left _ (List.mem_of_getElem? (i := 2) (by decide +kernel)), good_of_word (by decide +kernel)⟩
set_option maxRecDepth 20000 in
theorem qw_135 : qG (Cond.instanceMethod yX1_takeLine) := ⟨List.mem_append_right _ (List.mem_append_right _ (List.mem_append_left _ (List.mem_of_getElem? (l := tables_1_2) (i := 26) rfl))), good_of_word (by decide +kernel)⟩
set_option maxRecDepth 20000 in
theorem qw_136 : qG (Cond.methodLink RX1 58 yX1_takeLine) := ⟨List.mem_append_right _ (List.mem_append_right _ (List.mem_append_left _ (List.mem_of_getElem? (l := tables_1_2) (i := 24) rfl))), good_of_word (by decide +kernel)⟩
set_option maxRecDepth 20000 in
theorem qw_137 : qG (Cond.code yX1_refuse cX1_refuse 3 (some .boolean)) := ⟨List.mem_append_right _ (List.mem_append_right _ (List.mem_append_left _ (List.mem_of_getElem? (l := tables_1_2) (i := 23) rfl))), good_of_word (by decide +kernel)⟩
theorem qw_138 : qG (Cond.selects RX1 yX1_refuse yX1_refuse) := ⟨List.mem_append_left _ (List.mem_of_getElem? (i := 1) (by decide +kernel)), good_of_word (by decide +kernel)⟩
set_option maxRecDepth 20000 in
theorem qw_139 : qG (Cond.instanceMethod yX1_refuse) := ⟨List.mem_append_right _ (List.mem_append_right _ (List.mem_append_left _ (List.mem_of_getElem? (l := tables_1_2) (i := 22) rfl))), good_of_word (by decide +kernel)⟩
set_option maxRecDepth 20000 in
theorem qw_140 : qG (Cond.methodLink RX1 64 yX1_refuse) := ⟨List.mem_append_right _ (List.mem_append_right _ (List.mem_append_left _ (List.mem_of_getElem? (l := tables_1_2) (i := 20) rfl))), good_of_word (by decide +kernel)⟩
set_option maxRecDepth 20000 in
theorem qw_141 : qG (Cond.code yX1_isFigure cX1_isFigure 1 (some .boolean)) := ⟨List.mem_append_right _ (List.mem_append_right _ (List.mem_append_left _ (List.mem_of_getElem? (l := tables_1_2) (i := 19) rfl))), good_of_word (by decide +kernel)⟩
set_option maxRecDepth 20000 in
theorem qw_142 : qG (Cond.initialized RJ2) := ⟨List.mem_append_right _ (List.mem_append_left _ (List.mem_of_getElem? (l := tables_1_1) (i := 12) rfl)), good_of_word (by decide +kernel)⟩
set_option maxRecDepth 20000 in
theorem qw_143 : qG (Cond.static yJ2_charAt_3b067) := ⟨List.mem_append_right _ (List.mem_append_right _ (List.mem_append_left _ (List.mem_of_getElem? (l := tables_1_2) (i := 63) rfl))), good_of_word (by decide +kernel)⟩
set_option maxRecDepth 20000 in
theorem qw_144 : qG (Cond.methodLink RJ0 498 yJ2_charAt_3b067) := ⟨List.mem_append_right _ (List.mem_append_right _ (List.mem_append_left _ (List.mem_of_getElem? (l := tables_1_2) (i := 62) rfl))), good_of_word (by decide +kernel)⟩
set_option maxRecDepth 20000 in
theorem qw_145 : qG (Cond.code yJ3_checkIndex_8e157 cJ3_checkIndex_8e157 3 (some .int)) := ⟨List.mem_append_right _ (List.mem_append_right _ (List.mem_append_left _ (List.mem_of_getElem? (l := tables_1_2) (i := 61) rfl))), good_of_word (by decide +kernel)⟩
set_option maxRecDepth 20000 in
theorem qw_146 : qG (Cond.initialized RJ3) := ⟨List.mem_append_right _ (List.mem_append_left _ (List.mem_of_getElem? (l := tables_1_1) (i := 11) rfl)), good_of_word (by decide +kernel)⟩
set_option maxRecDepth 20000 in
theorem qw_147 : qG (Cond.static yJ3_checkIndex_8e157) := ⟨List.mem_append_right _ (List.mem_append_right _ (List.mem_append_left _ (List.mem_of_getElem? (l := tables_1_2) (i := 60) rfl))), good_of_word (by decide +kernel)⟩
set_option maxRecDepth 20000 in
theorem qw_148 : qG (Cond.methodLink RJ0 1059 yJ3_checkIndex_8e157) := ⟨List.mem_append_right _ (List.mem_append_right _ (List.mem_append_left _ (List.mem_of_getElem? (l := tables_1_2) (i := 59) rfl))), good_of_word (by decide +kernel)⟩
set_option maxRecDepth 20000 in
theorem qw_149 : qG (Cond.fieldLink RJ0 1053 "jdk/internal/util/Preconditions" "SIOOBE_FORMATTER" "Ljava/util/function/BiFunction;") := ⟨List.mem_append_right _ (List.mem_append_right _ (List.mem_append_left _ (List.mem_of_getElem? (l := tables_1_2) (i := 57) rfl))), good_of_word (by decide +kernel)⟩
set_option maxRecDepth 20000 in
theorem qw_150 : qG (Cond.code yJ0_checkIndex_df160 cJ0_checkIndex_df160 2 none) := ⟨List.mem_append_right _ (List.mem_append_right _ (List.mem_append_left _ (List.mem_of_getElem? (l := tables_1_2) (i := 56) rfl))), good_of_word (by decide +kernel)⟩
set_option maxRecDepth 20000 in
theorem qw_151 : qG (Cond.static yJ0_checkIndex_df160) := ⟨List.mem_append_right _ (List.mem_append_right _ (List.mem_append_left _ (List.mem_of_getElem? (l := tables_1_2) (i := 55) rfl))), good_of_word (by decide +kernel)⟩
set_option maxRecDepth 20000 in
theorem qw_152 : qG (Cond.methodLink RJ1 9 yJ0_checkIndex_df160) := ⟨List.mem_append_right _ (List.mem_append_right _ (List.mem_append_left _ (List.mem_of_getElem? (l := tables_1_2) (i := 54) rfl))), good_of_word (by decide +kernel)⟩
set_option maxRecDepth 20000 in
theorem qw_153 : qG (Cond.code yJ1_charAt_3b067 cJ1_charAt_3b067 2 (some .char)) := ⟨List.mem_append_right _ (List.mem_append_right _ (List.mem_append_left _ (List.mem_of_getElem? (l := tables_1_2) (i := 53) rfl))), good_of_word (by decide +kernel)⟩
set_option maxRecDepth 20000 in
theorem qw_154 : qG (Cond.initialized RJ1) := ⟨List.mem_append_right _ (List.mem_append_left _ (List.mem_of_getElem? (l := tables_1_1) (i := 10) rfl)), good_of_word (by decide +kernel)⟩
set_option maxRecDepth 20000 in
theorem qw_155 : qG (Cond.static yJ1_charAt_3b067) := ⟨List.mem_append_right _ (List.mem_append_right _ (List.mem_append_left _ (List.mem_of_getElem? (l := tables_1_2) (i := 52) rfl))), good_of_word (by decide +kernel)⟩
set_option maxRecDepth 20000 in
theorem qw_156 : qG (Cond.methodLink RJ0 495 yJ1_charAt_3b067) := ⟨List.mem_append_right _ (List.mem_append_right _ (List.mem_append_left _ (List.mem_of_getElem? (l := tables_1_2) (i := 51) rfl))), good_of_word (by decide +kernel)⟩
set_option maxRecDepth 20000 in
theorem qw_157 : qG (Cond.code yJ0_isLatin1_aae02 cJ0_isLatin1_aae02 1 (some .boolean)) := ⟨List.mem_append_right _ (List.mem_append_right _ (List.mem_append_left _ (List.mem_of_getElem? (l := tables_1_2) (i := 50) rfl))), good_of_word (by decide +kernel)⟩
set_option maxRecDepth 20000 in
theorem qw_158 : qG (Cond.selects RJ0 yJ0_isLatin1_aae02 yJ0_isLatin1_aae02) := ⟨List.mem_append_right _ (List.mem_append_right _ (List.mem_append_left _ (List.mem_of_getElem? (l := tables_1_2) (i := 49) rfl))), good_of_word (by decide +kernel)⟩
set_option maxRecDepth 20000 in
theorem qw_159 : qG (Cond.instanceMethod yJ0_isLatin1_aae02) := ⟨List.mem_append_right _ (List.mem_append_right _ (List.mem_append_left _ (List.mem_of_getElem? (l := tables_1_2) (i := 48) rfl))), good_of_word (by decide +kernel)⟩
set_option maxRecDepth 20000 in
theorem qw_160 : qG (Cond.methodLink RJ0 492 yJ0_isLatin1_aae02) := ⟨List.mem_append_right _ (List.mem_append_right _ (List.mem_append_left _ (List.mem_of_getElem? (l := tables_1_2) (i := 47) rfl))), good_of_word (by decide +kernel)⟩
set_option maxRecDepth 20000 in
theorem qw_161 : qG (Cond.code yJ0_charAt_5068e cJ0_charAt_5068e 2 (some .char)) := ⟨List.mem_append_right _ (List.mem_append_right _ (List.mem_append_left _ (List.mem_of_getElem? (l := tables_1_2) (i := 46) rfl))), good_of_word (by decide +kernel)⟩
set_option maxRecDepth 20000 in
theorem qw_162 : qG (Cond.selects RJ0 yJ0_charAt_5068e yJ0_charAt_5068e) := ⟨List.mem_append_right _ (List.mem_append_right _ (List.mem_append_left _ (List.mem_of_getElem? (l := tables_1_2) (i := 45) rfl))), good_of_word (by decide +kernel)⟩
set_option maxRecDepth 20000 in
theorem qw_163 : qG (Cond.instanceMethod yJ0_charAt_5068e) := ⟨List.mem_append_right _ (List.mem_append_right _ (List.mem_append_left _ (List.mem_of_getElem? (l := tables_1_2) (i := 44) rfl))), good_of_word (by decide +kernel)⟩
set_option maxRecDepth 20000 in
theorem qw_164 : qG (Cond.methodLink RX1 165 yJ0_charAt_5068e) := ⟨List.mem_append_right _ (List.mem_append_right _ (List.mem_append_left _ (List.mem_of_getElem? (l := tables_1_2) (i := 43) rfl))), good_of_word (by decide +kernel)⟩
set_option maxRecDepth 20000 in
theorem qw_165 : qG (Cond.fieldLink RJ0 15 "java/lang/String" "coder" "B") := ⟨List.mem_append_right _ (List.mem_append_right _ (List.mem_append_right _ (List.mem_append_right _ (List.mem_append_right _ (List.mem_of_getElem? (l := tables_1_5) (i := 223) rfl))))), good_of_word (by decide +kernel)⟩
set_option maxRecDepth 20000 in
theorem qw_166 : qG (Cond.instanceMethod yX1_isNumberWithin) := ⟨List.mem_append_right _ (List.mem_append_right _ (List.mem_append_left _ (List.mem_of_getElem? (l := tables_1_2) (i := 91) rfl))), good_of_word (by decide +kernel)⟩
set_option maxRecDepth 20000 in
theorem qw_167 : qG (Cond.methodLink RX1 152 yX1_isNumberWithin) := ⟨List.mem_append_right _ (List.mem_append_right _ (List.mem_append_left _ (List.mem_of_getElem? (l := tables_1_2) (i := 89) rfl))), good_of_word (by decide +kernel)⟩
set_option maxRecDepth 20000 in
theorem qw_168 : qG (Cond.code yX1_takeNumber cX1_takeNumber 3 (some .boolean)) := ⟨List.mem_append_right _ (List.mem_append_right _ (List.mem_append_left _ (List.mem_of_getElem? (l := tables_1_2) (i := 88) rfl))), good_of_word (by decide +kernel)⟩
theorem qw_169 : qG (Cond.selects RX1 yX1_takeNumber yX1_takeNumber) := ⟨List.mem_append_left _ (List.mem_of_getElem? (i := 5) (by decide +kernel)), good_of_word (by decide +kernel)⟩
set_option maxRecDepth 20000 in
theorem qw_170 : qG (Cond.instanceMethod yX1_takeNumber) := ⟨List.mem_append_right _ (List.mem_append_right _ (List.mem_append_left _ (List.mem_of_getElem? (l := tables_1_2) (i := 87) rfl))), good_of_word (by decide +kernel)⟩
set_option maxRecDepth 20000 in
theorem qw_171 : qG (Cond.methodLink RX1 127 yX1_takeNumber) := ⟨List.mem_append_right _ (List.mem_append_right _ (List.mem_append_left _ (List.mem_of_getElem? (l := tables_1_2) (i := 85) rfl))), good_of_word (by decide +kernel)⟩
set_option maxRecDepth 20000 in
theorem qw_172 : qG (Cond.code yX1_takeHouse cX1_takeHouse 1 (some .boolean)) := ⟨List.mem_append_right _ (List.mem_append_right _ (List.mem_append_left _ (List.mem_of_getElem? (l := tables_1_2) (i := 84) rfl))), good_of_word (by decide +kernel)⟩
theorem qw_173 : qG (Cond.selects RX1 yX1_takeHouse yX1_takeHouse) := ⟨List.mem_append_left _ (List.mem_of_getElem? (i := 4) (by decide +kernel)), good_of_word (by decide +kernel)⟩
set_option maxRecDepth 20000 in
theorem qw_174 : qG (Cond.instanceMethod yX1_takeHouse) := ⟨List.mem_append_right _ (List.mem_append_right _ (List.mem_append_left _ (List.mem_of_getElem? (l := tables_1_2) (i := 83) rfl))), good_of_word (by decide +kernel)⟩
set_option maxRecDepth 20000 in
theorem qw_175 : qG (Cond.methodLink RX1 104 yX1_takeHouse) := ⟨List.mem_append_right _ (List.mem_append_right _ (List.mem_append_left _ (List.mem_of_getElem? (l := tables_1_2) (i := 81) rfl))), good_of_word (by decide +kernel)⟩
set_option maxRecDepth 20000 in
theorem qw_176 : qG (Cond.fieldLink RJ2 63 "java/lang/StringUTF16" "LO_BYTE_SHIFT" "I") := ⟨List.mem_append_right _ (List.mem_append_right _ (List.mem_append_left _ (List.mem_of_getElem? (l := tables_1_2) (i := 79) rfl))), good_of_word (by decide +kernel)⟩
set_option maxRecDepth 20000 in
theorem qw_177 : qG (Cond.fieldLink RJ2 59 "java/lang/StringUTF16" "HI_BYTE_SHIFT" "I") := ⟨List.mem_append_right _ (List.mem_append_right _ (List.mem_append_left _ (List.mem_of_getElem? (l := tables_1_2) (i := 77) rfl))), good_of_word (by decide +kernel)⟩
set_option maxRecDepth 20000 in
theorem qw_178 : qG (Cond.fieldLink RJ2 44 "java/lang/StringUTF16" "$assertionsDisabled" "Z") := ⟨List.mem_append_right _ (List.mem_append_right _ (List.mem_append_left _ (List.mem_of_getElem? (l := tables_1_2) (i := 75) rfl))), good_of_word (by decide +kernel)⟩
set_option maxRecDepth 20000 in
theorem qw_179 : qG (Cond.code yJ2_getChar_3b067 cJ2_getChar_3b067 2 (some .char)) := ⟨List.mem_append_right _ (List.mem_append_right _ (List.mem_append_left _ (List.mem_of_getElem? (l := tables_1_2) (i := 74) rfl))), good_of_word (by decide +kernel)⟩
set_option maxRecDepth 20000 in
theorem qw_180 : qG (Cond.static yJ2_getChar_3b067) := ⟨List.mem_append_right _ (List.mem_append_right _ (List.mem_append_left _ (List.mem_of_getElem? (l := tables_1_2) (i := 73) rfl))), good_of_word (by decide +kernel)⟩
set_option maxRecDepth 20000 in
theorem qw_181 : qG (Cond.methodLink RJ2 71 yJ2_getChar_3b067) := ⟨List.mem_append_right _ (List.mem_append_right _ (List.mem_append_left _ (List.mem_of_getElem? (l := tables_1_2) (i := 72) rfl))), good_of_word (by decide +kernel)⟩
set_option maxRecDepth 20000 in
theorem qw_182 : qG (Cond.methodLink RJ2 414 yJ0_checkIndex_df160) := ⟨List.mem_append_right _ (List.mem_append_right _ (List.mem_append_left _ (List.mem_of_getElem? (l := tables_1_2) (i := 71) rfl))), good_of_word (by decide +kernel)⟩
set_option maxRecDepth 20000 in
theorem qw_183 : qG (Cond.code yJ2_length_9d52b cJ2_length_9d52b 1 (some .int)) := ⟨List.mem_append_right _ (List.mem_append_right _ (List.mem_append_left _ (List.mem_of_getElem? (l := tables_1_2) (i := 70) rfl))), good_of_word (by decide +kernel)⟩
set_option maxRecDepth 20000 in
theorem qw_184 : qG (Cond.static yJ2_length_9d52b) := ⟨List.mem_append_right _ (List.mem_append_right _ (List.mem_append_left _ (List.mem_of_getElem? (l := tables_1_2) (i := 69) rfl))), good_of_word (by decide +kernel)⟩
set_option maxRecDepth 20000 in
theorem qw_185 : qG (Cond.methodLink RJ2 48 yJ2_length_9d52b) := ⟨List.mem_append_right _ (List.mem_append_right _ (List.mem_append_left _ (List.mem_of_getElem? (l := tables_1_2) (i := 68) rfl))), good_of_word (by decide +kernel)⟩
set_option maxRecDepth 20000 in
theorem qw_186 : qG (Cond.code yJ2_checkIndex_2214a cJ2_checkIndex_2214a 2 none) := ⟨List.mem_append_right _ (List.mem_append_right _ (List.mem_append_left _ (List.mem_of_getElem? (l := tables_1_2) (i := 67) rfl))), good_of_word (by decide +kernel)⟩
set_option maxRecDepth 20000 in
theorem qw_187 : qG (Cond.static yJ2_checkIndex_2214a) := ⟨List.mem_append_right _ (List.mem_append_right _ (List.mem_append_left _ (List.mem_of_getElem? (l := tables_1_2) (i := 66) rfl))), good_of_word (by decide +kernel)⟩
set_option maxRecDepth 20000 in
theorem qw_188 : qG (Cond.methodLink RJ2 67 yJ2_checkIndex_2214a) := ⟨List.mem_append_right _ (List.mem_append_right _ (List.mem_append_left _ (List.mem_of_getElem? (l := tables_1_2) (i := 65) rfl))), good_of_word (by decide +kernel)⟩
set_option maxRecDepth 20000 in
theorem qw_189 : qG (Cond.code yJ2_charAt_3b067 cJ2_charAt_3b067 2 (some .char)) := ⟨List.mem_append_right _ (List.mem_append_right _ (List.mem_append_left _ (List.mem_of_getElem? (l := tables_1_2) (i := 64) rfl))), good_of_word (by decide +kernel)⟩
set_option maxRecDepth 20000 in
theorem qw_190 : qG (Cond.fieldLink RX2 19 "BackLenses$Rows" "size" "I") := ⟨List.mem_append_right _ (List.mem_append_left _ (List.mem_of_getElem? (l := tables_1_1) (i := 38) rfl)), good_of_word (by decide +kernel)⟩
set_option maxRecDepth 20000 in
theorem qw_191 : qG (Cond.code yX2_add cX2_add 4 (some .int)) := ⟨List.mem_append_right _ (List.mem_append_right _ (List.mem_append_left _ (List.mem_of_getElem? (l := tables_1_2) (i := 115) rfl))), good_of_word (by decide +kernel)⟩
set_option maxRecDepth 20000 in
theorem qw_192 : qG (Cond.selects RX2 yX2_add yX2_add) := ⟨List.mem_append_right _ (List.mem_append_right _ (List.mem_append_left _ (List.mem_of_getElem? (l := tables_1_2) (i := 114) rfl))), good_of_word (by decide +kernel)⟩
set_option maxRecDepth 20000 in
theorem qw_193 : qG (Cond.instanceMethod yX2_add) := ⟨List.mem_append_right _ (List.mem_append_right _ (List.mem_append_left _ (List.mem_of_getElem? (l := tables_1_2) (i := 113) rfl))), good_of_word (by decide +kernel)⟩
set_option maxRecDepth 20000 in
theorem qw_194 : qG (Cond.methodLink RX1 148 yX2_add) := ⟨List.mem_append_right _ (List.mem_append_right _ (List.mem_append_left _ (List.mem_of_getElem? (l := tables_1_2) (i := 112) rfl))), good_of_word (by decide +kernel)⟩
set_option maxRecDepth 20000 in
theorem qw_195 : qG (Cond.code yX1_takeTurn cX1_takeTurn 3 (some .boolean)) := ⟨List.mem_append_right _ (List.mem_append_right _ (List.mem_append_left _ (List.mem_of_getElem? (l := tables_1_2) (i := 111) rfl))), good_of_word (by decide +kernel)⟩
theorem qw_196 : qG (Cond.selects RX1 yX1_takeTurn yX1_takeTurn) := ⟨List.mem_append_left _ (List.mem_of_getElem? (i := 10) (by decide +kernel)), good_of_word (by decide +kernel)⟩
set_option maxRecDepth 20000 in
theorem qw_197 : qG (Cond.instanceMethod yX1_takeTurn) := ⟨List.mem_append_right _ (List.mem_append_right _ (List.mem_append_left _ (List.mem_of_getElem? (l := tables_1_2) (i := 110) rfl))), good_of_word (by decide +kernel)⟩
set_option maxRecDepth 20000 in
theorem qw_198 : qG (Cond.methodLink RX1 119 yX1_takeTurn) := ⟨List.mem_append_right _ (List.mem_append_right _ (List.mem_append_left _ (List.mem_of_getElem? (l := tables_1_2) (i := 108) rfl))), good_of_word (by decide +kernel)⟩
set_option maxRecDepth 20000 in
theorem qw_199 : qG (Cond.code yX1_takeCell cX1_takeCell 2 (some .boolean)) := ⟨List.mem_append_right _ (List.mem_append_right _ (List.mem_append_left _ (List.mem_of_getElem? (l := tables_1_2) (i := 106) rfl))), good_of_word (by decide +kernel)⟩
theorem qw_200 : qG (Cond.selects RX1 yX1_takeCell yX1_takeCell) := ⟨List.mem_append_left _ (List.mem_of_getElem? (i := 9) (by decide +kernel)), good_of_word (by decide +kernel)⟩
set_option maxRecDepth 20000 in
theorem qw_201 : qG (Cond.instanceMethod yX1_takeCell) := ⟨List.mem_append_right _ (List.mem_append_right _ (List.mem_append_left _ (List.mem_of_getElem? (l := tables_1_2) (i := 105) rfl))), good_of_word (by decide +kernel)⟩
set_option maxRecDepth 20000 in
theorem qw_202 : qG (Cond.methodLink RX1 114 yX1_takeCell) := ⟨List.mem_append_right _ (List.mem_append_right _ (List.mem_append_left _ (List.mem_of_getElem? (l := tables_1_2) (i := 103) rfl))), good_of_word (by decide +kernel)⟩
set_option maxRecDepth 20000 in
theorem qw_203 : qG (Cond.code yX1_takeLast cX1_takeLast 1 (some .boolean)) := ⟨List.mem_append_right _ (List.mem_append_right _ (List.mem_append_left _ (List.mem_of_getElem? (l := tables_1_2) (i := 101) rfl))), good_of_word (by decide +kernel)⟩
theorem qw_204 : qG (Cond.selects RX1 yX1_takeLast yX1_takeLast) := ⟨List.mem_append_left _ (List.mem_of_getElem? (i := 8) (by decide +kernel)), good_of_word (by decide +kernel)⟩
set_option maxRecDepth 20000 in
theorem qw_205 : qG (Cond.instanceMethod yX1_takeLast) := ⟨List.mem_append_right _ (List.mem_append_right _ (List.mem_append_left _ (List.mem_of_getElem? (l := tables_1_2) (i := 100) rfl))), good_of_word (by decide +kernel)⟩
set_option maxRecDepth 20000 in
theorem qw_206 : qG (Cond.methodLink RX1 109 yX1_takeLast) := ⟨List.mem_append_right _ (List.mem_append_right _ (List.mem_append_left _ (List.mem_of_getElem? (l := tables_1_2) (i := 98) rfl))), good_of_word (by decide +kernel)⟩
set_option maxRecDepth 20000 in
theorem qw_207 : qG (Cond.code yX1_takeSemicolon cX1_takeSemicolon 1 (some .boolean)) := ⟨List.mem_append_right _ (List.mem_append_right _ (List.mem_append_left _ (List.mem_of_getElem? (l := tables_1_2) (i := 96) rfl))), good_of_word (by decide +kernel)⟩
theorem qw_208 : qG (Cond.selects RX1 yX1_takeSemicolon yX1_takeSemicolon) := ⟨List.mem_append_left _ (List.mem_of_getElem? (i := 7) (by decide +kernel)), good_of_word (by decide +kernel)⟩
set_option maxRecDepth 20000 in
theorem qw_209 : qG (Cond.instanceMethod yX1_takeSemicolon) := ⟨List.mem_append_right _ (List.mem_append_right _ (List.mem_append_left _ (List.mem_of_getElem? (l := tables_1_2) (i := 95) rfl))), good_of_word (by decide +kernel)⟩
set_option maxRecDepth 20000 in
theorem qw_210 : qG (Cond.methodLink RX1 139 yX1_takeSemicolon) := ⟨List.mem_append_right _ (List.mem_append_right _ (List.mem_append_left _ (List.mem_of_getElem? (l := tables_1_2) (i := 93) rfl))), good_of_word (by decide +kernel)⟩
set_option maxRecDepth 20000 in
theorem qw_211 : qG (Cond.code yX1_isNumberWithin cX1_isNumberWithin 3 (some .boolean)) := ⟨List.mem_append_right _ (List.mem_append_right _ (List.mem_append_left _ (List.mem_of_getElem? (l := tables_1_2) (i := 92) rfl))), good_of_word (by decide +kernel)⟩
theorem qw_212 : qG (Cond.selects RX1 yX1_isNumberWithin yX1_isNumberWithin) := ⟨List.mem_append_left _ (List.mem_of_getElem? (i := 6) (by decide +kernel)), good_of_word (by decide +kernel)⟩
set_option maxRecDepth 20000 in
theorem qw_213 : qG (Cond.instanceMethod yX0_hasCell) := ⟨List.mem_append_right _ (List.mem_append_right _ (List.mem_append_left _ (List.mem_of_getElem? (l := tables_1_2) (i := 138) rfl))), good_of_word (by decide +kernel)⟩
set_option maxRecDepth 20000 in
theorem qw_214 : qG (Cond.methodLink RX1 89 yX0_hasCell) := ⟨List.mem_append_right _ (List.mem_append_right _ (List.mem_append_left _ (List.mem_of_getElem? (l := tables_1_2) (i := 137) rfl))), good_of_word (by decide +kernel)⟩
set_option maxRecDepth 20000 in
theorem qw_215 : qG (Cond.code yX0_hasDay cX0_hasDay 2 (some .boolean)) := ⟨List.mem_append_right _ (List.mem_append_right _ (List.mem_append_left _ (List.mem_of_getElem? (l := tables_1_2) (i := 136) rfl))), good_of_word (by decide +kernel)⟩
set_option maxRecDepth 20000 in
theorem qw_216 : qG (Cond.selects RX0 yX0_hasDay yX0_hasDay) := ⟨List.mem_append_right _ (List.mem_append_right _ (List.mem_append_left _ (List.mem_of_getElem? (l := tables_1_2) (i := 135) rfl))), good_of_word (by decide +kernel)⟩
set_option maxRecDepth 20000 in
theorem qw_217 : qG (Cond.instanceMethod yX0_hasDay) := ⟨List.mem_append_right _ (List.mem_append_right _ (List.mem_append_left _ (List.mem_of_getElem? (l := tables_1_2) (i := 134) rfl))), good_of_word (by decide +kernel)⟩
set_option maxRecDepth 20000 in
theorem qw_218 : qG (Cond.methodLink RX1 85 yX0_hasDay) := ⟨List.mem_append_right _ (List.mem_append_right _ (List.mem_append_left _ (List.mem_of_getElem? (l := tables_1_2) (i := 133) rfl))), good_of_word (by decide +kernel)⟩
set_option maxRecDepth 20000 in
theorem qw_219 : qG (Cond.code yX2_number cX2_number 3 (some .int)) := ⟨List.mem_append_right _ (List.mem_append_right _ (List.mem_append_left _ (List.mem_of_getElem? (l := tables_1_2) (i := 132) rfl))), good_of_word (by decide +kernel)⟩
set_option maxRecDepth 20000 in
theorem qw_220 : qG (Cond.selects RX2 yX2_number yX2_number) := ⟨List.mem_append_right _ (List.mem_append_right _ (List.mem_append_left _ (List.mem_of_getElem? (l := tables_1_2) (i := 131) rfl))), good_of_word (by decide +kernel)⟩
set_option maxRecDepth 20000 in
theorem qw_221 : qG (Cond.instanceMethod yX2_number) := ⟨List.mem_append_right _ (List.mem_append_right _ (List.mem_append_left _ (List.mem_of_getElem? (l := tables_1_2) (i := 130) rfl))), good_of_word (by decide +kernel)⟩
set_option maxRecDepth 20000 in
theorem qw_222 : qG (Cond.methodLink RX1 81 yX2_number) := ⟨List.mem_append_right _ (List.mem_append_right _ (List.mem_append_left _ (List.mem_of_getElem? (l := tables_1_2) (i := 129) rfl))), good_of_word (by decide +kernel)⟩
set_option maxRecDepth 20000 in
theorem qw_223 : qG (Cond.code yX0_cells cX0_cells 1 (some .int)) := ⟨List.mem_append_right _ (List.mem_append_right _ (List.mem_append_left _ (List.mem_of_getElem? (l := tables_1_2) (i := 128) rfl))), good_of_word (by decide +kernel)⟩
set_option maxRecDepth 20000 in
theorem qw_224 : qG (Cond.selects RX0 yX0_cells yX0_cells) := ⟨List.mem_append_right _ (List.mem_append_right _ (List.mem_append_left _ (List.mem_of_getElem? (l := tables_1_2) (i := 127) rfl))), good_of_word (by decide +kernel)⟩
set_option maxRecDepth 20000 in
theorem qw_225 : qG (Cond.instanceMethod yX0_cells) := ⟨List.mem_append_right _ (List.mem_append_right _ (List.mem_append_left _ (List.mem_of_getElem? (l := tables_1_2) (i := 126) rfl))), good_of_word (by decide +kernel)⟩
set_option maxRecDepth 20000 in
theorem qw_226 : qG (Cond.methodLink RX1 68 yX0_cells) := ⟨List.mem_append_right _ (List.mem_append_right _ (List.mem_append_left _ (List.mem_of_getElem? (l := tables_1_2) (i := 125) rfl))), good_of_word (by decide +kernel)⟩
set_option maxRecDepth 20000 in
theorem qw_227 : qG (Cond.code yX1_allIsThere cX1_allIsThere 3 (some .boolean)) := ⟨List.mem_append_right _ (List.mem_append_right _ (List.mem_append_left _ (List.mem_of_getElem? (l := tables_1_2) (i := 124) rfl))), good_of_word (by decide +kernel)⟩
theorem qw_228 : qG (Cond.selects RX1 yX1_allIsThere yX1_allIsThere) := ⟨List.mem_append_left _ (List.mem_of_getElem? (i := 12) (by decide +kernel)), good_of_word (by decide +kernel)⟩
set_option maxRecDepth 20000 in
theorem qw_229 : qG (Cond.instanceMethod yX1_allIsThere) := ⟨List.mem_append_right _ (List.mem_append_right _ (List.mem_append_left _ (List.mem_of_getElem? (l := tables_1_2) (i := 123) rfl))), good_of_word (by decide +kernel)⟩
set_option maxRecDepth 20000 in
theorem qw_230 : qG (Cond.methodLink RX1 61 yX1_allIsThere) := ⟨List.mem_append_right _ (List.mem_append_right _ (List.mem_append_left _ (List.mem_of_getElem? (l := tables_1_2) (i := 121) rfl))), good_of_word (by decide +kernel)⟩
set_option maxRecDepth 20000 in
theorem qw_231 : qG (Cond.code yX1_takeLens cX1_takeLens 4 (some .boolean)) := ⟨List.mem_append_right _ (List.mem_append_right _ (List.mem_append_left _ (List.mem_of_getElem? (l := tables_1_2) (i := 120) rfl))), good_of_word (by decide +kernel)⟩
theorem qw_232 : qG (Cond.selects RX1 yX1_takeLens yX1_takeLens) := ⟨List.mem_append_left _ (List.mem_of_getElem? (i := 11) (by decide +kernel)), good_of_word (by decide +kernel)⟩
set_option maxRecDepth 20000 in
theorem qw_233 : qG (Cond.instanceMethod yX1_takeLens) := ⟨List.mem_append_right _ (List.mem_append_right _ (List.mem_append_left _ (List.mem_of_getElem? (l := tables_1_2) (i := 119) rfl))), good_of_word (by decide +kernel)⟩
set_option maxRecDepth 20000 in
theorem qw_234 : qG (Cond.methodLink RX1 124 yX1_takeLens) := ⟨List.mem_append_right _ (List.mem_append_right _ (List.mem_append_left _ (List.mem_of_getElem? (l := tables_1_2) (i := 117) rfl))), good_of_word (by decide +kernel)⟩
set_option maxRecDepth 20000 in
theorem qw_235 : qG (Cond.methodLink RX2 22 arraycopyName) := ⟨List.mem_append_right _ (List.mem_append_right _ (List.mem_append_left _ (List.mem_of_getElem? (l := tables_1_2) (i := 152) rfl))), good_of_word (by decide +kernel)⟩
set_option maxRecDepth 20000 in
theorem qw_236 : qG (Cond.code yX2_become cX2_become 2 none) := ⟨List.mem_append_right _ (List.mem_append_right _ (List.mem_append_left _ (List.mem_of_getElem? (l := tables_1_2) (i := 151) rfl))), good_of_word (by decide +kernel)⟩
set_option maxRecDepth 20000 in
theorem qw_237 : qG (Cond.selects RX2 yX2_become yX2_become) := ⟨List.mem_append_right _ (List.mem_append_right _ (List.mem_append_left _ (List.mem_of_getElem? (l := tables_1_2) (i := 150) rfl))), good_of_word (by decide +kernel)⟩
set_option maxRecDepth 20000 in
theorem qw_238 : qG (Cond.instanceMethod yX2_become) := ⟨List.mem_append_right _ (List.mem_append_right _ (List.mem_append_left _ (List.mem_of_getElem? (l := tables_1_2) (i := 149) rfl))), good_of_word (by decide +kernel)⟩
set_option maxRecDepth 20000 in
theorem qw_239 : qG (Cond.methodLink RX0 55 yX2_become) := ⟨List.mem_append_right _ (List.mem_append_right _ (List.mem_append_left _ (List.mem_of_getElem? (l := tables_1_2) (i := 148) rfl))), good_of_word (by decide +kernel)⟩
set_option maxRecDepth 20000 in
theorem qw_240 : qG (Cond.initialized "java/lang/System") := ⟨List.mem_append_right _ (List.mem_append_left _ (List.mem_of_getElem? (l := tables_1_1) (i := 13) rfl)), good_of_word (by decide +kernel)⟩
set_option maxRecDepth 20000 in
theorem qw_241 : qG (Cond.static arraycopyName) := ⟨List.mem_append_right _ (List.mem_append_right _ (List.mem_append_left _ (List.mem_of_getElem? (l := tables_1_2) (i := 146) rfl))), good_of_word (by decide +kernel)⟩
set_option maxRecDepth 20000 in
theorem qw_242 : qG (Cond.native arraycopyName) := ⟨List.mem_append_right _ (List.mem_append_right _ (List.mem_append_left _ (List.mem_of_getElem? (l := tables_1_2) (i := 147) rfl))), good_of_word (by decide +kernel)⟩
set_option maxRecDepth 20000 in
theorem qw_243 : qG (Cond.methodLink RX0 49 arraycopyName) := ⟨List.mem_append_right _ (List.mem_append_right _ (List.mem_append_left _ (List.mem_of_getElem? (l := tables_1_2) (i := 145) rfl))), good_of_word (by decide +kernel)⟩
set_option maxRecDepth 20000 in
theorem qw_244 : qG (Cond.code yX0_become cX0_become 2 none) := ⟨List.mem_append_right _ (List.mem_append_right _ (List.mem_append_left _ (List.mem_of_getElem? (l := tables_1_2) (i := 144) rfl))), good_of_word (by decide +kernel)⟩
set_option maxRecDepth 20000 in
theorem qw_245 : qG (Cond.selects RX0 yX0_become yX0_become) := ⟨List.mem_append_right _ (List.mem_append_right _ (List.mem_append_left _ (List.mem_of_getElem? (l := tables_1_2) (i := 143) rfl))), good_of_word (by decide +kernel)⟩
set_option maxRecDepth 20000 in
theorem qw_246 : qG (Cond.instanceMethod yX0_become) := ⟨List.mem_append_right _ (List.mem_append_right _ (List.mem_append_left _ (List.mem_of_getElem? (l := tables_1_2) (i := 142) rfl))), good_of_word (by decide +kernel)⟩
set_option maxRecDepth 20000 in
theorem qw_247 : qG (Cond.methodLink RX5 73 yX0_become) := ⟨List.mem_append_right _ (List.mem_append_right _ (List.mem_append_left _ (List.mem_of_getElem? (l := tables_1_2) (i := 141) rfl))), good_of_word (by decide +kernel)⟩
set_option maxRecDepth 20000 in
theorem qw_248 : qG (Cond.code yX0_hasCell cX0_hasCell 2 (some .boolean)) := ⟨List.mem_append_right _ (List.mem_append_right _ (List.mem_append_left _ (List.mem_of_getElem? (l := tables_1_2) (i := 140) rfl))), good_of_word (by decide +kernel)⟩

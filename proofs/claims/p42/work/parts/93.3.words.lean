set_option maxRecDepth 20000 in
theorem qw_747 : qG (Cond.instanceMethod yX6_isLens) := ⟨List.mem_append_right _ (List.mem_append_right _ (List.mem_append_right _ (List.mem_append_right _ (List.mem_append_left _ (List.mem_of_getElem? (l := tables_1_4) (i := 225) rfl))))), good_of_word (by decide +kernel)⟩
set_option maxRecDepth 20000 in
theorem qw_748 : qG (Cond.methodLink RX6 187 yX6_isLens) := ⟨List.mem_append_right _ (List.mem_append_right _ (List.mem_append_right _ (List.mem_append_right _ (List.mem_append_left _ (List.mem_of_getElem? (l := tables_1_4) (i := 223) rfl))))), good_of_word (by decide +kernel)⟩
set_option maxRecDepth 20000 in
theorem qw_749 : qG (Cond.code yX6_lens cX6_lens 3 (some .int)) := ⟨List.mem_append_right _ (List.mem_append_right _ (List.mem_append_right _ (List.mem_append_right _ (List.mem_append_left _ (List.mem_of_getElem? (l := tables_1_4) (i := 222) rfl))))), good_of_word (by decide +kernel)⟩
set_option maxRecDepth 20000 in
theorem qw_750 : qG (Cond.selects RX6 yX6_lens yX6_lens) := ⟨List.mem_append_right _ (List.mem_append_right _ (List.mem_append_right _ (List.mem_append_right _ (List.mem_append_left _ (List.mem_of_getElem? (l := tables_1_4) (i := 221) rfl))))), good_of_word (by decide +kernel)⟩
set_option maxRecDepth 20000 in
theorem qw_751 : qG (Cond.instanceMethod yX6_lens) := ⟨List.mem_append_right _ (List.mem_append_right _ (List.mem_append_right _ (List.mem_append_right _ (List.mem_append_left _ (List.mem_of_getElem? (l := tables_1_4) (i := 220) rfl))))), good_of_word (by decide +kernel)⟩
set_option maxRecDepth 20000 in
theorem qw_752 : qG (Cond.methodLink RL 47 yX6_lens) := ⟨List.mem_append_right _ (List.mem_append_right _ (List.mem_append_right _ (List.mem_append_right _ (List.mem_append_left _ (List.mem_of_getElem? (l := tables_1_4) (i := 219) rfl))))), good_of_word (by decide +kernel)⟩
set_option maxRecDepth 20000 in
theorem qw_753 : qG (Cond.code yX6_becomes cX6_becomes 4 (some .int)) := ⟨List.mem_append_right _ (List.mem_append_right _ (List.mem_append_right _ (List.mem_append_right _ (List.mem_append_right _ (List.mem_of_getElem? (l := tables_1_5) (i := 1) rfl))))), good_of_word (by decide +kernel)⟩
theorem qw_754 : qG (Cond.selects RX6 yX6_becomes yX6_becomes) := ⟨List.mem_append_left _ (List.mem_of_getElem? (i := 43) (by decide +kernel)), good_of_word (by decide +kernel)⟩
set_option maxRecDepth 20000 in
theorem qw_755 : qG (Cond.instanceMethod yX6_becomes) := ⟨List.mem_append_right _ (List.mem_append_right _ (List.mem_append_right _ (List.mem_append_right _ (List.mem_append_right _ (List.mem_of_getElem? (l := tables_1_5) (i := 0) rfl))))), good_of_word (by decide +kernel)⟩
set_option maxRecDepth 20000 in
theorem qw_756 : qG (Cond.methodLink RX6 196 yX6_becomes) := ⟨List.mem_append_right _ (List.mem_append_right _ (List.mem_append_right _ (List.mem_append_right _ (List.mem_append_left _ (List.mem_of_getElem? (l := tables_1_4) (i := 238) rfl))))), good_of_word (by decide +kernel)⟩
set_option maxRecDepth 20000 in
theorem qw_757 : qG (Cond.constantLong RX6 161 (5)) := ⟨List.mem_append_right _ (List.mem_append_right _ (List.mem_append_right _ (List.mem_append_right _ (List.mem_append_left _ (List.mem_of_getElem? (l := tables_1_4) (i := 237) rfl))))), good_of_word (by decide +kernel)⟩
set_option maxRecDepth 20000 in
theorem qw_758 : qG (Cond.code yX6_isMark cX6_isMark 1 (some .boolean)) := ⟨List.mem_append_right _ (List.mem_append_right _ (List.mem_append_right _ (List.mem_append_right _ (List.mem_append_left _ (List.mem_of_getElem? (l := tables_1_4) (i := 236) rfl))))), good_of_word (by decide +kernel)⟩
set_option maxRecDepth 20000 in
theorem qw_759 : qG (Cond.static yX6_isMark) := ⟨List.mem_append_right _ (List.mem_append_right _ (List.mem_append_right _ (List.mem_append_right _ (List.mem_append_left _ (List.mem_of_getElem? (l := tables_1_4) (i := 235) rfl))))), good_of_word (by decide +kernel)⟩
set_option maxRecDepth 20000 in
theorem qw_760 : qG (Cond.methodLink RX6 193 yX6_isMark) := ⟨List.mem_append_right _ (List.mem_append_right _ (List.mem_append_right _ (List.mem_append_right _ (List.mem_append_left _ (List.mem_of_getElem? (l := tables_1_4) (i := 234) rfl))))), good_of_word (by decide +kernel)⟩
set_option maxRecDepth 20000 in
theorem qw_761 : qG (Cond.code yX6_first cX6_first 3 (some .int)) := ⟨List.mem_append_right _ (List.mem_append_right _ (List.mem_append_right _ (List.mem_append_right _ (List.mem_append_left _ (List.mem_of_getElem? (l := tables_1_4) (i := 233) rfl))))), good_of_word (by decide +kernel)⟩
set_option maxRecDepth 20000 in
theorem qw_762 : qG (Cond.selects RX6 yX6_first yX6_first) := ⟨List.mem_append_right _ (List.mem_append_right _ (List.mem_append_right _ (List.mem_append_right _ (List.mem_append_left _ (List.mem_of_getElem? (l := tables_1_4) (i := 232) rfl))))), good_of_word (by decide +kernel)⟩
set_option maxRecDepth 20000 in
theorem qw_763 : qG (Cond.instanceMethod yX6_first) := ⟨List.mem_append_right _ (List.mem_append_right _ (List.mem_append_right _ (List.mem_append_right _ (List.mem_append_left _ (List.mem_of_getElem? (l := tables_1_4) (i := 231) rfl))))), good_of_word (by decide +kernel)⟩
set_option maxRecDepth 20000 in
theorem qw_764 : qG (Cond.methodLink RL 51 yX6_first) := ⟨List.mem_append_right _ (List.mem_append_right _ (List.mem_append_right _ (List.mem_append_right _ (List.mem_append_left _ (List.mem_of_getElem? (l := tables_1_4) (i := 230) rfl))))), good_of_word (by decide +kernel)⟩
set_option maxRecDepth 20000 in
theorem qw_765 : qG (Cond.code yX6_turn cX6_turn 5 (some .int)) := ⟨List.mem_append_right _ (List.mem_append_right _ (List.mem_append_right _ (List.mem_append_right _ (List.mem_append_right _ (List.mem_of_getElem? (l := tables_1_5) (i := 5) rfl))))), good_of_word (by decide +kernel)⟩
set_option maxRecDepth 20000 in
theorem qw_766 : qG (Cond.selects RX6 yX6_turn yX6_turn) := ⟨List.mem_append_right _ (List.mem_append_right _ (List.mem_append_right _ (List.mem_append_right _ (List.mem_append_right _ (List.mem_of_getElem? (l := tables_1_5) (i := 4) rfl))))), good_of_word (by decide +kernel)⟩
set_option maxRecDepth 20000 in
theorem qw_767 : qG (Cond.instanceMethod yX6_turn) := ⟨List.mem_append_right _ (List.mem_append_right _ (List.mem_append_right _ (List.mem_append_right _ (List.mem_append_right _ (List.mem_of_getElem? (l := tables_1_5) (i := 3) rfl))))), good_of_word (by decide +kernel)⟩
set_option maxRecDepth 20000 in
theorem qw_768 : qG (Cond.methodLink RL 56 yX6_turn) := ⟨List.mem_append_right _ (List.mem_append_right _ (List.mem_append_right _ (List.mem_append_right _ (List.mem_append_right _ (List.mem_of_getElem? (l := tables_1_5) (i := 2) rfl))))), good_of_word (by decide +kernel)⟩
set_option maxRecDepth 20000 in
theorem qw_769 : qG (Cond.code yX6_cut cX6_cut 4 (some .int)) := ⟨List.mem_append_right _ (List.mem_append_right _ (List.mem_append_right _ (List.mem_append_right _ (List.mem_append_right _ (List.mem_of_getElem? (l := tables_1_5) (i := 9) rfl))))), good_of_word (by decide +kernel)⟩
set_option maxRecDepth 20000 in
theorem qw_770 : qG (Cond.selects RX6 yX6_cut yX6_cut) := ⟨List.mem_append_right _ (List.mem_append_right _ (List.mem_append_right _ (List.mem_append_right _ (List.mem_append_right _ (List.mem_of_getElem? (l := tables_1_5) (i := 8) rfl))))), good_of_word (by decide +kernel)⟩
set_option maxRecDepth 20000 in
theorem qw_771 : qG (Cond.instanceMethod yX6_cut) := ⟨List.mem_append_right _ (List.mem_append_right _ (List.mem_append_right _ (List.mem_append_right _ (List.mem_append_right _ (List.mem_of_getElem? (l := tables_1_5) (i := 7) rfl))))), good_of_word (by decide +kernel)⟩
set_option maxRecDepth 20000 in
theorem qw_772 : qG (Cond.methodLink RL 60 yX6_cut) := ⟨List.mem_append_right _ (List.mem_append_right _ (List.mem_append_right _ (List.mem_append_right _ (List.mem_append_right _ (List.mem_of_getElem? (l := tables_1_5) (i := 6) rfl))))), good_of_word (by decide +kernel)⟩
set_option maxRecDepth 20000 in
theorem qw_773 : qG (Cond.code yX6_grind cX6_grind 3 (some .int)) := ⟨List.mem_append_right _ (List.mem_append_right _ (List.mem_append_right _ (List.mem_append_right _ (List.mem_append_right _ (List.mem_of_getElem? (l := tables_1_5) (i := 13) rfl))))), good_of_word (by decide +kernel)⟩
set_option maxRecDepth 20000 in
theorem qw_774 : qG (Cond.selects RX6 yX6_grind yX6_grind) := ⟨List.mem_append_right _ (List.mem_append_right _ (List.mem_append_right _ (List.mem_append_right _ (List.mem_append_right _ (List.mem_of_getElem? (l := tables_1_5) (i := 12) rfl))))), good_of_word (by decide +kernel)⟩
set_option maxRecDepth 20000 in
theorem qw_775 : qG (Cond.instanceMethod yX6_grind) := ⟨List.mem_append_right _ (List.mem_append_right _ (List.mem_append_right _ (List.mem_append_right _ (List.mem_append_right _ (List.mem_of_getElem? (l := tables_1_5) (i := 11) rfl))))), good_of_word (by decide +kernel)⟩
set_option maxRecDepth 20000 in
theorem qw_776 : qG (Cond.methodLink RL 64 yX6_grind) := ⟨List.mem_append_right _ (List.mem_append_right _ (List.mem_append_right _ (List.mem_append_right _ (List.mem_append_right _ (List.mem_of_getElem? (l := tables_1_5) (i := 10) rfl))))), good_of_word (by decide +kernel)⟩
set_option maxRecDepth 20000 in
theorem qw_777 : qG (Cond.code yX6_regrind cX6_regrind 3 (some .int)) := ⟨List.mem_append_right _ (List.mem_append_right _ (List.mem_append_right _ (List.mem_append_right _ (List.mem_append_right _ (List.mem_of_getElem? (l := tables_1_5) (i := 17) rfl))))), good_of_word (by decide +kernel)⟩
set_option maxRecDepth 20000 in
theorem qw_778 : qG (Cond.selects RX6 yX6_regrind yX6_regrind) := ⟨List.mem_append_right _ (List.mem_append_right _ (List.mem_append_right _ (List.mem_append_right _ (List.mem_append_right _ (List.mem_of_getElem? (l := tables_1_5) (i := 16) rfl))))), good_of_word (by decide +kernel)⟩
set_option maxRecDepth 20000 in
theorem qw_779 : qG (Cond.instanceMethod yX6_regrind) := ⟨List.mem_append_right _ (List.mem_append_right _ (List.mem_append_right _ (List.mem_append_right _ (List.mem_append_right _ (List.mem_of_getElem? (l := tables_1_5) (i := 15) rfl))))), good_of_word (by decide +kernel)⟩
set_option maxRecDepth 20000 in
theorem qw_780 : qG (Cond.methodLink RL 68 yX6_regrind) := ⟨List.mem_append_right _ (List.mem_append_right _ (List.mem_append_right _ (List.mem_append_right _ (List.mem_append_right _ (List.mem_of_getElem? (l := tables_1_5) (i := 14) rfl))))), good_of_word (by decide +kernel)⟩
set_option maxRecDepth 20000 in
theorem qw_781 : qG (Cond.code yX6_crack cX6_crack 6 (some .int)) := ⟨List.mem_append_right _ (List.mem_append_right _ (List.mem_append_right _ (List.mem_append_right _ (List.mem_append_right _ (List.mem_of_getElem? (l := tables_1_5) (i := 21) rfl))))), good_of_word (by decide +kernel)⟩
set_option maxRecDepth 20000 in
theorem qw_782 : qG (Cond.selects RX6 yX6_crack yX6_crack) := ⟨List.mem_append_right _ (List.mem_append_right _ (List.mem_append_right _ (List.mem_append_right _ (List.mem_append_right _ (List.mem_of_getElem? (l := tables_1_5) (i := 20) rfl))))), good_of_word (by decide +kernel)⟩
set_option maxRecDepth 20000 in
theorem qw_783 : qG (Cond.instanceMethod yX6_crack) := ⟨List.mem_append_right _ (List.mem_append_right _ (List.mem_append_right _ (List.mem_append_right _ (List.mem_append_right _ (List.mem_of_getElem? (l := tables_1_5) (i := 19) rfl))))), good_of_word (by decide +kernel)⟩
set_option maxRecDepth 20000 in
theorem qw_784 : qG (Cond.methodLink RL 73 yX6_crack) := ⟨List.mem_append_right _ (List.mem_append_right _ (List.mem_append_right _ (List.mem_append_right _ (List.mem_append_right _ (List.mem_of_getElem? (l := tables_1_5) (i := 18) rfl))))), good_of_word (by decide +kernel)⟩
set_option maxRecDepth 20000 in
theorem qw_785 : qG (Cond.methodLink RX6 169 yX6_shiftTo) := ⟨List.mem_append_right _ (List.mem_append_right _ (List.mem_append_right _ (List.mem_append_right _ (List.mem_append_right _ (List.mem_of_getElem? (l := tables_1_5) (i := 30) rfl))))), good_of_word (by decide +kernel)⟩
set_option maxRecDepth 20000 in
theorem qw_786 : qG (Cond.code yX6_sightOn cX6_sightOn 3 (some .int)) := ⟨List.mem_append_right _ (List.mem_append_right _ (List.mem_append_right _ (List.mem_append_right _ (List.mem_append_right _ (List.mem_of_getElem? (l := tables_1_5) (i := 29) rfl))))), good_of_word (by decide +kernel)⟩
theorem qw_787 : qG (Cond.selects RX6 yX6_sightOn yX6_sightOn) := ⟨List.mem_append_left _ (List.mem_of_getElem? (i := 44) (by decide +kernel)), good_of_word (by decide +kernel)⟩
set_option maxRecDepth 20000 in
theorem qw_788 : qG (Cond.instanceMethod yX6_sightOn) := ⟨List.mem_append_right _ (List.mem_append_right _ (List.mem_append_right _ (List.mem_append_right _ (List.mem_append_right _ (List.mem_of_getElem? (l := tables_1_5) (i := 28) rfl))))), good_of_word (by decide +kernel)⟩
set_option maxRecDepth 20000 in
theorem qw_789 : qG (Cond.methodLink RX6 175 yX6_sightOn) := ⟨List.mem_append_right _ (List.mem_append_right _ (List.mem_append_right _ (List.mem_append_right _ (List.mem_append_right _ (List.mem_of_getElem? (l := tables_1_5) (i := 26) rfl))))), good_of_word (by decide +kernel)⟩
set_option maxRecDepth 20000 in
theorem qw_790 : qG (Cond.code yX6_beside cX6_beside 3 (some .int)) := ⟨List.mem_append_right _ (List.mem_append_right _ (List.mem_append_right _ (List.mem_append_right _ (List.mem_append_right _ (List.mem_of_getElem? (l := tables_1_5) (i := 41) rfl))))), good_of_word (by decide +kernel)⟩
theorem qw_791 : qG (Cond.selects RX6 yX6_beside yX6_beside) := ⟨List.mem_append_left _ (List.mem_of_getElem? (i := 47) (by decide +kernel)), good_of_word (by decide +kernel)⟩
set_option maxRecDepth 20000 in
theorem qw_792 : qG (Cond.instanceMethod yX6_beside) := ⟨List.mem_append_right _ (List.mem_append_right _ (List.mem_append_right _ (List.mem_append_right _ (List.mem_append_right _ (List.mem_of_getElem? (l := tables_1_5) (i := 40) rfl))))), good_of_word (by decide +kernel)⟩
set_option maxRecDepth 20000 in
theorem qw_793 : qG (Cond.methodLink RX6 166 yX6_beside) := ⟨List.mem_append_right _ (List.mem_append_right _ (List.mem_append_right _ (List.mem_append_right _ (List.mem_append_right _ (List.mem_of_getElem? (l := tables_1_5) (i := 38) rfl))))), good_of_word (by decide +kernel)⟩
set_option maxRecDepth 20000 in
theorem qw_794 : qG (Cond.code yX6_sight cX6_sight 6 (some .int)) := ⟨List.mem_append_right _ (List.mem_append_right _ (List.mem_append_right _ (List.mem_append_right _ (List.mem_append_right _ (List.mem_of_getElem? (l := tables_1_5) (i := 37) rfl))))), good_of_word (by decide +kernel)⟩
theorem qw_795 : qG (Cond.selects RX6 yX6_sight yX6_sight) := ⟨List.mem_append_left _ (List.mem_of_getElem? (i := 46) (by decide +kernel)), good_of_word (by decide +kernel)⟩
set_option maxRecDepth 20000 in
theorem qw_796 : qG (Cond.instanceMethod yX6_sight) := ⟨List.mem_append_right _ (List.mem_append_right _ (List.mem_append_right _ (List.mem_append_right _ (List.mem_append_right _ (List.mem_of_getElem? (l := tables_1_5) (i := 36) rfl))))), good_of_word (by decide +kernel)⟩
set_option maxRecDepth 20000 in
theorem qw_797 : qG (Cond.methodLink RX6 172 yX6_sight) := ⟨List.mem_append_right _ (List.mem_append_right _ (List.mem_append_right _ (List.mem_append_right _ (List.mem_append_right _ (List.mem_of_getElem? (l := tables_1_5) (i := 34) rfl))))), good_of_word (by decide +kernel)⟩
set_option maxRecDepth 20000 in
theorem qw_798 : qG (Cond.code yX6_shiftTo cX6_shiftTo 3 none) := ⟨List.mem_append_right _ (List.mem_append_right _ (List.mem_append_right _ (List.mem_append_right _ (List.mem_append_right _ (List.mem_of_getElem? (l := tables_1_5) (i := 33) rfl))))), good_of_word (by decide +kernel)⟩
theorem qw_799 : qG (Cond.selects RX6 yX6_shiftTo yX6_shiftTo) := ⟨List.mem_append_left _ (List.mem_of_getElem? (i := 45) (by decide +kernel)), good_of_word (by decide +kernel)⟩
set_option maxRecDepth 20000 in
theorem qw_800 : qG (Cond.instanceMethod yX6_shiftTo) := ⟨List.mem_append_right _ (List.mem_append_right _ (List.mem_append_right _ (List.mem_append_right _ (List.mem_append_right _ (List.mem_of_getElem? (l := tables_1_5) (i := 32) rfl))))), good_of_word (by decide +kernel)⟩
set_option maxRecDepth 20000 in
theorem qw_801 : qG (Cond.code yX6_sees cX6_sees 3 (some .int)) := ⟨List.mem_append_right _ (List.mem_append_right _ (List.mem_append_right _ (List.mem_append_right _ (List.mem_append_right _ (List.mem_of_getElem? (l := tables_1_5) (i := 25) rfl))))), good_of_word (by decide +kernel)⟩
set_option maxRecDepth 20000 in
theorem qw_802 : qG (Cond.selects RX6 yX6_sees yX6_sees) := ⟨List.mem_append_right _ (List.mem_append_right _ (List.mem_append_right _ (List.mem_append_right _ (List.mem_append_right _ (List.mem_of_getElem? (l := tables_1_5) (i := 24) rfl))))), good_of_word (by decide +kernel)⟩
set_option maxRecDepth 20000 in
theorem qw_803 : qG (Cond.instanceMethod yX6_sees) := ⟨List.mem_append_right _ (List.mem_append_right _ (List.mem_append_right _ (List.mem_append_right _ (List.mem_append_right _ (List.mem_of_getElem? (l := tables_1_5) (i := 23) rfl))))), good_of_word (by decide +kernel)⟩
set_option maxRecDepth 20000 in
theorem qw_804 : qG (Cond.methodLink RL 77 yX6_sees) := ⟨List.mem_append_right _ (List.mem_append_right _ (List.mem_append_right _ (List.mem_append_right _ (List.mem_append_right _ (List.mem_of_getElem? (l := tables_1_5) (i := 22) rfl))))), good_of_word (by decide +kernel)⟩
set_option maxRecDepth 20000 in
theorem qw_805 : qG (Cond.code yX6_shownBy cX6_shownBy 3 (some .int)) := ⟨List.mem_append_right _ (List.mem_append_right _ (List.mem_append_right _ (List.mem_append_right _ (List.mem_append_right _ (List.mem_of_getElem? (l := tables_1_5) (i := 49) rfl))))), good_of_word (by decide +kernel)⟩
theorem qw_806 : qG (Cond.selects RX6 yX6_shownBy yX6_shownBy) := ⟨List.mem_append_left _ (List.mem_of_getElem? (i := 48) (by decide +kernel)), good_of_word (by decide +kernel)⟩
set_option maxRecDepth 20000 in
theorem qw_807 : qG (Cond.instanceMethod yX6_shownBy) := ⟨List.mem_append_right _ (List.mem_append_right _ (List.mem_append_right _ (List.mem_append_right _ (List.mem_append_right _ (List.mem_of_getElem? (l := tables_1_5) (i := 48) rfl))))), good_of_word (by decide +kernel)⟩
set_option maxRecDepth 20000 in
theorem qw_808 : qG (Cond.methodLink RX6 199 yX6_shownBy) := ⟨List.mem_append_right _ (List.mem_append_right _ (List.mem_append_right _ (List.mem_append_right _ (List.mem_append_right _ (List.mem_of_getElem? (l := tables_1_5) (i := 46) rfl))))), good_of_word (by decide +kernel)⟩
set_option maxRecDepth 20000 in
theorem qw_809 : qG (Cond.code yX6_shows cX6_shows 4 (some .int)) := ⟨List.mem_append_right _ (List.mem_append_right _ (List.mem_append_right _ (List.mem_append_right _ (List.mem_append_right _ (List.mem_of_getElem? (l := tables_1_5) (i := 45) rfl))))), good_of_word (by decide +kernel)⟩
set_option maxRecDepth 20000 in
theorem qw_810 : qG (Cond.selects RX6 yX6_shows yX6_shows) := ⟨List.mem_append_right _ (List.mem_append_right _ (List.mem_append_right _ (List.mem_append_right _ (List.mem_append_right _ (List.mem_of_getElem? (l := tables_1_5) (i := 44) rfl))))), good_of_word (by decide +kernel)⟩
set_option maxRecDepth 20000 in
theorem qw_811 : qG (Cond.instanceMethod yX6_shows) := ⟨List.mem_append_right _ (List.mem_append_right _ (List.mem_append_right _ (List.mem_append_right _ (List.mem_append_right _ (List.mem_of_getElem? (l := tables_1_5) (i := 43) rfl))))), good_of_word (by decide +kernel)⟩
set_option maxRecDepth 20000 in
theorem qw_812 : qG (Cond.methodLink RL 81 yX6_shows) := ⟨List.mem_append_right _ (List.mem_append_right _ (List.mem_append_right _ (List.mem_append_right _ (List.mem_append_right _ (List.mem_of_getElem? (l := tables_1_5) (i := 42) rfl))))), good_of_word (by decide +kernel)⟩
set_option maxRecDepth 20000 in
theorem qw_813 : qG (Cond.code yX6_unlike cX6_unlike 5 (some .int)) := ⟨List.mem_append_right _ (List.mem_append_right _ (List.mem_append_right _ (List.mem_append_right _ (List.mem_append_right _ (List.mem_of_getElem? (l := tables_1_5) (i := 57) rfl))))), good_of_word (by decide +kernel)⟩
theorem qw_814 : qG (Cond.selects RX6 yX6_unlike yX6_unlike) := ⟨List.mem_append_left _ (List.mem_of_getElem? (i := 49) (by decide +kernel)), good_of_word (by decide +kernel)⟩
set_option maxRecDepth 20000 in
theorem qw_815 : qG (Cond.instanceMethod yX6_unlike) := ⟨List.mem_append_right _ (List.mem_append_right _ (List.mem_append_right _ (List.mem_append_right _ (List.mem_append_right _ (List.mem_of_getElem? (l := tables_1_5) (i := 56) rfl))))), good_of_word (by decide +kernel)⟩
set_option maxRecDepth 20000 in
theorem qw_816 : qG (Cond.methodLink RX6 202 yX6_unlike) := ⟨List.mem_append_right _ (List.mem_append_right _ (List.mem_append_right _ (List.mem_append_right _ (List.mem_append_right _ (List.mem_of_getElem? (l := tables_1_5) (i := 54) rfl))))), good_of_word (by decide +kernel)⟩
set_option maxRecDepth 20000 in
theorem qw_817 : qG (Cond.code yX6_flag cX6_flag 1 (some .int)) := ⟨List.mem_append_right _ (List.mem_append_right _ (List.mem_append_right _ (List.mem_append_right _ (List.mem_append_right _ (List.mem_of_getElem? (l := tables_1_5) (i := 60) rfl))))), good_of_word (by decide +kernel)⟩
set_option maxRecDepth 20000 in
theorem qw_818 : qG (Cond.static yX6_flag) := ⟨List.mem_append_right _ (List.mem_append_right _ (List.mem_append_right _ (List.mem_append_right _ (List.mem_append_right _ (List.mem_of_getElem? (l := tables_1_5) (i := 59) rfl))))), good_of_word (by decide +kernel)⟩
set_option maxRecDepth 20000 in
theorem qw_819 : qG (Cond.methodLink RX6 205 yX6_flag) := ⟨List.mem_append_right _ (List.mem_append_right _ (List.mem_append_right _ (List.mem_append_right _ (List.mem_append_right _ (List.mem_of_getElem? (l := tables_1_5) (i := 58) rfl))))), good_of_word (by decide +kernel)⟩
set_option maxRecDepth 20000 in
theorem qw_820 : qG (Cond.code yX6_frame cX6_frame 4 (some .int)) := ⟨List.mem_append_right _ (List.mem_append_right _ (List.mem_append_right _ (List.mem_append_right _ (List.mem_append_right _ (List.mem_of_getElem? (l := tables_1_5) (i := 53) rfl))))), good_of_word (by decide +kernel)⟩
set_option maxRecDepth 20000 in
theorem qw_821 : qG (Cond.selects RX6 yX6_frame yX6_frame) := ⟨List.mem_append_right _ (List.mem_append_right _ (List.mem_append_right _ (List.mem_append_right _ (List.mem_append_right _ (List.mem_of_getElem? (l := tables_1_5) (i := 52) rfl))))), good_of_word (by decide +kernel)⟩
set_option maxRecDepth 20000 in
theorem qw_822 : qG (Cond.instanceMethod yX6_frame) := ⟨List.mem_append_right _ (List.mem_append_right _ (List.mem_append_right _ (List.mem_append_right _ (List.mem_append_right _ (List.mem_of_getElem? (l := tables_1_5) (i := 51) rfl))))), good_of_word (by decide +kernel)⟩
set_option maxRecDepth 20000 in
theorem qw_823 : qG (Cond.methodLink RL 85 yX6_frame) := ⟨List.mem_append_right _ (List.mem_append_right _ (List.mem_append_right _ (List.mem_append_right _ (List.mem_append_right _ (List.mem_of_getElem? (l := tables_1_5) (i := 50) rfl))))), good_of_word (by decide +kernel)⟩
set_option maxRecDepth 20000 in
theorem qw_824 : qG (Cond.code yX6_between cX6_between 3 (some .int)) := ⟨List.mem_append_right _ (List.mem_append_right _ (List.mem_append_right _ (List.mem_append_right _ (List.mem_append_right _ (List.mem_of_getElem? (l := tables_1_5) (i := 64) rfl))))), good_of_word (by decide +kernel)⟩
set_option maxRecDepth 20000 in
theorem qw_825 : qG (Cond.selects RX6 yX6_between yX6_between) := ⟨List.mem_append_right _ (List.mem_append_right _ (List.mem_append_right _ (List.mem_append_right _ (List.mem_append_right _ (List.mem_of_getElem? (l := tables_1_5) (i := 63) rfl))))), good_of_word (by decide +kernel)⟩
set_option maxRecDepth 20000 in
theorem qw_826 : qG (Cond.instanceMethod yX6_between) := ⟨List.mem_append_right _ (List.mem_append_right _ (List.mem_append_right _ (List.mem_append_right _ (List.mem_append_right _ (List.mem_of_getElem? (l := tables_1_5) (i := 62) rfl))))), good_of_word (by decide +kernel)⟩
set_option maxRecDepth 20000 in
theorem qw_827 : qG (Cond.methodLink RL 89 yX6_between) := ⟨List.mem_append_right _ (List.mem_append_right _ (List.mem_append_right _ (List.mem_append_right _ (List.mem_append_right _ (List.mem_of_getElem? (l := tables_1_5) (i := 61) rfl))))), good_of_word (by decide +kernel)⟩
set_option maxRecDepth 20000 in
theorem qw_828 : qG (Cond.code yX6_all cX6_all 5 (some .int)) := ⟨List.mem_append_right _ (List.mem_append_right _ (List.mem_append_right _ (List.mem_append_right _ (List.mem_append_right _ (List.mem_of_getElem? (l := tables_1_5) (i := 68) rfl))))), good_of_word (by decide +kernel)⟩
set_option maxRecDepth 20000 in
theorem qw_829 : qG (Cond.selects RX6 yX6_all yX6_all) := ⟨List.mem_append_right _ (List.mem_append_right _ (List.mem_append_right _ (List.mem_append_right _ (List.mem_append_right _ (List.mem_of_getElem? (l := tables_1_5) (i := 67) rfl))))), good_of_word (by decide +kernel)⟩
set_option maxRecDepth 20000 in
theorem qw_830 : qG (Cond.instanceMethod yX6_all) := ⟨List.mem_append_right _ (List.mem_append_right _ (List.mem_append_right _ (List.mem_append_right _ (List.mem_append_right _ (List.mem_of_getElem? (l := tables_1_5) (i := 66) rfl))))), good_of_word (by decide +kernel)⟩
set_option maxRecDepth 20000 in
theorem qw_831 : qG (Cond.methodLink RL 93 yX6_all) := ⟨List.mem_append_right _ (List.mem_append_right _ (List.mem_append_right _ (List.mem_append_right _ (List.mem_append_right _ (List.mem_of_getElem? (l := tables_1_5) (i := 65) rfl))))), good_of_word (by decide +kernel)⟩
set_option maxRecDepth 20000 in
theorem qw_832 : qG (Cond.code yX6_since cX6_since 6 (some .int)) := ⟨List.mem_append_right _ (List.mem_append_right _ (List.mem_append_right _ (List.mem_append_right _ (List.mem_append_right _ (List.mem_of_getElem? (l := tables_1_5) (i := 72) rfl))))), good_of_word (by decide +kernel)⟩
set_option maxRecDepth 20000 in
theorem qw_833 : qG (Cond.selects RX6 yX6_since yX6_since) := ⟨List.mem_append_right _ (List.mem_append_right _ (List.mem_append_right _ (List.mem_append_right _ (List.mem_append_right _ (List.mem_of_getElem? (l := tables_1_5) (i := 71) rfl))))), good_of_word (by decide +kernel)⟩
set_option maxRecDepth 20000 in
theorem qw_834 : qG (Cond.instanceMethod yX6_since) := ⟨List.mem_append_right _ (List.mem_append_right _ (List.mem_append_right _ (List.mem_append_right _ (List.mem_append_right _ (List.mem_of_getElem? (l := tables_1_5) (i := 70) rfl))))), good_of_word (by decide +kernel)⟩
set_option maxRecDepth 20000 in
theorem qw_835 : qG (Cond.methodLink RL 97 yX6_since) := ⟨List.mem_append_right _ (List.mem_append_right _ (List.mem_append_right _ (List.mem_append_right _ (List.mem_append_right _ (List.mem_of_getElem? (l := tables_1_5) (i := 69) rfl))))), good_of_word (by decide +kernel)⟩
set_option maxRecDepth 20000 in
theorem qw_836 : qG (Cond.code yX6_again cX6_again 4 (some .int)) := ⟨List.mem_append_right _ (List.mem_append_right _ (List.mem_append_right _ (List.mem_append_right _ (List.mem_append_right _ (List.mem_of_getElem? (l := tables_1_5) (i := 76) rfl))))), good_of_word (by decide +kernel)⟩
set_option maxRecDepth 20000 in
theorem qw_837 : qG (Cond.selects RX6 yX6_again yX6_again) := ⟨List.mem_append_right _ (List.mem_append_right _ (List.mem_append_right _ (List.mem_append_right _ (List.mem_append_right _ (List.mem_of_getElem? (l := tables_1_5) (i := 75) rfl))))), good_of_word (by decide +kernel)⟩
set_option maxRecDepth 20000 in
theorem qw_838 : qG (Cond.instanceMethod yX6_again) := ⟨List.mem_append_right _ (List.mem_append_right _ (List.mem_append_right _ (List.mem_append_right _ (List.mem_append_right _ (List.mem_of_getElem? (l := tables_1_5) (i := 74) rfl))))), good_of_word (by decide +kernel)⟩
set_option maxRecDepth 20000 in
theorem qw_839 : qG (Cond.methodLink RL 101 yX6_again) := ⟨List.mem_append_right _ (List.mem_append_right _ (List.mem_append_right _ (List.mem_append_right _ (List.mem_append_right _ (List.mem_of_getElem? (l := tables_1_5) (i := 73) rfl))))), good_of_word (by decide +kernel)⟩
set_option maxRecDepth 20000 in
theorem qw_840 : qG (Cond.code yX6_show cX6_show 5 (some .int)) := ⟨List.mem_append_right _ (List.mem_append_right _ (List.mem_append_right _ (List.mem_append_right _ (List.mem_append_right _ (List.mem_of_getElem? (l := tables_1_5) (i := 80) rfl))))), good_of_word (by decide +kernel)⟩
set_option maxRecDepth 20000 in
theorem qw_841 : qG (Cond.selects RX6 yX6_show yX6_show) := ⟨List.mem_append_right _ (List.mem_append_right _ (List.mem_append_right _ (List.mem_append_right _ (List.mem_append_right _ (List.mem_of_getElem? (l := tables_1_5) (i := 79) rfl))))), good_of_word (by decide +kernel)⟩
set_option maxRecDepth 20000 in
theorem qw_842 : qG (Cond.instanceMethod yX6_show) := ⟨List.mem_append_right _ (List.mem_append_right _ (List.mem_append_right _ (List.mem_append_right _ (List.mem_append_right _ (List.mem_of_getElem? (l := tables_1_5) (i := 78) rfl))))), good_of_word (by decide +kernel)⟩
set_option maxRecDepth 20000 in
theorem qw_843 : qG (Cond.methodLink RL 105 yX6_show) := ⟨List.mem_append_right _ (List.mem_append_right _ (List.mem_append_right _ (List.mem_append_right _ (List.mem_append_right _ (List.mem_of_getElem? (l := tables_1_5) (i := 77) rfl))))), good_of_word (by decide +kernel)⟩
set_option maxRecDepth 20000 in
theorem qw_844 : qG (Cond.code yX6_forget cX6_forget 2 (some .int)) := ⟨List.mem_append_right _ (List.mem_append_right _ (List.mem_append_right _ (List.mem_append_right _ (List.mem_append_right _ (List.mem_of_getElem? (l := tables_1_5) (i := 84) rfl))))), good_of_word (by decide +kernel)⟩
set_option maxRecDepth 20000 in
theorem qw_845 : qG (Cond.selects RX6 yX6_forget yX6_forget) := ⟨List.mem_append_right _ (List.mem_append_right _ (List.mem_append_right _ (List.mem_append_right _ (List.mem_append_right _ (List.mem_of_getElem? (l := tables_1_5) (i := 83) rfl))))), good_of_word (by decide +kernel)⟩
set_option maxRecDepth 20000 in
theorem qw_846 : qG (Cond.instanceMethod yX6_forget) := ⟨List.mem_append_right _ (List.mem_append_right _ (List.mem_append_right _ (List.mem_append_right _ (List.mem_append_right _ (List.mem_of_getElem? (l := tables_1_5) (i := 82) rfl))))), good_of_word (by decide +kernel)⟩
set_option maxRecDepth 20000 in
theorem qw_847 : qG (Cond.methodLink RL 109 yX6_forget) := ⟨List.mem_append_right _ (List.mem_append_right _ (List.mem_append_right _ (List.mem_append_right _ (List.mem_append_right _ (List.mem_of_getElem? (l := tables_1_5) (i := 81) rfl))))), good_of_word (by decide +kernel)⟩
set_option maxRecDepth 20000 in
theorem qw_848 : qG (Cond.code yX6_seenAs cX6_seenAs 3 (some .int)) := ⟨List.mem_append_right _ (List.mem_append_right _ (List.mem_append_right _ (List.mem_append_right _ (List.mem_append_right _ (List.mem_of_getElem? (l := tables_1_5) (i := 96) rfl))))), good_of_word (by decide +kernel)⟩
theorem qw_849 : qG (Cond.selects RX6 yX6_seenAs yX6_seenAs) := ⟨List.mem_append_left _ (List.mem_of_getElem? (i := 51) (by decide +kernel)), good_of_word (by decide +kernel)⟩
set_option maxRecDepth 20000 in
theorem qw_850 : qG (Cond.instanceMethod yX6_seenAs) := ⟨List.mem_append_right _ (List.mem_append_right _ (List.mem_append_right _ (List.mem_append_right _ (List.mem_append_right _ (List.mem_of_getElem? (l := tables_1_5) (i := 95) rfl))))), good_of_word (by decide +kernel)⟩
set_option maxRecDepth 20000 in
theorem qw_851 : qG (Cond.methodLink RX6 209 yX6_seenAs) := ⟨List.mem_append_right _ (List.mem_append_right _ (List.mem_append_right _ (List.mem_append_right _ (List.mem_append_right _ (List.mem_of_getElem? (l := tables_1_5) (i := 93) rfl))))), good_of_word (by decide +kernel)⟩
set_option maxRecDepth 20000 in
theorem qw_852 : qG (Cond.code yX6_daysBy cX6_daysBy 7 (some .int)) := ⟨List.mem_append_right _ (List.mem_append_right _ (List.mem_append_right _ (List.mem_append_right _ (List.mem_append_right _ (List.mem_of_getElem? (l := tables_1_5) (i := 92) rfl))))), good_of_word (by decide +kernel)⟩
theorem qw_853 : qG (Cond.selects RX6 yX6_daysBy yX6_daysBy) := ⟨List.mem_append_left _ (List.mem_of_getElem? (i := 50) (by decide +kernel)), good_of_word (by decide +kernel)⟩
set_option maxRecDepth 20000 in
theorem qw_854 : qG (Cond.instanceMethod yX6_daysBy) := ⟨List.mem_append_right _ (List.mem_append_right _ (List.mem_append_right _ (List.mem_append_right _ (List.mem_append_right _ (List.mem_of_getElem? (l := tables_1_5) (i := 91) rfl))))), good_of_word (by decide +kernel)⟩
set_option maxRecDepth 20000 in
theorem qw_855 : qG (Cond.methodLink RX6 212 yX6_daysBy) := ⟨List.mem_append_right _ (List.mem_append_right _ (List.mem_append_right _ (List.mem_append_right _ (List.mem_append_right _ (List.mem_of_getElem? (l := tables_1_5) (i := 89) rfl))))), good_of_word (by decide +kernel)⟩
set_option maxRecDepth 20000 in
theorem qw_856 : qG (Cond.code yX6_days cX6_days 1 (some .int)) := ⟨List.mem_append_right _ (List.mem_append_right _ (List.mem_append_right _ (List.mem_append_right _ (List.mem_append_right _ (List.mem_of_getElem? (l := tables_1_5) (i := 88) rfl))))), good_of_word (by decide +kernel)⟩
set_option maxRecDepth 20000 in
theorem qw_857 : qG (Cond.selects RX6 yX6_days yX6_days) := ⟨List.mem_append_right _ (List.mem_append_right _ (List.mem_append_right _ (List.mem_append_right _ (List.mem_append_right _ (List.mem_of_getElem? (l := tables_1_5) (i := 87) rfl))))), good_of_word (by decide +kernel)⟩
set_option maxRecDepth 20000 in
theorem qw_858 : qG (Cond.instanceMethod yX6_days) := ⟨List.mem_append_right _ (List.mem_append_right _ (List.mem_append_right _ (List.mem_append_right _ (List.mem_append_right _ (List.mem_of_getElem? (l := tables_1_5) (i := 86) rfl))))), good_of_word (by decide +kernel)⟩
set_option maxRecDepth 20000 in
theorem qw_859 : qG (Cond.methodLink RL 113 yX6_days) := ⟨List.mem_append_right _ (List.mem_append_right _ (List.mem_append_right _ (List.mem_append_right _ (List.mem_append_right _ (List.mem_of_getElem? (l := tables_1_5) (i := 85) rfl))))), good_of_word (by decide +kernel)⟩
set_option maxRecDepth 20000 in
theorem qw_860 : qG (Cond.code yX6_lie cX6_lie 2 (some .int)) := ⟨List.mem_append_right _ (List.mem_append_right _ (List.mem_append_right _ (List.mem_append_right _ (List.mem_append_right _ (List.mem_of_getElem? (l := tables_1_5) (i := 100) rfl))))), good_of_word (by decide +kernel)⟩
set_option maxRecDepth 20000 in
theorem qw_861 : qG (Cond.selects RX6 yX6_lie yX6_lie) := ⟨List.mem_append_right _ (List.mem_append_right _ (List.mem_append_right _ (List.mem_append_right _ (List.mem_append_right _ (List.mem_of_getElem? (l := tables_1_5) (i := 99) rfl))))), good_of_word (by decide +kernel)⟩
set_option maxRecDepth 20000 in
theorem qw_862 : qG (Cond.instanceMethod yX6_lie) := ⟨List.mem_append_right _ (List.mem_append_right _ (List.mem_append_right _ (List.mem_append_right _ (List.mem_append_right _ (List.mem_of_getElem? (l := tables_1_5) (i := 98) rfl))))), good_of_word (by decide +kernel)⟩
set_option maxRecDepth 20000 in
theorem qw_863 : qG (Cond.methodLink RL 117 yX6_lie) := ⟨List.mem_append_right _ (List.mem_append_right _ (List.mem_append_right _ (List.mem_append_right _ (List.mem_append_right _ (List.mem_of_getElem? (l := tables_1_5) (i := 97) rfl))))), good_of_word (by decide +kernel)⟩
set_option maxRecDepth 20000 in
theorem qw_864 : qG (Cond.methodLink RX6 215 yX6_days) := ⟨List.mem_append_right _ (List.mem_append_right _ (List.mem_append_right _ (List.mem_append_right _ (List.mem_append_right _ (List.mem_of_getElem? (l := tables_1_5) (i := 105) rfl))))), good_of_word (by decide +kernel)⟩
set_option maxRecDepth 20000 in
theorem qw_865 : qG (Cond.methodLink RX6 218 yX6_bitsOf) := ⟨List.mem_append_right _ (List.mem_append_right _ (List.mem_append_right _ (List.mem_append_right _ (List.mem_append_right _ (List.mem_of_getElem? (l := tables_1_5) (i := 106) rfl))))), good_of_word (by decide +kernel)⟩
set_option maxRecDepth 20000 in
theorem qw_866 : qG (Cond.code yX6_worstOf cX6_worstOf 8 (some .int)) := ⟨List.mem_append_right _ (List.mem_append_right _ (List.mem_append_right _ (List.mem_append_right _ (List.mem_append_right _ (List.mem_of_getElem? (l := tables_1_5) (i := 112) rfl))))), good_of_word (by decide +kernel)⟩
theorem qw_867 : qG (Cond.selects RX6 yX6_worstOf yX6_worstOf) := ⟨List.mem_append_left _ (List.mem_of_getElem? (i := 52) (by decide +kernel)), good_of_word (by decide +kernel)⟩
set_option maxRecDepth 20000 in
theorem qw_868 : qG (Cond.instanceMethod yX6_worstOf) := ⟨List.mem_append_right _ (List.mem_append_right _ (List.mem_append_right _ (List.mem_append_right _ (List.mem_append_right _ (List.mem_of_getElem? (l := tables_1_5) (i := 111) rfl))))), good_of_word (by decide +kernel)⟩
set_option maxRecDepth 20000 in
theorem qw_869 : qG (Cond.methodLink RX6 221 yX6_worstOf) := ⟨List.mem_append_right _ (List.mem_append_right _ (List.mem_append_right _ (List.mem_append_right _ (List.mem_append_right _ (List.mem_of_getElem? (l := tables_1_5) (i := 109) rfl))))), good_of_word (by decide +kernel)⟩
set_option maxRecDepth 20000 in
theorem qw_870 : qG (Cond.code yX6_bitsOf cX6_bitsOf 3 (some .int)) := ⟨List.mem_append_right _ (List.mem_append_right _ (List.mem_append_right _ (List.mem_append_right _ (List.mem_append_right _ (List.mem_of_getElem? (l := tables_1_5) (i := 108) rfl))))), good_of_word (by decide +kernel)⟩
set_option maxRecDepth 20000 in
theorem qw_871 : qG (Cond.static yX6_bitsOf) := ⟨List.mem_append_right _ (List.mem_append_right _ (List.mem_append_right _ (List.mem_append_right _ (List.mem_append_right _ (List.mem_of_getElem? (l := tables_1_5) (i := 107) rfl))))), good_of_word (by decide +kernel)⟩
set_option maxRecDepth 20000 in
theorem qw_872 : qG (Cond.code yX6_look cX6_look 8 (some .int)) := ⟨List.mem_append_right _ (List.mem_append_right _ (List.mem_append_right _ (List.mem_append_right _ (List.mem_append_right _ (List.mem_of_getElem? (l := tables_1_5) (i := 104) rfl))))), good_of_word (by decide +kernel)⟩
set_option maxRecDepth 20000 in
theorem qw_873 : qG (Cond.selects RX6 yX6_look yX6_look) := ⟨List.mem_append_right _ (List.mem_append_right _ (List.mem_append_right _ (List.mem_append_right _ (List.mem_append_right _ (List.mem_of_getElem? (l := tables_1_5) (i := 103) rfl))))), good_of_word (by decide +kernel)⟩
set_option maxRecDepth 20000 in
theorem qw_874 : qG (Cond.instanceMethod yX6_look) := ⟨List.mem_append_right _ (List.mem_append_right _ (List.mem_append_right _ (List.mem_append_right _ (List.mem_append_right _ (List.mem_of_getElem? (l := tables_1_5) (i := 102) rfl))))), good_of_word (by decide +kernel)⟩
set_option maxRecDepth 20000 in
theorem qw_875 : qG (Cond.methodLink RL 121 yX6_look) := ⟨List.mem_append_right _ (List.mem_append_right _ (List.mem_append_right _ (List.mem_append_right _ (List.mem_append_right _ (List.mem_of_getElem? (l := tables_1_5) (i := 101) rfl))))), good_of_word (by decide +kernel)⟩
set_option maxRecDepth 20000 in
theorem qw_876 : qG (Cond.constantLong RX6 231 (-4)) := ⟨List.mem_append_right _ (List.mem_append_right _ (List.mem_append_right _ (List.mem_append_right _ (List.mem_append_right _ (List.mem_of_getElem? (l := tables_1_5) (i := 118) rfl))))), good_of_word (by decide +kernel)⟩
set_option maxRecDepth 20000 in
theorem qw_877 : qG (Cond.constantLong RX6 229 (-1)) := ⟨List.mem_append_right _ (List.mem_append_right _ (List.mem_append_right _ (List.mem_append_right _ (List.mem_append_right _ (List.mem_of_getElem? (l := tables_1_5) (i := 117) rfl))))), good_of_word (by decide +kernel)⟩
set_option maxRecDepth 20000 in
theorem qw_878 : qG (Cond.code yX6_common cX6_common 10 (some .long)) := ⟨List.mem_append_right _ (List.mem_append_right _ (List.mem_append_right _ (List.mem_append_right _ (List.mem_append_right _ (List.mem_of_getElem? (l := tables_1_5) (i := 124) rfl))))), good_of_word (by decide +kernel)⟩
set_option maxRecDepth 20000 in
theorem qw_879 : qG (Cond.static yX6_common) := ⟨List.mem_append_right _ (List.mem_append_right _ (List.mem_append_right _ (List.mem_append_right _ (List.mem_append_right _ (List.mem_of_getElem? (l := tables_1_5) (i := 123) rfl))))), good_of_word (by decide +kernel)⟩
set_option maxRecDepth 20000 in
theorem qw_880 : qG (Cond.methodLink RX6 225 yX6_common) := ⟨List.mem_append_right _ (List.mem_append_right _ (List.mem_append_right _ (List.mem_append_right _ (List.mem_append_right _ (List.mem_of_getElem? (l := tables_1_5) (i := 122) rfl))))), good_of_word (by decide +kernel)⟩
set_option maxRecDepth 20000 in
theorem qw_881 : qG (Cond.code yX6_told cX6_told 7 (some .long)) := ⟨List.mem_append_right _ (List.mem_append_right _ (List.mem_append_right _ (List.mem_append_right _ (List.mem_append_right _ (List.mem_of_getElem? (l := tables_1_5) (i := 121) rfl))))), good_of_word (by decide +kernel)⟩
set_option maxRecDepth 20000 in
theorem qw_882 : qG (Cond.static yX6_told) := ⟨List.mem_append_right _ (List.mem_append_right _ (List.mem_append_right _ (List.mem_append_right _ (List.mem_append_right _ (List.mem_of_getElem? (l := tables_1_5) (i := 120) rfl))))), good_of_word (by decide +kernel)⟩
set_option maxRecDepth 20000 in
theorem qw_883 : qG (Cond.methodLink RX6 233 yX6_told) := ⟨List.mem_append_right _ (List.mem_append_right _ (List.mem_append_right _ (List.mem_append_right _ (List.mem_append_right _ (List.mem_of_getElem? (l := tables_1_5) (i := 119) rfl))))), good_of_word (by decide +kernel)⟩
set_option maxRecDepth 20000 in
theorem qw_884 : qG (Cond.code yX6_likely cX6_likely 7 (some .long)) := ⟨List.mem_append_right _ (List.mem_append_right _ (List.mem_append_right _ (List.mem_append_right _ (List.mem_append_right _ (List.mem_of_getElem? (l := tables_1_5) (i := 116) rfl))))), good_of_word (by decide +kernel)⟩
set_option maxRecDepth 20000 in
theorem qw_885 : qG (Cond.selects RX6 yX6_likely yX6_likely) := ⟨List.mem_append_right _ (List.mem_append_right _ (List.mem_append_right _ (List.mem_append_right _ (List.mem_append_right _ (List.mem_of_getElem? (l := tables_1_5) (i := 115) rfl))))), good_of_word (by decide +kernel)⟩
set_option maxRecDepth 20000 in
theorem qw_886 : qG (Cond.instanceMethod yX6_likely) := ⟨List.mem_append_right _ (List.mem_append_right _ (List.mem_append_right _ (List.mem_append_right _ (List.mem_append_right _ (List.mem_of_getElem? (l := tables_1_5) (i := 114) rfl))))), good_of_word (by decide +kernel)⟩
set_option maxRecDepth 20000 in
theorem qw_887 : qG (Cond.methodLink RL 126 yX6_likely) := ⟨List.mem_append_right _ (List.mem_append_right _ (List.mem_append_right _ (List.mem_append_right _ (List.mem_append_right _ (List.mem_of_getElem? (l := tables_1_5) (i := 113) rfl))))), good_of_word (by decide +kernel)⟩
set_option maxRecDepth 20000 in
theorem qw_888 : qG (Cond.code yX6_could cX6_could 3 (some .int)) := ⟨List.mem_append_right _ (List.mem_append_right _ (List.mem_append_right _ (List.mem_append_right _ (List.mem_append_right _ (List.mem_of_getElem? (l := tables_1_5) (i := 128) rfl))))), good_of_word (by decide +kernel)⟩
set_option maxRecDepth 20000 in
theorem qw_889 : qG (Cond.selects RX6 yX6_could yX6_could) := ⟨List.mem_append_right _ (List.mem_append_right _ (List.mem_append_right _ (List.mem_append_right _ (List.mem_append_right _ (List.mem_of_getElem? (l := tables_1_5) (i := 127) rfl))))), good_of_word (by decide +kernel)⟩
set_option maxRecDepth 20000 in
theorem qw_890 : qG (Cond.instanceMethod yX6_could) := ⟨List.mem_append_right _ (List.mem_append_right _ (List.mem_append_right _ (List.mem_append_right _ (List.mem_append_right _ (List.mem_of_getElem? (l := tables_1_5) (i := 126) rfl))))), good_of_word (by decide +kernel)⟩
set_option maxRecDepth 20000 in
theorem qw_891 : qG (Cond.methodLink RL 130 yX6_could) := ⟨List.mem_append_right _ (List.mem_append_right _ (List.mem_append_right _ (List.mem_append_right _ (List.mem_append_right _ (List.mem_of_getElem? (l := tables_1_5) (i := 125) rfl))))), good_of_word (by decide +kernel)⟩
set_option maxRecDepth 20000 in
theorem qw_892 : qG (Cond.code yX6_findViews cX6_findViews 3 none) := ⟨List.mem_append_right _ (List.mem_append_right _ (List.mem_append_right _ (List.mem_append_right _ (List.mem_append_right _ (List.mem_of_getElem? (l := tables_1_5) (i := 136) rfl))))), good_of_word (by decide +kernel)⟩
theorem qw_893 : qG (Cond.selects RX6 yX6_findViews yX6_findViews) := ⟨List.mem_append_left _ (List.mem_of_getElem? (i := 53) (by decide +kernel)), good_of_word (by decide +kernel)⟩
set_option maxRecDepth 20000 in
theorem qw_894 : qG (Cond.instanceMethod yX6_findViews) := ⟨List.mem_append_right _ (List.mem_append_right _ (List.mem_append_right _ (List.mem_append_right _ (List.mem_append_right _ (List.mem_of_getElem? (l := tables_1_5) (i := 135) rfl))))), good_of_word (by decide +kernel)⟩
set_option maxRecDepth 20000 in
theorem qw_895 : qG (Cond.methodLink RX6 237 yX6_findViews) := ⟨List.mem_append_right _ (List.mem_append_right _ (List.mem_append_right _ (List.mem_append_right _ (List.mem_append_right _ (List.mem_of_getElem? (l := tables_1_5) (i := 133) rfl))))), good_of_word (by decide +kernel)⟩
set_option maxRecDepth 20000 in
theorem qw_896 : qG (Cond.code yX6_apartOf cX6_apartOf 8 (some .int)) := ⟨List.mem_append_right _ (List.mem_append_right _ (List.mem_append_right _ (List.mem_append_right _ (List.mem_append_right _ (List.mem_of_getElem? (l := tables_1_5) (i := 140) rfl))))), good_of_word (by decide +kernel)⟩
theorem qw_897 : qG (Cond.selects RX6 yX6_apartOf yX6_apartOf) := ⟨List.mem_append_left _ (List.mem_of_getElem? (i := 54) (by decide +kernel)), good_of_word (by decide +kernel)⟩
set_option maxRecDepth 20000 in
theorem qw_898 : qG (Cond.instanceMethod yX6_apartOf) := ⟨List.mem_append_right _ (List.mem_append_right _ (List.mem_append_right _ (List.mem_append_right _ (List.mem_append_right _ (List.mem_of_getElem? (l := tables_1_5) (i := 139) rfl))))), good_of_word (by decide +kernel)⟩
set_option maxRecDepth 20000 in
theorem qw_899 : qG (Cond.methodLink RX6 240 yX6_apartOf) := ⟨List.mem_append_right _ (List.mem_append_right _ (List.mem_append_right _ (List.mem_append_right _ (List.mem_append_right _ (List.mem_of_getElem? (l := tables_1_5) (i := 137) rfl))))), good_of_word (by decide +kernel)⟩
set_option maxRecDepth 20000 in
theorem qw_900 : qG (Cond.code yX6_apart cX6_apart 3 (some .int)) := ⟨List.mem_append_right _ (List.mem_append_right _ (List.mem_append_right _ (List.mem_append_right _ (List.mem_append_right _ (List.mem_of_getElem? (l := tables_1_5) (i := 132) rfl))))), good_of_word (by decide +kernel)⟩
set_option maxRecDepth 20000 in
theorem qw_901 : qG (Cond.selects RX6 yX6_apart yX6_apart) := ⟨List.mem_append_right _ (List.mem_append_right _ (List.mem_append_right _ (List.mem_append_right _ (List.mem_append_right _ (List.mem_of_getElem? (l := tables_1_5) (i := 131) rfl))))), good_of_word (by decide +kernel)⟩
set_option maxRecDepth 20000 in
theorem qw_902 : qG (Cond.instanceMethod yX6_apart) := ⟨List.mem_append_right _ (List.mem_append_right _ (List.mem_append_right _ (List.mem_append_right _ (List.mem_append_right _ (List.mem_of_getElem? (l := tables_1_5) (i := 130) rfl))))), good_of_word (by decide +kernel)⟩
set_option maxRecDepth 20000 in
theorem qw_903 : qG (Cond.methodLink RL 134 yX6_apart) := ⟨List.mem_append_right _ (List.mem_append_right _ (List.mem_append_right _ (List.mem_append_right _ (List.mem_append_right _ (List.mem_of_getElem? (l := tables_1_5) (i := 129) rfl))))), good_of_word (by decide +kernel)⟩
set_option maxRecDepth 20000 in
theorem qw_904 : qG (Cond.code yX6_findPairs cX6_findPairs 4 (some .int)) := ⟨List.mem_append_right _ (List.mem_append_right _ (List.mem_append_right _ (List.mem_append_right _ (List.mem_append_right _ (List.mem_of_getElem? (l := tables_1_5) (i := 148) rfl))))), good_of_word (by decide +kernel)⟩
theorem qw_905 : qG (Cond.selects RX6 yX6_findPairs yX6_findPairs) := ⟨List.mem_append_left _ (List.mem_of_getElem? (i := 55) (by decide +kernel)), good_of_word (by decide +kernel)⟩
set_option maxRecDepth 20000 in
theorem qw_906 : qG (Cond.instanceMethod yX6_findPairs) := ⟨List.mem_append_right _ (List.mem_append_right _ (List.mem_append_right _ (List.mem_append_right _ (List.mem_append_right _ (List.mem_of_getElem? (l := tables_1_5) (i := 147) rfl))))), good_of_word (by decide +kernel)⟩
set_option maxRecDepth 20000 in
theorem qw_907 : qG (Cond.methodLink RX6 243 yX6_findPairs) := ⟨List.mem_append_right _ (List.mem_append_right _ (List.mem_append_right _ (List.mem_append_right _ (List.mem_append_right _ (List.mem_of_getElem? (l := tables_1_5) (i := 145) rfl))))), good_of_word (by decide +kernel)⟩
set_option maxRecDepth 20000 in
theorem qw_908 : qG (Cond.constant RX6 246 (1000000)) := ⟨List.mem_append_right _ (List.mem_append_right _ (List.mem_append_right _ (List.mem_append_right _ (List.mem_append_right _ (List.mem_of_getElem? (l := tables_1_5) (i := 149) rfl))))), good_of_word (by decide +kernel)⟩
set_option maxRecDepth 20000 in
theorem qw_909 : qG (Cond.code yX6_places cX6_places 9 (some .int)) := ⟨List.mem_append_right _ (List.mem_append_right _ (List.mem_append_right _ (List.mem_append_right _ (List.mem_append_right _ (List.mem_of_getElem? (l := tables_1_5) (i := 144) rfl))))), good_of_word (by decide +kernel)⟩
set_option maxRecDepth 20000 in
theorem qw_910 : qG (Cond.selects RX6 yX6_places yX6_places) := ⟨List.mem_append_right _ (List.mem_append_right _ (List.mem_append_right _ (List.mem_append_right _ (List.mem_append_right _ (List.mem_of_getElem? (l := tables_1_5) (i := 143) rfl))))), good_of_word (by decide +kernel)⟩
set_option maxRecDepth 20000 in
theorem qw_911 : qG (Cond.instanceMethod yX6_places) := ⟨List.mem_append_right _ (List.mem_append_right _ (List.mem_append_right _ (List.mem_append_right _ (List.mem_append_right _ (List.mem_of_getElem? (l := tables_1_5) (i := 142) rfl))))), good_of_word (by decide +kernel)⟩
set_option maxRecDepth 20000 in
theorem qw_912 : qG (Cond.methodLink RL 138 yX6_places) := ⟨List.mem_append_right _ (List.mem_append_right _ (List.mem_append_right _ (List.mem_append_right _ (List.mem_append_right _ (List.mem_of_getElem? (l := tables_1_5) (i := 141) rfl))))), good_of_word (by decide +kernel)⟩
set_option maxRecDepth 20000 in
theorem qw_913 : qG (Cond.code yX6_guard cX6_guard 10 (some .int)) := ⟨List.mem_append_right _ (List.mem_append_right _ (List.mem_append_right _ (List.mem_append_right _ (List.mem_append_right _ (List.mem_of_getElem? (l := tables_1_5) (i := 153) rfl))))), good_of_word (by decide +kernel)⟩
set_option maxRecDepth 20000 in
theorem qw_914 : qG (Cond.selects RX6 yX6_guard yX6_guard) := ⟨List.mem_append_right _ (List.mem_append_right _ (List.mem_append_right _ (List.mem_append_right _ (List.mem_append_right _ (List.mem_of_getElem? (l := tables_1_5) (i := 152) rfl))))), good_of_word (by decide +kernel)⟩
set_option maxRecDepth 20000 in
theorem qw_915 : qG (Cond.instanceMethod yX6_guard) := ⟨List.mem_append_right _ (List.mem_append_right _ (List.mem_append_right _ (List.mem_append_right _ (List.mem_append_right _ (List.mem_of_getElem? (l := tables_1_5) (i := 151) rfl))))), good_of_word (by decide +kernel)⟩
set_option maxRecDepth 20000 in
theorem qw_916 : qG (Cond.methodLink RL 142 yX6_guard) := ⟨List.mem_append_right _ (List.mem_append_right _ (List.mem_append_right _ (List.mem_append_right _ (List.mem_append_right _ (List.mem_of_getElem? (l := tables_1_5) (i := 150) rfl))))), good_of_word (by decide +kernel)⟩
set_option maxRecDepth 20000 in
theorem qw_917 : qG (Cond.code yX6_hide cX6_hide 4 (some .int)) := ⟨List.mem_append_right _ (List.mem_append_right _ (List.mem_append_right _ (List.mem_append_right _ (List.mem_append_right _ (List.mem_of_getElem? (l := tables_1_5) (i := 157) rfl))))), good_of_word (by decide +kernel)⟩
set_option maxRecDepth 20000 in
theorem qw_918 : qG (Cond.selects RX6 yX6_hide yX6_hide) := ⟨List.mem_append_right _ (List.mem_append_right _ (List.mem_append_right _ (List.mem_append_right _ (List.mem_append_right _ (List.mem_of_getElem? (l := tables_1_5) (i := 156) rfl))))), good_of_word (by decide +kernel)⟩
set_option maxRecDepth 20000 in
theorem qw_919 : qG (Cond.instanceMethod yX6_hide) := ⟨List.mem_append_right _ (List.mem_append_right _ (List.mem_append_right _ (List.mem_append_right _ (List.mem_append_right _ (List.mem_of_getElem? (l := tables_1_5) (i := 155) rfl))))), good_of_word (by decide +kernel)⟩
set_option maxRecDepth 20000 in
theorem qw_920 : qG (Cond.methodLink RL 146 yX6_hide) := ⟨List.mem_append_right _ (List.mem_append_right _ (List.mem_append_right _ (List.mem_append_right _ (List.mem_append_right _ (List.mem_of_getElem? (l := tables_1_5) (i := 154) rfl))))), good_of_word (by decide +kernel)⟩
set_option maxRecDepth 20000 in
theorem qw_921 : qG (Cond.code yX6_best cX6_best 7 (some .int)) := ⟨List.mem_append_right _ (List.mem_append_right _ (List.mem_append_right _ (List.mem_append_right _ (List.mem_append_right _ (List.mem_of_getElem? (l := tables_1_5) (i := 161) rfl))))), good_of_word (by decide +kernel)⟩
set_option maxRecDepth 20000 in
theorem qw_922 : qG (Cond.selects RX6 yX6_best yX6_best) := ⟨List.mem_append_right _ (List.mem_append_right _ (List.mem_append_right _ (List.mem_append_right _ (List.mem_append_right _ (List.mem_of_getElem? (l := tables_1_5) (i := 160) rfl))))), good_of_word (by decide +kernel)⟩
set_option maxRecDepth 20000 in
theorem qw_923 : qG (Cond.instanceMethod yX6_best) := ⟨List.mem_append_right _ (List.mem_append_right _ (List.mem_append_right _ (List.mem_append_right _ (List.mem_append_right _ (List.mem_of_getElem? (l := tables_1_5) (i := 159) rfl))))), good_of_word (by decide +kernel)⟩
set_option maxRecDepth 20000 in
theorem qw_924 : qG (Cond.methodLink RL 150 yX6_best) := ⟨List.mem_append_right _ (List.mem_append_right _ (List.mem_append_right _ (List.mem_append_right _ (List.mem_append_right _ (List.mem_of_getElem? (l := tables_1_5) (i := 158) rfl))))), good_of_word (by decide +kernel)⟩
set_option maxRecDepth 20000 in
theorem qw_925 : qG (Cond.code yX6_showersOf cX6_showersOf 5 (some .int)) := ⟨List.mem_append_right _ (List.mem_append_right _ (List.mem_append_right _ (List.mem_append_right _ (List.mem_append_right _ (List.mem_of_getElem? (l := tables_1_5) (i := 170) rfl))))), good_of_word (by decide +kernel)⟩
theorem qw_926 : qG (Cond.selects RX6 yX6_showersOf yX6_showersOf) := ⟨List.mem_append_left _ (List.mem_of_getElem? (i := 56) (by decide +kernel)), good_of_word (by decide +kernel)⟩
set_option maxRecDepth 20000 in
theorem qw_927 : qG (Cond.instanceMethod yX6_showersOf) := ⟨List.mem_append_right _ (List.mem_append_right _ (List.mem_append_right _ (List.mem_append_right _ (List.mem_append_right _ (List.mem_of_getElem? (l := tables_1_5) (i := 169) rfl))))), good_of_word (by decide +kernel)⟩
set_option maxRecDepth 20000 in
theorem qw_928 : qG (Cond.methodLink RX6 249 yX6_showersOf) := ⟨List.mem_append_right _ (List.mem_append_right _ (List.mem_append_right _ (List.mem_append_right _ (List.mem_append_right _ (List.mem_of_getElem? (l := tables_1_5) (i := 167) rfl))))), good_of_word (by decide +kernel)⟩
set_option maxRecDepth 20000 in
theorem qw_929 : qG (Cond.constantLong RX6 247 (10)) := ⟨List.mem_append_right _ (List.mem_append_right _ (List.mem_append_right _ (List.mem_append_right _ (List.mem_append_right _ (List.mem_of_getElem? (l := tables_1_5) (i := 166) rfl))))), good_of_word (by decide +kernel)⟩
set_option maxRecDepth 20000 in
theorem qw_930 : qG (Cond.code yX6_power cX6_power 5 (some .long)) := ⟨List.mem_append_right _ (List.mem_append_right _ (List.mem_append_right _ (List.mem_append_right _ (List.mem_append_right _ (List.mem_of_getElem? (l := tables_1_5) (i := 173) rfl))))), good_of_word (by decide +kernel)⟩
set_option maxRecDepth 20000 in
theorem qw_931 : qG (Cond.static yX6_power) := ⟨List.mem_append_right _ (List.mem_append_right _ (List.mem_append_right _ (List.mem_append_right _ (List.mem_append_right _ (List.mem_of_getElem? (l := tables_1_5) (i := 172) rfl))))), good_of_word (by decide +kernel)⟩
set_option maxRecDepth 20000 in
theorem qw_932 : qG (Cond.methodLink RX6 252 yX6_power) := ⟨List.mem_append_right _ (List.mem_append_right _ (List.mem_append_right _ (List.mem_append_right _ (List.mem_append_right _ (List.mem_of_getElem? (l := tables_1_5) (i := 171) rfl))))), good_of_word (by decide +kernel)⟩
set_option maxRecDepth 20000 in
theorem qw_933 : qG (Cond.code yX6_luck cX6_luck 6 (some .long)) := ⟨List.mem_append_right _ (List.mem_append_right _ (List.mem_append_right _ (List.mem_append_right _ (List.mem_append_right _ (List.mem_of_getElem? (l := tables_1_5) (i := 165) rfl))))), good_of_word (by decide +kernel)⟩
set_option maxRecDepth 20000 in
theorem qw_934 : qG (Cond.selects RX6 yX6_luck yX6_luck) := ⟨List.mem_append_right _ (List.mem_append_right _ (List.mem_append_right _ (List.mem_append_right _ (List.mem_append_right _ (List.mem_of_getElem? (l := tables_1_5) (i := 164) rfl))))), good_of_word (by decide +kernel)⟩
set_option maxRecDepth 20000 in
theorem qw_935 : qG (Cond.instanceMethod yX6_luck) := ⟨List.mem_append_right _ (List.mem_append_right _ (List.mem_append_right _ (List.mem_append_right _ (List.mem_append_right _ (List.mem_of_getElem? (l := tables_1_5) (i := 163) rfl))))), good_of_word (by decide +kernel)⟩
set_option maxRecDepth 20000 in
theorem qw_936 : qG (Cond.methodLink RL 155 yX6_luck) := ⟨List.mem_append_right _ (List.mem_append_right _ (List.mem_append_right _ (List.mem_append_right _ (List.mem_append_right _ (List.mem_of_getElem? (l := tables_1_5) (i := 162) rfl))))), good_of_word (by decide +kernel)⟩
set_option maxRecDepth 20000 in
theorem qw_937 : qG (Cond.code yX6_mean cX6_mean 8 (some .long)) := ⟨List.mem_append_right _ (List.mem_append_right _ (List.mem_append_right _ (List.mem_append_right _ (List.mem_append_right _ (List.mem_of_getElem? (l := tables_1_5) (i := 177) rfl))))), good_of_word (by decide +kernel)⟩
set_option maxRecDepth 20000 in
theorem qw_938 : qG (Cond.selects RX6 yX6_mean yX6_mean) := ⟨List.mem_append_right _ (List.mem_append_right _ (List.mem_append_right _ (List.mem_append_right _ (List.mem_append_right _ (List.mem_of_getElem? (l := tables_1_5) (i := 176) rfl))))), good_of_word (by decide +kernel)⟩
set_option maxRecDepth 20000 in
theorem qw_939 : qG (Cond.instanceMethod yX6_mean) := ⟨List.mem_append_right _ (List.mem_append_right _ (List.mem_append_right _ (List.mem_append_right _ (List.mem_append_right _ (List.mem_of_getElem? (l := tables_1_5) (i := 175) rfl))))), good_of_word (by decide +kernel)⟩
set_option maxRecDepth 20000 in
theorem qw_940 : qG (Cond.methodLink RL 159 yX6_mean) := ⟨List.mem_append_right _ (List.mem_append_right _ (List.mem_append_right _ (List.mem_append_right _ (List.mem_append_right _ (List.mem_of_getElem? (l := tables_1_5) (i := 174) rfl))))), good_of_word (by decide +kernel)⟩
set_option maxRecDepth 20000 in
theorem qw_941 : qG (Cond.constant RX6 258 (1103515245)) := ⟨List.mem_append_right _ (List.mem_append_right _ (List.mem_append_right _ (List.mem_append_right _ (List.mem_append_right _ (List.mem_of_getElem? (l := tables_1_5) (i := 183) rfl))))), good_of_word (by decide +kernel)⟩
set_option maxRecDepth 20000 in
theorem qw_942 : qG (Cond.constantLong RX6 256 (60)) := ⟨List.mem_append_right _ (List.mem_append_right _ (List.mem_append_right _ (List.mem_append_right _ (List.mem_append_right _ (List.mem_of_getElem? (l := tables_1_5) (i := 182) rfl))))), good_of_word (by decide +kernel)⟩
set_option maxRecDepth 20000 in
theorem qw_943 : qG (Cond.code yX6_drift cX6_drift 7 (some .int)) := ⟨List.mem_append_right _ (List.mem_append_right _ (List.mem_append_right _ (List.mem_append_right _ (List.mem_append_right _ (List.mem_of_getElem? (l := tables_1_5) (i := 181) rfl))))), good_of_word (by decide +kernel)⟩
set_option maxRecDepth 20000 in
theorem qw_944 : qG (Cond.selects RX6 yX6_drift yX6_drift) := ⟨List.mem_append_right _ (List.mem_append_right _ (List.mem_append_right _ (List.mem_append_right _ (List.mem_append_right _ (List.mem_of_getElem? (l := tables_1_5) (i := 180) rfl))))), good_of_word (by decide +kernel)⟩
set_option maxRecDepth 20000 in
theorem qw_945 : qG (Cond.instanceMethod yX6_drift) := ⟨List.mem_append_right _ (List.mem_append_right _ (List.mem_append_right _ (List.mem_append_right _ (List.mem_append_right _ (List.mem_of_getElem? (l := tables_1_5) (i := 179) rfl))))), good_of_word (by decide +kernel)⟩
set_option maxRecDepth 20000 in
theorem qw_946 : qG (Cond.methodLink RL 163 yX6_drift) := ⟨List.mem_append_right _ (List.mem_append_right _ (List.mem_append_right _ (List.mem_append_right _ (List.mem_append_right _ (List.mem_of_getElem? (l := tables_1_5) (i := 178) rfl))))), good_of_word (by decide +kernel)⟩
set_option maxRecDepth 20000 in
theorem qw_947 : qG (Cond.code yX6_copies cX6_copies 4 none) := ⟨List.mem_append_right _ (List.mem_append_right _ (List.mem_append_right _ (List.mem_append_right _ (List.mem_append_right _ (List.mem_of_getElem? (l := tables_1_5) (i := 191) rfl))))), good_of_word (by decide +kernel)⟩
theorem qw_948 : qG (Cond.selects RX6 yX6_copies yX6_copies) := ⟨List.mem_append_left _ (List.mem_of_getElem? (i := 57) (by decide +kernel)), good_of_word (by decide +kernel)⟩
set_option maxRecDepth 20000 in
theorem qw_949 : qG (Cond.instanceMethod yX6_copies) := ⟨List.mem_append_right _ (List.mem_append_right _ (List.mem_append_right _ (List.mem_append_right _ (List.mem_append_right _ (List.mem_of_getElem? (l := tables_1_5) (i := 190) rfl))))), good_of_word (by decide +kernel)⟩
set_option maxRecDepth 20000 in
theorem qw_950 : qG (Cond.methodLink RX6 259 yX6_copies) := ⟨List.mem_append_right _ (List.mem_append_right _ (List.mem_append_right _ (List.mem_append_right _ (List.mem_append_right _ (List.mem_of_getElem? (l := tables_1_5) (i := 188) rfl))))), good_of_word (by decide +kernel)⟩
set_option maxRecDepth 20000 in
theorem qw_951 : qG (Cond.code yX6_keep cX6_keep 3 (some .int)) := ⟨List.mem_append_right _ (List.mem_append_right _ (List.mem_append_right _ (List.mem_append_right _ (List.mem_append_right _ (List.mem_of_getElem? (l := tables_1_5) (i := 187) rfl))))), good_of_word (by decide +kernel)⟩
set_option maxRecDepth 20000 in
theorem qw_952 : qG (Cond.selects RX6 yX6_keep yX6_keep) := ⟨List.mem_append_right _ (List.mem_append_right _ (List.mem_append_right _ (List.mem_append_right _ (List.mem_append_right _ (List.mem_of_getElem? (l := tables_1_5) (i := 186) rfl))))), good_of_word (by decide +kernel)⟩
set_option maxRecDepth 20000 in
theorem qw_953 : qG (Cond.instanceMethod yX6_keep) := ⟨List.mem_append_right _ (List.mem_append_right _ (List.mem_append_right _ (List.mem_append_right _ (List.mem_append_right _ (List.mem_of_getElem? (l := tables_1_5) (i := 185) rfl))))), good_of_word (by decide +kernel)⟩
set_option maxRecDepth 20000 in
theorem qw_954 : qG (Cond.methodLink RL 167 yX6_keep) := ⟨List.mem_append_right _ (List.mem_append_right _ (List.mem_append_right _ (List.mem_append_right _ (List.mem_append_right _ (List.mem_of_getElem? (l := tables_1_5) (i := 184) rfl))))), good_of_word (by decide +kernel)⟩
set_option maxRecDepth 20000 in
theorem qw_955 : qG (Cond.code yX6_back cX6_back 2 (some .int)) := ⟨List.mem_append_right _ (List.mem_append_right _ (List.mem_append_right _ (List.mem_append_right _ (List.mem_append_right _ (List.mem_of_getElem? (l := tables_1_5) (i := 195) rfl))))), good_of_word (by decide +kernel)⟩
set_option maxRecDepth 20000 in
theorem qw_956 : qG (Cond.selects RX6 yX6_back yX6_back) := ⟨List.mem_append_right _ (List.mem_append_right _ (List.mem_append_right _ (List.mem_append_right _ (List.mem_append_right _ (List.mem_of_getElem? (l := tables_1_5) (i := 194) rfl))))), good_of_word (by decide +kernel)⟩
set_option maxRecDepth 20000 in
theorem qw_957 : qG (Cond.instanceMethod yX6_back) := ⟨List.mem_append_right _ (List.mem_append_right _ (List.mem_append_right _ (List.mem_append_right _ (List.mem_append_right _ (List.mem_of_getElem? (l := tables_1_5) (i := 193) rfl))))), good_of_word (by decide +kernel)⟩
set_option maxRecDepth 20000 in
theorem qw_958 : qG (Cond.methodLink RL 171 yX6_back) := ⟨List.mem_append_right _ (List.mem_append_right _ (List.mem_append_right _ (List.mem_append_right _ (List.mem_append_right _ (List.mem_of_getElem? (l := tables_1_5) (i := 192) rfl))))), good_of_word (by decide +kernel)⟩
set_option maxRecDepth 20000 in
theorem qw_959 : qG (Cond.constantLong RX6 263 (3)) := ⟨List.mem_append_right _ (List.mem_append_right _ (List.mem_append_right _ (List.mem_append_right _ (List.mem_append_right _ (List.mem_of_getElem? (l := tables_1_5) (i := 203) rfl))))), good_of_word (by decide +kernel)⟩
set_option maxRecDepth 20000 in
theorem qw_960 : qG (Cond.code yX6_isSheet cX6_isSheet 2 (some .boolean)) := ⟨List.mem_append_right _ (List.mem_append_right _ (List.mem_append_right _ (List.mem_append_right _ (List.mem_append_right _ (List.mem_of_getElem? (l := tables_1_5) (i := 202) rfl))))), good_of_word (by decide +kernel)⟩
set_option maxRecDepth 20000 in
theorem qw_961 : qG (Cond.static yX6_isSheet) := ⟨List.mem_append_right _ (List.mem_append_right _ (List.mem_append_right _ (List.mem_append_right _ (List.mem_append_right _ (List.mem_of_getElem? (l := tables_1_5) (i := 201) rfl))))), good_of_word (by decide +kernel)⟩
set_option maxRecDepth 20000 in
theorem qw_962 : qG (Cond.methodLink RX6 265 yX6_isSheet) := ⟨List.mem_append_right _ (List.mem_append_right _ (List.mem_append_right _ (List.mem_append_right _ (List.mem_append_right _ (List.mem_of_getElem? (l := tables_1_5) (i := 200) rfl))))), good_of_word (by decide +kernel)⟩
set_option maxRecDepth 20000 in
theorem qw_963 : qG (Cond.code yX6_sheet cX6_sheet 5 (some .int)) := ⟨List.mem_append_right _ (List.mem_append_right _ (List.mem_append_right _ (List.mem_append_right _ (List.mem_append_right _ (List.mem_of_getElem? (l := tables_1_5) (i := 199) rfl))))), good_of_word (by decide +kernel)⟩
set_option maxRecDepth 20000 in
theorem qw_964 : qG (Cond.selects RX6 yX6_sheet yX6_sheet) := ⟨List.mem_append_right _ (List.mem_append_right _ (List.mem_append_right _ (List.mem_append_right _ (List.mem_append_right _ (List.mem_of_getElem? (l := tables_1_5) (i := 198) rfl))))), good_of_word (by decide +kernel)⟩
set_option maxRecDepth 20000 in
theorem qw_965 : qG (Cond.instanceMethod yX6_sheet) := ⟨List.mem_append_right _ (List.mem_append_right _ (List.mem_append_right _ (List.mem_append_right _ (List.mem_append_right _ (List.mem_of_getElem? (l := tables_1_5) (i := 197) rfl))))), good_of_word (by decide +kernel)⟩
set_option maxRecDepth 20000 in
theorem qw_966 : qG (Cond.methodLink RL 175 yX6_sheet) := ⟨List.mem_append_right _ (List.mem_append_right _ (List.mem_append_right _ (List.mem_append_right _ (List.mem_append_right _ (List.mem_of_getElem? (l := tables_1_5) (i := 196) rfl))))), good_of_word (by decide +kernel)⟩
set_option maxRecDepth 20000 in
theorem qw_967 : qG (Cond.code yX6_lay cX6_lay 4 (some .int)) := ⟨List.mem_append_right _ (List.mem_append_right _ (List.mem_append_right _ (List.mem_append_right _ (List.mem_append_right _ (List.mem_of_getElem? (l := tables_1_5) (i := 207) rfl))))), good_of_word (by decide +kernel)⟩
set_option maxRecDepth 20000 in
theorem qw_968 : qG (Cond.selects RX6 yX6_lay yX6_lay) := ⟨List.mem_append_right _ (List.mem_append_right _ (List.mem_append_right _ (List.mem_append_right _ (List.mem_append_right _ (List.mem_of_getElem? (l := tables_1_5) (i := 206) rfl))))), good_of_word (by decide +kernel)⟩
set_option maxRecDepth 20000 in
theorem qw_969 : qG (Cond.instanceMethod yX6_lay) := ⟨List.mem_append_right _ (List.mem_append_right _ (List.mem_append_right _ (List.mem_append_right _ (List.mem_append_right _ (List.mem_of_getElem? (l := tables_1_5) (i := 205) rfl))))), good_of_word (by decide +kernel)⟩
set_option maxRecDepth 20000 in
theorem qw_970 : qG (Cond.methodLink RL 179 yX6_lay) := ⟨List.mem_append_right _ (List.mem_append_right _ (List.mem_append_right _ (List.mem_append_right _ (List.mem_append_right _ (List.mem_of_getElem? (l := tables_1_5) (i := 204) rfl))))), good_of_word (by decide +kernel)⟩
set_option maxRecDepth 20000 in
theorem qw_971 : qG (Cond.methodLink RX6 271 yX6_turn) := ⟨List.mem_append_right _ (List.mem_append_right _ (List.mem_append_right _ (List.mem_append_right _ (List.mem_append_right _ (List.mem_of_getElem? (l := tables_1_5) (i := 213) rfl))))), good_of_word (by decide +kernel)⟩
set_option maxRecDepth 20000 in
theorem qw_972 : qG (Cond.fieldLink RX6 274 "BackLensesModel" "torn" "I") := ⟨List.mem_append_right _ (List.mem_append_right _ (List.mem_append_right _ (List.mem_append_right _ (List.mem_append_left _ (List.mem_of_getElem? (l := tables_1_4) (i := 58) rfl))))), good_of_word (by decide +kernel)⟩
set_option maxRecDepth 20000 in
theorem qw_973 : qG (Cond.constantLong RX6 269 (13)) := ⟨List.mem_append_right _ (List.mem_append_right _ (List.mem_append_right _ (List.mem_append_right _ (List.mem_append_right _ (List.mem_of_getElem? (l := tables_1_5) (i := 212) rfl))))), good_of_word (by decide +kernel)⟩
set_option maxRecDepth 20000 in
theorem qw_974 : qG (Cond.code yX6_read cX6_read 12 (some .int)) := ⟨List.mem_append_right _ (List.mem_append_right _ (List.mem_append_right _ (List.mem_append_right _ (List.mem_append_right _ (List.mem_of_getElem? (l := tables_1_5) (i := 211) rfl))))), good_of_word (by decide +kernel)⟩
set_option maxRecDepth 20000 in
theorem qw_975 : qG (Cond.selects RX6 yX6_read yX6_read) := ⟨List.mem_append_right _ (List.mem_append_right _ (List.mem_append_right _ (List.mem_append_right _ (List.mem_append_right _ (List.mem_of_getElem? (l := tables_1_5) (i := 210) rfl))))), good_of_word (by decide +kernel)⟩
set_option maxRecDepth 20000 in
theorem qw_976 : qG (Cond.instanceMethod yX6_read) := ⟨List.mem_append_right _ (List.mem_append_right _ (List.mem_append_right _ (List.mem_append_right _ (List.mem_append_right _ (List.mem_of_getElem? (l := tables_1_5) (i := 209) rfl))))), good_of_word (by decide +kernel)⟩
set_option maxRecDepth 20000 in
theorem qw_977 : qG (Cond.methodLink RL 184 yX6_read) := ⟨List.mem_append_right _ (List.mem_append_right _ (List.mem_append_right _ (List.mem_append_right _ (List.mem_append_right _ (List.mem_of_getElem? (l := tables_1_5) (i := 208) rfl))))), good_of_word (by decide +kernel)⟩
set_option maxRecDepth 20000 in
theorem qw_978 : qG (Cond.code yX6_torn cX6_torn 1 (some .int)) := ⟨List.mem_append_right _ (List.mem_append_right _ (List.mem_append_right _ (List.mem_append_right _ (List.mem_append_right _ (List.mem_of_getElem? (l := tables_1_5) (i := 217) rfl))))), good_of_word (by decide +kernel)⟩
set_option maxRecDepth 20000 in
theorem qw_979 : qG (Cond.selects RX6 yX6_torn yX6_torn) := ⟨List.mem_append_right _ (List.mem_append_right _ (List.mem_append_right _ (List.mem_append_right _ (List.mem_append_right _ (List.mem_of_getElem? (l := tables_1_5) (i := 216) rfl))))), good_of_word (by decide +kernel)⟩
set_option maxRecDepth 20000 in
theorem qw_980 : qG (Cond.instanceMethod yX6_torn) := ⟨List.mem_append_right _ (List.mem_append_right _ (List.mem_append_right _ (List.mem_append_right _ (List.mem_append_right _ (List.mem_of_getElem? (l := tables_1_5) (i := 215) rfl))))), good_of_word (by decide +kernel)⟩
set_option maxRecDepth 20000 in
theorem qw_981 : qG (Cond.methodLink RL 188 yX6_torn) := ⟨List.mem_append_right _ (List.mem_append_right _ (List.mem_append_right _ (List.mem_append_right _ (List.mem_append_right _ (List.mem_of_getElem? (l := tables_1_5) (i := 214) rfl))))), good_of_word (by decide +kernel)⟩
set_option maxRecDepth 20000 in
theorem qw_982 : qG (Cond.code yX6_count cX6_count 4 (some .int)) := ⟨List.mem_append_right _ (List.mem_append_right _ (List.mem_append_right _ (List.mem_append_right _ (List.mem_append_right _ (List.mem_of_getElem? (l := tables_1_5) (i := 221) rfl))))), good_of_word (by decide +kernel)⟩
set_option maxRecDepth 20000 in
theorem qw_983 : qG (Cond.selects RX6 yX6_count yX6_count) := ⟨List.mem_append_right _ (List.mem_append_right _ (List.mem_append_right _ (List.mem_append_right _ (List.mem_append_right _ (List.mem_of_getElem? (l := tables_1_5) (i := 220) rfl))))), good_of_word (by decide +kernel)⟩
set_option maxRecDepth 20000 in
theorem qw_984 : qG (Cond.instanceMethod yX6_count) := ⟨List.mem_append_right _ (List.mem_append_right _ (List.mem_append_right _ (List.mem_append_right _ (List.mem_append_right _ (List.mem_of_getElem? (l := tables_1_5) (i := 219) rfl))))), good_of_word (by decide +kernel)⟩
set_option maxRecDepth 20000 in
theorem qw_985 : qG (Cond.methodLink RL 192 yX6_count) := ⟨List.mem_append_right _ (List.mem_append_right _ (List.mem_append_right _ (List.mem_append_right _ (List.mem_append_right _ (List.mem_of_getElem? (l := tables_1_5) (i := 218) rfl))))), good_of_word (by decide +kernel)⟩
set_option maxRecDepth 20000 in
theorem qw_986 : qG (Cond.methodLink RL 9 yX5_init) := ⟨List.mem_append_right _ (List.mem_append_left _ (List.mem_of_getElem? (l := tables_1_1) (i := 18) rfl)), good_of_word (by decide +kernel)⟩
set_option maxRecDepth 20000 in
theorem qw_987 : qG (Cond.instanceMethod yX5_init) := ⟨List.mem_append_right _ (List.mem_append_left _ (List.mem_of_getElem? (l := tables_1_1) (i := 19) rfl)), good_of_word (by decide +kernel)⟩
set_option maxRecDepth 20000 in
theorem qw_988 : qG (Cond.methodLink RL 12 yX6_init) := ⟨List.mem_append_right _ (List.mem_append_right _ (List.mem_append_right _ (List.mem_append_right _ (List.mem_append_left _ (List.mem_of_getElem? (l := tables_1_4) (i := 18) rfl))))), good_of_word (by decide +kernel)⟩
set_option maxRecDepth 20000 in
theorem qw_989 : qG (Cond.instanceMethod yX6_init) := ⟨List.mem_append_right _ (List.mem_append_right _ (List.mem_append_right _ (List.mem_append_right _ (List.mem_append_left _ (List.mem_of_getElem? (l := tables_1_4) (i := 19) rfl))))), good_of_word (by decide +kernel)⟩
set_option maxRecDepth 20000 in
theorem qw_990 : qG (Cond.classLink RL 10 RX6) := ⟨List.mem_append_right _ (List.mem_append_right _ (List.mem_append_right _ (List.mem_append_right _ (List.mem_append_left _ (List.mem_of_getElem? (l := tables_1_4) (i := 16) rfl))))), good_of_word (by decide +kernel)⟩
set_option maxRecDepth 20000 in
theorem qw_991 : qG (Cond.classLink RL 7 RX5) := ⟨List.mem_append_right _ (List.mem_append_left _ (List.mem_of_getElem? (l := tables_1_1) (i := 16) rfl)), good_of_word (by decide +kernel)⟩
set_option maxRecDepth 20000 in
theorem qw_992 : qG (Cond.instantiable RX5 10) := ⟨List.mem_append_right _ (List.mem_append_left _ (List.mem_of_getElem? (l := tables_1_1) (i := 17) rfl)), good_of_word (by decide +kernel)⟩
set_option maxRecDepth 20000 in
theorem qw_993 : qG (Cond.instantiable RX6 29) := ⟨List.mem_append_right _ (List.mem_append_right _ (List.mem_append_right _ (List.mem_append_right _ (List.mem_append_left _ (List.mem_of_getElem? (l := tables_1_4) (i := 17) rfl))))), good_of_word (by decide +kernel)⟩

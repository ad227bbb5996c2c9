theorem qw_747 : qG (Cond.instanceMethod yX6_isLens) := ⟨List.mem_append_right _ (List.mem_of_getElem? (i := 945) (by decide +kernel)), good_of_word (by decide +kernel)⟩
theorem qw_748 : qG (Cond.methodLink RX6 187 yX6_isLens) := ⟨List.mem_append_right _ (List.mem_of_getElem? (i := 943) (by decide +kernel)), good_of_word (by decide +kernel)⟩
theorem qw_749 : qG (Cond.code yX6_lens cX6_lens 3 (some .int)) := ⟨List.mem_append_right _ (List.mem_of_getElem? (i := 942) (by decide +kernel)), good_of_word (by decide +kernel)⟩
theorem qw_750 : qG (Cond.selects RX6 yX6_lens yX6_lens) := ⟨List.mem_append_right _ (List.mem_of_getElem? (i := 941) (by decide +kernel)), good_of_word (by decide +kernel)⟩
theorem qw_751 : qG (Cond.instanceMethod yX6_lens) := ⟨List.mem_append_right _ (List.mem_of_getElem? (i := 940) (by decide +kernel)), good_of_word (by decide +kernel)⟩
theorem qw_752 : qG (Cond.methodLink RL 47 yX6_lens) := ⟨List.mem_append_right _ (List.mem_of_getElem? (i := 939) (by decide +kernel)), good_of_word (by decide +kernel)⟩
theorem qw_753 : qG (Cond.code yX6_becomes cX6_becomes 4 (some .int)) := ⟨List.mem_append_right _ (List.mem_of_getElem? (i := 961) (by decide +kernel)), good_of_word (by decide +kernel)⟩
theorem qw_754 : qG (Cond.selects RX6 yX6_becomes yX6_becomes) := ⟨List.mem_append_left _ (List.mem_of_getElem? (i := 43) (by decide +kernel)), good_of_word (by decide +kernel)⟩
theorem qw_755 : qG (Cond.instanceMethod yX6_becomes) := ⟨List.mem_append_right _ (List.mem_of_getElem? (i := 960) (by decide +kernel)), good_of_word (by decide +kernel)⟩
theorem qw_756 : qG (Cond.methodLink RX6 196 yX6_becomes) := ⟨List.mem_append_right _ (List.mem_of_getElem? (i := 958) (by decide +kernel)), good_of_word (by decide +kernel)⟩
theorem qw_757 : qG (Cond.constantLong RX6 161 (5)) := ⟨List.mem_append_right _ (List.mem_of_getElem? (i := 957) (by decide +kernel)), good_of_word (by decide +kernel)⟩
theorem qw_758 : qG (Cond.code yX6_isMark cX6_isMark 1 (some .boolean)) := ⟨List.mem_append_right _ (List.mem_of_getElem? (i := 956) (by decide +kernel)), good_of_word (by decide +kernel)⟩
theorem qw_759 : qG (Cond.static yX6_isMark) := ⟨List.mem_append_right _ (List.mem_of_getElem? (i := 955) (by decide +kernel)), good_of_word (by decide +kernel)⟩
theorem qw_760 : qG (Cond.methodLink RX6 193 yX6_isMark) := ⟨List.mem_append_right _ (List.mem_of_getElem? (i := 954) (by decide +kernel)), good_of_word (by decide +kernel)⟩
theorem qw_761 : qG (Cond.code yX6_first cX6_first 3 (some .int)) := ⟨List.mem_append_right _ (List.mem_of_getElem? (i := 953) (by decide +kernel)), good_of_word (by decide +kernel)⟩
theorem qw_762 : qG (Cond.selects RX6 yX6_first yX6_first) := ⟨List.mem_append_right _ (List.mem_of_getElem? (i := 952) (by decide +kernel)), good_of_word (by decide +kernel)⟩
theorem qw_763 : qG (Cond.instanceMethod yX6_first) := ⟨List.mem_append_right _ (List.mem_of_getElem? (i := 951) (by decide +kernel)), good_of_word (by decide +kernel)⟩
theorem qw_764 : qG (Cond.methodLink RL 51 yX6_first) := ⟨List.mem_append_right _ (List.mem_of_getElem? (i := 950) (by decide +kernel)), good_of_word (by decide +kernel)⟩
theorem qw_765 : qG (Cond.code yX6_turn cX6_turn 5 (some .int)) := ⟨List.mem_append_right _ (List.mem_of_getElem? (i := 965) (by decide +kernel)), good_of_word (by decide +kernel)⟩
theorem qw_766 : qG (Cond.selects RX6 yX6_turn yX6_turn) := ⟨List.mem_append_right _ (List.mem_of_getElem? (i := 964) (by decide +kernel)), good_of_word (by decide +kernel)⟩
theorem qw_767 : qG (Cond.instanceMethod yX6_turn) := ⟨List.mem_append_right _ (List.mem_of_getElem? (i := 963) (by decide +kernel)), good_of_word (by decide +kernel)⟩
theorem qw_768 : qG (Cond.methodLink RL 56 yX6_turn) := ⟨List.mem_append_right _ (List.mem_of_getElem? (i := 962) (by decide +kernel)), good_of_word (by decide +kernel)⟩
theorem qw_769 : qG (Cond.code yX6_cut cX6_cut 4 (some .int)) := ⟨List.mem_append_right _ (List.mem_of_getElem? (i := 969) (by decide +kernel)), good_of_word (by decide +kernel)⟩
theorem qw_770 : qG (Cond.selects RX6 yX6_cut yX6_cut) := ⟨List.mem_append_right _ (List.mem_of_getElem? (i := 968) (by decide +kernel)), good_of_word (by decide +kernel)⟩
theorem qw_771 : qG (Cond.instanceMethod yX6_cut) := ⟨List.mem_append_right _ (List.mem_of_getElem? (i := 967) (by decide +kernel)), good_of_word (by decide +kernel)⟩
theorem qw_772 : qG (Cond.methodLink RL 60 yX6_cut) := ⟨List.mem_append_right _ (List.mem_of_getElem? (i := 966) (by decide +kernel)), good_of_word (by decide +kernel)⟩
theorem qw_773 : qG (Cond.code yX6_grind cX6_grind 3 (some .int)) := ⟨List.mem_append_right _ (List.mem_of_getElem? (i := 973) (by decide +kernel)), good_of_word (by decide +kernel)⟩
theorem qw_774 : qG (Cond.selects RX6 yX6_grind yX6_grind) := ⟨List.mem_append_right _ (List.mem_of_getElem? (i := 972) (by decide +kernel)), good_of_word (by decide +kernel)⟩
theorem qw_775 : qG (Cond.instanceMethod yX6_grind) := ⟨List.mem_append_right _ (List.mem_of_getElem? (i := 971) (by decide +kernel)), good_of_word (by decide +kernel)⟩
theorem qw_776 : qG (Cond.methodLink RL 64 yX6_grind) := ⟨List.mem_append_right _ (List.mem_of_getElem? (i := 970) (by decide +kernel)), good_of_word (by decide +kernel)⟩
theorem qw_777 : qG (Cond.code yX6_regrind cX6_regrind 3 (some .int)) := ⟨List.mem_append_right _ (List.mem_of_getElem? (i := 977) (by decide +kernel)), good_of_word (by decide +kernel)⟩
theorem qw_778 : qG (Cond.selects RX6 yX6_regrind yX6_regrind) := ⟨List.mem_append_right _ (List.mem_of_getElem? (i := 976) (by decide +kernel)), good_of_word (by decide +kernel)⟩
theorem qw_779 : qG (Cond.instanceMethod yX6_regrind) := ⟨List.mem_append_right _ (List.mem_of_getElem? (i := 975) (by decide +kernel)), good_of_word (by decide +kernel)⟩
theorem qw_780 : qG (Cond.methodLink RL 68 yX6_regrind) := ⟨List.mem_append_right _ (List.mem_of_getElem? (i := 974) (by decide +kernel)), good_of_word (by decide +kernel)⟩
theorem qw_781 : qG (Cond.code yX6_crack cX6_crack 6 (some .int)) := ⟨List.mem_append_right _ (List.mem_of_getElem? (i := 981) (by decide +kernel)), good_of_word (by decide +kernel)⟩
theorem qw_782 : qG (Cond.selects RX6 yX6_crack yX6_crack) := ⟨List.mem_append_right _ (List.mem_of_getElem? (i := 980) (by decide +kernel)), good_of_word (by decide +kernel)⟩
theorem qw_783 : qG (Cond.instanceMethod yX6_crack) := ⟨List.mem_append_right _ (List.mem_of_getElem? (i := 979) (by decide +kernel)), good_of_word (by decide +kernel)⟩
theorem qw_784 : qG (Cond.methodLink RL 73 yX6_crack) := ⟨List.mem_append_right _ (List.mem_of_getElem? (i := 978) (by decide +kernel)), good_of_word (by decide +kernel)⟩
theorem qw_785 : qG (Cond.methodLink RX6 169 yX6_shiftTo) := ⟨List.mem_append_right _ (List.mem_of_getElem? (i := 990) (by decide +kernel)), good_of_word (by decide +kernel)⟩
theorem qw_786 : qG (Cond.code yX6_sightOn cX6_sightOn 3 (some .int)) := ⟨List.mem_append_right _ (List.mem_of_getElem? (i := 989) (by decide +kernel)), good_of_word (by decide +kernel)⟩
theorem qw_787 : qG (Cond.selects RX6 yX6_sightOn yX6_sightOn) := ⟨List.mem_append_left _ (List.mem_of_getElem? (i := 44) (by decide +kernel)), good_of_word (by decide +kernel)⟩
theorem qw_788 : qG (Cond.instanceMethod yX6_sightOn) := ⟨List.mem_append_right _ (List.mem_of_getElem? (i := 988) (by decide +kernel)), good_of_word (by decide +kernel)⟩
theorem qw_789 : qG (Cond.methodLink RX6 175 yX6_sightOn) := ⟨List.mem_append_right _ (List.mem_of_getElem? (i := 986) (by decide +kernel)), good_of_word (by decide +kernel)⟩
theorem qw_790 : qG (Cond.code yX6_beside cX6_beside 3 (some .int)) := ⟨List.mem_append_right _ (List.mem_of_getElem? (i := 1001) (by decide +kernel)), good_of_word (by decide +kernel)⟩
theorem qw_791 : qG (Cond.selects RX6 yX6_beside yX6_beside) := ⟨List.mem_append_left _ (List.mem_of_getElem? (i := 47) (by decide +kernel)), good_of_word (by decide +kernel)⟩
theorem qw_792 : qG (Cond.instanceMethod yX6_beside) := ⟨List.mem_append_right _ (List.mem_of_getElem? (i := 1000) (by decide +kernel)), good_of_word (by decide +kernel)⟩
theorem qw_793 : qG (Cond.methodLink RX6 166 yX6_beside) := ⟨List.mem_append_right _ (List.mem_of_getElem? (i := 998) (by decide +kernel)), good_of_word (by decide +kernel)⟩
theorem qw_794 : qG (Cond.code yX6_sight cX6_sight 6 (some .int)) := ⟨List.mem_append_right _ (List.mem_of_getElem? (i := 997) (by decide +kernel)), good_of_word (by decide +kernel)⟩
theorem qw_795 : qG (Cond.selects RX6 yX6_sight yX6_sight) := ⟨List.mem_append_left _ (List.mem_of_getElem? (i := 46) (by decide +kernel)), good_of_word (by decide +kernel)⟩
theorem qw_796 : qG (Cond.instanceMethod yX6_sight) := ⟨List.mem_append_right _ (List.mem_of_getElem? (i := 996) (by decide +kernel)), good_of_word (by decide +kernel)⟩
theorem qw_797 : qG (Cond.methodLink RX6 172 yX6_sight) := ⟨List.mem_append_right _ (List.mem_of_getElem? (i := 994) (by decide +kernel)), good_of_word (by decide +kernel)⟩
theorem qw_798 : qG (Cond.code yX6_shiftTo cX6_shiftTo 3 none) := ⟨List.mem_append_right _ (List.mem_of_getElem? (i := 993) (by decide +kernel)), good_of_word (by decide +kernel)⟩
theorem qw_799 : qG (Cond.selects RX6 yX6_shiftTo yX6_shiftTo) := ⟨List.mem_append_left _ (List.mem_of_getElem? (i := 45) (by decide +kernel)), good_of_word (by decide +kernel)⟩
theorem qw_800 : qG (Cond.instanceMethod yX6_shiftTo) := ⟨List.mem_append_right _ (List.mem_of_getElem? (i := 992) (by decide +kernel)), good_of_word (by decide +kernel)⟩
theorem qw_801 : qG (Cond.code yX6_sees cX6_sees 3 (some .int)) := ⟨List.mem_append_right _ (List.mem_of_getElem? (i := 985) (by decide +kernel)), good_of_word (by decide +kernel)⟩
theorem qw_802 : qG (Cond.selects RX6 yX6_sees yX6_sees) := ⟨List.mem_append_right _ (List.mem_of_getElem? (i := 984) (by decide +kernel)), good_of_word (by decide +kernel)⟩
theorem qw_803 : qG (Cond.instanceMethod yX6_sees) := ⟨List.mem_append_right _ (List.mem_of_getElem? (i := 983) (by decide +kernel)), good_of_word (by decide +kernel)⟩
theorem qw_804 : qG (Cond.methodLink RL 77 yX6_sees) := ⟨List.mem_append_right _ (List.mem_of_getElem? (i := 982) (by decide +kernel)), good_of_word (by decide +kernel)⟩
theorem qw_805 : qG (Cond.code yX6_shownBy cX6_shownBy 3 (some .int)) := ⟨List.mem_append_right _ (List.mem_of_getElem? (i := 1009) (by decide +kernel)), good_of_word (by decide +kernel)⟩
theorem qw_806 : qG (Cond.selects RX6 yX6_shownBy yX6_shownBy) := ⟨List.mem_append_left _ (List.mem_of_getElem? (i := 48) (by decide +kernel)), good_of_word (by decide +kernel)⟩
theorem qw_807 : qG (Cond.instanceMethod yX6_shownBy) := ⟨List.mem_append_right _ (List.mem_of_getElem? (i := 1008) (by decide +kernel)), good_of_word (by decide +kernel)⟩
theorem qw_808 : qG (Cond.methodLink RX6 199 yX6_shownBy) := ⟨List.mem_append_right _ (List.mem_of_getElem? (i := 1006) (by decide +kernel)), good_of_word (by decide +kernel)⟩
theorem qw_809 : qG (Cond.code yX6_shows cX6_shows 4 (some .int)) := ⟨List.mem_append_right _ (List.mem_of_getElem? (i := 1005) (by decide +kernel)), good_of_word (by decide +kernel)⟩
theorem qw_810 : qG (Cond.selects RX6 yX6_shows yX6_shows) := ⟨List.mem_append_right _ (List.mem_of_getElem? (i := 1004) (by decide +kernel)), good_of_word (by decide +kernel)⟩
theorem qw_811 : qG (Cond.instanceMethod yX6_shows) := ⟨List.mem_append_right _ (List.mem_of_getElem? (i := 1003) (by decide +kernel)), good_of_word (by decide +kernel)⟩
theorem qw_812 : qG (Cond.methodLink RL 81 yX6_shows) := ⟨List.mem_append_right _ (List.mem_of_getElem? (i := 1002) (by decide +kernel)), good_of_word (by decide +kernel)⟩
theorem qw_813 : qG (Cond.code yX6_unlike cX6_unlike 5 (some .int)) := ⟨List.mem_append_right _ (List.mem_of_getElem? (i := 1017) (by decide +kernel)), good_of_word (by decide +kernel)⟩
theorem qw_814 : qG (Cond.selects RX6 yX6_unlike yX6_unlike) := ⟨List.mem_append_left _ (List.mem_of_getElem? (i := 49) (by decide +kernel)), good_of_word (by decide +kernel)⟩
theorem qw_815 : qG (Cond.instanceMethod yX6_unlike) := ⟨List.mem_append_right _ (List.mem_of_getElem? (i := 1016) (by decide +kernel)), good_of_word (by decide +kernel)⟩
theorem qw_816 : qG (Cond.methodLink RX6 202 yX6_unlike) := ⟨List.mem_append_right _ (List.mem_of_getElem? (i := 1014) (by decide +kernel)), good_of_word (by decide +kernel)⟩
theorem qw_817 : qG (Cond.code yX6_flag cX6_flag 1 (some .int)) := ⟨List.mem_append_right _ (List.mem_of_getElem? (i := 1020) (by decide +kernel)), good_of_word (by decide +kernel)⟩
theorem qw_818 : qG (Cond.static yX6_flag) := ⟨List.mem_append_right _ (List.mem_of_getElem? (i := 1019) (by decide +kernel)), good_of_word (by decide +kernel)⟩
theorem qw_819 : qG (Cond.methodLink RX6 205 yX6_flag) := ⟨List.mem_append_right _ (List.mem_of_getElem? (i := 1018) (by decide +kernel)), good_of_word (by decide +kernel)⟩
theorem qw_820 : qG (Cond.code yX6_frame cX6_frame 4 (some .int)) := ⟨List.mem_append_right _ (List.mem_of_getElem? (i := 1013) (by decide +kernel)), good_of_word (by decide +kernel)⟩
theorem qw_821 : qG (Cond.selects RX6 yX6_frame yX6_frame) := ⟨List.mem_append_right _ (List.mem_of_getElem? (i := 1012) (by decide +kernel)), good_of_word (by decide +kernel)⟩
theorem qw_822 : qG (Cond.instanceMethod yX6_frame) := ⟨List.mem_append_right _ (List.mem_of_getElem? (i := 1011) (by decide +kernel)), good_of_word (by decide +kernel)⟩
theorem qw_823 : qG (Cond.methodLink RL 85 yX6_frame) := ⟨List.mem_append_right _ (List.mem_of_getElem? (i := 1010) (by decide +kernel)), good_of_word (by decide +kernel)⟩
theorem qw_824 : qG (Cond.code yX6_between cX6_between 3 (some .int)) := ⟨List.mem_append_right _ (List.mem_of_getElem? (i := 1024) (by decide +kernel)), good_of_word (by decide +kernel)⟩
theorem qw_825 : qG (Cond.selects RX6 yX6_between yX6_between) := ⟨List.mem_append_right _ (List.mem_of_getElem? (i := 1023) (by decide +kernel)), good_of_word (by decide +kernel)⟩
theorem qw_826 : qG (Cond.instanceMethod yX6_between) := ⟨List.mem_append_right _ (List.mem_of_getElem? (i := 1022) (by decide +kernel)), good_of_word (by decide +kernel)⟩
theorem qw_827 : qG (Cond.methodLink RL 89 yX6_between) := ⟨List.mem_append_right _ (List.mem_of_getElem? (i := 1021) (by decide +kernel)), good_of_word (by decide +kernel)⟩
theorem qw_828 : qG (Cond.code yX6_all cX6_all 5 (some .int)) := ⟨List.mem_append_right _ (List.mem_of_getElem? (i := 1028) (by decide +kernel)), good_of_word (by decide +kernel)⟩
theorem qw_829 : qG (Cond.selects RX6 yX6_all yX6_all) := ⟨List.mem_append_right _ (List.mem_of_getElem? (i := 1027) (by decide +kernel)), good_of_word (by decide +kernel)⟩
theorem qw_830 : qG (Cond.instanceMethod yX6_all) := ⟨List.mem_append_right _ (List.mem_of_getElem? (i := 1026) (by decide +kernel)), good_of_word (by decide +kernel)⟩
theorem qw_831 : qG (Cond.methodLink RL 93 yX6_all) := ⟨List.mem_append_right _ (List.mem_of_getElem? (i := 1025) (by decide +kernel)), good_of_word (by decide +kernel)⟩
theorem qw_832 : qG (Cond.code yX6_since cX6_since 6 (some .int)) := ⟨List.mem_append_right _ (List.mem_of_getElem? (i := 1032) (by decide +kernel)), good_of_word (by decide +kernel)⟩
theorem qw_833 : qG (Cond.selects RX6 yX6_since yX6_since) := ⟨List.mem_append_right _ (List.mem_of_getElem? (i := 1031) (by decide +kernel)), good_of_word (by decide +kernel)⟩
theorem qw_834 : qG (Cond.instanceMethod yX6_since) := ⟨List.mem_append_right _ (List.mem_of_getElem? (i := 1030) (by decide +kernel)), good_of_word (by decide +kernel)⟩
theorem qw_835 : qG (Cond.methodLink RL 97 yX6_since) := ⟨List.mem_append_right _ (List.mem_of_getElem? (i := 1029) (by decide +kernel)), good_of_word (by decide +kernel)⟩
theorem qw_836 : qG (Cond.code yX6_again cX6_again 4 (some .int)) := ⟨List.mem_append_right _ (List.mem_of_getElem? (i := 1036) (by decide +kernel)), good_of_word (by decide +kernel)⟩
theorem qw_837 : qG (Cond.selects RX6 yX6_again yX6_again) := ⟨List.mem_append_right _ (List.mem_of_getElem? (i := 1035) (by decide +kernel)), good_of_word (by decide +kernel)⟩
theorem qw_838 : qG (Cond.instanceMethod yX6_again) := ⟨List.mem_append_right _ (List.mem_of_getElem? (i := 1034) (by decide +kernel)), good_of_word (by decide +kernel)⟩
theorem qw_839 : qG (Cond.methodLink RL 101 yX6_again) := ⟨List.mem_append_right _ (List.mem_of_getElem? (i := 1033) (by decide +kernel)), good_of_word (by decide +kernel)⟩
theorem qw_840 : qG (Cond.code yX6_show cX6_show 5 (some .int)) := ⟨List.mem_append_right _ (List.mem_of_getElem? (i := 1040) (by decide +kernel)), good_of_word (by decide +kernel)⟩
theorem qw_841 : qG (Cond.selects RX6 yX6_show yX6_show) := ⟨List.mem_append_right _ (List.mem_of_getElem? (i := 1039) (by decide +kernel)), good_of_word (by decide +kernel)⟩
theorem qw_842 : qG (Cond.instanceMethod yX6_show) := ⟨List.mem_append_right _ (List.mem_of_getElem? (i := 1038) (by decide +kernel)), good_of_word (by decide +kernel)⟩
theorem qw_843 : qG (Cond.methodLink RL 105 yX6_show) := ⟨List.mem_append_right _ (List.mem_of_getElem? (i := 1037) (by decide +kernel)), good_of_word (by decide +kernel)⟩
theorem qw_844 : qG (Cond.code yX6_forget cX6_forget 2 (some .int)) := ⟨List.mem_append_right _ (List.mem_of_getElem? (i := 1044) (by decide +kernel)), good_of_word (by decide +kernel)⟩
theorem qw_845 : qG (Cond.selects RX6 yX6_forget yX6_forget) := ⟨List.mem_append_right _ (List.mem_of_getElem? (i := 1043) (by decide +kernel)), good_of_word (by decide +kernel)⟩
theorem qw_846 : qG (Cond.instanceMethod yX6_forget) := ⟨List.mem_append_right _ (List.mem_of_getElem? (i := 1042) (by decide +kernel)), good_of_word (by decide +kernel)⟩
theorem qw_847 : qG (Cond.methodLink RL 109 yX6_forget) := ⟨List.mem_append_right _ (List.mem_of_getElem? (i := 1041) (by decide +kernel)), good_of_word (by decide +kernel)⟩
theorem qw_848 : qG (Cond.code yX6_seenAs cX6_seenAs 3 (some .int)) := ⟨List.mem_append_right _ (List.mem_of_getElem? (i := 1056) (by decide +kernel)), good_of_word (by decide +kernel)⟩
theorem qw_849 : qG (Cond.selects RX6 yX6_seenAs yX6_seenAs) := ⟨List.mem_append_left _ (List.mem_of_getElem? (i := 51) (by decide +kernel)), good_of_word (by decide +kernel)⟩
theorem qw_850 : qG (Cond.instanceMethod yX6_seenAs) := ⟨List.mem_append_right _ (List.mem_of_getElem? (i := 1055) (by decide +kernel)), good_of_word (by decide +kernel)⟩
theorem qw_851 : qG (Cond.methodLink RX6 209 yX6_seenAs) := ⟨List.mem_append_right _ (List.mem_of_getElem? (i := 1053) (by decide +kernel)), good_of_word (by decide +kernel)⟩
theorem qw_852 : qG (Cond.code yX6_daysBy cX6_daysBy 7 (some .int)) := ⟨List.mem_append_right _ (List.mem_of_getElem? (i := 1052) (by decide +kernel)), good_of_word (by decide +kernel)⟩
theorem qw_853 : qG (Cond.selects RX6 yX6_daysBy yX6_daysBy) := ⟨List.mem_append_left _ (List.mem_of_getElem? (i := 50) (by decide +kernel)), good_of_word (by decide +kernel)⟩
theorem qw_854 : qG (Cond.instanceMethod yX6_daysBy) := ⟨List.mem_append_right _ (List.mem_of_getElem? (i := 1051) (by decide +kernel)), good_of_word (by decide +kernel)⟩
theorem qw_855 : qG (Cond.methodLink RX6 212 yX6_daysBy) := ⟨List.mem_append_right _ (List.mem_of_getElem? (i := 1049) (by decide +kernel)), good_of_word (by decide +kernel)⟩
theorem qw_856 : qG (Cond.code yX6_days cX6_days 1 (some .int)) := ⟨List.mem_append_right _ (List.mem_of_getElem? (i := 1048) (by decide +kernel)), good_of_word (by decide +kernel)⟩
theorem qw_857 : qG (Cond.selects RX6 yX6_days yX6_days) := ⟨List.mem_append_right _ (List.mem_of_getElem? (i := 1047) (by decide +kernel)), good_of_word (by decide +kernel)⟩
theorem qw_858 : qG (Cond.instanceMethod yX6_days) := ⟨List.mem_append_right _ (List.mem_of_getElem? (i := 1046) (by decide +kernel)), good_of_word (by decide +kernel)⟩
theorem qw_859 : qG (Cond.methodLink RL 113 yX6_days) := ⟨List.mem_append_right _ (List.mem_of_getElem? (i := 1045) (by decide +kernel)), good_of_word (by decide +kernel)⟩
theorem qw_860 : qG (Cond.code yX6_lie cX6_lie 2 (some .int)) := ⟨List.mem_append_right _ (List.mem_of_getElem? (i := 1060) (by decide +kernel)), good_of_word (by decide +kernel)⟩
theorem qw_861 : qG (Cond.selects RX6 yX6_lie yX6_lie) := ⟨List.mem_append_right _ (List.mem_of_getElem? (i := 1059) (by decide +kernel)), good_of_word (by decide +kernel)⟩
theorem qw_862 : qG (Cond.instanceMethod yX6_lie) := ⟨List.mem_append_right _ (List.mem_of_getElem? (i := 1058) (by decide +kernel)), good_of_word (by decide +kernel)⟩
theorem qw_863 : qG (Cond.methodLink RL 117 yX6_lie) := ⟨List.mem_append_right _ (List.mem_of_getElem? (i := 1057) (by decide +kernel)), good_of_word (by decide +kernel)⟩
theorem qw_864 : qG (Cond.methodLink RX6 215 yX6_days) := ⟨List.mem_append_right _ (List.mem_of_getElem? (i := 1065) (by decide +kernel)), good_of_word (by decide +kernel)⟩
theorem qw_865 : qG (Cond.methodLink RX6 218 yX6_bitsOf) := ⟨List.mem_append_right _ (List.mem_of_getElem? (i := 1066) (by decide +kernel)), good_of_word (by decide +kernel)⟩
theorem qw_866 : qG (Cond.code yX6_worstOf cX6_worstOf 8 (some .int)) := ⟨List.mem_append_right _ (List.mem_of_getElem? (i := 1072) (by decide +kernel)), good_of_word (by decide +kernel)⟩
theorem qw_867 : qG (Cond.selects RX6 yX6_worstOf yX6_worstOf) := ⟨List.mem_append_left _ (List.mem_of_getElem? (i := 52) (by decide +kernel)), good_of_word (by decide +kernel)⟩
theorem qw_868 : qG (Cond.instanceMethod yX6_worstOf) := ⟨List.mem_append_right _ (List.mem_of_getElem? (i := 1071) (by decide +kernel)), good_of_word (by decide +kernel)⟩
theorem qw_869 : qG (Cond.methodLink RX6 221 yX6_worstOf) := ⟨List.mem_append_right _ (List.mem_of_getElem? (i := 1069) (by decide +kernel)), good_of_word (by decide +kernel)⟩
theorem qw_870 : qG (Cond.code yX6_bitsOf cX6_bitsOf 3 (some .int)) := ⟨List.mem_append_right _ (List.mem_of_getElem? (i := 1068) (by decide +kernel)), good_of_word (by decide +kernel)⟩
theorem qw_871 : qG (Cond.static yX6_bitsOf) := ⟨List.mem_append_right _ (List.mem_of_getElem? (i := 1067) (by decide +kernel)), good_of_word (by decide +kernel)⟩
theorem qw_872 : qG (Cond.code yX6_look cX6_look 8 (some .int)) := ⟨List.mem_append_right _ (List.mem_of_getElem? (i := 1064) (by decide +kernel)), good_of_word (by decide +kernel)⟩
theorem qw_873 : qG (Cond.selects RX6 yX6_look yX6_look) := ⟨List.mem_append_right _ (List.mem_of_getElem? (i := 1063) (by decide +kernel)), good_of_word (by decide +kernel)⟩
theorem qw_874 : qG (Cond.instanceMethod yX6_look) := ⟨List.mem_append_right _ (List.mem_of_getElem? (i := 1062) (by decide +kernel)), good_of_word (by decide +kernel)⟩
theorem qw_875 : qG (Cond.methodLink RL 121 yX6_look) := ⟨List.mem_append_right _ (List.mem_of_getElem? (i := 1061) (by decide +kernel)), good_of_word (by decide +kernel)⟩
theorem qw_876 : qG (Cond.constantLong RX6 231 (-4)) := ⟨List.mem_append_right _ (List.mem_of_getElem? (i := 1078) (by decide +kernel)), good_of_word (by decide +kernel)⟩
theorem qw_877 : qG (Cond.constantLong RX6 229 (-1)) := ⟨List.mem_append_right _ (List.mem_of_getElem? (i := 1077) (by decide +kernel)), good_of_word (by decide +kernel)⟩
theorem qw_878 : qG (Cond.code yX6_common cX6_common 10 (some .long)) := ⟨List.mem_append_right _ (List.mem_of_getElem? (i := 1084) (by decide +kernel)), good_of_word (by decide +kernel)⟩
theorem qw_879 : qG (Cond.static yX6_common) := ⟨List.mem_append_right _ (List.mem_of_getElem? (i := 1083) (by decide +kernel)), good_of_word (by decide +kernel)⟩
theorem qw_880 : qG (Cond.methodLink RX6 225 yX6_common) := ⟨List.mem_append_right _ (List.mem_of_getElem? (i := 1082) (by decide +kernel)), good_of_word (by decide +kernel)⟩
theorem qw_881 : qG (Cond.code yX6_told cX6_told 7 (some .long)) := ⟨List.mem_append_right _ (List.mem_of_getElem? (i := 1081) (by decide +kernel)), good_of_word (by decide +kernel)⟩
theorem qw_882 : qG (Cond.static yX6_told) := ⟨List.mem_append_right _ (List.mem_of_getElem? (i := 1080) (by decide +kernel)), good_of_word (by decide +kernel)⟩
theorem qw_883 : qG (Cond.methodLink RX6 233 yX6_told) := ⟨List.mem_append_right _ (List.mem_of_getElem? (i := 1079) (by decide +kernel)), good_of_word (by decide +kernel)⟩
theorem qw_884 : qG (Cond.code yX6_likely cX6_likely 7 (some .long)) := ⟨List.mem_append_right _ (List.mem_of_getElem? (i := 1076) (by decide +kernel)), good_of_word (by decide +kernel)⟩
theorem qw_885 : qG (Cond.selects RX6 yX6_likely yX6_likely) := ⟨List.mem_append_right _ (List.mem_of_getElem? (i := 1075) (by decide +kernel)), good_of_word (by decide +kernel)⟩
theorem qw_886 : qG (Cond.instanceMethod yX6_likely) := ⟨List.mem_append_right _ (List.mem_of_getElem? (i := 1074) (by decide +kernel)), good_of_word (by decide +kernel)⟩
theorem qw_887 : qG (Cond.methodLink RL 126 yX6_likely) := ⟨List.mem_append_right _ (List.mem_of_getElem? (i := 1073) (by decide +kernel)), good_of_word (by decide +kernel)⟩
theorem qw_888 : qG (Cond.code yX6_could cX6_could 3 (some .int)) := ⟨List.mem_append_right _ (List.mem_of_getElem? (i := 1088) (by decide +kernel)), good_of_word (by decide +kernel)⟩
theorem qw_889 : qG (Cond.selects RX6 yX6_could yX6_could) := ⟨List.mem_append_right _ (List.mem_of_getElem? (i := 1087) (by decide +kernel)), good_of_word (by decide +kernel)⟩
theorem qw_890 : qG (Cond.instanceMethod yX6_could) := ⟨List.mem_append_right _ (List.mem_of_getElem? (i := 1086) (by decide +kernel)), good_of_word (by decide +kernel)⟩
theorem qw_891 : qG (Cond.methodLink RL 130 yX6_could) := ⟨List.mem_append_right _ (List.mem_of_getElem? (i := 1085) (by decide +kernel)), good_of_word (by decide +kernel)⟩
theorem qw_892 : qG (Cond.code yX6_findViews cX6_findViews 3 none) := ⟨List.mem_append_right _ (List.mem_of_getElem? (i := 1096) (by decide +kernel)), good_of_word (by decide +kernel)⟩
theorem qw_893 : qG (Cond.selects RX6 yX6_findViews yX6_findViews) := ⟨List.mem_append_left _ (List.mem_of_getElem? (i := 53) (by decide +kernel)), good_of_word (by decide +kernel)⟩
theorem qw_894 : qG (Cond.instanceMethod yX6_findViews) := ⟨List.mem_append_right _ (List.mem_of_getElem? (i := 1095) (by decide +kernel)), good_of_word (by decide +kernel)⟩
theorem qw_895 : qG (Cond.methodLink RX6 237 yX6_findViews) := ⟨List.mem_append_right _ (List.mem_of_getElem? (i := 1093) (by decide +kernel)), good_of_word (by decide +kernel)⟩
theorem qw_896 : qG (Cond.code yX6_apartOf cX6_apartOf 8 (some .int)) := ⟨List.mem_append_right _ (List.mem_of_getElem? (i := 1100) (by decide +kernel)), good_of_word (by decide +kernel)⟩
theorem qw_897 : qG (Cond.selects RX6 yX6_apartOf yX6_apartOf) := ⟨List.mem_append_left _ (List.mem_of_getElem? (i := 54) (by decide +kernel)), good_of_word (by decide +kernel)⟩
theorem qw_898 : qG (Cond.instanceMethod yX6_apartOf) := ⟨List.mem_append_right _ (List.mem_of_getElem? (i := 1099) (by decide +kernel)), good_of_word (by decide +kernel)⟩
theorem qw_899 : qG (Cond.methodLink RX6 240 yX6_apartOf) := ⟨List.mem_append_right _ (List.mem_of_getElem? (i := 1097) (by decide +kernel)), good_of_word (by decide +kernel)⟩
theorem qw_900 : qG (Cond.code yX6_apart cX6_apart 3 (some .int)) := ⟨List.mem_append_right _ (List.mem_of_getElem? (i := 1092) (by decide +kernel)), good_of_word (by decide +kernel)⟩
theorem qw_901 : qG (Cond.selects RX6 yX6_apart yX6_apart) := ⟨List.mem_append_right _ (List.mem_of_getElem? (i := 1091) (by decide +kernel)), good_of_word (by decide +kernel)⟩
theorem qw_902 : qG (Cond.instanceMethod yX6_apart) := ⟨List.mem_append_right _ (List.mem_of_getElem? (i := 1090) (by decide +kernel)), good_of_word (by decide +kernel)⟩
theorem qw_903 : qG (Cond.methodLink RL 134 yX6_apart) := ⟨List.mem_append_right _ (List.mem_of_getElem? (i := 1089) (by decide +kernel)), good_of_word (by decide +kernel)⟩
theorem qw_904 : qG (Cond.code yX6_findPairs cX6_findPairs 4 (some .int)) := ⟨List.mem_append_right _ (List.mem_of_getElem? (i := 1108) (by decide +kernel)), good_of_word (by decide +kernel)⟩
theorem qw_905 : qG (Cond.selects RX6 yX6_findPairs yX6_findPairs) := ⟨List.mem_append_left _ (List.mem_of_getElem? (i := 55) (by decide +kernel)), good_of_word (by decide +kernel)⟩
theorem qw_906 : qG (Cond.instanceMethod yX6_findPairs) := ⟨List.mem_append_right _ (List.mem_of_getElem? (i := 1107) (by decide +kernel)), good_of_word (by decide +kernel)⟩
theorem qw_907 : qG (Cond.methodLink RX6 243 yX6_findPairs) := ⟨List.mem_append_right _ (List.mem_of_getElem? (i := 1105) (by decide +kernel)), good_of_word (by decide +kernel)⟩
theorem qw_908 : qG (Cond.constant RX6 246 (1000000)) := ⟨List.mem_append_right _ (List.mem_of_getElem? (i := 1109) (by decide +kernel)), good_of_word (by decide +kernel)⟩
theorem qw_909 : qG (Cond.code yX6_places cX6_places 9 (some .int)) := ⟨List.mem_append_right _ (List.mem_of_getElem? (i := 1104) (by decide +kernel)), good_of_word (by decide +kernel)⟩
theorem qw_910 : qG (Cond.selects RX6 yX6_places yX6_places) := ⟨List.mem_append_right _ (List.mem_of_getElem? (i := 1103) (by decide +kernel)), good_of_word (by decide +kernel)⟩
theorem qw_911 : qG (Cond.instanceMethod yX6_places) := ⟨List.mem_append_right _ (List.mem_of_getElem? (i := 1102) (by decide +kernel)), good_of_word (by decide +kernel)⟩
theorem qw_912 : qG (Cond.methodLink RL 138 yX6_places) := ⟨List.mem_append_right _ (List.mem_of_getElem? (i := 1101) (by decide +kernel)), good_of_word (by decide +kernel)⟩
theorem qw_913 : qG (Cond.code yX6_guard cX6_guard 10 (some .int)) := ⟨List.mem_append_right _ (List.mem_of_getElem? (i := 1113) (by decide +kernel)), good_of_word (by decide +kernel)⟩
theorem qw_914 : qG (Cond.selects RX6 yX6_guard yX6_guard) := ⟨List.mem_append_right _ (List.mem_of_getElem? (i := 1112) (by decide +kernel)), good_of_word (by decide +kernel)⟩
theorem qw_915 : qG (Cond.instanceMethod yX6_guard) := ⟨List.mem_append_right _ (List.mem_of_getElem? (i := 1111) (by decide +kernel)), good_of_word (by decide +kernel)⟩
theorem qw_916 : qG (Cond.methodLink RL 142 yX6_guard) := ⟨List.mem_append_right _ (List.mem_of_getElem? (i := 1110) (by decide +kernel)), good_of_word (by decide +kernel)⟩
theorem qw_917 : qG (Cond.code yX6_hide cX6_hide 4 (some .int)) := ⟨List.mem_append_right _ (List.mem_of_getElem? (i := 1117) (by decide +kernel)), good_of_word (by decide +kernel)⟩
theorem qw_918 : qG (Cond.selects RX6 yX6_hide yX6_hide) := ⟨List.mem_append_right _ (List.mem_of_getElem? (i := 1116) (by decide +kernel)), good_of_word (by decide +kernel)⟩
theorem qw_919 : qG (Cond.instanceMethod yX6_hide) := ⟨List.mem_append_right _ (List.mem_of_getElem? (i := 1115) (by decide +kernel)), good_of_word (by decide +kernel)⟩
theorem qw_920 : qG (Cond.methodLink RL 146 yX6_hide) := ⟨List.mem_append_right _ (List.mem_of_getElem? (i := 1114) (by decide +kernel)), good_of_word (by decide +kernel)⟩
theorem qw_921 : qG (Cond.code yX6_best cX6_best 7 (some .int)) := ⟨List.mem_append_right _ (List.mem_of_getElem? (i := 1121) (by decide +kernel)), good_of_word (by decide +kernel)⟩
theorem qw_922 : qG (Cond.selects RX6 yX6_best yX6_best) := ⟨List.mem_append_right _ (List.mem_of_getElem? (i := 1120) (by decide +kernel)), good_of_word (by decide +kernel)⟩
theorem qw_923 : qG (Cond.instanceMethod yX6_best) := ⟨List.mem_append_right _ (List.mem_of_getElem? (i := 1119) (by decide +kernel)), good_of_word (by decide +kernel)⟩
theorem qw_924 : qG (Cond.methodLink RL 150 yX6_best) := ⟨List.mem_append_right _ (List.mem_of_getElem? (i := 1118) (by decide +kernel)), good_of_word (by decide +kernel)⟩
theorem qw_925 : qG (Cond.code yX6_showersOf cX6_showersOf 5 (some .int)) := ⟨List.mem_append_right _ (List.mem_of_getElem? (i := 1130) (by decide +kernel)), good_of_word (by decide +kernel)⟩
theorem qw_926 : qG (Cond.selects RX6 yX6_showersOf yX6_showersOf) := ⟨List.mem_append_left _ (List.mem_of_getElem? (i := 56) (by decide +kernel)), good_of_word (by decide +kernel)⟩
theorem qw_927 : qG (Cond.instanceMethod yX6_showersOf) := ⟨List.mem_append_right _ (List.mem_of_getElem? (i := 1129) (by decide +kernel)), good_of_word (by decide +kernel)⟩
theorem qw_928 : qG (Cond.methodLink RX6 249 yX6_showersOf) := ⟨List.mem_append_right _ (List.mem_of_getElem? (i := 1127) (by decide +kernel)), good_of_word (by decide +kernel)⟩
theorem qw_929 : qG (Cond.constantLong RX6 247 (10)) := ⟨List.mem_append_right _ (List.mem_of_getElem? (i := 1126) (by decide +kernel)), good_of_word (by decide +kernel)⟩
theorem qw_930 : qG (Cond.code yX6_power cX6_power 5 (some .long)) := ⟨List.mem_append_right _ (List.mem_of_getElem? (i := 1133) (by decide +kernel)), good_of_word (by decide +kernel)⟩
theorem qw_931 : qG (Cond.static yX6_power) := ⟨List.mem_append_right _ (List.mem_of_getElem? (i := 1132) (by decide +kernel)), good_of_word (by decide +kernel)⟩
theorem qw_932 : qG (Cond.methodLink RX6 252 yX6_power) := ⟨List.mem_append_right _ (List.mem_of_getElem? (i := 1131) (by decide +kernel)), good_of_word (by decide +kernel)⟩
theorem qw_933 : qG (Cond.code yX6_luck cX6_luck 6 (some .long)) := ⟨List.mem_append_right _ (List.mem_of_getElem? (i := 1125) (by decide +kernel)), good_of_word (by decide +kernel)⟩
theorem qw_934 : qG (Cond.selects RX6 yX6_luck yX6_luck) := ⟨List.mem_append_right _ (List.mem_of_getElem? (i := 1124) (by decide +kernel)), good_of_word (by decide +kernel)⟩
theorem qw_935 : qG (Cond.instanceMethod yX6_luck) := ⟨List.mem_append_right _ (List.mem_of_getElem? (i := 1123) (by decide +kernel)), good_of_word (by decide +kernel)⟩
theorem qw_936 : qG (Cond.methodLink RL 155 yX6_luck) := ⟨List.mem_append_right _ (List.mem_of_getElem? (i := 1122) (by decide +kernel)), good_of_word (by decide +kernel)⟩
theorem qw_937 : qG (Cond.code yX6_mean cX6_mean 8 (some .long)) := ⟨List.mem_append_right _ (List.mem_of_getElem? (i := 1137) (by decide +kernel)), good_of_word (by decide +kernel)⟩
theorem qw_938 : qG (Cond.selects RX6 yX6_mean yX6_mean) := ⟨List.mem_append_right _ (List.mem_of_getElem? (i := 1136) (by decide +kernel)), good_of_word (by decide +kernel)⟩
theorem qw_939 : qG (Cond.instanceMethod yX6_mean) := ⟨List.mem_append_right _ (List.mem_of_getElem? (i := 1135) (by decide +kernel)), good_of_word (by decide +kernel)⟩
theorem qw_940 : qG (Cond.methodLink RL 159 yX6_mean) := ⟨List.mem_append_right _ (List.mem_of_getElem? (i := 1134) (by decide +kernel)), good_of_word (by decide +kernel)⟩
theorem qw_941 : qG (Cond.constant RX6 258 (1103515245)) := ⟨List.mem_append_right _ (List.mem_of_getElem? (i := 1143) (by decide +kernel)), good_of_word (by decide +kernel)⟩
theorem qw_942 : qG (Cond.constantLong RX6 256 (60)) := ⟨List.mem_append_right _ (List.mem_of_getElem? (i := 1142) (by decide +kernel)), good_of_word (by decide +kernel)⟩
theorem qw_943 : qG (Cond.code yX6_drift cX6_drift 7 (some .int)) := ⟨List.mem_append_right _ (List.mem_of_getElem? (i := 1141) (by decide +kernel)), good_of_word (by decide +kernel)⟩
theorem qw_944 : qG (Cond.selects RX6 yX6_drift yX6_drift) := ⟨List.mem_append_right _ (List.mem_of_getElem? (i := 1140) (by decide +kernel)), good_of_word (by decide +kernel)⟩
theorem qw_945 : qG (Cond.instanceMethod yX6_drift) := ⟨List.mem_append_right _ (List.mem_of_getElem? (i := 1139) (by decide +kernel)), good_of_word (by decide +kernel)⟩
theorem qw_946 : qG (Cond.methodLink RL 163 yX6_drift) := ⟨List.mem_append_right _ (List.mem_of_getElem? (i := 1138) (by decide +kernel)), good_of_word (by decide +kernel)⟩
theorem qw_947 : qG (Cond.code yX6_copies cX6_copies 4 none) := ⟨List.mem_append_right _ (List.mem_of_getElem? (i := 1151) (by decide +kernel)), good_of_word (by decide +kernel)⟩
theorem qw_948 : qG (Cond.selects RX6 yX6_copies yX6_copies) := ⟨List.mem_append_left _ (List.mem_of_getElem? (i := 57) (by decide +kernel)), good_of_word (by decide +kernel)⟩
theorem qw_949 : qG (Cond.instanceMethod yX6_copies) := ⟨List.mem_append_right _ (List.mem_of_getElem? (i := 1150) (by decide +kernel)), good_of_word (by decide +kernel)⟩
theorem qw_950 : qG (Cond.methodLink RX6 259 yX6_copies) := ⟨List.mem_append_right _ (List.mem_of_getElem? (i := 1148) (by decide +kernel)), good_of_word (by decide +kernel)⟩
theorem qw_951 : qG (Cond.code yX6_keep cX6_keep 3 (some .int)) := ⟨List.mem_append_right _ (List.mem_of_getElem? (i := 1147) (by decide +kernel)), good_of_word (by decide +kernel)⟩
theorem qw_952 : qG (Cond.selects RX6 yX6_keep yX6_keep) := ⟨List.mem_append_right _ (List.mem_of_getElem? (i := 1146) (by decide +kernel)), good_of_word (by decide +kernel)⟩
theorem qw_953 : qG (Cond.instanceMethod yX6_keep) := ⟨List.mem_append_right _ (List.mem_of_getElem? (i := 1145) (by decide +kernel)), good_of_word (by decide +kernel)⟩
theorem qw_954 : qG (Cond.methodLink RL 167 yX6_keep) := ⟨List.mem_append_right _ (List.mem_of_getElem? (i := 1144) (by decide +kernel)), good_of_word (by decide +kernel)⟩
theorem qw_955 : qG (Cond.code yX6_back cX6_back 2 (some .int)) := ⟨List.mem_append_right _ (List.mem_of_getElem? (i := 1155) (by decide +kernel)), good_of_word (by decide +kernel)⟩
theorem qw_956 : qG (Cond.selects RX6 yX6_back yX6_back) := ⟨List.mem_append_right _ (List.mem_of_getElem? (i := 1154) (by decide +kernel)), good_of_word (by decide +kernel)⟩
theorem qw_957 : qG (Cond.instanceMethod yX6_back) := ⟨List.mem_append_right _ (List.mem_of_getElem? (i := 1153) (by decide +kernel)), good_of_word (by decide +kernel)⟩
theorem qw_958 : qG (Cond.methodLink RL 171 yX6_back) := ⟨List.mem_append_right _ (List.mem_of_getElem? (i := 1152) (by decide +kernel)), good_of_word (by decide +kernel)⟩
theorem qw_959 : qG (Cond.constantLong RX6 263 (3)) := ⟨List.mem_append_right _ (List.mem_of_getElem? (i := 1163) (by decide +kernel)), good_of_word (by decide +kernel)⟩
theorem qw_960 : qG (Cond.code yX6_isSheet cX6_isSheet 2 (some .boolean)) := ⟨List.mem_append_right _ (List.mem_of_getElem? (i := 1162) (by decide +kernel)), good_of_word (by decide +kernel)⟩
theorem qw_961 : qG (Cond.static yX6_isSheet) := ⟨List.mem_append_right _ (List.mem_of_getElem? (i := 1161) (by decide +kernel)), good_of_word (by decide +kernel)⟩
theorem qw_962 : qG (Cond.methodLink RX6 265 yX6_isSheet) := ⟨List.mem_append_right _ (List.mem_of_getElem? (i := 1160) (by decide +kernel)), good_of_word (by decide +kernel)⟩
theorem qw_963 : qG (Cond.code yX6_sheet cX6_sheet 5 (some .int)) := ⟨List.mem_append_right _ (List.mem_of_getElem? (i := 1159) (by decide +kernel)), good_of_word (by decide +kernel)⟩
theorem qw_964 : qG (Cond.selects RX6 yX6_sheet yX6_sheet) := ⟨List.mem_append_right _ (List.mem_of_getElem? (i := 1158) (by decide +kernel)), good_of_word (by decide +kernel)⟩
theorem qw_965 : qG (Cond.instanceMethod yX6_sheet) := ⟨List.mem_append_right _ (List.mem_of_getElem? (i := 1157) (by decide +kernel)), good_of_word (by decide +kernel)⟩
theorem qw_966 : qG (Cond.methodLink RL 175 yX6_sheet) := ⟨List.mem_append_right _ (List.mem_of_getElem? (i := 1156) (by decide +kernel)), good_of_word (by decide +kernel)⟩
theorem qw_967 : qG (Cond.code yX6_lay cX6_lay 4 (some .int)) := ⟨List.mem_append_right _ (List.mem_of_getElem? (i := 1167) (by decide +kernel)), good_of_word (by decide +kernel)⟩
theorem qw_968 : qG (Cond.selects RX6 yX6_lay yX6_lay) := ⟨List.mem_append_right _ (List.mem_of_getElem? (i := 1166) (by decide +kernel)), good_of_word (by decide +kernel)⟩
theorem qw_969 : qG (Cond.instanceMethod yX6_lay) := ⟨List.mem_append_right _ (List.mem_of_getElem? (i := 1165) (by decide +kernel)), good_of_word (by decide +kernel)⟩
theorem qw_970 : qG (Cond.methodLink RL 179 yX6_lay) := ⟨List.mem_append_right _ (List.mem_of_getElem? (i := 1164) (by decide +kernel)), good_of_word (by decide +kernel)⟩
theorem qw_971 : qG (Cond.methodLink RX6 271 yX6_turn) := ⟨List.mem_append_right _ (List.mem_of_getElem? (i := 1173) (by decide +kernel)), good_of_word (by decide +kernel)⟩
theorem qw_972 : qG (Cond.fieldLink RX6 274 "BackLensesModel" "torn" "I") := ⟨List.mem_append_right _ (List.mem_of_getElem? (i := 778) (by decide +kernel)), good_of_word (by decide +kernel)⟩
theorem qw_973 : qG (Cond.constantLong RX6 269 (13)) := ⟨List.mem_append_right _ (List.mem_of_getElem? (i := 1172) (by decide +kernel)), good_of_word (by decide +kernel)⟩
theorem qw_974 : qG (Cond.code yX6_read cX6_read 12 (some .int)) := ⟨List.mem_append_right _ (List.mem_of_getElem? (i := 1171) (by decide +kernel)), good_of_word (by decide +kernel)⟩
theorem qw_975 : qG (Cond.selects RX6 yX6_read yX6_read) := ⟨List.mem_append_right _ (List.mem_of_getElem? (i := 1170) (by decide +kernel)), good_of_word (by decide +kernel)⟩
theorem qw_976 : qG (Cond.instanceMethod yX6_read) := ⟨List.mem_append_right _ (List.mem_of_getElem? (i := 1169) (by decide +kernel)), good_of_word (by decide +kernel)⟩
theorem qw_977 : qG (Cond.methodLink RL 184 yX6_read) := ⟨List.mem_append_right _ (List.mem_of_getElem? (i := 1168) (by decide +kernel)), good_of_word (by decide +kernel)⟩
theorem qw_978 : qG (Cond.code yX6_torn cX6_torn 1 (some .int)) := ⟨List.mem_append_right _ (List.mem_of_getElem? (i := 1177) (by decide +kernel)), good_of_word (by decide +kernel)⟩
theorem qw_979 : qG (Cond.selects RX6 yX6_torn yX6_torn) := ⟨List.mem_append_right _ (List.mem_of_getElem? (i := 1176) (by decide +kernel)), good_of_word (by decide +kernel)⟩
theorem qw_980 : qG (Cond.instanceMethod yX6_torn) := ⟨List.mem_append_right _ (List.mem_of_getElem? (i := 1175) (by decide +kernel)), good_of_word (by decide +kernel)⟩
theorem qw_981 : qG (Cond.methodLink RL 188 yX6_torn) := ⟨List.mem_append_right _ (List.mem_of_getElem? (i := 1174) (by decide +kernel)), good_of_word (by decide +kernel)⟩
theorem qw_982 : qG (Cond.code yX6_count cX6_count 4 (some .int)) := ⟨List.mem_append_right _ (List.mem_of_getElem? (i := 1181) (by decide +kernel)), good_of_word (by decide +kernel)⟩
theorem qw_983 : qG (Cond.selects RX6 yX6_count yX6_count) := ⟨List.mem_append_right _ (List.mem_of_getElem? (i := 1180) (by decide +kernel)), good_of_word (by decide +kernel)⟩
theorem qw_984 : qG (Cond.instanceMethod yX6_count) := ⟨List.mem_append_right _ (List.mem_of_getElem? (i := 1179) (by decide +kernel)), good_of_word (by decide +kernel)⟩
theorem qw_985 : qG (Cond.methodLink RL 192 yX6_count) := ⟨List.mem_append_right _ (List.mem_of_getElem? (i := 1178) (by decide +kernel)), good_of_word (by decide +kernel)⟩
theorem qw_986 : qG (Cond.methodLink RL 9 yX5_init) := ⟨List.mem_append_right _ (List.mem_of_getElem? (i := 18) (by decide +kernel)), good_of_word (by decide +kernel)⟩
theorem qw_987 : qG (Cond.instanceMethod yX5_init) := ⟨List.mem_append_right _ (List.mem_of_getElem? (i := 19) (by decide +kernel)), good_of_word (by decide +kernel)⟩
theorem qw_988 : qG (Cond.methodLink RL 12 yX6_init) := ⟨List.mem_append_right _ (List.mem_of_getElem? (i := 738) (by decide +kernel)), good_of_word (by decide +kernel)⟩
theorem qw_989 : qG (Cond.instanceMethod yX6_init) := ⟨List.mem_append_right _ (List.mem_of_getElem? (i := 739) (by decide +kernel)), good_of_word (by decide +kernel)⟩
theorem qw_990 : qG (Cond.classLink RL 10 RX6) := ⟨List.mem_append_right _ (List.mem_of_getElem? (i := 736) (by decide +kernel)), good_of_word (by decide +kernel)⟩
theorem qw_991 : qG (Cond.classLink RL 7 RX5) := ⟨List.mem_append_right _ (List.mem_of_getElem? (i := 16) (by decide +kernel)), good_of_word (by decide +kernel)⟩
theorem qw_992 : qG (Cond.instantiable RX5 10) := ⟨List.mem_append_right _ (List.mem_of_getElem? (i := 17) (by decide +kernel)), good_of_word (by decide +kernel)⟩
theorem qw_993 : qG (Cond.instantiable RX6 29) := ⟨List.mem_append_right _ (List.mem_of_getElem? (i := 737) (by decide +kernel)), good_of_word (by decide +kernel)⟩

section
abbrev Q_J0_coder_7d493 (G : XG) (ad : XAd) (i : Nat) : Array Value → State → Outcome → State → Prop := (xRi (fun r => r = nI 0))
set_option maxHeartbeats 4000000 in
set_option maxRecDepth 100000 in
theorem c_J0_coder_7d493 (l : Launch) (G : XG) (ad : XAd) (i : Nat) (h5 : i < 5) : Met l yJ0_coder_7d493 wsJ0_coder_7d493 ({ frames := 0, cells := 0, slots := 0, locals := 0 } : Room) (va_Pc [.ref (ad.1 i)] (xZp ad)) (Q_J0_coder_7d493 G ad i) 0 0 (fun _ => False) := by
  refine Met.ofW (cc := cJ0_coder_7d493) (maxL := 1) (ret := (some .byte)) (by decide) rfl ?_
  intro pp ee ss mm aa below mt cd s₁ BB hml hv
  obtain ⟨rfl, hZ⟩ := hv
  have hx := BB.exec
  have hb := BB.bytes
  have hr := BB.returns
  have hts := atoms_spec (ws := wsJ0_coder_7d493) BB.pre
  have hown : ss.vm.findClass RJ0 = some mm.cls := findClass_of_methodNamed BB.named
  have hlocks := BB.notSynchronized
  have hS : va_S (fun _ => False) ss.heap ss.heap [] := va_S.rf
  have hP : xP (G) [] ss.heap := fun k q h => by cases h
  have hl := lv_entry ([.ref (ad.1 i)]) (n := 1) (Nat.le_of_ble_eq_true rfl)
  rw [lg_entry_eq]
  generalize (lg_sl ([.ref (ad.1 i)]) ++ List.replicate (1 - (lg_sl ([.ref (ad.1 i)])).length) Slot.unset).toArray = ls at hl ⊢
  replace hl : lv_has ls 1 [(0, .ref (ad.1 i))] := hl
  refine va_gets hx hb hZ.2.2.1 hS hown (hts (.fieldLink RJ0 38 "java/lang/String" "COMPACT_STRINGS" "Z") (List.mem_of_getElem? (i := 1) rfl)) (fun _ h9 => h9) dJ0_coder_7d493_0 ?_
  refine xn_if_eq (tgt := 13) hx hb (by omega) dJ0_coder_7d493_3 rfl (fun b3 => absurd b3 (by omega)) (fun _ => ?_)
  refine lv_aload_n hx hb dJ0_coder_7d493_6 rfl (lv_at hl 0 rfl) ?_
  refine vk_getf (v := .int (nI 0)) hx hb (hZ.1.1 i (by first | assumption | omega)).2.1 hS hown (hts (.fieldLink RJ0 15 "java/lang/String" "coder" "B") (List.mem_of_getElem? (i := 2) rfl)) (fun _ h9 => h9) dJ0_coder_7d493_7 ?_
  refine lv_goto (tgt := 14) hx hb dJ0_coder_7d493_10 rfl ?_
  refine W.zret (v := nI 0) (ty := .byte) hx hb hr (by decide) (fun t ht hW => ⟨⟨nI 0, (), rfl, ?_, trivial⟩, hS.F ht⟩) hS.2.2 dJ0_coder_7d493_14
  rfl

abbrev Q_J0_isLatin1_aae02 (G : XG) (ad : XAd) (i : Nat) : Array Value → State → Outcome → State → Prop := (xRi (fun r => r = nI 1))
set_option maxHeartbeats 4000000 in
set_option maxRecDepth 100000 in
theorem c_J0_isLatin1_aae02 (l : Launch) (G : XG) (ad : XAd) (i : Nat) (h5 : i < 5) : Met l yJ0_isLatin1_aae02 wsJ0_isLatin1_aae02 ({ frames := 0, cells := 0, slots := 0, locals := 0 } : Room) (va_Pc [.ref (ad.1 i)] (xZp ad)) (Q_J0_isLatin1_aae02 G ad i) 0 0 (fun _ => False) := by
  refine Met.ofW (cc := cJ0_isLatin1_aae02) (maxL := 1) (ret := (some .boolean)) (by decide) rfl ?_
  intro pp ee ss mm aa below mt cd s₁ BB hml hv
  obtain ⟨rfl, hZ⟩ := hv
  have hx := BB.exec
  have hb := BB.bytes
  have hr := BB.returns
  have hts := atoms_spec (ws := wsJ0_isLatin1_aae02) BB.pre
  have hown : ss.vm.findClass RJ0 = some mm.cls := findClass_of_methodNamed BB.named
  have hlocks := BB.notSynchronized
  have hS : va_S (fun _ => False) ss.heap ss.heap [] := va_S.rf
  have hP : xP (G) [] ss.heap := fun k q h => by cases h
  have hl := lv_entry ([.ref (ad.1 i)]) (n := 1) (Nat.le_of_ble_eq_true rfl)
  rw [lg_entry_eq]
  generalize (lg_sl ([.ref (ad.1 i)]) ++ List.replicate (1 - (lg_sl ([.ref (ad.1 i)])).length) Slot.unset).toArray = ls at hl ⊢
  replace hl : lv_has ls 1 [(0, .ref (ad.1 i))] := hl
  refine va_gets hx hb hZ.2.2.1 hS hown (hts (.fieldLink RJ0 38 "java/lang/String" "COMPACT_STRINGS" "Z") (List.mem_of_getElem? (i := 1) rfl)) (fun _ h9 => h9) dJ0_isLatin1_aae02_0 ?_
  refine xn_if_eq (tgt := 17) hx hb (by omega) dJ0_isLatin1_aae02_3 rfl (fun b3 => absurd b3 (by omega)) (fun _ => ?_)
  refine lv_aload_n hx hb dJ0_isLatin1_aae02_6 rfl (lv_at hl 0 rfl) ?_
  refine vk_getf (v := .int (nI 0)) hx hb (hZ.1.1 i (by first | assumption | omega)).2.1 hS hown (hts (.fieldLink RJ0 15 "java/lang/String" "coder" "B") (List.mem_of_getElem? (i := 2) rfl)) (fun _ h9 => h9) dJ0_isLatin1_aae02_7 ?_
  refine xn_if_ne (tgt := 17) hx hb (by omega) dJ0_isLatin1_aae02_10 rfl (fun b10 => absurd b10 (by omega)) (fun _ => ?_)
  refine lv_iconst (v := nI 1) hx hb dJ0_isLatin1_aae02_13 (by decide) ?_
  refine lv_goto (tgt := 18) hx hb dJ0_isLatin1_aae02_14 rfl ?_
  refine W.zret (v := nI 1) (ty := .boolean) hx hb hr (by decide) (fun t ht hW => ⟨⟨nI 1, (), rfl, ?_, trivial⟩, hS.F ht⟩) hS.2.2 dJ0_isLatin1_aae02_18
  rfl

abbrev Q_J0_length_8abf5 (G : XG) (ad : XAd) (i : Nat) : Array Value → State → Outcome → State → Prop := (xRi (fun r => r = nI (sLen.getD i 0)))
set_option maxHeartbeats 4000000 in
set_option maxRecDepth 100000 in
theorem c_J0_length_8abf5 (l : Launch) (G : XG) (ad : XAd) (i : Nat) (h5 : i < 5) : Met l yJ0_length_8abf5 wsJ0_length_8abf5 ({ frames := 1, cells := 0, slots := 0, locals := 20 } : Room) (va_Pc [.ref (ad.1 i)] (xZp ad)) (Q_J0_length_8abf5 G ad i) 0 0 (fun _ => False) := by
  refine Met.ofW (cc := cJ0_length_8abf5) (maxL := 1) (ret := (some .int)) (by decide) rfl ?_
  intro pp ee ss mm aa below mt cd s₁ BB hml hv
  obtain ⟨rfl, hZ⟩ := hv
  have hx := BB.exec
  have hb := BB.bytes
  have hr := BB.returns
  have hts := atoms_spec (ws := wsJ0_length_8abf5) BB.pre
  have hown : ss.vm.findClass RJ0 = some mm.cls := findClass_of_methodNamed BB.named
  have hlocks := BB.notSynchronized
  have hS : va_S (fun _ => False) ss.heap ss.heap [] := va_S.rf
  have hP : xP (G) [] ss.heap := fun k q h => by cases h
  have hl := lv_entry ([.ref (ad.1 i)]) (n := 1) (Nat.le_of_ble_eq_true rfl)
  rw [lg_entry_eq]
  generalize (lg_sl ([.ref (ad.1 i)]) ++ List.replicate (1 - (lg_sl ([.ref (ad.1 i)])).length) Slot.unset).toArray = ls at hl ⊢
  replace hl : lv_has ls 1 [(0, .ref (ad.1 i))] := hl
  refine lv_aload_n hx hb dJ0_length_8abf5_0 rfl (lv_at hl 0 rfl) ?_
  refine vk_getf (v := .ref (ad.2 i)) hx hb (hZ.1.1 i (by first | assumption | omega)).2.2.1 hS hown (hts (.fieldLink RJ0 9 "java/lang/String" "value" "[B") (List.mem_of_getElem? (i := 1) rfl)) (fun _ h9 => h9) dJ0_length_8abf5_1 ?_
  refine va_tlen (v := nI (sLen.getD i 0)) hx hb (hZ.1.1 i (by first | assumption | omega)).2.2.2 hS rfl dJ0_length_8abf5_4 ?_
  refine lv_aload_n hx hb dJ0_length_8abf5_5 rfl (lv_at hl 0 rfl) ?_
  refine xz_i (As := []) (rest := [.int (nI (sLen.getD i 0))]) (ad := ad) ⟨hx, hb, hml, hown, hts⟩ (c_J0_coder_7d493 l G ad i (by first | assumption | omega)) (cwV 0 hts gJ0_length_8abf5_J0_coder_7d493 rfl rfl rfl (by decide +kernel) ⟨Nat.le_of_ble_eq_true rfl, Nat.le_of_ble_eq_true rfl⟩) hZ (by first | assumption | omega) hP hS rfl hl.1 rfl (Nat.le_of_ble_eq_true rfl) dJ0_length_8abf5_6 ⟨Nat.zero_le _, Nat.zero_le _⟩ (fun r6 H locs hp6 hP hS => ?_)
  rw [show r6 = _ from hp6]
  refine lv_ishr hx hb dJ0_length_8abf5_9 ?_
  refine W.iret (v := (nI (sLen.getD i 0)) >>> ((nI 0) &&& 31)) hx hb hr (fun t ht hW => ⟨⟨(nI (sLen.getD i 0)) >>> ((nI 0) &&& 31), (), rfl, ?_, trivial⟩, hS.F ht⟩) hS.2.2 dJ0_length_8abf5_10
  exact (sLen_le i h5).2

abbrev Q_J3_checkIndex_8e157 (G : XG) (k n : Nat) (z : Nat) : Array Value → State → Outcome → State → Prop := (xRi (fun r => r = nI k))
set_option maxHeartbeats 4000000 in
set_option maxRecDepth 100000 in
theorem c_J3_checkIndex_8e157 (l : Launch) (G : XG) (k n : Nat) (z : Nat) (hkn : k < n) (hn : n ≤ 5) : Met l yJ3_checkIndex_8e157 wsJ3_checkIndex_8e157 ({ frames := 0, cells := 0, slots := 0, locals := 0 } : Room) (va_Pc [.int (nI k), .int (nI n), .ref z] (fun _ => True)) (Q_J3_checkIndex_8e157 G k n z) 0 0 (fun _ => False) := by
  refine Met.ofW (cc := cJ3_checkIndex_8e157) (maxL := 3) (ret := (some .int)) (by decide) rfl ?_
  intro pp ee ss mm aa below mt cd s₁ BB hml hv
  obtain ⟨rfl, -⟩ := hv
  have hx := BB.exec
  have hb := BB.bytes
  have hr := BB.returns
  have hts := atoms_spec (ws := wsJ3_checkIndex_8e157) BB.pre
  have hown : ss.vm.findClass RJ3 = some mm.cls := findClass_of_methodNamed BB.named
  have hlocks := BB.notSynchronized
  have hS : va_S (fun _ => False) ss.heap ss.heap [] := va_S.rf
  have hP : xP (G) [] ss.heap := fun k q h => by cases h
  have hl := lv_entry ([.int (nI k), .int (nI n), .ref z]) (n := 3) (Nat.le_of_ble_eq_true rfl)
  rw [lg_entry_eq]
  generalize (lg_sl ([.int (nI k), .int (nI n), .ref z]) ++ List.replicate (3 - (lg_sl ([.int (nI k), .int (nI n), .ref z])).length) Slot.unset).toArray = ls at hl ⊢
  replace hl : lv_has ls 3 [(0, .int (nI k)), (1, .int (nI n)), (2, .ref z)] := hl
  refine lv_iload_n hx hb dJ3_checkIndex_8e157_0 rfl (lv_at hl 0 rfl) ?_
  refine xn_if_lt (tgt := 9) hx hb (by omega) dJ3_checkIndex_8e157_1 rfl (fun b1 => absurd b1 (by omega)) (fun _ => ?_)
  refine lv_iload_n hx hb dJ3_checkIndex_8e157_4 rfl (lv_at hl 0 rfl) ?_
  refine lv_iload_n hx hb dJ3_checkIndex_8e157_5 rfl (lv_at hl 1 rfl) ?_
  refine xn_icmp_lt (tgt := 16) hx hb (by omega) (by omega) dJ3_checkIndex_8e157_6 rfl (fun _ => ?_) (fun b6 => absurd b6 (by omega))
  refine lv_iload_n hx hb dJ3_checkIndex_8e157_16 rfl (lv_at hl 0 rfl) ?_
  refine W.iret (v := nI k) hx hb hr (fun t ht hW => ⟨⟨nI k, (), rfl, ?_, trivial⟩, hS.F ht⟩) hS.2.2 dJ3_checkIndex_8e157_17
  rfl

abbrev Q_J3_checkIndex_8e157_0 (G : XG) (k n : Nat) : Array Value → State → Outcome → State → Prop := (xRi (fun r => r = nI k))
set_option maxHeartbeats 4000000 in
set_option maxRecDepth 100000 in
theorem c_J3_checkIndex_8e157_0 (l : Launch) (G : XG) (k n : Nat) (hkn : k < n) (hn : n ≤ 5) : Met l yJ3_checkIndex_8e157 wsJ3_checkIndex_8e157 ({ frames := 0, cells := 0, slots := 0, locals := 0 } : Room) (va_Pc [.int (nI k), .int (nI n), .null] (fun _ => True)) (Q_J3_checkIndex_8e157_0 G k n) 0 0 (fun _ => False) := by
  refine Met.ofW (cc := cJ3_checkIndex_8e157) (maxL := 3) (ret := (some .int)) (by decide) rfl ?_
  intro pp ee ss mm aa below mt cd s₁ BB hml hv
  obtain ⟨rfl, -⟩ := hv
  have hx := BB.exec
  have hb := BB.bytes
  have hr := BB.returns
  have hts := atoms_spec (ws := wsJ3_checkIndex_8e157) BB.pre
  have hown : ss.vm.findClass RJ3 = some mm.cls := findClass_of_methodNamed BB.named
  have hlocks := BB.notSynchronized
  have hS : va_S (fun _ => False) ss.heap ss.heap [] := va_S.rf
  have hP : xP (G) [] ss.heap := fun k q h => by cases h
  have hl := lv_entry ([.int (nI k), .int (nI n), .null]) (n := 3) (Nat.le_of_ble_eq_true rfl)
  rw [lg_entry_eq]
  generalize (lg_sl ([.int (nI k), .int (nI n), .null]) ++ List.replicate (3 - (lg_sl ([.int (nI k), .int (nI n), .null])).length) Slot.unset).toArray = ls at hl ⊢
  replace hl : lv_has ls 3 [(0, .int (nI k)), (1, .int (nI n)), (2, .null)] := hl
  refine lv_iload_n hx hb dJ3_checkIndex_8e157_0 rfl (lv_at hl 0 rfl) ?_
  refine xn_if_lt (tgt := 9) hx hb (by omega) dJ3_checkIndex_8e157_1 rfl (fun b1 => absurd b1 (by omega)) (fun _ => ?_)
  refine lv_iload_n hx hb dJ3_checkIndex_8e157_4 rfl (lv_at hl 0 rfl) ?_
  refine lv_iload_n hx hb dJ3_checkIndex_8e157_5 rfl (lv_at hl 1 rfl) ?_
  refine xn_icmp_lt (tgt := 16) hx hb (by omega) (by omega) dJ3_checkIndex_8e157_6 rfl (fun _ => ?_) (fun b6 => absurd b6 (by omega))
  refine lv_iload_n hx hb dJ3_checkIndex_8e157_16 rfl (lv_at hl 0 rfl) ?_
  refine W.iret (v := nI k) hx hb hr (fun t ht hW => ⟨⟨nI k, (), rfl, ?_, trivial⟩, hS.F ht⟩) hS.2.2 dJ3_checkIndex_8e157_17
  rfl

set_option maxHeartbeats 4000000 in
set_option maxRecDepth 100000 in
theorem c_J0_checkIndex_df160 (l : Launch) (G : XG) (ad : XAd) (k n : Nat) (hkn : k < n) (hn : n ≤ 5) : Met l yJ0_checkIndex_df160 wsJ0_checkIndex_df160 ({ frames := 1, cells := 0, slots := 0, locals := 22 } : Room) (va_Pc [.int (nI k), .int (nI n)] (xZp ad)) (va_Qv (fun (_ : Unit) => True) (fun _ _ => True) (fun _ => False)) 0 0 (fun _ => False) := by
  refine Met.ofW (cc := cJ0_checkIndex_df160) (maxL := 2) (ret := none) (by decide) rfl ?_
  intro pp ee ss mm aa below mt cd s₁ BB hml hv
  obtain ⟨rfl, hZ⟩ := hv
  have hx := BB.exec
  have hb := BB.bytes
  have hr := BB.returns
  have hts := atoms_spec (ws := wsJ0_checkIndex_df160) BB.pre
  have hown : ss.vm.findClass RJ0 = some mm.cls := findClass_of_methodNamed BB.named
  have hlocks := BB.notSynchronized
  have hS : va_S (fun _ => False) ss.heap ss.heap [] := va_S.rf
  have hP : xP (G) [] ss.heap := fun k q h => by cases h
  have hl := lv_entry ([.int (nI k), .int (nI n)]) (n := 2) (Nat.le_of_ble_eq_true rfl)
  rw [lg_entry_eq]
  generalize (lg_sl ([.int (nI k), .int (nI n)]) ++ List.replicate (2 - (lg_sl ([.int (nI k), .int (nI n)])).length) Slot.unset).toArray = ls at hl ⊢
  replace hl : lv_has ls 2 [(0, .int (nI k)), (1, .int (nI n))] := hl
  refine lv_iload_n hx hb dJ0_checkIndex_df160_0 rfl (lv_at hl 0 rfl) ?_
  refine lv_iload_n hx hb dJ0_checkIndex_df160_1 rfl (lv_at hl 1 rfl) ?_
  rcases hZ.2.2.2 with hZ3 | ⟨tz, hZ3⟩
  · refine va_gets hx hb hZ3 hS hown (hts (.fieldLink RJ0 1053 "jdk/internal/util/Preconditions" "SIOOBE_FORMATTER" "Ljava/util/function/BiFunction;") (List.mem_of_getElem? (i := 1) rfl)) (fun _ h9 => h9) dJ0_checkIndex_df160_2 ?_
    refine xs_i (As := [.int (nI k), .int (nI n), .null]) (rest := []) ⟨hx, hb, hml, hown, hts⟩ (c_J3_checkIndex_8e157_0 l G k n hkn hn) (va_cwS 3 hts gJ0_checkIndex_df160_J3_checkIndex_8e157 rfl rfl rfl (by decide +kernel) ⟨Nat.le_of_ble_eq_true rfl, Nat.le_of_ble_eq_true rfl⟩) hP hS rfl hl.1 rfl (Nat.le_of_ble_eq_true rfl) dJ0_checkIndex_df160_5 ⟨Nat.zero_le _, Nat.zero_le _⟩ (fun r5 H locs hp5 hP hS => ?_)
    refine lv_pop hx hb dJ0_checkIndex_df160_8 rfl ?_
    exact W.vret hx hb hr (fun t ht hW => ⟨⟨(), rfl, trivial, trivial⟩, hS.F ht⟩) hS.2.2 dJ0_checkIndex_df160_9
  · refine va_gets hx hb hZ3 hS hown (hts (.fieldLink RJ0 1053 "jdk/internal/util/Preconditions" "SIOOBE_FORMATTER" "Ljava/util/function/BiFunction;") (List.mem_of_getElem? (i := 1) rfl)) (fun _ h9 => h9) dJ0_checkIndex_df160_2 ?_
    refine xs_i (As := [.int (nI k), .int (nI n), .ref tz]) (rest := []) ⟨hx, hb, hml, hown, hts⟩ (c_J3_checkIndex_8e157 l G k n tz hkn hn) (va_cwS 3 hts gJ0_checkIndex_df160_J3_checkIndex_8e157 rfl rfl rfl (by decide +kernel) ⟨Nat.le_of_ble_eq_true rfl, Nat.le_of_ble_eq_true rfl⟩) hP hS rfl hl.1 rfl (Nat.le_of_ble_eq_true rfl) dJ0_checkIndex_df160_5 ⟨Nat.zero_le _, Nat.zero_le _⟩ (fun r5 H locs hp5 hP hS => ?_)
    refine lv_pop hx hb dJ0_checkIndex_df160_8 rfl ?_
    exact W.vret hx hb hr (fun t ht hW => ⟨⟨(), rfl, trivial, trivial⟩, hS.F ht⟩) hS.2.2 dJ0_checkIndex_df160_9

abbrev Q_J1_charAt_3b067 (G : XG) (ad : XAd) (i : Nat) (k : Nat) : Array Value → State → Outcome → State → Prop := (xRi (fun r => r = sC i k))
set_option maxHeartbeats 4000000 in
set_option maxRecDepth 100000 in
theorem c_J1_charAt_3b067 (l : Launch) (G : XG) (ad : XAd) (i : Nat) (k : Nat) (h5 : i < 5) (hk : k < sLen.getD i 0) : Met l yJ1_charAt_3b067 wsJ1_charAt_3b067 ({ frames := 2, cells := 0, slots := 0, locals := 43 } : Room) (va_Pc [.ref (ad.2 i), .int (nI k)] (xZp ad)) (Q_J1_charAt_3b067 G ad i k) 0 0 (fun _ => False) := by
  refine Met.ofW (cc := cJ1_charAt_3b067) (maxL := 2) (ret := (some .char)) (by decide) rfl ?_
  intro pp ee ss mm aa below mt cd s₁ BB hml hv
  obtain ⟨rfl, hZ⟩ := hv
  have hx := BB.exec
  have hb := BB.bytes
  have hr := BB.returns
  have hts := atoms_spec (ws := wsJ1_charAt_3b067) BB.pre
  have hown : ss.vm.findClass RJ1 = some mm.cls := findClass_of_methodNamed BB.named
  have hlocks := BB.notSynchronized
  have hS : va_S (fun _ => False) ss.heap ss.heap [] := va_S.rf
  have hP : xP (G) [] ss.heap := fun k q h => by cases h
  have hl := lv_entry ([.ref (ad.2 i), .int (nI k)]) (n := 2) (Nat.le_of_ble_eq_true rfl)
  rw [lg_entry_eq]
  generalize (lg_sl ([.ref (ad.2 i), .int (nI k)]) ++ List.replicate (2 - (lg_sl ([.ref (ad.2 i), .int (nI k)])).length) Slot.unset).toArray = ls at hl ⊢
  replace hl : lv_has ls 2 [(0, .ref (ad.2 i)), (1, .int (nI k))] := hl
  have hq5 := sLen_le i h5
  refine lv_iload_n hx hb dJ1_charAt_3b067_0 rfl (lv_at hl 1 rfl) ?_
  refine lv_aload_n hx hb dJ1_charAt_3b067_1 rfl (lv_at hl 0 rfl) ?_
  refine va_tlen (v := nI (sLen.getD i 0)) hx hb (hZ.1.1 i (by first | assumption | omega)).2.2.2 hS rfl dJ1_charAt_3b067_2 ?_
  refine xzs_v (As := [.int (nI k), .int (nI (sLen.getD i 0))]) (rest := []) (ad := ad) ⟨hx, hb, hml, hown, hts⟩ (c_J0_checkIndex_df160 l G ad k (sLen.getD i 0) (by first | assumption | omega) (by first | assumption | omega)) (va_cwS 2 hts gJ1_charAt_3b067_J0_checkIndex_df160 rfl rfl rfl (by decide +kernel) ⟨Nat.le_of_ble_eq_true rfl, Nat.le_of_ble_eq_true rfl⟩) hZ hP hS rfl hl.1 rfl (Nat.le_of_ble_eq_true rfl) dJ1_charAt_3b067_3 ⟨Nat.zero_le _, Nat.zero_le _⟩ (fun H locs hP hS => ?_)
  refine lv_aload_n hx hb dJ1_charAt_3b067_6 rfl (lv_at hl 0 rfl) ?_
  refine lv_iload_n hx hb dJ1_charAt_3b067_7 rfl (lv_at hl 1 rfl) ?_
  refine va_tb (v := .int (sC i k)) hx hb (hZ.1.1 i (by first | assumption | omega)).2.2.2 hS (vp_in_nI (by omega) (by omega)) (by rw [nI_clamp (by omega)]; rfl) dJ1_charAt_3b067_8 ?_
  refine lv_sipush (v := nI 255) hx hb dJ1_charAt_3b067_9 (by decide) ?_
  refine lv_iand hx hb dJ1_charAt_3b067_12 ?_
  refine lv_i2c (v := sC i k) hx hb dJ1_charAt_3b067_13 (by exact (sC_nar i h5 k (by omega)).1) ?_
  refine W.zret (v := sC i k) (ty := .char) hx hb hr (by exact (sC_nar i h5 k (by omega)).2) (fun t ht hW => ⟨⟨sC i k, (), rfl, ?_, trivial⟩, hS.F ht⟩) hS.2.2 dJ1_charAt_3b067_14
  rfl

abbrev Q_J0_charAt_5068e (G : XG) (ad : XAd) (i : Nat) (k : Nat) : Array Value → State → Outcome → State → Prop := (xRi (fun r => r = sC i k))
set_option maxHeartbeats 4000000 in
set_option maxRecDepth 100000 in
theorem c_J0_charAt_5068e (l : Launch) (G : XG) (ad : XAd) (i : Nat) (k : Nat) (h5 : i < 5) (hk : k < sLen.getD i 0) : Met l yJ0_charAt_5068e wsJ0_charAt_5068e ({ frames := 3, cells := 0, slots := 0, locals := 64 } : Room) (va_Pc [.ref (ad.1 i), .int (nI k)] (xZp ad)) (Q_J0_charAt_5068e G ad i k) 0 0 (fun _ => False) := by
  refine Met.ofW (cc := cJ0_charAt_5068e) (maxL := 2) (ret := (some .char)) (by decide) rfl ?_
  intro pp ee ss mm aa below mt cd s₁ BB hml hv
  obtain ⟨rfl, hZ⟩ := hv
  have hx := BB.exec
  have hb := BB.bytes
  have hr := BB.returns
  have hts := atoms_spec (ws := wsJ0_charAt_5068e) BB.pre
  have hown : ss.vm.findClass RJ0 = some mm.cls := findClass_of_methodNamed BB.named
  have hlocks := BB.notSynchronized
  have hS : va_S (fun _ => False) ss.heap ss.heap [] := va_S.rf
  have hP : xP (G) [] ss.heap := fun k q h => by cases h
  have hl := lv_entry ([.ref (ad.1 i), .int (nI k)]) (n := 2) (Nat.le_of_ble_eq_true rfl)
  rw [lg_entry_eq]
  generalize (lg_sl ([.ref (ad.1 i), .int (nI k)]) ++ List.replicate (2 - (lg_sl ([.ref (ad.1 i), .int (nI k)])).length) Slot.unset).toArray = ls at hl ⊢
  replace hl : lv_has ls 2 [(0, .ref (ad.1 i)), (1, .int (nI k))] := hl
  have hq5 := sLen_le i h5
  refine lv_aload_n hx hb dJ0_charAt_5068e_0 rfl (lv_at hl 0 rfl) ?_
  refine xz_i (As := []) (rest := []) (ad := ad) ⟨hx, hb, hml, hown, hts⟩ (c_J0_isLatin1_aae02 l G ad i (by first | assumption | omega)) (cwV 0 hts gJ0_charAt_5068e_J0_isLatin1_aae02 rfl rfl rfl (by decide +kernel) ⟨Nat.le_of_ble_eq_true rfl, Nat.le_of_ble_eq_true rfl⟩) hZ (by first | assumption | omega) hP hS rfl hl.1 rfl (Nat.le_of_ble_eq_true rfl) dJ0_charAt_5068e_1 ⟨Nat.zero_le _, Nat.zero_le _⟩ (fun r1 H locs hp1 hP hS => ?_)
  rw [show r1 = _ from hp1]
  refine xn_if_eq (tgt := 16) hx hb (by omega) dJ0_charAt_5068e_4 rfl (fun b4 => absurd b4 (by omega)) (fun _ => ?_)
  refine lv_aload_n hx hb dJ0_charAt_5068e_7 rfl (lv_at hl 0 rfl) ?_
  refine vk_getf (v := .ref (ad.2 i)) hx hb (hZ.1.1 i (by first | assumption | omega)).2.2.1 hS hown (hts (.fieldLink RJ0 9 "java/lang/String" "value" "[B") (List.mem_of_getElem? (i := 1) rfl)) (fun _ h9 => h9) dJ0_charAt_5068e_8 ?_
  refine lv_iload_n hx hb dJ0_charAt_5068e_11 rfl (lv_at hl 1 rfl) ?_
  refine xzs_i (As := [.ref (ad.2 i), .int (nI k)]) (rest := []) (ad := ad) ⟨hx, hb, hml, hown, hts⟩ (c_J1_charAt_3b067 l G ad i k (by first | assumption | omega) (by first | assumption | omega)) (va_cwS 2 hts gJ0_charAt_5068e_J1_charAt_3b067 rfl rfl rfl (by decide +kernel) ⟨Nat.le_of_ble_eq_true rfl, Nat.le_of_ble_eq_true rfl⟩) hZ hP hS rfl hl.1 rfl (Nat.le_of_ble_eq_true rfl) dJ0_charAt_5068e_12 ⟨Nat.zero_le _, Nat.zero_le _⟩ (fun r12 H locs hp12 hP hS => ?_)
  rw [show r12 = _ from hp12]
  refine W.zret (v := sC i k) (ty := .char) hx hb hr (by exact (sC_nar i h5 k (by omega)).2) (fun t ht hW => ⟨⟨sC i k, (), rfl, ?_, trivial⟩, hS.F ht⟩) hS.2.2 dJ0_charAt_5068e_15
  rfl

abbrev w_X1_isName (G : XG) (kre kbt kby : Nat) (rl nx kd sr : Nat) (vl fo pl li hto lto ct : Int32) (tb : Nat → Int32) : va_W := [oC kre 1 [.ref kbt, .ref kby, .int (nI rl), .int (nI nx), .int (nI kd), .int (nI sr), .int vl, .int fo, .int pl, .int li, .int hto, .int lto, .int ct], bA G kby 160 tb]
abbrev Q_X1_isName (G : XG) (ad : XAd) (kre kbt kby : Nat) (rl nx kd sr : Nat) (vl fo pl li hto lto ct : Int32) (i : Nat) (tb : Nat → Int32) : Array Value → State → Outcome → State → Prop := (xRi (fun r => r = xb (nmP tb nx sr i)))
set_option maxHeartbeats 4000000 in
set_option maxRecDepth 100000 in
theorem c_X1_isName (l : Launch) (G : XG) (ad : XAd) (kre kbt kby : Nat) (rl nx kd sr : Nat) (vl fo pl li hto lto ct : Int32) (i : Nat) (tb : Nat → Int32) (h5 : i < 5) (hrl : rl ≤ 160) (hnx : nx ≤ rl) (hsr : sr ≤ nx) : Met l yX1_isName wsX1_isName ({ frames := 4, cells := 0, slots := 0, locals := 85 } : Room) (va_Pc [.ref kre, .ref (ad.1 i)] (xZRp G ad (w_X1_isName G kre kbt kby rl nx kd sr vl fo pl li hto lto ct tb))) (Q_X1_isName G ad kre kbt kby rl nx kd sr vl fo pl li hto lto ct i tb) 0 0 (fun _ => False) := by
  refine Met.ofW (cc := cX1_isName) (maxL := 3) (ret := (some .boolean)) (by decide) rfl ?_
  intro pp ee ss mm aa below mt cd s₁ BB hml hv
  obtain ⟨rfl, ⟨hP, hK⟩, hZ⟩ := hv
  have hx := BB.exec
  have hb := BB.bytes
  have hr := BB.returns
  have hts := atoms_spec (ws := wsX1_isName) BB.pre
  have hown : ss.vm.findClass RX1 = some mm.cls := findClass_of_methodNamed BB.named
  have hlocks := BB.notSynchronized
  have hS : va_S (fun _ => False) ss.heap ss.heap [] := va_S.rf
  replace hP : xP G [oC kre 1 [.ref kbt, .ref kby, .int (nI rl), .int (nI nx), .int (nI kd), .int (nI sr), .int vl, .int fo, .int pl, .int li, .int hto, .int lto, .int ct], bA G kby 160 tb] ss.heap := hP
  have hin1 : ∀ w ∈ u_ws RX1 TX1 13, w ∈ wsX1_isName := fun w h => List.mem_cons_of_mem _ (List.mem_append_right _ h)
  have hl := lv_entry ([.ref kre, .ref (ad.1 i)]) (n := 3) (Nat.le_of_ble_eq_true rfl)
  rw [lg_entry_eq]
  generalize (lg_sl ([.ref kre, .ref (ad.1 i)]) ++ List.replicate (3 - (lg_sl ([.ref kre, .ref (ad.1 i)])).length) Slot.unset).toArray = ls at hl ⊢
  replace hl : lv_has ls 3 [(0, .ref kre), (1, .ref (ad.1 i))] := hl
  have hq5 := sLen_le i h5
  refine lv_aload_n hx hb dX1_isName_0 rfl (lv_at hl 0 rfl) ?_
  refine va_get (D := G.1) (ci := 1) (v := .int (nI nx)) (C := RX1) (T := TX1) (N := 13) hx hb hts hin1 hown hK.1 hP 0 rfl rfl 3 (by decide) (hts (.fieldLink RX1 26 "BackLenses$Reader" "next" "I") (List.mem_of_getElem? (i := 1) rfl)) (fun _ h9 => h9) rfl dX1_isName_1 ?_
  refine lv_aload_n hx hb dX1_isName_4 rfl (lv_at hl 0 rfl) ?_
  refine va_get (D := G.1) (ci := 1) (v := .int (nI sr)) (C := RX1) (T := TX1) (N := 13) hx hb hts hin1 hown hK.1 hP 0 rfl rfl 5 (by decide) (hts (.fieldLink RX1 95 "BackLenses$Reader" "start" "I") (List.mem_of_getElem? (i := 2) rfl)) (fun _ h9 => h9) rfl dX1_isName_5 ?_
  refine xn_isub hx hb (by omega) dX1_isName_8 ?_
  refine lv_aload_n hx hb dX1_isName_9 rfl (lv_at hl 1 rfl) ?_
  refine xz_i (As := []) (rest := [.int (nI (nx - sr))]) (ad := ad) ⟨hx, hb, hml, hown, hts⟩ (c_J0_length_8abf5 l G ad i (by first | assumption | omega)) (cwV 0 hts gX1_isName_J0_length_8abf5 rfl rfl rfl (by decide +kernel) ⟨Nat.le_of_ble_eq_true rfl, Nat.le_of_ble_eq_true rfl⟩) hZ (by first | assumption | omega) hP hS rfl hl.1 rfl (Nat.le_of_ble_eq_true rfl) dX1_isName_10 ⟨Nat.zero_le _, Nat.zero_le _⟩ (fun r10 H locs hp10 hP hS => ?_)
  rw [show r10 = _ from hp10]
  refine xn_icmp_eq (tgt := 18) hx hb (by omega) (by omega) dX1_isName_13 rfl (fun b13 => ?_) (fun b13 => ?_)
  · skip
    refine lv_iconst (v := nI 0) hx hb dX1_isName_18 (by decide) ?_
    refine lv_istore_n (lv' := [(2, .int (nI 0)), (0, .ref kre), (1, .ref (ad.1 i))]) hx hb dX1_isName_19 rfl hl (by decide) rfl (fun ls hl => ?_)
    have hL20 : ∀ k : Nat, ∀ (jc : Nat) (ls : Array Slot) (H : Heap) (locs : List Loc), sLen.getD i 0 - jc = k → (jc ≤ sLen.getD i 0) → (∀ j, j < jc → tb (sr + j) = sC i j) → lv_has ls 3 [(0, .ref kre), (1, .ref (ad.1 i)), (2, .int (nI jc))] → xP G [bA G kby 160 tb, oC kre 1 [.ref kbt, .ref kby, .int (nI rl), .int (nI nx), .int (nI kd), .int (nI sr), .int vl, .int fo, .int pl, .int li, .int hto, .int lto, .int ct]] H → va_S (fun _ => False) ss.heap H locs → W pp l ee ({ frames := 4, cells := 0, slots := 0, locals := 85 } : Room) ss mm ([.ref kre, .ref (ad.1 i)] : List Value).toArray below mt cd H locs 0 0 (MQ below (Q_X1_isName G ad kre kbt kby rl nx kd sr vl fo pl li hto lto ct i tb) ([.ref kre, .ref (ad.1 i)] : List Value).toArray ss 0 0 (fun _ => False)) (F0 mm 20 ls []) := by
      intro k
      induction k using Nat.strongRecOn with
      | _ k ih20 =>
      intro jc ls H locs hm20 hkk hT hl hP hS
      refine lv_iload_n hx hb dX1_isName_20 rfl (lv_at hl 2 rfl) ?_
      refine lv_aload_n hx hb dX1_isName_21 rfl (lv_at hl 1 rfl) ?_
      refine xz_i (As := []) (rest := [.int (nI jc)]) (ad := ad) ⟨hx, hb, hml, hown, hts⟩ (c_J0_length_8abf5 l G ad i (by first | assumption | omega)) (cwV 0 hts gX1_isName_J0_length_8abf5 rfl rfl rfl (by decide +kernel) ⟨Nat.le_of_ble_eq_true rfl, Nat.le_of_ble_eq_true rfl⟩) hZ (by first | assumption | omega) hP hS rfl hl.1 rfl (Nat.le_of_ble_eq_true rfl) dX1_isName_22 ⟨Nat.zero_le _, Nat.zero_le _⟩ (fun r22 H locs hp22 hP hS => ?_)
      rw [show r22 = _ from hp22]
      refine xn_icmp_ge (tgt := 55) hx hb (by omega) (by omega) dX1_isName_25 rfl (fun b25 => ?_) (fun b25 => ?_)
      · skip
        refine lv_iconst (v := nI 1) hx hb dX1_isName_55 (by decide) ?_
        refine W.zret (v := nI 1) (ty := .boolean) hx hb hr (by decide) (fun t ht hW => ⟨⟨nI 1, (), rfl, ?_, trivial⟩, hS.F ht⟩) hS.2.2 dX1_isName_56
        exact (xb_t ⟨b13, fun j hj => hT j (by omega)⟩).symm
      · skip
        refine lv_aload_n hx hb dX1_isName_28 rfl (lv_at hl 0 rfl) ?_
        refine va_get (D := G.1) (ci := 1) (v := .ref kby) (C := RX1) (T := TX1) (N := 13) hx hb hts hin1 hown hK.1 hP 1 rfl rfl 1 (by decide) (hts (.fieldLink RX1 18 "BackLenses$Reader" "bytes" "[B") (List.mem_of_getElem? (i := 3) rfl)) (fun _ h9 => h9) rfl dX1_isName_29 ?_
        refine lv_aload_n hx hb dX1_isName_32 rfl (lv_at hl 0 rfl) ?_
        refine va_get (D := G.1) (ci := 1) (v := .int (nI sr)) (C := RX1) (T := TX1) (N := 13) hx hb hts hin1 hown hK.1 hP 1 rfl rfl 5 (by decide) (hts (.fieldLink RX1 95 "BackLenses$Reader" "start" "I") (List.mem_of_getElem? (i := 2) rfl)) (fun _ h9 => h9) rfl dX1_isName_33 ?_
        refine lv_iload_n hx hb dX1_isName_36 rfl (lv_at hl 2 rfl) ?_
        refine xn_iadd hx hb dX1_isName_37 ?_
        refine xn_bald hx hb hK hP 0 rfl (by omega) (by omega) dX1_isName_38 ?_
        refine lv_aload_n hx hb dX1_isName_39 rfl (lv_at hl 1 rfl) ?_
        refine lv_iload_n hx hb dX1_isName_40 rfl (lv_at hl 2 rfl) ?_
        refine xz_i (As := [.int (nI jc)]) (rest := [.int (tb (sr + jc))]) (ad := ad) ⟨hx, hb, hml, hown, hts⟩ (c_J0_charAt_5068e l G ad i jc (by first | assumption | omega) (by first | assumption | omega)) (cwV 1 hts gX1_isName_J0_charAt_5068e rfl rfl rfl (by decide +kernel) ⟨Nat.le_of_ble_eq_true rfl, Nat.le_of_ble_eq_true rfl⟩) hZ (by first | assumption | omega) hP hS rfl hl.1 rfl (Nat.le_of_ble_eq_true rfl) dX1_isName_41 ⟨Nat.zero_le _, Nat.zero_le _⟩ (fun r41 H locs hp41 hP hS => ?_)
        rw [show r41 = _ from hp41]
        refine lv_icmp_eq (tgt := 49) hx hb dX1_isName_44 rfl (fun b44 => ?_) (fun b44 => ?_)
        · skip
          refine lv_iinc (k := 2) (v := nI (jc + 1)) (lv' := [(2, .int (nI (jc + 1))), (0, .ref kre), (1, .ref (ad.1 i))]) hx hb dX1_isName_49 hl rfl (xn_inc jc 1) (by decide) rfl (fun ls hl => ?_)
          refine lv_goto (tgt := 20) hx hb dX1_isName_52 rfl ?_
          have hl := lv_sub hl (l' := [(0, .ref kre), (1, .ref (ad.1 i)), (2, .int (nI (jc + 1)))]) [1, 2, 0] rfl
          exact ih20 (sLen.getD i 0 - (jc + 1)) (by omega) (jc + 1) ls H locs rfl (by omega) (by intro j hj; by_cases hq : j = jc; (rw [hq]; exact b44); exact hT j (by omega)) hl hP hS
        · skip
          refine lv_iconst (v := nI 0) hx hb dX1_isName_47 (by decide) ?_
          refine W.zret (v := nI 0) (ty := .boolean) hx hb hr (by decide) (fun t ht hW => ⟨⟨nI 0, (), rfl, ?_, trivial⟩, hS.F ht⟩) hS.2.2 dX1_isName_48
          exact (xb_f (fun q => b44 (q.2 jc (by omega)))).symm
    have hl := lv_sub hl (l' := [(0, .ref kre), (1, .ref (ad.1 i)), (2, .int (nI 0))]) [1, 2, 0] rfl
    have hP := hP.sub (ws' := [bA G kby 160 tb, oC kre 1 [.ref kbt, .ref kby, .int (nI rl), .int (nI nx), .int (nI kd), .int (nI sr), .int vl, .int fo, .int pl, .int li, .int hto, .int lto, .int ct]]) [1, 0] rfl
    exact hL20 (sLen.getD i 0 - 0) 0 ls H locs rfl (by omega) (by intro j hj; omega) hl hP hS
  · skip
    refine lv_iconst (v := nI 0) hx hb dX1_isName_16 (by decide) ?_
    refine W.zret (v := nI 0) (ty := .boolean) hx hb hr (by decide) (fun t ht hW => ⟨⟨nI 0, (), rfl, ?_, trivial⟩, hS.F ht⟩) hS.2.2 dX1_isName_17
    exact (xb_f (fun q => b13 q.1)).symm
end
section
abbrev w_X1_takeLine (G : XG) (kre kbt kby : Nat) (rl nx kd sr : Nat) (vl fo pl li hto lto ct : Int32) (ka kc kl kn : Nat) (w h la : Nat) (kcn kln : Nat) (nc nl : Nat) (af fc fl tb : Nat → Int32) : va_W := [oC kre 1 [.ref kbt, .ref kby, .int (nI rl), .int (nI nx), .int (nI kd), .int (nI sr), .int vl, .int fo, .int pl, .int li, .int hto, .int lto, .int ct], oC kbt 0 [.int (nI w), .int (nI h), .int (nI la), .ref ka, .ref kc, .ref kl, .ref kn], iA G ka 16 af, oC kc 2 [.ref kcn, .int (nI 10), .int (nI nc)], iA G kcn (3 * 10) fc, oC kl 2 [.ref kln, .int (nI 6), .int (nI nl)], iA G kln (3 * 6) fl, bA G kby 160 tb]
abbrev Q_X1_takeLine (G : XG) (sz : Nat) (ad : XAd) (kre kbt kby : Nat) (rl nx kd sr : Nat) (vl fo pl li hto lto ct : Int32) (ka kc kl kn : Nat) (w h la : Nat) (kcn kln : Nat) (nc nl : Nat) (af fc fl tb : Nat → Int32) : Array Value → State → Outcome → State → Prop := (va_Qi (fun (r : Int32) (u : Nat × Nat × Nat × Int32 × Int32 × Int32 × Int32 × Int32 × Int32 × Nat × Nat × Nat × (Nat → Int32) × Nat × (Nat → Int32) × Nat × (Nat → Int32)) => r = xb ((fLin tb rl (nx, kd, sr, vl, fo, pl) hto lto ct w h la af nc fc nl fl).1 = true) ∧ ((u.1, u.2.1, u.2.2.1, u.2.2.2.1, u.2.2.2.2.1, u.2.2.2.2.2.1), (u.2.2.2.2.2.2.1, u.2.2.2.2.2.2.2.1, u.2.2.2.2.2.2.2.2.1), (u.2.2.2.2.2.2.2.2.2.1, u.2.2.2.2.2.2.2.2.2.2.1, u.2.2.2.2.2.2.2.2.2.2.2.1), u.2.2.2.2.2.2.2.2.2.2.2.2.1, (u.2.2.2.2.2.2.2.2.2.2.2.2.2.1, u.2.2.2.2.2.2.2.2.2.2.2.2.2.2.1), (u.2.2.2.2.2.2.2.2.2.2.2.2.2.2.2.1, u.2.2.2.2.2.2.2.2.2.2.2.2.2.2.2.2)) = (fLin tb rl (nx, kd, sr, vl, fo, pl) hto lto ct w h la af nc fc nl fl).2) (xWb G sz (w_X1_takeLine G kre kbt kby rl nx kd sr vl fo pl li hto lto ct ka kc kl kn w h la kcn kln nc nl af fc fl tb) (fun u : Nat × Nat × Nat × Int32 × Int32 × Int32 × Int32 × Int32 × Int32 × Nat × Nat × Nat × (Nat → Int32) × Nat × (Nat → Int32) × Nat × (Nat → Int32) => [oC kre 1 [.ref kbt, .ref kby, .int (nI rl), .int (nI u.1), .int (nI u.2.1), .int (nI u.2.2.1), .int u.2.2.2.1, .int u.2.2.2.2.1, .int u.2.2.2.2.2.1, .int li, .int u.2.2.2.2.2.2.1, .int u.2.2.2.2.2.2.2.1, .int u.2.2.2.2.2.2.2.2.1], oC kbt 0 [.int (nI u.2.2.2.2.2.2.2.2.2.1), .int (nI u.2.2.2.2.2.2.2.2.2.2.1), .int (nI u.2.2.2.2.2.2.2.2.2.2.2.1), .ref ka, .ref kc, .ref kl, .ref kn], iA G ka 16 u.2.2.2.2.2.2.2.2.2.2.2.2.1, oC kc 2 [.ref kcn, .int (nI 10), .int (nI u.2.2.2.2.2.2.2.2.2.2.2.2.2.1)], iA G kcn (3 * 10) u.2.2.2.2.2.2.2.2.2.2.2.2.2.2.1, oC kl 2 [.ref kln, .int (nI 6), .int (nI u.2.2.2.2.2.2.2.2.2.2.2.2.2.2.2.1)], iA G kln (3 * 6) u.2.2.2.2.2.2.2.2.2.2.2.2.2.2.2.2, bA G kby 160 tb])) (va_A (w_X1_takeLine G kre kbt kby rl nx kd sr vl fo pl li hto lto ct ka kc kl kn w h la kcn kln nc nl af fc fl tb) sz))
set_option maxHeartbeats 4000000 in
set_option maxRecDepth 100000 in
theorem c_X1_takeLine (l : Launch) (G : XG) (sz : Nat) (ad : XAd) (kre kbt kby : Nat) (rl nx kd sr : Nat) (vl fo pl li hto lto ct : Int32) (ka kc kl kn : Nat) (w h la : Nat) (kcn kln : Nat) (nc nl : Nat) (af fc fl tb : Nat → Int32) (hrl : rl ≤ 160) (hnx : nx ≤ rl) (hsr : sr ≤ nx) (hnc : nc ≤ 10) (hnl : nl ≤ 6) (hkd : kd ≤ 3) : Met l yX1_takeLine wsX1_takeLine ({ frames := 5, cells := 0, slots := 0, locals := 107 } : Room) (va_Pc [.ref kre] (xZWp G sz ad (w_X1_takeLine G kre kbt kby rl nx kd sr vl fo pl li hto lto ct ka kc kl kn w h la kcn kln nc nl af fc fl tb))) (Q_X1_takeLine G sz ad kre kbt kby rl nx kd sr vl fo pl li hto lto ct ka kc kl kn w h la kcn kln nc nl af fc fl tb) 0 0 (va_A (w_X1_takeLine G kre kbt kby rl nx kd sr vl fo pl li hto lto ct ka kc kl kn w h la kcn kln nc nl af fc fl tb) sz) := by
  refine Met.ofW (cc := cX1_takeLine) (maxL := 1) (ret := (some .boolean)) (by decide) rfl ?_
  intro pp ee ss mm aa below mt cd s₁ BB hml hv
  obtain ⟨rfl, ⟨hsz, hP, hK, hD0⟩, hZ⟩ := hv
  have hx := BB.exec
  have hb := BB.bytes
  have hr := BB.returns
  have hts := atoms_spec (ws := wsX1_takeLine) BB.pre
  have hown : ss.vm.findClass RX1 = some mm.cls := findClass_of_methodNamed BB.named
  have hlocks := BB.notSynchronized
  subst hsz
  have hD := hD0.self (sz := ss.heap.size)
  have hA : ∀ q : Nat, ss.heap.size ≤ q → va_A (w_X1_takeLine G kre kbt kby rl nx kd sr vl fo pl li hto lto ct ka kc kl kn w h la kcn kln nc nl af fc fl tb) ss.heap.size q := fun q h => Or.inr h
  have hS : va_S (va_A (w_X1_takeLine G kre kbt kby rl nx kd sr vl fo pl li hto lto ct ka kc kl kn w h la kcn kln nc nl af fc fl tb) ss.heap.size) ss.heap ss.heap [] := va_S.rf
  replace hD : va_D (va_A (w_X1_takeLine G kre kbt kby rl nx kd sr vl fo pl li hto lto ct ka kc kl kn w h la kcn kln nc nl af fc fl tb) ss.heap.size) [oC kre 1 [.ref kbt, .ref kby, .int (nI rl), .int (nI nx), .int (nI kd), .int (nI sr), .int vl, .int fo, .int pl, .int li, .int hto, .int lto, .int ct], oC kbt 0 [.int (nI w), .int (nI h), .int (nI la), .ref ka, .ref kc, .ref kl, .ref kn], iA G ka 16 af, oC kc 2 [.ref kcn, .int (nI 10), .int (nI nc)], iA G kcn (3 * 10) fc, oC kl 2 [.ref kln, .int (nI 6), .int (nI nl)], iA G kln (3 * 6) fl, bA G kby 160 tb] := hD
  replace hP : xP G [oC kre 1 [.ref kbt, .ref kby, .int (nI rl), .int (nI nx), .int (nI kd), .int (nI sr), .int vl, .int fo, .int pl, .int li, .int hto, .int lto, .int ct], oC kbt 0 [.int (nI w), .int (nI h), .int (nI la), .ref ka, .ref kc, .ref kl, .ref kn], iA G ka 16 af, oC kc 2 [.ref kcn, .int (nI 10), .int (nI nc)], iA G kcn (3 * 10) fc, oC kl 2 [.ref kln, .int (nI 6), .int (nI nl)], iA G kln (3 * 6) fl, bA G kby 160 tb] ss.heap := hP
  have hin0 : ∀ w ∈ u_ws RX0 TX0 7, w ∈ wsX1_takeLine := fun w h => List.mem_cons_of_mem _ (List.mem_append_left _ (List.mem_append_right _ h))
  have hin1 : ∀ w ∈ u_ws RX1 TX1 13, w ∈ wsX1_takeLine := fun w h => List.mem_cons_of_mem _ (List.mem_append_left _ (List.mem_append_left _ (List.mem_append_right _ h)))
  have hin2 : ∀ w ∈ u_ws RX2 TX2 3, w ∈ wsX1_takeLine := fun w h => List.mem_cons_of_mem _ (List.mem_append_right _ h)
  have hl := lv_entry ([.ref kre]) (n := 1) (Nat.le_of_ble_eq_true rfl)
  rw [lg_entry_eq]
  generalize (lg_sl ([.ref kre]) ++ List.replicate (1 - (lg_sl ([.ref kre])).length) Slot.unset).toArray = ls at hl ⊢
  replace hl : lv_has ls 1 [(0, .ref kre)] := hl
  refine lv_aload_n hx hb dX1_takeLine_0 rfl (lv_at hl 0 rfl) ?_
  refine va_get (D := G.1) (ci := 1) (v := .int (nI kd)) (C := RX1) (T := TX1) (N := 13) hx hb hts hin1 hown hK.1 hP 0 rfl rfl 4 (by decide) (hts (.fieldLink RX1 55 "BackLenses$Reader" "kind" "I") (List.mem_of_getElem? (i := 1) rfl)) (fun _ h9 => h9) rfl dX1_takeLine_1 ?_
  refine lv_iconst (v := nI 1) hx hb dX1_takeLine_4 (by decide) ?_
  refine xn_icmp_eq (tgt := 18) hx hb (by omega) (by omega) dX1_takeLine_5 rfl (fun b5 => ?_) (fun b5 => ?_)
  · skip
    refine lv_aload_n hx hb dX1_takeLine_18 rfl (lv_at hl 0 rfl) ?_
    refine va_ldcS hx hb hown (show vk_R RX1 98 "house" (ad.1 0) ss from hZ.2.1 0 (by decide)) dX1_takeLine_19 ?_
    refine xzr_i (As := [.ref (ad.1 0)]) (rest := []) (ad := ad) ⟨hx, hb, hml, hown, hts⟩ (c_X1_isName l G ad kre kbt kby rl nx kd sr vl fo pl li hto lto ct 0 tb (by first | assumption | omega) (by first | assumption | omega) (by first | assumption | omega) (by first | assumption | omega)) (cwV 1 hts gX1_takeLine_X1_isName rfl rfl rfl (by decide +kernel) ⟨Nat.le_of_ble_eq_true rfl, Nat.le_of_ble_eq_true rfl⟩) hZ hK hP hS [0, 7] rfl rfl rfl rfl hl.1 rfl (Nat.le_of_ble_eq_true rfl) dX1_takeLine_21 ⟨Nat.zero_le _, Nat.zero_le _⟩ (fun r21 H locs hp21 hP hS => ?_)
    rw [show r21 = _ from hp21]
    refine xb_if_eq (tgt := 32) hx hb dX1_takeLine_24 rfl (fun b24 => ?_) (fun b24 => ?_)
    · skip
      refine lv_aload_n hx hb dX1_takeLine_32 rfl (lv_at hl 0 rfl) ?_
      refine va_ldcS hx hb hown (show vk_R RX1 107 "last" (ad.1 1) ss from hZ.2.1 1 (by decide)) dX1_takeLine_33 ?_
      refine xzr_i (As := [.ref (ad.1 1)]) (rest := []) (ad := ad) ⟨hx, hb, hml, hown, hts⟩ (c_X1_isName l G ad kre kbt kby rl nx kd sr vl fo pl li hto lto ct 1 tb (by first | assumption | omega) (by first | assumption | omega) (by first | assumption | omega) (by first | assumption | omega)) (cwV 1 hts gX1_takeLine_X1_isName rfl rfl rfl (by decide +kernel) ⟨Nat.le_of_ble_eq_true rfl, Nat.le_of_ble_eq_true rfl⟩) hZ hK hP hS [0, 7] rfl rfl rfl rfl hl.1 rfl (Nat.le_of_ble_eq_true rfl) dX1_takeLine_35 ⟨Nat.zero_le _, Nat.zero_le _⟩ (fun r35 H locs hp35 hP hS => ?_)
      rw [show r35 = _ from hp35]
      refine xb_if_eq (tgt := 46) hx hb dX1_takeLine_38 rfl (fun b38 => ?_) (fun b38 => ?_)
      · skip
        refine lv_aload_n hx hb dX1_takeLine_46 rfl (lv_at hl 0 rfl) ?_
        refine va_ldcS hx hb hown (show vk_R RX1 112 "cell" (ad.1 2) ss from hZ.2.1 2 (by decide)) dX1_takeLine_47 ?_
        refine xzr_i (As := [.ref (ad.1 2)]) (rest := []) (ad := ad) ⟨hx, hb, hml, hown, hts⟩ (c_X1_isName l G ad kre kbt kby rl nx kd sr vl fo pl li hto lto ct 2 tb (by first | assumption | omega) (by first | assumption | omega) (by first | assumption | omega) (by first | assumption | omega)) (cwV 1 hts gX1_takeLine_X1_isName rfl rfl rfl (by decide +kernel) ⟨Nat.le_of_ble_eq_true rfl, Nat.le_of_ble_eq_true rfl⟩) hZ hK hP hS [0, 7] rfl rfl rfl rfl hl.1 rfl (Nat.le_of_ble_eq_true rfl) dX1_takeLine_49 ⟨Nat.zero_le _, Nat.zero_le _⟩ (fun r49 H locs hp49 hP hS => ?_)
        rw [show r49 = _ from hp49]
        refine xb_if_eq (tgt := 60) hx hb dX1_takeLine_52 rfl (fun b52 => ?_) (fun b52 => ?_)
        · skip
          refine lv_aload_n hx hb dX1_takeLine_60 rfl (lv_at hl 0 rfl) ?_
          refine va_ldcS hx hb hown (show vk_R RX1 117 "turn" (ad.1 3) ss from hZ.2.1 3 (by decide)) dX1_takeLine_61 ?_
          refine xzr_i (As := [.ref (ad.1 3)]) (rest := []) (ad := ad) ⟨hx, hb, hml, hown, hts⟩ (c_X1_isName l G ad kre kbt kby rl nx kd sr vl fo pl li hto lto ct 3 tb (by first | assumption | omega) (by first | assumption | omega) (by first | assumption | omega) (by first | assumption | omega)) (cwV 1 hts gX1_takeLine_X1_isName rfl rfl rfl (by decide +kernel) ⟨Nat.le_of_ble_eq_true rfl, Nat.le_of_ble_eq_true rfl⟩) hZ hK hP hS [0, 7] rfl rfl rfl rfl hl.1 rfl (Nat.le_of_ble_eq_true rfl) dX1_takeLine_63 ⟨Nat.zero_le _, Nat.zero_le _⟩ (fun r63 H locs hp63 hP hS => ?_)
          rw [show r63 = _ from hp63]
          refine xb_if_eq (tgt := 74) hx hb dX1_takeLine_66 rfl (fun b66 => ?_) (fun b66 => ?_)
          · skip
            refine lv_aload_n hx hb dX1_takeLine_74 rfl (lv_at hl 0 rfl) ?_
            refine va_ldcS hx hb hown (show vk_R RX1 122 "lens" (ad.1 4) ss from hZ.2.1 4 (by decide)) dX1_takeLine_75 ?_
            refine xzr_i (As := [.ref (ad.1 4)]) (rest := []) (ad := ad) ⟨hx, hb, hml, hown, hts⟩ (c_X1_isName l G ad kre kbt kby rl nx kd sr vl fo pl li hto lto ct 4 tb (by first | assumption | omega) (by first | assumption | omega) (by first | assumption | omega) (by first | assumption | omega)) (cwV 1 hts gX1_takeLine_X1_isName rfl rfl rfl (by decide +kernel) ⟨Nat.le_of_ble_eq_true rfl, Nat.le_of_ble_eq_true rfl⟩) hZ hK hP hS [0, 7] rfl rfl rfl rfl hl.1 rfl (Nat.le_of_ble_eq_true rfl) dX1_takeLine_77 ⟨Nat.zero_le _, Nat.zero_le _⟩ (fun r77 H locs hp77 hP hS => ?_)
            rw [show r77 = _ from hp77]
            refine xb_if_eq (tgt := 88) hx hb dX1_takeLine_80 rfl (fun b80 => ?_) (fun b80 => ?_)
            · skip
              refine lv_aload_n hx hb dX1_takeLine_88 rfl (lv_at hl 0 rfl) ?_
              refine lv_iconst (v := nI 2) hx hb dX1_takeLine_89 (by decide) ?_
              refine lv_aload_n hx hb dX1_takeLine_90 rfl (lv_at hl 0 rfl) ?_
              refine va_get (D := G.1) (ci := 1) (v := .int (nI sr)) (C := RX1) (T := TX1) (N := 13) hx hb hts hin1 hown hK.1 hP 0 rfl rfl 5 (by decide) (hts (.fieldLink RX1 95 "BackLenses$Reader" "start" "I") (List.mem_of_getElem? (i := 2) rfl)) (fun _ h9 => h9) rfl dX1_takeLine_91 ?_
              refine xw_i (As := [.int (nI 2), .int (nI sr)]) (rest := []) (wr := [oC kbt 0 [.int (nI w), .int (nI h), .int (nI la), .ref ka, .ref kc, .ref kl, .ref kn], iA G ka 16 af, oC kc 2 [.ref kcn, .int (nI 10), .int (nI nc)], iA G kcn (3 * 10) fc, oC kl 2 [.ref kln, .int (nI 6), .int (nI nl)], iA G kln (3 * 6) fl, bA G kby 160 tb]) ⟨hx, hb, hml, hown, hts⟩ (c_X1_refuse l G H.size kre kbt kby rl nx kd sr vl fo pl li hto lto ct (nI 2) (nI sr) ) (cwV 2 hts gX1_takeLine_X1_refuse rfl rfl rfl (by decide +kernel) ⟨Nat.le_of_ble_eq_true rfl, Nat.le_of_ble_eq_true rfl⟩) hK hP hD hS hA [0] [1, 2, 3, 4, 5, 6, 7] rfl rfl (by decide) (by decide) (by decide) rfl rfl rfl hl.1 rfl (Nat.le_of_ble_eq_true rfl) dX1_takeLine_94 ⟨Nat.le_of_ble_eq_true rfl, Nat.le_of_ble_eq_true rfl⟩ (fun r94 u H locs hp94 hP hD hS => ?_)
              obtain rfl := hp94
              replace hP : xP G [oC kbt 0 [.int (nI w), .int (nI h), .int (nI la), .ref ka, .ref kc, .ref kl, .ref kn], iA G ka 16 af, oC kc 2 [.ref kcn, .int (nI 10), .int (nI nc)], iA G kcn (3 * 10) fc, oC kl 2 [.ref kln, .int (nI 6), .int (nI nl)], iA G kln (3 * 6) fl, bA G kby 160 tb, oC kre 1 [.ref kbt, .ref kby, .int (nI rl), .int (nI nx), .int (nI kd), .int (nI sr), .int vl, .int (nI 2), .int (nI sr), .int li, .int hto, .int lto, .int ct]] H := hP
              replace hD : va_D (va_A (w_X1_takeLine G kre kbt kby rl nx kd sr vl fo pl li hto lto ct ka kc kl kn w h la kcn kln nc nl af fc fl tb) ss.heap.size) [oC kbt 0 [.int (nI w), .int (nI h), .int (nI la), .ref ka, .ref kc, .ref kl, .ref kn], iA G ka 16 af, oC kc 2 [.ref kcn, .int (nI 10), .int (nI nc)], iA G kcn (3 * 10) fc, oC kl 2 [.ref kln, .int (nI 6), .int (nI nl)], iA G kln (3 * 6) fl, bA G kby 160 tb, oC kre 1 [.ref kbt, .ref kby, .int (nI rl), .int (nI nx), .int (nI kd), .int (nI sr), .int vl, .int (nI 2), .int (nI sr), .int li, .int hto, .int lto, .int ct]] := hD
              have hP := hP.sub (ws' := [oC kre 1 [.ref kbt, .ref kby, .int (nI rl), .int (nI nx), .int (nI kd), .int (nI sr), .int vl, .int (nI 2), .int (nI sr), .int li, .int hto, .int lto, .int ct], oC kbt 0 [.int (nI w), .int (nI h), .int (nI la), .ref ka, .ref kc, .ref kl, .ref kn], iA G ka 16 af, oC kc 2 [.ref kcn, .int (nI 10), .int (nI nc)], iA G kcn (3 * 10) fc, oC kl 2 [.ref kln, .int (nI 6), .int (nI nl)], iA G kln (3 * 6) fl, bA G kby 160 tb]) [7, 0, 1, 2, 3, 4, 5, 6] rfl
              have hD := hD.sub (ws' := [oC kre 1 [.ref kbt, .ref kby, .int (nI rl), .int (nI nx), .int (nI kd), .int (nI sr), .int vl, .int (nI 2), .int (nI sr), .int li, .int hto, .int lto, .int ct], oC kbt 0 [.int (nI w), .int (nI h), .int (nI la), .ref ka, .ref kc, .ref kl, .ref kn], iA G ka 16 af, oC kc 2 [.ref kcn, .int (nI 10), .int (nI nc)], iA G kcn (3 * 10) fc, oC kl 2 [.ref kln, .int (nI 6), .int (nI nl)], iA G kln (3 * 6) fl, bA G kby 160 tb]) [7, 0, 1, 2, 3, 4, 5, 6] (by decide) rfl
              refine W.zret (v := nI 0) (ty := .boolean) hx hb hr (by decide) (fun t ht hW => ⟨⟨nI 0, (nx, kd, sr, vl, (nI 2), (nI sr), hto, lto, ct, w, h, la, af, nc, fc, nl, fl), rfl, ?_, by rw [ht]; exact hP, hD⟩, hS.F ht⟩) hS.2.2 dX1_takeLine_97
              try dsimp only
              rw [show fLin tb rl (nx, kd, sr, vl, fo, pl) hto lto ct w h la af nc fc nl fl = _ from (if_pos b5).trans ((if_neg b24).trans ((if_neg b38).trans ((if_neg b52).trans ((if_neg b66).trans (if_neg b80)))))]; exact ⟨(xb_f Bool.false_ne_true).symm, rfl⟩
            · skip
              refine lv_aload_n hx hb dX1_takeLine_83 rfl (lv_at hl 0 rfl) ?_
              refine xw_i (As := []) (rest := []) (wr := [iA G ka 16 af, oC kc 2 [.ref kcn, .int (nI 10), .int (nI nc)], iA G kcn (3 * 10) fc]) ⟨hx, hb, hml, hown, hts⟩ (c_X1_takeLens l G H.size kre kbt kby rl nx kd sr vl fo pl li hto lto ct ka kc kl kn w h la kln nl fl tb (by first | assumption | omega) (by first | assumption | omega) (by first | assumption | omega)) (cwV 0 hts gX1_takeLine_X1_takeLens rfl rfl rfl (by decide +kernel) ⟨Nat.le_of_ble_eq_true rfl, Nat.le_of_ble_eq_true rfl⟩) hK hP hD hS hA [0, 1, 5, 6, 7] [2, 3, 4] rfl rfl (by decide) (by decide) (by decide) rfl rfl rfl hl.1 rfl (Nat.le_of_ble_eq_true rfl) dX1_takeLine_84 ⟨Nat.le_of_ble_eq_true rfl, Nat.le_of_ble_eq_true rfl⟩ (fun r84 u H locs hp84 hP hD hS => ?_)
              obtain ⟨nx2_84, kd2_84, sr2_84, vl2_84, fo2_84, pl2_84, nl2_84, fl2_84⟩ := u
              try dsimp only at hp84 hP hD
              obtain ⟨rfl, he84⟩ := hp84
              replace hP : xP G [iA G ka 16 af, oC kc 2 [.ref kcn, .int (nI 10), .int (nI nc)], iA G kcn (3 * 10) fc, oC kre 1 [.ref kbt, .ref kby, .int (nI rl), .int (nI nx2_84), .int (nI kd2_84), .int (nI sr2_84), .int vl2_84, .int fo2_84, .int pl2_84, .int li, .int hto, .int lto, .int ct], oC kbt 0 [.int (nI w), .int (nI h), .int (nI la), .ref ka, .ref kc, .ref kl, .ref kn], oC kl 2 [.ref kln, .int (nI 6), .int (nI nl2_84)], iA G kln (3 * 6) fl2_84, bA G kby 160 tb] H := hP
              replace hD : va_D (va_A (w_X1_takeLine G kre kbt kby rl nx kd sr vl fo pl li hto lto ct ka kc kl kn w h la kcn kln nc nl af fc fl tb) ss.heap.size) [iA G ka 16 af, oC kc 2 [.ref kcn, .int (nI 10), .int (nI nc)], iA G kcn (3 * 10) fc, oC kre 1 [.ref kbt, .ref kby, .int (nI rl), .int (nI nx2_84), .int (nI kd2_84), .int (nI sr2_84), .int vl2_84, .int fo2_84, .int pl2_84, .int li, .int hto, .int lto, .int ct], oC kbt 0 [.int (nI w), .int (nI h), .int (nI la), .ref ka, .ref kc, .ref kl, .ref kn], oC kl 2 [.ref kln, .int (nI 6), .int (nI nl2_84)], iA G kln (3 * 6) fl2_84, bA G kby 160 tb] := hD
              have hP := hP.sub (ws' := [oC kre 1 [.ref kbt, .ref kby, .int (nI rl), .int (nI nx2_84), .int (nI kd2_84), .int (nI sr2_84), .int vl2_84, .int fo2_84, .int pl2_84, .int li, .int hto, .int lto, .int ct], oC kbt 0 [.int (nI w), .int (nI h), .int (nI la), .ref ka, .ref kc, .ref kl, .ref kn], iA G ka 16 af, oC kc 2 [.ref kcn, .int (nI 10), .int (nI nc)], iA G kcn (3 * 10) fc, oC kl 2 [.ref kln, .int (nI 6), .int (nI nl2_84)], iA G kln (3 * 6) fl2_84, bA G kby 160 tb]) [3, 4, 0, 1, 2, 5, 6, 7] rfl
              have hD := hD.sub (ws' := [oC kre 1 [.ref kbt, .ref kby, .int (nI rl), .int (nI nx2_84), .int (nI kd2_84), .int (nI sr2_84), .int vl2_84, .int fo2_84, .int pl2_84, .int li, .int hto, .int lto, .int ct], oC kbt 0 [.int (nI w), .int (nI h), .int (nI la), .ref ka, .ref kc, .ref kl, .ref kn], iA G ka 16 af, oC kc 2 [.ref kcn, .int (nI 10), .int (nI nc)], iA G kcn (3 * 10) fc, oC kl 2 [.ref kln, .int (nI 6), .int (nI nl2_84)], iA G kln (3 * 6) fl2_84, bA G kby 160 tb]) [3, 4, 0, 1, 2, 5, 6, 7] (by decide) rfl
              refine W.zret (v := xb ((fLen tb rl nl fl (nx, kd, sr, vl, fo, pl)).1 = true)) (ty := .boolean) hx hb hr xb_nar (fun t ht hW => ⟨⟨xb ((fLen tb rl nl fl (nx, kd, sr, vl, fo, pl)).1 = true), (nx2_84, kd2_84, sr2_84, vl2_84, fo2_84, pl2_84, hto, lto, ct, w, h, la, af, nc, fc, nl2_84, fl2_84), rfl, ?_, by rw [ht]; exact hP, hD⟩, hS.F ht⟩) hS.2.2 dX1_takeLine_87
              try dsimp only
              rw [show fLin tb rl (nx, kd, sr, vl, fo, pl) hto lto ct w h la af nc fc nl fl = _ from (if_pos b5).trans ((if_neg b24).trans ((if_neg b38).trans ((if_neg b52).trans ((if_neg b66).trans (if_pos b80)))))]; exact ⟨rfl, congrArg (fun a => (a.1, (hto, lto, ct), (w, h, la), af, (nc, fc), a.2)) he84⟩
          · skip
            refine lv_aload_n hx hb dX1_takeLine_69 rfl (lv_at hl 0 rfl) ?_
            refine xw_i (As := []) (rest := []) (wr := [iA G ka 16 af, oC kl 2 [.ref kln, .int (nI 6), .int (nI nl)], iA G kln (3 * 6) fl]) ⟨hx, hb, hml, hown, hts⟩ (c_X1_takeTurn l G H.size kre kbt kby rl nx kd sr vl fo pl li hto lto ct ka kc kl kn w h la kcn nc fc tb (by first | assumption | omega) (by first | assumption | omega) (by first | assumption | omega)) (cwV 0 hts gX1_takeLine_X1_takeTurn rfl rfl rfl (by decide +kernel) ⟨Nat.le_of_ble_eq_true rfl, Nat.le_of_ble_eq_true rfl⟩) hK hP hD hS hA [0, 1, 3, 4, 7] [2, 5, 6] rfl rfl (by decide) (by decide) (by decide) rfl rfl rfl hl.1 rfl (Nat.le_of_ble_eq_true rfl) dX1_takeLine_70 ⟨Nat.le_of_ble_eq_true rfl, Nat.le_of_ble_eq_true rfl⟩ (fun r70 u H locs hp70 hP hD hS => ?_)
            obtain ⟨nx2_70, kd2_70, sr2_70, vl2_70, fo2_70, pl2_70, nc2_70, fc2_70⟩ := u
            try dsimp only at hp70 hP hD
            obtain ⟨rfl, he70⟩ := hp70
            replace hP : xP G [iA G ka 16 af, oC kl 2 [.ref kln, .int (nI 6), .int (nI nl)], iA G kln (3 * 6) fl, oC kre 1 [.ref kbt, .ref kby, .int (nI rl), .int (nI nx2_70), .int (nI kd2_70), .int (nI sr2_70), .int vl2_70, .int fo2_70, .int pl2_70, .int li, .int hto, .int lto, .int ct], oC kbt 0 [.int (nI w), .int (nI h), .int (nI la), .ref ka, .ref kc, .ref kl, .ref kn], oC kc 2 [.ref kcn, .int (nI 10), .int (nI nc2_70)], iA G kcn (3 * 10) fc2_70, bA G kby 160 tb] H := hP
            replace hD : va_D (va_A (w_X1_takeLine G kre kbt kby rl nx kd sr vl fo pl li hto lto ct ka kc kl kn w h la kcn kln nc nl af fc fl tb) ss.heap.size) [iA G ka 16 af, oC kl 2 [.ref kln, .int (nI 6), .int (nI nl)], iA G kln (3 * 6) fl, oC kre 1 [.ref kbt, .ref kby, .int (nI rl), .int (nI nx2_70), .int (nI kd2_70), .int (nI sr2_70), .int vl2_70, .int fo2_70, .int pl2_70, .int li, .int hto, .int lto, .int ct], oC kbt 0 [.int (nI w), .int (nI h), .int (nI la), .ref ka, .ref kc, .ref kl, .ref kn], oC kc 2 [.ref kcn, .int (nI 10), .int (nI nc2_70)], iA G kcn (3 * 10) fc2_70, bA G kby 160 tb] := hD
            have hP := hP.sub (ws' := [oC kre 1 [.ref kbt, .ref kby, .int (nI rl), .int (nI nx2_70), .int (nI kd2_70), .int (nI sr2_70), .int vl2_70, .int fo2_70, .int pl2_70, .int li, .int hto, .int lto, .int ct], oC kbt 0 [.int (nI w), .int (nI h), .int (nI la), .ref ka, .ref kc, .ref kl, .ref kn], iA G ka 16 af, oC kc 2 [.ref kcn, .int (nI 10), .int (nI nc2_70)], iA G kcn (3 * 10) fc2_70, oC kl 2 [.ref kln, .int (nI 6), .int (nI nl)], iA G kln (3 * 6) fl, bA G kby 160 tb]) [3, 4, 0, 5, 6, 1, 2, 7] rfl
            have hD := hD.sub (ws' := [oC kre 1 [.ref kbt, .ref kby, .int (nI rl), .int (nI nx2_70), .int (nI kd2_70), .int (nI sr2_70), .int vl2_70, .int fo2_70, .int pl2_70, .int li, .int hto, .int lto, .int ct], oC kbt 0 [.int (nI w), .int (nI h), .int (nI la), .ref ka, .ref kc, .ref kl, .ref kn], iA G ka 16 af, oC kc 2 [.ref kcn, .int (nI 10), .int (nI nc2_70)], iA G kcn (3 * 10) fc2_70, oC kl 2 [.ref kln, .int (nI 6), .int (nI nl)], iA G kln (3 * 6) fl, bA G kby 160 tb]) [3, 4, 0, 5, 6, 1, 2, 7] (by decide) rfl
            refine W.zret (v := xb ((fTur tb rl nc fc (nx, kd, sr, vl, fo, pl)).1 = true)) (ty := .boolean) hx hb hr xb_nar (fun t ht hW => ⟨⟨xb ((fTur tb rl nc fc (nx, kd, sr, vl, fo, pl)).1 = true), (nx2_70, kd2_70, sr2_70, vl2_70, fo2_70, pl2_70, hto, lto, ct, w, h, la, af, nc2_70, fc2_70, nl, fl), rfl, ?_, by rw [ht]; exact hP, hD⟩, hS.F ht⟩) hS.2.2 dX1_takeLine_73
            try dsimp only
            rw [show fLin tb rl (nx, kd, sr, vl, fo, pl) hto lto ct w h la af nc fc nl fl = _ from (if_pos b5).trans ((if_neg b24).trans ((if_neg b38).trans ((if_neg b52).trans (if_pos b66))))]; exact ⟨rfl, congrArg (fun a => (a.1, (hto, lto, ct), (w, h, la), af, a.2, (nl, fl))) he70⟩
        · skip
          refine lv_aload_n hx hb dX1_takeLine_55 rfl (lv_at hl 0 rfl) ?_
          refine xw_i (As := []) (rest := []) (wr := [oC kc 2 [.ref kcn, .int (nI 10), .int (nI nc)], iA G kcn (3 * 10) fc, oC kl 2 [.ref kln, .int (nI 6), .int (nI nl)], iA G kln (3 * 6) fl]) ⟨hx, hb, hml, hown, hts⟩ (c_X1_takeCell l G H.size kre kbt kby rl nx kd sr vl fo pl li hto lto ct ka kc kl kn w h la af tb (by first | assumption | omega) (by first | assumption | omega)) (cwV 0 hts gX1_takeLine_X1_takeCell rfl rfl rfl (by decide +kernel) ⟨Nat.le_of_ble_eq_true rfl, Nat.le_of_ble_eq_true rfl⟩) hK hP hD hS hA [0, 1, 2, 7] [3, 4, 5, 6] rfl rfl (by decide) (by decide) (by decide) rfl rfl rfl hl.1 rfl (Nat.le_of_ble_eq_true rfl) dX1_takeLine_56 ⟨Nat.le_of_ble_eq_true rfl, Nat.le_of_ble_eq_true rfl⟩ (fun r56 u H locs hp56 hP hD hS => ?_)
          obtain ⟨nx2_56, kd2_56, sr2_56, vl2_56, fo2_56, pl2_56, ct2_56, af2_56⟩ := u
          try dsimp only at hp56 hP hD
          obtain ⟨rfl, he56⟩ := hp56
          replace hP : xP G [oC kc 2 [.ref kcn, .int (nI 10), .int (nI nc)], iA G kcn (3 * 10) fc, oC kl 2 [.ref kln, .int (nI 6), .int (nI nl)], iA G kln (3 * 6) fl, oC kre 1 [.ref kbt, .ref kby, .int (nI rl), .int (nI nx2_56), .int (nI kd2_56), .int (nI sr2_56), .int vl2_56, .int fo2_56, .int pl2_56, .int li, .int hto, .int lto, .int ct2_56], oC kbt 0 [.int (nI w), .int (nI h), .int (nI la), .ref ka, .ref kc, .ref kl, .ref kn], iA G ka 16 af2_56, bA G kby 160 tb] H := hP
          replace hD : va_D (va_A (w_X1_takeLine G kre kbt kby rl nx kd sr vl fo pl li hto lto ct ka kc kl kn w h la kcn kln nc nl af fc fl tb) ss.heap.size) [oC kc 2 [.ref kcn, .int (nI 10), .int (nI nc)], iA G kcn (3 * 10) fc, oC kl 2 [.ref kln, .int (nI 6), .int (nI nl)], iA G kln (3 * 6) fl, oC kre 1 [.ref kbt, .ref kby, .int (nI rl), .int (nI nx2_56), .int (nI kd2_56), .int (nI sr2_56), .int vl2_56, .int fo2_56, .int pl2_56, .int li, .int hto, .int lto, .int ct2_56], oC kbt 0 [.int (nI w), .int (nI h), .int (nI la), .ref ka, .ref kc, .ref kl, .ref kn], iA G ka 16 af2_56, bA G kby 160 tb] := hD
          have hP := hP.sub (ws' := [oC kre 1 [.ref kbt, .ref kby, .int (nI rl), .int (nI nx2_56), .int (nI kd2_56), .int (nI sr2_56), .int vl2_56, .int fo2_56, .int pl2_56, .int li, .int hto, .int lto, .int ct2_56], oC kbt 0 [.int (nI w), .int (nI h), .int (nI la), .ref ka, .ref kc, .ref kl, .ref kn], iA G ka 16 af2_56, oC kc 2 [.ref kcn, .int (nI 10), .int (nI nc)], iA G kcn (3 * 10) fc, oC kl 2 [.ref kln, .int (nI 6), .int (nI nl)], iA G kln (3 * 6) fl, bA G kby 160 tb]) [4, 5, 6, 0, 1, 2, 3, 7] rfl
          have hD := hD.sub (ws' := [oC kre 1 [.ref kbt, .ref kby, .int (nI rl), .int (nI nx2_56), .int (nI kd2_56), .int (nI sr2_56), .int vl2_56, .int fo2_56, .int pl2_56, .int li, .int hto, .int lto, .int ct2_56], oC kbt 0 [.int (nI w), .int (nI h), .int (nI la), .ref ka, .ref kc, .ref kl, .ref kn], iA G ka 16 af2_56, oC kc 2 [.ref kcn, .int (nI 10), .int (nI nc)], iA G kcn (3 * 10) fc, oC kl 2 [.ref kln, .int (nI 6), .int (nI nl)], iA G kln (3 * 6) fl, bA G kby 160 tb]) [4, 5, 6, 0, 1, 2, 3, 7] (by decide) rfl
          refine W.zret (v := xb ((fCel tb rl ct af (nx, kd, sr, vl, fo, pl)).1 = true)) (ty := .boolean) hx hb hr xb_nar (fun t ht hW => ⟨⟨xb ((fCel tb rl ct af (nx, kd, sr, vl, fo, pl)).1 = true), (nx2_56, kd2_56, sr2_56, vl2_56, fo2_56, pl2_56, hto, lto, ct2_56, w, h, la, af2_56, nc, fc, nl, fl), rfl, ?_, by rw [ht]; exact hP, hD⟩, hS.F ht⟩) hS.2.2 dX1_takeLine_59
          try dsimp only
          rw [show fLin tb rl (nx, kd, sr, vl, fo, pl) hto lto ct w h la af nc fc nl fl = _ from (if_pos b5).trans ((if_neg b24).trans ((if_neg b38).trans (if_pos b52)))]; exact ⟨rfl, congrArg (fun a => (a.1, (hto, lto, a.2.1), (w, h, la), a.2.2, (nc, fc), (nl, fl))) he56⟩
      · skip
        refine lv_aload_n hx hb dX1_takeLine_41 rfl (lv_at hl 0 rfl) ?_
        refine xw_i (As := []) (rest := []) (wr := [iA G ka 16 af, oC kc 2 [.ref kcn, .int (nI 10), .int (nI nc)], iA G kcn (3 * 10) fc, oC kl 2 [.ref kln, .int (nI 6), .int (nI nl)], iA G kln (3 * 6) fl]) ⟨hx, hb, hml, hown, hts⟩ (c_X1_takeLast l G H.size kre kbt kby rl nx kd sr vl fo pl li hto lto ct ka kc kl kn w h la tb (by first | assumption | omega) (by first | assumption | omega)) (cwV 0 hts gX1_takeLine_X1_takeLast rfl rfl rfl (by decide +kernel) ⟨Nat.le_of_ble_eq_true rfl, Nat.le_of_ble_eq_true rfl⟩) hK hP hD hS hA [0, 1, 7] [2, 3, 4, 5, 6] rfl rfl (by decide) (by decide) (by decide) rfl rfl rfl hl.1 rfl (Nat.le_of_ble_eq_true rfl) dX1_takeLine_42 ⟨Nat.le_of_ble_eq_true rfl, Nat.le_of_ble_eq_true rfl⟩ (fun r42 u H locs hp42 hP hD hS => ?_)
        obtain ⟨nx2_42, kd2_42, sr2_42, vl2_42, fo2_42, pl2_42, lt2_42, la2_42⟩ := u
        try dsimp only at hp42 hP hD
        obtain ⟨rfl, he42⟩ := hp42
        replace hP : xP G [iA G ka 16 af, oC kc 2 [.ref kcn, .int (nI 10), .int (nI nc)], iA G kcn (3 * 10) fc, oC kl 2 [.ref kln, .int (nI 6), .int (nI nl)], iA G kln (3 * 6) fl, oC kre 1 [.ref kbt, .ref kby, .int (nI rl), .int (nI nx2_42), .int (nI kd2_42), .int (nI sr2_42), .int vl2_42, .int fo2_42, .int pl2_42, .int li, .int hto, .int lt2_42, .int ct], oC kbt 0 [.int (nI w), .int (nI h), .int (nI la2_42), .ref ka, .ref kc, .ref kl, .ref kn], bA G kby 160 tb] H := hP
        replace hD : va_D (va_A (w_X1_takeLine G kre kbt kby rl nx kd sr vl fo pl li hto lto ct ka kc kl kn w h la kcn kln nc nl af fc fl tb) ss.heap.size) [iA G ka 16 af, oC kc 2 [.ref kcn, .int (nI 10), .int (nI nc)], iA G kcn (3 * 10) fc, oC kl 2 [.ref kln, .int (nI 6), .int (nI nl)], iA G kln (3 * 6) fl, oC kre 1 [.ref kbt, .ref kby, .int (nI rl), .int (nI nx2_42), .int (nI kd2_42), .int (nI sr2_42), .int vl2_42, .int fo2_42, .int pl2_42, .int li, .int hto, .int lt2_42, .int ct], oC kbt 0 [.int (nI w), .int (nI h), .int (nI la2_42), .ref ka, .ref kc, .ref kl, .ref kn], bA G kby 160 tb] := hD
        have hP := hP.sub (ws' := [oC kre 1 [.ref kbt, .ref kby, .int (nI rl), .int (nI nx2_42), .int (nI kd2_42), .int (nI sr2_42), .int vl2_42, .int fo2_42, .int pl2_42, .int li, .int hto, .int lt2_42, .int ct], oC kbt 0 [.int (nI w), .int (nI h), .int (nI la2_42), .ref ka, .ref kc, .ref kl, .ref kn], iA G ka 16 af, oC kc 2 [.ref kcn, .int (nI 10), .int (nI nc)], iA G kcn (3 * 10) fc, oC kl 2 [.ref kln, .int (nI 6), .int (nI nl)], iA G kln (3 * 6) fl, bA G kby 160 tb]) [5, 6, 0, 1, 2, 3, 4, 7] rfl
        have hD := hD.sub (ws' := [oC kre 1 [.ref kbt, .ref kby, .int (nI rl), .int (nI nx2_42), .int (nI kd2_42), .int (nI sr2_42), .int vl2_42, .int fo2_42, .int pl2_42, .int li, .int hto, .int lt2_42, .int ct], oC kbt 0 [.int (nI w), .int (nI h), .int (nI la2_42), .ref ka, .ref kc, .ref kl, .ref kn], iA G ka 16 af, oC kc 2 [.ref kcn, .int (nI 10), .int (nI nc)], iA G kcn (3 * 10) fc, oC kl 2 [.ref kln, .int (nI 6), .int (nI nl)], iA G kln (3 * 6) fl, bA G kby 160 tb]) [5, 6, 0, 1, 2, 3, 4, 7] (by decide) rfl
        refine W.zret (v := xb ((fLas tb rl lto la (nx, kd, sr, vl, fo, pl)).1 = true)) (ty := .boolean) hx hb hr xb_nar (fun t ht hW => ⟨⟨xb ((fLas tb rl lto la (nx, kd, sr, vl, fo, pl)).1 = true), (nx2_42, kd2_42, sr2_42, vl2_42, fo2_42, pl2_42, hto, lt2_42, ct, w, h, la2_42, af, nc, fc, nl, fl), rfl, ?_, by rw [ht]; exact hP, hD⟩, hS.F ht⟩) hS.2.2 dX1_takeLine_45
        try dsimp only
        rw [show fLin tb rl (nx, kd, sr, vl, fo, pl) hto lto ct w h la af nc fc nl fl = _ from (if_pos b5).trans ((if_neg b24).trans (if_pos b38))]; exact ⟨rfl, congrArg (fun a => (a.1, (hto, a.2.1, ct), (w, h, a.2.2), af, (nc, fc), (nl, fl))) he42⟩
    · skip
      refine lv_aload_n hx hb dX1_takeLine_27 rfl (lv_at hl 0 rfl) ?_
      refine xw_i (As := []) (rest := []) (wr := [iA G ka 16 af, oC kc 2 [.ref kcn, .int (nI 10), .int (nI nc)], iA G kcn (3 * 10) fc, oC kl 2 [.ref kln, .int (nI 6), .int (nI nl)], iA G kln (3 * 6) fl]) ⟨hx, hb, hml, hown, hts⟩ (c_X1_takeHouse l G H.size kre kbt kby rl nx kd sr vl fo pl li hto lto ct ka kc kl kn w h la tb (by first | assumption | omega) (by first | assumption | omega)) (cwV 0 hts gX1_takeLine_X1_takeHouse rfl rfl rfl (by decide +kernel) ⟨Nat.le_of_ble_eq_true rfl, Nat.le_of_ble_eq_true rfl⟩) hK hP hD hS hA [0, 1, 7] [2, 3, 4, 5, 6] rfl rfl (by decide) (by decide) (by decide) rfl rfl rfl hl.1 rfl (Nat.le_of_ble_eq_true rfl) dX1_takeLine_28 ⟨Nat.le_of_ble_eq_true rfl, Nat.le_of_ble_eq_true rfl⟩ (fun r28 u H locs hp28 hP hD hS => ?_)
      obtain ⟨nx2_28, kd2_28, sr2_28, vl2_28, fo2_28, pl2_28, ht2_28, w2_28, h2_28⟩ := u
      try dsimp only at hp28 hP hD
      obtain ⟨rfl, he28⟩ := hp28
      replace hP : xP G [iA G ka 16 af, oC kc 2 [.ref kcn, .int (nI 10), .int (nI nc)], iA G kcn (3 * 10) fc, oC kl 2 [.ref kln, .int (nI 6), .int (nI nl)], iA G kln (3 * 6) fl, oC kre 1 [.ref kbt, .ref kby, .int (nI rl), .int (nI nx2_28), .int (nI kd2_28), .int (nI sr2_28), .int vl2_28, .int fo2_28, .int pl2_28, .int li, .int ht2_28, .int lto, .int ct], oC kbt 0 [.int (nI w2_28), .int (nI h2_28), .int (nI la), .ref ka, .ref kc, .ref kl, .ref kn], bA G kby 160 tb] H := hP
      replace hD : va_D (va_A (w_X1_takeLine G kre kbt kby rl nx kd sr vl fo pl li hto lto ct ka kc kl kn w h la kcn kln nc nl af fc fl tb) ss.heap.size) [iA G ka 16 af, oC kc 2 [.ref kcn, .int (nI 10), .int (nI nc)], iA G kcn (3 * 10) fc, oC kl 2 [.ref kln, .int (nI 6), .int (nI nl)], iA G kln (3 * 6) fl, oC kre 1 [.ref kbt, .ref kby, .int (nI rl), .int (nI nx2_28), .int (nI kd2_28), .int (nI sr2_28), .int vl2_28, .int fo2_28, .int pl2_28, .int li, .int ht2_28, .int lto, .int ct], oC kbt 0 [.int (nI w2_28), .int (nI h2_28), .int (nI la), .ref ka, .ref kc, .ref kl, .ref kn], bA G kby 160 tb] := hD
      have hP := hP.sub (ws' := [oC kre 1 [.ref kbt, .ref kby, .int (nI rl), .int (nI nx2_28), .int (nI kd2_28), .int (nI sr2_28), .int vl2_28, .int fo2_28, .int pl2_28, .int li, .int ht2_28, .int lto, .int ct], oC kbt 0 [.int (nI w2_28), .int (nI h2_28), .int (nI la), .ref ka, .ref kc, .ref kl, .ref kn], iA G ka 16 af, oC kc 2 [.ref kcn, .int (nI 10), .int (nI nc)], iA G kcn (3 * 10) fc, oC kl 2 [.ref kln, .int (nI 6), .int (nI nl)], iA G kln (3 * 6) fl, bA G kby 160 tb]) [5, 6, 0, 1, 2, 3, 4, 7] rfl
      have hD := hD.sub (ws' := [oC kre 1 [.ref kbt, .ref kby, .int (nI rl), .int (nI nx2_28), .int (nI kd2_28), .int (nI sr2_28), .int vl2_28, .int fo2_28, .int pl2_28, .int li, .int ht2_28, .int lto, .int ct], oC kbt 0 [.int (nI w2_28), .int (nI h2_28), .int (nI la), .ref ka, .ref kc, .ref kl, .ref kn], iA G ka 16 af, oC kc 2 [.ref kcn, .int (nI 10), .int (nI nc)], iA G kcn (3 * 10) fc, oC kl 2 [.ref kln, .int (nI 6), .int (nI nl)], iA G kln (3 * 6) fl, bA G kby 160 tb]) [5, 6, 0, 1, 2, 3, 4, 7] (by decide) rfl
      refine W.zret (v := xb ((fHou tb rl hto w h (nx, kd, sr, vl, fo, pl)).1 = true)) (ty := .boolean) hx hb hr xb_nar (fun t ht hW => ⟨⟨xb ((fHou tb rl hto w h (nx, kd, sr, vl, fo, pl)).1 = true), (nx2_28, kd2_28, sr2_28, vl2_28, fo2_28, pl2_28, ht2_28, lto, ct, w2_28, h2_28, la, af, nc, fc, nl, fl), rfl, ?_, by rw [ht]; exact hP, hD⟩, hS.F ht⟩) hS.2.2 dX1_takeLine_31
      try dsimp only
      rw [show fLin tb rl (nx, kd, sr, vl, fo, pl) hto lto ct w h la af nc fc nl fl = _ from (if_pos b5).trans (if_pos b24)]; exact ⟨rfl, congrArg (fun a => (a.1, (a.2.1, lto, ct), (a.2.2.1, a.2.2.2, la), af, (nc, fc), (nl, fl))) he28⟩
  · skip
    refine lv_aload_n hx hb dX1_takeLine_8 rfl (lv_at hl 0 rfl) ?_
    refine lv_iconst (v := nI 2) hx hb dX1_takeLine_9 (by decide) ?_
    refine lv_aload_n hx hb dX1_takeLine_10 rfl (lv_at hl 0 rfl) ?_
    refine va_get (D := G.1) (ci := 1) (v := .int (nI sr)) (C := RX1) (T := TX1) (N := 13) hx hb hts hin1 hown hK.1 hP 0 rfl rfl 5 (by decide) (hts (.fieldLink RX1 95 "BackLenses$Reader" "start" "I") (List.mem_of_getElem? (i := 2) rfl)) (fun _ h9 => h9) rfl dX1_takeLine_11 ?_
    refine xw_i (As := [.int (nI 2), .int (nI sr)]) (rest := []) (wr := [oC kbt 0 [.int (nI w), .int (nI h), .int (nI la), .ref ka, .ref kc, .ref kl, .ref kn], iA G ka 16 af, oC kc 2 [.ref kcn, .int (nI 10), .int (nI nc)], iA G kcn (3 * 10) fc, oC kl 2 [.ref kln, .int (nI 6), .int (nI nl)], iA G kln (3 * 6) fl, bA G kby 160 tb]) ⟨hx, hb, hml, hown, hts⟩ (c_X1_refuse l G ss.heap.size kre kbt kby rl nx kd sr vl fo pl li hto lto ct (nI 2) (nI sr) ) (cwV 2 hts gX1_takeLine_X1_refuse rfl rfl rfl (by decide +kernel) ⟨Nat.le_of_ble_eq_true rfl, Nat.le_of_ble_eq_true rfl⟩) hK hP hD hS hA [0] [1, 2, 3, 4, 5, 6, 7] rfl rfl (by decide) (by decide) (by decide) rfl rfl rfl hl.1 rfl (Nat.le_of_ble_eq_true rfl) dX1_takeLine_14 ⟨Nat.le_of_ble_eq_true rfl, Nat.le_of_ble_eq_true rfl⟩ (fun r14 u H locs hp14 hP hD hS => ?_)
    obtain rfl := hp14
    replace hP : xP G [oC kbt 0 [.int (nI w), .int (nI h), .int (nI la), .ref ka, .ref kc, .ref kl, .ref kn], iA G ka 16 af, oC kc 2 [.ref kcn, .int (nI 10), .int (nI nc)], iA G kcn (3 * 10) fc, oC kl 2 [.ref kln, .int (nI 6), .int (nI nl)], iA G kln (3 * 6) fl, bA G kby 160 tb, oC kre 1 [.ref kbt, .ref kby, .int (nI rl), .int (nI nx), .int (nI kd), .int (nI sr), .int vl, .int (nI 2), .int (nI sr), .int li, .int hto, .int lto, .int ct]] H := hP
    replace hD : va_D (va_A (w_X1_takeLine G kre kbt kby rl nx kd sr vl fo pl li hto lto ct ka kc kl kn w h la kcn kln nc nl af fc fl tb) ss.heap.size) [oC kbt 0 [.int (nI w), .int (nI h), .int (nI la), .ref ka, .ref kc, .ref kl, .ref kn], iA G ka 16 af, oC kc 2 [.ref kcn, .int (nI 10), .int (nI nc)], iA G kcn (3 * 10) fc, oC kl 2 [.ref kln, .int (nI 6), .int (nI nl)], iA G kln (3 * 6) fl, bA G kby 160 tb, oC kre 1 [.ref kbt, .ref kby, .int (nI rl), .int (nI nx), .int (nI kd), .int (nI sr), .int vl, .int (nI 2), .int (nI sr), .int li, .int hto, .int lto, .int ct]] := hD
    have hP := hP.sub (ws' := [oC kre 1 [.ref kbt, .ref kby, .int (nI rl), .int (nI nx), .int (nI kd), .int (nI sr), .int vl, .int (nI 2), .int (nI sr), .int li, .int hto, .int lto, .int ct], oC kbt 0 [.int (nI w), .int (nI h), .int (nI la), .ref ka, .ref kc, .ref kl, .ref kn], iA G ka 16 af, oC kc 2 [.ref kcn, .int (nI 10), .int (nI nc)], iA G kcn (3 * 10) fc, oC kl 2 [.ref kln, .int (nI 6), .int (nI nl)], iA G kln (3 * 6) fl, bA G kby 160 tb]) [7, 0, 1, 2, 3, 4, 5, 6] rfl
    have hD := hD.sub (ws' := [oC kre 1 [.ref kbt, .ref kby, .int (nI rl), .int (nI nx), .int (nI kd), .int (nI sr), .int vl, .int (nI 2), .int (nI sr), .int li, .int hto, .int lto, .int ct], oC kbt 0 [.int (nI w), .int (nI h), .int (nI la), .ref ka, .ref kc, .ref kl, .ref kn], iA G ka 16 af, oC kc 2 [.ref kcn, .int (nI 10), .int (nI nc)], iA G kcn (3 * 10) fc, oC kl 2 [.ref kln, .int (nI 6), .int (nI nl)], iA G kln (3 * 6) fl, bA G kby 160 tb]) [7, 0, 1, 2, 3, 4, 5, 6] (by decide) rfl
    refine W.zret (v := nI 0) (ty := .boolean) hx hb hr (by decide) (fun t ht hW => ⟨⟨nI 0, (nx, kd, sr, vl, (nI 2), (nI sr), hto, lto, ct, w, h, la, af, nc, fc, nl, fl), rfl, ?_, by rw [ht]; exact hP, hD⟩, hS.F ht⟩) hS.2.2 dX1_takeLine_17
    try dsimp only
    rw [show fLin tb rl (nx, kd, sr, vl, fo, pl) hto lto ct w h la af nc fc nl fl = _ from if_neg b5]; exact ⟨(xb_f Bool.false_ne_true).symm, rfl⟩
end
section
/-! what stays within its bounds while the tape is read -/
theorem bN_ind {α : Type} {P : α → Prop} {t : Nat → Int32} {rl lo hi : Nat} {s : TS} {no : TS → α} {go : Nat → TS → α} (hs : s.1 ≤ rl) (hh : hi < 1000) (h0 : ∀ a : TS, a.1 ≤ rl → P (no a)) (h1 : ∀ (k : Nat) (a : TS), lo ≤ k → k ≤ hi → a.1 ≤ rl → P (go k a)) : P (bN t rl lo hi s no go) := by
  have hb := fNum_bd (t := t) (lo := lo) (hi := hi) hs
  unfold bN
  split
  · rename_i h
    obtain ⟨k, hk1, hk2, hk3⟩ := fNum_val hh h
    rw [hk3, nI_toInt (by omega)]
    exact h1 k _ hk1 hk2 hb.1
  · exact h0 _ hb.1
theorem inR_k {k n : Nat} (h : k < n) (hn : n ≤ 2 ^ 31) : inR (nI k) n := inR_nI h hn
abbrev r3ok (f : Nat → Int32) (a b c n : Nat) : Prop := ∀ i, i < n → inR (f (3 * i)) a ∧ inR (f (3 * i + 1)) b ∧ inR (f (3 * i + 2)) c
theorem row3_ok {f : Nat → Int32} {a b c n : Nat} {x y z : Int32} (h : r3ok f a b c n) (hx : inR x a) (hy : inR y b) (hz : inR z c) : r3ok (row3 f n x y z) a b c (n + 1) := by
  intro i hi
  unfold row3 upd
  by_cases hq : i = n
  · subst hq
    refine ⟨?_, ?_, ?_⟩
    · rw [if_neg (by omega), if_neg (by omega), if_pos rfl]; exact hx
    · rw [if_neg (by omega), if_pos rfl]; exact hy
    · rw [if_pos rfl]; exact hz
  · have h1 := h i (by omega)
    refine ⟨?_, ?_, ?_⟩
    · rw [if_neg (by omega), if_neg (by omega), if_neg (by omega)]; exact h1.1
    · rw [if_neg (by omega), if_neg (by omega), if_neg (by omega)]; exact h1.2.1
    · rw [if_neg (by omega), if_neg (by omega), if_neg (by omega)]; exact h1.2.2
abbrev afok (af : Nat → Int32) : Prop := ∀ j, j < 16 → inR (af j) 6
abbrev sdok (w : Nat) : Prop := 2 ≤ w ∧ w ≤ 4
/-- a mask of n cells -/
abbrev mk16 (x : Int32) : Prop := inR x 65536
theorem orB_16 {x : Int32} {c : Nat} (hx : mk16 x) (hc : c < 16) : mk16 (orB x c) := by
  obtain ⟨k, hk, rfl⟩ := inR_nat hx
  have h1 : orB (nI k) c = nI (k ||| 2 ^ c) := by
    have : ∀ c, c < 16 → nI 1 <<< (nI c &&& 31) = nI (2 ^ c) := by decide +kernel
    unfold orB
    rw [this c hc]
    apply Int32.toBitVec_inj.mp
    show BitVec.ofNat 32 k ||| BitVec.ofNat 32 (2 ^ c) = BitVec.ofNat 32 (k ||| 2 ^ c)
    exact BitVec.ofNat_or.symm
  rw [h1]
  have h2 : 2 ^ c < 2 ^ 16 := Nat.pow_lt_pow_right (by omega) hc
  exact inR_nI (Nat.or_lt_two_pow (n := 16) hk h2) (by omega)
section Ok
variable {t : Nat → Int32} {rl : Nat} {s : TS}
theorem fHou_ok {ho : Int32} {w h : Nat} (hs : s.1 ≤ rl) (hw : sdok w) (hh : sdok h) : (fHou t rl ho w h s).2.1.1 ≤ rl ∧ sdok (fHou t rl ho w h s).2.2.2.1 ∧ sdok (fHou t rl ho w h s).2.2.2.2 := by
  unfold fHou
  split
  · refine bN_ind (P := fun (r : Bool × TS × Int32 × Nat × Nat) => r.2.1.1 ≤ rl ∧ sdok r.2.2.2.1 ∧ sdok r.2.2.2.2) hs (by omega) (fun a ha => ⟨ha, hw, hh⟩) (fun k a hk1 hk2 ha => ?_)
    refine bN_ind (P := fun (r : Bool × TS × Int32 × Nat × Nat) => r.2.1.1 ≤ rl ∧ sdok r.2.2.2.1 ∧ sdok r.2.2.2.2) ha (by omega) (fun b hb => ⟨hb, ⟨hk1, hk2⟩, hh⟩) (fun k2 b hk3 hk4 hb => ⟨(fSem_bd hb).1, ⟨hk1, hk2⟩, ⟨hk3, hk4⟩⟩)
  · exact ⟨hs, hw, hh⟩
theorem fLas_ok {lo : Int32} {la : Nat} (hs : s.1 ≤ rl) (hl : la ≤ 9) : (fLas t rl lo la s).2.1.1 ≤ rl ∧ (fLas t rl lo la s).2.2.2 ≤ 9 := by
  unfold fLas
  split
  · exact bN_ind (P := fun (r : Bool × TS × Int32 × Nat) => r.2.1.1 ≤ rl ∧ r.2.2.2 ≤ 9) hs (by omega) (fun a ha => ⟨ha, hl⟩) (fun k a hk1 hk2 ha => ⟨(fSem_bd ha).1, hk2⟩)
  · exact ⟨hs, hl⟩
theorem fCel_ok {ct : Int32} {af : Nat → Int32} (hs : s.1 ≤ rl) (ha0 : afok af) (hc : mk16 ct) : (fCel t rl ct af s).2.1.1 ≤ rl ∧ afok (fCel t rl ct af s).2.2.2 ∧ mk16 (fCel t rl ct af s).2.2.1 := by
  unfold fCel
  refine bN_ind (P := fun (r : Bool × TS × Int32 × (Nat → Int32)) => r.2.1.1 ≤ rl ∧ afok r.2.2.2 ∧ mk16 r.2.2.1) hs (by omega) (fun a ha => ⟨ha, ha0, hc⟩) (fun k a hk1 hk2 ha => ?_)
  split
  · refine bN_ind (P := fun (r : Bool × TS × Int32 × (Nat → Int32)) => r.2.1.1 ≤ rl ∧ afok r.2.2.2 ∧ mk16 r.2.2.1) ha (by omega) (fun b hb => ⟨hb, ha0, orB_16 hc (by omega)⟩) (fun k2 b hk3 hk4 hb => ⟨(fSem_bd hb).1, fun j hj => ?_, orB_16 hc (by omega)⟩)
    show inR (upd af k (nI k2) j) 6
    unfold upd
    split
    · exact inR_nI (by omega) (by omega)
    · exact ha0 j hj
  · exact ⟨ha, ha0, hc⟩
theorem fTur_ok {nc : Nat} {fc : Nat → Int32} (hs : s.1 ≤ rl) (hn : nc ≤ 10) (hf : r3ok fc 10 16 6 nc) : (fTur t rl nc fc s).2.1.1 ≤ rl ∧ (fTur t rl nc fc s).2.2.1 ≤ 10 ∧ r3ok (fTur t rl nc fc s).2.2.2 10 16 6 (fTur t rl nc fc s).2.2.1 := by
  unfold fTur
  split
  · rename_i h10
    refine bN_ind (P := fun (r : Bool × TS × Nat × (Nat → Int32)) => r.2.1.1 ≤ rl ∧ r.2.2.1 ≤ 10 ∧ r3ok r.2.2.2 10 16 6 r.2.2.1) hs (by omega) (fun a ha => ⟨ha, hn, hf⟩) (fun d a hk1 hk2 ha => ?_)
    refine bN_ind (P := fun (r : Bool × TS × Nat × (Nat → Int32)) => r.2.1.1 ≤ rl ∧ r.2.2.1 ≤ 10 ∧ r3ok r.2.2.2 10 16 6 r.2.2.1) ha (by omega) (fun a ha => ⟨ha, hn, hf⟩) (fun c a hk3 hk4 ha => ?_)
    refine bN_ind (P := fun (r : Bool × TS × Nat × (Nat → Int32)) => r.2.1.1 ≤ rl ∧ r.2.2.1 ≤ 10 ∧ r3ok r.2.2.2 10 16 6 r.2.2.1) ha (by omega) (fun a ha => ⟨ha, hn, hf⟩) (fun v a hk5 hk6 ha => ?_)
    exact ⟨(fSem_bd ha).1, h10, row3_ok hf (inR_nI (by omega) (by omega)) (inR_nI (by omega) (by omega)) (inR_nI (by omega) (by omega))⟩
  · exact ⟨hs, hn, hf⟩
theorem fBli_ok {nl d : Nat} {fl : Nat → Int32} (hn : nl < 6) (hf : r3ok fl 10 65536 1 nl) (hd : d < 10) : ∀ (k : Nat) (bl : Int32) (s : TS), s.1 ≤ rl → mk16 bl → (fBli t rl nl fl d k bl s).2.1.1 ≤ rl ∧ (fBli t rl nl fl d k bl s).2.2.1 ≤ 6 ∧ r3ok (fBli t rl nl fl d k bl s).2.2.2 10 65536 1 (fBli t rl nl fl d k bl s).2.2.1 := by
  intro k
  induction k with
  | zero => intro bl s hs hb; exact ⟨hs, Nat.le_of_lt hn, hf⟩
  | succ k ih =>
    intro bl s hs hb
    have h1 := fTok_bd (t := t) hs
    rw [fBli]
    split
    · split
      · exact ⟨h1.1, hn, row3_ok hf (inR_nI (by omega) (by omega)) hb (inR_nI (by omega) (by omega))⟩
      · split
        · rename_i hw
          have hv := fWit_val (by omega) hw
          rw [fWit_same hw] at hv
          obtain ⟨c, hc1, hc2, hc3⟩ := hv
          rw [hc3, nI_toInt (by omega)]
          split
          · exact ih _ _ h1.1 (orB_16 hb (by omega))
          · exact ⟨h1.1, Nat.le_of_lt hn, hf⟩
        · have h2 := fWit_bd (lo := 0) (hi := 15) (s := (fTok t rl s).2)
          refine ⟨?_, Nat.le_of_lt hn, hf⟩
          show (fWit 0 15 (fTok t rl s).2).2.1 ≤ rl
          rw [h2.1]; exact h1.1
    · exact ⟨h1.1, Nat.le_of_lt hn, hf⟩
theorem fLen_ok {nl : Nat} {fl : Nat → Int32} (hs : s.1 ≤ rl) (hn : nl ≤ 6) (hf : r3ok fl 10 65536 1 nl) : (fLen t rl nl fl s).2.1.1 ≤ rl ∧ (fLen t rl nl fl s).2.2.1 ≤ 6 ∧ r3ok (fLen t rl nl fl s).2.2.2 10 65536 1 (fLen t rl nl fl s).2.2.1 := by
  unfold fLen
  split
  · rename_i h6
    refine bN_ind (P := fun (r : Bool × TS × Nat × (Nat → Int32)) => r.2.1.1 ≤ rl ∧ r.2.2.1 ≤ 6 ∧ r3ok r.2.2.2 10 65536 1 r.2.2.1) hs (by omega) (fun a ha => ⟨ha, hn, hf⟩) (fun d a hk1 hk2 ha => ?_)
    exact fBli_ok h6 hf (by omega) 17 _ a ha (inR_nI (by omega) (by omega))
  · exact ⟨hs, hn, hf⟩
/-- the reader's state within its bounds -/
def psOk (rl : Nat) (p : PS) : Prop := p.1.1 ≤ rl ∧ mk16 p.2.1.2.2 ∧ (sdok p.2.2.1.1 ∧ sdok p.2.2.1.2.1 ∧ p.2.2.1.2.2 ≤ 9) ∧ afok p.2.2.2.1 ∧ (p.2.2.2.2.1.1 ≤ 10 ∧ r3ok p.2.2.2.2.1.2 10 16 6 p.2.2.2.2.1.1) ∧ p.2.2.2.2.2.1 ≤ 6 ∧ r3ok p.2.2.2.2.2.2 10 65536 1 p.2.2.2.2.2.1
theorem fLin_ok {ho lo ct : Int32} {w h la : Nat} {af : Nat → Int32} {nc : Nat} {fc : Nat → Int32} {nl : Nat} {fl : Nat → Int32} (hk : psOk rl (s, (ho, lo, ct), (w, h, la), af, (nc, fc), (nl, fl))) : psOk rl (fLin t rl s ho lo ct w h la af nc fc nl fl).2 := by
  obtain ⟨h1, h2, ⟨h3, h4, h5⟩, h6, ⟨h7, h8⟩, h9, h10⟩ := hk
  unfold fLin
  split
  · split
    · have q := fHou_ok (t := t) (ho := ho) (s := s) h1 h3 h4
      exact ⟨q.1, h2, ⟨q.2.1, q.2.2, h5⟩, h6, ⟨h7, h8⟩, h9, h10⟩
    · split
      · have q := fLas_ok (t := t) (lo := lo) (s := s) h1 h5
        exact ⟨q.1, h2, ⟨h3, h4, q.2⟩, h6, ⟨h7, h8⟩, h9, h10⟩
      · split
        · have q := fCel_ok (t := t) (s := s) h1 h6 h2
          exact ⟨q.1, q.2.2, ⟨h3, h4, h5⟩, q.2.1, ⟨h7, h8⟩, h9, h10⟩
        · split
          · have q := fTur_ok (t := t) (s := s) h1 h7 h8
            exact ⟨q.1, h2, ⟨h3, h4, h5⟩, h6, ⟨q.2.1, q.2.2⟩, h9, h10⟩
          · split
            · have q := fLen_ok (t := t) (s := s) h1 h9 h10
              exact ⟨q.1, h2, ⟨h3, h4, h5⟩, h6, ⟨h7, h8⟩, q.2.1, q.2.2⟩
            · exact ⟨h1, h2, ⟨h3, h4, h5⟩, h6, ⟨h7, h8⟩, h9, h10⟩
  · exact ⟨h1, h2, ⟨h3, h4, h5⟩, h6, ⟨h7, h8⟩, h9, h10⟩
end Ok
abbrev fLinP (t : Nat → Int32) (rl : Nat) (p : PS) : Bool × PS := fLin t rl p.1 p.2.1.1 p.2.1.2.1 p.2.1.2.2 p.2.2.1.1 p.2.2.1.2.1 p.2.2.1.2.2 p.2.2.2.1 p.2.2.2.2.1.1 p.2.2.2.2.1.2 p.2.2.2.2.2.1 p.2.2.2.2.2.2
/-- the lines, one after another, at most k of them; n were read -/
def fLp (t : Nat → Int32) (rl : Nat) : Nat → PS → Nat → PS × Nat
  | 0, p, n => (p, n)
  | k + 1, p, n =>
    if (fTok t rl p.1).1 = true ∧ ¬ (fTok t rl p.1).2.2.1 = 0 then
      if (fLinP t rl ((fTok t rl p.1).2, p.2)).1 = true then fLp t rl k (fLinP t rl ((fTok t rl p.1).2, p.2)).2 (n + 1)
      else ((fLinP t rl ((fTok t rl p.1).2, p.2)).2, n)
    else (((fTok t rl p.1).2, p.2), n)
theorem fLp_ok {t : Nat → Int32} {rl : Nat} : ∀ (k : Nat) (p : PS) (n : Nat), psOk rl p → psOk rl (fLp t rl k p n).1 := by
  intro k
  induction k with
  | zero => intro p n h; exact h
  | succ k ih =>
    intro p n h
    have h1 : psOk rl ((fTok t rl p.1).2, p.2) := ⟨(fTok_bd h.1).1, h.2⟩
    rw [fLp]
    split
    · have h2 : psOk rl (fLinP t rl ((fTok t rl p.1).2, p.2)).2 := fLin_ok h1
      split
      · exact ih _ _ h2
      · exact h2
    · exact h1
theorem fTok_sr {t : Nat → Int32} {rl : Nat} {s : TS} : (fTok t rl s).2.2.2.1 ≤ (fTok t rl s).2.1 := nxT_ge
theorem fLp_0 {t : Nat → Int32} {rl k n : Nat} {p : PS} {a : TS} (h : ¬ ((fTok t rl p.1).1 = true ∧ ¬ (fTok t rl p.1).2.2.1 = 0)) (he : a = (fTok t rl p.1).2) : fLp t rl (k + 1) p n = ((a, p.2), n) := by
  rw [fLp, if_neg h, he]
theorem fLp_1 {t : Nat → Int32} {rl k n : Nat} {p q : PS} {a : TS} (h1 : (fTok t rl p.1).1 = true) (he : a = (fTok t rl p.1).2) (h2 : ¬ a.2.1 = 0) (h3 : ¬ (fLinP t rl (a, p.2)).1 = true) (hq : q = (fLinP t rl (a, p.2)).2) : fLp t rl (k + 1) p n = (q, n) := by
  subst he
  rw [fLp, if_pos ⟨h1, h2⟩, if_neg h3, hq]
theorem fLp_2 {t : Nat → Int32} {rl k n : Nat} {p q : PS} {a : TS} (h1 : (fTok t rl p.1).1 = true) (he : a = (fTok t rl p.1).2) (h2 : ¬ a.2.1 = 0) (h3 : (fLinP t rl (a, p.2)).1 = true) (hq : q = (fLinP t rl (a, p.2)).2) : fLp t rl (k + 1) p n = fLp t rl k q (n + 1) := by
  subst he
  rw [fLp, if_pos ⟨h1, h2⟩, if_pos h3, hq]
/-- all that is told of is there -/
abbrev allP (p : PS) : Prop := (∀ i, i < p.2.2.2.2.1.1 → inR (p.2.2.2.2.1.2 (3 * i + 0)) (p.2.2.1.2.2 + 1) ∧ inR (p.2.2.2.2.1.2 (3 * i + 1)) (p.2.2.1.1 * p.2.2.1.2.1)) ∧ (∀ i, i < p.2.2.2.2.2.1 → inR (p.2.2.2.2.2.2 (3 * i + 0)) (p.2.2.1.2.2 + 1) ∧ xu (p.2.2.2.2.2.2 (3 * i + 1)) (nI (p.2.2.1.1 * p.2.2.1.2.1)) = nI 0) ∧ xu p.2.1.2.2 (nI (p.2.2.1.1 * p.2.2.1.2.1)) = nI 0
def fEnd (rl : Nat) (p : PS) : Int32 × Int32 := if p.1.2.2.2.2.1 = nI 0 ∧ ¬ allP p then (nI 6, nI rl) else (p.1.2.2.2.2.1, p.1.2.2.2.2.2)
abbrev ps0 (kd sr : Nat) (vl : Int32) (af fc fl : Nat → Int32) : PS := ((0, kd, sr, vl, nI 0, nI 0), (nI 0, nI 0, nI 0), (3, 3, 9), af, (0, fc), (0, fl))
theorem ps0_ok {rl kd sr : Nat} {vl : Int32} {af fc fl : Nat → Int32} (h : ∀ j, j < 16 → af j = nI 0) : psOk rl (ps0 kd sr vl af fc fl) := by
  refine ⟨Nat.zero_le _, inR_nI (by omega) (by omega), ⟨⟨?_, ?_⟩, ⟨?_, ?_⟩, ?_⟩, fun j hj => ?_, ⟨Nat.zero_le _, fun i hi => absurd hi (Nat.not_lt_zero _)⟩, Nat.zero_le _, fun i hi => absurd hi (Nat.not_lt_zero _)⟩
  · show 2 ≤ 3; omega
  · show 3 ≤ 4; omega
  · show 2 ≤ 3; omega
  · show 3 ≤ 4; omega
  · show 9 ≤ 9; omega
  · show inR (af j) 6
    rw [h j hj]; exact inR_nI (by omega) (by omega)
end
section
abbrev w_X1_readTape (G : XG) (kre kbt kby : Nat) (rl kd sr : Nat) (nx0 vl fo pl li hto lto ct : Int32) (ka kc kl kn : Nat) (w h la : Nat) (kcn kln knn : Nat) (nc nl ns : Nat) (af fc fl fs tb : Nat → Int32) : va_W := [oC kre 1 [.ref kbt, .ref kby, .int (nI rl), .int nx0, .int (nI kd), .int (nI sr), .int vl, .int fo, .int pl, .int li, .int hto, .int lto, .int ct], oC kbt 0 [.int (nI w), .int (nI h), .int (nI la), .ref ka, .ref kc, .ref kl, .ref kn], iA G ka 16 af, oC kc 2 [.ref kcn, .int (nI 10), .int (nI nc)], iA G kcn (3 * 10) fc, oC kl 2 [.ref kln, .int (nI 6), .int (nI nl)], iA G kln (3 * 6) fl, oC kn 2 [.ref knn, .int (nI 8), .int (nI ns)], iA G knn (3 * 8) fs, bA G kby 160 tb]
abbrev Q_X1_readTape (G : XG) (sz : Nat) (ad : XAd) (kre kbt kby : Nat) (rl kd sr : Nat) (nx0 vl fo pl li hto lto ct : Int32) (ka kc kl kn : Nat) (w h la : Nat) (kcn kln knn : Nat) (nc nl ns : Nat) (af fc fl fs tb : Nat → Int32) : Array Value → State → Outcome → State → Prop := (va_Qi (fun (r : Int32) (u : Nat × Nat × Nat × Int32 × Int32 × Int32 × Int32 × Int32 × Int32 × Nat × Nat × Nat × (Nat → Int32) × Nat × (Nat → Int32) × Nat × (Nat → Int32) × Nat × (Nat → Int32) × Int32 × Int32) => r = u.2.2.2.2.1 ∧ ((∀ j, j < 16 → u.2.2.2.2.2.2.2.2.2.2.2.2.2.2.2.2.2.2.1 j = nI 0) ∧ (((u.1, u.2.1, u.2.2.1, u.2.2.2.1, u.2.2.2.2.2.2.2.2.2.2.2.2.2.2.2.2.2.2.2.1, u.2.2.2.2.2.2.2.2.2.2.2.2.2.2.2.2.2.2.2.2), (u.2.2.2.2.2.2.1, u.2.2.2.2.2.2.2.1, u.2.2.2.2.2.2.2.2.1), (u.2.2.2.2.2.2.2.2.2.1, u.2.2.2.2.2.2.2.2.2.2.1, u.2.2.2.2.2.2.2.2.2.2.2.1), u.2.2.2.2.2.2.2.2.2.2.2.2.1, (u.2.2.2.2.2.2.2.2.2.2.2.2.2.1, u.2.2.2.2.2.2.2.2.2.2.2.2.2.2.1), (u.2.2.2.2.2.2.2.2.2.2.2.2.2.2.2.1, u.2.2.2.2.2.2.2.2.2.2.2.2.2.2.2.2.1)), u.2.2.2.2.2.2.2.2.2.2.2.2.2.2.2.2.2.1) = fLp tb rl (rl + 1) (ps0 kd sr vl u.2.2.2.2.2.2.2.2.2.2.2.2.2.2.2.2.2.2.1 fc fl) 0 ∧ (u.2.2.2.2.1, u.2.2.2.2.2.1) = fEnd rl ((u.1, u.2.1, u.2.2.1, u.2.2.2.1, u.2.2.2.2.2.2.2.2.2.2.2.2.2.2.2.2.2.2.2.1, u.2.2.2.2.2.2.2.2.2.2.2.2.2.2.2.2.2.2.2.2), (u.2.2.2.2.2.2.1, u.2.2.2.2.2.2.2.1, u.2.2.2.2.2.2.2.2.1), (u.2.2.2.2.2.2.2.2.2.1, u.2.2.2.2.2.2.2.2.2.2.1, u.2.2.2.2.2.2.2.2.2.2.2.1), u.2.2.2.2.2.2.2.2.2.2.2.2.1, (u.2.2.2.2.2.2.2.2.2.2.2.2.2.1, u.2.2.2.2.2.2.2.2.2.2.2.2.2.2.1), (u.2.2.2.2.2.2.2.2.2.2.2.2.2.2.2.1, u.2.2.2.2.2.2.2.2.2.2.2.2.2.2.2.2.1)))) (xWb G sz (w_X1_readTape G kre kbt kby rl kd sr nx0 vl fo pl li hto lto ct ka kc kl kn w h la kcn kln knn nc nl ns af fc fl fs tb) (fun u : Nat × Nat × Nat × Int32 × Int32 × Int32 × Int32 × Int32 × Int32 × Nat × Nat × Nat × (Nat → Int32) × Nat × (Nat → Int32) × Nat × (Nat → Int32) × Nat × (Nat → Int32) × Int32 × Int32 => [oC kre 1 [.ref kbt, .ref kby, .int (nI 0), .int (nI u.1), .int (nI u.2.1), .int (nI u.2.2.1), .int u.2.2.2.1, .int u.2.2.2.2.1, .int u.2.2.2.2.2.1, .int (nI u.2.2.2.2.2.2.2.2.2.2.2.2.2.2.2.2.2.1), .int u.2.2.2.2.2.2.1, .int u.2.2.2.2.2.2.2.1, .int u.2.2.2.2.2.2.2.2.1], oC kbt 0 [.int (nI u.2.2.2.2.2.2.2.2.2.1), .int (nI u.2.2.2.2.2.2.2.2.2.2.1), .int (nI u.2.2.2.2.2.2.2.2.2.2.2.1), .ref ka, .ref kc, .ref kl, .ref kn], iA G ka 16 u.2.2.2.2.2.2.2.2.2.2.2.2.1, oC kc 2 [.ref kcn, .int (nI 10), .int (nI u.2.2.2.2.2.2.2.2.2.2.2.2.2.1)], iA G kcn (3 * 10) u.2.2.2.2.2.2.2.2.2.2.2.2.2.2.1, oC kl 2 [.ref kln, .int (nI 6), .int (nI u.2.2.2.2.2.2.2.2.2.2.2.2.2.2.2.1)], iA G kln (3 * 6) u.2.2.2.2.2.2.2.2.2.2.2.2.2.2.2.2.1, oC kn 2 [.ref knn, .int (nI 8), .int (nI 0)], iA G knn (3 * 8) fs, bA G kby 160 tb])) (va_A (w_X1_readTape G kre kbt kby rl kd sr nx0 vl fo pl li hto lto ct ka kc kl kn w h la kcn kln knn nc nl ns af fc fl fs tb) sz))
set_option maxHeartbeats 4000000 in
set_option maxRecDepth 100000 in
theorem c_X1_readTape (l : Launch) (G : XG) (sz : Nat) (ad : XAd) (kre kbt kby : Nat) (rl kd sr : Nat) (nx0 vl fo pl li hto lto ct : Int32) (ka kc kl kn : Nat) (w h la : Nat) (kcn kln knn : Nat) (nc nl ns : Nat) (af fc fl fs tb : Nat → Int32) (hrl : rl ≤ 160) : Met l yX1_readTape wsX1_readTape ({ frames := 6, cells := 0, slots := 0, locals := 127 } : Room) (va_Pc [.ref kre] (xZWp G sz ad (w_X1_readTape G kre kbt kby rl kd sr nx0 vl fo pl li hto lto ct ka kc kl kn w h la kcn kln knn nc nl ns af fc fl fs tb))) (Q_X1_readTape G sz ad kre kbt kby rl kd sr nx0 vl fo pl li hto lto ct ka kc kl kn w h la kcn kln knn nc nl ns af fc fl fs tb) 0 0 (va_A (w_X1_readTape G kre kbt kby rl kd sr nx0 vl fo pl li hto lto ct ka kc kl kn w h la kcn kln knn nc nl ns af fc fl fs tb) sz) := by
  refine Met.ofW (cc := cX1_readTape) (maxL := 3) (ret := (some .int)) (by decide) rfl ?_
  intro pp ee ss mm aa below mt cd s₁ BB hml hv
  obtain ⟨rfl, ⟨hsz, hP, hK, hD0⟩, hZ⟩ := hv
  have hx := BB.exec
  have hb := BB.bytes
  have hr := BB.returns
  have hts := atoms_spec (ws := wsX1_readTape) BB.pre
  have hown : ss.vm.findClass RX1 = some mm.cls := findClass_of_methodNamed BB.named
  have hlocks := BB.notSynchronized
  subst hsz
  have hD := hD0.self (sz := ss.heap.size)
  have hA : ∀ q : Nat, ss.heap.size ≤ q → va_A (w_X1_readTape G kre kbt kby rl kd sr nx0 vl fo pl li hto lto ct ka kc kl kn w h la kcn kln knn nc nl ns af fc fl fs tb) ss.heap.size q := fun q h => Or.inr h
  have hS : va_S (va_A (w_X1_readTape G kre kbt kby rl kd sr nx0 vl fo pl li hto lto ct ka kc kl kn w h la kcn kln knn nc nl ns af fc fl fs tb) ss.heap.size) ss.heap ss.heap [] := va_S.rf
  replace hD : va_D (va_A (w_X1_readTape G kre kbt kby rl kd sr nx0 vl fo pl li hto lto ct ka kc kl kn w h la kcn kln knn nc nl ns af fc fl fs tb) ss.heap.size) [oC kre 1 [.ref kbt, .ref kby, .int (nI rl), .int nx0, .int (nI kd), .int (nI sr), .int vl, .int fo, .int pl, .int li, .int hto, .int lto, .int ct], oC kbt 0 [.int (nI w), .int (nI h), .int (nI la), .ref ka, .ref kc, .ref kl, .ref kn], iA G ka 16 af, oC kc 2 [.ref kcn, .int (nI 10), .int (nI nc)], iA G kcn (3 * 10) fc, oC kl 2 [.ref kln, .int (nI 6), .int (nI nl)], iA G kln (3 * 6) fl, oC kn 2 [.ref knn, .int (nI 8), .int (nI ns)], iA G knn (3 * 8) fs, bA G kby 160 tb] := hD
  replace hP : xP G [oC kre 1 [.ref kbt, .ref kby, .int (nI rl), .int nx0, .int (nI kd), .int (nI sr), .int vl, .int fo, .int pl, .int li, .int hto, .int lto, .int ct], oC kbt 0 [.int (nI w), .int (nI h), .int (nI la), .ref ka, .ref kc, .ref kl, .ref kn], iA G ka 16 af, oC kc 2 [.ref kcn, .int (nI 10), .int (nI nc)], iA G kcn (3 * 10) fc, oC kl 2 [.ref kln, .int (nI 6), .int (nI nl)], iA G kln (3 * 6) fl, oC kn 2 [.ref knn, .int (nI 8), .int (nI ns)], iA G knn (3 * 8) fs, bA G kby 160 tb] ss.heap := hP
  have hin0 : ∀ w ∈ u_ws RX0 TX0 7, w ∈ wsX1_readTape := fun w h => List.mem_cons_of_mem _ (List.mem_append_left _ (List.mem_append_right _ h))
  have hin1 : ∀ w ∈ u_ws RX1 TX1 13, w ∈ wsX1_readTape := fun w h => List.mem_cons_of_mem _ (List.mem_append_left _ (List.mem_append_left _ (List.mem_append_right _ h)))
  have hin2 : ∀ w ∈ u_ws RX2 TX2 3, w ∈ wsX1_readTape := fun w h => List.mem_cons_of_mem _ (List.mem_append_right _ h)
  have hl := lv_entry ([.ref kre]) (n := 3) (Nat.le_of_ble_eq_true rfl)
  rw [lg_entry_eq]
  generalize (lg_sl ([.ref kre]) ++ List.replicate (3 - (lg_sl ([.ref kre])).length) Slot.unset).toArray = ls at hl ⊢
  replace hl : lv_has ls 3 [(0, .ref kre)] := hl
  refine lv_aload_n hx hb dX1_readTape_0 rfl (lv_at hl 0 rfl) ?_
  refine lv_iconst (v := nI 0) hx hb dX1_readTape_1 (by decide) ?_
  refine va_put (D := G.1) (ci := 1) (v := .int (nI 0)) (ty := .int) (C := RX1) (T := TX1) (N := 13) hx hb hts hin1 tyX1 tyX1_ok nmX1 hown hK.1 hP hD hS 0 rfl rfl 3 (by decide) (hts (.fieldLink RX1 26 "BackLenses$Reader" "next" "I") (List.mem_of_getElem? (i := 1) rfl)) (fun _ h9 => h9) rfl (by decide +kernel) rfl rfl (Nat.le_of_ble_eq_true rfl) dX1_readTape_2 (fun H locs hP hD hS => ?_)
  replace hP : xP G [oC kre 1 [.ref kbt, .ref kby, .int (nI rl), .int (nI 0), .int (nI kd), .int (nI sr), .int vl, .int fo, .int pl, .int li, .int hto, .int lto, .int ct], oC kbt 0 [.int (nI w), .int (nI h), .int (nI la), .ref ka, .ref kc, .ref kl, .ref kn], iA G ka 16 af, oC kc 2 [.ref kcn, .int (nI 10), .int (nI nc)], iA G kcn (3 * 10) fc, oC kl 2 [.ref kln, .int (nI 6), .int (nI nl)], iA G kln (3 * 6) fl, oC kn 2 [.ref knn, .int (nI 8), .int (nI ns)], iA G knn (3 * 8) fs, bA G kby 160 tb] H := hP
  replace hD : va_D (va_A (w_X1_readTape G kre kbt kby rl kd sr nx0 vl fo pl li hto lto ct ka kc kl kn w h la kcn kln knn nc nl ns af fc fl fs tb) ss.heap.size) [oC kre 1 [.ref kbt, .ref kby, .int (nI rl), .int (nI 0), .int (nI kd), .int (nI sr), .int vl, .int fo, .int pl, .int li, .int hto, .int lto, .int ct], oC kbt 0 [.int (nI w), .int (nI h), .int (nI la), .ref ka, .ref kc, .ref kl, .ref kn], iA G ka 16 af, oC kc 2 [.ref kcn, .int (nI 10), .int (nI nc)], iA G kcn (3 * 10) fc, oC kl 2 [.ref kln, .int (nI 6), .int (nI nl)], iA G kln (3 * 6) fl, oC kn 2 [.ref knn, .int (nI 8), .int (nI ns)], iA G knn (3 * 8) fs, bA G kby 160 tb] := hD
  refine lv_aload_n hx hb dX1_readTape_5 rfl (lv_at hl 0 rfl) ?_
  refine lv_iconst (v := nI 0) hx hb dX1_readTape_6 (by decide) ?_
  refine va_put (D := G.1) (ci := 1) (v := .int (nI 0)) (ty := .int) (C := RX1) (T := TX1) (N := 13) hx hb hts hin1 tyX1 tyX1_ok nmX1 hown hK.1 hP hD hS 0 rfl rfl 7 (by decide) (hts (.fieldLink RX1 29 "BackLenses$Reader" "found" "I") (List.mem_of_getElem? (i := 2) rfl)) (fun _ h9 => h9) rfl (by decide +kernel) rfl rfl (Nat.le_of_ble_eq_true rfl) dX1_readTape_7 (fun H locs hP hD hS => ?_)
  replace hP : xP G [oC kre 1 [.ref kbt, .ref kby, .int (nI rl), .int (nI 0), .int (nI kd), .int (nI sr), .int vl, .int (nI 0), .int pl, .int li, .int hto, .int lto, .int ct], oC kbt 0 [.int (nI w), .int (nI h), .int (nI la), .ref ka, .ref kc, .ref kl, .ref kn], iA G ka 16 af, oC kc 2 [.ref kcn, .int (nI 10), .int (nI nc)], iA G kcn (3 * 10) fc, oC kl 2 [.ref kln, .int (nI 6), .int (nI nl)], iA G kln (3 * 6) fl, oC kn 2 [.ref knn, .int (nI 8), .int (nI ns)], iA G knn (3 * 8) fs, bA G kby 160 tb] H := hP
  replace hD : va_D (va_A (w_X1_readTape G kre kbt kby rl kd sr nx0 vl fo pl li hto lto ct ka kc kl kn w h la kcn kln knn nc nl ns af fc fl fs tb) ss.heap.size) [oC kre 1 [.ref kbt, .ref kby, .int (nI rl), .int (nI 0), .int (nI kd), .int (nI sr), .int vl, .int (nI 0), .int pl, .int li, .int hto, .int lto, .int ct], oC kbt 0 [.int (nI w), .int (nI h), .int (nI la), .ref ka, .ref kc, .ref kl, .ref kn], iA G ka 16 af, oC kc 2 [.ref kcn, .int (nI 10), .int (nI nc)], iA G kcn (3 * 10) fc, oC kl 2 [.ref kln, .int (nI 6), .int (nI nl)], iA G kln (3 * 6) fl, oC kn 2 [.ref knn, .int (nI 8), .int (nI ns)], iA G knn (3 * 8) fs, bA G kby 160 tb] := hD
  refine lv_aload_n hx hb dX1_readTape_10 rfl (lv_at hl 0 rfl) ?_
  refine lv_iconst (v := nI 0) hx hb dX1_readTape_11 (by decide) ?_
  refine va_put (D := G.1) (ci := 1) (v := .int (nI 0)) (ty := .int) (C := RX1) (T := TX1) (N := 13) hx hb hts hin1 tyX1 tyX1_ok nmX1 hown hK.1 hP hD hS 0 rfl rfl 8 (by decide) (hts (.fieldLink RX1 32 "BackLenses$Reader" "place" "I") (List.mem_of_getElem? (i := 3) rfl)) (fun _ h9 => h9) rfl (by decide +kernel) rfl rfl (Nat.le_of_ble_eq_true rfl) dX1_readTape_12 (fun H locs hP hD hS => ?_)
  replace hP : xP G [oC kre 1 [.ref kbt, .ref kby, .int (nI rl), .int (nI 0), .int (nI kd), .int (nI sr), .int vl, .int (nI 0), .int (nI 0), .int li, .int hto, .int lto, .int ct], oC kbt 0 [.int (nI w), .int (nI h), .int (nI la), .ref ka, .ref kc, .ref kl, .ref kn], iA G ka 16 af, oC kc 2 [.ref kcn, .int (nI 10), .int (nI nc)], iA G kcn (3 * 10) fc, oC kl 2 [.ref kln, .int (nI 6), .int (nI nl)], iA G kln (3 * 6) fl, oC kn 2 [.ref knn, .int (nI 8), .int (nI ns)], iA G knn (3 * 8) fs, bA G kby 160 tb] H := hP
  replace hD : va_D (va_A (w_X1_readTape G kre kbt kby rl kd sr nx0 vl fo pl li hto lto ct ka kc kl kn w h la kcn kln knn nc nl ns af fc fl fs tb) ss.heap.size) [oC kre 1 [.ref kbt, .ref kby, .int (nI rl), .int (nI 0), .int (nI kd), .int (nI sr), .int vl, .int (nI 0), .int (nI 0), .int li, .int hto, .int lto, .int ct], oC kbt 0 [.int (nI w), .int (nI h), .int (nI la), .ref ka, .ref kc, .ref kl, .ref kn], iA G ka 16 af, oC kc 2 [.ref kcn, .int (nI 10), .int (nI nc)], iA G kcn (3 * 10) fc, oC kl 2 [.ref kln, .int (nI 6), .int (nI nl)], iA G kln (3 * 6) fl, oC kn 2 [.ref knn, .int (nI 8), .int (nI ns)], iA G knn (3 * 8) fs, bA G kby 160 tb] := hD
  refine lv_aload_n hx hb dX1_readTape_15 rfl (lv_at hl 0 rfl) ?_
  refine lv_iconst (v := nI 0) hx hb dX1_readTape_16 (by decide) ?_
  refine va_put (D := G.1) (ci := 1) (v := .int (nI 0)) (ty := .int) (C := RX1) (T := TX1) (N := 13) hx hb hts hin1 tyX1 tyX1_ok nmX1 hown hK.1 hP hD hS 0 rfl rfl 9 (by decide) (hts (.fieldLink RX1 35 "BackLenses$Reader" "lines" "I") (List.mem_of_getElem? (i := 4) rfl)) (fun _ h9 => h9) rfl (by decide +kernel) rfl rfl (Nat.le_of_ble_eq_true rfl) dX1_readTape_17 (fun H locs hP hD hS => ?_)
  replace hP : xP G [oC kre 1 [.ref kbt, .ref kby, .int (nI rl), .int (nI 0), .int (nI kd), .int (nI sr), .int vl, .int (nI 0), .int (nI 0), .int (nI 0), .int hto, .int lto, .int ct], oC kbt 0 [.int (nI w), .int (nI h), .int (nI la), .ref ka, .ref kc, .ref kl, .ref kn], iA G ka 16 af, oC kc 2 [.ref kcn, .int (nI 10), .int (nI nc)], iA G kcn (3 * 10) fc, oC kl 2 [.ref kln, .int (nI 6), .int (nI nl)], iA G kln (3 * 6) fl, oC kn 2 [.ref knn, .int (nI 8), .int (nI ns)], iA G knn (3 * 8) fs, bA G kby 160 tb] H := hP
  replace hD : va_D (va_A (w_X1_readTape G kre kbt kby rl kd sr nx0 vl fo pl li hto lto ct ka kc kl kn w h la kcn kln knn nc nl ns af fc fl fs tb) ss.heap.size) [oC kre 1 [.ref kbt, .ref kby, .int (nI rl), .int (nI 0), .int (nI kd), .int (nI sr), .int vl, .int (nI 0), .int (nI 0), .int (nI 0), .int hto, .int lto, .int ct], oC kbt 0 [.int (nI w), .int (nI h), .int (nI la), .ref ka, .ref kc, .ref kl, .ref kn], iA G ka 16 af, oC kc 2 [.ref kcn, .int (nI 10), .int (nI nc)], iA G kcn (3 * 10) fc, oC kl 2 [.ref kln, .int (nI 6), .int (nI nl)], iA G kln (3 * 6) fl, oC kn 2 [.ref knn, .int (nI 8), .int (nI ns)], iA G knn (3 * 8) fs, bA G kby 160 tb] := hD
  refine lv_aload_n hx hb dX1_readTape_20 rfl (lv_at hl 0 rfl) ?_
  refine lv_iconst (v := nI 0) hx hb dX1_readTape_21 (by decide) ?_
  refine va_put (D := G.1) (ci := 1) (v := .int (nI 0)) (ty := .boolean) (C := RX1) (T := TX1) (N := 13) hx hb hts hin1 tyX1 tyX1_ok nmX1 hown hK.1 hP hD hS 0 rfl rfl 10 (by decide) (hts (.fieldLink RX1 38 "BackLenses$Reader" "houseTold" "Z") (List.mem_of_getElem? (i := 5) rfl)) (fun _ h9 => h9) rfl (by decide +kernel) (by decide) (by decide) (Nat.le_of_ble_eq_true rfl) dX1_readTape_22 (fun H locs hP hD hS => ?_)
  replace hP : xP G [oC kre 1 [.ref kbt, .ref kby, .int (nI rl), .int (nI 0), .int (nI kd), .int (nI sr), .int vl, .int (nI 0), .int (nI 0), .int (nI 0), .int (nI 0), .int lto, .int ct], oC kbt 0 [.int (nI w), .int (nI h), .int (nI la), .ref ka, .ref kc, .ref kl, .ref kn], iA G ka 16 af, oC kc 2 [.ref kcn, .int (nI 10), .int (nI nc)], iA G kcn (3 * 10) fc, oC kl 2 [.ref kln, .int (nI 6), .int (nI nl)], iA G kln (3 * 6) fl, oC kn 2 [.ref knn, .int (nI 8), .int (nI ns)], iA G knn (3 * 8) fs, bA G kby 160 tb] H := hP
  replace hD : va_D (va_A (w_X1_readTape G kre kbt kby rl kd sr nx0 vl fo pl li hto lto ct ka kc kl kn w h la kcn kln knn nc nl ns af fc fl fs tb) ss.heap.size) [oC kre 1 [.ref kbt, .ref kby, .int (nI rl), .int (nI 0), .int (nI kd), .int (nI sr), .int vl, .int (nI 0), .int (nI 0), .int (nI 0), .int (nI 0), .int lto, .int ct], oC kbt 0 [.int (nI w), .int (nI h), .int (nI la), .ref ka, .ref kc, .ref kl, .ref kn], iA G ka 16 af, oC kc 2 [.ref kcn, .int (nI 10), .int (nI nc)], iA G kcn (3 * 10) fc, oC kl 2 [.ref kln, .int (nI 6), .int (nI nl)], iA G kln (3 * 6) fl, oC kn 2 [.ref knn, .int (nI 8), .int (nI ns)], iA G knn (3 * 8) fs, bA G kby 160 tb] := hD
  refine lv_aload_n hx hb dX1_readTape_25 rfl (lv_at hl 0 rfl) ?_
  refine lv_iconst (v := nI 0) hx hb dX1_readTape_26 (by decide) ?_
  refine va_put (D := G.1) (ci := 1) (v := .int (nI 0)) (ty := .boolean) (C := RX1) (T := TX1) (N := 13) hx hb hts hin1 tyX1 tyX1_ok nmX1 hown hK.1 hP hD hS 0 rfl rfl 11 (by decide) (hts (.fieldLink RX1 42 "BackLenses$Reader" "lastTold" "Z") (List.mem_of_getElem? (i := 6) rfl)) (fun _ h9 => h9) rfl (by decide +kernel) (by decide) (by decide) (Nat.le_of_ble_eq_true rfl) dX1_readTape_27 (fun H locs hP hD hS => ?_)
  replace hP : xP G [oC kre 1 [.ref kbt, .ref kby, .int (nI rl), .int (nI 0), .int (nI kd), .int (nI sr), .int vl, .int (nI 0), .int (nI 0), .int (nI 0), .int (nI 0), .int (nI 0), .int ct], oC kbt 0 [.int (nI w), .int (nI h), .int (nI la), .ref ka, .ref kc, .ref kl, .ref kn], iA G ka 16 af, oC kc 2 [.ref kcn, .int (nI 10), .int (nI nc)], iA G kcn (3 * 10) fc, oC kl 2 [.ref kln, .int (nI 6), .int (nI nl)], iA G kln (3 * 6) fl, oC kn 2 [.ref knn, .int (nI 8), .int (nI ns)], iA G knn (3 * 8) fs, bA G kby 160 tb] H := hP
  replace hD : va_D (va_A (w_X1_readTape G kre kbt kby rl kd sr nx0 vl fo pl li hto lto ct ka kc kl kn w h la kcn kln knn nc nl ns af fc fl fs tb) ss.heap.size) [oC kre 1 [.ref kbt, .ref kby, .int (nI rl), .int (nI 0), .int (nI kd), .int (nI sr), .int vl, .int (nI 0), .int (nI 0), .int (nI 0), .int (nI 0), .int (nI 0), .int ct], oC kbt 0 [.int (nI w), .int (nI h), .int (nI la), .ref ka, .ref kc, .ref kl, .ref kn], iA G ka 16 af, oC kc 2 [.ref kcn, .int (nI 10), .int (nI nc)], iA G kcn (3 * 10) fc, oC kl 2 [.ref kln, .int (nI 6), .int (nI nl)], iA G kln (3 * 6) fl, oC kn 2 [.ref knn, .int (nI 8), .int (nI ns)], iA G knn (3 * 8) fs, bA G kby 160 tb] := hD
  refine lv_aload_n hx hb dX1_readTape_30 rfl (lv_at hl 0 rfl) ?_
  refine lv_iconst (v := nI 0) hx hb dX1_readTape_31 (by decide) ?_
  refine va_put (D := G.1) (ci := 1) (v := .int (nI 0)) (ty := .int) (C := RX1) (T := TX1) (N := 13) hx hb hts hin1 tyX1 tyX1_ok nmX1 hown hK.1 hP hD hS 0 rfl rfl 12 (by decide) (hts (.fieldLink RX1 45 "BackLenses$Reader" "cellsTold" "I") (List.mem_of_getElem? (i := 7) rfl)) (fun _ h9 => h9) rfl (by decide +kernel) rfl rfl (Nat.le_of_ble_eq_true rfl) dX1_readTape_32 (fun H locs hP hD hS => ?_)
  replace hP : xP G [oC kre 1 [.ref kbt, .ref kby, .int (nI rl), .int (nI 0), .int (nI kd), .int (nI sr), .int vl, .int (nI 0), .int (nI 0), .int (nI 0), .int (nI 0), .int (nI 0), .int (nI 0)], oC kbt 0 [.int (nI w), .int (nI h), .int (nI la), .ref ka, .ref kc, .ref kl, .ref kn], iA G ka 16 af, oC kc 2 [.ref kcn, .int (nI 10), .int (nI nc)], iA G kcn (3 * 10) fc, oC kl 2 [.ref kln, .int (nI 6), .int (nI nl)], iA G kln (3 * 6) fl, oC kn 2 [.ref knn, .int (nI 8), .int (nI ns)], iA G knn (3 * 8) fs, bA G kby 160 tb] H := hP
  replace hD : va_D (va_A (w_X1_readTape G kre kbt kby rl kd sr nx0 vl fo pl li hto lto ct ka kc kl kn w h la kcn kln knn nc nl ns af fc fl fs tb) ss.heap.size) [oC kre 1 [.ref kbt, .ref kby, .int (nI rl), .int (nI 0), .int (nI kd), .int (nI sr), .int vl, .int (nI 0), .int (nI 0), .int (nI 0), .int (nI 0), .int (nI 0), .int (nI 0)], oC kbt 0 [.int (nI w), .int (nI h), .int (nI la), .ref ka, .ref kc, .ref kl, .ref kn], iA G ka 16 af, oC kc 2 [.ref kcn, .int (nI 10), .int (nI nc)], iA G kcn (3 * 10) fc, oC kl 2 [.ref kln, .int (nI 6), .int (nI nl)], iA G kln (3 * 6) fl, oC kn 2 [.ref knn, .int (nI 8), .int (nI ns)], iA G knn (3 * 8) fs, bA G kby 160 tb] := hD
  refine lv_aload_n hx hb dX1_readTape_35 rfl (lv_at hl 0 rfl) ?_
  refine va_get (D := G.1) (ci := 1) (v := .ref kbt) (C := RX1) (T := TX1) (N := 13) hx hb hts hin1 hown hK.1 hP 0 rfl rfl 0 (by decide) (hts (.fieldLink RX1 12 "BackLenses$Reader" "target" "LBackLenses$Book;") (List.mem_of_getElem? (i := 8) rfl)) (fun _ h9 => h9) rfl dX1_readTape_36 ?_
  refine xw_v (As := []) (rest := []) (wr := [oC kre 1 [.ref kbt, .ref kby, .int (nI rl), .int (nI 0), .int (nI kd), .int (nI sr), .int vl, .int (nI 0), .int (nI 0), .int (nI 0), .int (nI 0), .int (nI 0), .int (nI 0)], bA G kby 160 tb]) ⟨hx, hb, hml, hown, hts⟩ (c_X0_empty l G H.size kbt ka kc kcn kl kln kn knn w h la af nc fc nl fl ns fs ) (cwV 0 hts gX1_readTape_X0_empty rfl rfl rfl (by decide +kernel) ⟨Nat.le_of_ble_eq_true rfl, Nat.le_of_ble_eq_true rfl⟩) hK hP hD hS hA [1, 2, 3, 4, 5, 6, 7, 8] [0, 9] rfl rfl (by decide) (by decide) (by decide) rfl rfl rfl hl.1 rfl (Nat.le_of_ble_eq_true rfl) dX1_readTape_39 ⟨Nat.le_of_ble_eq_true rfl, Nat.le_of_ble_eq_true rfl⟩ (fun u H locs hp39 hP hD hS => ?_)
  obtain ⟨af2_39, rfl⟩ : ∃ z, z = u := ⟨_, rfl⟩
  try dsimp only at hp39 hP hD
  have he39 := hp39
  replace hP : xP G [oC kre 1 [.ref kbt, .ref kby, .int (nI rl), .int (nI 0), .int (nI kd), .int (nI sr), .int vl, .int (nI 0), .int (nI 0), .int (nI 0), .int (nI 0), .int (nI 0), .int (nI 0)], bA G kby 160 tb, oC kbt 0 [.int (nI 3), .int (nI 3), .int (nI 9), .ref ka, .ref kc, .ref kl, .ref kn], iA G ka 16 af2_39, oC kc 2 [.ref kcn, .int (nI 10), .int (nI 0)], iA G kcn (3 * 10) fc, oC kl 2 [.ref kln, .int (nI 6), .int (nI 0)], iA G kln (3 * 6) fl, oC kn 2 [.ref knn, .int (nI 8), .int (nI 0)], iA G knn (3 * 8) fs] H := hP
  replace hD : va_D (va_A (w_X1_readTape G kre kbt kby rl kd sr nx0 vl fo pl li hto lto ct ka kc kl kn w h la kcn kln knn nc nl ns af fc fl fs tb) ss.heap.size) [oC kre 1 [.ref kbt, .ref kby, .int (nI rl), .int (nI 0), .int (nI kd), .int (nI sr), .int vl, .int (nI 0), .int (nI 0), .int (nI 0), .int (nI 0), .int (nI 0), .int (nI 0)], bA G kby 160 tb, oC kbt 0 [.int (nI 3), .int (nI 3), .int (nI 9), .ref ka, .ref kc, .ref kl, .ref kn], iA G ka 16 af2_39, oC kc 2 [.ref kcn, .int (nI 10), .int (nI 0)], iA G kcn (3 * 10) fc, oC kl 2 [.ref kln, .int (nI 6), .int (nI 0)], iA G kln (3 * 6) fl, oC kn 2 [.ref knn, .int (nI 8), .int (nI 0)], iA G knn (3 * 8) fs] := hD
  refine lv_iconst (v := nI 1) hx hb dX1_readTape_42 (by decide) ?_
  refine lv_istore_n (lv' := [(1, .int (nI 1)), (0, .ref kre)]) hx hb dX1_readTape_43 rfl hl (by decide) rfl (fun ls hl => ?_)
  refine lv_iconst (v := nI 0) hx hb dX1_readTape_44 (by decide) ?_
  refine lv_istore_n (lv' := [(2, .int (nI 0)), (1, .int (nI 1)), (0, .ref kre)]) hx hb dX1_readTape_45 rfl hl (by decide) rfl (fun ls hl => ?_)
  have hL46 : ∀ k : Nat, ∀ (go : Nat) (i : Nat) (nx3 : Nat) (kd3 : Nat) (sr3 : Nat) (vl3 : Int32) (fo3 : Int32) (pl3 : Int32) (n3 : Nat) (ht3 : Int32) (lt3 : Int32) (ct3 : Int32) (w3 : Nat) (h3 : Nat) (la3 : Nat) (af3 : Nat → Int32) (nc3 : Nat) (fc3 : Nat → Int32) (nl3 : Nat) (fl3 : Nat → Int32) (ls : Array Slot) (H : Heap) (locs : List Loc), rl + 1 - i = k → (i ≤ rl + 1) → (go = 0 ∨ go = 1) → (psOk rl ((nx3, kd3, sr3, vl3, fo3, pl3), (ht3, lt3, ct3), (w3, h3, la3), af3, (nc3, fc3), (nl3, fl3))) → (fLp tb rl (rl + 1) (ps0 kd sr vl af2_39 fc fl) 0 = (if go = 1 then fLp tb rl (rl + 1 - i) ((nx3, kd3, sr3, vl3, fo3, pl3), (ht3, lt3, ct3), (w3, h3, la3), af3, (nc3, fc3), (nl3, fl3)) n3 else (((nx3, kd3, sr3, vl3, fo3, pl3), (ht3, lt3, ct3), (w3, h3, la3), af3, (nc3, fc3), (nl3, fl3)), n3))) → lv_has ls 3 [(0, .ref kre), (1, .int (nI go)), (2, .int (nI i))] → xP G [iA G ka 16 af3, oC kbt 0 [.int (nI w3), .int (nI h3), .int (nI la3), .ref ka, .ref kc, .ref kl, .ref kn], bA G kby 160 tb, oC kc 2 [.ref kcn, .int (nI 10), .int (nI nc3)], iA G kcn (3 * 10) fc3, oC kl 2 [.ref kln, .int (nI 6), .int (nI nl3)], iA G kln (3 * 6) fl3, oC kn 2 [.ref knn, .int (nI 8), .int (nI 0)], iA G knn (3 * 8) fs, oC kre 1 [.ref kbt, .ref kby, .int (nI rl), .int (nI nx3), .int (nI kd3), .int (nI sr3), .int vl3, .int fo3, .int pl3, .int (nI n3), .int ht3, .int lt3, .int ct3]] H → va_D (va_A (w_X1_readTape G kre kbt kby rl kd sr nx0 vl fo pl li hto lto ct ka kc kl kn w h la kcn kln knn nc nl ns af fc fl fs tb) ss.heap.size) [iA G ka 16 af3, oC kbt 0 [.int (nI w3), .int (nI h3), .int (nI la3), .ref ka, .ref kc, .ref kl, .ref kn], bA G kby 160 tb, oC kc 2 [.ref kcn, .int (nI 10), .int (nI nc3)], iA G kcn (3 * 10) fc3, oC kl 2 [.ref kln, .int (nI 6), .int (nI nl3)], iA G kln (3 * 6) fl3, oC kn 2 [.ref knn, .int (nI 8), .int (nI 0)], iA G knn (3 * 8) fs, oC kre 1 [.ref kbt, .ref kby, .int (nI rl), .int (nI nx3), .int (nI kd3), .int (nI sr3), .int vl3, .int fo3, .int pl3, .int (nI n3), .int ht3, .int lt3, .int ct3]] → va_S (va_A (w_X1_readTape G kre kbt kby rl kd sr nx0 vl fo pl li hto lto ct ka kc kl kn w h la kcn kln knn nc nl ns af fc fl fs tb) ss.heap.size) ss.heap H locs → W pp l ee ({ frames := 6, cells := 0, slots := 0, locals := 127 } : Room) ss mm ([.ref kre] : List Value).toArray below mt cd H locs 0 0 (MQ below (Q_X1_readTape G ss.heap.size ad kre kbt kby rl kd sr nx0 vl fo pl li hto lto ct ka kc kl kn w h la kcn kln knn nc nl ns af fc fl fs tb) ([.ref kre] : List Value).toArray ss 0 0 (va_A (w_X1_readTape G kre kbt kby rl kd sr nx0 vl fo pl li hto lto ct ka kc kl kn w h la kcn kln knn nc nl ns af fc fl fs tb) ss.heap.size)) (F0 mm 46 ls []) := by
    intro k
    induction k using Nat.strongRecOn with
    | _ k ih46 =>
    intro go i nx3 kd3 sr3 vl3 fo3 pl3 n3 ht3 lt3 ct3 w3 h3 la3 af3 nc3 fc3 nl3 fl3 ls H locs hm46 hi hgo hok hF hl hP hD hS
    have hg1 : nc3 ≤ 10 := hok.2.2.2.2.1.1
    have hg2 : nl3 ≤ 6 := hok.2.2.2.2.2.1
    have hg3 : w3 * h3 ≤ 16 := Nat.mul_le_mul hok.2.2.1.1.2 hok.2.2.1.2.1.2
    have hg4 : la3 ≤ 9 := hok.2.2.1.2.2
    have hg5 : nx3 ≤ rl := hok.1
    refine lv_iload_n hx hb dX1_readTape_46 rfl (lv_at hl 2 rfl) ?_
    refine lv_aload_n hx hb dX1_readTape_47 rfl (lv_at hl 0 rfl) ?_
    refine va_get (D := G.1) (ci := 1) (v := .int (nI rl)) (C := RX1) (T := TX1) (N := 13) hx hb hts hin1 hown hK.1 hP 9 rfl rfl 2 (by decide) (hts (.fieldLink RX1 22 "BackLenses$Reader" "length" "I") (List.mem_of_getElem? (i := 9) rfl)) (fun _ h9 => h9) rfl dX1_readTape_48 ?_
    refine xn_icmp_gt (tgt := 105) hx hb (by omega) (by omega) dX1_readTape_51 rfl (fun b51 => ?_) (fun b51 => ?_)
    · skip
      have hE : fLp tb rl (rl + 1) (ps0 kd sr vl af2_39 fc fl) 0 = (((nx3, kd3, sr3, vl3, fo3, pl3), (ht3, lt3, ct3), (w3, h3, la3), af3, (nc3, fc3), (nl3, fl3)), n3) := (by rw [hF]; split; (rw [show rl + 1 - i = 0 by omega]; rfl); rfl)
      refine lv_aload_n hx hb dX1_readTape_105 rfl (lv_at hl 0 rfl) ?_
      refine va_get (D := G.1) (ci := 1) (v := .int fo3) (C := RX1) (T := TX1) (N := 13) hx hb hts hin1 hown hK.1 hP 9 rfl rfl 7 (by decide) (hts (.fieldLink RX1 29 "BackLenses$Reader" "found" "I") (List.mem_of_getElem? (i := 2) rfl)) (fun _ h9 => h9) rfl dX1_readTape_106 ?_
      refine lv_if_ne (tgt := 130) hx hb dX1_readTape_109 rfl (fun b109 => ?_) (fun b109 => ?_)
      · skip
        refine lv_aload_n hx hb dX1_readTape_130 rfl (lv_at hl 0 rfl) ?_
        refine lv_iconst (v := nI 0) hx hb dX1_readTape_131 (by decide) ?_
        refine va_put (D := G.1) (ci := 1) (v := .int (nI 0)) (ty := .int) (C := RX1) (T := TX1) (N := 13) hx hb hts hin1 tyX1 tyX1_ok nmX1 hown hK.1 hP hD hS 9 rfl rfl 2 (by decide) (hts (.fieldLink RX1 22 "BackLenses$Reader" "length" "I") (List.mem_of_getElem? (i := 9) rfl)) (fun _ h9 => h9) rfl (by decide +kernel) rfl rfl (Nat.le_of_ble_eq_true rfl) dX1_readTape_132 (fun H locs hP hD hS => ?_)
        replace hP : xP G [iA G ka 16 af3, oC kbt 0 [.int (nI w3), .int (nI h3), .int (nI la3), .ref ka, .ref kc, .ref kl, .ref kn], bA G kby 160 tb, oC kc 2 [.ref kcn, .int (nI 10), .int (nI nc3)], iA G kcn (3 * 10) fc3, oC kl 2 [.ref kln, .int (nI 6), .int (nI nl3)], iA G kln (3 * 6) fl3, oC kn 2 [.ref knn, .int (nI 8), .int (nI 0)], iA G knn (3 * 8) fs, oC kre 1 [.ref kbt, .ref kby, .int (nI 0), .int (nI nx3), .int (nI kd3), .int (nI sr3), .int vl3, .int fo3, .int pl3, .int (nI n3), .int ht3, .int lt3, .int ct3]] H := hP
        replace hD : va_D (va_A (w_X1_readTape G kre kbt kby rl kd sr nx0 vl fo pl li hto lto ct ka kc kl kn w h la kcn kln knn nc nl ns af fc fl fs tb) ss.heap.size) [iA G ka 16 af3, oC kbt 0 [.int (nI w3), .int (nI h3), .int (nI la3), .ref ka, .ref kc, .ref kl, .ref kn], bA G kby 160 tb, oC kc 2 [.ref kcn, .int (nI 10), .int (nI nc3)], iA G kcn (3 * 10) fc3, oC kl 2 [.ref kln, .int (nI 6), .int (nI nl3)], iA G kln (3 * 6) fl3, oC kn 2 [.ref knn, .int (nI 8), .int (nI 0)], iA G knn (3 * 8) fs, oC kre 1 [.ref kbt, .ref kby, .int (nI 0), .int (nI nx3), .int (nI kd3), .int (nI sr3), .int vl3, .int fo3, .int pl3, .int (nI n3), .int ht3, .int lt3, .int ct3]] := hD
        refine lv_aload_n hx hb dX1_readTape_135 rfl (lv_at hl 0 rfl) ?_
        refine va_get (D := G.1) (ci := 1) (v := .int fo3) (C := RX1) (T := TX1) (N := 13) hx hb hts hin1 hown hK.1 hP 9 rfl rfl 7 (by decide) (hts (.fieldLink RX1 29 "BackLenses$Reader" "found" "I") (List.mem_of_getElem? (i := 2) rfl)) (fun _ h9 => h9) rfl dX1_readTape_136 ?_
        have hP := hP.sub (ws' := [oC kre 1 [.ref kbt, .ref kby, .int (nI 0), .int (nI nx3), .int (nI kd3), .int (nI sr3), .int vl3, .int fo3, .int pl3, .int (nI n3), .int ht3, .int lt3, .int ct3], oC kbt 0 [.int (nI w3), .int (nI h3), .int (nI la3), .ref ka, .ref kc, .ref kl, .ref kn], iA G ka 16 af3, oC kc 2 [.ref kcn, .int (nI 10), .int (nI nc3)], iA G kcn (3 * 10) fc3, oC kl 2 [.ref kln, .int (nI 6), .int (nI nl3)], iA G kln (3 * 6) fl3, oC kn 2 [.ref knn, .int (nI 8), .int (nI 0)], iA G knn (3 * 8) fs, bA G kby 160 tb]) [9, 1, 0, 3, 4, 5, 6, 7, 8, 2] rfl
        have hD := hD.sub (ws' := [oC kre 1 [.ref kbt, .ref kby, .int (nI 0), .int (nI nx3), .int (nI kd3), .int (nI sr3), .int vl3, .int fo3, .int pl3, .int (nI n3), .int ht3, .int lt3, .int ct3], oC kbt 0 [.int (nI w3), .int (nI h3), .int (nI la3), .ref ka, .ref kc, .ref kl, .ref kn], iA G ka 16 af3, oC kc 2 [.ref kcn, .int (nI 10), .int (nI nc3)], iA G kcn (3 * 10) fc3, oC kl 2 [.ref kln, .int (nI 6), .int (nI nl3)], iA G kln (3 * 6) fl3, oC kn 2 [.ref knn, .int (nI 8), .int (nI 0)], iA G knn (3 * 8) fs, bA G kby 160 tb]) [9, 1, 0, 3, 4, 5, 6, 7, 8, 2] (by decide) rfl
        refine W.iret (v := fo3) hx hb hr (fun t ht hW => ⟨⟨fo3, (nx3, kd3, sr3, vl3, fo3, pl3, ht3, lt3, ct3, w3, h3, la3, af3, nc3, fc3, nl3, fl3, n3, af2_39, fo3, pl3), rfl, ?_, by rw [ht]; exact hP, hD⟩, hS.F ht⟩) hS.2.2 dX1_readTape_139
        try dsimp only
        first | exact ⟨rfl, he39, hE.symm, (if_neg (fun q => b109 q.1)).symm⟩ | exact ⟨rfl, he39, hE.symm, (if_neg (fun q => q.2 b116)).symm⟩ | exact ⟨rfl, he39, hE.symm, (if_pos ⟨b109, b116⟩).symm⟩
      · skip
        refine lv_aload_n hx hb dX1_readTape_112 rfl (lv_at hl 0 rfl) ?_
        refine xr_i (As := []) (rest := []) ⟨hx, hb, hml, hown, hts⟩ (c_X1_allIsThere l G kre kbt kby rl nx3 kd3 sr3 vl3 fo3 pl3 (nI n3) ht3 lt3 ct3 ka kc kl kn w3 h3 la3 kcn kln nc3 nl3 fc3 fl3 (by first | assumption | omega) (by first | assumption | omega) (by first | assumption | omega) (by first | assumption | omega)) (cwV 0 hts gX1_readTape_X1_allIsThere rfl rfl rfl (by decide +kernel) ⟨Nat.le_of_ble_eq_true rfl, Nat.le_of_ble_eq_true rfl⟩) hK hP hS [9, 1, 3, 4, 5, 6] rfl rfl rfl rfl hl.1 rfl (Nat.le_of_ble_eq_true rfl) dX1_readTape_113 ⟨Nat.zero_le _, Nat.zero_le _⟩ (fun r113 H locs hp113 hP hS => ?_)
        rw [show r113 = _ from hp113]
        refine xb_if_ne (tgt := 130) hx hb dX1_readTape_116 rfl (fun b116 => ?_) (fun b116 => ?_)
        · skip
          refine lv_aload_n hx hb dX1_readTape_130 rfl (lv_at hl 0 rfl) ?_
          refine lv_iconst (v := nI 0) hx hb dX1_readTape_131 (by decide) ?_
          refine va_put (D := G.1) (ci := 1) (v := .int (nI 0)) (ty := .int) (C := RX1) (T := TX1) (N := 13) hx hb hts hin1 tyX1 tyX1_ok nmX1 hown hK.1 hP hD hS 9 rfl rfl 2 (by decide) (hts (.fieldLink RX1 22 "BackLenses$Reader" "length" "I") (List.mem_of_getElem? (i := 9) rfl)) (fun _ h9 => h9) rfl (by decide +kernel) rfl rfl (Nat.le_of_ble_eq_true rfl) dX1_readTape_132 (fun H locs hP hD hS => ?_)
          replace hP : xP G [iA G ka 16 af3, oC kbt 0 [.int (nI w3), .int (nI h3), .int (nI la3), .ref ka, .ref kc, .ref kl, .ref kn], bA G kby 160 tb, oC kc 2 [.ref kcn, .int (nI 10), .int (nI nc3)], iA G kcn (3 * 10) fc3, oC kl 2 [.ref kln, .int (nI 6), .int (nI nl3)], iA G kln (3 * 6) fl3, oC kn 2 [.ref knn, .int (nI 8), .int (nI 0)], iA G knn (3 * 8) fs, oC kre 1 [.ref kbt, .ref kby, .int (nI 0), .int (nI nx3), .int (nI kd3), .int (nI sr3), .int vl3, .int fo3, .int pl3, .int (nI n3), .int ht3, .int lt3, .int ct3]] H := hP
          replace hD : va_D (va_A (w_X1_readTape G kre kbt kby rl kd sr nx0 vl fo pl li hto lto ct ka kc kl kn w h la kcn kln knn nc nl ns af fc fl fs tb) ss.heap.size) [iA G ka 16 af3, oC kbt 0 [.int (nI w3), .int (nI h3), .int (nI la3), .ref ka, .ref kc, .ref kl, .ref kn], bA G kby 160 tb, oC kc 2 [.ref kcn, .int (nI 10), .int (nI nc3)], iA G kcn (3 * 10) fc3, oC kl 2 [.ref kln, .int (nI 6), .int (nI nl3)], iA G kln (3 * 6) fl3, oC kn 2 [.ref knn, .int (nI 8), .int (nI 0)], iA G knn (3 * 8) fs, oC kre 1 [.ref kbt, .ref kby, .int (nI 0), .int (nI nx3), .int (nI kd3), .int (nI sr3), .int vl3, .int fo3, .int pl3, .int (nI n3), .int ht3, .int lt3, .int ct3]] := hD
          refine lv_aload_n hx hb dX1_readTape_135 rfl (lv_at hl 0 rfl) ?_
          refine va_get (D := G.1) (ci := 1) (v := .int fo3) (C := RX1) (T := TX1) (N := 13) hx hb hts hin1 hown hK.1 hP 9 rfl rfl 7 (by decide) (hts (.fieldLink RX1 29 "BackLenses$Reader" "found" "I") (List.mem_of_getElem? (i := 2) rfl)) (fun _ h9 => h9) rfl dX1_readTape_136 ?_
          have hP := hP.sub (ws' := [oC kre 1 [.ref kbt, .ref kby, .int (nI 0), .int (nI nx3), .int (nI kd3), .int (nI sr3), .int vl3, .int fo3, .int pl3, .int (nI n3), .int ht3, .int lt3, .int ct3], oC kbt 0 [.int (nI w3), .int (nI h3), .int (nI la3), .ref ka, .ref kc, .ref kl, .ref kn], iA G ka 16 af3, oC kc 2 [.ref kcn, .int (nI 10), .int (nI nc3)], iA G kcn (3 * 10) fc3, oC kl 2 [.ref kln, .int (nI 6), .int (nI nl3)], iA G kln (3 * 6) fl3, oC kn 2 [.ref knn, .int (nI 8), .int (nI 0)], iA G knn (3 * 8) fs, bA G kby 160 tb]) [9, 1, 0, 3, 4, 5, 6, 7, 8, 2] rfl
          have hD := hD.sub (ws' := [oC kre 1 [.ref kbt, .ref kby, .int (nI 0), .int (nI nx3), .int (nI kd3), .int (nI sr3), .int vl3, .int fo3, .int pl3, .int (nI n3), .int ht3, .int lt3, .int ct3], oC kbt 0 [.int (nI w3), .int (nI h3), .int (nI la3), .ref ka, .ref kc, .ref kl, .ref kn], iA G ka 16 af3, oC kc 2 [.ref kcn, .int (nI 10), .int (nI nc3)], iA G kcn (3 * 10) fc3, oC kl 2 [.ref kln, .int (nI 6), .int (nI nl3)], iA G kln (3 * 6) fl3, oC kn 2 [.ref knn, .int (nI 8), .int (nI 0)], iA G knn (3 * 8) fs, bA G kby 160 tb]) [9, 1, 0, 3, 4, 5, 6, 7, 8, 2] (by decide) rfl
          refine W.iret (v := fo3) hx hb hr (fun t ht hW => ⟨⟨fo3, (nx3, kd3, sr3, vl3, fo3, pl3, ht3, lt3, ct3, w3, h3, la3, af3, nc3, fc3, nl3, fl3, n3, af2_39, fo3, pl3), rfl, ?_, by rw [ht]; exact hP, hD⟩, hS.F ht⟩) hS.2.2 dX1_readTape_139
          try dsimp only
          first | exact ⟨rfl, he39, hE.symm, (if_neg (fun q => b109 q.1)).symm⟩ | exact ⟨rfl, he39, hE.symm, (if_neg (fun q => q.2 b116)).symm⟩ | exact ⟨rfl, he39, hE.symm, (if_pos ⟨b109, b116⟩).symm⟩
        · skip
          refine lv_aload_n hx hb dX1_readTape_119 rfl (lv_at hl 0 rfl) ?_
          refine lv_bipush (v := nI 6) hx hb dX1_readTape_120 (by decide) ?_
          refine lv_aload_n hx hb dX1_readTape_122 rfl (lv_at hl 0 rfl) ?_
          refine va_get (D := G.1) (ci := 1) (v := .int (nI rl)) (C := RX1) (T := TX1) (N := 13) hx hb hts hin1 hown hK.1 hP 9 rfl rfl 2 (by decide) (hts (.fieldLink RX1 22 "BackLenses$Reader" "length" "I") (List.mem_of_getElem? (i := 9) rfl)) (fun _ h9 => h9) rfl dX1_readTape_123 ?_
          refine xw_i (As := [.int (nI 6), .int (nI rl)]) (rest := []) (wr := [iA G ka 16 af3, oC kbt 0 [.int (nI w3), .int (nI h3), .int (nI la3), .ref ka, .ref kc, .ref kl, .ref kn], bA G kby 160 tb, oC kc 2 [.ref kcn, .int (nI 10), .int (nI nc3)], iA G kcn (3 * 10) fc3, oC kl 2 [.ref kln, .int (nI 6), .int (nI nl3)], iA G kln (3 * 6) fl3, oC kn 2 [.ref knn, .int (nI 8), .int (nI 0)], iA G knn (3 * 8) fs]) ⟨hx, hb, hml, hown, hts⟩ (c_X1_refuse l G H.size kre kbt kby rl nx3 kd3 sr3 vl3 fo3 pl3 (nI n3) ht3 lt3 ct3 (nI 6) (nI rl) ) (cwV 2 hts gX1_readTape_X1_refuse rfl rfl rfl (by decide +kernel) ⟨Nat.le_of_ble_eq_true rfl, Nat.le_of_ble_eq_true rfl⟩) hK hP hD hS hA [9] [0, 1, 2, 3, 4, 5, 6, 7, 8] rfl rfl (by decide) (by decide) (by decide) rfl rfl rfl hl.1 rfl (Nat.le_of_ble_eq_true rfl) dX1_readTape_126 ⟨Nat.le_of_ble_eq_true rfl, Nat.le_of_ble_eq_true rfl⟩ (fun r126 u H locs hp126 hP hD hS => ?_)
          obtain rfl := hp126
          replace hP : xP G [iA G ka 16 af3, oC kbt 0 [.int (nI w3), .int (nI h3), .int (nI la3), .ref ka, .ref kc, .ref kl, .ref kn], bA G kby 160 tb, oC kc 2 [.ref kcn, .int (nI 10), .int (nI nc3)], iA G kcn (3 * 10) fc3, oC kl 2 [.ref kln, .int (nI 6), .int (nI nl3)], iA G kln (3 * 6) fl3, oC kn 2 [.ref knn, .int (nI 8), .int (nI 0)], iA G knn (3 * 8) fs, oC kre 1 [.ref kbt, .ref kby, .int (nI rl), .int (nI nx3), .int (nI kd3), .int (nI sr3), .int vl3, .int (nI 6), .int (nI rl), .int (nI n3), .int ht3, .int lt3, .int ct3]] H := hP
          replace hD : va_D (va_A (w_X1_readTape G kre kbt kby rl kd sr nx0 vl fo pl li hto lto ct ka kc kl kn w h la kcn kln knn nc nl ns af fc fl fs tb) ss.heap.size) [iA G ka 16 af3, oC kbt 0 [.int (nI w3), .int (nI h3), .int (nI la3), .ref ka, .ref kc, .ref kl, .ref kn], bA G kby 160 tb, oC kc 2 [.ref kcn, .int (nI 10), .int (nI nc3)], iA G kcn (3 * 10) fc3, oC kl 2 [.ref kln, .int (nI 6), .int (nI nl3)], iA G kln (3 * 6) fl3, oC kn 2 [.ref knn, .int (nI 8), .int (nI 0)], iA G knn (3 * 8) fs, oC kre 1 [.ref kbt, .ref kby, .int (nI rl), .int (nI nx3), .int (nI kd3), .int (nI sr3), .int vl3, .int (nI 6), .int (nI rl), .int (nI n3), .int ht3, .int lt3, .int ct3]] := hD
          refine lv_pop hx hb dX1_readTape_129 rfl ?_
          refine lv_aload_n hx hb dX1_readTape_130 rfl (lv_at hl 0 rfl) ?_
          refine lv_iconst (v := nI 0) hx hb dX1_readTape_131 (by decide) ?_
          refine va_put (D := G.1) (ci := 1) (v := .int (nI 0)) (ty := .int) (C := RX1) (T := TX1) (N := 13) hx hb hts hin1 tyX1 tyX1_ok nmX1 hown hK.1 hP hD hS 9 rfl rfl 2 (by decide) (hts (.fieldLink RX1 22 "BackLenses$Reader" "length" "I") (List.mem_of_getElem? (i := 9) rfl)) (fun _ h9 => h9) rfl (by decide +kernel) rfl rfl (Nat.le_of_ble_eq_true rfl) dX1_readTape_132 (fun H locs hP hD hS => ?_)
          replace hP : xP G [iA G ka 16 af3, oC kbt 0 [.int (nI w3), .int (nI h3), .int (nI la3), .ref ka, .ref kc, .ref kl, .ref kn], bA G kby 160 tb, oC kc 2 [.ref kcn, .int (nI 10), .int (nI nc3)], iA G kcn (3 * 10) fc3, oC kl 2 [.ref kln, .int (nI 6), .int (nI nl3)], iA G kln (3 * 6) fl3, oC kn 2 [.ref knn, .int (nI 8), .int (nI 0)], iA G knn (3 * 8) fs, oC kre 1 [.ref kbt, .ref kby, .int (nI 0), .int (nI nx3), .int (nI kd3), .int (nI sr3), .int vl3, .int (nI 6), .int (nI rl), .int (nI n3), .int ht3, .int lt3, .int ct3]] H := hP
          replace hD : va_D (va_A (w_X1_readTape G kre kbt kby rl kd sr nx0 vl fo pl li hto lto ct ka kc kl kn w h la kcn kln knn nc nl ns af fc fl fs tb) ss.heap.size) [iA G ka 16 af3, oC kbt 0 [.int (nI w3), .int (nI h3), .int (nI la3), .ref ka, .ref kc, .ref kl, .ref kn], bA G kby 160 tb, oC kc 2 [.ref kcn, .int (nI 10), .int (nI nc3)], iA G kcn (3 * 10) fc3, oC kl 2 [.ref kln, .int (nI 6), .int (nI nl3)], iA G kln (3 * 6) fl3, oC kn 2 [.ref knn, .int (nI 8), .int (nI 0)], iA G knn (3 * 8) fs, oC kre 1 [.ref kbt, .ref kby, .int (nI 0), .int (nI nx3), .int (nI kd3), .int (nI sr3), .int vl3, .int (nI 6), .int (nI rl), .int (nI n3), .int ht3, .int lt3, .int ct3]] := hD
          refine lv_aload_n hx hb dX1_readTape_135 rfl (lv_at hl 0 rfl) ?_
          refine va_get (D := G.1) (ci := 1) (v := .int (nI 6)) (C := RX1) (T := TX1) (N := 13) hx hb hts hin1 hown hK.1 hP 9 rfl rfl 7 (by decide) (hts (.fieldLink RX1 29 "BackLenses$Reader" "found" "I") (List.mem_of_getElem? (i := 2) rfl)) (fun _ h9 => h9) rfl dX1_readTape_136 ?_
          have hP := hP.sub (ws' := [oC kre 1 [.ref kbt, .ref kby, .int (nI 0), .int (nI nx3), .int (nI kd3), .int (nI sr3), .int vl3, .int (nI 6), .int (nI rl), .int (nI n3), .int ht3, .int lt3, .int ct3], oC kbt 0 [.int (nI w3), .int (nI h3), .int (nI la3), .ref ka, .ref kc, .ref kl, .ref kn], iA G ka 16 af3, oC kc 2 [.ref kcn, .int (nI 10), .int (nI nc3)], iA G kcn (3 * 10) fc3, oC kl 2 [.ref kln, .int (nI 6), .int (nI nl3)], iA G kln (3 * 6) fl3, oC kn 2 [.ref knn, .int (nI 8), .int (nI 0)], iA G knn (3 * 8) fs, bA G kby 160 tb]) [9, 1, 0, 3, 4, 5, 6, 7, 8, 2] rfl
          have hD := hD.sub (ws' := [oC kre 1 [.ref kbt, .ref kby, .int (nI 0), .int (nI nx3), .int (nI kd3), .int (nI sr3), .int vl3, .int (nI 6), .int (nI rl), .int (nI n3), .int ht3, .int lt3, .int ct3], oC kbt 0 [.int (nI w3), .int (nI h3), .int (nI la3), .ref ka, .ref kc, .ref kl, .ref kn], iA G ka 16 af3, oC kc 2 [.ref kcn, .int (nI 10), .int (nI nc3)], iA G kcn (3 * 10) fc3, oC kl 2 [.ref kln, .int (nI 6), .int (nI nl3)], iA G kln (3 * 6) fl3, oC kn 2 [.ref knn, .int (nI 8), .int (nI 0)], iA G knn (3 * 8) fs, bA G kby 160 tb]) [9, 1, 0, 3, 4, 5, 6, 7, 8, 2] (by decide) rfl
          refine W.iret (v := nI 6) hx hb hr (fun t ht hW => ⟨⟨nI 6, (nx3, kd3, sr3, vl3, nI 6, nI rl, ht3, lt3, ct3, w3, h3, la3, af3, nc3, fc3, nl3, fl3, n3, af2_39, fo3, pl3), rfl, ?_, by rw [ht]; exact hP, hD⟩, hS.F ht⟩) hS.2.2 dX1_readTape_139
          try dsimp only
          first | exact ⟨rfl, he39, hE.symm, (if_neg (fun q => b109 q.1)).symm⟩ | exact ⟨rfl, he39, hE.symm, (if_neg (fun q => q.2 b116)).symm⟩ | exact ⟨rfl, he39, hE.symm, (if_pos ⟨b109, b116⟩).symm⟩
    · skip
      refine lv_iload_n hx hb dX1_readTape_54 rfl (lv_at hl 1 rfl) ?_
      refine xn_if_eq (tgt := 105) hx hb (by omega) dX1_readTape_55 rfl (fun b55 => ?_) (fun b55 => ?_)
      · skip
        have hE : fLp tb rl (rl + 1) (ps0 kd sr vl af2_39 fc fl) 0 = (((nx3, kd3, sr3, vl3, fo3, pl3), (ht3, lt3, ct3), (w3, h3, la3), af3, (nc3, fc3), (nl3, fl3)), n3) := (by rw [hF]; exact if_neg (by omega))
        refine lv_aload_n hx hb dX1_readTape_105 rfl (lv_at hl 0 rfl) ?_
        refine va_get (D := G.1) (ci := 1) (v := .int fo3) (C := RX1) (T := TX1) (N := 13) hx hb hts hin1 hown hK.1 hP 9 rfl rfl 7 (by decide) (hts (.fieldLink RX1 29 "BackLenses$Reader" "found" "I") (List.mem_of_getElem? (i := 2) rfl)) (fun _ h9 => h9) rfl dX1_readTape_106 ?_
        refine lv_if_ne (tgt := 130) hx hb dX1_readTape_109 rfl (fun b109 => ?_) (fun b109 => ?_)
        · skip
          refine lv_aload_n hx hb dX1_readTape_130 rfl (lv_at hl 0 rfl) ?_
          refine lv_iconst (v := nI 0) hx hb dX1_readTape_131 (by decide) ?_
          refine va_put (D := G.1) (ci := 1) (v := .int (nI 0)) (ty := .int) (C := RX1) (T := TX1) (N := 13) hx hb hts hin1 tyX1 tyX1_ok nmX1 hown hK.1 hP hD hS 9 rfl rfl 2 (by decide) (hts (.fieldLink RX1 22 "BackLenses$Reader" "length" "I") (List.mem_of_getElem? (i := 9) rfl)) (fun _ h9 => h9) rfl (by decide +kernel) rfl rfl (Nat.le_of_ble_eq_true rfl) dX1_readTape_132 (fun H locs hP hD hS => ?_)
          replace hP : xP G [iA G ka 16 af3, oC kbt 0 [.int (nI w3), .int (nI h3), .int (nI la3), .ref ka, .ref kc, .ref kl, .ref kn], bA G kby 160 tb, oC kc 2 [.ref kcn, .int (nI 10), .int (nI nc3)], iA G kcn (3 * 10) fc3, oC kl 2 [.ref kln, .int (nI 6), .int (nI nl3)], iA G kln (3 * 6) fl3, oC kn 2 [.ref knn, .int (nI 8), .int (nI 0)], iA G knn (3 * 8) fs, oC kre 1 [.ref kbt, .ref kby, .int (nI 0), .int (nI nx3), .int (nI kd3), .int (nI sr3), .int vl3, .int fo3, .int pl3, .int (nI n3), .int ht3, .int lt3, .int ct3]] H := hP
          replace hD : va_D (va_A (w_X1_readTape G kre kbt kby rl kd sr nx0 vl fo pl li hto lto ct ka kc kl kn w h la kcn kln knn nc nl ns af fc fl fs tb) ss.heap.size) [iA G ka 16 af3, oC kbt 0 [.int (nI w3), .int (nI h3), .int (nI la3), .ref ka, .ref kc, .ref kl, .ref kn], bA G kby 160 tb, oC kc 2 [.ref kcn, .int (nI 10), .int (nI nc3)], iA G kcn (3 * 10) fc3, oC kl 2 [.ref kln, .int (nI 6), .int (nI nl3)], iA G kln (3 * 6) fl3, oC kn 2 [.ref knn, .int (nI 8), .int (nI 0)], iA G knn (3 * 8) fs, oC kre 1 [.ref kbt, .ref kby, .int (nI 0), .int (nI nx3), .int (nI kd3), .int (nI sr3), .int vl3, .int fo3, .int pl3, .int (nI n3), .int ht3, .int lt3, .int ct3]] := hD
          refine lv_aload_n hx hb dX1_readTape_135 rfl (lv_at hl 0 rfl) ?_
          refine va_get (D := G.1) (ci := 1) (v := .int fo3) (C := RX1) (T := TX1) (N := 13) hx hb hts hin1 hown hK.1 hP 9 rfl rfl 7 (by decide) (hts (.fieldLink RX1 29 "BackLenses$Reader" "found" "I") (List.mem_of_getElem? (i := 2) rfl)) (fun _ h9 => h9) rfl dX1_readTape_136 ?_
          have hP := hP.sub (ws' := [oC kre 1 [.ref kbt, .ref kby, .int (nI 0), .int (nI nx3), .int (nI kd3), .int (nI sr3), .int vl3, .int fo3, .int pl3, .int (nI n3), .int ht3, .int lt3, .int ct3], oC kbt 0 [.int (nI w3), .int (nI h3), .int (nI la3), .ref ka, .ref kc, .ref kl, .ref kn], iA G ka 16 af3, oC kc 2 [.ref kcn, .int (nI 10), .int (nI nc3)], iA G kcn (3 * 10) fc3, oC kl 2 [.ref kln, .int (nI 6), .int (nI nl3)], iA G kln (3 * 6) fl3, oC kn 2 [.ref knn, .int (nI 8), .int (nI 0)], iA G knn (3 * 8) fs, bA G kby 160 tb]) [9, 1, 0, 3, 4, 5, 6, 7, 8, 2] rfl
          have hD := hD.sub (ws' := [oC kre 1 [.ref kbt, .ref kby, .int (nI 0), .int (nI nx3), .int (nI kd3), .int (nI sr3), .int vl3, .int fo3, .int pl3, .int (nI n3), .int ht3, .int lt3, .int ct3], oC kbt 0 [.int (nI w3), .int (nI h3), .int (nI la3), .ref ka, .ref kc, .ref kl, .ref kn], iA G ka 16 af3, oC kc 2 [.ref kcn, .int (nI 10), .int (nI nc3)], iA G kcn (3 * 10) fc3, oC kl 2 [.ref kln, .int (nI 6), .int (nI nl3)], iA G kln (3 * 6) fl3, oC kn 2 [.ref knn, .int (nI 8), .int (nI 0)], iA G knn (3 * 8) fs, bA G kby 160 tb]) [9, 1, 0, 3, 4, 5, 6, 7, 8, 2] (by decide) rfl
          refine W.iret (v := fo3) hx hb hr (fun t ht hW => ⟨⟨fo3, (nx3, kd3, sr3, vl3, fo3, pl3, ht3, lt3, ct3, w3, h3, la3, af3, nc3, fc3, nl3, fl3, n3, af2_39, fo3, pl3), rfl, ?_, by rw [ht]; exact hP, hD⟩, hS.F ht⟩) hS.2.2 dX1_readTape_139
          try dsimp only
          first | exact ⟨rfl, he39, hE.symm, (if_neg (fun q => b109 q.1)).symm⟩ | exact ⟨rfl, he39, hE.symm, (if_neg (fun q => q.2 b116)).symm⟩ | exact ⟨rfl, he39, hE.symm, (if_pos ⟨b109, b116⟩).symm⟩
        · skip
          refine lv_aload_n hx hb dX1_readTape_112 rfl (lv_at hl 0 rfl) ?_
          refine xr_i (As := []) (rest := []) ⟨hx, hb, hml, hown, hts⟩ (c_X1_allIsThere l G kre kbt kby rl nx3 kd3 sr3 vl3 fo3 pl3 (nI n3) ht3 lt3 ct3 ka kc kl kn w3 h3 la3 kcn kln nc3 nl3 fc3 fl3 (by first | assumption | omega) (by first | assumption | omega) (by first | assumption | omega) (by first | assumption | omega)) (cwV 0 hts gX1_readTape_X1_allIsThere rfl rfl rfl (by decide +kernel) ⟨Nat.le_of_ble_eq_true rfl, Nat.le_of_ble_eq_true rfl⟩) hK hP hS [9, 1, 3, 4, 5, 6] rfl rfl rfl rfl hl.1 rfl (Nat.le_of_ble_eq_true rfl) dX1_readTape_113 ⟨Nat.zero_le _, Nat.zero_le _⟩ (fun r113 H locs hp113 hP hS => ?_)
          rw [show r113 = _ from hp113]
          refine xb_if_ne (tgt := 130) hx hb dX1_readTape_116 rfl (fun b116 => ?_) (fun b116 => ?_)
          · skip
            refine lv_aload_n hx hb dX1_readTape_130 rfl (lv_at hl 0 rfl) ?_
            refine lv_iconst (v := nI 0) hx hb dX1_readTape_131 (by decide) ?_
            refine va_put (D := G.1) (ci := 1) (v := .int (nI 0)) (ty := .int) (C := RX1) (T := TX1) (N := 13) hx hb hts hin1 tyX1 tyX1_ok nmX1 hown hK.1 hP hD hS 9 rfl rfl 2 (by decide) (hts (.fieldLink RX1 22 "BackLenses$Reader" "length" "I") (List.mem_of_getElem? (i := 9) rfl)) (fun _ h9 => h9) rfl (by decide +kernel) rfl rfl (Nat.le_of_ble_eq_true rfl) dX1_readTape_132 (fun H locs hP hD hS => ?_)
            replace hP : xP G [iA G ka 16 af3, oC kbt 0 [.int (nI w3), .int (nI h3), .int (nI la3), .ref ka, .ref kc, .ref kl, .ref kn], bA G kby 160 tb, oC kc 2 [.ref kcn, .int (nI 10), .int (nI nc3)], iA G kcn (3 * 10) fc3, oC kl 2 [.ref kln, .int (nI 6), .int (nI nl3)], iA G kln (3 * 6) fl3, oC kn 2 [.ref knn, .int (nI 8), .int (nI 0)], iA G knn (3 * 8) fs, oC kre 1 [.ref kbt, .ref kby, .int (nI 0), .int (nI nx3), .int (nI kd3), .int (nI sr3), .int vl3, .int fo3, .int pl3, .int (nI n3), .int ht3, .int lt3, .int ct3]] H := hP
            replace hD : va_D (va_A (w_X1_readTape G kre kbt kby rl kd sr nx0 vl fo pl li hto lto ct ka kc kl kn w h la kcn kln knn nc nl ns af fc fl fs tb) ss.heap.size) [iA G ka 16 af3, oC kbt 0 [.int (nI w3), .int (nI h3), .int (nI la3), .ref ka, .ref kc, .ref kl, .ref kn], bA G kby 160 tb, oC kc 2 [.ref kcn, .int (nI 10), .int (nI nc3)], iA G kcn (3 * 10) fc3, oC kl 2 [.ref kln, .int (nI 6), .int (nI nl3)], iA G kln (3 * 6) fl3, oC kn 2 [.ref knn, .int (nI 8), .int (nI 0)], iA G knn (3 * 8) fs, oC kre 1 [.ref kbt, .ref kby, .int (nI 0), .int (nI nx3), .int (nI kd3), .int (nI sr3), .int vl3, .int fo3, .int pl3, .int (nI n3), .int ht3, .int lt3, .int ct3]] := hD
            refine lv_aload_n hx hb dX1_readTape_135 rfl (lv_at hl 0 rfl) ?_
            refine va_get (D := G.1) (ci := 1) (v := .int fo3) (C := RX1) (T := TX1) (N := 13) hx hb hts hin1 hown hK.1 hP 9 rfl rfl 7 (by decide) (hts (.fieldLink RX1 29 "BackLenses$Reader" "found" "I") (List.mem_of_getElem? (i := 2) rfl)) (fun _ h9 => h9) rfl dX1_readTape_136 ?_
            have hP := hP.sub (ws' := [oC kre 1 [.ref kbt, .ref kby, .int (nI 0), .int (nI nx3), .int (nI kd3), .int (nI sr3), .int vl3, .int fo3, .int pl3, .int (nI n3), .int ht3, .int lt3, .int ct3], oC kbt 0 [.int (nI w3), .int (nI h3), .int (nI la3), .ref ka, .ref kc, .ref kl, .ref kn], iA G ka 16 af3, oC kc 2 [.ref kcn, .int (nI 10), .int (nI nc3)], iA G kcn (3 * 10) fc3, oC kl 2 [.ref kln, .int (nI 6), .int (nI nl3)], iA G kln (3 * 6) fl3, oC kn 2 [.ref knn, .int (nI 8), .int (nI 0)], iA G knn (3 * 8) fs, bA G kby 160 tb]) [9, 1, 0, 3, 4, 5, 6, 7, 8, 2] rfl
            have hD := hD.sub (ws' := [oC kre 1 [.ref kbt, .ref kby, .int (nI 0), .int (nI nx3), .int (nI kd3), .int (nI sr3), .int vl3, .int fo3, .int pl3, .int (nI n3), .int ht3, .int lt3, .int ct3], oC kbt 0 [.int (nI w3), .int (nI h3), .int (nI la3), .ref ka, .ref kc, .ref kl, .ref kn], iA G ka 16 af3, oC kc 2 [.ref kcn, .int (nI 10), .int (nI nc3)], iA G kcn (3 * 10) fc3, oC kl 2 [.ref kln, .int (nI 6), .int (nI nl3)], iA G kln (3 * 6) fl3, oC kn 2 [.ref knn, .int (nI 8), .int (nI 0)], iA G knn (3 * 8) fs, bA G kby 160 tb]) [9, 1, 0, 3, 4, 5, 6, 7, 8, 2] (by decide) rfl
            refine W.iret (v := fo3) hx hb hr (fun t ht hW => ⟨⟨fo3, (nx3, kd3, sr3, vl3, fo3, pl3, ht3, lt3, ct3, w3, h3, la3, af3, nc3, fc3, nl3, fl3, n3, af2_39, fo3, pl3), rfl, ?_, by rw [ht]; exact hP, hD⟩, hS.F ht⟩) hS.2.2 dX1_readTape_139
            try dsimp only
            first | exact ⟨rfl, he39, hE.symm, (if_neg (fun q => b109 q.1)).symm⟩ | exact ⟨rfl, he39, hE.symm, (if_neg (fun q => q.2 b116)).symm⟩ | exact ⟨rfl, he39, hE.symm, (if_pos ⟨b109, b116⟩).symm⟩
          · skip
            refine lv_aload_n hx hb dX1_readTape_119 rfl (lv_at hl 0 rfl) ?_
            refine lv_bipush (v := nI 6) hx hb dX1_readTape_120 (by decide) ?_
            refine lv_aload_n hx hb dX1_readTape_122 rfl (lv_at hl 0 rfl) ?_
            refine va_get (D := G.1) (ci := 1) (v := .int (nI rl)) (C := RX1) (T := TX1) (N := 13) hx hb hts hin1 hown hK.1 hP 9 rfl rfl 2 (by decide) (hts (.fieldLink RX1 22 "BackLenses$Reader" "length" "I") (List.mem_of_getElem? (i := 9) rfl)) (fun _ h9 => h9) rfl dX1_readTape_123 ?_
            refine xw_i (As := [.int (nI 6), .int (nI rl)]) (rest := []) (wr := [iA G ka 16 af3, oC kbt 0 [.int (nI w3), .int (nI h3), .int (nI la3), .ref ka, .ref kc, .ref kl, .ref kn], bA G kby 160 tb, oC kc 2 [.ref kcn, .int (nI 10), .int (nI nc3)], iA G kcn (3 * 10) fc3, oC kl 2 [.ref kln, .int (nI 6), .int (nI nl3)], iA G kln (3 * 6) fl3, oC kn 2 [.ref knn, .int (nI 8), .int (nI 0)], iA G knn (3 * 8) fs]) ⟨hx, hb, hml, hown, hts⟩ (c_X1_refuse l G H.size kre kbt kby rl nx3 kd3 sr3 vl3 fo3 pl3 (nI n3) ht3 lt3 ct3 (nI 6) (nI rl) ) (cwV 2 hts gX1_readTape_X1_refuse rfl rfl rfl (by decide +kernel) ⟨Nat.le_of_ble_eq_true rfl, Nat.le_of_ble_eq_true rfl⟩) hK hP hD hS hA [9] [0, 1, 2, 3, 4, 5, 6, 7, 8] rfl rfl (by decide) (by decide) (by decide) rfl rfl rfl hl.1 rfl (Nat.le_of_ble_eq_true rfl) dX1_readTape_126 ⟨Nat.le_of_ble_eq_true rfl, Nat.le_of_ble_eq_true rfl⟩ (fun r126 u H locs hp126 hP hD hS => ?_)
            obtain rfl := hp126
            replace hP : xP G [iA G ka 16 af3, oC kbt 0 [.int (nI w3), .int (nI h3), .int (nI la3), .ref ka, .ref kc, .ref kl, .ref kn], bA G kby 160 tb, oC kc 2 [.ref kcn, .int (nI 10), .int (nI nc3)], iA G kcn (3 * 10) fc3, oC kl 2 [.ref kln, .int (nI 6), .int (nI nl3)], iA G kln (3 * 6) fl3, oC kn 2 [.ref knn, .int (nI 8), .int (nI 0)], iA G knn (3 * 8) fs, oC kre 1 [.ref kbt, .ref kby, .int (nI rl), .int (nI nx3), .int (nI kd3), .int (nI sr3), .int vl3, .int (nI 6), .int (nI rl), .int (nI n3), .int ht3, .int lt3, .int ct3]] H := hP
            replace hD : va_D (va_A (w_X1_readTape G kre kbt kby rl kd sr nx0 vl fo pl li hto lto ct ka kc kl kn w h la kcn kln knn nc nl ns af fc fl fs tb) ss.heap.size) [iA G ka 16 af3, oC kbt 0 [.int (nI w3), .int (nI h3), .int (nI la3), .ref ka, .ref kc, .ref kl, .ref kn], bA G kby 160 tb, oC kc 2 [.ref kcn, .int (nI 10), .int (nI nc3)], iA G kcn (3 * 10) fc3, oC kl 2 [.ref kln, .int (nI 6), .int (nI nl3)], iA G kln (3 * 6) fl3, oC kn 2 [.ref knn, .int (nI 8), .int (nI 0)], iA G knn (3 * 8) fs, oC kre 1 [.ref kbt, .ref kby, .int (nI rl), .int (nI nx3), .int (nI kd3), .int (nI sr3), .int vl3, .int (nI 6), .int (nI rl), .int (nI n3), .int ht3, .int lt3, .int ct3]] := hD
            refine lv_pop hx hb dX1_readTape_129 rfl ?_
            refine lv_aload_n hx hb dX1_readTape_130 rfl (lv_at hl 0 rfl) ?_
            refine lv_iconst (v := nI 0) hx hb dX1_readTape_131 (by decide) ?_
            refine va_put (D := G.1) (ci := 1) (v := .int (nI 0)) (ty := .int) (C := RX1) (T := TX1) (N := 13) hx hb hts hin1 tyX1 tyX1_ok nmX1 hown hK.1 hP hD hS 9 rfl rfl 2 (by decide) (hts (.fieldLink RX1 22 "BackLenses$Reader" "length" "I") (List.mem_of_getElem? (i := 9) rfl)) (fun _ h9 => h9) rfl (by decide +kernel) rfl rfl (Nat.le_of_ble_eq_true rfl) dX1_readTape_132 (fun H locs hP hD hS => ?_)
            replace hP : xP G [iA G ka 16 af3, oC kbt 0 [.int (nI w3), .int (nI h3), .int (nI la3), .ref ka, .ref kc, .ref kl, .ref kn], bA G kby 160 tb, oC kc 2 [.ref kcn, .int (nI 10), .int (nI nc3)], iA G kcn (3 * 10) fc3, oC kl 2 [.ref kln, .int (nI 6), .int (nI nl3)], iA G kln (3 * 6) fl3, oC kn 2 [.ref knn, .int (nI 8), .int (nI 0)], iA G knn (3 * 8) fs, oC kre 1 [.ref kbt, .ref kby, .int (nI 0), .int (nI nx3), .int (nI kd3), .int (nI sr3), .int vl3, .int (nI 6), .int (nI rl), .int (nI n3), .int ht3, .int lt3, .int ct3]] H := hP
            replace hD : va_D (va_A (w_X1_readTape G kre kbt kby rl kd sr nx0 vl fo pl li hto lto ct ka kc kl kn w h la kcn kln knn nc nl ns af fc fl fs tb) ss.heap.size) [iA G ka 16 af3, oC kbt 0 [.int (nI w3), .int (nI h3), .int (nI la3), .ref ka, .ref kc, .ref kl, .ref kn], bA G kby 160 tb, oC kc 2 [.ref kcn, .int (nI 10), .int (nI nc3)], iA G kcn (3 * 10) fc3, oC kl 2 [.ref kln, .int (nI 6), .int (nI nl3)], iA G kln (3 * 6) fl3, oC kn 2 [.ref knn, .int (nI 8), .int (nI 0)], iA G knn (3 * 8) fs, oC kre 1 [.ref kbt, .ref kby, .int (nI 0), .int (nI nx3), .int (nI kd3), .int (nI sr3), .int vl3, .int (nI 6), .int (nI rl), .int (nI n3), .int ht3, .int lt3, .int ct3]] := hD
            refine lv_aload_n hx hb dX1_readTape_135 rfl (lv_at hl 0 rfl) ?_
            refine va_get (D := G.1) (ci := 1) (v := .int (nI 6)) (C := RX1) (T := TX1) (N := 13) hx hb hts hin1 hown hK.1 hP 9 rfl rfl 7 (by decide) (hts (.fieldLink RX1 29 "BackLenses$Reader" "found" "I") (List.mem_of_getElem? (i := 2) rfl)) (fun _ h9 => h9) rfl dX1_readTape_136 ?_
            have hP := hP.sub (ws' := [oC kre 1 [.ref kbt, .ref kby, .int (nI 0), .int (nI nx3), .int (nI kd3), .int (nI sr3), .int vl3, .int (nI 6), .int (nI rl), .int (nI n3), .int ht3, .int lt3, .int ct3], oC kbt 0 [.int (nI w3), .int (nI h3), .int (nI la3), .ref ka, .ref kc, .ref kl, .ref kn], iA G ka 16 af3, oC kc 2 [.ref kcn, .int (nI 10), .int (nI nc3)], iA G kcn (3 * 10) fc3, oC kl 2 [.ref kln, .int (nI 6), .int (nI nl3)], iA G kln (3 * 6) fl3, oC kn 2 [.ref knn, .int (nI 8), .int (nI 0)], iA G knn (3 * 8) fs, bA G kby 160 tb]) [9, 1, 0, 3, 4, 5, 6, 7, 8, 2] rfl
            have hD := hD.sub (ws' := [oC kre 1 [.ref kbt, .ref kby, .int (nI 0), .int (nI nx3), .int (nI kd3), .int (nI sr3), .int vl3, .int (nI 6), .int (nI rl), .int (nI n3), .int ht3, .int lt3, .int ct3], oC kbt 0 [.int (nI w3), .int (nI h3), .int (nI la3), .ref ka, .ref kc, .ref kl, .ref kn], iA G ka 16 af3, oC kc 2 [.ref kcn, .int (nI 10), .int (nI nc3)], iA G kcn (3 * 10) fc3, oC kl 2 [.ref kln, .int (nI 6), .int (nI nl3)], iA G kln (3 * 6) fl3, oC kn 2 [.ref knn, .int (nI 8), .int (nI 0)], iA G knn (3 * 8) fs, bA G kby 160 tb]) [9, 1, 0, 3, 4, 5, 6, 7, 8, 2] (by decide) rfl
            refine W.iret (v := nI 6) hx hb hr (fun t ht hW => ⟨⟨nI 6, (nx3, kd3, sr3, vl3, nI 6, nI rl, ht3, lt3, ct3, w3, h3, la3, af3, nc3, fc3, nl3, fl3, n3, af2_39, fo3, pl3), rfl, ?_, by rw [ht]; exact hP, hD⟩, hS.F ht⟩) hS.2.2 dX1_readTape_139
            try dsimp only
            first | exact ⟨rfl, he39, hE.symm, (if_neg (fun q => b109 q.1)).symm⟩ | exact ⟨rfl, he39, hE.symm, (if_neg (fun q => q.2 b116)).symm⟩ | exact ⟨rfl, he39, hE.symm, (if_pos ⟨b109, b116⟩).symm⟩
      · skip
        have hF1 := hF.trans (if_pos (by omega))
        refine lv_aload_n hx hb dX1_readTape_58 rfl (lv_at hl 0 rfl) ?_
        refine xw_i (As := []) (rest := []) (wr := [iA G ka 16 af3, oC kbt 0 [.int (nI w3), .int (nI h3), .int (nI la3), .ref ka, .ref kc, .ref kl, .ref kn], oC kc 2 [.ref kcn, .int (nI 10), .int (nI nc3)], iA G kcn (3 * 10) fc3, oC kl 2 [.ref kln, .int (nI 6), .int (nI nl3)], iA G kln (3 * 6) fl3, oC kn 2 [.ref knn, .int (nI 8), .int (nI 0)], iA G knn (3 * 8) fs]) ⟨hx, hb, hml, hown, hts⟩ (c_X1_takeToken_f l G H.size kre kbt kby rl nx3 kd3 sr3 vl3 fo3 pl3 (nI n3) ht3 lt3 ct3 tb (by first | assumption | omega) (by first | assumption | omega)) (cwV 0 hts gX1_readTape_X1_takeToken rfl rfl rfl (by decide +kernel) ⟨Nat.le_of_ble_eq_true rfl, Nat.le_of_ble_eq_true rfl⟩) hK hP hD hS hA [9, 2] [0, 1, 3, 4, 5, 6, 7, 8] rfl rfl (by decide) (by decide) (by decide) rfl rfl rfl hl.1 rfl (Nat.le_of_ble_eq_true rfl) dX1_readTape_59 ⟨Nat.le_of_ble_eq_true rfl, Nat.le_of_ble_eq_true rfl⟩ (fun r59 u H locs hp59 hP hD hS => ?_)
        obtain ⟨nx2_59, kd2_59, sr2_59, vl2_59, fo2_59, pl2_59⟩ := u
        try dsimp only at hp59 hP hD
        obtain ⟨rfl, he59⟩ := hp59
        replace hP : xP G [iA G ka 16 af3, oC kbt 0 [.int (nI w3), .int (nI h3), .int (nI la3), .ref ka, .ref kc, .ref kl, .ref kn], oC kc 2 [.ref kcn, .int (nI 10), .int (nI nc3)], iA G kcn (3 * 10) fc3, oC kl 2 [.ref kln, .int (nI 6), .int (nI nl3)], iA G kln (3 * 6) fl3, oC kn 2 [.ref knn, .int (nI 8), .int (nI 0)], iA G knn (3 * 8) fs, oC kre 1 [.ref kbt, .ref kby, .int (nI rl), .int (nI nx2_59), .int (nI kd2_59), .int (nI sr2_59), .int vl2_59, .int fo2_59, .int pl2_59, .int (nI n3), .int ht3, .int lt3, .int ct3], bA G kby 160 tb] H := hP
        replace hD : va_D (va_A (w_X1_readTape G kre kbt kby rl kd sr nx0 vl fo pl li hto lto ct ka kc kl kn w h la kcn kln knn nc nl ns af fc fl fs tb) ss.heap.size) [iA G ka 16 af3, oC kbt 0 [.int (nI w3), .int (nI h3), .int (nI la3), .ref ka, .ref kc, .ref kl, .ref kn], oC kc 2 [.ref kcn, .int (nI 10), .int (nI nc3)], iA G kcn (3 * 10) fc3, oC kl 2 [.ref kln, .int (nI 6), .int (nI nl3)], iA G kln (3 * 6) fl3, oC kn 2 [.ref knn, .int (nI 8), .int (nI 0)], iA G knn (3 * 8) fs, oC kre 1 [.ref kbt, .ref kby, .int (nI rl), .int (nI nx2_59), .int (nI kd2_59), .int (nI sr2_59), .int vl2_59, .int fo2_59, .int pl2_59, .int (nI n3), .int ht3, .int lt3, .int ct3], bA G kby 160 tb] := hD
        have hokT : psOk rl ((nx2_59, kd2_59, sr2_59, vl2_59, fo2_59, pl2_59), (ht3, lt3, ct3), (w3, h3, la3), af3, (nc3, fc3), (nl3, fl3)) := (by have q := fTok_bd (t := tb) (rl := rl) (s := (nx3, kd3, sr3, vl3, fo3, pl3)) hg5; rw [← he59] at q; exact ⟨q.1, hok.2⟩)
        have hn59 : nx2_59 ≤ rl := hokT.1
        have hs59 : sr2_59 ≤ nx2_59 := (by have q := fTok_sr (t := tb) (rl := rl) (s := (nx3, kd3, sr3, vl3, fo3, pl3)); rw [← he59] at q; exact q)
        have hk59 : kd2_59 ≤ 3 := (by have q := fTok_kd (t := tb) (rl := rl) (s := (nx3, kd3, sr3, vl3, fo3, pl3)); rw [← he59] at q; exact q)
        refine xb_if_eq (tgt := 83) hx hb dX1_readTape_62 rfl (fun b62 => ?_) (fun b62 => ?_)
        · skip
          refine lv_iconst (v := nI 0) hx hb dX1_readTape_83 (by decide) ?_
          refine lv_istore_n (lv' := [(1, .int (nI 0)), (0, .ref kre), (2, .int (nI i))]) hx hb dX1_readTape_84 rfl hl (by decide) rfl (fun ls hl => ?_)
          refine lv_iload_n hx hb dX1_readTape_85 rfl (lv_at hl 0 rfl) ?_
          refine xn_if_eq (tgt := 99) hx hb (by omega) dX1_readTape_86 rfl (fun _ => ?_) (fun b86 => absurd b86 (by omega))
          refine lv_iinc (k := 2) (v := nI (i + 1)) (lv' := [(2, .int (nI (i + 1))), (1, .int (nI 0)), (0, .ref kre)]) hx hb dX1_readTape_99 hl rfl (xn_inc i 1) (by decide) rfl (fun ls hl => ?_)
          refine lv_goto (tgt := 46) hx hb dX1_readTape_102 rfl ?_
          have hl := lv_sub hl (l' := [(0, .ref kre), (1, .int (nI 0)), (2, .int (nI (i + 1)))]) [2, 1, 0] rfl
          have hP := hP.sub (ws' := [iA G ka 16 af3, oC kbt 0 [.int (nI w3), .int (nI h3), .int (nI la3), .ref ka, .ref kc, .ref kl, .ref kn], bA G kby 160 tb, oC kc 2 [.ref kcn, .int (nI 10), .int (nI nc3)], iA G kcn (3 * 10) fc3, oC kl 2 [.ref kln, .int (nI 6), .int (nI nl3)], iA G kln (3 * 6) fl3, oC kn 2 [.ref knn, .int (nI 8), .int (nI 0)], iA G knn (3 * 8) fs, oC kre 1 [.ref kbt, .ref kby, .int (nI rl), .int (nI nx2_59), .int (nI kd2_59), .int (nI sr2_59), .int vl2_59, .int fo2_59, .int pl2_59, .int (nI n3), .int ht3, .int lt3, .int ct3]]) [0, 1, 9, 2, 3, 4, 5, 6, 7, 8] rfl
          have hD := hD.sub (ws' := [iA G ka 16 af3, oC kbt 0 [.int (nI w3), .int (nI h3), .int (nI la3), .ref ka, .ref kc, .ref kl, .ref kn], bA G kby 160 tb, oC kc 2 [.ref kcn, .int (nI 10), .int (nI nc3)], iA G kcn (3 * 10) fc3, oC kl 2 [.ref kln, .int (nI 6), .int (nI nl3)], iA G kln (3 * 6) fl3, oC kn 2 [.ref knn, .int (nI 8), .int (nI 0)], iA G knn (3 * 8) fs, oC kre 1 [.ref kbt, .ref kby, .int (nI rl), .int (nI nx2_59), .int (nI kd2_59), .int (nI sr2_59), .int vl2_59, .int fo2_59, .int pl2_59, .int (nI n3), .int ht3, .int lt3, .int ct3]]) [0, 1, 9, 2, 3, 4, 5, 6, 7, 8] (by decide) rfl
          exact ih46 (rl + 1 - (i + 1)) (by omega) 0 (i + 1) nx2_59 kd2_59 sr2_59 vl2_59 fo2_59 pl2_59 n3 ht3 lt3 ct3 w3 h3 la3 af3 nc3 fc3 nl3 fl3 ls H locs rfl (by omega) (by first | exact Or.inl rfl | exact Or.inr rfl) (by first | exact hokL | exact hokT) (by first | exact (hF1.trans ((congrArg (fun z => fLp tb rl z ((nx3, kd3, sr3, vl3, fo3, pl3), (ht3, lt3, ct3), (w3, h3, la3), af3, (nc3, fc3), (nl3, fl3)) n3) (show rl + 1 - i = (rl - i) + 1 by omega)).trans (fLp_0 (p := ((nx3, kd3, sr3, vl3, fo3, pl3), (ht3, lt3, ct3), (w3, h3, la3), af3, (nc3, fc3), (nl3, fl3))) (fun q => b62 q.1) he59))).trans (if_neg (by omega)).symm | exact (hF1.trans ((congrArg (fun z => fLp tb rl z ((nx3, kd3, sr3, vl3, fo3, pl3), (ht3, lt3, ct3), (w3, h3, la3), af3, (nc3, fc3), (nl3, fl3)) n3) (show rl + 1 - i = (rl - i) + 1 by omega)).trans (fLp_0 (p := ((nx3, kd3, sr3, vl3, fo3, pl3), (ht3, lt3, ct3), (w3, h3, la3), af3, (nc3, fc3), (nl3, fl3))) (fun q => q.2 (by rw [← he59]; exact b69)) he59))).trans (if_neg (by omega)).symm | exact (hF1.trans ((congrArg (fun z => fLp tb rl z ((nx3, kd3, sr3, vl3, fo3, pl3), (ht3, lt3, ct3), (w3, h3, la3), af3, (nc3, fc3), (nl3, fl3)) n3) (show rl + 1 - i = (rl - i) + 1 by omega)).trans (fLp_1 (p := ((nx3, kd3, sr3, vl3, fo3, pl3), (ht3, lt3, ct3), (w3, h3, la3), af3, (nc3, fc3), (nl3, fl3))) b62 he59 b69 b76 he73))).trans (if_neg (by omega)).symm | exact (hF1.trans ((congrArg (fun z => fLp tb rl z ((nx3, kd3, sr3, vl3, fo3, pl3), (ht3, lt3, ct3), (w3, h3, la3), af3, (nc3, fc3), (nl3, fl3)) n3) (show rl + 1 - i = (rl - i) + 1 by omega)).trans (fLp_2 (p := ((nx3, kd3, sr3, vl3, fo3, pl3), (ht3, lt3, ct3), (w3, h3, la3), af3, (nc3, fc3), (nl3, fl3))) b62 he59 b69 b76 he73))).trans ((if_pos rfl).trans (congrArg (fun z => fLp tb rl z ((nx2_73, kd2_73, sr2_73, vl2_73, fo2_73, pl2_73), (ht2_73, lt2_73, ct2_73), (w2_73, h2_73, la2_73), af2_73, (nc2_73, fc2_73), (nl2_73, fl2_73)) (n3 + 1)) (show rl + 1 - (i + 1) = rl - i by omega))).symm) hl hP hD hS
        · skip
          refine lv_aload_n hx hb dX1_readTape_65 rfl (lv_at hl 0 rfl) ?_
          refine va_get (D := G.1) (ci := 1) (v := .int (nI kd2_59)) (C := RX1) (T := TX1) (N := 13) hx hb hts hin1 hown hK.1 hP 8 rfl rfl 4 (by decide) (hts (.fieldLink RX1 55 "BackLenses$Reader" "kind" "I") (List.mem_of_getElem? (i := 10) rfl)) (fun _ h9 => h9) rfl dX1_readTape_66 ?_
          refine xn_if_eq (tgt := 83) hx hb (by omega) dX1_readTape_69 rfl (fun b69 => ?_) (fun b69 => ?_)
          · skip
            refine lv_iconst (v := nI 0) hx hb dX1_readTape_83 (by decide) ?_
            refine lv_istore_n (lv' := [(1, .int (nI 0)), (0, .ref kre), (2, .int (nI i))]) hx hb dX1_readTape_84 rfl hl (by decide) rfl (fun ls hl => ?_)
            refine lv_iload_n hx hb dX1_readTape_85 rfl (lv_at hl 0 rfl) ?_
            refine xn_if_eq (tgt := 99) hx hb (by omega) dX1_readTape_86 rfl (fun _ => ?_) (fun b86 => absurd b86 (by omega))
            refine lv_iinc (k := 2) (v := nI (i + 1)) (lv' := [(2, .int (nI (i + 1))), (1, .int (nI 0)), (0, .ref kre)]) hx hb dX1_readTape_99 hl rfl (xn_inc i 1) (by decide) rfl (fun ls hl => ?_)
            refine lv_goto (tgt := 46) hx hb dX1_readTape_102 rfl ?_
            have hl := lv_sub hl (l' := [(0, .ref kre), (1, .int (nI 0)), (2, .int (nI (i + 1)))]) [2, 1, 0] rfl
            have hP := hP.sub (ws' := [iA G ka 16 af3, oC kbt 0 [.int (nI w3), .int (nI h3), .int (nI la3), .ref ka, .ref kc, .ref kl, .ref kn], bA G kby 160 tb, oC kc 2 [.ref kcn, .int (nI 10), .int (nI nc3)], iA G kcn (3 * 10) fc3, oC kl 2 [.ref kln, .int (nI 6), .int (nI nl3)], iA G kln (3 * 6) fl3, oC kn 2 [.ref knn, .int (nI 8), .int (nI 0)], iA G knn (3 * 8) fs, oC kre 1 [.ref kbt, .ref kby, .int (nI rl), .int (nI nx2_59), .int (nI kd2_59), .int (nI sr2_59), .int vl2_59, .int fo2_59, .int pl2_59, .int (nI n3), .int ht3, .int lt3, .int ct3]]) [0, 1, 9, 2, 3, 4, 5, 6, 7, 8] rfl
            have hD := hD.sub (ws' := [iA G ka 16 af3, oC kbt 0 [.int (nI w3), .int (nI h3), .int (nI la3), .ref ka, .ref kc, .ref kl, .ref kn], bA G kby 160 tb, oC kc 2 [.ref kcn, .int (nI 10), .int (nI nc3)], iA G kcn (3 * 10) fc3, oC kl 2 [.ref kln, .int (nI 6), .int (nI nl3)], iA G kln (3 * 6) fl3, oC kn 2 [.ref knn, .int (nI 8), .int (nI 0)], iA G knn (3 * 8) fs, oC kre 1 [.ref kbt, .ref kby, .int (nI rl), .int (nI nx2_59), .int (nI kd2_59), .int (nI sr2_59), .int vl2_59, .int fo2_59, .int pl2_59, .int (nI n3), .int ht3, .int lt3, .int ct3]]) [0, 1, 9, 2, 3, 4, 5, 6, 7, 8] (by decide) rfl
            exact ih46 (rl + 1 - (i + 1)) (by omega) 0 (i + 1) nx2_59 kd2_59 sr2_59 vl2_59 fo2_59 pl2_59 n3 ht3 lt3 ct3 w3 h3 la3 af3 nc3 fc3 nl3 fl3 ls H locs rfl (by omega) (by first | exact Or.inl rfl | exact Or.inr rfl) (by first | exact hokL | exact hokT) (by first | exact (hF1.trans ((congrArg (fun z => fLp tb rl z ((nx3, kd3, sr3, vl3, fo3, pl3), (ht3, lt3, ct3), (w3, h3, la3), af3, (nc3, fc3), (nl3, fl3)) n3) (show rl + 1 - i = (rl - i) + 1 by omega)).trans (fLp_0 (p := ((nx3, kd3, sr3, vl3, fo3, pl3), (ht3, lt3, ct3), (w3, h3, la3), af3, (nc3, fc3), (nl3, fl3))) (fun q => b62 q.1) he59))).trans (if_neg (by omega)).symm | exact (hF1.trans ((congrArg (fun z => fLp tb rl z ((nx3, kd3, sr3, vl3, fo3, pl3), (ht3, lt3, ct3), (w3, h3, la3), af3, (nc3, fc3), (nl3, fl3)) n3) (show rl + 1 - i = (rl - i) + 1 by omega)).trans (fLp_0 (p := ((nx3, kd3, sr3, vl3, fo3, pl3), (ht3, lt3, ct3), (w3, h3, la3), af3, (nc3, fc3), (nl3, fl3))) (fun q => q.2 (by rw [← he59]; exact b69)) he59))).trans (if_neg (by omega)).symm | exact (hF1.trans ((congrArg (fun z => fLp tb rl z ((nx3, kd3, sr3, vl3, fo3, pl3), (ht3, lt3, ct3), (w3, h3, la3), af3, (nc3, fc3), (nl3, fl3)) n3) (show rl + 1 - i = (rl - i) + 1 by omega)).trans (fLp_1 (p := ((nx3, kd3, sr3, vl3, fo3, pl3), (ht3, lt3, ct3), (w3, h3, la3), af3, (nc3, fc3), (nl3, fl3))) b62 he59 b69 b76 he73))).trans (if_neg (by omega)).symm | exact (hF1.trans ((congrArg (fun z => fLp tb rl z ((nx3, kd3, sr3, vl3, fo3, pl3), (ht3, lt3, ct3), (w3, h3, la3), af3, (nc3, fc3), (nl3, fl3)) n3) (show rl + 1 - i = (rl - i) + 1 by omega)).trans (fLp_2 (p := ((nx3, kd3, sr3, vl3, fo3, pl3), (ht3, lt3, ct3), (w3, h3, la3), af3, (nc3, fc3), (nl3, fl3))) b62 he59 b69 b76 he73))).trans ((if_pos rfl).trans (congrArg (fun z => fLp tb rl z ((nx2_73, kd2_73, sr2_73, vl2_73, fo2_73, pl2_73), (ht2_73, lt2_73, ct2_73), (w2_73, h2_73, la2_73), af2_73, (nc2_73, fc2_73), (nl2_73, fl2_73)) (n3 + 1)) (show rl + 1 - (i + 1) = rl - i by omega))).symm) hl hP hD hS
          · skip
            refine lv_aload_n hx hb dX1_readTape_72 rfl (lv_at hl 0 rfl) ?_
            refine xzw_i (As := []) (rest := []) (wr := [oC kn 2 [.ref knn, .int (nI 8), .int (nI 0)], iA G knn (3 * 8) fs]) ⟨hx, hb, hml, hown, hts⟩ (c_X1_takeLine l G H.size ad kre kbt kby rl nx2_59 kd2_59 sr2_59 vl2_59 fo2_59 pl2_59 (nI n3) ht3 lt3 ct3 ka kc kl kn w3 h3 la3 kcn kln nc3 nl3 af3 fc3 fl3 tb (by first | assumption | omega) (by first | assumption | omega) (by first | assumption | omega) (by first | assumption | omega) (by first | assumption | omega) (by first | assumption | omega)) (cwV 0 hts gX1_readTape_X1_takeLine rfl rfl rfl (by decide +kernel) ⟨Nat.le_of_ble_eq_true rfl, Nat.le_of_ble_eq_true rfl⟩) hZ hK hP hD hS hA [8, 1, 0, 2, 3, 4, 5, 9] [6, 7] rfl rfl (by decide) (by decide) (by decide) rfl rfl rfl hl.1 rfl (Nat.le_of_ble_eq_true rfl) dX1_readTape_73 ⟨Nat.le_of_ble_eq_true rfl, Nat.le_of_ble_eq_true rfl⟩ (fun r73 u H locs hp73 hP hD hS => ?_)
            obtain ⟨nx2_73, kd2_73, sr2_73, vl2_73, fo2_73, pl2_73, ht2_73, lt2_73, ct2_73, w2_73, h2_73, la2_73, af2_73, nc2_73, fc2_73, nl2_73, fl2_73⟩ := u
            try dsimp only at hp73 hP hD
            obtain ⟨rfl, he73⟩ := hp73
            replace hP : xP G [oC kn 2 [.ref knn, .int (nI 8), .int (nI 0)], iA G knn (3 * 8) fs, oC kre 1 [.ref kbt, .ref kby, .int (nI rl), .int (nI nx2_73), .int (nI kd2_73), .int (nI sr2_73), .int vl2_73, .int fo2_73, .int pl2_73, .int (nI n3), .int ht2_73, .int lt2_73, .int ct2_73], oC kbt 0 [.int (nI w2_73), .int (nI h2_73), .int (nI la2_73), .ref ka, .ref kc, .ref kl, .ref kn], iA G ka 16 af2_73, oC kc 2 [.ref kcn, .int (nI 10), .int (nI nc2_73)], iA G kcn (3 * 10) fc2_73, oC kl 2 [.ref kln, .int (nI 6), .int (nI nl2_73)], iA G kln (3 * 6) fl2_73, bA G kby 160 tb] H := hP
            replace hD : va_D (va_A (w_X1_readTape G kre kbt kby rl kd sr nx0 vl fo pl li hto lto ct ka kc kl kn w h la kcn kln knn nc nl ns af fc fl fs tb) ss.heap.size) [oC kn 2 [.ref knn, .int (nI 8), .int (nI 0)], iA G knn (3 * 8) fs, oC kre 1 [.ref kbt, .ref kby, .int (nI rl), .int (nI nx2_73), .int (nI kd2_73), .int (nI sr2_73), .int vl2_73, .int fo2_73, .int pl2_73, .int (nI n3), .int ht2_73, .int lt2_73, .int ct2_73], oC kbt 0 [.int (nI w2_73), .int (nI h2_73), .int (nI la2_73), .ref ka, .ref kc, .ref kl, .ref kn], iA G ka 16 af2_73, oC kc 2 [.ref kcn, .int (nI 10), .int (nI nc2_73)], iA G kcn (3 * 10) fc2_73, oC kl 2 [.ref kln, .int (nI 6), .int (nI nl2_73)], iA G kln (3 * 6) fl2_73, bA G kby 160 tb] := hD
            have hokL : psOk rl ((nx2_73, kd2_73, sr2_73, vl2_73, fo2_73, pl2_73), (ht2_73, lt2_73, ct2_73), (w2_73, h2_73, la2_73), af2_73, (nc2_73, fc2_73), (nl2_73, fl2_73)) := (by have q := fLin_ok (t := tb) (rl := rl) hokT; rw [← he73] at q; exact q)
            refine xb_if_eq (tgt := 83) hx hb dX1_readTape_76 rfl (fun b76 => ?_) (fun b76 => ?_)
            · skip
              refine lv_iconst (v := nI 0) hx hb dX1_readTape_83 (by decide) ?_
              refine lv_istore_n (lv' := [(1, .int (nI 0)), (0, .ref kre), (2, .int (nI i))]) hx hb dX1_readTape_84 rfl hl (by decide) rfl (fun ls hl => ?_)
              refine lv_iload_n hx hb dX1_readTape_85 rfl (lv_at hl 0 rfl) ?_
              refine xn_if_eq (tgt := 99) hx hb (by omega) dX1_readTape_86 rfl (fun _ => ?_) (fun b86 => absurd b86 (by omega))
              refine lv_iinc (k := 2) (v := nI (i + 1)) (lv' := [(2, .int (nI (i + 1))), (1, .int (nI 0)), (0, .ref kre)]) hx hb dX1_readTape_99 hl rfl (xn_inc i 1) (by decide) rfl (fun ls hl => ?_)
              refine lv_goto (tgt := 46) hx hb dX1_readTape_102 rfl ?_
              have hl := lv_sub hl (l' := [(0, .ref kre), (1, .int (nI 0)), (2, .int (nI (i + 1)))]) [2, 1, 0] rfl
              have hP := hP.sub (ws' := [iA G ka 16 af2_73, oC kbt 0 [.int (nI w2_73), .int (nI h2_73), .int (nI la2_73), .ref ka, .ref kc, .ref kl, .ref kn], bA G kby 160 tb, oC kc 2 [.ref kcn, .int (nI 10), .int (nI nc2_73)], iA G kcn (3 * 10) fc2_73, oC kl 2 [.ref kln, .int (nI 6), .int (nI nl2_73)], iA G kln (3 * 6) fl2_73, oC kn 2 [.ref knn, .int (nI 8), .int (nI 0)], iA G knn (3 * 8) fs, oC kre 1 [.ref kbt, .ref kby, .int (nI rl), .int (nI nx2_73), .int (nI kd2_73), .int (nI sr2_73), .int vl2_73, .int fo2_73, .int pl2_73, .int (nI n3), .int ht2_73, .int lt2_73, .int ct2_73]]) [4, 3, 9, 5, 6, 7, 8, 0, 1, 2] rfl
              have hD := hD.sub (ws' := [iA G ka 16 af2_73, oC kbt 0 [.int (nI w2_73), .int (nI h2_73), .int (nI la2_73), .ref ka, .ref kc, .ref kl, .ref kn], bA G kby 160 tb, oC kc 2 [.ref kcn, .int (nI 10), .int (nI nc2_73)], iA G kcn (3 * 10) fc2_73, oC kl 2 [.ref kln, .int (nI 6), .int (nI nl2_73)], iA G kln (3 * 6) fl2_73, oC kn 2 [.ref knn, .int (nI 8), .int (nI 0)], iA G knn (3 * 8) fs, oC kre 1 [.ref kbt, .ref kby, .int (nI rl), .int (nI nx2_73), .int (nI kd2_73), .int (nI sr2_73), .int vl2_73, .int fo2_73, .int pl2_73, .int (nI n3), .int ht2_73, .int lt2_73, .int ct2_73]]) [4, 3, 9, 5, 6, 7, 8, 0, 1, 2] (by decide) rfl
              exact ih46 (rl + 1 - (i + 1)) (by omega) 0 (i + 1) nx2_73 kd2_73 sr2_73 vl2_73 fo2_73 pl2_73 n3 ht2_73 lt2_73 ct2_73 w2_73 h2_73 la2_73 af2_73 nc2_73 fc2_73 nl2_73 fl2_73 ls H locs rfl (by omega) (by first | exact Or.inl rfl | exact Or.inr rfl) (by first | exact hokL | exact hokT) (by first | exact (hF1.trans ((congrArg (fun z => fLp tb rl z ((nx3, kd3, sr3, vl3, fo3, pl3), (ht3, lt3, ct3), (w3, h3, la3), af3, (nc3, fc3), (nl3, fl3)) n3) (show rl + 1 - i = (rl - i) + 1 by omega)).trans (fLp_0 (p := ((nx3, kd3, sr3, vl3, fo3, pl3), (ht3, lt3, ct3), (w3, h3, la3), af3, (nc3, fc3), (nl3, fl3))) (fun q => b62 q.1) he59))).trans (if_neg (by omega)).symm | exact (hF1.trans ((congrArg (fun z => fLp tb rl z ((nx3, kd3, sr3, vl3, fo3, pl3), (ht3, lt3, ct3), (w3, h3, la3), af3, (nc3, fc3), (nl3, fl3)) n3) (show rl + 1 - i = (rl - i) + 1 by omega)).trans (fLp_0 (p := ((nx3, kd3, sr3, vl3, fo3, pl3), (ht3, lt3, ct3), (w3, h3, la3), af3, (nc3, fc3), (nl3, fl3))) (fun q => q.2 (by rw [← he59]; exact b69)) he59))).trans (if_neg (by omega)).symm | exact (hF1.trans ((congrArg (fun z => fLp tb rl z ((nx3, kd3, sr3, vl3, fo3, pl3), (ht3, lt3, ct3), (w3, h3, la3), af3, (nc3, fc3), (nl3, fl3)) n3) (show rl + 1 - i = (rl - i) + 1 by omega)).trans (fLp_1 (p := ((nx3, kd3, sr3, vl3, fo3, pl3), (ht3, lt3, ct3), (w3, h3, la3), af3, (nc3, fc3), (nl3, fl3))) b62 he59 b69 b76 he73))).trans (if_neg (by omega)).symm | exact (hF1.trans ((congrArg (fun z => fLp tb rl z ((nx3, kd3, sr3, vl3, fo3, pl3), (ht3, lt3, ct3), (w3, h3, la3), af3, (nc3, fc3), (nl3, fl3)) n3) (show rl + 1 - i = (rl - i) + 1 by omega)).trans (fLp_2 (p := ((nx3, kd3, sr3, vl3, fo3, pl3), (ht3, lt3, ct3), (w3, h3, la3), af3, (nc3, fc3), (nl3, fl3))) b62 he59 b69 b76 he73))).trans ((if_pos rfl).trans (congrArg (fun z => fLp tb rl z ((nx2_73, kd2_73, sr2_73, vl2_73, fo2_73, pl2_73), (ht2_73, lt2_73, ct2_73), (w2_73, h2_73, la2_73), af2_73, (nc2_73, fc2_73), (nl2_73, fl2_73)) (n3 + 1)) (show rl + 1 - (i + 1) = rl - i by omega))).symm) hl hP hD hS
            · skip
              refine lv_iconst (v := nI 1) hx hb dX1_readTape_79 (by decide) ?_
              refine lv_goto (tgt := 84) hx hb dX1_readTape_80 rfl ?_
              refine lv_istore_n (lv' := [(1, .int (nI 1)), (0, .ref kre), (2, .int (nI i))]) hx hb dX1_readTape_84 rfl hl (by decide) rfl (fun ls hl => ?_)
              refine lv_iload_n hx hb dX1_readTape_85 rfl (lv_at hl 0 rfl) ?_
              refine xn_if_eq (tgt := 99) hx hb (by omega) dX1_readTape_86 rfl (fun b86 => absurd b86 (by omega)) (fun _ => ?_)
              refine lv_aload_n hx hb dX1_readTape_89 rfl (lv_at hl 1 rfl) ?_
              refine lv_dup hx hb dX1_readTape_90 rfl ?_
              refine va_get (D := G.1) (ci := 1) (v := .int (nI n3)) (C := RX1) (T := TX1) (N := 13) hx hb hts hin1 hown hK.1 hP 2 rfl rfl 9 (by decide) (hts (.fieldLink RX1 35 "BackLenses$Reader" "lines" "I") (List.mem_of_getElem? (i := 4) rfl)) (fun _ h9 => h9) rfl dX1_readTape_91 ?_
              refine lv_iconst (v := nI 1) hx hb dX1_readTape_94 (by decide) ?_
              refine xn_iadd hx hb dX1_readTape_95 ?_
              refine va_put (D := G.1) (ci := 1) (v := .int (nI (n3 + 1))) (ty := .int) (C := RX1) (T := TX1) (N := 13) hx hb hts hin1 tyX1 tyX1_ok nmX1 hown hK.1 hP hD hS 2 rfl rfl 9 (by decide) (hts (.fieldLink RX1 35 "BackLenses$Reader" "lines" "I") (List.mem_of_getElem? (i := 4) rfl)) (fun _ h9 => h9) rfl (by decide +kernel) rfl rfl (Nat.le_of_ble_eq_true rfl) dX1_readTape_96 (fun H locs hP hD hS => ?_)
              replace hP : xP G [oC kn 2 [.ref knn, .int (nI 8), .int (nI 0)], iA G knn (3 * 8) fs, oC kre 1 [.ref kbt, .ref kby, .int (nI rl), .int (nI nx2_73), .int (nI kd2_73), .int (nI sr2_73), .int vl2_73, .int fo2_73, .int pl2_73, .int (nI (n3 + 1)), .int ht2_73, .int lt2_73, .int ct2_73], oC kbt 0 [.int (nI w2_73), .int (nI h2_73), .int (nI la2_73), .ref ka, .ref kc, .ref kl, .ref kn], iA G ka 16 af2_73, oC kc 2 [.ref kcn, .int (nI 10), .int (nI nc2_73)], iA G kcn (3 * 10) fc2_73, oC kl 2 [.ref kln, .int (nI 6), .int (nI nl2_73)], iA G kln (3 * 6) fl2_73, bA G kby 160 tb] H := hP
              replace hD : va_D (va_A (w_X1_readTape G kre kbt kby rl kd sr nx0 vl fo pl li hto lto ct ka kc kl kn w h la kcn kln knn nc nl ns af fc fl fs tb) ss.heap.size) [oC kn 2 [.ref knn, .int (nI 8), .int (nI 0)], iA G knn (3 * 8) fs, oC kre 1 [.ref kbt, .ref kby, .int (nI rl), .int (nI nx2_73), .int (nI kd2_73), .int (nI sr2_73), .int vl2_73, .int fo2_73, .int pl2_73, .int (nI (n3 + 1)), .int ht2_73, .int lt2_73, .int ct2_73], oC kbt 0 [.int (nI w2_73), .int (nI h2_73), .int (nI la2_73), .ref ka, .ref kc, .ref kl, .ref kn], iA G ka 16 af2_73, oC kc 2 [.ref kcn, .int (nI 10), .int (nI nc2_73)], iA G kcn (3 * 10) fc2_73, oC kl 2 [.ref kln, .int (nI 6), .int (nI nl2_73)], iA G kln (3 * 6) fl2_73, bA G kby 160 tb] := hD
              refine lv_iinc (k := 2) (v := nI (i + 1)) (lv' := [(2, .int (nI (i + 1))), (1, .int (nI 1)), (0, .ref kre)]) hx hb dX1_readTape_99 hl rfl (xn_inc i 1) (by decide) rfl (fun ls hl => ?_)
              refine lv_goto (tgt := 46) hx hb dX1_readTape_102 rfl ?_
              have hl := lv_sub hl (l' := [(0, .ref kre), (1, .int (nI 1)), (2, .int (nI (i + 1)))]) [2, 1, 0] rfl
              have hP := hP.sub (ws' := [iA G ka 16 af2_73, oC kbt 0 [.int (nI w2_73), .int (nI h2_73), .int (nI la2_73), .ref ka, .ref kc, .ref kl, .ref kn], bA G kby 160 tb, oC kc 2 [.ref kcn, .int (nI 10), .int (nI nc2_73)], iA G kcn (3 * 10) fc2_73, oC kl 2 [.ref kln, .int (nI 6), .int (nI nl2_73)], iA G kln (3 * 6) fl2_73, oC kn 2 [.ref knn, .int (nI 8), .int (nI 0)], iA G knn (3 * 8) fs, oC kre 1 [.ref kbt, .ref kby, .int (nI rl), .int (nI nx2_73), .int (nI kd2_73), .int (nI sr2_73), .int vl2_73, .int fo2_73, .int pl2_73, .int (nI (n3 + 1)), .int ht2_73, .int lt2_73, .int ct2_73]]) [4, 3, 9, 5, 6, 7, 8, 0, 1, 2] rfl
              have hD := hD.sub (ws' := [iA G ka 16 af2_73, oC kbt 0 [.int (nI w2_73), .int (nI h2_73), .int (nI la2_73), .ref ka, .ref kc, .ref kl, .ref kn], bA G kby 160 tb, oC kc 2 [.ref kcn, .int (nI 10), .int (nI nc2_73)], iA G kcn (3 * 10) fc2_73, oC kl 2 [.ref kln, .int (nI 6), .int (nI nl2_73)], iA G kln (3 * 6) fl2_73, oC kn 2 [.ref knn, .int (nI 8), .int (nI 0)], iA G knn (3 * 8) fs, oC kre 1 [.ref kbt, .ref kby, .int (nI rl), .int (nI nx2_73), .int (nI kd2_73), .int (nI sr2_73), .int vl2_73, .int fo2_73, .int pl2_73, .int (nI (n3 + 1)), .int ht2_73, .int lt2_73, .int ct2_73]]) [4, 3, 9, 5, 6, 7, 8, 0, 1, 2] (by decide) rfl
              exact ih46 (rl + 1 - (i + 1)) (by omega) 1 (i + 1) nx2_73 kd2_73 sr2_73 vl2_73 fo2_73 pl2_73 (n3 + 1) ht2_73 lt2_73 ct2_73 w2_73 h2_73 la2_73 af2_73 nc2_73 fc2_73 nl2_73 fl2_73 ls H locs rfl (by omega) (by first | exact Or.inl rfl | exact Or.inr rfl) (by first | exact hokL | exact hokT) (by first | exact (hF1.trans ((congrArg (fun z => fLp tb rl z ((nx3, kd3, sr3, vl3, fo3, pl3), (ht3, lt3, ct3), (w3, h3, la3), af3, (nc3, fc3), (nl3, fl3)) n3) (show rl + 1 - i = (rl - i) + 1 by omega)).trans (fLp_0 (p := ((nx3, kd3, sr3, vl3, fo3, pl3), (ht3, lt3, ct3), (w3, h3, la3), af3, (nc3, fc3), (nl3, fl3))) (fun q => b62 q.1) he59))).trans (if_neg (by omega)).symm | exact (hF1.trans ((congrArg (fun z => fLp tb rl z ((nx3, kd3, sr3, vl3, fo3, pl3), (ht3, lt3, ct3), (w3, h3, la3), af3, (nc3, fc3), (nl3, fl3)) n3) (show rl + 1 - i = (rl - i) + 1 by omega)).trans (fLp_0 (p := ((nx3, kd3, sr3, vl3, fo3, pl3), (ht3, lt3, ct3), (w3, h3, la3), af3, (nc3, fc3), (nl3, fl3))) (fun q => q.2 (by rw [← he59]; exact b69)) he59))).trans (if_neg (by omega)).symm | exact (hF1.trans ((congrArg (fun z => fLp tb rl z ((nx3, kd3, sr3, vl3, fo3, pl3), (ht3, lt3, ct3), (w3, h3, la3), af3, (nc3, fc3), (nl3, fl3)) n3) (show rl + 1 - i = (rl - i) + 1 by omega)).trans (fLp_1 (p := ((nx3, kd3, sr3, vl3, fo3, pl3), (ht3, lt3, ct3), (w3, h3, la3), af3, (nc3, fc3), (nl3, fl3))) b62 he59 b69 b76 he73))).trans (if_neg (by omega)).symm | exact (hF1.trans ((congrArg (fun z => fLp tb rl z ((nx3, kd3, sr3, vl3, fo3, pl3), (ht3, lt3, ct3), (w3, h3, la3), af3, (nc3, fc3), (nl3, fl3)) n3) (show rl + 1 - i = (rl - i) + 1 by omega)).trans (fLp_2 (p := ((nx3, kd3, sr3, vl3, fo3, pl3), (ht3, lt3, ct3), (w3, h3, la3), af3, (nc3, fc3), (nl3, fl3))) b62 he59 b69 b76 he73))).trans ((if_pos rfl).trans (congrArg (fun z => fLp tb rl z ((nx2_73, kd2_73, sr2_73, vl2_73, fo2_73, pl2_73), (ht2_73, lt2_73, ct2_73), (w2_73, h2_73, la2_73), af2_73, (nc2_73, fc2_73), (nl2_73, fl2_73)) (n3 + 1)) (show rl + 1 - (i + 1) = rl - i by omega))).symm) hl hP hD hS
  have hl := lv_sub hl (l' := [(0, .ref kre), (1, .int (nI 1)), (2, .int (nI 0))]) [2, 1, 0] rfl
  have hP := hP.sub (ws' := [iA G ka 16 af2_39, oC kbt 0 [.int (nI 3), .int (nI 3), .int (nI 9), .ref ka, .ref kc, .ref kl, .ref kn], bA G kby 160 tb, oC kc 2 [.ref kcn, .int (nI 10), .int (nI 0)], iA G kcn (3 * 10) fc, oC kl 2 [.ref kln, .int (nI 6), .int (nI 0)], iA G kln (3 * 6) fl, oC kn 2 [.ref knn, .int (nI 8), .int (nI 0)], iA G knn (3 * 8) fs, oC kre 1 [.ref kbt, .ref kby, .int (nI rl), .int (nI 0), .int (nI kd), .int (nI sr), .int vl, .int (nI 0), .int (nI 0), .int (nI 0), .int (nI 0), .int (nI 0), .int (nI 0)]]) [3, 2, 1, 4, 5, 6, 7, 8, 9, 0] rfl
  have hD := hD.sub (ws' := [iA G ka 16 af2_39, oC kbt 0 [.int (nI 3), .int (nI 3), .int (nI 9), .ref ka, .ref kc, .ref kl, .ref kn], bA G kby 160 tb, oC kc 2 [.ref kcn, .int (nI 10), .int (nI 0)], iA G kcn (3 * 10) fc, oC kl 2 [.ref kln, .int (nI 6), .int (nI 0)], iA G kln (3 * 6) fl, oC kn 2 [.ref knn, .int (nI 8), .int (nI 0)], iA G knn (3 * 8) fs, oC kre 1 [.ref kbt, .ref kby, .int (nI rl), .int (nI 0), .int (nI kd), .int (nI sr), .int vl, .int (nI 0), .int (nI 0), .int (nI 0), .int (nI 0), .int (nI 0), .int (nI 0)]]) [3, 2, 1, 4, 5, 6, 7, 8, 9, 0] (by decide) rfl
  exact hL46 (rl + 1 - 0) 1 0 0 kd sr vl (nI 0) (nI 0) 0 (nI 0) (nI 0) (nI 0) 3 3 9 af2_39 0 fc 0 fl ls H locs rfl (by omega) (by exact Or.inr rfl) (by exact ps0_ok he39) (by exact (if_pos rfl).symm) hl hP hD hS
end
section
abbrev w_X5_text (G : XG) (kx kim kit ksh kwa kta : Nat) (tf rf : Int32) (kre kbt kby : Nat) (rl kd sr : Nat) (nx0 vl fo pl li hto lto ct : Int32) (kat kct klt knt : Nat) (wt ht9 lat : Nat) (kcnt klnt knnt : Nat) (nct nlt nst : Nat) (aft fct flt fst : Nat → Int32) (kb ka kc kcn kl kln kn knn : Nat) (w h la : Nat) (af : Nat → Int32) (nc : Nat) (fc : Nat → Int32) (nl : Nat) (fl : Nat → Int32) (ns : Nat) (fs : Nat → Int32) (kv km kg : Nat) (vw vh : Nat) (sl : Int32) (it : Nat → Int32) (tb : Nat → Int32) : va_W := [oC kx 5 [.ref kb, .ref kim, .ref kit, .ref kv, .ref kre, .int tf, .ref ksh, .int rf, .ref kwa, .ref kta], oC kre 1 [.ref kbt, .ref kby, .int (nI rl), .int nx0, .int (nI kd), .int (nI sr), .int vl, .int fo, .int pl, .int li, .int hto, .int lto, .int ct], oC kbt 0 [.int (nI wt), .int (nI ht9), .int (nI lat), .ref kat, .ref kct, .ref klt, .ref knt], iA G kat 16 aft, oC kct 2 [.ref kcnt, .int (nI 10), .int (nI nct)], iA G kcnt (3 * 10) fct, oC klt 2 [.ref klnt, .int (nI 6), .int (nI nlt)], iA G klnt (3 * 6) flt, oC knt 2 [.ref knnt, .int (nI 8), .int (nI nst)], iA G knnt (3 * 8) fst, bA G kby 160 tb, oC kb 0 [.int (nI w), .int (nI h), .int (nI la), .ref ka, .ref kc, .ref kl, .ref kn], iA G ka 16 af, oC kc 2 [.ref kcn, .int (nI 10), .int (nI nc)], iA G kcn (3 * 10) fc, oC kl 2 [.ref kln, .int (nI 6), .int (nI nl)], iA G kln (3 * 6) fl, oC kn 2 [.ref knn, .int (nI 8), .int (nI ns)], iA G knn (3 * 8) fs, oC kv 4 [.ref km, .ref kg, .int (nI vw), .int (nI vh), .int sl], zA G kit 2 it]
abbrev Q_X5_text (G : XG) (sz : Nat) (ad : XAd) (kx kim kit ksh kwa kta : Nat) (tf rf : Int32) (kre kbt kby : Nat) (rl kd sr : Nat) (nx0 vl fo pl li hto lto ct : Int32) (kat kct klt knt : Nat) (wt ht9 lat : Nat) (kcnt klnt knnt : Nat) (nct nlt nst : Nat) (aft fct flt fst : Nat → Int32) (kb ka kc kcn kl kln kn knn : Nat) (w h la : Nat) (af : Nat → Int32) (nc : Nat) (fc : Nat → Int32) (nl : Nat) (fl : Nat → Int32) (ns : Nat) (fs : Nat → Int32) (kv km kg : Nat) (vw vh : Nat) (sl : Int32) (it : Nat → Int32) (tb : Nat → Int32) : Array Value → State → Outcome → State → Prop := (va_Qi (fun (r : Int32) (u : Nat × Nat × Nat × Int32 × Int32 × Int32 × Int32 × Int32 × Int32 × Nat × Nat × Nat × (Nat → Int32) × Nat × (Nat → Int32) × Nat × (Nat → Int32) × Nat × (Nat → Int32) × Int32 × Int32 × Nat × Nat × Nat × (Nat → Int32) × Nat × (Nat → Int32) × Nat × (Nat → Int32) × Nat × (Nat → Int32) × Int32 × (Nat → Int32)) => r = (if u.2.2.2.2.1 = nI 0 then nI u.2.2.2.2.2.2.2.2.2.2.2.2.2.2.2.2.2.1 else (-10) - u.2.2.2.2.2.1) ∧ ((∀ j, j < 16 → u.2.2.2.2.2.2.2.2.2.2.2.2.2.2.2.2.2.2.1 j = nI 0) ∧ (((u.1, u.2.1, u.2.2.1, u.2.2.2.1, u.2.2.2.2.2.2.2.2.2.2.2.2.2.2.2.2.2.2.2.1, u.2.2.2.2.2.2.2.2.2.2.2.2.2.2.2.2.2.2.2.2.1), (u.2.2.2.2.2.2.1, u.2.2.2.2.2.2.2.1, u.2.2.2.2.2.2.2.2.1), (u.2.2.2.2.2.2.2.2.2.1, u.2.2.2.2.2.2.2.2.2.2.1, u.2.2.2.2.2.2.2.2.2.2.2.1), u.2.2.2.2.2.2.2.2.2.2.2.2.1, (u.2.2.2.2.2.2.2.2.2.2.2.2.2.1, u.2.2.2.2.2.2.2.2.2.2.2.2.2.2.1), (u.2.2.2.2.2.2.2.2.2.2.2.2.2.2.2.1, u.2.2.2.2.2.2.2.2.2.2.2.2.2.2.2.2.1)), u.2.2.2.2.2.2.2.2.2.2.2.2.2.2.2.2.2.1) = fLp tb rl (rl + 1) (ps0 kd sr vl u.2.2.2.2.2.2.2.2.2.2.2.2.2.2.2.2.2.2.1 fct flt) 0 ∧ (u.2.2.2.2.1, u.2.2.2.2.2.1) = fEnd rl ((u.1, u.2.1, u.2.2.1, u.2.2.2.1, u.2.2.2.2.2.2.2.2.2.2.2.2.2.2.2.2.2.2.2.1, u.2.2.2.2.2.2.2.2.2.2.2.2.2.2.2.2.2.2.2.2.1), (u.2.2.2.2.2.2.1, u.2.2.2.2.2.2.2.1, u.2.2.2.2.2.2.2.2.1), (u.2.2.2.2.2.2.2.2.2.1, u.2.2.2.2.2.2.2.2.2.2.1, u.2.2.2.2.2.2.2.2.2.2.2.1), u.2.2.2.2.2.2.2.2.2.2.2.2.1, (u.2.2.2.2.2.2.2.2.2.2.2.2.2.1, u.2.2.2.2.2.2.2.2.2.2.2.2.2.2.1), (u.2.2.2.2.2.2.2.2.2.2.2.2.2.2.2.1, u.2.2.2.2.2.2.2.2.2.2.2.2.2.2.2.2.1)) ∧ (u.2.2.2.2.2.2.2.2.2.2.2.2.2.2.2.2.2.2.2.2.2.1, u.2.2.2.2.2.2.2.2.2.2.2.2.2.2.2.2.2.2.2.2.2.2.1, u.2.2.2.2.2.2.2.2.2.2.2.2.2.2.2.2.2.2.2.2.2.2.2.1, u.2.2.2.2.2.2.2.2.2.2.2.2.2.2.2.2.2.2.2.2.2.2.2.2.1, u.2.2.2.2.2.2.2.2.2.2.2.2.2.2.2.2.2.2.2.2.2.2.2.2.2.1, u.2.2.2.2.2.2.2.2.2.2.2.2.2.2.2.2.2.2.2.2.2.2.2.2.2.2.1, u.2.2.2.2.2.2.2.2.2.2.2.2.2.2.2.2.2.2.2.2.2.2.2.2.2.2.2.1, u.2.2.2.2.2.2.2.2.2.2.2.2.2.2.2.2.2.2.2.2.2.2.2.2.2.2.2.2.1, u.2.2.2.2.2.2.2.2.2.2.2.2.2.2.2.2.2.2.2.2.2.2.2.2.2.2.2.2.2.1, u.2.2.2.2.2.2.2.2.2.2.2.2.2.2.2.2.2.2.2.2.2.2.2.2.2.2.2.2.2.2.1, u.2.2.2.2.2.2.2.2.2.2.2.2.2.2.2.2.2.2.2.2.2.2.2.2.2.2.2.2.2.2.2.1, u.2.2.2.2.2.2.2.2.2.2.2.2.2.2.2.2.2.2.2.2.2.2.2.2.2.2.2.2.2.2.2.2) = (if u.2.2.2.2.1 = nI 0 then (u.2.2.2.2.2.2.2.2.2.1, u.2.2.2.2.2.2.2.2.2.2.1, u.2.2.2.2.2.2.2.2.2.2.2.1, va_cpy u.2.2.2.2.2.2.2.2.2.2.2.2.1 af 0 0 16, u.2.2.2.2.2.2.2.2.2.2.2.2.2.1, va_cpy u.2.2.2.2.2.2.2.2.2.2.2.2.2.2.1 fc 0 0 (3 * 10), u.2.2.2.2.2.2.2.2.2.2.2.2.2.2.2.1, va_cpy u.2.2.2.2.2.2.2.2.2.2.2.2.2.2.2.2.1 fl 0 0 (3 * 6), 0, va_cpy fst fs 0 0 (3 * 8), nI 1, upd (upd it 0 (nI 0)) 1 (nI 0)) else (w, h, la, af, nc, fc, nl, fl, ns, fs, sl, it)))) (xWb G sz (w_X5_text G kx kim kit ksh kwa kta tf rf kre kbt kby rl kd sr nx0 vl fo pl li hto lto ct kat kct klt knt wt ht9 lat kcnt klnt knnt nct nlt nst aft fct flt fst kb ka kc kcn kl kln kn knn w h la af nc fc nl fl ns fs kv km kg vw vh sl it tb) (fun u : Nat × Nat × Nat × Int32 × Int32 × Int32 × Int32 × Int32 × Int32 × Nat × Nat × Nat × (Nat → Int32) × Nat × (Nat → Int32) × Nat × (Nat → Int32) × Nat × (Nat → Int32) × Int32 × Int32 × Nat × Nat × Nat × (Nat → Int32) × Nat × (Nat → Int32) × Nat × (Nat → Int32) × Nat × (Nat → Int32) × Int32 × (Nat → Int32) => [oC kx 5 [.ref kb, .ref kim, .ref kit, .ref kv, .ref kre, .int u.2.2.2.2.1, .ref ksh, .int rf, .ref kwa, .ref kta], oC kre 1 [.ref kbt, .ref kby, .int (nI 0), .int (nI u.1), .int (nI u.2.1), .int (nI u.2.2.1), .int u.2.2.2.1, .int u.2.2.2.2.1, .int u.2.2.2.2.2.1, .int (nI u.2.2.2.2.2.2.2.2.2.2.2.2.2.2.2.2.2.1), .int u.2.2.2.2.2.2.1, .int u.2.2.2.2.2.2.2.1, .int u.2.2.2.2.2.2.2.2.1], oC kbt 0 [.int (nI u.2.2.2.2.2.2.2.2.2.1), .int (nI u.2.2.2.2.2.2.2.2.2.2.1), .int (nI u.2.2.2.2.2.2.2.2.2.2.2.1), .ref kat, .ref kct, .ref klt, .ref knt], iA G kat 16 u.2.2.2.2.2.2.2.2.2.2.2.2.1, oC kct 2 [.ref kcnt, .int (nI 10), .int (nI u.2.2.2.2.2.2.2.2.2.2.2.2.2.1)], iA G kcnt (3 * 10) u.2.2.2.2.2.2.2.2.2.2.2.2.2.2.1, oC klt 2 [.ref klnt, .int (nI 6), .int (nI u.2.2.2.2.2.2.2.2.2.2.2.2.2.2.2.1)], iA G klnt (3 * 6) u.2.2.2.2.2.2.2.2.2.2.2.2.2.2.2.2.1, oC knt 2 [.ref knnt, .int (nI 8), .int (nI 0)], iA G knnt (3 * 8) fst, bA G kby 160 tb, oC kb 0 [.int (nI u.2.2.2.2.2.2.2.2.2.2.2.2.2.2.2.2.2.2.2.2.2.1), .int (nI u.2.2.2.2.2.2.2.2.2.2.2.2.2.2.2.2.2.2.2.2.2.2.1), .int (nI u.2.2.2.2.2.2.2.2.2.2.2.2.2.2.2.2.2.2.2.2.2.2.2.1), .ref ka, .ref kc, .ref kl, .ref kn], iA G ka 16 u.2.2.2.2.2.2.2.2.2.2.2.2.2.2.2.2.2.2.2.2.2.2.2.2.1, oC kc 2 [.ref kcn, .int (nI 10), .int (nI u.2.2.2.2.2.2.2.2.2.2.2.2.2.2.2.2.2.2.2.2.2.2.2.2.2.1)], iA G kcn (3 * 10) u.2.2.2.2.2.2.2.2.2.2.2.2.2.2.2.2.2.2.2.2.2.2.2.2.2.2.1, oC kl 2 [.ref kln, .int (nI 6), .int (nI u.2.2.2.2.2.2.2.2.2.2.2.2.2.2.2.2.2.2.2.2.2.2.2.2.2.2.2.1)], iA G kln (3 * 6) u.2.2.2.2.2.2.2.2.2.2.2.2.2.2.2.2.2.2.2.2.2.2.2.2.2.2.2.2.1, oC kn 2 [.ref knn, .int (nI 8), .int (nI u.2.2.2.2.2.2.2.2.2.2.2.2.2.2.2.2.2.2.2.2.2.2.2.2.2.2.2.2.2.1)], iA G knn (3 * 8) u.2.2.2.2.2.2.2.2.2.2.2.2.2.2.2.2.2.2.2.2.2.2.2.2.2.2.2.2.2.2.1, oC kv 4 [.ref km, .ref kg, .int (nI vw), .int (nI vh), .int u.2.2.2.2.2.2.2.2.2.2.2.2.2.2.2.2.2.2.2.2.2.2.2.2.2.2.2.2.2.2.2.1], zA G kit 2 u.2.2.2.2.2.2.2.2.2.2.2.2.2.2.2.2.2.2.2.2.2.2.2.2.2.2.2.2.2.2.2.2])) (va_A (w_X5_text G kx kim kit ksh kwa kta tf rf kre kbt kby rl kd sr nx0 vl fo pl li hto lto ct kat kct klt knt wt ht9 lat kcnt klnt knnt nct nlt nst aft fct flt fst kb ka kc kcn kl kln kn knn w h la af nc fc nl fl ns fs kv km kg vw vh sl it tb) sz))
set_option maxHeartbeats 4000000 in
set_option maxRecDepth 100000 in
theorem c_X5_text (l : Launch) (G : XG) (sz : Nat) (ad : XAd) (kx kim kit ksh kwa kta : Nat) (tf rf : Int32) (kre kbt kby : Nat) (rl kd sr : Nat) (nx0 vl fo pl li hto lto ct : Int32) (kat kct klt knt : Nat) (wt ht9 lat : Nat) (kcnt klnt knnt : Nat) (nct nlt nst : Nat) (aft fct flt fst : Nat → Int32) (kb ka kc kcn kl kln kn knn : Nat) (w h la : Nat) (af : Nat → Int32) (nc : Nat) (fc : Nat → Int32) (nl : Nat) (fl : Nat → Int32) (ns : Nat) (fs : Nat → Int32) (kv km kg : Nat) (vw vh : Nat) (sl : Int32) (it : Nat → Int32) (tb : Nat → Int32) (hrl : rl ≤ 160) : Met l yX5_text wsX5_text ({ frames := 7, cells := 0, slots := 0, locals := 149 } : Room) (va_Pc [.ref kx] (xZWp G sz ad (w_X5_text G kx kim kit ksh kwa kta tf rf kre kbt kby rl kd sr nx0 vl fo pl li hto lto ct kat kct klt knt wt ht9 lat kcnt klnt knnt nct nlt nst aft fct flt fst kb ka kc kcn kl kln kn knn w h la af nc fc nl fl ns fs kv km kg vw vh sl it tb))) (Q_X5_text G sz ad kx kim kit ksh kwa kta tf rf kre kbt kby rl kd sr nx0 vl fo pl li hto lto ct kat kct klt knt wt ht9 lat kcnt klnt knnt nct nlt nst aft fct flt fst kb ka kc kcn kl kln kn knn w h la af nc fc nl fl ns fs kv km kg vw vh sl it tb) 0 0 (va_A (w_X5_text G kx kim kit ksh kwa kta tf rf kre kbt kby rl kd sr nx0 vl fo pl li hto lto ct kat kct klt knt wt ht9 lat kcnt klnt knnt nct nlt nst aft fct flt fst kb ka kc kcn kl kln kn knn w h la af nc fc nl fl ns fs kv km kg vw vh sl it tb) sz) := by
  refine Met.ofW (cc := cX5_text) (maxL := 2) (ret := (some .int)) (by decide) rfl ?_
  intro pp ee ss mm aa below mt cd s₁ BB hml hv
  obtain ⟨rfl, ⟨hsz, hP, hK, hD0⟩, hZ⟩ := hv
  have hx := BB.exec
  have hb := BB.bytes
  have hr := BB.returns
  have hts := atoms_spec (ws := wsX5_text) BB.pre
  have hown : ss.vm.findClass RX5 = some mm.cls := findClass_of_methodNamed BB.named
  have hlocks := BB.notSynchronized
  subst hsz
  have hD := hD0.self (sz := ss.heap.size)
  have hA : ∀ q : Nat, ss.heap.size ≤ q → va_A (w_X5_text G kx kim kit ksh kwa kta tf rf kre kbt kby rl kd sr nx0 vl fo pl li hto lto ct kat kct klt knt wt ht9 lat kcnt klnt knnt nct nlt nst aft fct flt fst kb ka kc kcn kl kln kn knn w h la af nc fc nl fl ns fs kv km kg vw vh sl it tb) ss.heap.size q := fun q h => Or.inr h
  have hS : va_S (va_A (w_X5_text G kx kim kit ksh kwa kta tf rf kre kbt kby rl kd sr nx0 vl fo pl li hto lto ct kat kct klt knt wt ht9 lat kcnt klnt knnt nct nlt nst aft fct flt fst kb ka kc kcn kl kln kn knn w h la af nc fc nl fl ns fs kv km kg vw vh sl it tb) ss.heap.size) ss.heap ss.heap [] := va_S.rf
  replace hD : va_D (va_A (w_X5_text G kx kim kit ksh kwa kta tf rf kre kbt kby rl kd sr nx0 vl fo pl li hto lto ct kat kct klt knt wt ht9 lat kcnt klnt knnt nct nlt nst aft fct flt fst kb ka kc kcn kl kln kn knn w h la af nc fc nl fl ns fs kv km kg vw vh sl it tb) ss.heap.size) [oC kx 5 [.ref kb, .ref kim, .ref kit, .ref kv, .ref kre, .int tf, .ref ksh, .int rf, .ref kwa, .ref kta], oC kre 1 [.ref kbt, .ref kby, .int (nI rl), .int nx0, .int (nI kd), .int (nI sr), .int vl, .int fo, .int pl, .int li, .int hto, .int lto, .int ct], oC kbt 0 [.int (nI wt), .int (nI ht9), .int (nI lat), .ref kat, .ref kct, .ref klt, .ref knt], iA G kat 16 aft, oC kct 2 [.ref kcnt, .int (nI 10), .int (nI nct)], iA G kcnt (3 * 10) fct, oC klt 2 [.ref klnt, .int (nI 6), .int (nI nlt)], iA G klnt (3 * 6) flt, oC knt 2 [.ref knnt, .int (nI 8), .int (nI nst)], iA G knnt (3 * 8) fst, bA G kby 160 tb, oC kb 0 [.int (nI w), .int (nI h), .int (nI la), .ref ka, .ref kc, .ref kl, .ref kn], iA G ka 16 af, oC kc 2 [.ref kcn, .int (nI 10), .int (nI nc)], iA G kcn (3 * 10) fc, oC kl 2 [.ref kln, .int (nI 6), .int (nI nl)], iA G kln (3 * 6) fl, oC kn 2 [.ref knn, .int (nI 8), .int (nI ns)], iA G knn (3 * 8) fs, oC kv 4 [.ref km, .ref kg, .int (nI vw), .int (nI vh), .int sl], zA G kit 2 it] := hD
  replace hP : xP G [oC kx 5 [.ref kb, .ref kim, .ref kit, .ref kv, .ref kre, .int tf, .ref ksh, .int rf, .ref kwa, .ref kta], oC kre 1 [.ref kbt, .ref kby, .int (nI rl), .int nx0, .int (nI kd), .int (nI sr), .int vl, .int fo, .int pl, .int li, .int hto, .int lto, .int ct], oC kbt 0 [.int (nI wt), .int (nI ht9), .int (nI lat), .ref kat, .ref kct, .ref klt, .ref knt], iA G kat 16 aft, oC kct 2 [.ref kcnt, .int (nI 10), .int (nI nct)], iA G kcnt (3 * 10) fct, oC klt 2 [.ref klnt, .int (nI 6), .int (nI nlt)], iA G klnt (3 * 6) flt, oC knt 2 [.ref knnt, .int (nI 8), .int (nI nst)], iA G knnt (3 * 8) fst, bA G kby 160 tb, oC kb 0 [.int (nI w), .int (nI h), .int (nI la), .ref ka, .ref kc, .ref kl, .ref kn], iA G ka 16 af, oC kc 2 [.ref kcn, .int (nI 10), .int (nI nc)], iA G kcn (3 * 10) fc, oC kl 2 [.ref kln, .int (nI 6), .int (nI nl)], iA G kln (3 * 6) fl, oC kn 2 [.ref knn, .int (nI 8), .int (nI ns)], iA G knn (3 * 8) fs, oC kv 4 [.ref km, .ref kg, .int (nI vw), .int (nI vh), .int sl], zA G kit 2 it] ss.heap := hP
  have hin0 : ∀ w ∈ u_ws RX0 TX0 7, w ∈ wsX5_text := fun w h => List.mem_cons_of_mem _ (List.mem_append_left _ (List.mem_append_right _ h))
  have hin1 : ∀ w ∈ u_ws RX1 TX1 13, w ∈ wsX5_text := fun w h => List.mem_cons_of_mem _ (List.mem_append_left _ (List.mem_append_left _ (List.mem_append_left _ (List.mem_append_right _ h))))
  have hin2 : ∀ w ∈ u_ws RX2 TX2 3, w ∈ wsX5_text := fun w h => List.mem_cons_of_mem _ (List.mem_append_right _ h)
  have hin4 : ∀ w ∈ u_ws RX4 TX4 5, w ∈ wsX5_text := fun w h => List.mem_cons_of_mem _ (List.mem_append_left _ (List.mem_append_left _ (List.mem_append_right _ h)))
  have hin5 : ∀ w ∈ u_ws RX5 TX5 10, w ∈ wsX5_text := fun w h => List.mem_cons_of_mem _ (List.mem_append_left _ (List.mem_append_left _ (List.mem_append_left _ (List.mem_append_left _ (List.mem_append_right _ h)))))
  have hl := lv_entry ([.ref kx]) (n := 2) (Nat.le_of_ble_eq_true rfl)
  rw [lg_entry_eq]
  generalize (lg_sl ([.ref kx]) ++ List.replicate (2 - (lg_sl ([.ref kx])).length) Slot.unset).toArray = ls at hl ⊢
  replace hl : lv_has ls 2 [(0, .ref kx)] := hl
  refine lv_aload_n hx hb dX5_text_0 rfl (lv_at hl 0 rfl) ?_
  refine lv_aload_n hx hb dX5_text_1 rfl (lv_at hl 0 rfl) ?_
  refine va_get (D := G.1) (ci := 5) (v := .ref kre) (C := RX5) (T := TX5) (N := 10) hx hb hts hin5 hown hK.1 hP 0 rfl rfl 4 (by decide) (hts (.fieldLink RX5 34 "BackLenses" "reader" "LBackLenses$Reader;") (List.mem_of_getElem? (i := 1) rfl)) (fun _ h9 => h9) rfl dX5_text_2 ?_
  refine xzw_i (As := []) (rest := [.ref kx]) (wr := [oC kx 5 [.ref kb, .ref kim, .ref kit, .ref kv, .ref kre, .int tf, .ref ksh, .int rf, .ref kwa, .ref kta], oC kb 0 [.int (nI w), .int (nI h), .int (nI la), .ref ka, .ref kc, .ref kl, .ref kn], iA G ka 16 af, oC kc 2 [.ref kcn, .int (nI 10), .int (nI nc)], iA G kcn (3 * 10) fc, oC kl 2 [.ref kln, .int (nI 6), .int (nI nl)], iA G kln (3 * 6) fl, oC kn 2 [.ref knn, .int (nI 8), .int (nI ns)], iA G knn (3 * 8) fs, oC kv 4 [.ref km, .ref kg, .int (nI vw), .int (nI vh), .int sl], zA G kit 2 it]) ⟨hx, hb, hml, hown, hts⟩ (c_X1_readTape l G ss.heap.size ad kre kbt kby rl kd sr nx0 vl fo pl li hto lto ct kat kct klt knt wt ht9 lat kcnt klnt knnt nct nlt nst aft fct flt fst tb (by first | assumption | omega)) (cwV 0 hts gX5_text_X1_readTape rfl rfl rfl (by decide +kernel) ⟨Nat.le_of_ble_eq_true rfl, Nat.le_of_ble_eq_true rfl⟩) hZ hK hP hD hS hA [1, 2, 3, 4, 5, 6, 7, 8, 9, 10] [0, 11, 12, 13, 14, 15, 16, 17, 18, 19, 20] rfl rfl (by decide) (by decide) (by decide) rfl rfl rfl hl.1 rfl (Nat.le_of_ble_eq_true rfl) dX5_text_5 ⟨Nat.le_of_ble_eq_true rfl, Nat.le_of_ble_eq_true rfl⟩ (fun r5 u H locs hp5 hP hD hS => ?_)
  obtain ⟨nx2_5, kd2_5, sr2_5, vl2_5, fo2_5, pl2_5, ht2_5, lt2_5, ct2_5, w2_5, h2_5, la2_5, af2_5, nc2_5, fc2_5, nl2_5, fl2_5, li2_5, af0_5, fo3_5, pl3_5⟩ := u
  try dsimp only at hp5 hP hD
  obtain ⟨hrq5, he5⟩ := hp5
  obtain rfl := hrq5.symm
  replace hP : xP G [oC kx 5 [.ref kb, .ref kim, .ref kit, .ref kv, .ref kre, .int tf, .ref ksh, .int rf, .ref kwa, .ref kta], oC kb 0 [.int (nI w), .int (nI h), .int (nI la), .ref ka, .ref kc, .ref kl, .ref kn], iA G ka 16 af, oC kc 2 [.ref kcn, .int (nI 10), .int (nI nc)], iA G kcn (3 * 10) fc, oC kl 2 [.ref kln, .int (nI 6), .int (nI nl)], iA G kln (3 * 6) fl, oC kn 2 [.ref knn, .int (nI 8), .int (nI ns)], iA G knn (3 * 8) fs, oC kv 4 [.ref km, .ref kg, .int (nI vw), .int (nI vh), .int sl], zA G kit 2 it, oC kre 1 [.ref kbt, .ref kby, .int (nI 0), .int (nI nx2_5), .int (nI kd2_5), .int (nI sr2_5), .int vl2_5, .int fo2_5, .int pl2_5, .int (nI li2_5), .int ht2_5, .int lt2_5, .int ct2_5], oC kbt 0 [.int (nI w2_5), .int (nI h2_5), .int (nI la2_5), .ref kat, .ref kct, .ref klt, .ref knt], iA G kat 16 af2_5, oC kct 2 [.ref kcnt, .int (nI 10), .int (nI nc2_5)], iA G kcnt (3 * 10) fc2_5, oC klt 2 [.ref klnt, .int (nI 6), .int (nI nl2_5)], iA G klnt (3 * 6) fl2_5, oC knt 2 [.ref knnt, .int (nI 8), .int (nI 0)], iA G knnt (3 * 8) fst, bA G kby 160 tb] H := hP
  replace hD : va_D (va_A (w_X5_text G kx kim kit ksh kwa kta tf rf kre kbt kby rl kd sr nx0 vl fo pl li hto lto ct kat kct klt knt wt ht9 lat kcnt klnt knnt nct nlt nst aft fct flt fst kb ka kc kcn kl kln kn knn w h la af nc fc nl fl ns fs kv km kg vw vh sl it tb) ss.heap.size) [oC kx 5 [.ref kb, .ref kim, .ref kit, .ref kv, .ref kre, .int tf, .ref ksh, .int rf, .ref kwa, .ref kta], oC kb 0 [.int (nI w), .int (nI h), .int (nI la), .ref ka, .ref kc, .ref kl, .ref kn], iA G ka 16 af, oC kc 2 [.ref kcn, .int (nI 10), .int (nI nc)], iA G kcn (3 * 10) fc, oC kl 2 [.ref kln, .int (nI 6), .int (nI nl)], iA G kln (3 * 6) fl, oC kn 2 [.ref knn, .int (nI 8), .int (nI ns)], iA G knn (3 * 8) fs, oC kv 4 [.ref km, .ref kg, .int (nI vw), .int (nI vh), .int sl], zA G kit 2 it, oC kre 1 [.ref kbt, .ref kby, .int (nI 0), .int (nI nx2_5), .int (nI kd2_5), .int (nI sr2_5), .int vl2_5, .int fo2_5, .int pl2_5, .int (nI li2_5), .int ht2_5, .int lt2_5, .int ct2_5], oC kbt 0 [.int (nI w2_5), .int (nI h2_5), .int (nI la2_5), .ref kat, .ref kct, .ref klt, .ref knt], iA G kat 16 af2_5, oC kct 2 [.ref kcnt, .int (nI 10), .int (nI nc2_5)], iA G kcnt (3 * 10) fc2_5, oC klt 2 [.ref klnt, .int (nI 6), .int (nI nl2_5)], iA G klnt (3 * 6) fl2_5, oC knt 2 [.ref knnt, .int (nI 8), .int (nI 0)], iA G knnt (3 * 8) fst, bA G kby 160 tb] := hD
  refine va_put (D := G.1) (ci := 5) (v := .int fo2_5) (ty := .int) (C := RX5) (T := TX5) (N := 10) hx hb hts hin5 tyX5 tyX5_ok nmX5 hown hK.1 hP hD hS 0 rfl rfl 5 (by decide) (hts (.fieldLink RX5 63 "BackLenses" "textFault" "I") (List.mem_of_getElem? (i := 2) rfl)) (fun _ h9 => h9) rfl (by decide +kernel) rfl rfl (Nat.le_of_ble_eq_true rfl) dX5_text_8 (fun H locs hP hD hS => ?_)
  replace hP : xP G [oC kx 5 [.ref kb, .ref kim, .ref kit, .ref kv, .ref kre, .int fo2_5, .ref ksh, .int rf, .ref kwa, .ref kta], oC kb 0 [.int (nI w), .int (nI h), .int (nI la), .ref ka, .ref kc, .ref kl, .ref kn], iA G ka 16 af, oC kc 2 [.ref kcn, .int (nI 10), .int (nI nc)], iA G kcn (3 * 10) fc, oC kl 2 [.ref kln, .int (nI 6), .int (nI nl)], iA G kln (3 * 6) fl, oC kn 2 [.ref knn, .int (nI 8), .int (nI ns)], iA G knn (3 * 8) fs, oC kv 4 [.ref km, .ref kg, .int (nI vw), .int (nI vh), .int sl], zA G kit 2 it, oC kre 1 [.ref kbt, .ref kby, .int (nI 0), .int (nI nx2_5), .int (nI kd2_5), .int (nI sr2_5), .int vl2_5, .int fo2_5, .int pl2_5, .int (nI li2_5), .int ht2_5, .int lt2_5, .int ct2_5], oC kbt 0 [.int (nI w2_5), .int (nI h2_5), .int (nI la2_5), .ref kat, .ref kct, .ref klt, .ref knt], iA G kat 16 af2_5, oC kct 2 [.ref kcnt, .int (nI 10), .int (nI nc2_5)], iA G kcnt (3 * 10) fc2_5, oC klt 2 [.ref klnt, .int (nI 6), .int (nI nl2_5)], iA G klnt (3 * 6) fl2_5, oC knt 2 [.ref knnt, .int (nI 8), .int (nI 0)], iA G knnt (3 * 8) fst, bA G kby 160 tb] H := hP
  replace hD : va_D (va_A (w_X5_text G kx kim kit ksh kwa kta tf rf kre kbt kby rl kd sr nx0 vl fo pl li hto lto ct kat kct klt knt wt ht9 lat kcnt klnt knnt nct nlt nst aft fct flt fst kb ka kc kcn kl kln kn knn w h la af nc fc nl fl ns fs kv km kg vw vh sl it tb) ss.heap.size) [oC kx 5 [.ref kb, .ref kim, .ref kit, .ref kv, .ref kre, .int fo2_5, .ref ksh, .int rf, .ref kwa, .ref kta], oC kb 0 [.int (nI w), .int (nI h), .int (nI la), .ref ka, .ref kc, .ref kl, .ref kn], iA G ka 16 af, oC kc 2 [.ref kcn, .int (nI 10), .int (nI nc)], iA G kcn (3 * 10) fc, oC kl 2 [.ref kln, .int (nI 6), .int (nI nl)], iA G kln (3 * 6) fl, oC kn 2 [.ref knn, .int (nI 8), .int (nI ns)], iA G knn (3 * 8) fs, oC kv 4 [.ref km, .ref kg, .int (nI vw), .int (nI vh), .int sl], zA G kit 2 it, oC kre 1 [.ref kbt, .ref kby, .int (nI 0), .int (nI nx2_5), .int (nI kd2_5), .int (nI sr2_5), .int vl2_5, .int fo2_5, .int pl2_5, .int (nI li2_5), .int ht2_5, .int lt2_5, .int ct2_5], oC kbt 0 [.int (nI w2_5), .int (nI h2_5), .int (nI la2_5), .ref kat, .ref kct, .ref klt, .ref knt], iA G kat 16 af2_5, oC kct 2 [.ref kcnt, .int (nI 10), .int (nI nc2_5)], iA G kcnt (3 * 10) fc2_5, oC klt 2 [.ref klnt, .int (nI 6), .int (nI nl2_5)], iA G klnt (3 * 6) fl2_5, oC knt 2 [.ref knnt, .int (nI 8), .int (nI 0)], iA G knnt (3 * 8) fst, bA G kby 160 tb] := hD
  refine lv_aload_n hx hb dX5_text_11 rfl (lv_at hl 0 rfl) ?_
  refine va_get (D := G.1) (ci := 5) (v := .int fo2_5) (C := RX5) (T := TX5) (N := 10) hx hb hts hin5 hown hK.1 hP 0 rfl rfl 5 (by decide) (hts (.fieldLink RX5 63 "BackLenses" "textFault" "I") (List.mem_of_getElem? (i := 2) rfl)) (fun _ h9 => h9) rfl dX5_text_12 ?_
  refine lv_if_eq (tgt := 29) hx hb dX5_text_15 rfl (fun b15 => ?_) (fun b15 => ?_)
  · skip
    refine lv_aload_n hx hb dX5_text_29 rfl (lv_at hl 0 rfl) ?_
    refine va_get (D := G.1) (ci := 5) (v := .ref kb) (C := RX5) (T := TX5) (N := 10) hx hb hts hin5 hown hK.1 hP 0 rfl rfl 0 (by decide) (hts (.fieldLink RX5 10 "BackLenses" "book" "LBackLenses$Book;") (List.mem_of_getElem? (i := 3) rfl)) (fun _ h9 => h9) rfl dX5_text_30 ?_
    refine lv_aload_n hx hb dX5_text_33 rfl (lv_at hl 0 rfl) ?_
    refine va_get (D := G.1) (ci := 5) (v := .ref kre) (C := RX5) (T := TX5) (N := 10) hx hb hts hin5 hown hK.1 hP 0 rfl rfl 4 (by decide) (hts (.fieldLink RX5 34 "BackLenses" "reader" "LBackLenses$Reader;") (List.mem_of_getElem? (i := 1) rfl)) (fun _ h9 => h9) rfl dX5_text_34 ?_
    refine va_getN (D := G.1) (ci := 1) (v := .ref kbt) (C := RX1) (T := TX1) (N := 13) hx hb hts hin1 hown hK.1 hP 11 rfl rfl 0 (by decide) (va_Nw.use rfl (hK.2 (Cond.fieldLinkNest "BackLenses" (70 : Nat) "BackLenses$Reader" "target" "LBackLenses$Book;" "BackLenses") (List.mem_of_getElem? (i := 23) rfl))) (fun _ h9 => h9) rfl dX5_text_37 ?_
    refine xw_v (As := [.ref kbt]) (rest := []) (wr := [oC kx 5 [.ref kb, .ref kim, .ref kit, .ref kv, .ref kre, .int fo2_5, .ref ksh, .int rf, .ref kwa, .ref kta], oC kv 4 [.ref km, .ref kg, .int (nI vw), .int (nI vh), .int sl], zA G kit 2 it, oC kre 1 [.ref kbt, .ref kby, .int (nI 0), .int (nI nx2_5), .int (nI kd2_5), .int (nI sr2_5), .int vl2_5, .int fo2_5, .int pl2_5, .int (nI li2_5), .int ht2_5, .int lt2_5, .int ct2_5], bA G kby 160 tb]) ⟨hx, hb, hml, hown, hts⟩ (c_X0_become l G H.size kb ka kc kcn kl kln kn knn w h la af nc fc nl fl ns fs kbt kat kct kcnt klt klnt knt knnt w2_5 h2_5 la2_5 af2_5 nc2_5 fc2_5 nl2_5 fl2_5 0 fst ) (cwV 1 hts gX5_text_X0_become rfl rfl rfl (by decide +kernel) ⟨Nat.le_of_ble_eq_true rfl, Nat.le_of_ble_eq_true rfl⟩) hK hP hD hS hA [1, 2, 3, 4, 5, 6, 7, 8, 12, 13, 14, 15, 16, 17, 18, 19] [0, 9, 10, 11, 20] rfl rfl (by decide) (by decide) (by decide) rfl rfl rfl hl.1 rfl (Nat.le_of_ble_eq_true rfl) dX5_text_40 ⟨Nat.le_of_ble_eq_true rfl, Nat.le_of_ble_eq_true rfl⟩ (fun u H locs hp40 hP hD hS => ?_)
    obtain ⟨u0_40, u1_40, u2_40, u3_40⟩ := u
    try dsimp only at hp40 hP hD
    obtain ⟨rfl, rfl, rfl, rfl⟩ := hp40
    replace hP : xP G [oC kx 5 [.ref kb, .ref kim, .ref kit, .ref kv, .ref kre, .int fo2_5, .ref ksh, .int rf, .ref kwa, .ref kta], oC kv 4 [.ref km, .ref kg, .int (nI vw), .int (nI vh), .int sl], zA G kit 2 it, oC kre 1 [.ref kbt, .ref kby, .int (nI 0), .int (nI nx2_5), .int (nI kd2_5), .int (nI sr2_5), .int vl2_5, .int fo2_5, .int pl2_5, .int (nI li2_5), .int ht2_5, .int lt2_5, .int ct2_5], bA G kby 160 tb, oC kb 0 [.int (nI w2_5), .int (nI h2_5), .int (nI la2_5), .ref ka, .ref kc, .ref kl, .ref kn], iA G ka 16 (va_cpy af2_5 af 0 0 16), oC kc 2 [.ref kcn, .int (nI 10), .int (nI nc2_5)], iA G kcn (3 * 10) (va_cpy fc2_5 fc 0 0 (3 * 10)), oC kl 2 [.ref kln, .int (nI 6), .int (nI nl2_5)], iA G kln (3 * 6) (va_cpy fl2_5 fl 0 0 (3 * 6)), oC kn 2 [.ref knn, .int (nI 8), .int (nI 0)], iA G knn (3 * 8) (va_cpy fst fs 0 0 (3 * 8)), oC kbt 0 [.int (nI w2_5), .int (nI h2_5), .int (nI la2_5), .ref kat, .ref kct, .ref klt, .ref knt], iA G kat 16 af2_5, oC kct 2 [.ref kcnt, .int (nI 10), .int (nI nc2_5)], iA G kcnt (3 * 10) fc2_5, oC klt 2 [.ref klnt, .int (nI 6), .int (nI nl2_5)], iA G klnt (3 * 6) fl2_5, oC knt 2 [.ref knnt, .int (nI 8), .int (nI 0)], iA G knnt (3 * 8) fst] H := hP
    replace hD : va_D (va_A (w_X5_text G kx kim kit ksh kwa kta tf rf kre kbt kby rl kd sr nx0 vl fo pl li hto lto ct kat kct klt knt wt ht9 lat kcnt klnt knnt nct nlt nst aft fct flt fst kb ka kc kcn kl kln kn knn w h la af nc fc nl fl ns fs kv km kg vw vh sl it tb) ss.heap.size) [oC kx 5 [.ref kb, .ref kim, .ref kit, .ref kv, .ref kre, .int fo2_5, .ref ksh, .int rf, .ref kwa, .ref kta], oC kv 4 [.ref km, .ref kg, .int (nI vw), .int (nI vh), .int sl], zA G kit 2 it, oC kre 1 [.ref kbt, .ref kby, .int (nI 0), .int (nI nx2_5), .int (nI kd2_5), .int (nI sr2_5), .int vl2_5, .int fo2_5, .int pl2_5, .int (nI li2_5), .int ht2_5, .int lt2_5, .int ct2_5], bA G kby 160 tb, oC kb 0 [.int (nI w2_5), .int (nI h2_5), .int (nI la2_5), .ref ka, .ref kc, .ref kl, .ref kn], iA G ka 16 (va_cpy af2_5 af 0 0 16), oC kc 2 [.ref kcn, .int (nI 10), .int (nI nc2_5)], iA G kcn (3 * 10) (va_cpy fc2_5 fc 0 0 (3 * 10)), oC kl 2 [.ref kln, .int (nI 6), .int (nI nl2_5)], iA G kln (3 * 6) (va_cpy fl2_5 fl 0 0 (3 * 6)), oC kn 2 [.ref knn, .int (nI 8), .int (nI 0)], iA G knn (3 * 8) (va_cpy fst fs 0 0 (3 * 8)), oC kbt 0 [.int (nI w2_5), .int (nI h2_5), .int (nI la2_5), .ref kat, .ref kct, .ref klt, .ref knt], iA G kat 16 af2_5, oC kct 2 [.ref kcnt, .int (nI 10), .int (nI nc2_5)], iA G kcnt (3 * 10) fc2_5, oC klt 2 [.ref klnt, .int (nI 6), .int (nI nl2_5)], iA G klnt (3 * 6) fl2_5, oC knt 2 [.ref knnt, .int (nI 8), .int (nI 0)], iA G knnt (3 * 8) fst] := hD
    refine lv_aload_n hx hb dX5_text_43 rfl (lv_at hl 0 rfl) ?_
    refine va_get (D := G.1) (ci := 5) (v := .ref kv) (C := RX5) (T := TX5) (N := 10) hx hb hts hin5 hown hK.1 hP 0 rfl rfl 3 (by decide) (hts (.fieldLink RX5 27 "BackLenses" "views" "LBackLenses$Views;") (List.mem_of_getElem? (i := 4) rfl)) (fun _ h9 => h9) rfl dX5_text_44 ?_
    refine lv_iconst (v := nI 1) hx hb dX5_text_47 (by decide) ?_
    refine va_putN (D := G.1) (ci := 4) (v := .int (nI 1)) (ty := .boolean) (C := RX4) (T := TX4) (N := 5) hx hb hts hin4 tyX4 tyX4_ok nmX4 hown hK.1 hP hD hS 1 rfl rfl 4 (by decide) (va_Nw.use rfl (hK.2 (Cond.fieldLinkNest "BackLenses" (77 : Nat) "BackLenses$Views" "stale" "Z" "BackLenses") (List.mem_of_getElem? (i := 22) rfl))) (fun _ h9 => h9) rfl (by decide +kernel) (by decide) (by decide) (Nat.le_of_ble_eq_true rfl) dX5_text_48 (fun H locs hP hD hS => ?_)
    replace hP : xP G [oC kx 5 [.ref kb, .ref kim, .ref kit, .ref kv, .ref kre, .int fo2_5, .ref ksh, .int rf, .ref kwa, .ref kta], oC kv 4 [.ref km, .ref kg, .int (nI vw), .int (nI vh), .int (nI 1)], zA G kit 2 it, oC kre 1 [.ref kbt, .ref kby, .int (nI 0), .int (nI nx2_5), .int (nI kd2_5), .int (nI sr2_5), .int vl2_5, .int fo2_5, .int pl2_5, .int (nI li2_5), .int ht2_5, .int lt2_5, .int ct2_5], bA G kby 160 tb, oC kb 0 [.int (nI w2_5), .int (nI h2_5), .int (nI la2_5), .ref ka, .ref kc, .ref kl, .ref kn], iA G ka 16 (va_cpy af2_5 af 0 0 16), oC kc 2 [.ref kcn, .int (nI 10), .int (nI nc2_5)], iA G kcn (3 * 10) (va_cpy fc2_5 fc 0 0 (3 * 10)), oC kl 2 [.ref kln, .int (nI 6), .int (nI nl2_5)], iA G kln (3 * 6) (va_cpy fl2_5 fl 0 0 (3 * 6)), oC kn 2 [.ref knn, .int (nI 8), .int (nI 0)], iA G knn (3 * 8) (va_cpy fst fs 0 0 (3 * 8)), oC kbt 0 [.int (nI w2_5), .int (nI h2_5), .int (nI la2_5), .ref kat, .ref kct, .ref klt, .ref knt], iA G kat 16 af2_5, oC kct 2 [.ref kcnt, .int (nI 10), .int (nI nc2_5)], iA G kcnt (3 * 10) fc2_5, oC klt 2 [.ref klnt, .int (nI 6), .int (nI nl2_5)], iA G klnt (3 * 6) fl2_5, oC knt 2 [.ref knnt, .int (nI 8), .int (nI 0)], iA G knnt (3 * 8) fst] H := hP
    replace hD : va_D (va_A (w_X5_text G kx kim kit ksh kwa kta tf rf kre kbt kby rl kd sr nx0 vl fo pl li hto lto ct kat kct klt knt wt ht9 lat kcnt klnt knnt nct nlt nst aft fct flt fst kb ka kc kcn kl kln kn knn w h la af nc fc nl fl ns fs kv km kg vw vh sl it tb) ss.heap.size) [oC kx 5 [.ref kb, .ref kim, .ref kit, .ref kv, .ref kre, .int fo2_5, .ref ksh, .int rf, .ref kwa, .ref kta], oC kv 4 [.ref km, .ref kg, .int (nI vw), .int (nI vh), .int (nI 1)], zA G kit 2 it, oC kre 1 [.ref kbt, .ref kby, .int (nI 0), .int (nI nx2_5), .int (nI kd2_5), .int (nI sr2_5), .int vl2_5, .int fo2_5, .int pl2_5, .int (nI li2_5), .int ht2_5, .int lt2_5, .int ct2_5], bA G kby 160 tb, oC kb 0 [.int (nI w2_5), .int (nI h2_5), .int (nI la2_5), .ref ka, .ref kc, .ref kl, .ref kn], iA G ka 16 (va_cpy af2_5 af 0 0 16), oC kc 2 [.ref kcn, .int (nI 10), .int (nI nc2_5)], iA G kcn (3 * 10) (va_cpy fc2_5 fc 0 0 (3 * 10)), oC kl 2 [.ref kln, .int (nI 6), .int (nI nl2_5)], iA G kln (3 * 6) (va_cpy fl2_5 fl 0 0 (3 * 6)), oC kn 2 [.ref knn, .int (nI 8), .int (nI 0)], iA G knn (3 * 8) (va_cpy fst fs 0 0 (3 * 8)), oC kbt 0 [.int (nI w2_5), .int (nI h2_5), .int (nI la2_5), .ref kat, .ref kct, .ref klt, .ref knt], iA G kat 16 af2_5, oC kct 2 [.ref kcnt, .int (nI 10), .int (nI nc2_5)], iA G kcnt (3 * 10) fc2_5, oC klt 2 [.ref klnt, .int (nI 6), .int (nI nl2_5)], iA G klnt (3 * 6) fl2_5, oC knt 2 [.ref knnt, .int (nI 8), .int (nI 0)], iA G knnt (3 * 8) fst] := hD
    refine lv_iconst (v := nI 0) hx hb dX5_text_51 (by decide) ?_
    refine lv_istore_n (lv' := [(1, .int (nI 0)), (0, .ref kx)]) hx hb dX5_text_52 rfl hl (by decide) rfl (fun ls hl => ?_)
    refine lv_iload_n hx hb dX5_text_53 rfl (lv_at hl 0 rfl) ?_
    refine lv_iconst (v := nI 2) hx hb dX5_text_54 (by decide) ?_
    refine xn_icmp_ge (tgt := 71) hx hb (by omega) (by omega) dX5_text_55 rfl (fun b55 => absurd b55 (by omega)) (fun _ => ?_)
    refine lv_aload_n hx hb dX5_text_58 rfl (lv_at hl 1 rfl) ?_
    refine va_get (D := G.1) (ci := 5) (v := .ref kit) (C := RX5) (T := TX5) (N := 10) hx hb hts hin5 hown hK.1 hP 0 rfl rfl 2 (by decide) (hts (.fieldLink RX5 20 "BackLenses" "imageThere" "[Z") (List.mem_of_getElem? (i := 5) rfl)) (fun _ h9 => h9) rfl dX5_text_59 ?_
    refine lv_iload_n hx hb dX5_text_62 rfl (lv_at hl 0 rfl) ?_
    refine lv_iconst (v := nI 0) hx hb dX5_text_63 (by decide) ?_
    refine xn_zast (y := nI 0) hx hb hK hP hD hS 2 rfl (by omega) (by omega) (by decide) dX5_text_64 (fun H locs hP hD hS => ?_)
    replace hP : xP G [oC kx 5 [.ref kb, .ref kim, .ref kit, .ref kv, .ref kre, .int fo2_5, .ref ksh, .int rf, .ref kwa, .ref kta], oC kv 4 [.ref km, .ref kg, .int (nI vw), .int (nI vh), .int (nI 1)], zA G kit 2 (upd it 0 (nI 0)), oC kre 1 [.ref kbt, .ref kby, .int (nI 0), .int (nI nx2_5), .int (nI kd2_5), .int (nI sr2_5), .int vl2_5, .int fo2_5, .int pl2_5, .int (nI li2_5), .int ht2_5, .int lt2_5, .int ct2_5], bA G kby 160 tb, oC kb 0 [.int (nI w2_5), .int (nI h2_5), .int (nI la2_5), .ref ka, .ref kc, .ref kl, .ref kn], iA G ka 16 (va_cpy af2_5 af 0 0 16), oC kc 2 [.ref kcn, .int (nI 10), .int (nI nc2_5)], iA G kcn (3 * 10) (va_cpy fc2_5 fc 0 0 (3 * 10)), oC kl 2 [.ref kln, .int (nI 6), .int (nI nl2_5)], iA G kln (3 * 6) (va_cpy fl2_5 fl 0 0 (3 * 6)), oC kn 2 [.ref knn, .int (nI 8), .int (nI 0)], iA G knn (3 * 8) (va_cpy fst fs 0 0 (3 * 8)), oC kbt 0 [.int (nI w2_5), .int (nI h2_5), .int (nI la2_5), .ref kat, .ref kct, .ref klt, .ref knt], iA G kat 16 af2_5, oC kct 2 [.ref kcnt, .int (nI 10), .int (nI nc2_5)], iA G kcnt (3 * 10) fc2_5, oC klt 2 [.ref klnt, .int (nI 6), .int (nI nl2_5)], iA G klnt (3 * 6) fl2_5, oC knt 2 [.ref knnt, .int (nI 8), .int (nI 0)], iA G knnt (3 * 8) fst] H := hP
    replace hD : va_D (va_A (w_X5_text G kx kim kit ksh kwa kta tf rf kre kbt kby rl kd sr nx0 vl fo pl li hto lto ct kat kct klt knt wt ht9 lat kcnt klnt knnt nct nlt nst aft fct flt fst kb ka kc kcn kl kln kn knn w h la af nc fc nl fl ns fs kv km kg vw vh sl it tb) ss.heap.size) [oC kx 5 [.ref kb, .ref kim, .ref kit, .ref kv, .ref kre, .int fo2_5, .ref ksh, .int rf, .ref kwa, .ref kta], oC kv 4 [.ref km, .ref kg, .int (nI vw), .int (nI vh), .int (nI 1)], zA G kit 2 (upd it 0 (nI 0)), oC kre 1 [.ref kbt, .ref kby, .int (nI 0), .int (nI nx2_5), .int (nI kd2_5), .int (nI sr2_5), .int vl2_5, .int fo2_5, .int pl2_5, .int (nI li2_5), .int ht2_5, .int lt2_5, .int ct2_5], bA G kby 160 tb, oC kb 0 [.int (nI w2_5), .int (nI h2_5), .int (nI la2_5), .ref ka, .ref kc, .ref kl, .ref kn], iA G ka 16 (va_cpy af2_5 af 0 0 16), oC kc 2 [.ref kcn, .int (nI 10), .int (nI nc2_5)], iA G kcn (3 * 10) (va_cpy fc2_5 fc 0 0 (3 * 10)), oC kl 2 [.ref kln, .int (nI 6), .int (nI nl2_5)], iA G kln (3 * 6) (va_cpy fl2_5 fl 0 0 (3 * 6)), oC kn 2 [.ref knn, .int (nI 8), .int (nI 0)], iA G knn (3 * 8) (va_cpy fst fs 0 0 (3 * 8)), oC kbt 0 [.int (nI w2_5), .int (nI h2_5), .int (nI la2_5), .ref kat, .ref kct, .ref klt, .ref knt], iA G kat 16 af2_5, oC kct 2 [.ref kcnt, .int (nI 10), .int (nI nc2_5)], iA G kcnt (3 * 10) fc2_5, oC klt 2 [.ref klnt, .int (nI 6), .int (nI nl2_5)], iA G klnt (3 * 6) fl2_5, oC knt 2 [.ref knnt, .int (nI 8), .int (nI 0)], iA G knnt (3 * 8) fst] := hD
    refine lv_iinc (k := 0) (v := nI 1) (lv' := [(1, .int (nI 1)), (0, .ref kx)]) hx hb dX5_text_65 hl rfl (xn_inc 0 1) (by decide) rfl (fun ls hl => ?_)
    refine lv_goto (tgt := 53) hx hb dX5_text_68 rfl ?_
    refine lv_iload_n hx hb dX5_text_53 rfl (lv_at hl 0 rfl) ?_
    refine lv_iconst (v := nI 2) hx hb dX5_text_54 (by decide) ?_
    refine xn_icmp_ge (tgt := 71) hx hb (by omega) (by omega) dX5_text_55 rfl (fun b55 => absurd b55 (by omega)) (fun _ => ?_)
    refine lv_aload_n hx hb dX5_text_58 rfl (lv_at hl 1 rfl) ?_
    refine va_get (D := G.1) (ci := 5) (v := .ref kit) (C := RX5) (T := TX5) (N := 10) hx hb hts hin5 hown hK.1 hP 0 rfl rfl 2 (by decide) (hts (.fieldLink RX5 20 "BackLenses" "imageThere" "[Z") (List.mem_of_getElem? (i := 5) rfl)) (fun _ h9 => h9) rfl dX5_text_59 ?_
    refine lv_iload_n hx hb dX5_text_62 rfl (lv_at hl 0 rfl) ?_
    refine lv_iconst (v := nI 0) hx hb dX5_text_63 (by decide) ?_
    refine xn_zast (y := nI 0) hx hb hK hP hD hS 2 rfl (by omega) (by omega) (by decide) dX5_text_64 (fun H locs hP hD hS => ?_)
    replace hP : xP G [oC kx 5 [.ref kb, .ref kim, .ref kit, .ref kv, .ref kre, .int fo2_5, .ref ksh, .int rf, .ref kwa, .ref kta], oC kv 4 [.ref km, .ref kg, .int (nI vw), .int (nI vh), .int (nI 1)], zA G kit 2 (upd (upd it 0 (nI 0)) 1 (nI 0)), oC kre 1 [.ref kbt, .ref kby, .int (nI 0), .int (nI nx2_5), .int (nI kd2_5), .int (nI sr2_5), .int vl2_5, .int fo2_5, .int pl2_5, .int (nI li2_5), .int ht2_5, .int lt2_5, .int ct2_5], bA G kby 160 tb, oC kb 0 [.int (nI w2_5), .int (nI h2_5), .int (nI la2_5), .ref ka, .ref kc, .ref kl, .ref kn], iA G ka 16 (va_cpy af2_5 af 0 0 16), oC kc 2 [.ref kcn, .int (nI 10), .int (nI nc2_5)], iA G kcn (3 * 10) (va_cpy fc2_5 fc 0 0 (3 * 10)), oC kl 2 [.ref kln, .int (nI 6), .int (nI nl2_5)], iA G kln (3 * 6) (va_cpy fl2_5 fl 0 0 (3 * 6)), oC kn 2 [.ref knn, .int (nI 8), .int (nI 0)], iA G knn (3 * 8) (va_cpy fst fs 0 0 (3 * 8)), oC kbt 0 [.int (nI w2_5), .int (nI h2_5), .int (nI la2_5), .ref kat, .ref kct, .ref klt, .ref knt], iA G kat 16 af2_5, oC kct 2 [.ref kcnt, .int (nI 10), .int (nI nc2_5)], iA G kcnt (3 * 10) fc2_5, oC klt 2 [.ref klnt, .int (nI 6), .int (nI nl2_5)], iA G klnt (3 * 6) fl2_5, oC knt 2 [.ref knnt, .int (nI 8), .int (nI 0)], iA G knnt (3 * 8) fst] H := hP
    replace hD : va_D (va_A (w_X5_text G kx kim kit ksh kwa kta tf rf kre kbt kby rl kd sr nx0 vl fo pl li hto lto ct kat kct klt knt wt ht9 lat kcnt klnt knnt nct nlt nst aft fct flt fst kb ka kc kcn kl kln kn knn w h la af nc fc nl fl ns fs kv km kg vw vh sl it tb) ss.heap.size) [oC kx 5 [.ref kb, .ref kim, .ref kit, .ref kv, .ref kre, .int fo2_5, .ref ksh, .int rf, .ref kwa, .ref kta], oC kv 4 [.ref km, .ref kg, .int (nI vw), .int (nI vh), .int (nI 1)], zA G kit 2 (upd (upd it 0 (nI 0)) 1 (nI 0)), oC kre 1 [.ref kbt, .ref kby, .int (nI 0), .int (nI nx2_5), .int (nI kd2_5), .int (nI sr2_5), .int vl2_5, .int fo2_5, .int pl2_5, .int (nI li2_5), .int ht2_5, .int lt2_5, .int ct2_5], bA G kby 160 tb, oC kb 0 [.int (nI w2_5), .int (nI h2_5), .int (nI la2_5), .ref ka, .ref kc, .ref kl, .ref kn], iA G ka 16 (va_cpy af2_5 af 0 0 16), oC kc 2 [.ref kcn, .int (nI 10), .int (nI nc2_5)], iA G kcn (3 * 10) (va_cpy fc2_5 fc 0 0 (3 * 10)), oC kl 2 [.ref kln, .int (nI 6), .int (nI nl2_5)], iA G kln (3 * 6) (va_cpy fl2_5 fl 0 0 (3 * 6)), oC kn 2 [.ref knn, .int (nI 8), .int (nI 0)], iA G knn (3 * 8) (va_cpy fst fs 0 0 (3 * 8)), oC kbt 0 [.int (nI w2_5), .int (nI h2_5), .int (nI la2_5), .ref kat, .ref kct, .ref klt, .ref knt], iA G kat 16 af2_5, oC kct 2 [.ref kcnt, .int (nI 10), .int (nI nc2_5)], iA G kcnt (3 * 10) fc2_5, oC klt 2 [.ref klnt, .int (nI 6), .int (nI nl2_5)], iA G klnt (3 * 6) fl2_5, oC knt 2 [.ref knnt, .int (nI 8), .int (nI 0)], iA G knnt (3 * 8) fst] := hD
    refine lv_iinc (k := 0) (v := nI 2) (lv' := [(1, .int (nI 2)), (0, .ref kx)]) hx hb dX5_text_65 hl rfl (xn_inc 1 1) (by decide) rfl (fun ls hl => ?_)
    refine lv_goto (tgt := 53) hx hb dX5_text_68 rfl ?_
    refine lv_iload_n hx hb dX5_text_53 rfl (lv_at hl 0 rfl) ?_
    refine lv_iconst (v := nI 2) hx hb dX5_text_54 (by decide) ?_
    refine xn_icmp_ge (tgt := 71) hx hb (by omega) (by omega) dX5_text_55 rfl (fun _ => ?_) (fun b55 => absurd b55 (by omega))
    refine lv_aload_n hx hb dX5_text_71 rfl (lv_at hl 1 rfl) ?_
    refine va_get (D := G.1) (ci := 5) (v := .ref kre) (C := RX5) (T := TX5) (N := 10) hx hb hts hin5 hown hK.1 hP 0 rfl rfl 4 (by decide) (hts (.fieldLink RX5 34 "BackLenses" "reader" "LBackLenses$Reader;") (List.mem_of_getElem? (i := 1) rfl)) (fun _ h9 => h9) rfl dX5_text_72 ?_
    refine va_getN (D := G.1) (ci := 1) (v := .int (nI li2_5)) (C := RX1) (T := TX1) (N := 13) hx hb hts hin1 hown hK.1 hP 3 rfl rfl 9 (by decide) (va_Nw.use rfl (hK.2 (Cond.fieldLinkNest "BackLenses" (81 : Nat) "BackLenses$Reader" "lines" "I" "BackLenses") (List.mem_of_getElem? (i := 26) rfl))) (fun _ h9 => h9) rfl dX5_text_75 ?_
    have hP := hP.sub (ws' := [oC kx 5 [.ref kb, .ref kim, .ref kit, .ref kv, .ref kre, .int fo2_5, .ref ksh, .int rf, .ref kwa, .ref kta], oC kre 1 [.ref kbt, .ref kby, .int (nI 0), .int (nI nx2_5), .int (nI kd2_5), .int (nI sr2_5), .int vl2_5, .int fo2_5, .int pl2_5, .int (nI li2_5), .int ht2_5, .int lt2_5, .int ct2_5], oC kbt 0 [.int (nI w2_5), .int (nI h2_5), .int (nI la2_5), .ref kat, .ref kct, .ref klt, .ref knt], iA G kat 16 af2_5, oC kct 2 [.ref kcnt, .int (nI 10), .int (nI nc2_5)], iA G kcnt (3 * 10) fc2_5, oC klt 2 [.ref klnt, .int (nI 6), .int (nI nl2_5)], iA G klnt (3 * 6) fl2_5, oC knt 2 [.ref knnt, .int (nI 8), .int (nI 0)], iA G knnt (3 * 8) fst, bA G kby 160 tb, oC kb 0 [.int (nI w2_5), .int (nI h2_5), .int (nI la2_5), .ref ka, .ref kc, .ref kl, .ref kn], iA G ka 16 (va_cpy af2_5 af 0 0 16), oC kc 2 [.ref kcn, .int (nI 10), .int (nI nc2_5)], iA G kcn (3 * 10) (va_cpy fc2_5 fc 0 0 (3 * 10)), oC kl 2 [.ref kln, .int (nI 6), .int (nI nl2_5)], iA G kln (3 * 6) (va_cpy fl2_5 fl 0 0 (3 * 6)), oC kn 2 [.ref knn, .int (nI 8), .int (nI 0)], iA G knn (3 * 8) (va_cpy fst fs 0 0 (3 * 8)), oC kv 4 [.ref km, .ref kg, .int (nI vw), .int (nI vh), .int (nI 1)], zA G kit 2 (upd (upd it 0 (nI 0)) 1 (nI 0))]) [0, 3, 13, 14, 15, 16, 17, 18, 19, 20, 4, 5, 6, 7, 8, 9, 10, 11, 12, 1, 2] rfl
    have hD := hD.sub (ws' := [oC kx 5 [.ref kb, .ref kim, .ref kit, .ref kv, .ref kre, .int fo2_5, .ref ksh, .int rf, .ref kwa, .ref kta], oC kre 1 [.ref kbt, .ref kby, .int (nI 0), .int (nI nx2_5), .int (nI kd2_5), .int (nI sr2_5), .int vl2_5, .int fo2_5, .int pl2_5, .int (nI li2_5), .int ht2_5, .int lt2_5, .int ct2_5], oC kbt 0 [.int (nI w2_5), .int (nI h2_5), .int (nI la2_5), .ref kat, .ref kct, .ref klt, .ref knt], iA G kat 16 af2_5, oC kct 2 [.ref kcnt, .int (nI 10), .int (nI nc2_5)], iA G kcnt (3 * 10) fc2_5, oC klt 2 [.ref klnt, .int (nI 6), .int (nI nl2_5)], iA G klnt (3 * 6) fl2_5, oC knt 2 [.ref knnt, .int (nI 8), .int (nI 0)], iA G knnt (3 * 8) fst, bA G kby 160 tb, oC kb 0 [.int (nI w2_5), .int (nI h2_5), .int (nI la2_5), .ref ka, .ref kc, .ref kl, .ref kn], iA G ka 16 (va_cpy af2_5 af 0 0 16), oC kc 2 [.ref kcn, .int (nI 10), .int (nI nc2_5)], iA G kcn (3 * 10) (va_cpy fc2_5 fc 0 0 (3 * 10)), oC kl 2 [.ref kln, .int (nI 6), .int (nI nl2_5)], iA G kln (3 * 6) (va_cpy fl2_5 fl 0 0 (3 * 6)), oC kn 2 [.ref knn, .int (nI 8), .int (nI 0)], iA G knn (3 * 8) (va_cpy fst fs 0 0 (3 * 8)), oC kv 4 [.ref km, .ref kg, .int (nI vw), .int (nI vh), .int (nI 1)], zA G kit 2 (upd (upd it 0 (nI 0)) 1 (nI 0))]) [0, 3, 13, 14, 15, 16, 17, 18, 19, 20, 4, 5, 6, 7, 8, 9, 10, 11, 12, 1, 2] (by decide) rfl
    refine W.iret (v := nI li2_5) hx hb hr (fun t ht hW => ⟨⟨nI li2_5, (nx2_5, kd2_5, sr2_5, vl2_5, fo2_5, pl2_5, ht2_5, lt2_5, ct2_5, w2_5, h2_5, la2_5, af2_5, nc2_5, fc2_5, nl2_5, fl2_5, li2_5, af0_5, fo3_5, pl3_5, w2_5, h2_5, la2_5, (va_cpy af2_5 af 0 0 16), nc2_5, (va_cpy fc2_5 fc 0 0 (3 * 10)), nl2_5, (va_cpy fl2_5 fl 0 0 (3 * 6)), 0, (va_cpy fst fs 0 0 (3 * 8)), nI 1, upd (upd it 0 (nI 0)) 1 (nI 0)), rfl, ?_, by rw [ht]; exact hP, hD⟩, hS.F ht⟩) hS.2.2 dX5_text_78
    try dsimp only
    first | exact ⟨(if_neg b15).symm, he5.1, he5.2.1, he5.2.2, (if_neg b15).symm⟩ | exact ⟨(if_pos b15).symm, he5.1, he5.2.1, he5.2.2, (if_pos b15).symm⟩
  · skip
    refine lv_bipush (v := (-10)) hx hb dX5_text_18 (by decide) ?_
    refine lv_aload_n hx hb dX5_text_20 rfl (lv_at hl 0 rfl) ?_
    refine va_get (D := G.1) (ci := 5) (v := .ref kre) (C := RX5) (T := TX5) (N := 10) hx hb hts hin5 hown hK.1 hP 0 rfl rfl 4 (by decide) (hts (.fieldLink RX5 34 "BackLenses" "reader" "LBackLenses$Reader;") (List.mem_of_getElem? (i := 1) rfl)) (fun _ h9 => h9) rfl dX5_text_21 ?_
    refine va_getN (D := G.1) (ci := 1) (v := .int pl2_5) (C := RX1) (T := TX1) (N := 13) hx hb hts hin1 hown hK.1 hP 11 rfl rfl 8 (by decide) (va_Nw.use rfl (hK.2 (Cond.fieldLinkNest "BackLenses" (67 : Nat) "BackLenses$Reader" "place" "I" "BackLenses") (List.mem_of_getElem? (i := 25) rfl))) (fun _ h9 => h9) rfl dX5_text_24 ?_
    refine lv_isub hx hb dX5_text_27 ?_
    have hP := hP.sub (ws' := [oC kx 5 [.ref kb, .ref kim, .ref kit, .ref kv, .ref kre, .int fo2_5, .ref ksh, .int rf, .ref kwa, .ref kta], oC kre 1 [.ref kbt, .ref kby, .int (nI 0), .int (nI nx2_5), .int (nI kd2_5), .int (nI sr2_5), .int vl2_5, .int fo2_5, .int pl2_5, .int (nI li2_5), .int ht2_5, .int lt2_5, .int ct2_5], oC kbt 0 [.int (nI w2_5), .int (nI h2_5), .int (nI la2_5), .ref kat, .ref kct, .ref klt, .ref knt], iA G kat 16 af2_5, oC kct 2 [.ref kcnt, .int (nI 10), .int (nI nc2_5)], iA G kcnt (3 * 10) fc2_5, oC klt 2 [.ref klnt, .int (nI 6), .int (nI nl2_5)], iA G klnt (3 * 6) fl2_5, oC knt 2 [.ref knnt, .int (nI 8), .int (nI 0)], iA G knnt (3 * 8) fst, bA G kby 160 tb, oC kb 0 [.int (nI w), .int (nI h), .int (nI la), .ref ka, .ref kc, .ref kl, .ref kn], iA G ka 16 af, oC kc 2 [.ref kcn, .int (nI 10), .int (nI nc)], iA G kcn (3 * 10) fc, oC kl 2 [.ref kln, .int (nI 6), .int (nI nl)], iA G kln (3 * 6) fl, oC kn 2 [.ref knn, .int (nI 8), .int (nI ns)], iA G knn (3 * 8) fs, oC kv 4 [.ref km, .ref kg, .int (nI vw), .int (nI vh), .int sl], zA G kit 2 it]) [0, 11, 12, 13, 14, 15, 16, 17, 18, 19, 20, 1, 2, 3, 4, 5, 6, 7, 8, 9, 10] rfl
    have hD := hD.sub (ws' := [oC kx 5 [.ref kb, .ref kim, .ref kit, .ref kv, .ref kre, .int fo2_5, .ref ksh, .int rf, .ref kwa, .ref kta], oC kre 1 [.ref kbt, .ref kby, .int (nI 0), .int (nI nx2_5), .int (nI kd2_5), .int (nI sr2_5), .int vl2_5, .int fo2_5, .int pl2_5, .int (nI li2_5), .int ht2_5, .int lt2_5, .int ct2_5], oC kbt 0 [.int (nI w2_5), .int (nI h2_5), .int (nI la2_5), .ref kat, .ref kct, .ref klt, .ref knt], iA G kat 16 af2_5, oC kct 2 [.ref kcnt, .int (nI 10), .int (nI nc2_5)], iA G kcnt (3 * 10) fc2_5, oC klt 2 [.ref klnt, .int (nI 6), .int (nI nl2_5)], iA G klnt (3 * 6) fl2_5, oC knt 2 [.ref knnt, .int (nI 8), .int (nI 0)], iA G knnt (3 * 8) fst, bA G kby 160 tb, oC kb 0 [.int (nI w), .int (nI h), .int (nI la), .ref ka, .ref kc, .ref kl, .ref kn], iA G ka 16 af, oC kc 2 [.ref kcn, .int (nI 10), .int (nI nc)], iA G kcn (3 * 10) fc, oC kl 2 [.ref kln, .int (nI 6), .int (nI nl)], iA G kln (3 * 6) fl, oC kn 2 [.ref knn, .int (nI 8), .int (nI ns)], iA G knn (3 * 8) fs, oC kv 4 [.ref km, .ref kg, .int (nI vw), .int (nI vh), .int sl], zA G kit 2 it]) [0, 11, 12, 13, 14, 15, 16, 17, 18, 19, 20, 1, 2, 3, 4, 5, 6, 7, 8, 9, 10] (by decide) rfl
    refine W.iret (v := (-10) - pl2_5) hx hb hr (fun t ht hW => ⟨⟨(-10) - pl2_5, (nx2_5, kd2_5, sr2_5, vl2_5, fo2_5, pl2_5, ht2_5, lt2_5, ct2_5, w2_5, h2_5, la2_5, af2_5, nc2_5, fc2_5, nl2_5, fl2_5, li2_5, af0_5, fo3_5, pl3_5, w, h, la, af, nc, fc, nl, fl, ns, fs, sl, it), rfl, ?_, by rw [ht]; exact hP, hD⟩, hS.F ht⟩) hS.2.2 dX5_text_28
    try dsimp only
    first | exact ⟨(if_neg b15).symm, he5.1, he5.2.1, he5.2.2, (if_neg b15).symm⟩ | exact ⟨(if_pos b15).symm, he5.1, he5.2.1, he5.2.2, (if_pos b15).symm⟩
end
section
/-! the reference's reader: pos, from, sort, value, fault, wrongAt -/
abbrev MS : Type := Nat × Nat × Nat × Int32 × Nat × Int32
def byF (t : Nat → Int32) (rl p : Nat) : Int32 := if p < rl then t p else (-1)
abbrev tpOk (t : Nat → Int32) (rl : Nat) : Prop := ∀ j, j < rl → inR (t j) 128
theorem byF_sp {t : Nat → Int32} {rl p : Nat} : byF t rl p = nI 32 ↔ (p < rl ∧ isSp (t p) = true) := by
  unfold byF
  by_cases h : p < rl
  · rw [if_pos h]; exact ⟨fun q => ⟨h, decide_eq_true q⟩, fun q => of_decide_eq_true q.2⟩
  · rw [if_neg h]; exact ⟨fun q => absurd q (by decide), fun q => absurd q.1 h⟩
theorem byF_L {t : Nat → Int32} {rl p : Nat} : (97 ≤ (byF t rl p).toInt ∧ (byF t rl p).toInt ≤ 122) ↔ (p < rl ∧ isL (t p) = true) := by
  unfold byF
  by_cases h : p < rl
  · rw [if_pos h]; exact ⟨fun q => ⟨h, decide_eq_true q⟩, fun q => of_decide_eq_true q.2⟩
  · rw [if_neg h]; exact ⟨fun q => absurd q.1 (by decide), fun q => absurd q.1 h⟩
theorem byF_D {t : Nat → Int32} {rl p : Nat} : (48 ≤ (byF t rl p).toInt ∧ (byF t rl p).toInt ≤ 57) ↔ (p < rl ∧ isD (t p) = true) := by
  unfold byF
  by_cases h : p < rl
  · rw [if_pos h]; exact ⟨fun q => ⟨h, decide_eq_true q⟩, fun q => of_decide_eq_true q.2⟩
  · rw [if_neg h]; exact ⟨fun q => absurd q.1 (by decide), fun q => absurd q.1 h⟩
theorem byF_neg {t : Nat → Int32} {rl p : Nat} (ht : tpOk t rl) : (byF t rl p).toInt < 0 ↔ rl ≤ p := by
  unfold byF
  by_cases h : p < rl
  · rw [if_pos h]; have := ht p h; unfold inR at this; omega
  · rw [if_neg h]; exact ⟨fun _ => by omega, fun _ => by decide⟩
def mTk (t : Nat → Int32) (rl q : Nat) (s : MS) : MS :=
  if rl ≤ q then (q, q, 0, s.2.2.2.1, s.2.2.2.2)
  else if isL (t q) = true then (ruE isL t rl q, q, 1, s.2.2.2.1, s.2.2.2.2)
  else if isD (t q) = true then
    (if ruE isD t rl q - q ≤ 2 then (ruE isD t rl q, q, 2, dvF t (min (ruE isD t rl q - q) 2) q (nI 0), s.2.2.2.2) else (ruE isD t rl q, q, 2, dvF t (min (ruE isD t rl q - q) 2) q (nI 0), 1, nI q))
  else if t q = nI 59 then (q + 1, q, 3, s.2.2.2.1, s.2.2.2.2) else (q + 1, q, 3, s.2.2.2.1, 1, nI q)
def mTok (t : Nat → Int32) (rl : Nat) (s : MS) : MS := if s.2.2.2.2.1 = 0 then mTk t rl (ruE isSp t rl s.1) s else s
theorem mTok_0 {t : Nat → Int32} {rl ps fr so ft : Nat} {vl wa : Int32} (h : ¬ ft = 0) : mTok t rl (ps, fr, so, vl, ft, wa) = (ps, fr, so, vl, ft, wa) := if_neg h
theorem mTok_1 {t : Nat → Int32} {rl ps fr so ft p : Nat} {vl wa : Int32} (h : ft = 0) (hq : ruE isSp t rl ps = p) : mTok t rl (ps, fr, so, vl, ft, wa) = mTk t rl p (ps, fr, so, vl, ft, wa) := by
  subst hq; exact if_pos h
section Mt
variable {t : Nat → Int32} {rl ps fr so ft p : Nat} {vl wa : Int32}
theorem mTk_0 (h : rl ≤ p) : mTk t rl p (ps, fr, so, vl, ft, wa) = (p, p, 0, vl, ft, wa) := if_pos h
theorem mTk_1 (h : ¬ rl ≤ p) (h1 : isL (t p) = true) {x : Nat} (hx : ruE isL t rl p = x) : mTk t rl p (ps, fr, so, vl, ft, wa) = (x, p, 1, vl, ft, wa) := by subst hx; exact (if_neg h).trans (if_pos h1)
theorem mTk_2 (h : ¬ rl ≤ p) (h1 : ¬ isL (t p) = true) (h2 : isD (t p) = true) {x : Nat} (hx : ruE isD t rl p = x) (h3 : x - p ≤ 2) : mTk t rl p (ps, fr, so, vl, ft, wa) = (x, p, 2, dvF t (min (x - p) 2) p (nI 0), ft, wa) := by subst hx; exact (if_neg h).trans ((if_neg h1).trans ((if_pos h2).trans (if_pos h3)))
theorem mTk_3 (h : ¬ rl ≤ p) (h1 : ¬ isL (t p) = true) (h2 : isD (t p) = true) {x : Nat} (hx : ruE isD t rl p = x) (h3 : ¬ x - p ≤ 2) : mTk t rl p (ps, fr, so, vl, ft, wa) = (x, p, 2, dvF t (min (x - p) 2) p (nI 0), 1, nI p) := by subst hx; exact (if_neg h).trans ((if_neg h1).trans ((if_pos h2).trans (if_neg h3)))
theorem mTk_4 (h : ¬ rl ≤ p) (h1 : ¬ isL (t p) = true) (h2 : ¬ isD (t p) = true) (h3 : t p = nI 59) : mTk t rl p (ps, fr, so, vl, ft, wa) = (p + 1, p, 3, vl, ft, wa) := (if_neg h).trans ((if_neg h1).trans ((if_neg h2).trans (if_pos h3)))
theorem mTk_5 (h : ¬ rl ≤ p) (h1 : ¬ isL (t p) = true) (h2 : ¬ isD (t p) = true) (h3 : ¬ t p = nI 59) : mTk t rl p (ps, fr, so, vl, ft, wa) = (p + 1, p, 3, vl, 1, nI p) := (if_neg h).trans ((if_neg h1).trans ((if_neg h2).trans (if_neg h3)))
end Mt
theorem dv2_go {t : Nat → Int32} {k q : Nat} (h : k < 2) : dvF t (min (k + 1) 2) q (nI 0) = nI 10 * dvF t (min k 2) q (nI 0) + t (q + k) - nI 48 := by
  rw [show min (k + 1) 2 = k + 1 by omega, show min k 2 = k by omega]; exact dvF_snoc k q (nI 0)
theorem dv2_stay {t : Nat → Int32} {k q : Nat} (h : ¬ k < 2) : dvF t (min (k + 1) 2) q (nI 0) = dvF t (min k 2) q (nI 0) := by
  rw [show min (k + 1) 2 = 2 by omega, show min k 2 = 2 by omega]
theorem mTok_bd {t : Nat → Int32} {rl : Nat} {s : MS} (h : s.1 ≤ rl) : (mTok t rl s).1 ≤ rl ∧ s.1 ≤ (mTok t rl s).1 := by
  have h1 : ruE isSp t rl s.1 ≤ rl := ruF_le _ _ h
  have h2 : s.1 ≤ ruE isSp t rl s.1 := ruF_ge _ _
  unfold mTok
  split
  · unfold mTk
    split
    · exact ⟨h1, h2⟩
    · split
      · exact ⟨ruF_le _ _ h1, Nat.le_trans h2 (ruF_ge _ _)⟩
      · split
        · split
          · exact ⟨ruF_le _ _ h1, Nat.le_trans h2 (ruF_ge _ _)⟩
          · exact ⟨ruF_le _ _ h1, Nat.le_trans h2 (ruF_ge _ _)⟩
        · split
          · exact ⟨(show ruE isSp t rl s.1 + 1 ≤ rl by omega), (show s.1 ≤ ruE isSp t rl s.1 + 1 by omega)⟩
          · exact ⟨(show ruE isSp t rl s.1 + 1 ≤ rl by omega), (show s.1 ≤ ruE isSp t rl s.1 + 1 by omega)⟩
  · exact ⟨h, Nat.le_refl _⟩
end
section
abbrev w_X6_byteAt (G : XG) (ko : Nat) (ad : Nat → Nat) (w h la tp : Nat) (dw dh dl : Nat) (tl tc hc hd : Int32) (ps fr so : Nat) (vl : Int32) (ft : Nat) (wa tr : Int32) (tb : Nat → Int32) : va_W := [oC ko 6 [.ref (ad 0), .ref (ad 1), .int (nI w), .int (nI h), .int (nI la), .ref (ad 2), .int (nI dw), .int (nI dh), .int (nI dl), .int tl, .int tc, .int hc, .int hd, .ref (ad 3), .int (nI tp), .int (nI ps), .int (nI fr), .int (nI so), .int vl, .int (nI ft), .int wa, .ref (ad 4), .ref (ad 5), .ref (ad 6), .ref (ad 7), .ref (ad 8), .ref (ad 9), .ref (ad 10), .int tr], iA G (ad 3) 160 tb]
abbrev Q_X6_byteAt (G : XG) (ko : Nat) (ad : Nat → Nat) (w h la tp : Nat) (dw dh dl : Nat) (tl tc hc hd : Int32) (ps fr so : Nat) (vl : Int32) (ft : Nat) (wa tr : Int32) (tb : Nat → Int32) (p : Nat) : Array Value → State → Outcome → State → Prop := (xRi (fun r => r = byF tb tp p))
set_option maxHeartbeats 4000000 in
set_option maxRecDepth 100000 in
theorem c_X6_byteAt (l : Launch) (G : XG) (ko : Nat) (ad : Nat → Nat) (w h la tp : Nat) (dw dh dl : Nat) (tl tc hc hd : Int32) (ps fr so : Nat) (vl : Int32) (ft : Nat) (wa tr : Int32) (tb : Nat → Int32) (p : Nat) (htp : tp ≤ 160) (hp : p < 1000) : Met l yX6_byteAt wsX6_byteAt ({ frames := 0, cells := 0, slots := 0, locals := 0 } : Room) (va_Pc [.ref ko, .int (nI p)] (xRp G (w_X6_byteAt G ko ad w h la tp dw dh dl tl tc hc hd ps fr so vl ft wa tr tb))) (Q_X6_byteAt G ko ad w h la tp dw dh dl tl tc hc hd ps fr so vl ft wa tr tb p) 0 0 (fun _ => False) := by
  refine Met.ofW (cc := cX6_byteAt) (maxL := 2) (ret := (some .int)) (by decide) rfl ?_
  intro pp ee ss mm aa below mt cd s₁ BB hml hv
  obtain ⟨rfl, hP, hK⟩ := hv
  have hx := BB.exec
  have hb := BB.bytes
  have hr := BB.returns
  have hts := atoms_spec (ws := wsX6_byteAt) BB.pre
  have hown : ss.vm.findClass RX6 = some mm.cls := findClass_of_methodNamed BB.named
  have hlocks := BB.notSynchronized
  have hS : va_S (fun _ => False) ss.heap ss.heap [] := va_S.rf
  replace hP : xP G [oC ko 6 [.ref (ad 0), .ref (ad 1), .int (nI w), .int (nI h), .int (nI la), .ref (ad 2), .int (nI dw), .int (nI dh), .int (nI dl), .int tl, .int tc, .int hc, .int hd, .ref (ad 3), .int (nI tp), .int (nI ps), .int (nI fr), .int (nI so), .int vl, .int (nI ft), .int wa, .ref (ad 4), .ref (ad 5), .ref (ad 6), .ref (ad 7), .ref (ad 8), .ref (ad 9), .ref (ad 10), .int tr], iA G (ad 3) 160 tb] ss.heap := hP
  have hin6 : ∀ w ∈ u_ws RX6 TX6 29, w ∈ wsX6_byteAt := fun w h => List.mem_cons_of_mem _ (List.mem_append_right _ h)
  have hl := lv_entry ([.ref ko, .int (nI p)]) (n := 2) (Nat.le_of_ble_eq_true rfl)
  rw [lg_entry_eq]
  generalize (lg_sl ([.ref ko, .int (nI p)]) ++ List.replicate (2 - (lg_sl ([.ref ko, .int (nI p)])).length) Slot.unset).toArray = ls at hl ⊢
  replace hl : lv_has ls 2 [(0, .ref ko), (1, .int (nI p))] := hl
  refine lv_iload_n hx hb dX6_byteAt_0 rfl (lv_at hl 1 rfl) ?_
  refine lv_aload_n hx hb dX6_byteAt_1 rfl (lv_at hl 0 rfl) ?_
  refine va_get (D := G.1) (ci := 6) (v := .int (nI tp)) (C := RX6) (T := TX6) (N := 29) hx hb hts hin6 hown hK.1 hP 0 rfl rfl 14 (by decide) (hts (.fieldLink RX6 87 "BackLensesModel" "taped" "I") (List.mem_of_getElem? (i := 1) rfl)) (fun _ h9 => h9) rfl dX6_byteAt_2 ?_
  refine xn_icmp_ge (tgt := 17) hx hb (by omega) (by omega) dX6_byteAt_5 rfl (fun b5 => ?_) (fun b5 => ?_)
  · skip
    refine lv_iconst (v := (-1)) hx hb dX6_byteAt_17 (by decide) ?_
    refine W.iret (v := (-1)) hx hb hr (fun t ht hW => ⟨⟨(-1), (), rfl, ?_, trivial⟩, hS.F ht⟩) hS.2.2 dX6_byteAt_18
    first | exact (if_pos (Nat.lt_of_not_le b5)).symm | exact (if_neg (Nat.not_lt_of_le b5)).symm
  · skip
    refine lv_aload_n hx hb dX6_byteAt_8 rfl (lv_at hl 0 rfl) ?_
    refine va_get (D := G.1) (ci := 6) (v := .ref (ad 3)) (C := RX6) (T := TX6) (N := 29) hx hb hts hin6 hown hK.1 hP 0 rfl rfl 13 (by decide) (hts (.fieldLink RX6 20 "BackLensesModel" "tape" "[I") (List.mem_of_getElem? (i := 2) rfl)) (fun _ h9 => h9) rfl dX6_byteAt_9 ?_
    refine lv_iload_n hx hb dX6_byteAt_12 rfl (lv_at hl 1 rfl) ?_
    refine xn_iald hx hb hK hP 1 rfl (by omega) (by omega) dX6_byteAt_13 ?_
    refine lv_goto (tgt := 18) hx hb dX6_byteAt_14 rfl ?_
    refine W.iret (v := tb p) hx hb hr (fun t ht hW => ⟨⟨tb p, (), rfl, ?_, trivial⟩, hS.F ht⟩) hS.2.2 dX6_byteAt_18
    first | exact (if_pos (Nat.lt_of_not_le b5)).symm | exact (if_neg (Nat.not_lt_of_le b5)).symm

abbrev Q_X6_in_b (G : XG) (x : Int32) (lo hi : Nat) : Array Value → State → Outcome → State → Prop := (xRi (fun r => r = xb ((lo : Int) ≤ x.toInt ∧ x.toInt ≤ (hi : Int))))
set_option maxHeartbeats 4000000 in
set_option maxRecDepth 100000 in
theorem c_X6_in_b (l : Launch) (G : XG) (x : Int32) (lo hi : Nat) (hlo : lo < 1000000) (hhi : hi < 1000000) : Met l yX6_in wsX6_in ({ frames := 0, cells := 0, slots := 0, locals := 0 } : Room) (va_Pc [.long x.toInt64, .long (lN lo), .long (lN hi)] (fun _ => True)) (Q_X6_in_b G x lo hi) 0 0 (fun _ => False) := by
  refine Met.ofW (cc := cX6_in) (maxL := 6) (ret := (some .boolean)) (by decide) rfl ?_
  intro pp ee ss mm aa below mt cd s₁ BB hml hv
  obtain ⟨rfl, -⟩ := hv
  have hx := BB.exec
  have hb := BB.bytes
  have hr := BB.returns
  have hts := atoms_spec (ws := wsX6_in) BB.pre
  have hown : ss.vm.findClass RX6 = some mm.cls := findClass_of_methodNamed BB.named
  have hlocks := BB.notSynchronized
  have hS : va_S (fun _ => False) ss.heap ss.heap [] := va_S.rf
  have hP : xP (G) [] ss.heap := fun k q h => by cases h
  have hl := lv_entry ([.long x.toInt64, .long (lN lo), .long (lN hi)]) (n := 6) (Nat.le_of_ble_eq_true rfl)
  rw [lg_entry_eq]
  generalize (lg_sl ([.long x.toInt64, .long (lN lo), .long (lN hi)]) ++ List.replicate (6 - (lg_sl ([.long x.toInt64, .long (lN lo), .long (lN hi)])).length) Slot.unset).toArray = ls at hl ⊢
  replace hl : lv_has ls 6 [(0, .long x.toInt64), (2, .long (lN lo)), (4, .long (lN hi))] := hl
  have h0 : (lN lo).toInt = (lo : Int) := (lN_toInt' (by omega))
  have h1 : (lN hi).toInt = (hi : Int) := (lN_toInt' (by omega))
  refine lv_lload_n hx hb dX6_in_0 rfl (lv_at hl 0 rfl) ?_
  refine lv_lload_n hx hb dX6_in_1 rfl (lv_at hl 1 rfl) ?_
  refine W.lcmp hx hb dX6_in_2 ?_
  refine xl_if_lt (tgt := 17) hx hb dX6_in_3 rfl (fun b3 => ?_) (fun b3 => ?_)
  · skip
    refine lv_iconst (v := nI 0) hx hb dX6_in_17 (by decide) ?_
    refine W.zret (v := nI 0) (ty := .boolean) hx hb hr (by decide) (fun t ht hW => ⟨⟨nI 0, (), rfl, ?_, trivial⟩, hS.F ht⟩) hS.2.2 dX6_in_18
    first | exact (xb_t (by simp only [i64_toInt] at *; omega)).symm | exact (xb_f (fun q => by simp only [i64_toInt] at *; omega)).symm
  · skip
    refine lv_lload_n hx hb dX6_in_6 rfl (lv_at hl 0 rfl) ?_
    refine lv_lload hx hb dX6_in_7 (lv_at hl 2 rfl) ?_
    refine W.lcmp hx hb dX6_in_9 ?_
    refine xl_if_gt (tgt := 17) hx hb dX6_in_10 rfl (fun b10 => ?_) (fun b10 => ?_)
    · skip
      refine lv_iconst (v := nI 0) hx hb dX6_in_17 (by decide) ?_
      refine W.zret (v := nI 0) (ty := .boolean) hx hb hr (by decide) (fun t ht hW => ⟨⟨nI 0, (), rfl, ?_, trivial⟩, hS.F ht⟩) hS.2.2 dX6_in_18
      first | exact (xb_t (by simp only [i64_toInt] at *; omega)).symm | exact (xb_f (fun q => by simp only [i64_toInt] at *; omega)).symm
    · skip
      refine lv_iconst (v := nI 1) hx hb dX6_in_13 (by decide) ?_
      refine lv_goto (tgt := 18) hx hb dX6_in_14 rfl ?_
      refine W.zret (v := nI 1) (ty := .boolean) hx hb hr (by decide) (fun t ht hW => ⟨⟨nI 1, (), rfl, ?_, trivial⟩, hS.F ht⟩) hS.2.2 dX6_in_18
      first | exact (xb_t (by simp only [i64_toInt] at *; omega)).symm | exact (xb_f (fun q => by simp only [i64_toInt] at *; omega)).symm

abbrev w_X6_needs_1 (G : XG) (ko : Nat) (ad : Nat → Nat) (w h la tp : Nat) (dw dh dl : Nat) (tl tc hc hd : Int32) (ps fr so : Nat) (vl : Int32) (ft : Nat) (wa tr : Int32) : va_W := [oC ko 6 [.ref (ad 0), .ref (ad 1), .int (nI w), .int (nI h), .int (nI la), .ref (ad 2), .int (nI dw), .int (nI dh), .int (nI dl), .int tl, .int tc, .int hc, .int hd, .ref (ad 3), .int (nI tp), .int (nI ps), .int (nI fr), .int (nI so), .int vl, .int (nI ft), .int wa, .ref (ad 4), .ref (ad 5), .ref (ad 6), .ref (ad 7), .ref (ad 8), .ref (ad 9), .ref (ad 10), .int tr]]
abbrev Q_X6_needs_1 (G : XG) (sz : Nat) (ko : Nat) (ad : Nat → Nat) (w h la tp : Nat) (dw dh dl : Nat) (tl tc hc hd : Int32) (ps fr so : Nat) (vl : Int32) (ft : Nat) (wa tr : Int32) (cd9 : Nat) : Array Value → State → Outcome → State → Prop := (va_Qv (fun (u : Unit) => True) (xWb G sz (w_X6_needs_1 G ko ad w h la tp dw dh dl tl tc hc hd ps fr so vl ft wa tr) (fun u : Unit => [oC ko 6 [.ref (ad 0), .ref (ad 1), .int (nI w), .int (nI h), .int (nI la), .ref (ad 2), .int (nI dw), .int (nI dh), .int (nI dl), .int tl, .int tc, .int hc, .int hd, .ref (ad 3), .int (nI tp), .int (nI ps), .int (nI fr), .int (nI so), .int vl, .int (nI ft), .int wa, .ref (ad 4), .ref (ad 5), .ref (ad 6), .ref (ad 7), .ref (ad 8), .ref (ad 9), .ref (ad 10), .int tr]])) (va_A (w_X6_needs_1 G ko ad w h la tp dw dh dl tl tc hc hd ps fr so vl ft wa tr) sz))
set_option maxHeartbeats 4000000 in
set_option maxRecDepth 100000 in
theorem c_X6_needs_1 (l : Launch) (G : XG) (sz : Nat) (ko : Nat) (ad : Nat → Nat) (w h la tp : Nat) (dw dh dl : Nat) (tl tc hc hd : Int32) (ps fr so : Nat) (vl : Int32) (ft : Nat) (wa tr : Int32) (cd9 : Nat)  : Met l yX6_needs wsX6_needs ({ frames := 0, cells := 0, slots := 0, locals := 0 } : Room) (va_Pc [.ref ko, .int (nI 1), .int (nI cd9)] (xWp G sz (w_X6_needs_1 G ko ad w h la tp dw dh dl tl tc hc hd ps fr so vl ft wa tr))) (Q_X6_needs_1 G sz ko ad w h la tp dw dh dl tl tc hc hd ps fr so vl ft wa tr cd9) 0 0 (va_A (w_X6_needs_1 G ko ad w h la tp dw dh dl tl tc hc hd ps fr so vl ft wa tr) sz) := by
  refine Met.ofW (cc := cX6_needs) (maxL := 3) (ret := none) (by decide) rfl ?_
  intro pp ee ss mm aa below mt cd s₁ BB hml hv
  obtain ⟨rfl, hsz, hP, hK, hD0⟩ := hv
  have hx := BB.exec
  have hb := BB.bytes
  have hr := BB.returns
  have hts := atoms_spec (ws := wsX6_needs) BB.pre
  have hown : ss.vm.findClass RX6 = some mm.cls := findClass_of_methodNamed BB.named
  have hlocks := BB.notSynchronized
  subst hsz
  have hD := hD0.self (sz := ss.heap.size)
  have hA : ∀ q : Nat, ss.heap.size ≤ q → va_A (w_X6_needs_1 G ko ad w h la tp dw dh dl tl tc hc hd ps fr so vl ft wa tr) ss.heap.size q := fun q h => Or.inr h
  have hS : va_S (va_A (w_X6_needs_1 G ko ad w h la tp dw dh dl tl tc hc hd ps fr so vl ft wa tr) ss.heap.size) ss.heap ss.heap [] := va_S.rf
  replace hD : va_D (va_A (w_X6_needs_1 G ko ad w h la tp dw dh dl tl tc hc hd ps fr so vl ft wa tr) ss.heap.size) [oC ko 6 [.ref (ad 0), .ref (ad 1), .int (nI w), .int (nI h), .int (nI la), .ref (ad 2), .int (nI dw), .int (nI dh), .int (nI dl), .int tl, .int tc, .int hc, .int hd, .ref (ad 3), .int (nI tp), .int (nI ps), .int (nI fr), .int (nI so), .int vl, .int (nI ft), .int wa, .ref (ad 4), .ref (ad 5), .ref (ad 6), .ref (ad 7), .ref (ad 8), .ref (ad 9), .ref (ad 10), .int tr]] := hD
  replace hP : xP G [oC ko 6 [.ref (ad 0), .ref (ad 1), .int (nI w), .int (nI h), .int (nI la), .ref (ad 2), .int (nI dw), .int (nI dh), .int (nI dl), .int tl, .int tc, .int hc, .int hd, .ref (ad 3), .int (nI tp), .int (nI ps), .int (nI fr), .int (nI so), .int vl, .int (nI ft), .int wa, .ref (ad 4), .ref (ad 5), .ref (ad 6), .ref (ad 7), .ref (ad 8), .ref (ad 9), .ref (ad 10), .int tr]] ss.heap := hP
  have hin6 : ∀ w ∈ u_ws RX6 TX6 29, w ∈ wsX6_needs := fun w h => List.mem_cons_of_mem _ (List.mem_append_right _ h)
  have hl := lv_entry ([.ref ko, .int (nI 1), .int (nI cd9)]) (n := 3) (Nat.le_of_ble_eq_true rfl)
  rw [lg_entry_eq]
  generalize (lg_sl ([.ref ko, .int (nI 1), .int (nI cd9)]) ++ List.replicate (3 - (lg_sl ([.ref ko, .int (nI 1), .int (nI cd9)])).length) Slot.unset).toArray = ls at hl ⊢
  replace hl : lv_has ls 3 [(0, .ref ko), (1, .int (nI 1)), (2, .int (nI cd9))] := hl
  refine lv_iload_n hx hb dX6_needs_0 rfl (lv_at hl 1 rfl) ?_
  refine xn_if_ne (tgt := 24) hx hb (by omega) dX6_needs_1 rfl (fun _ => ?_) (fun b1 => absurd b1 (by omega))
  have hP := hP.sub (ws' := [oC ko 6 [.ref (ad 0), .ref (ad 1), .int (nI w), .int (nI h), .int (nI la), .ref (ad 2), .int (nI dw), .int (nI dh), .int (nI dl), .int tl, .int tc, .int hc, .int hd, .ref (ad 3), .int (nI tp), .int (nI ps), .int (nI fr), .int (nI so), .int vl, .int (nI ft), .int wa, .ref (ad 4), .ref (ad 5), .ref (ad 6), .ref (ad 7), .ref (ad 8), .ref (ad 9), .ref (ad 10), .int tr]]) [0] rfl
  have hD := hD.sub (ws' := [oC ko 6 [.ref (ad 0), .ref (ad 1), .int (nI w), .int (nI h), .int (nI la), .ref (ad 2), .int (nI dw), .int (nI dh), .int (nI dl), .int tl, .int tc, .int hc, .int hd, .ref (ad 3), .int (nI tp), .int (nI ps), .int (nI fr), .int (nI so), .int vl, .int (nI ft), .int wa, .ref (ad 4), .ref (ad 5), .ref (ad 6), .ref (ad 7), .ref (ad 8), .ref (ad 9), .ref (ad 10), .int tr]]) [0] (by decide) rfl
  refine W.vret hx hb hr (fun t ht hW => ⟨⟨(), rfl, ?_, by rw [ht]; exact hP, hD⟩, hS.F ht⟩) hS.2.2 dX6_needs_24
  trivial

abbrev w_X6_needs_0 (G : XG) (ko : Nat) (ad : Nat → Nat) (w h la tp : Nat) (dw dh dl : Nat) (tl tc hc hd : Int32) (ps fr so : Nat) (vl : Int32) (ft : Nat) (wa tr : Int32) : va_W := [oC ko 6 [.ref (ad 0), .ref (ad 1), .int (nI w), .int (nI h), .int (nI la), .ref (ad 2), .int (nI dw), .int (nI dh), .int (nI dl), .int tl, .int tc, .int hc, .int hd, .ref (ad 3), .int (nI tp), .int (nI ps), .int (nI fr), .int (nI so), .int vl, .int (nI ft), .int wa, .ref (ad 4), .ref (ad 5), .ref (ad 6), .ref (ad 7), .ref (ad 8), .ref (ad 9), .ref (ad 10), .int tr]]
abbrev Q_X6_needs_0 (G : XG) (sz : Nat) (ko : Nat) (ad : Nat → Nat) (w h la tp : Nat) (dw dh dl : Nat) (tl tc hc hd : Int32) (ps fr so : Nat) (vl : Int32) (ft : Nat) (wa tr : Int32) (cd9 : Nat) : Array Value → State → Outcome → State → Prop := (va_Qv (fun (u : Unit) => True) (xWb G sz (w_X6_needs_0 G ko ad w h la tp dw dh dl tl tc hc hd ps fr so vl ft wa tr) (fun u : Unit => [oC ko 6 [.ref (ad 0), .ref (ad 1), .int (nI w), .int (nI h), .int (nI la), .ref (ad 2), .int (nI dw), .int (nI dh), .int (nI dl), .int tl, .int tc, .int hc, .int hd, .ref (ad 3), .int (nI tp), .int (nI ps), .int (nI fr), .int (nI so), .int vl, .int (nI cd9), .int (nI fr), .ref (ad 4), .ref (ad 5), .ref (ad 6), .ref (ad 7), .ref (ad 8), .ref (ad 9), .ref (ad 10), .int tr]])) (va_A (w_X6_needs_0 G ko ad w h la tp dw dh dl tl tc hc hd ps fr so vl ft wa tr) sz))
set_option maxHeartbeats 4000000 in
set_option maxRecDepth 100000 in
theorem c_X6_needs_0 (l : Launch) (G : XG) (sz : Nat) (ko : Nat) (ad : Nat → Nat) (w h la tp : Nat) (dw dh dl : Nat) (tl tc hc hd : Int32) (ps fr so : Nat) (vl : Int32) (ft : Nat) (wa tr : Int32) (cd9 : Nat) (hft : ft = 0) : Met l yX6_needs wsX6_needs ({ frames := 0, cells := 0, slots := 0, locals := 0 } : Room) (va_Pc [.ref ko, .int (nI 0), .int (nI cd9)] (xWp G sz (w_X6_needs_0 G ko ad w h la tp dw dh dl tl tc hc hd ps fr so vl ft wa tr))) (Q_X6_needs_0 G sz ko ad w h la tp dw dh dl tl tc hc hd ps fr so vl ft wa tr cd9) 0 0 (va_A (w_X6_needs_0 G ko ad w h la tp dw dh dl tl tc hc hd ps fr so vl ft wa tr) sz) := by
  refine Met.ofW (cc := cX6_needs) (maxL := 3) (ret := none) (by decide) rfl ?_
  intro pp ee ss mm aa below mt cd s₁ BB hml hv
  obtain ⟨rfl, hsz, hP, hK, hD0⟩ := hv
  have hx := BB.exec
  have hb := BB.bytes
  have hr := BB.returns
  have hts := atoms_spec (ws := wsX6_needs) BB.pre
  have hown : ss.vm.findClass RX6 = some mm.cls := findClass_of_methodNamed BB.named
  have hlocks := BB.notSynchronized
  subst hsz
  have hD := hD0.self (sz := ss.heap.size)
  have hA : ∀ q : Nat, ss.heap.size ≤ q → va_A (w_X6_needs_0 G ko ad w h la tp dw dh dl tl tc hc hd ps fr so vl ft wa tr) ss.heap.size q := fun q h => Or.inr h
  have hS : va_S (va_A (w_X6_needs_0 G ko ad w h la tp dw dh dl tl tc hc hd ps fr so vl ft wa tr) ss.heap.size) ss.heap ss.heap [] := va_S.rf
  replace hD : va_D (va_A (w_X6_needs_0 G ko ad w h la tp dw dh dl tl tc hc hd ps fr so vl ft wa tr) ss.heap.size) [oC ko 6 [.ref (ad 0), .ref (ad 1), .int (nI w), .int (nI h), .int (nI la), .ref (ad 2), .int (nI dw), .int (nI dh), .int (nI dl), .int tl, .int tc, .int hc, .int hd, .ref (ad 3), .int (nI tp), .int (nI ps), .int (nI fr), .int (nI so), .int vl, .int (nI ft), .int wa, .ref (ad 4), .ref (ad 5), .ref (ad 6), .ref (ad 7), .ref (ad 8), .ref (ad 9), .ref (ad 10), .int tr]] := hD
  replace hP : xP G [oC ko 6 [.ref (ad 0), .ref (ad 1), .int (nI w), .int (nI h), .int (nI la), .ref (ad 2), .int (nI dw), .int (nI dh), .int (nI dl), .int tl, .int tc, .int hc, .int hd, .ref (ad 3), .int (nI tp), .int (nI ps), .int (nI fr), .int (nI so), .int vl, .int (nI ft), .int wa, .ref (ad 4), .ref (ad 5), .ref (ad 6), .ref (ad 7), .ref (ad 8), .ref (ad 9), .ref (ad 10), .int tr]] ss.heap := hP
  have hin6 : ∀ w ∈ u_ws RX6 TX6 29, w ∈ wsX6_needs := fun w h => List.mem_cons_of_mem _ (List.mem_append_right _ h)
  have hl := lv_entry ([.ref ko, .int (nI 0), .int (nI cd9)]) (n := 3) (Nat.le_of_ble_eq_true rfl)
  rw [lg_entry_eq]
  generalize (lg_sl ([.ref ko, .int (nI 0), .int (nI cd9)]) ++ List.replicate (3 - (lg_sl ([.ref ko, .int (nI 0), .int (nI cd9)])).length) Slot.unset).toArray = ls at hl ⊢
  replace hl : lv_has ls 3 [(0, .ref ko), (1, .int (nI 0)), (2, .int (nI cd9))] := hl
  refine lv_iload_n hx hb dX6_needs_0 rfl (lv_at hl 1 rfl) ?_
  refine xn_if_ne (tgt := 24) hx hb (by omega) dX6_needs_1 rfl (fun b1 => absurd b1 (by omega)) (fun _ => ?_)
  refine lv_aload_n hx hb dX6_needs_4 rfl (lv_at hl 0 rfl) ?_
  refine va_get (D := G.1) (ci := 6) (v := .int (nI ft)) (C := RX6) (T := TX6) (N := 29) hx hb hts hin6 hown hK.1 hP 0 rfl rfl 19 (by decide) (hts (.fieldLink RX6 90 "BackLensesModel" "fault" "I") (List.mem_of_getElem? (i := 1) rfl)) (fun _ h9 => h9) rfl dX6_needs_5 ?_
  refine xn_if_ne (tgt := 24) hx hb (by omega) dX6_needs_8 rfl (fun b8 => absurd b8 (by omega)) (fun _ => ?_)
  refine lv_aload_n hx hb dX6_needs_11 rfl (lv_at hl 0 rfl) ?_
  refine lv_iload_n hx hb dX6_needs_12 rfl (lv_at hl 2 rfl) ?_
  refine va_put (D := G.1) (ci := 6) (v := .int (nI cd9)) (ty := .int) (C := RX6) (T := TX6) (N := 29) hx hb hts hin6 tyX6 tyX6_ok nmX6 hown hK.1 hP hD hS 0 rfl rfl 19 (by decide) (hts (.fieldLink RX6 90 "BackLensesModel" "fault" "I") (List.mem_of_getElem? (i := 1) rfl)) (fun _ h9 => h9) rfl (by decide +kernel) rfl rfl (Nat.le_of_ble_eq_true rfl) dX6_needs_13 (fun H locs hP hD hS => ?_)
  replace hP : xP G [oC ko 6 [.ref (ad 0), .ref (ad 1), .int (nI w), .int (nI h), .int (nI la), .ref (ad 2), .int (nI dw), .int (nI dh), .int (nI dl), .int tl, .int tc, .int hc, .int hd, .ref (ad 3), .int (nI tp), .int (nI ps), .int (nI fr), .int (nI so), .int vl, .int (nI cd9), .int wa, .ref (ad 4), .ref (ad 5), .ref (ad 6), .ref (ad 7), .ref (ad 8), .ref (ad 9), .ref (ad 10), .int tr]] H := hP
  replace hD : va_D (va_A (w_X6_needs_0 G ko ad w h la tp dw dh dl tl tc hc hd ps fr so vl ft wa tr) ss.heap.size) [oC ko 6 [.ref (ad 0), .ref (ad 1), .int (nI w), .int (nI h), .int (nI la), .ref (ad 2), .int (nI dw), .int (nI dh), .int (nI dl), .int tl, .int tc, .int hc, .int hd, .ref (ad 3), .int (nI tp), .int (nI ps), .int (nI fr), .int (nI so), .int vl, .int (nI cd9), .int wa, .ref (ad 4), .ref (ad 5), .ref (ad 6), .ref (ad 7), .ref (ad 8), .ref (ad 9), .ref (ad 10), .int tr]] := hD
  refine lv_aload_n hx hb dX6_needs_16 rfl (lv_at hl 0 rfl) ?_
  refine lv_aload_n hx hb dX6_needs_17 rfl (lv_at hl 0 rfl) ?_
  refine va_get (D := G.1) (ci := 6) (v := .int (nI fr)) (C := RX6) (T := TX6) (N := 29) hx hb hts hin6 hown hK.1 hP 0 rfl rfl 16 (by decide) (hts (.fieldLink RX6 93 "BackLensesModel" "from" "I") (List.mem_of_getElem? (i := 2) rfl)) (fun _ h9 => h9) rfl dX6_needs_18 ?_
  refine va_put (D := G.1) (ci := 6) (v := .int (nI fr)) (ty := .int) (C := RX6) (T := TX6) (N := 29) hx hb hts hin6 tyX6 tyX6_ok nmX6 hown hK.1 hP hD hS 0 rfl rfl 20 (by decide) (hts (.fieldLink RX6 96 "BackLensesModel" "wrongAt" "I") (List.mem_of_getElem? (i := 3) rfl)) (fun _ h9 => h9) rfl (by decide +kernel) rfl rfl (Nat.le_of_ble_eq_true rfl) dX6_needs_21 (fun H locs hP hD hS => ?_)
  replace hP : xP G [oC ko 6 [.ref (ad 0), .ref (ad 1), .int (nI w), .int (nI h), .int (nI la), .ref (ad 2), .int (nI dw), .int (nI dh), .int (nI dl), .int tl, .int tc, .int hc, .int hd, .ref (ad 3), .int (nI tp), .int (nI ps), .int (nI fr), .int (nI so), .int vl, .int (nI cd9), .int (nI fr), .ref (ad 4), .ref (ad 5), .ref (ad 6), .ref (ad 7), .ref (ad 8), .ref (ad 9), .ref (ad 10), .int tr]] H := hP
  replace hD : va_D (va_A (w_X6_needs_0 G ko ad w h la tp dw dh dl tl tc hc hd ps fr so vl ft wa tr) ss.heap.size) [oC ko 6 [.ref (ad 0), .ref (ad 1), .int (nI w), .int (nI h), .int (nI la), .ref (ad 2), .int (nI dw), .int (nI dh), .int (nI dl), .int tl, .int tc, .int hc, .int hd, .ref (ad 3), .int (nI tp), .int (nI ps), .int (nI fr), .int (nI so), .int vl, .int (nI cd9), .int (nI fr), .ref (ad 4), .ref (ad 5), .ref (ad 6), .ref (ad 7), .ref (ad 8), .ref (ad 9), .ref (ad 10), .int tr]] := hD
  have hP := hP.sub (ws' := [oC ko 6 [.ref (ad 0), .ref (ad 1), .int (nI w), .int (nI h), .int (nI la), .ref (ad 2), .int (nI dw), .int (nI dh), .int (nI dl), .int tl, .int tc, .int hc, .int hd, .ref (ad 3), .int (nI tp), .int (nI ps), .int (nI fr), .int (nI so), .int vl, .int (nI cd9), .int (nI fr), .ref (ad 4), .ref (ad 5), .ref (ad 6), .ref (ad 7), .ref (ad 8), .ref (ad 9), .ref (ad 10), .int tr]]) [0] rfl
  have hD := hD.sub (ws' := [oC ko 6 [.ref (ad 0), .ref (ad 1), .int (nI w), .int (nI h), .int (nI la), .ref (ad 2), .int (nI dw), .int (nI dh), .int (nI dl), .int tl, .int tc, .int hc, .int hd, .ref (ad 3), .int (nI tp), .int (nI ps), .int (nI fr), .int (nI so), .int vl, .int (nI cd9), .int (nI fr), .ref (ad 4), .ref (ad 5), .ref (ad 6), .ref (ad 7), .ref (ad 8), .ref (ad 9), .ref (ad 10), .int tr]]) [0] (by decide) rfl
  refine W.vret hx hb hr (fun t ht hW => ⟨⟨(), rfl, ?_, by rw [ht]; exact hP, hD⟩, hS.F ht⟩) hS.2.2 dX6_needs_24
  trivial

abbrev w_X6_needs_0n (G : XG) (ko : Nat) (ad : Nat → Nat) (w h la tp : Nat) (dw dh dl : Nat) (tl tc hc hd : Int32) (ps fr so : Nat) (vl : Int32) (ft : Nat) (wa tr : Int32) : va_W := [oC ko 6 [.ref (ad 0), .ref (ad 1), .int (nI w), .int (nI h), .int (nI la), .ref (ad 2), .int (nI dw), .int (nI dh), .int (nI dl), .int tl, .int tc, .int hc, .int hd, .ref (ad 3), .int (nI tp), .int (nI ps), .int (nI fr), .int (nI so), .int vl, .int (nI ft), .int wa, .ref (ad 4), .ref (ad 5), .ref (ad 6), .ref (ad 7), .ref (ad 8), .ref (ad 9), .ref (ad 10), .int tr]]
abbrev Q_X6_needs_0n (G : XG) (sz : Nat) (ko : Nat) (ad : Nat → Nat) (w h la tp : Nat) (dw dh dl : Nat) (tl tc hc hd : Int32) (ps fr so : Nat) (vl : Int32) (ft : Nat) (wa tr : Int32) (cd9 : Nat) : Array Value → State → Outcome → State → Prop := (va_Qv (fun (u : Unit) => True) (xWb G sz (w_X6_needs_0n G ko ad w h la tp dw dh dl tl tc hc hd ps fr so vl ft wa tr) (fun u : Unit => [oC ko 6 [.ref (ad 0), .ref (ad 1), .int (nI w), .int (nI h), .int (nI la), .ref (ad 2), .int (nI dw), .int (nI dh), .int (nI dl), .int tl, .int tc, .int hc, .int hd, .ref (ad 3), .int (nI tp), .int (nI ps), .int (nI fr), .int (nI so), .int vl, .int (nI ft), .int wa, .ref (ad 4), .ref (ad 5), .ref (ad 6), .ref (ad 7), .ref (ad 8), .ref (ad 9), .ref (ad 10), .int tr]])) (va_A (w_X6_needs_0n G ko ad w h la tp dw dh dl tl tc hc hd ps fr so vl ft wa tr) sz))
set_option maxHeartbeats 4000000 in
set_option maxRecDepth 100000 in
theorem c_X6_needs_0n (l : Launch) (G : XG) (sz : Nat) (ko : Nat) (ad : Nat → Nat) (w h la tp : Nat) (dw dh dl : Nat) (tl tc hc hd : Int32) (ps fr so : Nat) (vl : Int32) (ft : Nat) (wa tr : Int32) (cd9 : Nat) (hft : ¬ ft = 0) (hftb : ft < 1000) : Met l yX6_needs wsX6_needs ({ frames := 0, cells := 0, slots := 0, locals := 0 } : Room) (va_Pc [.ref ko, .int (nI 0), .int (nI cd9)] (xWp G sz (w_X6_needs_0n G ko ad w h la tp dw dh dl tl tc hc hd ps fr so vl ft wa tr))) (Q_X6_needs_0n G sz ko ad w h la tp dw dh dl tl tc hc hd ps fr so vl ft wa tr cd9) 0 0 (va_A (w_X6_needs_0n G ko ad w h la tp dw dh dl tl tc hc hd ps fr so vl ft wa tr) sz) := by
  refine Met.ofW (cc := cX6_needs) (maxL := 3) (ret := none) (by decide) rfl ?_
  intro pp ee ss mm aa below mt cd s₁ BB hml hv
  obtain ⟨rfl, hsz, hP, hK, hD0⟩ := hv
  have hx := BB.exec
  have hb := BB.bytes
  have hr := BB.returns
  have hts := atoms_spec (ws := wsX6_needs) BB.pre
  have hown : ss.vm.findClass RX6 = some mm.cls := findClass_of_methodNamed BB.named
  have hlocks := BB.notSynchronized
  subst hsz
  have hD := hD0.self (sz := ss.heap.size)
  have hA : ∀ q : Nat, ss.heap.size ≤ q → va_A (w_X6_needs_0n G ko ad w h la tp dw dh dl tl tc hc hd ps fr so vl ft wa tr) ss.heap.size q := fun q h => Or.inr h
  have hS : va_S (va_A (w_X6_needs_0n G ko ad w h la tp dw dh dl tl tc hc hd ps fr so vl ft wa tr) ss.heap.size) ss.heap ss.heap [] := va_S.rf
  replace hD : va_D (va_A (w_X6_needs_0n G ko ad w h la tp dw dh dl tl tc hc hd ps fr so vl ft wa tr) ss.heap.size) [oC ko 6 [.ref (ad 0), .ref (ad 1), .int (nI w), .int (nI h), .int (nI la), .ref (ad 2), .int (nI dw), .int (nI dh), .int (nI dl), .int tl, .int tc, .int hc, .int hd, .ref (ad 3), .int (nI tp), .int (nI ps), .int (nI fr), .int (nI so), .int vl, .int (nI ft), .int wa, .ref (ad 4), .ref (ad 5), .ref (ad 6), .ref (ad 7), .ref (ad 8), .ref (ad 9), .ref (ad 10), .int tr]] := hD
  replace hP : xP G [oC ko 6 [.ref (ad 0), .ref (ad 1), .int (nI w), .int (nI h), .int (nI la), .ref (ad 2), .int (nI dw), .int (nI dh), .int (nI dl), .int tl, .int tc, .int hc, .int hd, .ref (ad 3), .int (nI tp), .int (nI ps), .int (nI fr), .int (nI so), .int vl, .int (nI ft), .int wa, .ref (ad 4), .ref (ad 5), .ref (ad 6), .ref (ad 7), .ref (ad 8), .ref (ad 9), .ref (ad 10), .int tr]] ss.heap := hP
  have hin6 : ∀ w ∈ u_ws RX6 TX6 29, w ∈ wsX6_needs := fun w h => List.mem_cons_of_mem _ (List.mem_append_right _ h)
  have hl := lv_entry ([.ref ko, .int (nI 0), .int (nI cd9)]) (n := 3) (Nat.le_of_ble_eq_true rfl)
  rw [lg_entry_eq]
  generalize (lg_sl ([.ref ko, .int (nI 0), .int (nI cd9)]) ++ List.replicate (3 - (lg_sl ([.ref ko, .int (nI 0), .int (nI cd9)])).length) Slot.unset).toArray = ls at hl ⊢
  replace hl : lv_has ls 3 [(0, .ref ko), (1, .int (nI 0)), (2, .int (nI cd9))] := hl
  refine lv_iload_n hx hb dX6_needs_0 rfl (lv_at hl 1 rfl) ?_
  refine xn_if_ne (tgt := 24) hx hb (by omega) dX6_needs_1 rfl (fun b1 => absurd b1 (by omega)) (fun _ => ?_)
  refine lv_aload_n hx hb dX6_needs_4 rfl (lv_at hl 0 rfl) ?_
  refine va_get (D := G.1) (ci := 6) (v := .int (nI ft)) (C := RX6) (T := TX6) (N := 29) hx hb hts hin6 hown hK.1 hP 0 rfl rfl 19 (by decide) (hts (.fieldLink RX6 90 "BackLensesModel" "fault" "I") (List.mem_of_getElem? (i := 1) rfl)) (fun _ h9 => h9) rfl dX6_needs_5 ?_
  refine xn_if_ne (tgt := 24) hx hb (by omega) dX6_needs_8 rfl (fun _ => ?_) (fun b8 => absurd b8 (by omega))
  have hP := hP.sub (ws' := [oC ko 6 [.ref (ad 0), .ref (ad 1), .int (nI w), .int (nI h), .int (nI la), .ref (ad 2), .int (nI dw), .int (nI dh), .int (nI dl), .int tl, .int tc, .int hc, .int hd, .ref (ad 3), .int (nI tp), .int (nI ps), .int (nI fr), .int (nI so), .int vl, .int (nI ft), .int wa, .ref (ad 4), .ref (ad 5), .ref (ad 6), .ref (ad 7), .ref (ad 8), .ref (ad 9), .ref (ad 10), .int tr]]) [0] rfl
  have hD := hD.sub (ws' := [oC ko 6 [.ref (ad 0), .ref (ad 1), .int (nI w), .int (nI h), .int (nI la), .ref (ad 2), .int (nI dw), .int (nI dh), .int (nI dl), .int tl, .int tc, .int hc, .int hd, .ref (ad 3), .int (nI tp), .int (nI ps), .int (nI fr), .int (nI so), .int vl, .int (nI ft), .int wa, .ref (ad 4), .ref (ad 5), .ref (ad 6), .ref (ad 7), .ref (ad 8), .ref (ad 9), .ref (ad 10), .int tr]]) [0] (by decide) rfl
  refine W.vret hx hb hr (fun t ht hW => ⟨⟨(), rfl, ?_, by rw [ht]; exact hP, hD⟩, hS.F ht⟩) hS.2.2 dX6_needs_24
  trivial

abbrev w_X6_needs_g (G : XG) (ko : Nat) (ad : Nat → Nat) (w h la tp : Nat) (dw dh dl : Nat) (tl tc hc hd : Int32) (ps fr so : Nat) (vl : Int32) (ft : Nat) (wa tr : Int32) : va_W := [oC ko 6 [.ref (ad 0), .ref (ad 1), .int (nI w), .int (nI h), .int (nI la), .ref (ad 2), .int (nI dw), .int (nI dh), .int (nI dl), .int tl, .int tc, .int hc, .int hd, .ref (ad 3), .int (nI tp), .int (nI ps), .int (nI fr), .int (nI so), .int vl, .int (nI ft), .int wa, .ref (ad 4), .ref (ad 5), .ref (ad 6), .ref (ad 7), .ref (ad 8), .ref (ad 9), .ref (ad 10), .int tr]]
abbrev Q_X6_needs_g (G : XG) (sz : Nat) (ko : Nat) (ad : Nat → Nat) (w h la tp : Nat) (dw dh dl : Nat) (tl tc hc hd : Int32) (ps fr so : Nat) (vl : Int32) (ft : Nat) (wa tr : Int32) (P : Prop) (iP : Decidable P) (cd9 : Nat) : Array Value → State → Outcome → State → Prop := (va_Qv (fun (u : Nat × Int32) => (u.1, u.2) = (if P then (ft, wa) else (cd9, nI fr))) (xWb G sz (w_X6_needs_g G ko ad w h la tp dw dh dl tl tc hc hd ps fr so vl ft wa tr) (fun u : Nat × Int32 => [oC ko 6 [.ref (ad 0), .ref (ad 1), .int (nI w), .int (nI h), .int (nI la), .ref (ad 2), .int (nI dw), .int (nI dh), .int (nI dl), .int tl, .int tc, .int hc, .int hd, .ref (ad 3), .int (nI tp), .int (nI ps), .int (nI fr), .int (nI so), .int vl, .int (nI u.1), .int u.2, .ref (ad 4), .ref (ad 5), .ref (ad 6), .ref (ad 7), .ref (ad 8), .ref (ad 9), .ref (ad 10), .int tr]])) (va_A (w_X6_needs_g G ko ad w h la tp dw dh dl tl tc hc hd ps fr so vl ft wa tr) sz))
set_option maxHeartbeats 4000000 in
set_option maxRecDepth 100000 in
theorem c_X6_needs_g (l : Launch) (G : XG) (sz : Nat) (ko : Nat) (ad : Nat → Nat) (w h la tp : Nat) (dw dh dl : Nat) (tl tc hc hd : Int32) (ps fr so : Nat) (vl : Int32) (ft : Nat) (wa tr : Int32) (P : Prop) (iP : Decidable P) (cd9 : Nat) (hft : ft = 0) : Met l yX6_needs wsX6_needs ({ frames := 0, cells := 0, slots := 0, locals := 0 } : Room) (va_Pc [.ref ko, .int (xb (P)), .int (nI cd9)] (xWp G sz (w_X6_needs_g G ko ad w h la tp dw dh dl tl tc hc hd ps fr so vl ft wa tr))) (Q_X6_needs_g G sz ko ad w h la tp dw dh dl tl tc hc hd ps fr so vl ft wa tr P iP cd9) 0 0 (va_A (w_X6_needs_g G ko ad w h la tp dw dh dl tl tc hc hd ps fr so vl ft wa tr) sz) := by
  refine Met.ofW (cc := cX6_needs) (maxL := 3) (ret := none) (by decide) rfl ?_
  intro pp ee ss mm aa below mt cd s₁ BB hml hv
  obtain ⟨rfl, hsz, hP, hK, hD0⟩ := hv
  have hx := BB.exec
  have hb := BB.bytes
  have hr := BB.returns
  have hts := atoms_spec (ws := wsX6_needs) BB.pre
  have hown : ss.vm.findClass RX6 = some mm.cls := findClass_of_methodNamed BB.named
  have hlocks := BB.notSynchronized
  subst hsz
  have hD := hD0.self (sz := ss.heap.size)
  have hA : ∀ q : Nat, ss.heap.size ≤ q → va_A (w_X6_needs_g G ko ad w h la tp dw dh dl tl tc hc hd ps fr so vl ft wa tr) ss.heap.size q := fun q h => Or.inr h
  have hS : va_S (va_A (w_X6_needs_g G ko ad w h la tp dw dh dl tl tc hc hd ps fr so vl ft wa tr) ss.heap.size) ss.heap ss.heap [] := va_S.rf
  replace hD : va_D (va_A (w_X6_needs_g G ko ad w h la tp dw dh dl tl tc hc hd ps fr so vl ft wa tr) ss.heap.size) [oC ko 6 [.ref (ad 0), .ref (ad 1), .int (nI w), .int (nI h), .int (nI la), .ref (ad 2), .int (nI dw), .int (nI dh), .int (nI dl), .int tl, .int tc, .int hc, .int hd, .ref (ad 3), .int (nI tp), .int (nI ps), .int (nI fr), .int (nI so), .int vl, .int (nI ft), .int wa, .ref (ad 4), .ref (ad 5), .ref (ad 6), .ref (ad 7), .ref (ad 8), .ref (ad 9), .ref (ad 10), .int tr]] := hD
  replace hP : xP G [oC ko 6 [.ref (ad 0), .ref (ad 1), .int (nI w), .int (nI h), .int (nI la), .ref (ad 2), .int (nI dw), .int (nI dh), .int (nI dl), .int tl, .int tc, .int hc, .int hd, .ref (ad 3), .int (nI tp), .int (nI ps), .int (nI fr), .int (nI so), .int vl, .int (nI ft), .int wa, .ref (ad 4), .ref (ad 5), .ref (ad 6), .ref (ad 7), .ref (ad 8), .ref (ad 9), .ref (ad 10), .int tr]] ss.heap := hP
  have hin6 : ∀ w ∈ u_ws RX6 TX6 29, w ∈ wsX6_needs := fun w h => List.mem_cons_of_mem _ (List.mem_append_right _ h)
  have hl := lv_entry ([.ref ko, .int (xb (P)), .int (nI cd9)]) (n := 3) (Nat.le_of_ble_eq_true rfl)
  rw [lg_entry_eq]
  generalize (lg_sl ([.ref ko, .int (xb (P)), .int (nI cd9)]) ++ List.replicate (3 - (lg_sl ([.ref ko, .int (xb (P)), .int (nI cd9)])).length) Slot.unset).toArray = ls at hl ⊢
  replace hl : lv_has ls 3 [(0, .ref ko), (1, .int (xb (P))), (2, .int (nI cd9))] := hl
  refine lv_iload_n hx hb dX6_needs_0 rfl (lv_at hl 1 rfl) ?_
  refine xb_if_ne (tgt := 24) hx hb dX6_needs_1 rfl (fun b1 => ?_) (fun b1 => ?_)
  · skip
    have hP := hP.sub (ws' := [oC ko 6 [.ref (ad 0), .ref (ad 1), .int (nI w), .int (nI h), .int (nI la), .ref (ad 2), .int (nI dw), .int (nI dh), .int (nI dl), .int tl, .int tc, .int hc, .int hd, .ref (ad 3), .int (nI tp), .int (nI ps), .int (nI fr), .int (nI so), .int vl, .int (nI ft), .int wa, .ref (ad 4), .ref (ad 5), .ref (ad 6), .ref (ad 7), .ref (ad 8), .ref (ad 9), .ref (ad 10), .int tr]]) [0] rfl
    have hD := hD.sub (ws' := [oC ko 6 [.ref (ad 0), .ref (ad 1), .int (nI w), .int (nI h), .int (nI la), .ref (ad 2), .int (nI dw), .int (nI dh), .int (nI dl), .int tl, .int tc, .int hc, .int hd, .ref (ad 3), .int (nI tp), .int (nI ps), .int (nI fr), .int (nI so), .int vl, .int (nI ft), .int wa, .ref (ad 4), .ref (ad 5), .ref (ad 6), .ref (ad 7), .ref (ad 8), .ref (ad 9), .ref (ad 10), .int tr]]) [0] (by decide) rfl
    refine W.vret hx hb hr (fun t ht hW => ⟨⟨(ft, wa), rfl, ?_, by rw [ht]; exact hP, hD⟩, hS.F ht⟩) hS.2.2 dX6_needs_24
    try dsimp only
    first | exact (if_pos b1).symm | exact (if_neg b1).symm
  · skip
    refine lv_aload_n hx hb dX6_needs_4 rfl (lv_at hl 0 rfl) ?_
    refine va_get (D := G.1) (ci := 6) (v := .int (nI ft)) (C := RX6) (T := TX6) (N := 29) hx hb hts hin6 hown hK.1 hP 0 rfl rfl 19 (by decide) (hts (.fieldLink RX6 90 "BackLensesModel" "fault" "I") (List.mem_of_getElem? (i := 1) rfl)) (fun _ h9 => h9) rfl dX6_needs_5 ?_
    refine xn_if_ne (tgt := 24) hx hb (by omega) dX6_needs_8 rfl (fun b8 => absurd b8 (by omega)) (fun _ => ?_)
    refine lv_aload_n hx hb dX6_needs_11 rfl (lv_at hl 0 rfl) ?_
    refine lv_iload_n hx hb dX6_needs_12 rfl (lv_at hl 2 rfl) ?_
    refine va_put (D := G.1) (ci := 6) (v := .int (nI cd9)) (ty := .int) (C := RX6) (T := TX6) (N := 29) hx hb hts hin6 tyX6 tyX6_ok nmX6 hown hK.1 hP hD hS 0 rfl rfl 19 (by decide) (hts (.fieldLink RX6 90 "BackLensesModel" "fault" "I") (List.mem_of_getElem? (i := 1) rfl)) (fun _ h9 => h9) rfl (by decide +kernel) rfl rfl (Nat.le_of_ble_eq_true rfl) dX6_needs_13 (fun H locs hP hD hS => ?_)
    replace hP : xP G [oC ko 6 [.ref (ad 0), .ref (ad 1), .int (nI w), .int (nI h), .int (nI la), .ref (ad 2), .int (nI dw), .int (nI dh), .int (nI dl), .int tl, .int tc, .int hc, .int hd, .ref (ad 3), .int (nI tp), .int (nI ps), .int (nI fr), .int (nI so), .int vl, .int (nI cd9), .int wa, .ref (ad 4), .ref (ad 5), .ref (ad 6), .ref (ad 7), .ref (ad 8), .ref (ad 9), .ref (ad 10), .int tr]] H := hP
    replace hD : va_D (va_A (w_X6_needs_g G ko ad w h la tp dw dh dl tl tc hc hd ps fr so vl ft wa tr) ss.heap.size) [oC ko 6 [.ref (ad 0), .ref (ad 1), .int (nI w), .int (nI h), .int (nI la), .ref (ad 2), .int (nI dw), .int (nI dh), .int (nI dl), .int tl, .int tc, .int hc, .int hd, .ref (ad 3), .int (nI tp), .int (nI ps), .int (nI fr), .int (nI so), .int vl, .int (nI cd9), .int wa, .ref (ad 4), .ref (ad 5), .ref (ad 6), .ref (ad 7), .ref (ad 8), .ref (ad 9), .ref (ad 10), .int tr]] := hD
    refine lv_aload_n hx hb dX6_needs_16 rfl (lv_at hl 0 rfl) ?_
    refine lv_aload_n hx hb dX6_needs_17 rfl (lv_at hl 0 rfl) ?_
    refine va_get (D := G.1) (ci := 6) (v := .int (nI fr)) (C := RX6) (T := TX6) (N := 29) hx hb hts hin6 hown hK.1 hP 0 rfl rfl 16 (by decide) (hts (.fieldLink RX6 93 "BackLensesModel" "from" "I") (List.mem_of_getElem? (i := 2) rfl)) (fun _ h9 => h9) rfl dX6_needs_18 ?_
    refine va_put (D := G.1) (ci := 6) (v := .int (nI fr)) (ty := .int) (C := RX6) (T := TX6) (N := 29) hx hb hts hin6 tyX6 tyX6_ok nmX6 hown hK.1 hP hD hS 0 rfl rfl 20 (by decide) (hts (.fieldLink RX6 96 "BackLensesModel" "wrongAt" "I") (List.mem_of_getElem? (i := 3) rfl)) (fun _ h9 => h9) rfl (by decide +kernel) rfl rfl (Nat.le_of_ble_eq_true rfl) dX6_needs_21 (fun H locs hP hD hS => ?_)
    replace hP : xP G [oC ko 6 [.ref (ad 0), .ref (ad 1), .int (nI w), .int (nI h), .int (nI la), .ref (ad 2), .int (nI dw), .int (nI dh), .int (nI dl), .int tl, .int tc, .int hc, .int hd, .ref (ad 3), .int (nI tp), .int (nI ps), .int (nI fr), .int (nI so), .int vl, .int (nI cd9), .int (nI fr), .ref (ad 4), .ref (ad 5), .ref (ad 6), .ref (ad 7), .ref (ad 8), .ref (ad 9), .ref (ad 10), .int tr]] H := hP
    replace hD : va_D (va_A (w_X6_needs_g G ko ad w h la tp dw dh dl tl tc hc hd ps fr so vl ft wa tr) ss.heap.size) [oC ko 6 [.ref (ad 0), .ref (ad 1), .int (nI w), .int (nI h), .int (nI la), .ref (ad 2), .int (nI dw), .int (nI dh), .int (nI dl), .int tl, .int tc, .int hc, .int hd, .ref (ad 3), .int (nI tp), .int (nI ps), .int (nI fr), .int (nI so), .int vl, .int (nI cd9), .int (nI fr), .ref (ad 4), .ref (ad 5), .ref (ad 6), .ref (ad 7), .ref (ad 8), .ref (ad 9), .ref (ad 10), .int tr]] := hD
    have hP := hP.sub (ws' := [oC ko 6 [.ref (ad 0), .ref (ad 1), .int (nI w), .int (nI h), .int (nI la), .ref (ad 2), .int (nI dw), .int (nI dh), .int (nI dl), .int tl, .int tc, .int hc, .int hd, .ref (ad 3), .int (nI tp), .int (nI ps), .int (nI fr), .int (nI so), .int vl, .int (nI cd9), .int (nI fr), .ref (ad 4), .ref (ad 5), .ref (ad 6), .ref (ad 7), .ref (ad 8), .ref (ad 9), .ref (ad 10), .int tr]]) [0] rfl
    have hD := hD.sub (ws' := [oC ko 6 [.ref (ad 0), .ref (ad 1), .int (nI w), .int (nI h), .int (nI la), .ref (ad 2), .int (nI dw), .int (nI dh), .int (nI dl), .int tl, .int tc, .int hc, .int hd, .ref (ad 3), .int (nI tp), .int (nI ps), .int (nI fr), .int (nI so), .int vl, .int (nI cd9), .int (nI fr), .ref (ad 4), .ref (ad 5), .ref (ad 6), .ref (ad 7), .ref (ad 8), .ref (ad 9), .ref (ad 10), .int tr]]) [0] (by decide) rfl
    refine W.vret hx hb hr (fun t ht hW => ⟨⟨(cd9, nI fr), rfl, ?_, by rw [ht]; exact hP, hD⟩, hS.F ht⟩) hS.2.2 dX6_needs_24
    try dsimp only
    first | exact (if_pos b1).symm | exact (if_neg b1).symm
end
section
abbrev w_X6_nextToken (G : XG) (ko : Nat) (ad : Nat → Nat) (w h la tp : Nat) (dw dh dl : Nat) (tl tc hc hd : Int32) (ps fr so : Nat) (vl : Int32) (ft : Nat) (wa tr : Int32) (tb : Nat → Int32) : va_W := [oC ko 6 [.ref (ad 0), .ref (ad 1), .int (nI w), .int (nI h), .int (nI la), .ref (ad 2), .int (nI dw), .int (nI dh), .int (nI dl), .int tl, .int tc, .int hc, .int hd, .ref (ad 3), .int (nI tp), .int (nI ps), .int (nI fr), .int (nI so), .int vl, .int (nI ft), .int wa, .ref (ad 4), .ref (ad 5), .ref (ad 6), .ref (ad 7), .ref (ad 8), .ref (ad 9), .ref (ad 10), .int tr], iA G (ad 3) 160 tb]
abbrev Q_X6_nextToken (G : XG) (sz : Nat) (ko : Nat) (ad : Nat → Nat) (w h la tp : Nat) (dw dh dl : Nat) (tl tc hc hd : Int32) (ps fr so : Nat) (vl : Int32) (ft : Nat) (wa tr : Int32) (tb : Nat → Int32) : Array Value → State → Outcome → State → Prop := (va_Qv (fun (u : Nat × Nat × Nat × Int32 × Nat × Int32) => (u.1, u.2.1, u.2.2.1, u.2.2.2.1, u.2.2.2.2.1, u.2.2.2.2.2) = mTok tb tp (ps, fr, so, vl, ft, wa)) (xWb G sz (w_X6_nextToken G ko ad w h la tp dw dh dl tl tc hc hd ps fr so vl ft wa tr tb) (fun u : Nat × Nat × Nat × Int32 × Nat × Int32 => [oC ko 6 [.ref (ad 0), .ref (ad 1), .int (nI w), .int (nI h), .int (nI la), .ref (ad 2), .int (nI dw), .int (nI dh), .int (nI dl), .int tl, .int tc, .int hc, .int hd, .ref (ad 3), .int (nI tp), .int (nI u.1), .int (nI u.2.1), .int (nI u.2.2.1), .int u.2.2.2.1, .int (nI u.2.2.2.2.1), .int u.2.2.2.2.2, .ref (ad 4), .ref (ad 5), .ref (ad 6), .ref (ad 7), .ref (ad 8), .ref (ad 9), .ref (ad 10), .int tr], iA G (ad 3) 160 tb])) (va_A (w_X6_nextToken G ko ad w h la tp dw dh dl tl tc hc hd ps fr so vl ft wa tr tb) sz))
set_option maxHeartbeats 4000000 in
set_option maxRecDepth 100000 in
theorem c_X6_nextToken (l : Launch) (G : XG) (sz : Nat) (ko : Nat) (ad : Nat → Nat) (w h la tp : Nat) (dw dh dl : Nat) (tl tc hc hd : Int32) (ps fr so : Nat) (vl : Int32) (ft : Nat) (wa tr : Int32) (tb : Nat → Int32) (htp : tp ≤ 160) (hps : ps ≤ tp) (htk : tpOk tb tp) (hft : ft ≤ 6) : Met l yX6_nextToken wsX6_nextToken ({ frames := 1, cells := 0, slots := 0, locals := 25 } : Room) (va_Pc [.ref ko] (xWp G sz (w_X6_nextToken G ko ad w h la tp dw dh dl tl tc hc hd ps fr so vl ft wa tr tb))) (Q_X6_nextToken G sz ko ad w h la tp dw dh dl tl tc hc hd ps fr so vl ft wa tr tb) 0 0 (va_A (w_X6_nextToken G ko ad w h la tp dw dh dl tl tc hc hd ps fr so vl ft wa tr tb) sz) := by
  refine Met.ofW (cc := cX6_nextToken) (maxL := 2) (ret := none) (by decide) rfl ?_
  intro pp ee ss mm aa below mt cd s₁ BB hml hv
  obtain ⟨rfl, hsz, hP, hK, hD0⟩ := hv
  have hx := BB.exec
  have hb := BB.bytes
  have hr := BB.returns
  have hts := atoms_spec (ws := wsX6_nextToken) BB.pre
  have hown : ss.vm.findClass RX6 = some mm.cls := findClass_of_methodNamed BB.named
  have hlocks := BB.notSynchronized
  subst hsz
  have hD := hD0.self (sz := ss.heap.size)
  have hA : ∀ q : Nat, ss.heap.size ≤ q → va_A (w_X6_nextToken G ko ad w h la tp dw dh dl tl tc hc hd ps fr so vl ft wa tr tb) ss.heap.size q := fun q h => Or.inr h
  have hS : va_S (va_A (w_X6_nextToken G ko ad w h la tp dw dh dl tl tc hc hd ps fr so vl ft wa tr tb) ss.heap.size) ss.heap ss.heap [] := va_S.rf
  replace hD : va_D (va_A (w_X6_nextToken G ko ad w h la tp dw dh dl tl tc hc hd ps fr so vl ft wa tr tb) ss.heap.size) [oC ko 6 [.ref (ad 0), .ref (ad 1), .int (nI w), .int (nI h), .int (nI la), .ref (ad 2), .int (nI dw), .int (nI dh), .int (nI dl), .int tl, .int tc, .int hc, .int hd, .ref (ad 3), .int (nI tp), .int (nI ps), .int (nI fr), .int (nI so), .int vl, .int (nI ft), .int wa, .ref (ad 4), .ref (ad 5), .ref (ad 6), .ref (ad 7), .ref (ad 8), .ref (ad 9), .ref (ad 10), .int tr], iA G (ad 3) 160 tb] := hD
  replace hP : xP G [oC ko 6 [.ref (ad 0), .ref (ad 1), .int (nI w), .int (nI h), .int (nI la), .ref (ad 2), .int (nI dw), .int (nI dh), .int (nI dl), .int tl, .int tc, .int hc, .int hd, .ref (ad 3), .int (nI tp), .int (nI ps), .int (nI fr), .int (nI so), .int vl, .int (nI ft), .int wa, .ref (ad 4), .ref (ad 5), .ref (ad 6), .ref (ad 7), .ref (ad 8), .ref (ad 9), .ref (ad 10), .int tr], iA G (ad 3) 160 tb] ss.heap := hP
  have hin6 : ∀ w ∈ u_ws RX6 TX6 29, w ∈ wsX6_nextToken := fun w h => List.mem_cons_of_mem _ (List.mem_append_right _ h)
  have hl := lv_entry ([.ref ko]) (n := 2) (Nat.le_of_ble_eq_true rfl)
  rw [lg_entry_eq]
  generalize (lg_sl ([.ref ko]) ++ List.replicate (2 - (lg_sl ([.ref ko])).length) Slot.unset).toArray = ls at hl ⊢
  replace hl : lv_has ls 2 [(0, .ref ko)] := hl
  refine lv_aload_n hx hb dX6_nextToken_0 rfl (lv_at hl 0 rfl) ?_
  refine va_get (D := G.1) (ci := 6) (v := .int (nI ft)) (C := RX6) (T := TX6) (N := 29) hx hb hts hin6 hown hK.1 hP 0 rfl rfl 19 (by decide) (hts (.fieldLink RX6 90 "BackLensesModel" "fault" "I") (List.mem_of_getElem? (i := 1) rfl)) (fun _ h9 => h9) rfl dX6_nextToken_1 ?_
  refine xn_if_le (tgt := 8) hx hb (by omega) dX6_nextToken_4 rfl (fun b4 => ?_) (fun b4 => ?_)
  · skip
    have hft0 : ft = 0 := (by omega)
    have hL8 : ∀ k : Nat, ∀ (p : Nat) (ls : Array Slot) (H : Heap) (locs : List Loc), tp - p = k → (ps ≤ p) → (p ≤ tp) → ((ruE isSp tb tp ps) = ruE isSp tb tp p) → lv_has ls 2 [(0, .ref ko)] → xP G [iA G (ad 3) 160 tb, oC ko 6 [.ref (ad 0), .ref (ad 1), .int (nI w), .int (nI h), .int (nI la), .ref (ad 2), .int (nI dw), .int (nI dh), .int (nI dl), .int tl, .int tc, .int hc, .int hd, .ref (ad 3), .int (nI tp), .int (nI p), .int (nI fr), .int (nI so), .int vl, .int (nI ft), .int wa, .ref (ad 4), .ref (ad 5), .ref (ad 6), .ref (ad 7), .ref (ad 8), .ref (ad 9), .ref (ad 10), .int tr]] H → va_D (va_A (w_X6_nextToken G ko ad w h la tp dw dh dl tl tc hc hd ps fr so vl ft wa tr tb) ss.heap.size) [iA G (ad 3) 160 tb, oC ko 6 [.ref (ad 0), .ref (ad 1), .int (nI w), .int (nI h), .int (nI la), .ref (ad 2), .int (nI dw), .int (nI dh), .int (nI dl), .int tl, .int tc, .int hc, .int hd, .ref (ad 3), .int (nI tp), .int (nI p), .int (nI fr), .int (nI so), .int vl, .int (nI ft), .int wa, .ref (ad 4), .ref (ad 5), .ref (ad 6), .ref (ad 7), .ref (ad 8), .ref (ad 9), .ref (ad 10), .int tr]] → va_S (va_A (w_X6_nextToken G ko ad w h la tp dw dh dl tl tc hc hd ps fr so vl ft wa tr tb) ss.heap.size) ss.heap H locs → W pp l ee ({ frames := 1, cells := 0, slots := 0, locals := 25 } : Room) ss mm ([.ref ko] : List Value).toArray below mt cd H locs 0 0 (MQ below (Q_X6_nextToken G ss.heap.size ko ad w h la tp dw dh dl tl tc hc hd ps fr so vl ft wa tr tb) ([.ref ko] : List Value).toArray ss 0 0 (va_A (w_X6_nextToken G ko ad w h la tp dw dh dl tl tc hc hd ps fr so vl ft wa tr tb) ss.heap.size)) (F0 mm 8 ls []) := by
      intro k
      induction k using Nat.strongRecOn with
      | _ k ih8 =>
      intro p ls H locs hm8 hnp hpr hsp hl hP hD hS
      refine lv_aload_n hx hb dX6_nextToken_8 rfl (lv_at hl 0 rfl) ?_
      refine lv_aload_n hx hb dX6_nextToken_9 rfl (lv_at hl 0 rfl) ?_
      refine va_get (D := G.1) (ci := 6) (v := .int (nI p)) (C := RX6) (T := TX6) (N := 29) hx hb hts hin6 hown hK.1 hP 1 rfl rfl 15 (by decide) (hts (.fieldLink RX6 99 "BackLensesModel" "pos" "I") (List.mem_of_getElem? (i := 2) rfl)) (fun _ h9 => h9) rfl dX6_nextToken_10 ?_
      refine xr_i (As := [.int (nI p)]) (rest := []) ⟨hx, hb, hml, hown, hts⟩ (c_X6_byteAt l G ko ad w h la tp dw dh dl tl tc hc hd p fr so vl ft wa tr tb p (by first | assumption | omega) (by first | assumption | omega)) (cwV 1 hts gX6_nextToken_X6_byteAt rfl rfl rfl (by decide +kernel) ⟨Nat.le_of_ble_eq_true rfl, Nat.le_of_ble_eq_true rfl⟩) hK hP hS [1, 0] rfl rfl rfl rfl hl.1 rfl (Nat.le_of_ble_eq_true rfl) dX6_nextToken_13 ⟨Nat.zero_le _, Nat.zero_le _⟩ (fun r13 H locs hp13 hP hS => ?_)
      rw [show r13 = _ from hp13]
      refine lv_bipush (v := nI 32) hx hb dX6_nextToken_16 (by decide) ?_
      refine lv_icmp_ne (tgt := 34) hx hb dX6_nextToken_18 rfl (fun b18 => ?_) (fun b18 => ?_)
      · skip
        have hq : (ruE isSp tb tp ps) = p := hsp.trans (ruF_end (fun q => b18 (byF_sp.mpr q)))
        refine lv_aload_n hx hb dX6_nextToken_34 rfl (lv_at hl 0 rfl) ?_
        refine lv_aload_n hx hb dX6_nextToken_35 rfl (lv_at hl 0 rfl) ?_
        refine va_get (D := G.1) (ci := 6) (v := .int (nI p)) (C := RX6) (T := TX6) (N := 29) hx hb hts hin6 hown hK.1 hP 1 rfl rfl 15 (by decide) (hts (.fieldLink RX6 99 "BackLensesModel" "pos" "I") (List.mem_of_getElem? (i := 2) rfl)) (fun _ h9 => h9) rfl dX6_nextToken_36 ?_
        refine va_put (D := G.1) (ci := 6) (v := .int (nI p)) (ty := .int) (C := RX6) (T := TX6) (N := 29) hx hb hts hin6 tyX6 tyX6_ok nmX6 hown hK.1 hP hD hS 1 rfl rfl 16 (by decide) (hts (.fieldLink RX6 93 "BackLensesModel" "from" "I") (List.mem_of_getElem? (i := 3) rfl)) (fun _ h9 => h9) rfl (by decide +kernel) rfl rfl (Nat.le_of_ble_eq_true rfl) dX6_nextToken_39 (fun H locs hP hD hS => ?_)
        replace hP : xP G [iA G (ad 3) 160 tb, oC ko 6 [.ref (ad 0), .ref (ad 1), .int (nI w), .int (nI h), .int (nI la), .ref (ad 2), .int (nI dw), .int (nI dh), .int (nI dl), .int tl, .int tc, .int hc, .int hd, .ref (ad 3), .int (nI tp), .int (nI p), .int (nI p), .int (nI so), .int vl, .int (nI ft), .int wa, .ref (ad 4), .ref (ad 5), .ref (ad 6), .ref (ad 7), .ref (ad 8), .ref (ad 9), .ref (ad 10), .int tr]] H := hP
        replace hD : va_D (va_A (w_X6_nextToken G ko ad w h la tp dw dh dl tl tc hc hd ps fr so vl ft wa tr tb) ss.heap.size) [iA G (ad 3) 160 tb, oC ko 6 [.ref (ad 0), .ref (ad 1), .int (nI w), .int (nI h), .int (nI la), .ref (ad 2), .int (nI dw), .int (nI dh), .int (nI dl), .int tl, .int tc, .int hc, .int hd, .ref (ad 3), .int (nI tp), .int (nI p), .int (nI p), .int (nI so), .int vl, .int (nI ft), .int wa, .ref (ad 4), .ref (ad 5), .ref (ad 6), .ref (ad 7), .ref (ad 8), .ref (ad 9), .ref (ad 10), .int tr]] := hD
        refine lv_aload_n hx hb dX6_nextToken_42 rfl (lv_at hl 0 rfl) ?_
        refine lv_aload_n hx hb dX6_nextToken_43 rfl (lv_at hl 0 rfl) ?_
        refine va_get (D := G.1) (ci := 6) (v := .int (nI p)) (C := RX6) (T := TX6) (N := 29) hx hb hts hin6 hown hK.1 hP 1 rfl rfl 15 (by decide) (hts (.fieldLink RX6 99 "BackLensesModel" "pos" "I") (List.mem_of_getElem? (i := 2) rfl)) (fun _ h9 => h9) rfl dX6_nextToken_44 ?_
        refine xr_i (As := [.int (nI p)]) (rest := []) ⟨hx, hb, hml, hown, hts⟩ (c_X6_byteAt l G ko ad w h la tp dw dh dl tl tc hc hd p p so vl ft wa tr tb p (by first | assumption | omega) (by first | assumption | omega)) (cwV 1 hts gX6_nextToken_X6_byteAt rfl rfl rfl (by decide +kernel) ⟨Nat.le_of_ble_eq_true rfl, Nat.le_of_ble_eq_true rfl⟩) hK hP hS [1, 0] rfl rfl rfl rfl hl.1 rfl (Nat.le_of_ble_eq_true rfl) dX6_nextToken_47 ⟨Nat.zero_le _, Nat.zero_le _⟩ (fun r47 H locs hp47 hP hS => ?_)
        rw [show r47 = _ from hp47]
        refine lv_istore_n (lv' := [(1, .int (byF tb tp p)), (0, .ref ko)]) hx hb dX6_nextToken_50 rfl hl (by decide) rfl (fun ls hl => ?_)
        refine lv_iload_n hx hb dX6_nextToken_51 rfl (lv_at hl 0 rfl) ?_
        refine xi_if_ge (tgt := 63) hx hb dX6_nextToken_52 rfl (fun b52 => ?_) (fun b52 => ?_)
        · skip
          have hpp : ¬ tp ≤ p := fun q => absurd ((byF_neg htk).mpr q) (by omega)
          have hby : byF tb tp p = tb p := if_pos (by omega)
          refine lv_iload_n hx hb dX6_nextToken_63 rfl (lv_at hl 0 rfl) ?_
          refine xi_i2l hx hb dX6_nextToken_64 ?_
          refine lv_ldc2 (v := lN 97) hx hb hown (hts (.constantLong RX6 113 (lN 97)) (List.mem_of_getElem? (i := 5) rfl)) dX6_nextToken_65 ?_
          refine lv_ldc2 (v := lN 122) hx hb hown (hts (.constantLong RX6 115 (lN 122)) (List.mem_of_getElem? (i := 6) rfl)) dX6_nextToken_68 ?_
          refine xs_i (As := [.long ((byF tb tp p).toInt64), .long (lN 97), .long (lN 122)]) (rest := []) ⟨hx, hb, hml, hown, hts⟩ (c_X6_in_b l G (byF tb tp p) 97 122 (by first | assumption | omega) (by first | assumption | omega)) (va_cwS 3 hts gX6_nextToken_X6_in rfl rfl rfl (by decide +kernel) ⟨Nat.le_of_ble_eq_true rfl, Nat.le_of_ble_eq_true rfl⟩) hP hS rfl hl.1 rfl (Nat.le_of_ble_eq_true rfl) dX6_nextToken_71 ⟨Nat.zero_le _, Nat.zero_le _⟩ (fun r71 H locs hp71 hP hS => ?_)
          rw [show r71 = _ from hp71]
          refine xb_if_eq (tgt := 116) hx hb dX6_nextToken_74 rfl (fun b74 => ?_) (fun b74 => ?_)
          · skip
            have hnl : ¬ isL (tb p) = true := fun q => b74 (byF_L.mpr ⟨by omega, q⟩)
            refine lv_iload_n hx hb dX6_nextToken_116 rfl (lv_at hl 0 rfl) ?_
            refine xi_i2l hx hb dX6_nextToken_117 ?_
            refine lv_ldc2 (v := lN 48) hx hb hown (hts (.constantLong RX6 117 (lN 48)) (List.mem_of_getElem? (i := 7) rfl)) dX6_nextToken_118 ?_
            refine lv_ldc2 (v := lN 57) hx hb hown (hts (.constantLong RX6 119 (lN 57)) (List.mem_of_getElem? (i := 8) rfl)) dX6_nextToken_121 ?_
            refine xs_i (As := [.long ((byF tb tp p).toInt64), .long (lN 48), .long (lN 57)]) (rest := []) ⟨hx, hb, hml, hown, hts⟩ (c_X6_in_b l G (byF tb tp p) 48 57 (by first | assumption | omega) (by first | assumption | omega)) (va_cwS 3 hts gX6_nextToken_X6_in rfl rfl rfl (by decide +kernel) ⟨Nat.le_of_ble_eq_true rfl, Nat.le_of_ble_eq_true rfl⟩) hP hS rfl hl.1 rfl (Nat.le_of_ble_eq_true rfl) dX6_nextToken_124 ⟨Nat.zero_le _, Nat.zero_le _⟩ (fun r124 H locs hp124 hP hS => ?_)
            rw [show r124 = _ from hp124]
            refine xb_if_eq (tgt := 243) hx hb dX6_nextToken_127 rfl (fun b127 => ?_) (fun b127 => ?_)
            · skip
              have hnd : ¬ isD (tb p) = true := fun q => b127 (byF_D.mpr ⟨by omega, q⟩)
              refine lv_aload_n hx hb dX6_nextToken_243 rfl (lv_at hl 1 rfl) ?_
              refine lv_iconst (v := nI 3) hx hb dX6_nextToken_244 (by decide) ?_
              refine va_put (D := G.1) (ci := 6) (v := .int (nI 3)) (ty := .int) (C := RX6) (T := TX6) (N := 29) hx hb hts hin6 tyX6 tyX6_ok nmX6 hown hK.1 hP hD hS 1 rfl rfl 17 (by decide) (hts (.fieldLink RX6 110 "BackLensesModel" "sort" "I") (List.mem_of_getElem? (i := 4) rfl)) (fun _ h9 => h9) rfl (by decide +kernel) rfl rfl (Nat.le_of_ble_eq_true rfl) dX6_nextToken_245 (fun H locs hP hD hS => ?_)
              replace hP : xP G [iA G (ad 3) 160 tb, oC ko 6 [.ref (ad 0), .ref (ad 1), .int (nI w), .int (nI h), .int (nI la), .ref (ad 2), .int (nI dw), .int (nI dh), .int (nI dl), .int tl, .int tc, .int hc, .int hd, .ref (ad 3), .int (nI tp), .int (nI p), .int (nI p), .int (nI 3), .int vl, .int (nI ft), .int wa, .ref (ad 4), .ref (ad 5), .ref (ad 6), .ref (ad 7), .ref (ad 8), .ref (ad 9), .ref (ad 10), .int tr]] H := hP
              replace hD : va_D (va_A (w_X6_nextToken G ko ad w h la tp dw dh dl tl tc hc hd ps fr so vl ft wa tr tb) ss.heap.size) [iA G (ad 3) 160 tb, oC ko 6 [.ref (ad 0), .ref (ad 1), .int (nI w), .int (nI h), .int (nI la), .ref (ad 2), .int (nI dw), .int (nI dh), .int (nI dl), .int tl, .int tc, .int hc, .int hd, .ref (ad 3), .int (nI tp), .int (nI p), .int (nI p), .int (nI 3), .int vl, .int (nI ft), .int wa, .ref (ad 4), .ref (ad 5), .ref (ad 6), .ref (ad 7), .ref (ad 8), .ref (ad 9), .ref (ad 10), .int tr]] := hD
              refine lv_aload_n hx hb dX6_nextToken_248 rfl (lv_at hl 1 rfl) ?_
              refine lv_iload_n hx hb dX6_nextToken_249 rfl (lv_at hl 0 rfl) ?_
              refine lv_bipush (v := nI 59) hx hb dX6_nextToken_250 (by decide) ?_
              refine lv_icmp_ne (tgt := 259) hx hb dX6_nextToken_252 rfl (fun b252 => ?_) (fun b252 => ?_)
              · skip
                have h59 : ¬ tb p = nI 59 := fun q => b252 (hby.trans q)
                refine lv_iconst (v := nI 0) hx hb dX6_nextToken_259 (by decide) ?_
                refine lv_iconst (v := nI 1) hx hb dX6_nextToken_260 (by decide) ?_
                refine xw_v (As := [.int (nI 0), .int (nI 1)]) (rest := []) (wr := [iA G (ad 3) 160 tb]) ⟨hx, hb, hml, hown, hts⟩ (c_X6_needs_0 l G H.size ko ad w h la tp dw dh dl tl tc hc hd p p 3 vl ft wa tr 1 (by first | assumption | omega)) (cwV 2 hts gX6_nextToken_X6_needs rfl rfl rfl (by decide +kernel) ⟨Nat.le_of_ble_eq_true rfl, Nat.le_of_ble_eq_true rfl⟩) hK hP hD hS hA [1] [0] rfl rfl (by decide) (by decide) (by decide) rfl rfl rfl hl.1 rfl (Nat.le_of_ble_eq_true rfl) dX6_nextToken_261 ⟨Nat.le_of_ble_eq_true rfl, Nat.le_of_ble_eq_true rfl⟩ (fun u H locs hp261 hP hD hS => ?_)
                replace hP : xP G [iA G (ad 3) 160 tb, oC ko 6 [.ref (ad 0), .ref (ad 1), .int (nI w), .int (nI h), .int (nI la), .ref (ad 2), .int (nI dw), .int (nI dh), .int (nI dl), .int tl, .int tc, .int hc, .int hd, .ref (ad 3), .int (nI tp), .int (nI p), .int (nI p), .int (nI 3), .int vl, .int (nI 1), .int (nI p), .ref (ad 4), .ref (ad 5), .ref (ad 6), .ref (ad 7), .ref (ad 8), .ref (ad 9), .ref (ad 10), .int tr]] H := hP
                replace hD : va_D (va_A (w_X6_nextToken G ko ad w h la tp dw dh dl tl tc hc hd ps fr so vl ft wa tr tb) ss.heap.size) [iA G (ad 3) 160 tb, oC ko 6 [.ref (ad 0), .ref (ad 1), .int (nI w), .int (nI h), .int (nI la), .ref (ad 2), .int (nI dw), .int (nI dh), .int (nI dl), .int tl, .int tc, .int hc, .int hd, .ref (ad 3), .int (nI tp), .int (nI p), .int (nI p), .int (nI 3), .int vl, .int (nI 1), .int (nI p), .ref (ad 4), .ref (ad 5), .ref (ad 6), .ref (ad 7), .ref (ad 8), .ref (ad 9), .ref (ad 10), .int tr]] := hD
                refine lv_aload_n hx hb dX6_nextToken_264 rfl (lv_at hl 1 rfl) ?_
                refine lv_dup hx hb dX6_nextToken_265 rfl ?_
                refine va_get (D := G.1) (ci := 6) (v := .int (nI p)) (C := RX6) (T := TX6) (N := 29) hx hb hts hin6 hown hK.1 hP 1 rfl rfl 15 (by decide) (hts (.fieldLink RX6 99 "BackLensesModel" "pos" "I") (List.mem_of_getElem? (i := 2) rfl)) (fun _ h9 => h9) rfl dX6_nextToken_266 ?_
                refine lv_iconst (v := nI 1) hx hb dX6_nextToken_269 (by decide) ?_
                refine xn_iadd hx hb dX6_nextToken_270 ?_
                refine va_put (D := G.1) (ci := 6) (v := .int (nI (p + 1))) (ty := .int) (C := RX6) (T := TX6) (N := 29) hx hb hts hin6 tyX6 tyX6_ok nmX6 hown hK.1 hP hD hS 1 rfl rfl 15 (by decide) (hts (.fieldLink RX6 99 "BackLensesModel" "pos" "I") (List.mem_of_getElem? (i := 2) rfl)) (fun _ h9 => h9) rfl (by decide +kernel) rfl rfl (Nat.le_of_ble_eq_true rfl) dX6_nextToken_271 (fun H locs hP hD hS => ?_)
                replace hP : xP G [iA G (ad 3) 160 tb, oC ko 6 [.ref (ad 0), .ref (ad 1), .int (nI w), .int (nI h), .int (nI la), .ref (ad 2), .int (nI dw), .int (nI dh), .int (nI dl), .int tl, .int tc, .int hc, .int hd, .ref (ad 3), .int (nI tp), .int (nI (p + 1)), .int (nI p), .int (nI 3), .int vl, .int (nI 1), .int (nI p), .ref (ad 4), .ref (ad 5), .ref (ad 6), .ref (ad 7), .ref (ad 8), .ref (ad 9), .ref (ad 10), .int tr]] H := hP
                replace hD : va_D (va_A (w_X6_nextToken G ko ad w h la tp dw dh dl tl tc hc hd ps fr so vl ft wa tr tb) ss.heap.size) [iA G (ad 3) 160 tb, oC ko 6 [.ref (ad 0), .ref (ad 1), .int (nI w), .int (nI h), .int (nI la), .ref (ad 2), .int (nI dw), .int (nI dh), .int (nI dl), .int tl, .int tc, .int hc, .int hd, .ref (ad 3), .int (nI tp), .int (nI (p + 1)), .int (nI p), .int (nI 3), .int vl, .int (nI 1), .int (nI p), .ref (ad 4), .ref (ad 5), .ref (ad 6), .ref (ad 7), .ref (ad 8), .ref (ad 9), .ref (ad 10), .int tr]] := hD
                have hP := hP.sub (ws' := [oC ko 6 [.ref (ad 0), .ref (ad 1), .int (nI w), .int (nI h), .int (nI la), .ref (ad 2), .int (nI dw), .int (nI dh), .int (nI dl), .int tl, .int tc, .int hc, .int hd, .ref (ad 3), .int (nI tp), .int (nI (p + 1)), .int (nI p), .int (nI 3), .int vl, .int (nI 1), .int (nI p), .ref (ad 4), .ref (ad 5), .ref (ad 6), .ref (ad 7), .ref (ad 8), .ref (ad 9), .ref (ad 10), .int tr], iA G (ad 3) 160 tb]) [1, 0] rfl
                have hD := hD.sub (ws' := [oC ko 6 [.ref (ad 0), .ref (ad 1), .int (nI w), .int (nI h), .int (nI la), .ref (ad 2), .int (nI dw), .int (nI dh), .int (nI dl), .int tl, .int tc, .int hc, .int hd, .ref (ad 3), .int (nI tp), .int (nI (p + 1)), .int (nI p), .int (nI 3), .int vl, .int (nI 1), .int (nI p), .ref (ad 4), .ref (ad 5), .ref (ad 6), .ref (ad 7), .ref (ad 8), .ref (ad 9), .ref (ad 10), .int tr], iA G (ad 3) 160 tb]) [1, 0] (by decide) rfl
                refine W.vret hx hb hr (fun t ht hW => ⟨⟨(p + 1, p, 3, vl, 1, nI p), rfl, ?_, by rw [ht]; exact hP, hD⟩, hS.F ht⟩) hS.2.2 dX6_nextToken_274
                try dsimp only
                first | exact ((mTok_1 hft0 hq).trans (mTk_0 hpp)).symm | exact ((mTok_1 hft0 hq).trans (mTk_1 hpp hil hle)).symm | (rw [hdv]; exact ((mTok_1 hft0 hq).trans (mTk_2 hpp hnl hid hle h22)).symm) | (rw [hdv]; exact ((mTok_1 hft0 hq).trans (mTk_3 hpp hnl hid hle h22)).symm) | exact ((mTok_1 hft0 hq).trans (mTk_4 hpp hnl hnd h59)).symm | exact ((mTok_1 hft0 hq).trans (mTk_5 hpp hnl hnd h59)).symm
              · skip
                have h59 : tb p = nI 59 := hby.symm.trans b252
                refine lv_iconst (v := nI 1) hx hb dX6_nextToken_255 (by decide) ?_
                refine lv_goto (tgt := 260) hx hb dX6_nextToken_256 rfl ?_
                refine lv_iconst (v := nI 1) hx hb dX6_nextToken_260 (by decide) ?_
                refine xw_v (As := [.int (nI 1), .int (nI 1)]) (rest := []) (wr := [iA G (ad 3) 160 tb]) ⟨hx, hb, hml, hown, hts⟩ (c_X6_needs_1 l G H.size ko ad w h la tp dw dh dl tl tc hc hd p p 3 vl ft wa tr 1 ) (cwV 2 hts gX6_nextToken_X6_needs rfl rfl rfl (by decide +kernel) ⟨Nat.le_of_ble_eq_true rfl, Nat.le_of_ble_eq_true rfl⟩) hK hP hD hS hA [1] [0] rfl rfl (by decide) (by decide) (by decide) rfl rfl rfl hl.1 rfl (Nat.le_of_ble_eq_true rfl) dX6_nextToken_261 ⟨Nat.le_of_ble_eq_true rfl, Nat.le_of_ble_eq_true rfl⟩ (fun u H locs hp261 hP hD hS => ?_)
                replace hP : xP G [iA G (ad 3) 160 tb, oC ko 6 [.ref (ad 0), .ref (ad 1), .int (nI w), .int (nI h), .int (nI la), .ref (ad 2), .int (nI dw), .int (nI dh), .int (nI dl), .int tl, .int tc, .int hc, .int hd, .ref (ad 3), .int (nI tp), .int (nI p), .int (nI p), .int (nI 3), .int vl, .int (nI ft), .int wa, .ref (ad 4), .ref (ad 5), .ref (ad 6), .ref (ad 7), .ref (ad 8), .ref (ad 9), .ref (ad 10), .int tr]] H := hP
                replace hD : va_D (va_A (w_X6_nextToken G ko ad w h la tp dw dh dl tl tc hc hd ps fr so vl ft wa tr tb) ss.heap.size) [iA G (ad 3) 160 tb, oC ko 6 [.ref (ad 0), .ref (ad 1), .int (nI w), .int (nI h), .int (nI la), .ref (ad 2), .int (nI dw), .int (nI dh), .int (nI dl), .int tl, .int tc, .int hc, .int hd, .ref (ad 3), .int (nI tp), .int (nI p), .int (nI p), .int (nI 3), .int vl, .int (nI ft), .int wa, .ref (ad 4), .ref (ad 5), .ref (ad 6), .ref (ad 7), .ref (ad 8), .ref (ad 9), .ref (ad 10), .int tr]] := hD
                refine lv_aload_n hx hb dX6_nextToken_264 rfl (lv_at hl 1 rfl) ?_
                refine lv_dup hx hb dX6_nextToken_265 rfl ?_
                refine va_get (D := G.1) (ci := 6) (v := .int (nI p)) (C := RX6) (T := TX6) (N := 29) hx hb hts hin6 hown hK.1 hP 1 rfl rfl 15 (by decide) (hts (.fieldLink RX6 99 "BackLensesModel" "pos" "I") (List.mem_of_getElem? (i := 2) rfl)) (fun _ h9 => h9) rfl dX6_nextToken_266 ?_
                refine lv_iconst (v := nI 1) hx hb dX6_nextToken_269 (by decide) ?_
                refine xn_iadd hx hb dX6_nextToken_270 ?_
                refine va_put (D := G.1) (ci := 6) (v := .int (nI (p + 1))) (ty := .int) (C := RX6) (T := TX6) (N := 29) hx hb hts hin6 tyX6 tyX6_ok nmX6 hown hK.1 hP hD hS 1 rfl rfl 15 (by decide) (hts (.fieldLink RX6 99 "BackLensesModel" "pos" "I") (List.mem_of_getElem? (i := 2) rfl)) (fun _ h9 => h9) rfl (by decide +kernel) rfl rfl (Nat.le_of_ble_eq_true rfl) dX6_nextToken_271 (fun H locs hP hD hS => ?_)
                replace hP : xP G [iA G (ad 3) 160 tb, oC ko 6 [.ref (ad 0), .ref (ad 1), .int (nI w), .int (nI h), .int (nI la), .ref (ad 2), .int (nI dw), .int (nI dh), .int (nI dl), .int tl, .int tc, .int hc, .int hd, .ref (ad 3), .int (nI tp), .int (nI (p + 1)), .int (nI p), .int (nI 3), .int vl, .int (nI ft), .int wa, .ref (ad 4), .ref (ad 5), .ref (ad 6), .ref (ad 7), .ref (ad 8), .ref (ad 9), .ref (ad 10), .int tr]] H := hP
                replace hD : va_D (va_A (w_X6_nextToken G ko ad w h la tp dw dh dl tl tc hc hd ps fr so vl ft wa tr tb) ss.heap.size) [iA G (ad 3) 160 tb, oC ko 6 [.ref (ad 0), .ref (ad 1), .int (nI w), .int (nI h), .int (nI la), .ref (ad 2), .int (nI dw), .int (nI dh), .int (nI dl), .int tl, .int tc, .int hc, .int hd, .ref (ad 3), .int (nI tp), .int (nI (p + 1)), .int (nI p), .int (nI 3), .int vl, .int (nI ft), .int wa, .ref (ad 4), .ref (ad 5), .ref (ad 6), .ref (ad 7), .ref (ad 8), .ref (ad 9), .ref (ad 10), .int tr]] := hD
                have hP := hP.sub (ws' := [oC ko 6 [.ref (ad 0), .ref (ad 1), .int (nI w), .int (nI h), .int (nI la), .ref (ad 2), .int (nI dw), .int (nI dh), .int (nI dl), .int tl, .int tc, .int hc, .int hd, .ref (ad 3), .int (nI tp), .int (nI (p + 1)), .int (nI p), .int (nI 3), .int vl, .int (nI ft), .int wa, .ref (ad 4), .ref (ad 5), .ref (ad 6), .ref (ad 7), .ref (ad 8), .ref (ad 9), .ref (ad 10), .int tr], iA G (ad 3) 160 tb]) [1, 0] rfl
                have hD := hD.sub (ws' := [oC ko 6 [.ref (ad 0), .ref (ad 1), .int (nI w), .int (nI h), .int (nI la), .ref (ad 2), .int (nI dw), .int (nI dh), .int (nI dl), .int tl, .int tc, .int hc, .int hd, .ref (ad 3), .int (nI tp), .int (nI (p + 1)), .int (nI p), .int (nI 3), .int vl, .int (nI ft), .int wa, .ref (ad 4), .ref (ad 5), .ref (ad 6), .ref (ad 7), .ref (ad 8), .ref (ad 9), .ref (ad 10), .int tr], iA G (ad 3) 160 tb]) [1, 0] (by decide) rfl
                refine W.vret hx hb hr (fun t ht hW => ⟨⟨(p + 1, p, 3, vl, ft, wa), rfl, ?_, by rw [ht]; exact hP, hD⟩, hS.F ht⟩) hS.2.2 dX6_nextToken_274
                try dsimp only
                first | exact ((mTok_1 hft0 hq).trans (mTk_0 hpp)).symm | exact ((mTok_1 hft0 hq).trans (mTk_1 hpp hil hle)).symm | (rw [hdv]; exact ((mTok_1 hft0 hq).trans (mTk_2 hpp hnl hid hle h22)).symm) | (rw [hdv]; exact ((mTok_1 hft0 hq).trans (mTk_3 hpp hnl hid hle h22)).symm) | exact ((mTok_1 hft0 hq).trans (mTk_4 hpp hnl hnd h59)).symm | exact ((mTok_1 hft0 hq).trans (mTk_5 hpp hnl hnd h59)).symm
            · skip
              have hid : isD (tb p) = true := (byF_D.mp b127).2
              refine lv_aload_n hx hb dX6_nextToken_130 rfl (lv_at hl 1 rfl) ?_
              refine lv_iconst (v := nI 2) hx hb dX6_nextToken_131 (by decide) ?_
              refine va_put (D := G.1) (ci := 6) (v := .int (nI 2)) (ty := .int) (C := RX6) (T := TX6) (N := 29) hx hb hts hin6 tyX6 tyX6_ok nmX6 hown hK.1 hP hD hS 1 rfl rfl 17 (by decide) (hts (.fieldLink RX6 110 "BackLensesModel" "sort" "I") (List.mem_of_getElem? (i := 4) rfl)) (fun _ h9 => h9) rfl (by decide +kernel) rfl rfl (Nat.le_of_ble_eq_true rfl) dX6_nextToken_132 (fun H locs hP hD hS => ?_)
              replace hP : xP G [iA G (ad 3) 160 tb, oC ko 6 [.ref (ad 0), .ref (ad 1), .int (nI w), .int (nI h), .int (nI la), .ref (ad 2), .int (nI dw), .int (nI dh), .int (nI dl), .int tl, .int tc, .int hc, .int hd, .ref (ad 3), .int (nI tp), .int (nI p), .int (nI p), .int (nI 2), .int vl, .int (nI ft), .int wa, .ref (ad 4), .ref (ad 5), .ref (ad 6), .ref (ad 7), .ref (ad 8), .ref (ad 9), .ref (ad 10), .int tr]] H := hP
              replace hD : va_D (va_A (w_X6_nextToken G ko ad w h la tp dw dh dl tl tc hc hd ps fr so vl ft wa tr tb) ss.heap.size) [iA G (ad 3) 160 tb, oC ko 6 [.ref (ad 0), .ref (ad 1), .int (nI w), .int (nI h), .int (nI la), .ref (ad 2), .int (nI dw), .int (nI dh), .int (nI dl), .int tl, .int tc, .int hc, .int hd, .ref (ad 3), .int (nI tp), .int (nI p), .int (nI p), .int (nI 2), .int vl, .int (nI ft), .int wa, .ref (ad 4), .ref (ad 5), .ref (ad 6), .ref (ad 7), .ref (ad 8), .ref (ad 9), .ref (ad 10), .int tr]] := hD
              refine lv_aload_n hx hb dX6_nextToken_135 rfl (lv_at hl 1 rfl) ?_
              refine lv_iconst (v := nI 0) hx hb dX6_nextToken_136 (by decide) ?_
              refine va_put (D := G.1) (ci := 6) (v := .int (nI 0)) (ty := .int) (C := RX6) (T := TX6) (N := 29) hx hb hts hin6 tyX6 tyX6_ok nmX6 hown hK.1 hP hD hS 1 rfl rfl 18 (by decide) (hts (.fieldLink RX6 121 "BackLensesModel" "value" "I") (List.mem_of_getElem? (i := 9) rfl)) (fun _ h9 => h9) rfl (by decide +kernel) rfl rfl (Nat.le_of_ble_eq_true rfl) dX6_nextToken_137 (fun H locs hP hD hS => ?_)
              replace hP : xP G [iA G (ad 3) 160 tb, oC ko 6 [.ref (ad 0), .ref (ad 1), .int (nI w), .int (nI h), .int (nI la), .ref (ad 2), .int (nI dw), .int (nI dh), .int (nI dl), .int tl, .int tc, .int hc, .int hd, .ref (ad 3), .int (nI tp), .int (nI p), .int (nI p), .int (nI 2), .int (nI 0), .int (nI ft), .int wa, .ref (ad 4), .ref (ad 5), .ref (ad 6), .ref (ad 7), .ref (ad 8), .ref (ad 9), .ref (ad 10), .int tr]] H := hP
              replace hD : va_D (va_A (w_X6_nextToken G ko ad w h la tp dw dh dl tl tc hc hd ps fr so vl ft wa tr tb) ss.heap.size) [iA G (ad 3) 160 tb, oC ko 6 [.ref (ad 0), .ref (ad 1), .int (nI w), .int (nI h), .int (nI la), .ref (ad 2), .int (nI dw), .int (nI dh), .int (nI dl), .int tl, .int tc, .int hc, .int hd, .ref (ad 3), .int (nI tp), .int (nI p), .int (nI p), .int (nI 2), .int (nI 0), .int (nI ft), .int wa, .ref (ad 4), .ref (ad 5), .ref (ad 6), .ref (ad 7), .ref (ad 8), .ref (ad 9), .ref (ad 10), .int tr]] := hD
              have hL140 : ∀ k : Nat, ∀ (p2 : Nat) (v2 : Int32) (ls : Array Slot) (H : Heap) (locs : List Loc), tp - p2 = k → (p ≤ p2) → (p2 ≤ tp) → (ruE isD tb tp p = ruE isD tb tp p2) → (v2 = dvF tb (min (p2 - p) 2) p (nI 0)) → lv_has ls 2 [(0, .ref ko), (1, .int (byF tb tp p))] → xP G [iA G (ad 3) 160 tb, oC ko 6 [.ref (ad 0), .ref (ad 1), .int (nI w), .int (nI h), .int (nI la), .ref (ad 2), .int (nI dw), .int (nI dh), .int (nI dl), .int tl, .int tc, .int hc, .int hd, .ref (ad 3), .int (nI tp), .int (nI p2), .int (nI p), .int (nI 2), .int v2, .int (nI ft), .int wa, .ref (ad 4), .ref (ad 5), .ref (ad 6), .ref (ad 7), .ref (ad 8), .ref (ad 9), .ref (ad 10), .int tr]] H → va_D (va_A (w_X6_nextToken G ko ad w h la tp dw dh dl tl tc hc hd ps fr so vl ft wa tr tb) ss.heap.size) [iA G (ad 3) 160 tb, oC ko 6 [.ref (ad 0), .ref (ad 1), .int (nI w), .int (nI h), .int (nI la), .ref (ad 2), .int (nI dw), .int (nI dh), .int (nI dl), .int tl, .int tc, .int hc, .int hd, .ref (ad 3), .int (nI tp), .int (nI p2), .int (nI p), .int (nI 2), .int v2, .int (nI ft), .int wa, .ref (ad 4), .ref (ad 5), .ref (ad 6), .ref (ad 7), .ref (ad 8), .ref (ad 9), .ref (ad 10), .int tr]] → va_S (va_A (w_X6_nextToken G ko ad w h la tp dw dh dl tl tc hc hd ps fr so vl ft wa tr tb) ss.heap.size) ss.heap H locs → W pp l ee ({ frames := 1, cells := 0, slots := 0, locals := 25 } : Room) ss mm ([.ref ko] : List Value).toArray below mt cd H locs 0 0 (MQ below (Q_X6_nextToken G ss.heap.size ko ad w h la tp dw dh dl tl tc hc hd ps fr so vl ft wa tr tb) ([.ref ko] : List Value).toArray ss 0 0 (va_A (w_X6_nextToken G ko ad w h la tp dw dh dl tl tc hc hd ps fr so vl ft wa tr tb) ss.heap.size)) (F0 mm 140 ls []) := by
                intro k
                induction k using Nat.strongRecOn with
                | _ k ih140 =>
                intro p2 v2 ls H locs hm140 hp2 hp3 hdr hdv hl hP hD hS
                refine lv_aload_n hx hb dX6_nextToken_140 rfl (lv_at hl 0 rfl) ?_
                refine lv_aload_n hx hb dX6_nextToken_141 rfl (lv_at hl 0 rfl) ?_
                refine va_get (D := G.1) (ci := 6) (v := .int (nI p2)) (C := RX6) (T := TX6) (N := 29) hx hb hts hin6 hown hK.1 hP 1 rfl rfl 15 (by decide) (hts (.fieldLink RX6 99 "BackLensesModel" "pos" "I") (List.mem_of_getElem? (i := 2) rfl)) (fun _ h9 => h9) rfl dX6_nextToken_142 ?_
                refine xr_i (As := [.int (nI p2)]) (rest := []) ⟨hx, hb, hml, hown, hts⟩ (c_X6_byteAt l G ko ad w h la tp dw dh dl tl tc hc hd p2 p 2 v2 ft wa tr tb p2 (by first | assumption | omega) (by first | assumption | omega)) (cwV 1 hts gX6_nextToken_X6_byteAt rfl rfl rfl (by decide +kernel) ⟨Nat.le_of_ble_eq_true rfl, Nat.le_of_ble_eq_true rfl⟩) hK hP hS [1, 0] rfl rfl rfl rfl hl.1 rfl (Nat.le_of_ble_eq_true rfl) dX6_nextToken_145 ⟨Nat.zero_le _, Nat.zero_le _⟩ (fun r145 H locs hp145 hP hS => ?_)
                rw [show r145 = _ from hp145]
                refine xi_i2l hx hb dX6_nextToken_148 ?_
                refine lv_ldc2 (v := lN 48) hx hb hown (hts (.constantLong RX6 117 (lN 48)) (List.mem_of_getElem? (i := 7) rfl)) dX6_nextToken_149 ?_
                refine lv_ldc2 (v := lN 57) hx hb hown (hts (.constantLong RX6 119 (lN 57)) (List.mem_of_getElem? (i := 8) rfl)) dX6_nextToken_152 ?_
                refine xs_i (As := [.long ((byF tb tp p2).toInt64), .long (lN 48), .long (lN 57)]) (rest := []) ⟨hx, hb, hml, hown, hts⟩ (c_X6_in_b l G (byF tb tp p2) 48 57 (by first | assumption | omega) (by first | assumption | omega)) (va_cwS 3 hts gX6_nextToken_X6_in rfl rfl rfl (by decide +kernel) ⟨Nat.le_of_ble_eq_true rfl, Nat.le_of_ble_eq_true rfl⟩) hP hS rfl hl.1 rfl (Nat.le_of_ble_eq_true rfl) dX6_nextToken_155 ⟨Nat.zero_le _, Nat.zero_le _⟩ (fun r155 H locs hp155 hP hS => ?_)
                rw [show r155 = _ from hp155]
                refine xb_if_eq (tgt := 217) hx hb dX6_nextToken_158 rfl (fun b158 => ?_) (fun b158 => ?_)
                · skip
                  have hle := hdr.trans (ruF_end (fun q => b158 (byF_D.mpr q)))
                  refine lv_aload_n hx hb dX6_nextToken_217 rfl (lv_at hl 0 rfl) ?_
                  refine lv_aload_n hx hb dX6_nextToken_218 rfl (lv_at hl 0 rfl) ?_
                  refine va_get (D := G.1) (ci := 6) (v := .int (nI p2)) (C := RX6) (T := TX6) (N := 29) hx hb hts hin6 hown hK.1 hP 1 rfl rfl 15 (by decide) (hts (.fieldLink RX6 99 "BackLensesModel" "pos" "I") (List.mem_of_getElem? (i := 2) rfl)) (fun _ h9 => h9) rfl dX6_nextToken_219 ?_
                  refine lv_aload_n hx hb dX6_nextToken_222 rfl (lv_at hl 0 rfl) ?_
                  refine va_get (D := G.1) (ci := 6) (v := .int (nI p)) (C := RX6) (T := TX6) (N := 29) hx hb hts hin6 hown hK.1 hP 1 rfl rfl 16 (by decide) (hts (.fieldLink RX6 93 "BackLensesModel" "from" "I") (List.mem_of_getElem? (i := 3) rfl)) (fun _ h9 => h9) rfl dX6_nextToken_223 ?_
                  refine xn_isub hx hb (by omega) dX6_nextToken_226 ?_
                  refine lv_iconst (v := nI 2) hx hb dX6_nextToken_227 (by decide) ?_
                  refine xn_icmp_gt (tgt := 235) hx hb (by omega) (by omega) dX6_nextToken_228 rfl (fun b228 => ?_) (fun b228 => ?_)
                  · skip
                    have h22 : ¬ p2 - p ≤ 2 := (by omega)
                    refine lv_iconst (v := nI 0) hx hb dX6_nextToken_235 (by decide) ?_
                    refine lv_iconst (v := nI 1) hx hb dX6_nextToken_236 (by decide) ?_
                    refine xw_v (As := [.int (nI 0), .int (nI 1)]) (rest := []) (wr := [iA G (ad 3) 160 tb]) ⟨hx, hb, hml, hown, hts⟩ (c_X6_needs_0 l G H.size ko ad w h la tp dw dh dl tl tc hc hd p2 p 2 v2 ft wa tr 1 (by first | assumption | omega)) (cwV 2 hts gX6_nextToken_X6_needs rfl rfl rfl (by decide +kernel) ⟨Nat.le_of_ble_eq_true rfl, Nat.le_of_ble_eq_true rfl⟩) hK hP hD hS hA [1] [0] rfl rfl (by decide) (by decide) (by decide) rfl rfl rfl hl.1 rfl (Nat.le_of_ble_eq_true rfl) dX6_nextToken_237 ⟨Nat.le_of_ble_eq_true rfl, Nat.le_of_ble_eq_true rfl⟩ (fun u H locs hp237 hP hD hS => ?_)
                    replace hP : xP G [iA G (ad 3) 160 tb, oC ko 6 [.ref (ad 0), .ref (ad 1), .int (nI w), .int (nI h), .int (nI la), .ref (ad 2), .int (nI dw), .int (nI dh), .int (nI dl), .int tl, .int tc, .int hc, .int hd, .ref (ad 3), .int (nI tp), .int (nI p2), .int (nI p), .int (nI 2), .int v2, .int (nI 1), .int (nI p), .ref (ad 4), .ref (ad 5), .ref (ad 6), .ref (ad 7), .ref (ad 8), .ref (ad 9), .ref (ad 10), .int tr]] H := hP
                    replace hD : va_D (va_A (w_X6_nextToken G ko ad w h la tp dw dh dl tl tc hc hd ps fr so vl ft wa tr tb) ss.heap.size) [iA G (ad 3) 160 tb, oC ko 6 [.ref (ad 0), .ref (ad 1), .int (nI w), .int (nI h), .int (nI la), .ref (ad 2), .int (nI dw), .int (nI dh), .int (nI dl), .int tl, .int tc, .int hc, .int hd, .ref (ad 3), .int (nI tp), .int (nI p2), .int (nI p), .int (nI 2), .int v2, .int (nI 1), .int (nI p), .ref (ad 4), .ref (ad 5), .ref (ad 6), .ref (ad 7), .ref (ad 8), .ref (ad 9), .ref (ad 10), .int tr]] := hD
                    refine lv_goto (tgt := 274) hx hb dX6_nextToken_240 rfl ?_
                    have hP := hP.sub (ws' := [oC ko 6 [.ref (ad 0), .ref (ad 1), .int (nI w), .int (nI h), .int (nI la), .ref (ad 2), .int (nI dw), .int (nI dh), .int (nI dl), .int tl, .int tc, .int hc, .int hd, .ref (ad 3), .int (nI tp), .int (nI p2), .int (nI p), .int (nI 2), .int v2, .int (nI 1), .int (nI p), .ref (ad 4), .ref (ad 5), .ref (ad 6), .ref (ad 7), .ref (ad 8), .ref (ad 9), .ref (ad 10), .int tr], iA G (ad 3) 160 tb]) [1, 0] rfl
                    have hD := hD.sub (ws' := [oC ko 6 [.ref (ad 0), .ref (ad 1), .int (nI w), .int (nI h), .int (nI la), .ref (ad 2), .int (nI dw), .int (nI dh), .int (nI dl), .int tl, .int tc, .int hc, .int hd, .ref (ad 3), .int (nI tp), .int (nI p2), .int (nI p), .int (nI 2), .int v2, .int (nI 1), .int (nI p), .ref (ad 4), .ref (ad 5), .ref (ad 6), .ref (ad 7), .ref (ad 8), .ref (ad 9), .ref (ad 10), .int tr], iA G (ad 3) 160 tb]) [1, 0] (by decide) rfl
                    refine W.vret hx hb hr (fun t ht hW => ⟨⟨(p2, p, 2, v2, 1, nI p), rfl, ?_, by rw [ht]; exact hP, hD⟩, hS.F ht⟩) hS.2.2 dX6_nextToken_274
                    try dsimp only
                    first | exact ((mTok_1 hft0 hq).trans (mTk_0 hpp)).symm | exact ((mTok_1 hft0 hq).trans (mTk_1 hpp hil hle)).symm | (rw [hdv]; exact ((mTok_1 hft0 hq).trans (mTk_2 hpp hnl hid hle h22)).symm) | (rw [hdv]; exact ((mTok_1 hft0 hq).trans (mTk_3 hpp hnl hid hle h22)).symm) | exact ((mTok_1 hft0 hq).trans (mTk_4 hpp hnl hnd h59)).symm | exact ((mTok_1 hft0 hq).trans (mTk_5 hpp hnl hnd h59)).symm
                  · skip
                    have h22 : p2 - p ≤ 2 := (by omega)
                    refine lv_iconst (v := nI 1) hx hb dX6_nextToken_231 (by decide) ?_
                    refine lv_goto (tgt := 236) hx hb dX6_nextToken_232 rfl ?_
                    refine lv_iconst (v := nI 1) hx hb dX6_nextToken_236 (by decide) ?_
                    refine xw_v (As := [.int (nI 1), .int (nI 1)]) (rest := []) (wr := [iA G (ad 3) 160 tb]) ⟨hx, hb, hml, hown, hts⟩ (c_X6_needs_1 l G H.size ko ad w h la tp dw dh dl tl tc hc hd p2 p 2 v2 ft wa tr 1 ) (cwV 2 hts gX6_nextToken_X6_needs rfl rfl rfl (by decide +kernel) ⟨Nat.le_of_ble_eq_true rfl, Nat.le_of_ble_eq_true rfl⟩) hK hP hD hS hA [1] [0] rfl rfl (by decide) (by decide) (by decide) rfl rfl rfl hl.1 rfl (Nat.le_of_ble_eq_true rfl) dX6_nextToken_237 ⟨Nat.le_of_ble_eq_true rfl, Nat.le_of_ble_eq_true rfl⟩ (fun u H locs hp237 hP hD hS => ?_)
                    replace hP : xP G [iA G (ad 3) 160 tb, oC ko 6 [.ref (ad 0), .ref (ad 1), .int (nI w), .int (nI h), .int (nI la), .ref (ad 2), .int (nI dw), .int (nI dh), .int (nI dl), .int tl, .int tc, .int hc, .int hd, .ref (ad 3), .int (nI tp), .int (nI p2), .int (nI p), .int (nI 2), .int v2, .int (nI ft), .int wa, .ref (ad 4), .ref (ad 5), .ref (ad 6), .ref (ad 7), .ref (ad 8), .ref (ad 9), .ref (ad 10), .int tr]] H := hP
                    replace hD : va_D (va_A (w_X6_nextToken G ko ad w h la tp dw dh dl tl tc hc hd ps fr so vl ft wa tr tb) ss.heap.size) [iA G (ad 3) 160 tb, oC ko 6 [.ref (ad 0), .ref (ad 1), .int (nI w), .int (nI h), .int (nI la), .ref (ad 2), .int (nI dw), .int (nI dh), .int (nI dl), .int tl, .int tc, .int hc, .int hd, .ref (ad 3), .int (nI tp), .int (nI p2), .int (nI p), .int (nI 2), .int v2, .int (nI ft), .int wa, .ref (ad 4), .ref (ad 5), .ref (ad 6), .ref (ad 7), .ref (ad 8), .ref (ad 9), .ref (ad 10), .int tr]] := hD
                    refine lv_goto (tgt := 274) hx hb dX6_nextToken_240 rfl ?_
                    have hP := hP.sub (ws' := [oC ko 6 [.ref (ad 0), .ref (ad 1), .int (nI w), .int (nI h), .int (nI la), .ref (ad 2), .int (nI dw), .int (nI dh), .int (nI dl), .int tl, .int tc, .int hc, .int hd, .ref (ad 3), .int (nI tp), .int (nI p2), .int (nI p), .int (nI 2), .int v2, .int (nI ft), .int wa, .ref (ad 4), .ref (ad 5), .ref (ad 6), .ref (ad 7), .ref (ad 8), .ref (ad 9), .ref (ad 10), .int tr], iA G (ad 3) 160 tb]) [1, 0] rfl
                    have hD := hD.sub (ws' := [oC ko 6 [.ref (ad 0), .ref (ad 1), .int (nI w), .int (nI h), .int (nI la), .ref (ad 2), .int (nI dw), .int (nI dh), .int (nI dl), .int tl, .int tc, .int hc, .int hd, .ref (ad 3), .int (nI tp), .int (nI p2), .int (nI p), .int (nI 2), .int v2, .int (nI ft), .int wa, .ref (ad 4), .ref (ad 5), .ref (ad 6), .ref (ad 7), .ref (ad 8), .ref (ad 9), .ref (ad 10), .int tr], iA G (ad 3) 160 tb]) [1, 0] (by decide) rfl
                    refine W.vret hx hb hr (fun t ht hW => ⟨⟨(p2, p, 2, v2, ft, wa), rfl, ?_, by rw [ht]; exact hP, hD⟩, hS.F ht⟩) hS.2.2 dX6_nextToken_274
                    try dsimp only
                    first | exact ((mTok_1 hft0 hq).trans (mTk_0 hpp)).symm | exact ((mTok_1 hft0 hq).trans (mTk_1 hpp hil hle)).symm | (rw [hdv]; exact ((mTok_1 hft0 hq).trans (mTk_2 hpp hnl hid hle h22)).symm) | (rw [hdv]; exact ((mTok_1 hft0 hq).trans (mTk_3 hpp hnl hid hle h22)).symm) | exact ((mTok_1 hft0 hq).trans (mTk_4 hpp hnl hnd h59)).symm | exact ((mTok_1 hft0 hq).trans (mTk_5 hpp hnl hnd h59)).symm
                · skip
                  have hlt := (byF_D.mp b158).1
                  refine lv_aload_n hx hb dX6_nextToken_161 rfl (lv_at hl 0 rfl) ?_
                  refine lv_aload_n hx hb dX6_nextToken_162 rfl (lv_at hl 0 rfl) ?_
                  refine va_get (D := G.1) (ci := 6) (v := .int (nI p2)) (C := RX6) (T := TX6) (N := 29) hx hb hts hin6 hown hK.1 hP 1 rfl rfl 15 (by decide) (hts (.fieldLink RX6 99 "BackLensesModel" "pos" "I") (List.mem_of_getElem? (i := 2) rfl)) (fun _ h9 => h9) rfl dX6_nextToken_163 ?_
                  refine lv_aload_n hx hb dX6_nextToken_166 rfl (lv_at hl 0 rfl) ?_
                  refine va_get (D := G.1) (ci := 6) (v := .int (nI p)) (C := RX6) (T := TX6) (N := 29) hx hb hts hin6 hown hK.1 hP 1 rfl rfl 16 (by decide) (hts (.fieldLink RX6 93 "BackLensesModel" "from" "I") (List.mem_of_getElem? (i := 3) rfl)) (fun _ h9 => h9) rfl dX6_nextToken_167 ?_
                  refine xn_isub hx hb (by omega) dX6_nextToken_170 ?_
                  refine lv_iconst (v := nI 2) hx hb dX6_nextToken_171 (by decide) ?_
                  refine xn_icmp_ge (tgt := 197) hx hb (by omega) (by omega) dX6_nextToken_172 rfl (fun b172 => ?_) (fun b172 => ?_)
                  · skip
                    have hv9 : v2 = dvF tb (min (p2 + 1 - p) 2) p (nI 0) := (by rw [show p2 + 1 - p = (p2 - p) + 1 by omega, dv2_stay (by omega)]; exact hdv)
                    refine lv_aload_n hx hb dX6_nextToken_197 rfl (lv_at hl 0 rfl) ?_
                    refine va_get (D := G.1) (ci := 6) (v := .int v2) (C := RX6) (T := TX6) (N := 29) hx hb hts hin6 hown hK.1 hP 1 rfl rfl 18 (by decide) (hts (.fieldLink RX6 121 "BackLensesModel" "value" "I") (List.mem_of_getElem? (i := 9) rfl)) (fun _ h9 => h9) rfl dX6_nextToken_198 ?_
                    refine va_put (D := G.1) (ci := 6) (v := .int v2) (ty := .int) (C := RX6) (T := TX6) (N := 29) hx hb hts hin6 tyX6 tyX6_ok nmX6 hown hK.1 hP hD hS 1 rfl rfl 18 (by decide) (hts (.fieldLink RX6 121 "BackLensesModel" "value" "I") (List.mem_of_getElem? (i := 9) rfl)) (fun _ h9 => h9) rfl (by decide +kernel) rfl rfl (Nat.le_of_ble_eq_true rfl) dX6_nextToken_201 (fun H locs hP hD hS => ?_)
                    replace hP : xP G [iA G (ad 3) 160 tb, oC ko 6 [.ref (ad 0), .ref (ad 1), .int (nI w), .int (nI h), .int (nI la), .ref (ad 2), .int (nI dw), .int (nI dh), .int (nI dl), .int tl, .int tc, .int hc, .int hd, .ref (ad 3), .int (nI tp), .int (nI p2), .int (nI p), .int (nI 2), .int v2, .int (nI ft), .int wa, .ref (ad 4), .ref (ad 5), .ref (ad 6), .ref (ad 7), .ref (ad 8), .ref (ad 9), .ref (ad 10), .int tr]] H := hP
                    replace hD : va_D (va_A (w_X6_nextToken G ko ad w h la tp dw dh dl tl tc hc hd ps fr so vl ft wa tr tb) ss.heap.size) [iA G (ad 3) 160 tb, oC ko 6 [.ref (ad 0), .ref (ad 1), .int (nI w), .int (nI h), .int (nI la), .ref (ad 2), .int (nI dw), .int (nI dh), .int (nI dl), .int tl, .int tc, .int hc, .int hd, .ref (ad 3), .int (nI tp), .int (nI p2), .int (nI p), .int (nI 2), .int v2, .int (nI ft), .int wa, .ref (ad 4), .ref (ad 5), .ref (ad 6), .ref (ad 7), .ref (ad 8), .ref (ad 9), .ref (ad 10), .int tr]] := hD
                    refine lv_aload_n hx hb dX6_nextToken_204 rfl (lv_at hl 0 rfl) ?_
                    refine lv_dup hx hb dX6_nextToken_205 rfl ?_
                    refine va_get (D := G.1) (ci := 6) (v := .int (nI p2)) (C := RX6) (T := TX6) (N := 29) hx hb hts hin6 hown hK.1 hP 1 rfl rfl 15 (by decide) (hts (.fieldLink RX6 99 "BackLensesModel" "pos" "I") (List.mem_of_getElem? (i := 2) rfl)) (fun _ h9 => h9) rfl dX6_nextToken_206 ?_
                    refine lv_iconst (v := nI 1) hx hb dX6_nextToken_209 (by decide) ?_
                    refine xn_iadd hx hb dX6_nextToken_210 ?_
                    refine va_put (D := G.1) (ci := 6) (v := .int (nI (p2 + 1))) (ty := .int) (C := RX6) (T := TX6) (N := 29) hx hb hts hin6 tyX6 tyX6_ok nmX6 hown hK.1 hP hD hS 1 rfl rfl 15 (by decide) (hts (.fieldLink RX6 99 "BackLensesModel" "pos" "I") (List.mem_of_getElem? (i := 2) rfl)) (fun _ h9 => h9) rfl (by decide +kernel) rfl rfl (Nat.le_of_ble_eq_true rfl) dX6_nextToken_211 (fun H locs hP hD hS => ?_)
                    replace hP : xP G [iA G (ad 3) 160 tb, oC ko 6 [.ref (ad 0), .ref (ad 1), .int (nI w), .int (nI h), .int (nI la), .ref (ad 2), .int (nI dw), .int (nI dh), .int (nI dl), .int tl, .int tc, .int hc, .int hd, .ref (ad 3), .int (nI tp), .int (nI (p2 + 1)), .int (nI p), .int (nI 2), .int v2, .int (nI ft), .int wa, .ref (ad 4), .ref (ad 5), .ref (ad 6), .ref (ad 7), .ref (ad 8), .ref (ad 9), .ref (ad 10), .int tr]] H := hP
                    replace hD : va_D (va_A (w_X6_nextToken G ko ad w h la tp dw dh dl tl tc hc hd ps fr so vl ft wa tr tb) ss.heap.size) [iA G (ad 3) 160 tb, oC ko 6 [.ref (ad 0), .ref (ad 1), .int (nI w), .int (nI h), .int (nI la), .ref (ad 2), .int (nI dw), .int (nI dh), .int (nI dl), .int tl, .int tc, .int hc, .int hd, .ref (ad 3), .int (nI tp), .int (nI (p2 + 1)), .int (nI p), .int (nI 2), .int v2, .int (nI ft), .int wa, .ref (ad 4), .ref (ad 5), .ref (ad 6), .ref (ad 7), .ref (ad 8), .ref (ad 9), .ref (ad 10), .int tr]] := hD
                    refine lv_goto (tgt := 140) hx hb dX6_nextToken_214 rfl ?_
                    have hl := lv_sub hl (l' := [(0, .ref ko), (1, .int (byF tb tp p))]) [0, 1] rfl
                    exact ih140 (tp - (p2 + 1)) (by omega) (p2 + 1) v2 ls H locs rfl (by omega) (by have := (byF_D.mp b158).1; omega) (by exact hdr.trans (ruF_go (byF_D.mp b158).1 (byF_D.mp b158).2)) (by exact hv9) hl hP hD hS
                  · skip
                    have hv9 : nI 10 * v2 + byF tb tp p2 - nI 48 = dvF tb (min (p2 + 1 - p) 2) p (nI 0) := (by rw [show p2 + 1 - p = (p2 - p) + 1 by omega, dv2_go (by omega), ← hdv, show p + (p2 - p) = p2 by omega, show byF tb tp p2 = tb p2 from if_pos (byF_D.mp b158).1])
                    refine lv_bipush (v := nI 10) hx hb dX6_nextToken_175 (by decide) ?_
                    refine lv_aload_n hx hb dX6_nextToken_177 rfl (lv_at hl 0 rfl) ?_
                    refine va_get (D := G.1) (ci := 6) (v := .int v2) (C := RX6) (T := TX6) (N := 29) hx hb hts hin6 hown hK.1 hP 1 rfl rfl 18 (by decide) (hts (.fieldLink RX6 121 "BackLensesModel" "value" "I") (List.mem_of_getElem? (i := 9) rfl)) (fun _ h9 => h9) rfl dX6_nextToken_178 ?_
                    refine lv_imul hx hb dX6_nextToken_181 ?_
                    refine lv_aload_n hx hb dX6_nextToken_182 rfl (lv_at hl 0 rfl) ?_
                    refine lv_aload_n hx hb dX6_nextToken_183 rfl (lv_at hl 0 rfl) ?_
                    refine va_get (D := G.1) (ci := 6) (v := .int (nI p2)) (C := RX6) (T := TX6) (N := 29) hx hb hts hin6 hown hK.1 hP 1 rfl rfl 15 (by decide) (hts (.fieldLink RX6 99 "BackLensesModel" "pos" "I") (List.mem_of_getElem? (i := 2) rfl)) (fun _ h9 => h9) rfl dX6_nextToken_184 ?_
                    refine xr_i (As := [.int (nI p2)]) (rest := [.int ((nI 10) * v2), .ref ko]) ⟨hx, hb, hml, hown, hts⟩ (c_X6_byteAt l G ko ad w h la tp dw dh dl tl tc hc hd p2 p 2 v2 ft wa tr tb p2 (by first | assumption | omega) (by first | assumption | omega)) (cwV 1 hts gX6_nextToken_X6_byteAt rfl rfl rfl (by decide +kernel) ⟨Nat.le_of_ble_eq_true rfl, Nat.le_of_ble_eq_true rfl⟩) hK hP hS [1, 0] rfl rfl rfl rfl hl.1 rfl (Nat.le_of_ble_eq_true rfl) dX6_nextToken_187 ⟨Nat.zero_le _, Nat.zero_le _⟩ (fun r187 H locs hp187 hP hS => ?_)
                    rw [show r187 = _ from hp187]
                    refine lv_iadd hx hb dX6_nextToken_190 ?_
                    refine lv_bipush (v := nI 48) hx hb dX6_nextToken_191 (by decide) ?_
                    refine lv_isub hx hb dX6_nextToken_193 ?_
                    refine lv_goto (tgt := 201) hx hb dX6_nextToken_194 rfl ?_
                    refine va_put (D := G.1) (ci := 6) (v := .int ((((nI 10) * v2) + (byF tb tp p2)) - (nI 48))) (ty := .int) (C := RX6) (T := TX6) (N := 29) hx hb hts hin6 tyX6 tyX6_ok nmX6 hown hK.1 hP hD hS 1 rfl rfl 18 (by decide) (hts (.fieldLink RX6 121 "BackLensesModel" "value" "I") (List.mem_of_getElem? (i := 9) rfl)) (fun _ h9 => h9) rfl (by decide +kernel) rfl rfl (Nat.le_of_ble_eq_true rfl) dX6_nextToken_201 (fun H locs hP hD hS => ?_)
                    replace hP : xP G [iA G (ad 3) 160 tb, oC ko 6 [.ref (ad 0), .ref (ad 1), .int (nI w), .int (nI h), .int (nI la), .ref (ad 2), .int (nI dw), .int (nI dh), .int (nI dl), .int tl, .int tc, .int hc, .int hd, .ref (ad 3), .int (nI tp), .int (nI p2), .int (nI p), .int (nI 2), .int ((((nI 10) * v2) + (byF tb tp p2)) - (nI 48)), .int (nI ft), .int wa, .ref (ad 4), .ref (ad 5), .ref (ad 6), .ref (ad 7), .ref (ad 8), .ref (ad 9), .ref (ad 10), .int tr]] H := hP
                    replace hD : va_D (va_A (w_X6_nextToken G ko ad w h la tp dw dh dl tl tc hc hd ps fr so vl ft wa tr tb) ss.heap.size) [iA G (ad 3) 160 tb, oC ko 6 [.ref (ad 0), .ref (ad 1), .int (nI w), .int (nI h), .int (nI la), .ref (ad 2), .int (nI dw), .int (nI dh), .int (nI dl), .int tl, .int tc, .int hc, .int hd, .ref (ad 3), .int (nI tp), .int (nI p2), .int (nI p), .int (nI 2), .int ((((nI 10) * v2) + (byF tb tp p2)) - (nI 48)), .int (nI ft), .int wa, .ref (ad 4), .ref (ad 5), .ref (ad 6), .ref (ad 7), .ref (ad 8), .ref (ad 9), .ref (ad 10), .int tr]] := hD
                    refine lv_aload_n hx hb dX6_nextToken_204 rfl (lv_at hl 0 rfl) ?_
                    refine lv_dup hx hb dX6_nextToken_205 rfl ?_
                    refine va_get (D := G.1) (ci := 6) (v := .int (nI p2)) (C := RX6) (T := TX6) (N := 29) hx hb hts hin6 hown hK.1 hP 1 rfl rfl 15 (by decide) (hts (.fieldLink RX6 99 "BackLensesModel" "pos" "I") (List.mem_of_getElem? (i := 2) rfl)) (fun _ h9 => h9) rfl dX6_nextToken_206 ?_
                    refine lv_iconst (v := nI 1) hx hb dX6_nextToken_209 (by decide) ?_
                    refine xn_iadd hx hb dX6_nextToken_210 ?_
                    refine va_put (D := G.1) (ci := 6) (v := .int (nI (p2 + 1))) (ty := .int) (C := RX6) (T := TX6) (N := 29) hx hb hts hin6 tyX6 tyX6_ok nmX6 hown hK.1 hP hD hS 1 rfl rfl 15 (by decide) (hts (.fieldLink RX6 99 "BackLensesModel" "pos" "I") (List.mem_of_getElem? (i := 2) rfl)) (fun _ h9 => h9) rfl (by decide +kernel) rfl rfl (Nat.le_of_ble_eq_true rfl) dX6_nextToken_211 (fun H locs hP hD hS => ?_)
                    replace hP : xP G [iA G (ad 3) 160 tb, oC ko 6 [.ref (ad 0), .ref (ad 1), .int (nI w), .int (nI h), .int (nI la), .ref (ad 2), .int (nI dw), .int (nI dh), .int (nI dl), .int tl, .int tc, .int hc, .int hd, .ref (ad 3), .int (nI tp), .int (nI (p2 + 1)), .int (nI p), .int (nI 2), .int ((((nI 10) * v2) + (byF tb tp p2)) - (nI 48)), .int (nI ft), .int wa, .ref (ad 4), .ref (ad 5), .ref (ad 6), .ref (ad 7), .ref (ad 8), .ref (ad 9), .ref (ad 10), .int tr]] H := hP
                    replace hD : va_D (va_A (w_X6_nextToken G ko ad w h la tp dw dh dl tl tc hc hd ps fr so vl ft wa tr tb) ss.heap.size) [iA G (ad 3) 160 tb, oC ko 6 [.ref (ad 0), .ref (ad 1), .int (nI w), .int (nI h), .int (nI la), .ref (ad 2), .int (nI dw), .int (nI dh), .int (nI dl), .int tl, .int tc, .int hc, .int hd, .ref (ad 3), .int (nI tp), .int (nI (p2 + 1)), .int (nI p), .int (nI 2), .int ((((nI 10) * v2) + (byF tb tp p2)) - (nI 48)), .int (nI ft), .int wa, .ref (ad 4), .ref (ad 5), .ref (ad 6), .ref (ad 7), .ref (ad 8), .ref (ad 9), .ref (ad 10), .int tr]] := hD
                    refine lv_goto (tgt := 140) hx hb dX6_nextToken_214 rfl ?_
                    have hl := lv_sub hl (l' := [(0, .ref ko), (1, .int (byF tb tp p))]) [0, 1] rfl
                    exact ih140 (tp - (p2 + 1)) (by omega) (p2 + 1) ((((nI 10) * v2) + (byF tb tp p2)) - (nI 48)) ls H locs rfl (by omega) (by have := (byF_D.mp b158).1; omega) (by exact hdr.trans (ruF_go (byF_D.mp b158).1 (byF_D.mp b158).2)) (by exact hv9) hl hP hD hS
              have hl := lv_sub hl (l' := [(0, .ref ko), (1, .int (byF tb tp p))]) [1, 0] rfl
              exact hL140 (tp - p) p (nI 0) ls H locs rfl (by omega) (by omega) (by rfl) (by rw [Nat.sub_self]; rfl) hl hP hD hS
          · skip
            have hil : isL (tb p) = true := (byF_L.mp b74).2
            refine lv_aload_n hx hb dX6_nextToken_77 rfl (lv_at hl 1 rfl) ?_
            refine lv_iconst (v := nI 1) hx hb dX6_nextToken_78 (by decide) ?_
            refine va_put (D := G.1) (ci := 6) (v := .int (nI 1)) (ty := .int) (C := RX6) (T := TX6) (N := 29) hx hb hts hin6 tyX6 tyX6_ok nmX6 hown hK.1 hP hD hS 1 rfl rfl 17 (by decide) (hts (.fieldLink RX6 110 "BackLensesModel" "sort" "I") (List.mem_of_getElem? (i := 4) rfl)) (fun _ h9 => h9) rfl (by decide +kernel) rfl rfl (Nat.le_of_ble_eq_true rfl) dX6_nextToken_79 (fun H locs hP hD hS => ?_)
            replace hP : xP G [iA G (ad 3) 160 tb, oC ko 6 [.ref (ad 0), .ref (ad 1), .int (nI w), .int (nI h), .int (nI la), .ref (ad 2), .int (nI dw), .int (nI dh), .int (nI dl), .int tl, .int tc, .int hc, .int hd, .ref (ad 3), .int (nI tp), .int (nI p), .int (nI p), .int (nI 1), .int vl, .int (nI ft), .int wa, .ref (ad 4), .ref (ad 5), .ref (ad 6), .ref (ad 7), .ref (ad 8), .ref (ad 9), .ref (ad 10), .int tr]] H := hP
            replace hD : va_D (va_A (w_X6_nextToken G ko ad w h la tp dw dh dl tl tc hc hd ps fr so vl ft wa tr tb) ss.heap.size) [iA G (ad 3) 160 tb, oC ko 6 [.ref (ad 0), .ref (ad 1), .int (nI w), .int (nI h), .int (nI la), .ref (ad 2), .int (nI dw), .int (nI dh), .int (nI dl), .int tl, .int tc, .int hc, .int hd, .ref (ad 3), .int (nI tp), .int (nI p), .int (nI p), .int (nI 1), .int vl, .int (nI ft), .int wa, .ref (ad 4), .ref (ad 5), .ref (ad 6), .ref (ad 7), .ref (ad 8), .ref (ad 9), .ref (ad 10), .int tr]] := hD
            have hL82 : ∀ k : Nat, ∀ (p2 : Nat) (ls : Array Slot) (H : Heap) (locs : List Loc), tp - p2 = k → (p ≤ p2) → (p2 ≤ tp) → (ruE isL tb tp p = ruE isL tb tp p2) → lv_has ls 2 [(0, .ref ko), (1, .int (byF tb tp p))] → xP G [iA G (ad 3) 160 tb, oC ko 6 [.ref (ad 0), .ref (ad 1), .int (nI w), .int (nI h), .int (nI la), .ref (ad 2), .int (nI dw), .int (nI dh), .int (nI dl), .int tl, .int tc, .int hc, .int hd, .ref (ad 3), .int (nI tp), .int (nI p2), .int (nI p), .int (nI 1), .int vl, .int (nI ft), .int wa, .ref (ad 4), .ref (ad 5), .ref (ad 6), .ref (ad 7), .ref (ad 8), .ref (ad 9), .ref (ad 10), .int tr]] H → va_D (va_A (w_X6_nextToken G ko ad w h la tp dw dh dl tl tc hc hd ps fr so vl ft wa tr tb) ss.heap.size) [iA G (ad 3) 160 tb, oC ko 6 [.ref (ad 0), .ref (ad 1), .int (nI w), .int (nI h), .int (nI la), .ref (ad 2), .int (nI dw), .int (nI dh), .int (nI dl), .int tl, .int tc, .int hc, .int hd, .ref (ad 3), .int (nI tp), .int (nI p2), .int (nI p), .int (nI 1), .int vl, .int (nI ft), .int wa, .ref (ad 4), .ref (ad 5), .ref (ad 6), .ref (ad 7), .ref (ad 8), .ref (ad 9), .ref (ad 10), .int tr]] → va_S (va_A (w_X6_nextToken G ko ad w h la tp dw dh dl tl tc hc hd ps fr so vl ft wa tr tb) ss.heap.size) ss.heap H locs → W pp l ee ({ frames := 1, cells := 0, slots := 0, locals := 25 } : Room) ss mm ([.ref ko] : List Value).toArray below mt cd H locs 0 0 (MQ below (Q_X6_nextToken G ss.heap.size ko ad w h la tp dw dh dl tl tc hc hd ps fr so vl ft wa tr tb) ([.ref ko] : List Value).toArray ss 0 0 (va_A (w_X6_nextToken G ko ad w h la tp dw dh dl tl tc hc hd ps fr so vl ft wa tr tb) ss.heap.size)) (F0 mm 82 ls []) := by
              intro k
              induction k using Nat.strongRecOn with
              | _ k ih82 =>
              intro p2 ls H locs hm82 hp2 hp3 hlr hl hP hD hS
              refine lv_aload_n hx hb dX6_nextToken_82 rfl (lv_at hl 0 rfl) ?_
              refine lv_aload_n hx hb dX6_nextToken_83 rfl (lv_at hl 0 rfl) ?_
              refine va_get (D := G.1) (ci := 6) (v := .int (nI p2)) (C := RX6) (T := TX6) (N := 29) hx hb hts hin6 hown hK.1 hP 1 rfl rfl 15 (by decide) (hts (.fieldLink RX6 99 "BackLensesModel" "pos" "I") (List.mem_of_getElem? (i := 2) rfl)) (fun _ h9 => h9) rfl dX6_nextToken_84 ?_
              refine xr_i (As := [.int (nI p2)]) (rest := []) ⟨hx, hb, hml, hown, hts⟩ (c_X6_byteAt l G ko ad w h la tp dw dh dl tl tc hc hd p2 p 1 vl ft wa tr tb p2 (by first | assumption | omega) (by first | assumption | omega)) (cwV 1 hts gX6_nextToken_X6_byteAt rfl rfl rfl (by decide +kernel) ⟨Nat.le_of_ble_eq_true rfl, Nat.le_of_ble_eq_true rfl⟩) hK hP hS [1, 0] rfl rfl rfl rfl hl.1 rfl (Nat.le_of_ble_eq_true rfl) dX6_nextToken_87 ⟨Nat.zero_le _, Nat.zero_le _⟩ (fun r87 H locs hp87 hP hS => ?_)
              rw [show r87 = _ from hp87]
              refine xi_i2l hx hb dX6_nextToken_90 ?_
              refine lv_ldc2 (v := lN 97) hx hb hown (hts (.constantLong RX6 113 (lN 97)) (List.mem_of_getElem? (i := 5) rfl)) dX6_nextToken_91 ?_
              refine lv_ldc2 (v := lN 122) hx hb hown (hts (.constantLong RX6 115 (lN 122)) (List.mem_of_getElem? (i := 6) rfl)) dX6_nextToken_94 ?_
              refine xs_i (As := [.long ((byF tb tp p2).toInt64), .long (lN 97), .long (lN 122)]) (rest := []) ⟨hx, hb, hml, hown, hts⟩ (c_X6_in_b l G (byF tb tp p2) 97 122 (by first | assumption | omega) (by first | assumption | omega)) (va_cwS 3 hts gX6_nextToken_X6_in rfl rfl rfl (by decide +kernel) ⟨Nat.le_of_ble_eq_true rfl, Nat.le_of_ble_eq_true rfl⟩) hP hS rfl hl.1 rfl (Nat.le_of_ble_eq_true rfl) dX6_nextToken_97 ⟨Nat.zero_le _, Nat.zero_le _⟩ (fun r97 H locs hp97 hP hS => ?_)
              rw [show r97 = _ from hp97]
              refine xb_if_eq (tgt := 274) hx hb dX6_nextToken_100 rfl (fun b100 => ?_) (fun b100 => ?_)
              · skip
                have hle := hlr.trans (ruF_end (fun q => b100 (byF_L.mpr q)))
                have hP := hP.sub (ws' := [oC ko 6 [.ref (ad 0), .ref (ad 1), .int (nI w), .int (nI h), .int (nI la), .ref (ad 2), .int (nI dw), .int (nI dh), .int (nI dl), .int tl, .int tc, .int hc, .int hd, .ref (ad 3), .int (nI tp), .int (nI p2), .int (nI p), .int (nI 1), .int vl, .int (nI ft), .int wa, .ref (ad 4), .ref (ad 5), .ref (ad 6), .ref (ad 7), .ref (ad 8), .ref (ad 9), .ref (ad 10), .int tr], iA G (ad 3) 160 tb]) [1, 0] rfl
                have hD := hD.sub (ws' := [oC ko 6 [.ref (ad 0), .ref (ad 1), .int (nI w), .int (nI h), .int (nI la), .ref (ad 2), .int (nI dw), .int (nI dh), .int (nI dl), .int tl, .int tc, .int hc, .int hd, .ref (ad 3), .int (nI tp), .int (nI p2), .int (nI p), .int (nI 1), .int vl, .int (nI ft), .int wa, .ref (ad 4), .ref (ad 5), .ref (ad 6), .ref (ad 7), .ref (ad 8), .ref (ad 9), .ref (ad 10), .int tr], iA G (ad 3) 160 tb]) [1, 0] (by decide) rfl
                refine W.vret hx hb hr (fun t ht hW => ⟨⟨(p2, p, 1, vl, ft, wa), rfl, ?_, by rw [ht]; exact hP, hD⟩, hS.F ht⟩) hS.2.2 dX6_nextToken_274
                try dsimp only
                first | exact ((mTok_1 hft0 hq).trans (mTk_0 hpp)).symm | exact ((mTok_1 hft0 hq).trans (mTk_1 hpp hil hle)).symm | (rw [hdv]; exact ((mTok_1 hft0 hq).trans (mTk_2 hpp hnl hid hle h22)).symm) | (rw [hdv]; exact ((mTok_1 hft0 hq).trans (mTk_3 hpp hnl hid hle h22)).symm) | exact ((mTok_1 hft0 hq).trans (mTk_4 hpp hnl hnd h59)).symm | exact ((mTok_1 hft0 hq).trans (mTk_5 hpp hnl hnd h59)).symm
              · skip
                have hlt := (byF_L.mp b100).1
                refine lv_aload_n hx hb dX6_nextToken_103 rfl (lv_at hl 0 rfl) ?_
                refine lv_dup hx hb dX6_nextToken_104 rfl ?_
                refine va_get (D := G.1) (ci := 6) (v := .int (nI p2)) (C := RX6) (T := TX6) (N := 29) hx hb hts hin6 hown hK.1 hP 1 rfl rfl 15 (by decide) (hts (.fieldLink RX6 99 "BackLensesModel" "pos" "I") (List.mem_of_getElem? (i := 2) rfl)) (fun _ h9 => h9) rfl dX6_nextToken_105 ?_
                refine lv_iconst (v := nI 1) hx hb dX6_nextToken_108 (by decide) ?_
                refine xn_iadd hx hb dX6_nextToken_109 ?_
                refine va_put (D := G.1) (ci := 6) (v := .int (nI (p2 + 1))) (ty := .int) (C := RX6) (T := TX6) (N := 29) hx hb hts hin6 tyX6 tyX6_ok nmX6 hown hK.1 hP hD hS 1 rfl rfl 15 (by decide) (hts (.fieldLink RX6 99 "BackLensesModel" "pos" "I") (List.mem_of_getElem? (i := 2) rfl)) (fun _ h9 => h9) rfl (by decide +kernel) rfl rfl (Nat.le_of_ble_eq_true rfl) dX6_nextToken_110 (fun H locs hP hD hS => ?_)
                replace hP : xP G [iA G (ad 3) 160 tb, oC ko 6 [.ref (ad 0), .ref (ad 1), .int (nI w), .int (nI h), .int (nI la), .ref (ad 2), .int (nI dw), .int (nI dh), .int (nI dl), .int tl, .int tc, .int hc, .int hd, .ref (ad 3), .int (nI tp), .int (nI (p2 + 1)), .int (nI p), .int (nI 1), .int vl, .int (nI ft), .int wa, .ref (ad 4), .ref (ad 5), .ref (ad 6), .ref (ad 7), .ref (ad 8), .ref (ad 9), .ref (ad 10), .int tr]] H := hP
                replace hD : va_D (va_A (w_X6_nextToken G ko ad w h la tp dw dh dl tl tc hc hd ps fr so vl ft wa tr tb) ss.heap.size) [iA G (ad 3) 160 tb, oC ko 6 [.ref (ad 0), .ref (ad 1), .int (nI w), .int (nI h), .int (nI la), .ref (ad 2), .int (nI dw), .int (nI dh), .int (nI dl), .int tl, .int tc, .int hc, .int hd, .ref (ad 3), .int (nI tp), .int (nI (p2 + 1)), .int (nI p), .int (nI 1), .int vl, .int (nI ft), .int wa, .ref (ad 4), .ref (ad 5), .ref (ad 6), .ref (ad 7), .ref (ad 8), .ref (ad 9), .ref (ad 10), .int tr]] := hD
                refine lv_goto (tgt := 82) hx hb dX6_nextToken_113 rfl ?_
                have hl := lv_sub hl (l' := [(0, .ref ko), (1, .int (byF tb tp p))]) [0, 1] rfl
                exact ih82 (tp - (p2 + 1)) (by omega) (p2 + 1) ls H locs rfl (by omega) (by have := (byF_L.mp b100).1; omega) (by exact hlr.trans (ruF_go (byF_L.mp b100).1 (byF_L.mp b100).2)) hl hP hD hS
            have hl := lv_sub hl (l' := [(0, .ref ko), (1, .int (byF tb tp p))]) [1, 0] rfl
            exact hL82 (tp - p) p ls H locs rfl (by omega) (by omega) (by rfl) hl hP hD hS
        · skip
          have hpp : tp ≤ p := (byF_neg htk).mp (by omega)
          refine lv_aload_n hx hb dX6_nextToken_55 rfl (lv_at hl 1 rfl) ?_
          refine lv_iconst (v := nI 0) hx hb dX6_nextToken_56 (by decide) ?_
          refine va_put (D := G.1) (ci := 6) (v := .int (nI 0)) (ty := .int) (C := RX6) (T := TX6) (N := 29) hx hb hts hin6 tyX6 tyX6_ok nmX6 hown hK.1 hP hD hS 1 rfl rfl 17 (by decide) (hts (.fieldLink RX6 110 "BackLensesModel" "sort" "I") (List.mem_of_getElem? (i := 4) rfl)) (fun _ h9 => h9) rfl (by decide +kernel) rfl rfl (Nat.le_of_ble_eq_true rfl) dX6_nextToken_57 (fun H locs hP hD hS => ?_)
          replace hP : xP G [iA G (ad 3) 160 tb, oC ko 6 [.ref (ad 0), .ref (ad 1), .int (nI w), .int (nI h), .int (nI la), .ref (ad 2), .int (nI dw), .int (nI dh), .int (nI dl), .int tl, .int tc, .int hc, .int hd, .ref (ad 3), .int (nI tp), .int (nI p), .int (nI p), .int (nI 0), .int vl, .int (nI ft), .int wa, .ref (ad 4), .ref (ad 5), .ref (ad 6), .ref (ad 7), .ref (ad 8), .ref (ad 9), .ref (ad 10), .int tr]] H := hP
          replace hD : va_D (va_A (w_X6_nextToken G ko ad w h la tp dw dh dl tl tc hc hd ps fr so vl ft wa tr tb) ss.heap.size) [iA G (ad 3) 160 tb, oC ko 6 [.ref (ad 0), .ref (ad 1), .int (nI w), .int (nI h), .int (nI la), .ref (ad 2), .int (nI dw), .int (nI dh), .int (nI dl), .int tl, .int tc, .int hc, .int hd, .ref (ad 3), .int (nI tp), .int (nI p), .int (nI p), .int (nI 0), .int vl, .int (nI ft), .int wa, .ref (ad 4), .ref (ad 5), .ref (ad 6), .ref (ad 7), .ref (ad 8), .ref (ad 9), .ref (ad 10), .int tr]] := hD
          refine lv_goto (tgt := 274) hx hb dX6_nextToken_60 rfl ?_
          have hP := hP.sub (ws' := [oC ko 6 [.ref (ad 0), .ref (ad 1), .int (nI w), .int (nI h), .int (nI la), .ref (ad 2), .int (nI dw), .int (nI dh), .int (nI dl), .int tl, .int tc, .int hc, .int hd, .ref (ad 3), .int (nI tp), .int (nI p), .int (nI p), .int (nI 0), .int vl, .int (nI ft), .int wa, .ref (ad 4), .ref (ad 5), .ref (ad 6), .ref (ad 7), .ref (ad 8), .ref (ad 9), .ref (ad 10), .int tr], iA G (ad 3) 160 tb]) [1, 0] rfl
          have hD := hD.sub (ws' := [oC ko 6 [.ref (ad 0), .ref (ad 1), .int (nI w), .int (nI h), .int (nI la), .ref (ad 2), .int (nI dw), .int (nI dh), .int (nI dl), .int tl, .int tc, .int hc, .int hd, .ref (ad 3), .int (nI tp), .int (nI p), .int (nI p), .int (nI 0), .int vl, .int (nI ft), .int wa, .ref (ad 4), .ref (ad 5), .ref (ad 6), .ref (ad 7), .ref (ad 8), .ref (ad 9), .ref (ad 10), .int tr], iA G (ad 3) 160 tb]) [1, 0] (by decide) rfl
          refine W.vret hx hb hr (fun t ht hW => ⟨⟨(p, p, 0, vl, ft, wa), rfl, ?_, by rw [ht]; exact hP, hD⟩, hS.F ht⟩) hS.2.2 dX6_nextToken_274
          try dsimp only
          first | exact ((mTok_1 hft0 hq).trans (mTk_0 hpp)).symm | exact ((mTok_1 hft0 hq).trans (mTk_1 hpp hil hle)).symm | (rw [hdv]; exact ((mTok_1 hft0 hq).trans (mTk_2 hpp hnl hid hle h22)).symm) | (rw [hdv]; exact ((mTok_1 hft0 hq).trans (mTk_3 hpp hnl hid hle h22)).symm) | exact ((mTok_1 hft0 hq).trans (mTk_4 hpp hnl hnd h59)).symm | exact ((mTok_1 hft0 hq).trans (mTk_5 hpp hnl hnd h59)).symm
      · skip
        have hlt := (byF_sp.mp b18).1
        refine lv_aload_n hx hb dX6_nextToken_21 rfl (lv_at hl 0 rfl) ?_
        refine lv_dup hx hb dX6_nextToken_22 rfl ?_
        refine va_get (D := G.1) (ci := 6) (v := .int (nI p)) (C := RX6) (T := TX6) (N := 29) hx hb hts hin6 hown hK.1 hP 1 rfl rfl 15 (by decide) (hts (.fieldLink RX6 99 "BackLensesModel" "pos" "I") (List.mem_of_getElem? (i := 2) rfl)) (fun _ h9 => h9) rfl dX6_nextToken_23 ?_
        refine lv_iconst (v := nI 1) hx hb dX6_nextToken_26 (by decide) ?_
        refine xn_iadd hx hb dX6_nextToken_27 ?_
        refine va_put (D := G.1) (ci := 6) (v := .int (nI (p + 1))) (ty := .int) (C := RX6) (T := TX6) (N := 29) hx hb hts hin6 tyX6 tyX6_ok nmX6 hown hK.1 hP hD hS 1 rfl rfl 15 (by decide) (hts (.fieldLink RX6 99 "BackLensesModel" "pos" "I") (List.mem_of_getElem? (i := 2) rfl)) (fun _ h9 => h9) rfl (by decide +kernel) rfl rfl (Nat.le_of_ble_eq_true rfl) dX6_nextToken_28 (fun H locs hP hD hS => ?_)
        replace hP : xP G [iA G (ad 3) 160 tb, oC ko 6 [.ref (ad 0), .ref (ad 1), .int (nI w), .int (nI h), .int (nI la), .ref (ad 2), .int (nI dw), .int (nI dh), .int (nI dl), .int tl, .int tc, .int hc, .int hd, .ref (ad 3), .int (nI tp), .int (nI (p + 1)), .int (nI fr), .int (nI so), .int vl, .int (nI ft), .int wa, .ref (ad 4), .ref (ad 5), .ref (ad 6), .ref (ad 7), .ref (ad 8), .ref (ad 9), .ref (ad 10), .int tr]] H := hP
        replace hD : va_D (va_A (w_X6_nextToken G ko ad w h la tp dw dh dl tl tc hc hd ps fr so vl ft wa tr tb) ss.heap.size) [iA G (ad 3) 160 tb, oC ko 6 [.ref (ad 0), .ref (ad 1), .int (nI w), .int (nI h), .int (nI la), .ref (ad 2), .int (nI dw), .int (nI dh), .int (nI dl), .int tl, .int tc, .int hc, .int hd, .ref (ad 3), .int (nI tp), .int (nI (p + 1)), .int (nI fr), .int (nI so), .int vl, .int (nI ft), .int wa, .ref (ad 4), .ref (ad 5), .ref (ad 6), .ref (ad 7), .ref (ad 8), .ref (ad 9), .ref (ad 10), .int tr]] := hD
        refine lv_goto (tgt := 8) hx hb dX6_nextToken_31 rfl ?_
        have hft0 : ft = 0 := (by omega)
        have hl := lv_sub hl (l' := [(0, .ref ko)]) [0] rfl
        exact ih8 (tp - (p + 1)) (by omega) (p + 1) ls H locs rfl (by omega) (by have := (byF_sp.mp b18).1; omega) (by exact hsp.trans (ruF_go (byF_sp.mp b18).1 (byF_sp.mp b18).2)) hl hP hD hS
    have hl := lv_sub hl (l' := [(0, .ref ko)]) [0] rfl
    have hP := hP.sub (ws' := [iA G (ad 3) 160 tb, oC ko 6 [.ref (ad 0), .ref (ad 1), .int (nI w), .int (nI h), .int (nI la), .ref (ad 2), .int (nI dw), .int (nI dh), .int (nI dl), .int tl, .int tc, .int hc, .int hd, .ref (ad 3), .int (nI tp), .int (nI ps), .int (nI fr), .int (nI so), .int vl, .int (nI ft), .int wa, .ref (ad 4), .ref (ad 5), .ref (ad 6), .ref (ad 7), .ref (ad 8), .ref (ad 9), .ref (ad 10), .int tr]]) [1, 0] rfl
    have hD := hD.sub (ws' := [iA G (ad 3) 160 tb, oC ko 6 [.ref (ad 0), .ref (ad 1), .int (nI w), .int (nI h), .int (nI la), .ref (ad 2), .int (nI dw), .int (nI dh), .int (nI dl), .int tl, .int tc, .int hc, .int hd, .ref (ad 3), .int (nI tp), .int (nI ps), .int (nI fr), .int (nI so), .int vl, .int (nI ft), .int wa, .ref (ad 4), .ref (ad 5), .ref (ad 6), .ref (ad 7), .ref (ad 8), .ref (ad 9), .ref (ad 10), .int tr]]) [1, 0] (by decide) rfl
    exact hL8 (tp - ps) ps ls ss.heap [] rfl (by omega) (by omega) (by rfl) hl hP hD hS
  · skip
    have hP := hP.sub (ws' := [oC ko 6 [.ref (ad 0), .ref (ad 1), .int (nI w), .int (nI h), .int (nI la), .ref (ad 2), .int (nI dw), .int (nI dh), .int (nI dl), .int tl, .int tc, .int hc, .int hd, .ref (ad 3), .int (nI tp), .int (nI ps), .int (nI fr), .int (nI so), .int vl, .int (nI ft), .int wa, .ref (ad 4), .ref (ad 5), .ref (ad 6), .ref (ad 7), .ref (ad 8), .ref (ad 9), .ref (ad 10), .int tr], iA G (ad 3) 160 tb]) [0, 1] rfl
    have hD := hD.sub (ws' := [oC ko 6 [.ref (ad 0), .ref (ad 1), .int (nI w), .int (nI h), .int (nI la), .ref (ad 2), .int (nI dw), .int (nI dh), .int (nI dl), .int tl, .int tc, .int hc, .int hd, .ref (ad 3), .int (nI tp), .int (nI ps), .int (nI fr), .int (nI so), .int vl, .int (nI ft), .int wa, .ref (ad 4), .ref (ad 5), .ref (ad 6), .ref (ad 7), .ref (ad 8), .ref (ad 9), .ref (ad 10), .int tr], iA G (ad 3) 160 tb]) [0, 1] (by decide) rfl
    refine W.vret hx hb hr (fun t ht hW => ⟨⟨(ps, fr, so, vl, ft, wa), rfl, ?_, by rw [ht]; exact hP, hD⟩, hS.F ht⟩) hS.2.2 dX6_nextToken_7
    try dsimp only
    rw [show mTok tb tp (ps, fr, so, vl, ft, wa) = _ from mTok_0 (by omega)]
end
section
def mF (c : Nat) (s : MS) : MS := (s.1, s.2.1, s.2.2.1, s.2.2.2.1, c, nI s.2.1)
def mLoo (lo hi : Nat) (s : MS) : Int32 × MS :=
  if s.2.2.2.2.1 = 0 then (if s.2.2.1 = 2 then (if (lo : Int) ≤ s.2.2.2.1.toInt ∧ s.2.2.2.1.toInt ≤ (hi : Int) then (s.2.2.2.1, s) else (nI 0, mF 3 s)) else (nI 0, mF 2 s)) else (nI 0, s)
theorem mLoo_val {lo hi : Nat} {s : MS} (hh : hi < 1000) : ∃ k, k ≤ hi ∧ (mLoo lo hi s).1 = nI k := by
  unfold mLoo
  split
  · split
    · split
      · rename_i h
        obtain ⟨k, hk, he⟩ := inR_nat (x := s.2.2.2.1) (n := hi + 1) (by unfold inR; omega)
        exact ⟨k, by omega, he⟩
      · exact ⟨0, Nat.zero_le _, rfl⟩
    · exact ⟨0, Nat.zero_le _, rfl⟩
  · exact ⟨0, Nat.zero_le _, rfl⟩
theorem mLoo_bd {lo hi : Nat} {s : MS} : (mLoo lo hi s).2.1 = s.1 ∧ (s.2.2.2.2.1 ≤ 6 → (mLoo lo hi s).2.2.2.2.2.1 ≤ 6) := by
  unfold mLoo
  split
  · split
    · split
      · exact ⟨rfl, fun h => h⟩
      · exact ⟨rfl, fun _ => (show 3 ≤ 6 by omega)⟩
    · exact ⟨rfl, fun _ => (show 2 ≤ 6 by omega)⟩
  · exact ⟨rfl, fun h => h⟩
theorem mTok_ft {t : Nat → Int32} {rl : Nat} {s : MS} (h : s.2.2.2.2.1 ≤ 6) : (mTok t rl s).2.2.2.2.1 ≤ 6 := by
  unfold mTok
  split
  · unfold mTk
    split
    · exact h
    · split
      · exact h
      · split
        · split
          · exact h
          · exact (show 1 ≤ 6 by omega)
        · split
          · exact h
          · exact (show 1 ≤ 6 by omega)
  · exact h
def mNum (t : Nat → Int32) (rl lo hi : Nat) (s : MS) : Int32 × MS := ((mLoo lo hi s).1, mTok t rl (mLoo lo hi s).2)
def mDay (t : Nat → Int32) (rl : Nat) (hd : Int32) (s : MS) : Int32 × Int32 × MS :=
  ((mLoo 0 9 s).1, (if (mLoo 0 9 s).2.2.2.2.2.1 = 0 ∧ hd.toInt < (mLoo 0 9 s).1.toInt then (mLoo 0 9 s).1 else hd), mTok t rl (mLoo 0 9 s).2)
def mBut (some : Int32) (q : Int32 × MS) : MS := if q.2.2.2.2.2.1 = 0 then (if (some >>> (q.1 &&& 31)) &&& nI 1 = nI 0 then q.2 else mF 4 q.2) else q.2
def mCel (t : Nat → Int32) (rl : Nat) (some hc : Int32) (s : MS) : Int32 × Int32 × MS :=
  ((mLoo 0 15 s).1, (if (mBut some (mLoo 0 15 s)).2.2.2.2.1 = 0 ∧ hc.toInt < (mLoo 0 15 s).1.toInt then (mLoo 0 15 s).1 else hc), mTok t rl (mBut some (mLoo 0 15 s)))
theorem mBut_bd {some : Int32} {q : Int32 × MS} : (mBut some q).1 = q.2.1 ∧ (q.2.2.2.2.2.1 ≤ 6 → (mBut some q).2.2.2.2.1 ≤ 6) := by
  unfold mBut
  split
  · split
    · exact ⟨rfl, fun h => h⟩
    · exact ⟨rfl, fun _ => (show 4 ≤ 6 by omega)⟩
  · exact ⟨rfl, fun h => h⟩
theorem mNum_bd {t : Nat → Int32} {rl lo hi : Nat} {s : MS} (h : s.1 ≤ rl) (h6 : s.2.2.2.2.1 ≤ 6) : (mNum t rl lo hi s).2.1 ≤ rl ∧ (mNum t rl lo hi s).2.2.2.2.2.1 ≤ 6 := by
  have q := mLoo_bd (lo := lo) (hi := hi) (s := s)
  exact ⟨(mTok_bd (by rw [q.1]; exact h)).1, mTok_ft (q.2 h6)⟩
theorem mDay_bd {t : Nat → Int32} {rl : Nat} {hd : Int32} {s : MS} (h : s.1 ≤ rl) (h6 : s.2.2.2.2.1 ≤ 6) : (mDay t rl hd s).2.2.1 ≤ rl ∧ (mDay t rl hd s).2.2.2.2.2.2.1 ≤ 6 := by
  have q := mLoo_bd (lo := 0) (hi := 9) (s := s)
  exact ⟨(mTok_bd (by rw [q.1]; exact h)).1, mTok_ft (q.2 h6)⟩
theorem mCel_bd {t : Nat → Int32} {rl : Nat} {some hc : Int32} {s : MS} (h : s.1 ≤ rl) (h6 : s.2.2.2.2.1 ≤ 6) : (mCel t rl some hc s).2.2.1 ≤ rl ∧ (mCel t rl some hc s).2.2.2.2.2.2.1 ≤ 6 := by
  have q := mLoo_bd (lo := 0) (hi := 15) (s := s)
  have q2 := mBut_bd (some := some) (q := mLoo 0 15 s)
  exact ⟨(mTok_bd (by rw [q2.1, q.1]; exact h)).1, mTok_ft (q2.2 (q.2 h6))⟩
abbrev mIs (t : Nat → Int32) (rl ps fr n a b c d : Nat) : Prop := (ps - fr = n ∧ byF t rl fr = nI a ∧ byF t rl (fr + 1) = nI b ∧ byF t rl (fr + 2) = nI c ∧ byF t rl (fr + 3) = nI d)
def mNow (t : Nat → Int32) (rl ps fr : Nat) : Int32 :=
  if mIs t rl ps fr 5 104 111 117 115 ∧ byF t rl (fr + 4) = nI 101 then nI 0 else if mIs t rl ps fr 4 108 97 115 116 then nI 1 else if mIs t rl ps fr 4 99 101 108 108 then nI 2
  else if mIs t rl ps fr 4 116 117 114 110 then nI 3 else if mIs t rl ps fr 4 108 101 110 115 then nI 4 else (-4)
theorem mNow_val {t : Nat → Int32} {rl ps fr : Nat} (h : ¬ mNow t rl ps fr = (-4)) : ∃ k, k < 5 ∧ mNow t rl ps fr = nI k := by
  unfold mNow at h ⊢
  split
  · exact ⟨0, by omega, rfl⟩
  · rename_i h0
    rw [if_neg h0] at h
    split
    · exact ⟨1, by omega, rfl⟩
    · rename_i h1
      rw [if_neg h1] at h
      split
      · exact ⟨2, by omega, rfl⟩
      · rename_i h2
        rw [if_neg h2] at h
        split
        · exact ⟨3, by omega, rfl⟩
        · rename_i h3
          rw [if_neg h3] at h
          split
          · exact ⟨4, by omega, rfl⟩
          · rename_i h4
            rw [if_neg h4] at h
            exact absurd rfl h
abbrev vI (x : Int32) : Nat := x.toInt.toNat
theorem vI_nI {k : Nat} (h : k < 1000) : vI (nI k) = k := by
  show (nI k).toInt.toNat = k
  rw [nI_toInt (by omega)]; rfl
theorem upd_upd {f : Nat → Int32} {a : Nat} {x y : Int32} : upd (upd f a x) a y = upd f a y := by
  funext j; unfold upd
  by_cases h : j = a
  · rw [if_pos h, if_pos h]
  · rw [if_neg h, if_neg h, if_neg h]
/-- the blind cells of a lens -/
def mBl (t : Nat → Int32) (rl : Nat) : Nat → Int32 → Int32 → MS → Int32 × Int32 × MS
  | 0, acc, hc, s => (acc, hc, s)
  | k + 1, acc, hc, s => if s.2.2.2.2.1 = 0 ∧ s.2.2.1 = 2 then mBl t rl k (acc ||| (if (mCel t rl acc hc s).2.2.2.2.2.2.1 = 0 then nI 1 <<< ((mCel t rl acc hc s).1 &&& 31) else nI 0)) (mCel t rl acc hc s).2.1 (mCel t rl acc hc s).2.2 else (acc, hc, s)
theorem mBl_end {t : Nat → Int32} {rl k : Nat} {acc hc : Int32} {s : MS} (h : ¬ (s.2.2.2.2.1 = 0 ∧ s.2.2.1 = 2)) : mBl t rl k acc hc s = (acc, hc, s) := by
  cases k with
  | zero => rfl
  | succ k => exact if_neg h
theorem mBl_go {t : Nat → Int32} {rl k : Nat} {acc hc hc2 : Int32} {s s2 : MS} (hk : 1 ≤ k) (h : s.2.2.2.2.1 = 0 ∧ s.2.2.1 = 2) (he : (hc2, s2) = (mCel t rl acc hc s).2) : mBl t rl k acc hc s = mBl t rl (k - 1) (acc ||| (if s2.2.2.2.2.1 = 0 then nI 1 <<< ((mCel t rl acc hc s).1 &&& 31) else nI 0)) hc2 s2 := by
  obtain ⟨k, rfl⟩ : ∃ j, k = j + 1 := ⟨k - 1, by omega⟩
  have h1 : hc2 = (mCel t rl acc hc s).2.1 := congrArg (fun a => a.1) he
  have h2 : s2 = (mCel t rl acc hc s).2.2 := congrArg (fun a => a.2) he
  rw [h1, h2]
  exact if_pos h
theorem mTok_adv {t : Nat → Int32} {rl : Nat} {s : MS} (h0 : (mTok t rl s).2.2.2.2.1 = 0) (h1 : ¬ (mTok t rl s).2.2.1 = 0) : s.1 + 1 ≤ (mTok t rl s).1 := by
  have h2 : s.1 ≤ ruE isSp t rl s.1 := ruF_ge _ _
  by_cases hs : s.2.2.2.2.1 = 0
  · have e : mTok t rl s = mTk t rl (ruE isSp t rl s.1) s := if_pos hs
    rw [e] at h0 h1 ⊢
    generalize ruE isSp t rl s.1 = q at *
    unfold mTk at h0 h1 ⊢
    by_cases c1 : rl ≤ q
    · rw [if_pos c1] at h1; exact absurd rfl h1
    · rw [if_neg c1] at *
      by_cases c2 : isL (t q) = true
      · rw [if_pos c2] at *
        show s.1 + 1 ≤ ruE isL t rl q
        rw [ruF_go (by omega) c2]
        have : q + 1 ≤ ruE isL t rl (q + 1) := ruF_ge _ _
        omega
      · rw [if_neg c2] at *
        by_cases c3 : isD (t q) = true
        · rw [if_pos c3] at *
          have : q + 1 ≤ ruE isD t rl (q + 1) := ruF_ge _ _
          have hg := ruF_go (P := isD) (t := t) (rl := rl) (p := q) (by omega) c3
          split
          · show s.1 + 1 ≤ ruE isD t rl q
            rw [hg]; omega
          · show s.1 + 1 ≤ ruE isD t rl q
            rw [hg]; omega
        · rw [if_neg c3] at *
          split
          · show s.1 + 1 ≤ q + 1; omega
          · show s.1 + 1 ≤ q + 1; omega
  · have e : mTok t rl s = s := if_neg hs
    rw [e] at h0
    exact absurd h0 hs
theorem mTok_so {t : Nat → Int32} {rl : Nat} {s : MS} (h : s.2.2.1 ≤ 3) (hf : s.2.1 ≤ s.1) : (mTok t rl s).2.2.1 ≤ 3 ∧ (mTok t rl s).2.1 ≤ (mTok t rl s).1 := by
  unfold mTok
  split
  · unfold mTk
    split
    · exact ⟨(show 0 ≤ 3 by omega), Nat.le_refl _⟩
    · split
      · exact ⟨(show 1 ≤ 3 by omega), ruF_ge _ _⟩
      · split
        · split
          · exact ⟨(show 2 ≤ 3 by omega), ruF_ge _ _⟩
          · exact ⟨(show 2 ≤ 3 by omega), ruF_ge _ _⟩
        · split
          · exact ⟨(show 3 ≤ 3 by omega), Nat.le_succ _⟩
          · exact ⟨(show 3 ≤ 3 by omega), Nat.le_succ _⟩
  · exact ⟨h, hf⟩
end
section
abbrev w_X6_looked (G : XG) (ko : Nat) (ad : Nat → Nat) (w h la tp : Nat) (dw dh dl : Nat) (tl tc hc hd : Int32) (ps fr so : Nat) (vl : Int32) (ft : Nat) (wa tr : Int32) : va_W := [oC ko 6 [.ref (ad 0), .ref (ad 1), .int (nI w), .int (nI h), .int (nI la), .ref (ad 2), .int (nI dw), .int (nI dh), .int (nI dl), .int tl, .int tc, .int hc, .int hd, .ref (ad 3), .int (nI tp), .int (nI ps), .int (nI fr), .int (nI so), .int vl, .int (nI ft), .int wa, .ref (ad 4), .ref (ad 5), .ref (ad 6), .ref (ad 7), .ref (ad 8), .ref (ad 9), .ref (ad 10), .int tr]]
abbrev Q_X6_looked (G : XG) (sz : Nat) (ko : Nat) (ad : Nat → Nat) (w h la tp : Nat) (dw dh dl : Nat) (tl tc hc hd : Int32) (ps fr so : Nat) (vl : Int32) (ft : Nat) (wa tr : Int32) (lo hi : Nat) : Array Value → State → Outcome → State → Prop := (va_Qi (fun (r : Int32) (u : Nat × Int32) => r = (mLoo lo hi (ps, fr, so, vl, ft, wa)).1 ∧ (ps, fr, so, vl, u.1, u.2) = (mLoo lo hi (ps, fr, so, vl, ft, wa)).2) (xWb G sz (w_X6_looked G ko ad w h la tp dw dh dl tl tc hc hd ps fr so vl ft wa tr) (fun u : Nat × Int32 => [oC ko 6 [.ref (ad 0), .ref (ad 1), .int (nI w), .int (nI h), .int (nI la), .ref (ad 2), .int (nI dw), .int (nI dh), .int (nI dl), .int tl, .int tc, .int hc, .int hd, .ref (ad 3), .int (nI tp), .int (nI ps), .int (nI fr), .int (nI so), .int vl, .int (nI u.1), .int u.2, .ref (ad 4), .ref (ad 5), .ref (ad 6), .ref (ad 7), .ref (ad 8), .ref (ad 9), .ref (ad 10), .int tr]])) (va_A (w_X6_looked G ko ad w h la tp dw dh dl tl tc hc hd ps fr so vl ft wa tr) sz))
set_option maxHeartbeats 4000000 in
set_option maxRecDepth 100000 in
theorem c_X6_looked (l : Launch) (G : XG) (sz : Nat) (ko : Nat) (ad : Nat → Nat) (w h la tp : Nat) (dw dh dl : Nat) (tl tc hc hd : Int32) (ps fr so : Nat) (vl : Int32) (ft : Nat) (wa tr : Int32) (lo hi : Nat) (hhi : hi < 1000) (hlo : lo < 1000) (hft : ft ≤ 6) (hso : so ≤ 3) : Met l yX6_looked wsX6_looked ({ frames := 1, cells := 0, slots := 0, locals := 25 } : Room) (va_Pc [.ref ko, .int (nI lo), .int (nI hi)] (xWp G sz (w_X6_looked G ko ad w h la tp dw dh dl tl tc hc hd ps fr so vl ft wa tr))) (Q_X6_looked G sz ko ad w h la tp dw dh dl tl tc hc hd ps fr so vl ft wa tr lo hi) 0 0 (va_A (w_X6_looked G ko ad w h la tp dw dh dl tl tc hc hd ps fr so vl ft wa tr) sz) := by
  refine Met.ofW (cc := cX6_looked) (maxL := 3) (ret := (some .int)) (by decide) rfl ?_
  intro pp ee ss mm aa below mt cd s₁ BB hml hv
  obtain ⟨rfl, hsz, hP, hK, hD0⟩ := hv
  have hx := BB.exec
  have hb := BB.bytes
  have hr := BB.returns
  have hts := atoms_spec (ws := wsX6_looked) BB.pre
  have hown : ss.vm.findClass RX6 = some mm.cls := findClass_of_methodNamed BB.named
  have hlocks := BB.notSynchronized
  subst hsz
  have hD := hD0.self (sz := ss.heap.size)
  have hA : ∀ q : Nat, ss.heap.size ≤ q → va_A (w_X6_looked G ko ad w h la tp dw dh dl tl tc hc hd ps fr so vl ft wa tr) ss.heap.size q := fun q h => Or.inr h
  have hS : va_S (va_A (w_X6_looked G ko ad w h la tp dw dh dl tl tc hc hd ps fr so vl ft wa tr) ss.heap.size) ss.heap ss.heap [] := va_S.rf
  replace hD : va_D (va_A (w_X6_looked G ko ad w h la tp dw dh dl tl tc hc hd ps fr so vl ft wa tr) ss.heap.size) [oC ko 6 [.ref (ad 0), .ref (ad 1), .int (nI w), .int (nI h), .int (nI la), .ref (ad 2), .int (nI dw), .int (nI dh), .int (nI dl), .int tl, .int tc, .int hc, .int hd, .ref (ad 3), .int (nI tp), .int (nI ps), .int (nI fr), .int (nI so), .int vl, .int (nI ft), .int wa, .ref (ad 4), .ref (ad 5), .ref (ad 6), .ref (ad 7), .ref (ad 8), .ref (ad 9), .ref (ad 10), .int tr]] := hD
  replace hP : xP G [oC ko 6 [.ref (ad 0), .ref (ad 1), .int (nI w), .int (nI h), .int (nI la), .ref (ad 2), .int (nI dw), .int (nI dh), .int (nI dl), .int tl, .int tc, .int hc, .int hd, .ref (ad 3), .int (nI tp), .int (nI ps), .int (nI fr), .int (nI so), .int vl, .int (nI ft), .int wa, .ref (ad 4), .ref (ad 5), .ref (ad 6), .ref (ad 7), .ref (ad 8), .ref (ad 9), .ref (ad 10), .int tr]] ss.heap := hP
  have hin6 : ∀ w ∈ u_ws RX6 TX6 29, w ∈ wsX6_looked := fun w h => List.mem_cons_of_mem _ (List.mem_append_right _ h)
  have hl := lv_entry ([.ref ko, .int (nI lo), .int (nI hi)]) (n := 3) (Nat.le_of_ble_eq_true rfl)
  rw [lg_entry_eq]
  generalize (lg_sl ([.ref ko, .int (nI lo), .int (nI hi)]) ++ List.replicate (3 - (lg_sl ([.ref ko, .int (nI lo), .int (nI hi)])).length) Slot.unset).toArray = ls at hl ⊢
  replace hl : lv_has ls 3 [(0, .ref ko), (1, .int (nI lo)), (2, .int (nI hi))] := hl
  refine lv_aload_n hx hb dX6_looked_0 rfl (lv_at hl 0 rfl) ?_
  refine va_get (D := G.1) (ci := 6) (v := .int (nI ft)) (C := RX6) (T := TX6) (N := 29) hx hb hts hin6 hown hK.1 hP 0 rfl rfl 19 (by decide) (hts (.fieldLink RX6 90 "BackLensesModel" "fault" "I") (List.mem_of_getElem? (i := 1) rfl)) (fun _ h9 => h9) rfl dX6_looked_1 ?_
  refine xn_if_ne (tgt := 25) hx hb (by omega) dX6_looked_4 rfl (fun b4 => ?_) (fun b4 => ?_)
  · skip
    refine lv_aload_n hx hb dX6_looked_25 rfl (lv_at hl 0 rfl) ?_
    refine va_get (D := G.1) (ci := 6) (v := .int (nI ft)) (C := RX6) (T := TX6) (N := 29) hx hb hts hin6 hown hK.1 hP 0 rfl rfl 19 (by decide) (hts (.fieldLink RX6 90 "BackLensesModel" "fault" "I") (List.mem_of_getElem? (i := 1) rfl)) (fun _ h9 => h9) rfl dX6_looked_26 ?_
    refine xn_if_ne (tgt := 49) hx hb (by omega) dX6_looked_29 rfl (fun b29 => ?_) (fun b29 => ?_)
    · skip
      refine lv_aload_n hx hb dX6_looked_49 rfl (lv_at hl 0 rfl) ?_
      refine va_get (D := G.1) (ci := 6) (v := .int (nI ft)) (C := RX6) (T := TX6) (N := 29) hx hb hts hin6 hown hK.1 hP 0 rfl rfl 19 (by decide) (hts (.fieldLink RX6 90 "BackLensesModel" "fault" "I") (List.mem_of_getElem? (i := 1) rfl)) (fun _ h9 => h9) rfl dX6_looked_50 ?_
      refine xn_if_ne (tgt := 63) hx hb (by omega) dX6_looked_53 rfl (fun b53 => ?_) (fun b53 => ?_)
      · skip
        refine lv_iconst (v := nI 0) hx hb dX6_looked_63 (by decide) ?_
        have hP := hP.sub (ws' := [oC ko 6 [.ref (ad 0), .ref (ad 1), .int (nI w), .int (nI h), .int (nI la), .ref (ad 2), .int (nI dw), .int (nI dh), .int (nI dl), .int tl, .int tc, .int hc, .int hd, .ref (ad 3), .int (nI tp), .int (nI ps), .int (nI fr), .int (nI so), .int vl, .int (nI ft), .int wa, .ref (ad 4), .ref (ad 5), .ref (ad 6), .ref (ad 7), .ref (ad 8), .ref (ad 9), .ref (ad 10), .int tr]]) [0] rfl
        have hD := hD.sub (ws' := [oC ko 6 [.ref (ad 0), .ref (ad 1), .int (nI w), .int (nI h), .int (nI la), .ref (ad 2), .int (nI dw), .int (nI dh), .int (nI dl), .int tl, .int tc, .int hc, .int hd, .ref (ad 3), .int (nI tp), .int (nI ps), .int (nI fr), .int (nI so), .int vl, .int (nI ft), .int wa, .ref (ad 4), .ref (ad 5), .ref (ad 6), .ref (ad 7), .ref (ad 8), .ref (ad 9), .ref (ad 10), .int tr]]) [0] (by decide) rfl
        refine W.iret (v := nI 0) hx hb hr (fun t ht hW => ⟨⟨nI 0, (ft, wa), rfl, ?_, by rw [ht]; exact hP, hD⟩, hS.F ht⟩) hS.2.2 dX6_looked_64
        try dsimp only
        first | (exfalso; omega) | (rw [show mLoo lo hi (ps, fr, so, vl, ft, wa) = _ from if_neg b4]; exact ⟨rfl, rfl⟩) | (rw [show mLoo lo hi (ps, fr, so, vl, ft, wa) = _ from (if_pos b4).trans (if_neg b13)]; exact ⟨rfl, rfl⟩) | (by_cases hq9 : ((lo : Int) ≤ vl.toInt ∧ vl.toInt ≤ (hi : Int)); (rw [if_pos hq9] at he46; cases he46; rw [show mLoo lo hi (ps, fr, so, vl, ft, wa) = _ from (if_pos b4).trans ((if_pos b13).trans (if_pos hq9))]; first | exact ⟨rfl, rfl⟩ | exact absurd b4 b53); (rw [if_neg hq9] at he46; cases he46; rw [show mLoo lo hi (ps, fr, so, vl, ft, wa) = _ from (if_pos b4).trans ((if_pos b13).trans (if_neg hq9))]; first | exact ⟨rfl, rfl⟩ | exact absurd b53 (by decide)))
      · skip
        refine lv_aload_n hx hb dX6_looked_56 rfl (lv_at hl 0 rfl) ?_
        refine va_get (D := G.1) (ci := 6) (v := .int vl) (C := RX6) (T := TX6) (N := 29) hx hb hts hin6 hown hK.1 hP 0 rfl rfl 18 (by decide) (hts (.fieldLink RX6 121 "BackLensesModel" "value" "I") (List.mem_of_getElem? (i := 3) rfl)) (fun _ h9 => h9) rfl dX6_looked_57 ?_
        refine lv_goto (tgt := 64) hx hb dX6_looked_60 rfl ?_
        have hP := hP.sub (ws' := [oC ko 6 [.ref (ad 0), .ref (ad 1), .int (nI w), .int (nI h), .int (nI la), .ref (ad 2), .int (nI dw), .int (nI dh), .int (nI dl), .int tl, .int tc, .int hc, .int hd, .ref (ad 3), .int (nI tp), .int (nI ps), .int (nI fr), .int (nI so), .int vl, .int (nI ft), .int wa, .ref (ad 4), .ref (ad 5), .ref (ad 6), .ref (ad 7), .ref (ad 8), .ref (ad 9), .ref (ad 10), .int tr]]) [0] rfl
        have hD := hD.sub (ws' := [oC ko 6 [.ref (ad 0), .ref (ad 1), .int (nI w), .int (nI h), .int (nI la), .ref (ad 2), .int (nI dw), .int (nI dh), .int (nI dl), .int tl, .int tc, .int hc, .int hd, .ref (ad 3), .int (nI tp), .int (nI ps), .int (nI fr), .int (nI so), .int vl, .int (nI ft), .int wa, .ref (ad 4), .ref (ad 5), .ref (ad 6), .ref (ad 7), .ref (ad 8), .ref (ad 9), .ref (ad 10), .int tr]]) [0] (by decide) rfl
        refine W.iret (v := vl) hx hb hr (fun t ht hW => ⟨⟨vl, (ft, wa), rfl, ?_, by rw [ht]; exact hP, hD⟩, hS.F ht⟩) hS.2.2 dX6_looked_64
        try dsimp only
        first | (exfalso; omega) | (rw [show mLoo lo hi (ps, fr, so, vl, ft, wa) = _ from if_neg b4]; exact ⟨rfl, rfl⟩) | (rw [show mLoo lo hi (ps, fr, so, vl, ft, wa) = _ from (if_pos b4).trans (if_neg b13)]; exact ⟨rfl, rfl⟩) | (by_cases hq9 : ((lo : Int) ≤ vl.toInt ∧ vl.toInt ≤ (hi : Int)); (rw [if_pos hq9] at he46; cases he46; rw [show mLoo lo hi (ps, fr, so, vl, ft, wa) = _ from (if_pos b4).trans ((if_pos b13).trans (if_pos hq9))]; first | exact ⟨rfl, rfl⟩ | exact absurd b4 b53); (rw [if_neg hq9] at he46; cases he46; rw [show mLoo lo hi (ps, fr, so, vl, ft, wa) = _ from (if_pos b4).trans ((if_pos b13).trans (if_neg hq9))]; first | exact ⟨rfl, rfl⟩ | exact absurd b53 (by decide)))
    · skip
      refine lv_aload_n hx hb dX6_looked_32 rfl (lv_at hl 0 rfl) ?_
      refine lv_aload_n hx hb dX6_looked_33 rfl (lv_at hl 0 rfl) ?_
      refine va_get (D := G.1) (ci := 6) (v := .int vl) (C := RX6) (T := TX6) (N := 29) hx hb hts hin6 hown hK.1 hP 0 rfl rfl 18 (by decide) (hts (.fieldLink RX6 121 "BackLensesModel" "value" "I") (List.mem_of_getElem? (i := 3) rfl)) (fun _ h9 => h9) rfl dX6_looked_34 ?_
      refine xi_i2l hx hb dX6_looked_37 ?_
      refine lv_iload_n hx hb dX6_looked_38 rfl (lv_at hl 1 rfl) ?_
      refine xn_i2l hx hb (by omega) dX6_looked_39 ?_
      refine lv_iload_n hx hb dX6_looked_40 rfl (lv_at hl 2 rfl) ?_
      refine xn_i2l hx hb (by omega) dX6_looked_41 ?_
      refine xs_i (As := [.long vl.toInt64, .long (lN lo), .long (lN hi)]) (rest := [.ref ko]) ⟨hx, hb, hml, hown, hts⟩ (c_X6_in_b l G vl lo hi (by first | assumption | omega) (by first | assumption | omega)) (va_cwS 3 hts gX6_looked_X6_in rfl rfl rfl (by decide +kernel) ⟨Nat.le_of_ble_eq_true rfl, Nat.le_of_ble_eq_true rfl⟩) hP hS rfl hl.1 rfl (Nat.le_of_ble_eq_true rfl) dX6_looked_42 ⟨Nat.zero_le _, Nat.zero_le _⟩ (fun r42 H locs hp42 hP hS => ?_)
      rw [show r42 = _ from hp42]
      refine lv_iconst (v := nI 3) hx hb dX6_looked_45 (by decide) ?_
      refine xw_v (As := [.int (xb ((lo : Int) ≤ vl.toInt ∧ vl.toInt ≤ (hi : Int))), .int (nI 3)]) (rest := []) (wr := []) ⟨hx, hb, hml, hown, hts⟩ (c_X6_needs_g l G H.size ko ad w h la tp dw dh dl tl tc hc hd ps fr so vl ft wa tr ((lo : Int) ≤ vl.toInt ∧ vl.toInt ≤ (hi : Int)) _ 3 (by first | assumption | omega)) (cwV 2 hts gX6_looked_X6_needs rfl rfl rfl (by decide +kernel) ⟨Nat.le_of_ble_eq_true rfl, Nat.le_of_ble_eq_true rfl⟩) hK hP hD hS hA [0] [] rfl rfl (by decide) (by decide) (by decide) rfl rfl rfl hl.1 rfl (Nat.le_of_ble_eq_true rfl) dX6_looked_46 ⟨Nat.le_of_ble_eq_true rfl, Nat.le_of_ble_eq_true rfl⟩ (fun u H locs hp46 hP hD hS => ?_)
      obtain ⟨ft2_46, wa2_46⟩ := u
      try dsimp only at hp46 hP hD
      have he46 := hp46
      replace hP : xP G [oC ko 6 [.ref (ad 0), .ref (ad 1), .int (nI w), .int (nI h), .int (nI la), .ref (ad 2), .int (nI dw), .int (nI dh), .int (nI dl), .int tl, .int tc, .int hc, .int hd, .ref (ad 3), .int (nI tp), .int (nI ps), .int (nI fr), .int (nI so), .int vl, .int (nI ft2_46), .int wa2_46, .ref (ad 4), .ref (ad 5), .ref (ad 6), .ref (ad 7), .ref (ad 8), .ref (ad 9), .ref (ad 10), .int tr]] H := hP
      replace hD : va_D (va_A (w_X6_looked G ko ad w h la tp dw dh dl tl tc hc hd ps fr so vl ft wa tr) ss.heap.size) [oC ko 6 [.ref (ad 0), .ref (ad 1), .int (nI w), .int (nI h), .int (nI la), .ref (ad 2), .int (nI dw), .int (nI dh), .int (nI dl), .int tl, .int tc, .int hc, .int hd, .ref (ad 3), .int (nI tp), .int (nI ps), .int (nI fr), .int (nI so), .int vl, .int (nI ft2_46), .int wa2_46, .ref (ad 4), .ref (ad 5), .ref (ad 6), .ref (ad 7), .ref (ad 8), .ref (ad 9), .ref (ad 10), .int tr]] := hD
      have hf46 : ft2_46 ≤ 6 := (by by_cases hq9 : ((lo : Int) ≤ vl.toInt ∧ vl.toInt ≤ (hi : Int)); (rw [if_pos hq9] at he46; cases he46; omega); (rw [if_neg hq9] at he46; cases he46; omega))
      refine lv_aload_n hx hb dX6_looked_49 rfl (lv_at hl 0 rfl) ?_
      refine va_get (D := G.1) (ci := 6) (v := .int (nI ft2_46)) (C := RX6) (T := TX6) (N := 29) hx hb hts hin6 hown hK.1 hP 0 rfl rfl 19 (by decide) (hts (.fieldLink RX6 90 "BackLensesModel" "fault" "I") (List.mem_of_getElem? (i := 1) rfl)) (fun _ h9 => h9) rfl dX6_looked_50 ?_
      refine xn_if_ne (tgt := 63) hx hb (by omega) dX6_looked_53 rfl (fun b53 => ?_) (fun b53 => ?_)
      · skip
        refine lv_iconst (v := nI 0) hx hb dX6_looked_63 (by decide) ?_
        have hP := hP.sub (ws' := [oC ko 6 [.ref (ad 0), .ref (ad 1), .int (nI w), .int (nI h), .int (nI la), .ref (ad 2), .int (nI dw), .int (nI dh), .int (nI dl), .int tl, .int tc, .int hc, .int hd, .ref (ad 3), .int (nI tp), .int (nI ps), .int (nI fr), .int (nI so), .int vl, .int (nI ft2_46), .int wa2_46, .ref (ad 4), .ref (ad 5), .ref (ad 6), .ref (ad 7), .ref (ad 8), .ref (ad 9), .ref (ad 10), .int tr]]) [0] rfl
        have hD := hD.sub (ws' := [oC ko 6 [.ref (ad 0), .ref (ad 1), .int (nI w), .int (nI h), .int (nI la), .ref (ad 2), .int (nI dw), .int (nI dh), .int (nI dl), .int tl, .int tc, .int hc, .int hd, .ref (ad 3), .int (nI tp), .int (nI ps), .int (nI fr), .int (nI so), .int vl, .int (nI ft2_46), .int wa2_46, .ref (ad 4), .ref (ad 5), .ref (ad 6), .ref (ad 7), .ref (ad 8), .ref (ad 9), .ref (ad 10), .int tr]]) [0] (by decide) rfl
        refine W.iret (v := nI 0) hx hb hr (fun t ht hW => ⟨⟨nI 0, (ft2_46, wa2_46), rfl, ?_, by rw [ht]; exact hP, hD⟩, hS.F ht⟩) hS.2.2 dX6_looked_64
        try dsimp only
        first | (exfalso; omega) | (rw [show mLoo lo hi (ps, fr, so, vl, ft, wa) = _ from if_neg b4]; exact ⟨rfl, rfl⟩) | (rw [show mLoo lo hi (ps, fr, so, vl, ft, wa) = _ from (if_pos b4).trans (if_neg b13)]; exact ⟨rfl, rfl⟩) | (by_cases hq9 : ((lo : Int) ≤ vl.toInt ∧ vl.toInt ≤ (hi : Int)); (rw [if_pos hq9] at he46; cases he46; rw [show mLoo lo hi (ps, fr, so, vl, ft, wa) = _ from (if_pos b4).trans ((if_pos b13).trans (if_pos hq9))]; first | exact ⟨rfl, rfl⟩ | exact absurd b4 b53); (rw [if_neg hq9] at he46; cases he46; rw [show mLoo lo hi (ps, fr, so, vl, ft, wa) = _ from (if_pos b4).trans ((if_pos b13).trans (if_neg hq9))]; first | exact ⟨rfl, rfl⟩ | exact absurd b53 (by decide)))
      · skip
        refine lv_aload_n hx hb dX6_looked_56 rfl (lv_at hl 0 rfl) ?_
        refine va_get (D := G.1) (ci := 6) (v := .int vl) (C := RX6) (T := TX6) (N := 29) hx hb hts hin6 hown hK.1 hP 0 rfl rfl 18 (by decide) (hts (.fieldLink RX6 121 "BackLensesModel" "value" "I") (List.mem_of_getElem? (i := 3) rfl)) (fun _ h9 => h9) rfl dX6_looked_57 ?_
        refine lv_goto (tgt := 64) hx hb dX6_looked_60 rfl ?_
        have hP := hP.sub (ws' := [oC ko 6 [.ref (ad 0), .ref (ad 1), .int (nI w), .int (nI h), .int (nI la), .ref (ad 2), .int (nI dw), .int (nI dh), .int (nI dl), .int tl, .int tc, .int hc, .int hd, .ref (ad 3), .int (nI tp), .int (nI ps), .int (nI fr), .int (nI so), .int vl, .int (nI ft2_46), .int wa2_46, .ref (ad 4), .ref (ad 5), .ref (ad 6), .ref (ad 7), .ref (ad 8), .ref (ad 9), .ref (ad 10), .int tr]]) [0] rfl
        have hD := hD.sub (ws' := [oC ko 6 [.ref (ad 0), .ref (ad 1), .int (nI w), .int (nI h), .int (nI la), .ref (ad 2), .int (nI dw), .int (nI dh), .int (nI dl), .int tl, .int tc, .int hc, .int hd, .ref (ad 3), .int (nI tp), .int (nI ps), .int (nI fr), .int (nI so), .int vl, .int (nI ft2_46), .int wa2_46, .ref (ad 4), .ref (ad 5), .ref (ad 6), .ref (ad 7), .ref (ad 8), .ref (ad 9), .ref (ad 10), .int tr]]) [0] (by decide) rfl
        refine W.iret (v := vl) hx hb hr (fun t ht hW => ⟨⟨vl, (ft2_46, wa2_46), rfl, ?_, by rw [ht]; exact hP, hD⟩, hS.F ht⟩) hS.2.2 dX6_looked_64
        try dsimp only
        first | (exfalso; omega) | (rw [show mLoo lo hi (ps, fr, so, vl, ft, wa) = _ from if_neg b4]; exact ⟨rfl, rfl⟩) | (rw [show mLoo lo hi (ps, fr, so, vl, ft, wa) = _ from (if_pos b4).trans (if_neg b13)]; exact ⟨rfl, rfl⟩) | (by_cases hq9 : ((lo : Int) ≤ vl.toInt ∧ vl.toInt ≤ (hi : Int)); (rw [if_pos hq9] at he46; cases he46; rw [show mLoo lo hi (ps, fr, so, vl, ft, wa) = _ from (if_pos b4).trans ((if_pos b13).trans (if_pos hq9))]; first | exact ⟨rfl, rfl⟩ | exact absurd b4 b53); (rw [if_neg hq9] at he46; cases he46; rw [show mLoo lo hi (ps, fr, so, vl, ft, wa) = _ from (if_pos b4).trans ((if_pos b13).trans (if_neg hq9))]; first | exact ⟨rfl, rfl⟩ | exact absurd b53 (by decide)))
  · skip
    refine lv_aload_n hx hb dX6_looked_7 rfl (lv_at hl 0 rfl) ?_
    refine lv_aload_n hx hb dX6_looked_8 rfl (lv_at hl 0 rfl) ?_
    refine va_get (D := G.1) (ci := 6) (v := .int (nI so)) (C := RX6) (T := TX6) (N := 29) hx hb hts hin6 hown hK.1 hP 0 rfl rfl 17 (by decide) (hts (.fieldLink RX6 110 "BackLensesModel" "sort" "I") (List.mem_of_getElem? (i := 2) rfl)) (fun _ h9 => h9) rfl dX6_looked_9 ?_
    refine lv_iconst (v := nI 2) hx hb dX6_looked_12 (by decide) ?_
    refine xn_icmp_ne (tgt := 20) hx hb (by omega) (by omega) dX6_looked_13 rfl (fun b13 => ?_) (fun b13 => ?_)
    · skip
      refine lv_iconst (v := nI 0) hx hb dX6_looked_20 (by decide) ?_
      refine lv_iconst (v := nI 2) hx hb dX6_looked_21 (by decide) ?_
      refine xw_v (As := [.int (nI 0), .int (nI 2)]) (rest := []) (wr := []) ⟨hx, hb, hml, hown, hts⟩ (c_X6_needs_0 l G ss.heap.size ko ad w h la tp dw dh dl tl tc hc hd ps fr so vl ft wa tr 2 (by first | assumption | omega)) (cwV 2 hts gX6_looked_X6_needs rfl rfl rfl (by decide +kernel) ⟨Nat.le_of_ble_eq_true rfl, Nat.le_of_ble_eq_true rfl⟩) hK hP hD hS hA [0] [] rfl rfl (by decide) (by decide) (by decide) rfl rfl rfl hl.1 rfl (Nat.le_of_ble_eq_true rfl) dX6_looked_22 ⟨Nat.le_of_ble_eq_true rfl, Nat.le_of_ble_eq_true rfl⟩ (fun u H locs hp22 hP hD hS => ?_)
      replace hP : xP G [oC ko 6 [.ref (ad 0), .ref (ad 1), .int (nI w), .int (nI h), .int (nI la), .ref (ad 2), .int (nI dw), .int (nI dh), .int (nI dl), .int tl, .int tc, .int hc, .int hd, .ref (ad 3), .int (nI tp), .int (nI ps), .int (nI fr), .int (nI so), .int vl, .int (nI 2), .int (nI fr), .ref (ad 4), .ref (ad 5), .ref (ad 6), .ref (ad 7), .ref (ad 8), .ref (ad 9), .ref (ad 10), .int tr]] H := hP
      replace hD : va_D (va_A (w_X6_looked G ko ad w h la tp dw dh dl tl tc hc hd ps fr so vl ft wa tr) ss.heap.size) [oC ko 6 [.ref (ad 0), .ref (ad 1), .int (nI w), .int (nI h), .int (nI la), .ref (ad 2), .int (nI dw), .int (nI dh), .int (nI dl), .int tl, .int tc, .int hc, .int hd, .ref (ad 3), .int (nI tp), .int (nI ps), .int (nI fr), .int (nI so), .int vl, .int (nI 2), .int (nI fr), .ref (ad 4), .ref (ad 5), .ref (ad 6), .ref (ad 7), .ref (ad 8), .ref (ad 9), .ref (ad 10), .int tr]] := hD
      refine lv_aload_n hx hb dX6_looked_25 rfl (lv_at hl 0 rfl) ?_
      refine va_get (D := G.1) (ci := 6) (v := .int (nI 2)) (C := RX6) (T := TX6) (N := 29) hx hb hts hin6 hown hK.1 hP 0 rfl rfl 19 (by decide) (hts (.fieldLink RX6 90 "BackLensesModel" "fault" "I") (List.mem_of_getElem? (i := 1) rfl)) (fun _ h9 => h9) rfl dX6_looked_26 ?_
      refine xn_if_ne (tgt := 49) hx hb (by omega) dX6_looked_29 rfl (fun _ => ?_) (fun b29 => absurd b29 (by omega))
      refine lv_aload_n hx hb dX6_looked_49 rfl (lv_at hl 0 rfl) ?_
      refine va_get (D := G.1) (ci := 6) (v := .int (nI 2)) (C := RX6) (T := TX6) (N := 29) hx hb hts hin6 hown hK.1 hP 0 rfl rfl 19 (by decide) (hts (.fieldLink RX6 90 "BackLensesModel" "fault" "I") (List.mem_of_getElem? (i := 1) rfl)) (fun _ h9 => h9) rfl dX6_looked_50 ?_
      refine xn_if_ne (tgt := 63) hx hb (by omega) dX6_looked_53 rfl (fun _ => ?_) (fun b53 => absurd b53 (by omega))
      refine lv_iconst (v := nI 0) hx hb dX6_looked_63 (by decide) ?_
      have hP := hP.sub (ws' := [oC ko 6 [.ref (ad 0), .ref (ad 1), .int (nI w), .int (nI h), .int (nI la), .ref (ad 2), .int (nI dw), .int (nI dh), .int (nI dl), .int tl, .int tc, .int hc, .int hd, .ref (ad 3), .int (nI tp), .int (nI ps), .int (nI fr), .int (nI so), .int vl, .int (nI 2), .int (nI fr), .ref (ad 4), .ref (ad 5), .ref (ad 6), .ref (ad 7), .ref (ad 8), .ref (ad 9), .ref (ad 10), .int tr]]) [0] rfl
      have hD := hD.sub (ws' := [oC ko 6 [.ref (ad 0), .ref (ad 1), .int (nI w), .int (nI h), .int (nI la), .ref (ad 2), .int (nI dw), .int (nI dh), .int (nI dl), .int tl, .int tc, .int hc, .int hd, .ref (ad 3), .int (nI tp), .int (nI ps), .int (nI fr), .int (nI so), .int vl, .int (nI 2), .int (nI fr), .ref (ad 4), .ref (ad 5), .ref (ad 6), .ref (ad 7), .ref (ad 8), .ref (ad 9), .ref (ad 10), .int tr]]) [0] (by decide) rfl
      refine W.iret (v := nI 0) hx hb hr (fun t ht hW => ⟨⟨nI 0, (2, nI fr), rfl, ?_, by rw [ht]; exact hP, hD⟩, hS.F ht⟩) hS.2.2 dX6_looked_64
      try dsimp only
      first | (exfalso; omega) | (rw [show mLoo lo hi (ps, fr, so, vl, ft, wa) = _ from if_neg b4]; exact ⟨rfl, rfl⟩) | (rw [show mLoo lo hi (ps, fr, so, vl, ft, wa) = _ from (if_pos b4).trans (if_neg b13)]; exact ⟨rfl, rfl⟩) | (by_cases hq9 : ((lo : Int) ≤ vl.toInt ∧ vl.toInt ≤ (hi : Int)); (rw [if_pos hq9] at he46; cases he46; rw [show mLoo lo hi (ps, fr, so, vl, ft, wa) = _ from (if_pos b4).trans ((if_pos b13).trans (if_pos hq9))]; first | exact ⟨rfl, rfl⟩ | exact absurd b4 b53); (rw [if_neg hq9] at he46; cases he46; rw [show mLoo lo hi (ps, fr, so, vl, ft, wa) = _ from (if_pos b4).trans ((if_pos b13).trans (if_neg hq9))]; first | exact ⟨rfl, rfl⟩ | exact absurd b53 (by decide)))
    · skip
      refine lv_iconst (v := nI 1) hx hb dX6_looked_16 (by decide) ?_
      refine lv_goto (tgt := 21) hx hb dX6_looked_17 rfl ?_
      refine lv_iconst (v := nI 2) hx hb dX6_looked_21 (by decide) ?_
      refine xw_v (As := [.int (nI 1), .int (nI 2)]) (rest := []) (wr := []) ⟨hx, hb, hml, hown, hts⟩ (c_X6_needs_1 l G ss.heap.size ko ad w h la tp dw dh dl tl tc hc hd ps fr so vl ft wa tr 2 ) (cwV 2 hts gX6_looked_X6_needs rfl rfl rfl (by decide +kernel) ⟨Nat.le_of_ble_eq_true rfl, Nat.le_of_ble_eq_true rfl⟩) hK hP hD hS hA [0] [] rfl rfl (by decide) (by decide) (by decide) rfl rfl rfl hl.1 rfl (Nat.le_of_ble_eq_true rfl) dX6_looked_22 ⟨Nat.le_of_ble_eq_true rfl, Nat.le_of_ble_eq_true rfl⟩ (fun u H locs hp22 hP hD hS => ?_)
      replace hP : xP G [oC ko 6 [.ref (ad 0), .ref (ad 1), .int (nI w), .int (nI h), .int (nI la), .ref (ad 2), .int (nI dw), .int (nI dh), .int (nI dl), .int tl, .int tc, .int hc, .int hd, .ref (ad 3), .int (nI tp), .int (nI ps), .int (nI fr), .int (nI so), .int vl, .int (nI ft), .int wa, .ref (ad 4), .ref (ad 5), .ref (ad 6), .ref (ad 7), .ref (ad 8), .ref (ad 9), .ref (ad 10), .int tr]] H := hP
      replace hD : va_D (va_A (w_X6_looked G ko ad w h la tp dw dh dl tl tc hc hd ps fr so vl ft wa tr) ss.heap.size) [oC ko 6 [.ref (ad 0), .ref (ad 1), .int (nI w), .int (nI h), .int (nI la), .ref (ad 2), .int (nI dw), .int (nI dh), .int (nI dl), .int tl, .int tc, .int hc, .int hd, .ref (ad 3), .int (nI tp), .int (nI ps), .int (nI fr), .int (nI so), .int vl, .int (nI ft), .int wa, .ref (ad 4), .ref (ad 5), .ref (ad 6), .ref (ad 7), .ref (ad 8), .ref (ad 9), .ref (ad 10), .int tr]] := hD
      refine lv_aload_n hx hb dX6_looked_25 rfl (lv_at hl 0 rfl) ?_
      refine va_get (D := G.1) (ci := 6) (v := .int (nI ft)) (C := RX6) (T := TX6) (N := 29) hx hb hts hin6 hown hK.1 hP 0 rfl rfl 19 (by decide) (hts (.fieldLink RX6 90 "BackLensesModel" "fault" "I") (List.mem_of_getElem? (i := 1) rfl)) (fun _ h9 => h9) rfl dX6_looked_26 ?_
      refine xn_if_ne (tgt := 49) hx hb (by omega) dX6_looked_29 rfl (fun b29 => ?_) (fun b29 => ?_)
      · skip
        refine lv_aload_n hx hb dX6_looked_49 rfl (lv_at hl 0 rfl) ?_
        refine va_get (D := G.1) (ci := 6) (v := .int (nI ft)) (C := RX6) (T := TX6) (N := 29) hx hb hts hin6 hown hK.1 hP 0 rfl rfl 19 (by decide) (hts (.fieldLink RX6 90 "BackLensesModel" "fault" "I") (List.mem_of_getElem? (i := 1) rfl)) (fun _ h9 => h9) rfl dX6_looked_50 ?_
        refine xn_if_ne (tgt := 63) hx hb (by omega) dX6_looked_53 rfl (fun b53 => ?_) (fun b53 => ?_)
        · skip
          refine lv_iconst (v := nI 0) hx hb dX6_looked_63 (by decide) ?_
          have hP := hP.sub (ws' := [oC ko 6 [.ref (ad 0), .ref (ad 1), .int (nI w), .int (nI h), .int (nI la), .ref (ad 2), .int (nI dw), .int (nI dh), .int (nI dl), .int tl, .int tc, .int hc, .int hd, .ref (ad 3), .int (nI tp), .int (nI ps), .int (nI fr), .int (nI so), .int vl, .int (nI ft), .int wa, .ref (ad 4), .ref (ad 5), .ref (ad 6), .ref (ad 7), .ref (ad 8), .ref (ad 9), .ref (ad 10), .int tr]]) [0] rfl
          have hD := hD.sub (ws' := [oC ko 6 [.ref (ad 0), .ref (ad 1), .int (nI w), .int (nI h), .int (nI la), .ref (ad 2), .int (nI dw), .int (nI dh), .int (nI dl), .int tl, .int tc, .int hc, .int hd, .ref (ad 3), .int (nI tp), .int (nI ps), .int (nI fr), .int (nI so), .int vl, .int (nI ft), .int wa, .ref (ad 4), .ref (ad 5), .ref (ad 6), .ref (ad 7), .ref (ad 8), .ref (ad 9), .ref (ad 10), .int tr]]) [0] (by decide) rfl
          refine W.iret (v := nI 0) hx hb hr (fun t ht hW => ⟨⟨nI 0, (ft, wa), rfl, ?_, by rw [ht]; exact hP, hD⟩, hS.F ht⟩) hS.2.2 dX6_looked_64
          try dsimp only
          first | (exfalso; omega) | (rw [show mLoo lo hi (ps, fr, so, vl, ft, wa) = _ from if_neg b4]; exact ⟨rfl, rfl⟩) | (rw [show mLoo lo hi (ps, fr, so, vl, ft, wa) = _ from (if_pos b4).trans (if_neg b13)]; exact ⟨rfl, rfl⟩) | (by_cases hq9 : ((lo : Int) ≤ vl.toInt ∧ vl.toInt ≤ (hi : Int)); (rw [if_pos hq9] at he46; cases he46; rw [show mLoo lo hi (ps, fr, so, vl, ft, wa) = _ from (if_pos b4).trans ((if_pos b13).trans (if_pos hq9))]; first | exact ⟨rfl, rfl⟩ | exact absurd b4 b53); (rw [if_neg hq9] at he46; cases he46; rw [show mLoo lo hi (ps, fr, so, vl, ft, wa) = _ from (if_pos b4).trans ((if_pos b13).trans (if_neg hq9))]; first | exact ⟨rfl, rfl⟩ | exact absurd b53 (by decide)))
        · skip
          refine lv_aload_n hx hb dX6_looked_56 rfl (lv_at hl 0 rfl) ?_
          refine va_get (D := G.1) (ci := 6) (v := .int vl) (C := RX6) (T := TX6) (N := 29) hx hb hts hin6 hown hK.1 hP 0 rfl rfl 18 (by decide) (hts (.fieldLink RX6 121 "BackLensesModel" "value" "I") (List.mem_of_getElem? (i := 3) rfl)) (fun _ h9 => h9) rfl dX6_looked_57 ?_
          refine lv_goto (tgt := 64) hx hb dX6_looked_60 rfl ?_
          have hP := hP.sub (ws' := [oC ko 6 [.ref (ad 0), .ref (ad 1), .int (nI w), .int (nI h), .int (nI la), .ref (ad 2), .int (nI dw), .int (nI dh), .int (nI dl), .int tl, .int tc, .int hc, .int hd, .ref (ad 3), .int (nI tp), .int (nI ps), .int (nI fr), .int (nI so), .int vl, .int (nI ft), .int wa, .ref (ad 4), .ref (ad 5), .ref (ad 6), .ref (ad 7), .ref (ad 8), .ref (ad 9), .ref (ad 10), .int tr]]) [0] rfl
          have hD := hD.sub (ws' := [oC ko 6 [.ref (ad 0), .ref (ad 1), .int (nI w), .int (nI h), .int (nI la), .ref (ad 2), .int (nI dw), .int (nI dh), .int (nI dl), .int tl, .int tc, .int hc, .int hd, .ref (ad 3), .int (nI tp), .int (nI ps), .int (nI fr), .int (nI so), .int vl, .int (nI ft), .int wa, .ref (ad 4), .ref (ad 5), .ref (ad 6), .ref (ad 7), .ref (ad 8), .ref (ad 9), .ref (ad 10), .int tr]]) [0] (by decide) rfl
          refine W.iret (v := vl) hx hb hr (fun t ht hW => ⟨⟨vl, (ft, wa), rfl, ?_, by rw [ht]; exact hP, hD⟩, hS.F ht⟩) hS.2.2 dX6_looked_64
          try dsimp only
          first | (exfalso; omega) | (rw [show mLoo lo hi (ps, fr, so, vl, ft, wa) = _ from if_neg b4]; exact ⟨rfl, rfl⟩) | (rw [show mLoo lo hi (ps, fr, so, vl, ft, wa) = _ from (if_pos b4).trans (if_neg b13)]; exact ⟨rfl, rfl⟩) | (by_cases hq9 : ((lo : Int) ≤ vl.toInt ∧ vl.toInt ≤ (hi : Int)); (rw [if_pos hq9] at he46; cases he46; rw [show mLoo lo hi (ps, fr, so, vl, ft, wa) = _ from (if_pos b4).trans ((if_pos b13).trans (if_pos hq9))]; first | exact ⟨rfl, rfl⟩ | exact absurd b4 b53); (rw [if_neg hq9] at he46; cases he46; rw [show mLoo lo hi (ps, fr, so, vl, ft, wa) = _ from (if_pos b4).trans ((if_pos b13).trans (if_neg hq9))]; first | exact ⟨rfl, rfl⟩ | exact absurd b53 (by decide)))
      · skip
        refine lv_aload_n hx hb dX6_looked_32 rfl (lv_at hl 0 rfl) ?_
        refine lv_aload_n hx hb dX6_looked_33 rfl (lv_at hl 0 rfl) ?_
        refine va_get (D := G.1) (ci := 6) (v := .int vl) (C := RX6) (T := TX6) (N := 29) hx hb hts hin6 hown hK.1 hP 0 rfl rfl 18 (by decide) (hts (.fieldLink RX6 121 "BackLensesModel" "value" "I") (List.mem_of_getElem? (i := 3) rfl)) (fun _ h9 => h9) rfl dX6_looked_34 ?_
        refine xi_i2l hx hb dX6_looked_37 ?_
        refine lv_iload_n hx hb dX6_looked_38 rfl (lv_at hl 1 rfl) ?_
        refine xn_i2l hx hb (by omega) dX6_looked_39 ?_
        refine lv_iload_n hx hb dX6_looked_40 rfl (lv_at hl 2 rfl) ?_
        refine xn_i2l hx hb (by omega) dX6_looked_41 ?_
        refine xs_i (As := [.long vl.toInt64, .long (lN lo), .long (lN hi)]) (rest := [.ref ko]) ⟨hx, hb, hml, hown, hts⟩ (c_X6_in_b l G vl lo hi (by first | assumption | omega) (by first | assumption | omega)) (va_cwS 3 hts gX6_looked_X6_in rfl rfl rfl (by decide +kernel) ⟨Nat.le_of_ble_eq_true rfl, Nat.le_of_ble_eq_true rfl⟩) hP hS rfl hl.1 rfl (Nat.le_of_ble_eq_true rfl) dX6_looked_42 ⟨Nat.zero_le _, Nat.zero_le _⟩ (fun r42 H locs hp42 hP hS => ?_)
        rw [show r42 = _ from hp42]
        refine lv_iconst (v := nI 3) hx hb dX6_looked_45 (by decide) ?_
        refine xw_v (As := [.int (xb ((lo : Int) ≤ vl.toInt ∧ vl.toInt ≤ (hi : Int))), .int (nI 3)]) (rest := []) (wr := []) ⟨hx, hb, hml, hown, hts⟩ (c_X6_needs_g l G H.size ko ad w h la tp dw dh dl tl tc hc hd ps fr so vl ft wa tr ((lo : Int) ≤ vl.toInt ∧ vl.toInt ≤ (hi : Int)) _ 3 (by first | assumption | omega)) (cwV 2 hts gX6_looked_X6_needs rfl rfl rfl (by decide +kernel) ⟨Nat.le_of_ble_eq_true rfl, Nat.le_of_ble_eq_true rfl⟩) hK hP hD hS hA [0] [] rfl rfl (by decide) (by decide) (by decide) rfl rfl rfl hl.1 rfl (Nat.le_of_ble_eq_true rfl) dX6_looked_46 ⟨Nat.le_of_ble_eq_true rfl, Nat.le_of_ble_eq_true rfl⟩ (fun u H locs hp46 hP hD hS => ?_)
        obtain ⟨ft2_46, wa2_46⟩ := u
        try dsimp only at hp46 hP hD
        have he46 := hp46
        replace hP : xP G [oC ko 6 [.ref (ad 0), .ref (ad 1), .int (nI w), .int (nI h), .int (nI la), .ref (ad 2), .int (nI dw), .int (nI dh), .int (nI dl), .int tl, .int tc, .int hc, .int hd, .ref (ad 3), .int (nI tp), .int (nI ps), .int (nI fr), .int (nI so), .int vl, .int (nI ft2_46), .int wa2_46, .ref (ad 4), .ref (ad 5), .ref (ad 6), .ref (ad 7), .ref (ad 8), .ref (ad 9), .ref (ad 10), .int tr]] H := hP
        replace hD : va_D (va_A (w_X6_looked G ko ad w h la tp dw dh dl tl tc hc hd ps fr so vl ft wa tr) ss.heap.size) [oC ko 6 [.ref (ad 0), .ref (ad 1), .int (nI w), .int (nI h), .int (nI la), .ref (ad 2), .int (nI dw), .int (nI dh), .int (nI dl), .int tl, .int tc, .int hc, .int hd, .ref (ad 3), .int (nI tp), .int (nI ps), .int (nI fr), .int (nI so), .int vl, .int (nI ft2_46), .int wa2_46, .ref (ad 4), .ref (ad 5), .ref (ad 6), .ref (ad 7), .ref (ad 8), .ref (ad 9), .ref (ad 10), .int tr]] := hD
        have hf46 : ft2_46 ≤ 6 := (by by_cases hq9 : ((lo : Int) ≤ vl.toInt ∧ vl.toInt ≤ (hi : Int)); (rw [if_pos hq9] at he46; cases he46; omega); (rw [if_neg hq9] at he46; cases he46; omega))
        refine lv_aload_n hx hb dX6_looked_49 rfl (lv_at hl 0 rfl) ?_
        refine va_get (D := G.1) (ci := 6) (v := .int (nI ft2_46)) (C := RX6) (T := TX6) (N := 29) hx hb hts hin6 hown hK.1 hP 0 rfl rfl 19 (by decide) (hts (.fieldLink RX6 90 "BackLensesModel" "fault" "I") (List.mem_of_getElem? (i := 1) rfl)) (fun _ h9 => h9) rfl dX6_looked_50 ?_
        refine xn_if_ne (tgt := 63) hx hb (by omega) dX6_looked_53 rfl (fun b53 => ?_) (fun b53 => ?_)
        · skip
          refine lv_iconst (v := nI 0) hx hb dX6_looked_63 (by decide) ?_
          have hP := hP.sub (ws' := [oC ko 6 [.ref (ad 0), .ref (ad 1), .int (nI w), .int (nI h), .int (nI la), .ref (ad 2), .int (nI dw), .int (nI dh), .int (nI dl), .int tl, .int tc, .int hc, .int hd, .ref (ad 3), .int (nI tp), .int (nI ps), .int (nI fr), .int (nI so), .int vl, .int (nI ft2_46), .int wa2_46, .ref (ad 4), .ref (ad 5), .ref (ad 6), .ref (ad 7), .ref (ad 8), .ref (ad 9), .ref (ad 10), .int tr]]) [0] rfl
          have hD := hD.sub (ws' := [oC ko 6 [.ref (ad 0), .ref (ad 1), .int (nI w), .int (nI h), .int (nI la), .ref (ad 2), .int (nI dw), .int (nI dh), .int (nI dl), .int tl, .int tc, .int hc, .int hd, .ref (ad 3), .int (nI tp), .int (nI ps), .int (nI fr), .int (nI so), .int vl, .int (nI ft2_46), .int wa2_46, .ref (ad 4), .ref (ad 5), .ref (ad 6), .ref (ad 7), .ref (ad 8), .ref (ad 9), .ref (ad 10), .int tr]]) [0] (by decide) rfl
          refine W.iret (v := nI 0) hx hb hr (fun t ht hW => ⟨⟨nI 0, (ft2_46, wa2_46), rfl, ?_, by rw [ht]; exact hP, hD⟩, hS.F ht⟩) hS.2.2 dX6_looked_64
          try dsimp only
          first | (exfalso; omega) | (rw [show mLoo lo hi (ps, fr, so, vl, ft, wa) = _ from if_neg b4]; exact ⟨rfl, rfl⟩) | (rw [show mLoo lo hi (ps, fr, so, vl, ft, wa) = _ from (if_pos b4).trans (if_neg b13)]; exact ⟨rfl, rfl⟩) | (by_cases hq9 : ((lo : Int) ≤ vl.toInt ∧ vl.toInt ≤ (hi : Int)); (rw [if_pos hq9] at he46; cases he46; rw [show mLoo lo hi (ps, fr, so, vl, ft, wa) = _ from (if_pos b4).trans ((if_pos b13).trans (if_pos hq9))]; first | exact ⟨rfl, rfl⟩ | exact absurd b4 b53); (rw [if_neg hq9] at he46; cases he46; rw [show mLoo lo hi (ps, fr, so, vl, ft, wa) = _ from (if_pos b4).trans ((if_pos b13).trans (if_neg hq9))]; first | exact ⟨rfl, rfl⟩ | exact absurd b53 (by decide)))
        · skip
          refine lv_aload_n hx hb dX6_looked_56 rfl (lv_at hl 0 rfl) ?_
          refine va_get (D := G.1) (ci := 6) (v := .int vl) (C := RX6) (T := TX6) (N := 29) hx hb hts hin6 hown hK.1 hP 0 rfl rfl 18 (by decide) (hts (.fieldLink RX6 121 "BackLensesModel" "value" "I") (List.mem_of_getElem? (i := 3) rfl)) (fun _ h9 => h9) rfl dX6_looked_57 ?_
          refine lv_goto (tgt := 64) hx hb dX6_looked_60 rfl ?_
          have hP := hP.sub (ws' := [oC ko 6 [.ref (ad 0), .ref (ad 1), .int (nI w), .int (nI h), .int (nI la), .ref (ad 2), .int (nI dw), .int (nI dh), .int (nI dl), .int tl, .int tc, .int hc, .int hd, .ref (ad 3), .int (nI tp), .int (nI ps), .int (nI fr), .int (nI so), .int vl, .int (nI ft2_46), .int wa2_46, .ref (ad 4), .ref (ad 5), .ref (ad 6), .ref (ad 7), .ref (ad 8), .ref (ad 9), .ref (ad 10), .int tr]]) [0] rfl
          have hD := hD.sub (ws' := [oC ko 6 [.ref (ad 0), .ref (ad 1), .int (nI w), .int (nI h), .int (nI la), .ref (ad 2), .int (nI dw), .int (nI dh), .int (nI dl), .int tl, .int tc, .int hc, .int hd, .ref (ad 3), .int (nI tp), .int (nI ps), .int (nI fr), .int (nI so), .int vl, .int (nI ft2_46), .int wa2_46, .ref (ad 4), .ref (ad 5), .ref (ad 6), .ref (ad 7), .ref (ad 8), .ref (ad 9), .ref (ad 10), .int tr]]) [0] (by decide) rfl
          refine W.iret (v := vl) hx hb hr (fun t ht hW => ⟨⟨vl, (ft2_46, wa2_46), rfl, ?_, by rw [ht]; exact hP, hD⟩, hS.F ht⟩) hS.2.2 dX6_looked_64
          try dsimp only
          first | (exfalso; omega) | (rw [show mLoo lo hi (ps, fr, so, vl, ft, wa) = _ from if_neg b4]; exact ⟨rfl, rfl⟩) | (rw [show mLoo lo hi (ps, fr, so, vl, ft, wa) = _ from (if_pos b4).trans (if_neg b13)]; exact ⟨rfl, rfl⟩) | (by_cases hq9 : ((lo : Int) ≤ vl.toInt ∧ vl.toInt ≤ (hi : Int)); (rw [if_pos hq9] at he46; cases he46; rw [show mLoo lo hi (ps, fr, so, vl, ft, wa) = _ from (if_pos b4).trans ((if_pos b13).trans (if_pos hq9))]; first | exact ⟨rfl, rfl⟩ | exact absurd b4 b53); (rw [if_neg hq9] at he46; cases he46; rw [show mLoo lo hi (ps, fr, so, vl, ft, wa) = _ from (if_pos b4).trans ((if_pos b13).trans (if_neg hq9))]; first | exact ⟨rfl, rfl⟩ | exact absurd b53 (by decide)))

abbrev w_X6_readNumber (G : XG) (ko : Nat) (ad : Nat → Nat) (w h la tp : Nat) (dw dh dl : Nat) (tl tc hc hd : Int32) (ps fr so : Nat) (vl : Int32) (ft : Nat) (wa tr : Int32) (tb : Nat → Int32) : va_W := [oC ko 6 [.ref (ad 0), .ref (ad 1), .int (nI w), .int (nI h), .int (nI la), .ref (ad 2), .int (nI dw), .int (nI dh), .int (nI dl), .int tl, .int tc, .int hc, .int hd, .ref (ad 3), .int (nI tp), .int (nI ps), .int (nI fr), .int (nI so), .int vl, .int (nI ft), .int wa, .ref (ad 4), .ref (ad 5), .ref (ad 6), .ref (ad 7), .ref (ad 8), .ref (ad 9), .ref (ad 10), .int tr], iA G (ad 3) 160 tb]
abbrev Q_X6_readNumber (G : XG) (sz : Nat) (ko : Nat) (ad : Nat → Nat) (w h la tp : Nat) (dw dh dl : Nat) (tl tc hc hd : Int32) (ps fr so : Nat) (vl : Int32) (ft : Nat) (wa tr : Int32) (tb : Nat → Int32) (lo hi : Nat) : Array Value → State → Outcome → State → Prop := (va_Qi (fun (r : Int32) (u : Nat × Nat × Nat × Int32 × Nat × Int32) => r = (mNum tb tp lo hi (ps, fr, so, vl, ft, wa)).1 ∧ (u.1, u.2.1, u.2.2.1, u.2.2.2.1, u.2.2.2.2.1, u.2.2.2.2.2) = (mNum tb tp lo hi (ps, fr, so, vl, ft, wa)).2) (xWb G sz (w_X6_readNumber G ko ad w h la tp dw dh dl tl tc hc hd ps fr so vl ft wa tr tb) (fun u : Nat × Nat × Nat × Int32 × Nat × Int32 => [oC ko 6 [.ref (ad 0), .ref (ad 1), .int (nI w), .int (nI h), .int (nI la), .ref (ad 2), .int (nI dw), .int (nI dh), .int (nI dl), .int tl, .int tc, .int hc, .int hd, .ref (ad 3), .int (nI tp), .int (nI u.1), .int (nI u.2.1), .int (nI u.2.2.1), .int u.2.2.2.1, .int (nI u.2.2.2.2.1), .int u.2.2.2.2.2, .ref (ad 4), .ref (ad 5), .ref (ad 6), .ref (ad 7), .ref (ad 8), .ref (ad 9), .ref (ad 10), .int tr], iA G (ad 3) 160 tb])) (va_A (w_X6_readNumber G ko ad w h la tp dw dh dl tl tc hc hd ps fr so vl ft wa tr tb) sz))
set_option maxHeartbeats 4000000 in
set_option maxRecDepth 100000 in
theorem c_X6_readNumber (l : Launch) (G : XG) (sz : Nat) (ko : Nat) (ad : Nat → Nat) (w h la tp : Nat) (dw dh dl : Nat) (tl tc hc hd : Int32) (ps fr so : Nat) (vl : Int32) (ft : Nat) (wa tr : Int32) (tb : Nat → Int32) (lo hi : Nat) (htp : tp ≤ 160) (hps : ps ≤ tp) (htk : tpOk tb tp) (hft : ft ≤ 6) (hso : so ≤ 3) (hhi : hi < 1000) (hlo : lo < 1000) : Met l yX6_readNumber wsX6_readNumber ({ frames := 2, cells := 0, slots := 0, locals := 47 } : Room) (va_Pc [.ref ko, .int (nI lo), .int (nI hi)] (xWp G sz (w_X6_readNumber G ko ad w h la tp dw dh dl tl tc hc hd ps fr so vl ft wa tr tb))) (Q_X6_readNumber G sz ko ad w h la tp dw dh dl tl tc hc hd ps fr so vl ft wa tr tb lo hi) 0 0 (va_A (w_X6_readNumber G ko ad w h la tp dw dh dl tl tc hc hd ps fr so vl ft wa tr tb) sz) := by
  refine Met.ofW (cc := cX6_readNumber) (maxL := 4) (ret := (some .int)) (by decide) rfl ?_
  intro pp ee ss mm aa below mt cd s₁ BB hml hv
  obtain ⟨rfl, hsz, hP, hK, hD0⟩ := hv
  have hx := BB.exec
  have hb := BB.bytes
  have hr := BB.returns
  have hts := atoms_spec (ws := wsX6_readNumber) BB.pre
  have hown : ss.vm.findClass RX6 = some mm.cls := findClass_of_methodNamed BB.named
  have hlocks := BB.notSynchronized
  subst hsz
  have hD := hD0.self (sz := ss.heap.size)
  have hA : ∀ q : Nat, ss.heap.size ≤ q → va_A (w_X6_readNumber G ko ad w h la tp dw dh dl tl tc hc hd ps fr so vl ft wa tr tb) ss.heap.size q := fun q h => Or.inr h
  have hS : va_S (va_A (w_X6_readNumber G ko ad w h la tp dw dh dl tl tc hc hd ps fr so vl ft wa tr tb) ss.heap.size) ss.heap ss.heap [] := va_S.rf
  replace hD : va_D (va_A (w_X6_readNumber G ko ad w h la tp dw dh dl tl tc hc hd ps fr so vl ft wa tr tb) ss.heap.size) [oC ko 6 [.ref (ad 0), .ref (ad 1), .int (nI w), .int (nI h), .int (nI la), .ref (ad 2), .int (nI dw), .int (nI dh), .int (nI dl), .int tl, .int tc, .int hc, .int hd, .ref (ad 3), .int (nI tp), .int (nI ps), .int (nI fr), .int (nI so), .int vl, .int (nI ft), .int wa, .ref (ad 4), .ref (ad 5), .ref (ad 6), .ref (ad 7), .ref (ad 8), .ref (ad 9), .ref (ad 10), .int tr], iA G (ad 3) 160 tb] := hD
  replace hP : xP G [oC ko 6 [.ref (ad 0), .ref (ad 1), .int (nI w), .int (nI h), .int (nI la), .ref (ad 2), .int (nI dw), .int (nI dh), .int (nI dl), .int tl, .int tc, .int hc, .int hd, .ref (ad 3), .int (nI tp), .int (nI ps), .int (nI fr), .int (nI so), .int vl, .int (nI ft), .int wa, .ref (ad 4), .ref (ad 5), .ref (ad 6), .ref (ad 7), .ref (ad 8), .ref (ad 9), .ref (ad 10), .int tr], iA G (ad 3) 160 tb] ss.heap := hP
  have hin6 : ∀ w ∈ u_ws RX6 TX6 29, w ∈ wsX6_readNumber := fun w h => List.mem_cons_of_mem _ (List.mem_append_right _ h)
  have hl := lv_entry ([.ref ko, .int (nI lo), .int (nI hi)]) (n := 4) (Nat.le_of_ble_eq_true rfl)
  rw [lg_entry_eq]
  generalize (lg_sl ([.ref ko, .int (nI lo), .int (nI hi)]) ++ List.replicate (4 - (lg_sl ([.ref ko, .int (nI lo), .int (nI hi)])).length) Slot.unset).toArray = ls at hl ⊢
  replace hl : lv_has ls 4 [(0, .ref ko), (1, .int (nI lo)), (2, .int (nI hi))] := hl
  refine lv_aload_n hx hb dX6_readNumber_0 rfl (lv_at hl 0 rfl) ?_
  refine lv_iload_n hx hb dX6_readNumber_1 rfl (lv_at hl 1 rfl) ?_
  refine lv_iload_n hx hb dX6_readNumber_2 rfl (lv_at hl 2 rfl) ?_
  refine xw_i (As := [.int (nI lo), .int (nI hi)]) (rest := []) (wr := [iA G (ad 3) 160 tb]) ⟨hx, hb, hml, hown, hts⟩ (c_X6_looked l G ss.heap.size ko ad w h la tp dw dh dl tl tc hc hd ps fr so vl ft wa tr lo hi (by first | assumption | omega) (by first | assumption | omega) (by first | assumption | omega) (by first | assumption | omega)) (cwV 2 hts gX6_readNumber_X6_looked rfl rfl rfl (by decide +kernel) ⟨Nat.le_of_ble_eq_true rfl, Nat.le_of_ble_eq_true rfl⟩) hK hP hD hS hA [0] [1] rfl rfl (by decide) (by decide) (by decide) rfl rfl rfl hl.1 rfl (Nat.le_of_ble_eq_true rfl) dX6_readNumber_3 ⟨Nat.le_of_ble_eq_true rfl, Nat.le_of_ble_eq_true rfl⟩ (fun r3 u H locs hp3 hP hD hS => ?_)
  obtain ⟨ft2_3, wa2_3⟩ := u
  try dsimp only at hp3 hP hD
  obtain ⟨rfl, he3⟩ := hp3
  replace hP : xP G [iA G (ad 3) 160 tb, oC ko 6 [.ref (ad 0), .ref (ad 1), .int (nI w), .int (nI h), .int (nI la), .ref (ad 2), .int (nI dw), .int (nI dh), .int (nI dl), .int tl, .int tc, .int hc, .int hd, .ref (ad 3), .int (nI tp), .int (nI ps), .int (nI fr), .int (nI so), .int vl, .int (nI ft2_3), .int wa2_3, .ref (ad 4), .ref (ad 5), .ref (ad 6), .ref (ad 7), .ref (ad 8), .ref (ad 9), .ref (ad 10), .int tr]] H := hP
  replace hD : va_D (va_A (w_X6_readNumber G ko ad w h la tp dw dh dl tl tc hc hd ps fr so vl ft wa tr tb) ss.heap.size) [iA G (ad 3) 160 tb, oC ko 6 [.ref (ad 0), .ref (ad 1), .int (nI w), .int (nI h), .int (nI la), .ref (ad 2), .int (nI dw), .int (nI dh), .int (nI dl), .int tl, .int tc, .int hc, .int hd, .ref (ad 3), .int (nI tp), .int (nI ps), .int (nI fr), .int (nI so), .int vl, .int (nI ft2_3), .int wa2_3, .ref (ad 4), .ref (ad 5), .ref (ad 6), .ref (ad 7), .ref (ad 8), .ref (ad 9), .ref (ad 10), .int tr]] := hD
  have hf3 : ft2_3 ≤ 6 := (by have q := (mLoo_bd (lo := lo) (hi := hi) (s := (ps, fr, so, vl, ft, wa))).2 hft; rw [← he3] at q; exact q)
  refine lv_istore_n (lv' := [(3, .int ((mLoo lo hi (ps, fr, so, vl, ft, wa)).1)), (0, .ref ko), (1, .int (nI lo)), (2, .int (nI hi))]) hx hb dX6_readNumber_6 rfl hl (by decide) rfl (fun ls hl => ?_)
  refine lv_aload_n hx hb dX6_readNumber_7 rfl (lv_at hl 1 rfl) ?_
  refine xw_v (As := []) (rest := []) (wr := []) ⟨hx, hb, hml, hown, hts⟩ (c_X6_nextToken l G H.size ko ad w h la tp dw dh dl tl tc hc hd ps fr so vl ft2_3 wa2_3 tr tb (by first | assumption | omega) (by first | assumption | omega) (by first | assumption | omega) (by first | assumption | omega)) (cwV 0 hts gX6_readNumber_X6_nextToken rfl rfl rfl (by decide +kernel) ⟨Nat.le_of_ble_eq_true rfl, Nat.le_of_ble_eq_true rfl⟩) hK hP hD hS hA [1, 0] [] rfl rfl (by decide) (by decide) (by decide) rfl rfl rfl hl.1 rfl (Nat.le_of_ble_eq_true rfl) dX6_readNumber_8 ⟨Nat.le_of_ble_eq_true rfl, Nat.le_of_ble_eq_true rfl⟩ (fun u H locs hp8 hP hD hS => ?_)
  obtain ⟨ps2_8, fr2_8, so2_8, vl2_8, ft2_8, wa2_8⟩ := u
  try dsimp only at hp8 hP hD
  have he8 := hp8
  replace hP : xP G [oC ko 6 [.ref (ad 0), .ref (ad 1), .int (nI w), .int (nI h), .int (nI la), .ref (ad 2), .int (nI dw), .int (nI dh), .int (nI dl), .int tl, .int tc, .int hc, .int hd, .ref (ad 3), .int (nI tp), .int (nI ps2_8), .int (nI fr2_8), .int (nI so2_8), .int vl2_8, .int (nI ft2_8), .int wa2_8, .ref (ad 4), .ref (ad 5), .ref (ad 6), .ref (ad 7), .ref (ad 8), .ref (ad 9), .ref (ad 10), .int tr], iA G (ad 3) 160 tb] H := hP
  replace hD : va_D (va_A (w_X6_readNumber G ko ad w h la tp dw dh dl tl tc hc hd ps fr so vl ft wa tr tb) ss.heap.size) [oC ko 6 [.ref (ad 0), .ref (ad 1), .int (nI w), .int (nI h), .int (nI la), .ref (ad 2), .int (nI dw), .int (nI dh), .int (nI dl), .int tl, .int tc, .int hc, .int hd, .ref (ad 3), .int (nI tp), .int (nI ps2_8), .int (nI fr2_8), .int (nI so2_8), .int vl2_8, .int (nI ft2_8), .int wa2_8, .ref (ad 4), .ref (ad 5), .ref (ad 6), .ref (ad 7), .ref (ad 8), .ref (ad 9), .ref (ad 10), .int tr], iA G (ad 3) 160 tb] := hD
  refine lv_iload_n hx hb dX6_readNumber_11 rfl (lv_at hl 0 rfl) ?_
  have hP := hP.sub (ws' := [oC ko 6 [.ref (ad 0), .ref (ad 1), .int (nI w), .int (nI h), .int (nI la), .ref (ad 2), .int (nI dw), .int (nI dh), .int (nI dl), .int tl, .int tc, .int hc, .int hd, .ref (ad 3), .int (nI tp), .int (nI ps2_8), .int (nI fr2_8), .int (nI so2_8), .int vl2_8, .int (nI ft2_8), .int wa2_8, .ref (ad 4), .ref (ad 5), .ref (ad 6), .ref (ad 7), .ref (ad 8), .ref (ad 9), .ref (ad 10), .int tr], iA G (ad 3) 160 tb]) [0, 1] rfl
  have hD := hD.sub (ws' := [oC ko 6 [.ref (ad 0), .ref (ad 1), .int (nI w), .int (nI h), .int (nI la), .ref (ad 2), .int (nI dw), .int (nI dh), .int (nI dl), .int tl, .int tc, .int hc, .int hd, .ref (ad 3), .int (nI tp), .int (nI ps2_8), .int (nI fr2_8), .int (nI so2_8), .int vl2_8, .int (nI ft2_8), .int wa2_8, .ref (ad 4), .ref (ad 5), .ref (ad 6), .ref (ad 7), .ref (ad 8), .ref (ad 9), .ref (ad 10), .int tr], iA G (ad 3) 160 tb]) [0, 1] (by decide) rfl
  refine W.iret (v := (mLoo lo hi (ps, fr, so, vl, ft, wa)).1) hx hb hr (fun t ht hW => ⟨⟨(mLoo lo hi (ps, fr, so, vl, ft, wa)).1, (ps2_8, fr2_8, so2_8, vl2_8, ft2_8, wa2_8), rfl, ?_, by rw [ht]; exact hP, hD⟩, hS.F ht⟩) hS.2.2 dX6_readNumber_12
  try dsimp only
  exact ⟨rfl, he8.trans (congrArg (mTok tb tp) he3)⟩

abbrev w_X6_readDay (G : XG) (ko : Nat) (ad : Nat → Nat) (w h la tp : Nat) (dw dh dl : Nat) (tl tc hc hd : Int32) (ps fr so : Nat) (vl : Int32) (ft : Nat) (wa tr : Int32) (tb : Nat → Int32) : va_W := [oC ko 6 [.ref (ad 0), .ref (ad 1), .int (nI w), .int (nI h), .int (nI la), .ref (ad 2), .int (nI dw), .int (nI dh), .int (nI dl), .int tl, .int tc, .int hc, .int hd, .ref (ad 3), .int (nI tp), .int (nI ps), .int (nI fr), .int (nI so), .int vl, .int (nI ft), .int wa, .ref (ad 4), .ref (ad 5), .ref (ad 6), .ref (ad 7), .ref (ad 8), .ref (ad 9), .ref (ad 10), .int tr], iA G (ad 3) 160 tb]
abbrev Q_X6_readDay (G : XG) (sz : Nat) (ko : Nat) (ad : Nat → Nat) (w h la tp : Nat) (dw dh dl : Nat) (tl tc hc hd : Int32) (ps fr so : Nat) (vl : Int32) (ft : Nat) (wa tr : Int32) (tb : Nat → Int32) : Array Value → State → Outcome → State → Prop := (va_Qi (fun (r : Int32) (u : Nat × Nat × Nat × Int32 × Nat × Int32 × Int32) => r = (mDay tb tp hd (ps, fr, so, vl, ft, wa)).1 ∧ (u.2.2.2.2.2.2, (u.1, u.2.1, u.2.2.1, u.2.2.2.1, u.2.2.2.2.1, u.2.2.2.2.2.1)) = (mDay tb tp hd (ps, fr, so, vl, ft, wa)).2) (xWb G sz (w_X6_readDay G ko ad w h la tp dw dh dl tl tc hc hd ps fr so vl ft wa tr tb) (fun u : Nat × Nat × Nat × Int32 × Nat × Int32 × Int32 => [oC ko 6 [.ref (ad 0), .ref (ad 1), .int (nI w), .int (nI h), .int (nI la), .ref (ad 2), .int (nI dw), .int (nI dh), .int (nI dl), .int tl, .int tc, .int hc, .int u.2.2.2.2.2.2, .ref (ad 3), .int (nI tp), .int (nI u.1), .int (nI u.2.1), .int (nI u.2.2.1), .int u.2.2.2.1, .int (nI u.2.2.2.2.1), .int u.2.2.2.2.2.1, .ref (ad 4), .ref (ad 5), .ref (ad 6), .ref (ad 7), .ref (ad 8), .ref (ad 9), .ref (ad 10), .int tr], iA G (ad 3) 160 tb])) (va_A (w_X6_readDay G ko ad w h la tp dw dh dl tl tc hc hd ps fr so vl ft wa tr tb) sz))
set_option maxHeartbeats 4000000 in
set_option maxRecDepth 100000 in
theorem c_X6_readDay (l : Launch) (G : XG) (sz : Nat) (ko : Nat) (ad : Nat → Nat) (w h la tp : Nat) (dw dh dl : Nat) (tl tc hc hd : Int32) (ps fr so : Nat) (vl : Int32) (ft : Nat) (wa tr : Int32) (tb : Nat → Int32) (htp : tp ≤ 160) (hps : ps ≤ tp) (htk : tpOk tb tp) (hft : ft ≤ 6) (hso : so ≤ 3) : Met l yX6_readDay wsX6_readDay ({ frames := 2, cells := 0, slots := 0, locals := 47 } : Room) (va_Pc [.ref ko] (xWp G sz (w_X6_readDay G ko ad w h la tp dw dh dl tl tc hc hd ps fr so vl ft wa tr tb))) (Q_X6_readDay G sz ko ad w h la tp dw dh dl tl tc hc hd ps fr so vl ft wa tr tb) 0 0 (va_A (w_X6_readDay G ko ad w h la tp dw dh dl tl tc hc hd ps fr so vl ft wa tr tb) sz) := by
  refine Met.ofW (cc := cX6_readDay) (maxL := 2) (ret := (some .int)) (by decide) rfl ?_
  intro pp ee ss mm aa below mt cd s₁ BB hml hv
  obtain ⟨rfl, hsz, hP, hK, hD0⟩ := hv
  have hx := BB.exec
  have hb := BB.bytes
  have hr := BB.returns
  have hts := atoms_spec (ws := wsX6_readDay) BB.pre
  have hown : ss.vm.findClass RX6 = some mm.cls := findClass_of_methodNamed BB.named
  have hlocks := BB.notSynchronized
  subst hsz
  have hD := hD0.self (sz := ss.heap.size)
  have hA : ∀ q : Nat, ss.heap.size ≤ q → va_A (w_X6_readDay G ko ad w h la tp dw dh dl tl tc hc hd ps fr so vl ft wa tr tb) ss.heap.size q := fun q h => Or.inr h
  have hS : va_S (va_A (w_X6_readDay G ko ad w h la tp dw dh dl tl tc hc hd ps fr so vl ft wa tr tb) ss.heap.size) ss.heap ss.heap [] := va_S.rf
  replace hD : va_D (va_A (w_X6_readDay G ko ad w h la tp dw dh dl tl tc hc hd ps fr so vl ft wa tr tb) ss.heap.size) [oC ko 6 [.ref (ad 0), .ref (ad 1), .int (nI w), .int (nI h), .int (nI la), .ref (ad 2), .int (nI dw), .int (nI dh), .int (nI dl), .int tl, .int tc, .int hc, .int hd, .ref (ad 3), .int (nI tp), .int (nI ps), .int (nI fr), .int (nI so), .int vl, .int (nI ft), .int wa, .ref (ad 4), .ref (ad 5), .ref (ad 6), .ref (ad 7), .ref (ad 8), .ref (ad 9), .ref (ad 10), .int tr], iA G (ad 3) 160 tb] := hD
  replace hP : xP G [oC ko 6 [.ref (ad 0), .ref (ad 1), .int (nI w), .int (nI h), .int (nI la), .ref (ad 2), .int (nI dw), .int (nI dh), .int (nI dl), .int tl, .int tc, .int hc, .int hd, .ref (ad 3), .int (nI tp), .int (nI ps), .int (nI fr), .int (nI so), .int vl, .int (nI ft), .int wa, .ref (ad 4), .ref (ad 5), .ref (ad 6), .ref (ad 7), .ref (ad 8), .ref (ad 9), .ref (ad 10), .int tr], iA G (ad 3) 160 tb] ss.heap := hP
  have hin6 : ∀ w ∈ u_ws RX6 TX6 29, w ∈ wsX6_readDay := fun w h => List.mem_cons_of_mem _ (List.mem_append_right _ h)
  have hl := lv_entry ([.ref ko]) (n := 2) (Nat.le_of_ble_eq_true rfl)
  rw [lg_entry_eq]
  generalize (lg_sl ([.ref ko]) ++ List.replicate (2 - (lg_sl ([.ref ko])).length) Slot.unset).toArray = ls at hl ⊢
  replace hl : lv_has ls 2 [(0, .ref ko)] := hl
  refine lv_aload_n hx hb dX6_readDay_0 rfl (lv_at hl 0 rfl) ?_
  refine lv_iconst (v := nI 0) hx hb dX6_readDay_1 (by decide) ?_
  refine lv_bipush (v := nI 9) hx hb dX6_readDay_2 (by decide) ?_
  refine xw_i (As := [.int (nI 0), .int (nI 9)]) (rest := []) (wr := [iA G (ad 3) 160 tb]) ⟨hx, hb, hml, hown, hts⟩ (c_X6_looked l G ss.heap.size ko ad w h la tp dw dh dl tl tc hc hd ps fr so vl ft wa tr 0 9 (by first | assumption | omega) (by first | assumption | omega) (by first | assumption | omega) (by first | assumption | omega)) (cwV 2 hts gX6_readDay_X6_looked rfl rfl rfl (by decide +kernel) ⟨Nat.le_of_ble_eq_true rfl, Nat.le_of_ble_eq_true rfl⟩) hK hP hD hS hA [0] [1] rfl rfl (by decide) (by decide) (by decide) rfl rfl rfl hl.1 rfl (Nat.le_of_ble_eq_true rfl) dX6_readDay_4 ⟨Nat.le_of_ble_eq_true rfl, Nat.le_of_ble_eq_true rfl⟩ (fun r4 u H locs hp4 hP hD hS => ?_)
  obtain ⟨ft2_4, wa2_4⟩ := u
  try dsimp only at hp4 hP hD
  obtain ⟨rfl, he4⟩ := hp4
  replace hP : xP G [iA G (ad 3) 160 tb, oC ko 6 [.ref (ad 0), .ref (ad 1), .int (nI w), .int (nI h), .int (nI la), .ref (ad 2), .int (nI dw), .int (nI dh), .int (nI dl), .int tl, .int tc, .int hc, .int hd, .ref (ad 3), .int (nI tp), .int (nI ps), .int (nI fr), .int (nI so), .int vl, .int (nI ft2_4), .int wa2_4, .ref (ad 4), .ref (ad 5), .ref (ad 6), .ref (ad 7), .ref (ad 8), .ref (ad 9), .ref (ad 10), .int tr]] H := hP
  replace hD : va_D (va_A (w_X6_readDay G ko ad w h la tp dw dh dl tl tc hc hd ps fr so vl ft wa tr tb) ss.heap.size) [iA G (ad 3) 160 tb, oC ko 6 [.ref (ad 0), .ref (ad 1), .int (nI w), .int (nI h), .int (nI la), .ref (ad 2), .int (nI dw), .int (nI dh), .int (nI dl), .int tl, .int tc, .int hc, .int hd, .ref (ad 3), .int (nI tp), .int (nI ps), .int (nI fr), .int (nI so), .int vl, .int (nI ft2_4), .int wa2_4, .ref (ad 4), .ref (ad 5), .ref (ad 6), .ref (ad 7), .ref (ad 8), .ref (ad 9), .ref (ad 10), .int tr]] := hD
  have hf4 : ft2_4 ≤ 6 := (by have q := (mLoo_bd (lo := 0) (hi := 9) (s := (ps, fr, so, vl, ft, wa))).2 hft; rw [← he4] at q; exact q)
  refine lv_istore_n (lv' := [(1, .int ((mLoo 0 9 (ps, fr, so, vl, ft, wa)).1)), (0, .ref ko)]) hx hb dX6_readDay_7 rfl hl (by decide) rfl (fun ls hl => ?_)
  refine lv_aload_n hx hb dX6_readDay_8 rfl (lv_at hl 1 rfl) ?_
  refine lv_aload_n hx hb dX6_readDay_9 rfl (lv_at hl 1 rfl) ?_
  refine va_get (D := G.1) (ci := 6) (v := .int (nI ft2_4)) (C := RX6) (T := TX6) (N := 29) hx hb hts hin6 hown hK.1 hP 1 rfl rfl 19 (by decide) (hts (.fieldLink RX6 90 "BackLensesModel" "fault" "I") (List.mem_of_getElem? (i := 1) rfl)) (fun _ h9 => h9) rfl dX6_readDay_10 ?_
  refine xn_if_ne (tgt := 28) hx hb (by omega) dX6_readDay_13 rfl (fun b13 => ?_) (fun b13 => ?_)
  · skip
    refine lv_aload_n hx hb dX6_readDay_28 rfl (lv_at hl 1 rfl) ?_
    refine va_get (D := G.1) (ci := 6) (v := .int hd) (C := RX6) (T := TX6) (N := 29) hx hb hts hin6 hown hK.1 hP 1 rfl rfl 12 (by decide) (hts (.fieldLink RX6 69 "BackLensesModel" "highestDay" "I") (List.mem_of_getElem? (i := 2) rfl)) (fun _ h9 => h9) rfl dX6_readDay_29 ?_
    refine va_put (D := G.1) (ci := 6) (v := .int hd) (ty := .int) (C := RX6) (T := TX6) (N := 29) hx hb hts hin6 tyX6 tyX6_ok nmX6 hown hK.1 hP hD hS 1 rfl rfl 12 (by decide) (hts (.fieldLink RX6 69 "BackLensesModel" "highestDay" "I") (List.mem_of_getElem? (i := 2) rfl)) (fun _ h9 => h9) rfl (by decide +kernel) rfl rfl (Nat.le_of_ble_eq_true rfl) dX6_readDay_32 (fun H locs hP hD hS => ?_)
    replace hP : xP G [iA G (ad 3) 160 tb, oC ko 6 [.ref (ad 0), .ref (ad 1), .int (nI w), .int (nI h), .int (nI la), .ref (ad 2), .int (nI dw), .int (nI dh), .int (nI dl), .int tl, .int tc, .int hc, .int hd, .ref (ad 3), .int (nI tp), .int (nI ps), .int (nI fr), .int (nI so), .int vl, .int (nI ft2_4), .int wa2_4, .ref (ad 4), .ref (ad 5), .ref (ad 6), .ref (ad 7), .ref (ad 8), .ref (ad 9), .ref (ad 10), .int tr]] H := hP
    replace hD : va_D (va_A (w_X6_readDay G ko ad w h la tp dw dh dl tl tc hc hd ps fr so vl ft wa tr tb) ss.heap.size) [iA G (ad 3) 160 tb, oC ko 6 [.ref (ad 0), .ref (ad 1), .int (nI w), .int (nI h), .int (nI la), .ref (ad 2), .int (nI dw), .int (nI dh), .int (nI dl), .int tl, .int tc, .int hc, .int hd, .ref (ad 3), .int (nI tp), .int (nI ps), .int (nI fr), .int (nI so), .int vl, .int (nI ft2_4), .int wa2_4, .ref (ad 4), .ref (ad 5), .ref (ad 6), .ref (ad 7), .ref (ad 8), .ref (ad 9), .ref (ad 10), .int tr]] := hD
    refine lv_aload_n hx hb dX6_readDay_35 rfl (lv_at hl 1 rfl) ?_
    refine xw_v (As := []) (rest := []) (wr := []) ⟨hx, hb, hml, hown, hts⟩ (c_X6_nextToken l G H.size ko ad w h la tp dw dh dl tl tc hc hd ps fr so vl ft2_4 wa2_4 tr tb (by first | assumption | omega) (by first | assumption | omega) (by first | assumption | omega) (by first | assumption | omega)) (cwV 0 hts gX6_readDay_X6_nextToken rfl rfl rfl (by decide +kernel) ⟨Nat.le_of_ble_eq_true rfl, Nat.le_of_ble_eq_true rfl⟩) hK hP hD hS hA [1, 0] [] rfl rfl (by decide) (by decide) (by decide) rfl rfl rfl hl.1 rfl (Nat.le_of_ble_eq_true rfl) dX6_readDay_36 ⟨Nat.le_of_ble_eq_true rfl, Nat.le_of_ble_eq_true rfl⟩ (fun u H locs hp36 hP hD hS => ?_)
    obtain ⟨ps2_36, fr2_36, so2_36, vl2_36, ft2_36, wa2_36⟩ := u
    try dsimp only at hp36 hP hD
    have he36 := hp36
    replace hP : xP G [oC ko 6 [.ref (ad 0), .ref (ad 1), .int (nI w), .int (nI h), .int (nI la), .ref (ad 2), .int (nI dw), .int (nI dh), .int (nI dl), .int tl, .int tc, .int hc, .int hd, .ref (ad 3), .int (nI tp), .int (nI ps2_36), .int (nI fr2_36), .int (nI so2_36), .int vl2_36, .int (nI ft2_36), .int wa2_36, .ref (ad 4), .ref (ad 5), .ref (ad 6), .ref (ad 7), .ref (ad 8), .ref (ad 9), .ref (ad 10), .int tr], iA G (ad 3) 160 tb] H := hP
    replace hD : va_D (va_A (w_X6_readDay G ko ad w h la tp dw dh dl tl tc hc hd ps fr so vl ft wa tr tb) ss.heap.size) [oC ko 6 [.ref (ad 0), .ref (ad 1), .int (nI w), .int (nI h), .int (nI la), .ref (ad 2), .int (nI dw), .int (nI dh), .int (nI dl), .int tl, .int tc, .int hc, .int hd, .ref (ad 3), .int (nI tp), .int (nI ps2_36), .int (nI fr2_36), .int (nI so2_36), .int vl2_36, .int (nI ft2_36), .int wa2_36, .ref (ad 4), .ref (ad 5), .ref (ad 6), .ref (ad 7), .ref (ad 8), .ref (ad 9), .ref (ad 10), .int tr], iA G (ad 3) 160 tb] := hD
    refine lv_iload_n hx hb dX6_readDay_39 rfl (lv_at hl 0 rfl) ?_
    have hP := hP.sub (ws' := [oC ko 6 [.ref (ad 0), .ref (ad 1), .int (nI w), .int (nI h), .int (nI la), .ref (ad 2), .int (nI dw), .int (nI dh), .int (nI dl), .int tl, .int tc, .int hc, .int hd, .ref (ad 3), .int (nI tp), .int (nI ps2_36), .int (nI fr2_36), .int (nI so2_36), .int vl2_36, .int (nI ft2_36), .int wa2_36, .ref (ad 4), .ref (ad 5), .ref (ad 6), .ref (ad 7), .ref (ad 8), .ref (ad 9), .ref (ad 10), .int tr], iA G (ad 3) 160 tb]) [0, 1] rfl
    have hD := hD.sub (ws' := [oC ko 6 [.ref (ad 0), .ref (ad 1), .int (nI w), .int (nI h), .int (nI la), .ref (ad 2), .int (nI dw), .int (nI dh), .int (nI dl), .int tl, .int tc, .int hc, .int hd, .ref (ad 3), .int (nI tp), .int (nI ps2_36), .int (nI fr2_36), .int (nI so2_36), .int vl2_36, .int (nI ft2_36), .int wa2_36, .ref (ad 4), .ref (ad 5), .ref (ad 6), .ref (ad 7), .ref (ad 8), .ref (ad 9), .ref (ad 10), .int tr], iA G (ad 3) 160 tb]) [0, 1] (by decide) rfl
    refine W.iret (v := (mLoo 0 9 (ps, fr, so, vl, ft, wa)).1) hx hb hr (fun t ht hW => ⟨⟨(mLoo 0 9 (ps, fr, so, vl, ft, wa)).1, (ps2_36, fr2_36, so2_36, vl2_36, ft2_36, wa2_36, hd), rfl, ?_, by rw [ht]; exact hP, hD⟩, hS.F ht⟩) hS.2.2 dX6_readDay_40
    try dsimp only
    have hz : (mLoo 0 9 (ps, fr, so, vl, ft, wa)).2.2.2.2.2.1 = ft2_4 := (by rw [← he4]); refine ⟨rfl, (congrArg (fun a => (_, a)) (he36.trans (congrArg (mTok tb tp) he4))).trans (congrArg (fun a => (a, mTok tb tp (mLoo 0 9 (ps, fr, so, vl, ft, wa)).2)) ?_)⟩; first | exact (if_neg (fun q => b13 (hz ▸ q.1))).symm | exact (if_neg (fun q => absurd q.2 (by omega))).symm | exact (if_pos ⟨hz ▸ b13, by omega⟩).symm
  · skip
    refine lv_iload_n hx hb dX6_readDay_16 rfl (lv_at hl 0 rfl) ?_
    refine lv_aload_n hx hb dX6_readDay_17 rfl (lv_at hl 1 rfl) ?_
    refine va_get (D := G.1) (ci := 6) (v := .int hd) (C := RX6) (T := TX6) (N := 29) hx hb hts hin6 hown hK.1 hP 1 rfl rfl 12 (by decide) (hts (.fieldLink RX6 69 "BackLensesModel" "highestDay" "I") (List.mem_of_getElem? (i := 2) rfl)) (fun _ h9 => h9) rfl dX6_readDay_18 ?_
    refine xi_icmp_le (tgt := 28) hx hb dX6_readDay_21 rfl (fun b21 => ?_) (fun b21 => ?_)
    · skip
      refine lv_aload_n hx hb dX6_readDay_28 rfl (lv_at hl 1 rfl) ?_
      refine va_get (D := G.1) (ci := 6) (v := .int hd) (C := RX6) (T := TX6) (N := 29) hx hb hts hin6 hown hK.1 hP 1 rfl rfl 12 (by decide) (hts (.fieldLink RX6 69 "BackLensesModel" "highestDay" "I") (List.mem_of_getElem? (i := 2) rfl)) (fun _ h9 => h9) rfl dX6_readDay_29 ?_
      refine va_put (D := G.1) (ci := 6) (v := .int hd) (ty := .int) (C := RX6) (T := TX6) (N := 29) hx hb hts hin6 tyX6 tyX6_ok nmX6 hown hK.1 hP hD hS 1 rfl rfl 12 (by decide) (hts (.fieldLink RX6 69 "BackLensesModel" "highestDay" "I") (List.mem_of_getElem? (i := 2) rfl)) (fun _ h9 => h9) rfl (by decide +kernel) rfl rfl (Nat.le_of_ble_eq_true rfl) dX6_readDay_32 (fun H locs hP hD hS => ?_)
      replace hP : xP G [iA G (ad 3) 160 tb, oC ko 6 [.ref (ad 0), .ref (ad 1), .int (nI w), .int (nI h), .int (nI la), .ref (ad 2), .int (nI dw), .int (nI dh), .int (nI dl), .int tl, .int tc, .int hc, .int hd, .ref (ad 3), .int (nI tp), .int (nI ps), .int (nI fr), .int (nI so), .int vl, .int (nI ft2_4), .int wa2_4, .ref (ad 4), .ref (ad 5), .ref (ad 6), .ref (ad 7), .ref (ad 8), .ref (ad 9), .ref (ad 10), .int tr]] H := hP
      replace hD : va_D (va_A (w_X6_readDay G ko ad w h la tp dw dh dl tl tc hc hd ps fr so vl ft wa tr tb) ss.heap.size) [iA G (ad 3) 160 tb, oC ko 6 [.ref (ad 0), .ref (ad 1), .int (nI w), .int (nI h), .int (nI la), .ref (ad 2), .int (nI dw), .int (nI dh), .int (nI dl), .int tl, .int tc, .int hc, .int hd, .ref (ad 3), .int (nI tp), .int (nI ps), .int (nI fr), .int (nI so), .int vl, .int (nI ft2_4), .int wa2_4, .ref (ad 4), .ref (ad 5), .ref (ad 6), .ref (ad 7), .ref (ad 8), .ref (ad 9), .ref (ad 10), .int tr]] := hD
      refine lv_aload_n hx hb dX6_readDay_35 rfl (lv_at hl 1 rfl) ?_
      refine xw_v (As := []) (rest := []) (wr := []) ⟨hx, hb, hml, hown, hts⟩ (c_X6_nextToken l G H.size ko ad w h la tp dw dh dl tl tc hc hd ps fr so vl ft2_4 wa2_4 tr tb (by first | assumption | omega) (by first | assumption | omega) (by first | assumption | omega) (by first | assumption | omega)) (cwV 0 hts gX6_readDay_X6_nextToken rfl rfl rfl (by decide +kernel) ⟨Nat.le_of_ble_eq_true rfl, Nat.le_of_ble_eq_true rfl⟩) hK hP hD hS hA [1, 0] [] rfl rfl (by decide) (by decide) (by decide) rfl rfl rfl hl.1 rfl (Nat.le_of_ble_eq_true rfl) dX6_readDay_36 ⟨Nat.le_of_ble_eq_true rfl, Nat.le_of_ble_eq_true rfl⟩ (fun u H locs hp36 hP hD hS => ?_)
      obtain ⟨ps2_36, fr2_36, so2_36, vl2_36, ft2_36, wa2_36⟩ := u
      try dsimp only at hp36 hP hD
      have he36 := hp36
      replace hP : xP G [oC ko 6 [.ref (ad 0), .ref (ad 1), .int (nI w), .int (nI h), .int (nI la), .ref (ad 2), .int (nI dw), .int (nI dh), .int (nI dl), .int tl, .int tc, .int hc, .int hd, .ref (ad 3), .int (nI tp), .int (nI ps2_36), .int (nI fr2_36), .int (nI so2_36), .int vl2_36, .int (nI ft2_36), .int wa2_36, .ref (ad 4), .ref (ad 5), .ref (ad 6), .ref (ad 7), .ref (ad 8), .ref (ad 9), .ref (ad 10), .int tr], iA G (ad 3) 160 tb] H := hP
      replace hD : va_D (va_A (w_X6_readDay G ko ad w h la tp dw dh dl tl tc hc hd ps fr so vl ft wa tr tb) ss.heap.size) [oC ko 6 [.ref (ad 0), .ref (ad 1), .int (nI w), .int (nI h), .int (nI la), .ref (ad 2), .int (nI dw), .int (nI dh), .int (nI dl), .int tl, .int tc, .int hc, .int hd, .ref (ad 3), .int (nI tp), .int (nI ps2_36), .int (nI fr2_36), .int (nI so2_36), .int vl2_36, .int (nI ft2_36), .int wa2_36, .ref (ad 4), .ref (ad 5), .ref (ad 6), .ref (ad 7), .ref (ad 8), .ref (ad 9), .ref (ad 10), .int tr], iA G (ad 3) 160 tb] := hD
      refine lv_iload_n hx hb dX6_readDay_39 rfl (lv_at hl 0 rfl) ?_
      have hP := hP.sub (ws' := [oC ko 6 [.ref (ad 0), .ref (ad 1), .int (nI w), .int (nI h), .int (nI la), .ref (ad 2), .int (nI dw), .int (nI dh), .int (nI dl), .int tl, .int tc, .int hc, .int hd, .ref (ad 3), .int (nI tp), .int (nI ps2_36), .int (nI fr2_36), .int (nI so2_36), .int vl2_36, .int (nI ft2_36), .int wa2_36, .ref (ad 4), .ref (ad 5), .ref (ad 6), .ref (ad 7), .ref (ad 8), .ref (ad 9), .ref (ad 10), .int tr], iA G (ad 3) 160 tb]) [0, 1] rfl
      have hD := hD.sub (ws' := [oC ko 6 [.ref (ad 0), .ref (ad 1), .int (nI w), .int (nI h), .int (nI la), .ref (ad 2), .int (nI dw), .int (nI dh), .int (nI dl), .int tl, .int tc, .int hc, .int hd, .ref (ad 3), .int (nI tp), .int (nI ps2_36), .int (nI fr2_36), .int (nI so2_36), .int vl2_36, .int (nI ft2_36), .int wa2_36, .ref (ad 4), .ref (ad 5), .ref (ad 6), .ref (ad 7), .ref (ad 8), .ref (ad 9), .ref (ad 10), .int tr], iA G (ad 3) 160 tb]) [0, 1] (by decide) rfl
      refine W.iret (v := (mLoo 0 9 (ps, fr, so, vl, ft, wa)).1) hx hb hr (fun t ht hW => ⟨⟨(mLoo 0 9 (ps, fr, so, vl, ft, wa)).1, (ps2_36, fr2_36, so2_36, vl2_36, ft2_36, wa2_36, hd), rfl, ?_, by rw [ht]; exact hP, hD⟩, hS.F ht⟩) hS.2.2 dX6_readDay_40
      try dsimp only
      have hz : (mLoo 0 9 (ps, fr, so, vl, ft, wa)).2.2.2.2.2.1 = ft2_4 := (by rw [← he4]); refine ⟨rfl, (congrArg (fun a => (_, a)) (he36.trans (congrArg (mTok tb tp) he4))).trans (congrArg (fun a => (a, mTok tb tp (mLoo 0 9 (ps, fr, so, vl, ft, wa)).2)) ?_)⟩; first | exact (if_neg (fun q => b13 (hz ▸ q.1))).symm | exact (if_neg (fun q => absurd q.2 (by omega))).symm | exact (if_pos ⟨hz ▸ b13, by omega⟩).symm
    · skip
      refine lv_iload_n hx hb dX6_readDay_24 rfl (lv_at hl 0 rfl) ?_
      refine lv_goto (tgt := 32) hx hb dX6_readDay_25 rfl ?_
      refine va_put (D := G.1) (ci := 6) (v := .int ((mLoo 0 9 (ps, fr, so, vl, ft, wa)).1)) (ty := .int) (C := RX6) (T := TX6) (N := 29) hx hb hts hin6 tyX6 tyX6_ok nmX6 hown hK.1 hP hD hS 1 rfl rfl 12 (by decide) (hts (.fieldLink RX6 69 "BackLensesModel" "highestDay" "I") (List.mem_of_getElem? (i := 2) rfl)) (fun _ h9 => h9) rfl (by decide +kernel) rfl rfl (Nat.le_of_ble_eq_true rfl) dX6_readDay_32 (fun H locs hP hD hS => ?_)
      replace hP : xP G [iA G (ad 3) 160 tb, oC ko 6 [.ref (ad 0), .ref (ad 1), .int (nI w), .int (nI h), .int (nI la), .ref (ad 2), .int (nI dw), .int (nI dh), .int (nI dl), .int tl, .int tc, .int hc, .int ((mLoo 0 9 (ps, fr, so, vl, ft, wa)).1), .ref (ad 3), .int (nI tp), .int (nI ps), .int (nI fr), .int (nI so), .int vl, .int (nI ft2_4), .int wa2_4, .ref (ad 4), .ref (ad 5), .ref (ad 6), .ref (ad 7), .ref (ad 8), .ref (ad 9), .ref (ad 10), .int tr]] H := hP
      replace hD : va_D (va_A (w_X6_readDay G ko ad w h la tp dw dh dl tl tc hc hd ps fr so vl ft wa tr tb) ss.heap.size) [iA G (ad 3) 160 tb, oC ko 6 [.ref (ad 0), .ref (ad 1), .int (nI w), .int (nI h), .int (nI la), .ref (ad 2), .int (nI dw), .int (nI dh), .int (nI dl), .int tl, .int tc, .int hc, .int ((mLoo 0 9 (ps, fr, so, vl, ft, wa)).1), .ref (ad 3), .int (nI tp), .int (nI ps), .int (nI fr), .int (nI so), .int vl, .int (nI ft2_4), .int wa2_4, .ref (ad 4), .ref (ad 5), .ref (ad 6), .ref (ad 7), .ref (ad 8), .ref (ad 9), .ref (ad 10), .int tr]] := hD
      refine lv_aload_n hx hb dX6_readDay_35 rfl (lv_at hl 1 rfl) ?_
      refine xw_v (As := []) (rest := []) (wr := []) ⟨hx, hb, hml, hown, hts⟩ (c_X6_nextToken l G H.size ko ad w h la tp dw dh dl tl tc hc ((mLoo 0 9 (ps, fr, so, vl, ft, wa)).1) ps fr so vl ft2_4 wa2_4 tr tb (by first | assumption | omega) (by first | assumption | omega) (by first | assumption | omega) (by first | assumption | omega)) (cwV 0 hts gX6_readDay_X6_nextToken rfl rfl rfl (by decide +kernel) ⟨Nat.le_of_ble_eq_true rfl, Nat.le_of_ble_eq_true rfl⟩) hK hP hD hS hA [1, 0] [] rfl rfl (by decide) (by decide) (by decide) rfl rfl rfl hl.1 rfl (Nat.le_of_ble_eq_true rfl) dX6_readDay_36 ⟨Nat.le_of_ble_eq_true rfl, Nat.le_of_ble_eq_true rfl⟩ (fun u H locs hp36 hP hD hS => ?_)
      obtain ⟨ps2_36, fr2_36, so2_36, vl2_36, ft2_36, wa2_36⟩ := u
      try dsimp only at hp36 hP hD
      have he36 := hp36
      replace hP : xP G [oC ko 6 [.ref (ad 0), .ref (ad 1), .int (nI w), .int (nI h), .int (nI la), .ref (ad 2), .int (nI dw), .int (nI dh), .int (nI dl), .int tl, .int tc, .int hc, .int ((mLoo 0 9 (ps, fr, so, vl, ft, wa)).1), .ref (ad 3), .int (nI tp), .int (nI ps2_36), .int (nI fr2_36), .int (nI so2_36), .int vl2_36, .int (nI ft2_36), .int wa2_36, .ref (ad 4), .ref (ad 5), .ref (ad 6), .ref (ad 7), .ref (ad 8), .ref (ad 9), .ref (ad 10), .int tr], iA G (ad 3) 160 tb] H := hP
      replace hD : va_D (va_A (w_X6_readDay G ko ad w h la tp dw dh dl tl tc hc hd ps fr so vl ft wa tr tb) ss.heap.size) [oC ko 6 [.ref (ad 0), .ref (ad 1), .int (nI w), .int (nI h), .int (nI la), .ref (ad 2), .int (nI dw), .int (nI dh), .int (nI dl), .int tl, .int tc, .int hc, .int ((mLoo 0 9 (ps, fr, so, vl, ft, wa)).1), .ref (ad 3), .int (nI tp), .int (nI ps2_36), .int (nI fr2_36), .int (nI so2_36), .int vl2_36, .int (nI ft2_36), .int wa2_36, .ref (ad 4), .ref (ad 5), .ref (ad 6), .ref (ad 7), .ref (ad 8), .ref (ad 9), .ref (ad 10), .int tr], iA G (ad 3) 160 tb] := hD
      refine lv_iload_n hx hb dX6_readDay_39 rfl (lv_at hl 0 rfl) ?_
      have hP := hP.sub (ws' := [oC ko 6 [.ref (ad 0), .ref (ad 1), .int (nI w), .int (nI h), .int (nI la), .ref (ad 2), .int (nI dw), .int (nI dh), .int (nI dl), .int tl, .int tc, .int hc, .int ((mLoo 0 9 (ps, fr, so, vl, ft, wa)).1), .ref (ad 3), .int (nI tp), .int (nI ps2_36), .int (nI fr2_36), .int (nI so2_36), .int vl2_36, .int (nI ft2_36), .int wa2_36, .ref (ad 4), .ref (ad 5), .ref (ad 6), .ref (ad 7), .ref (ad 8), .ref (ad 9), .ref (ad 10), .int tr], iA G (ad 3) 160 tb]) [0, 1] rfl
      have hD := hD.sub (ws' := [oC ko 6 [.ref (ad 0), .ref (ad 1), .int (nI w), .int (nI h), .int (nI la), .ref (ad 2), .int (nI dw), .int (nI dh), .int (nI dl), .int tl, .int tc, .int hc, .int ((mLoo 0 9 (ps, fr, so, vl, ft, wa)).1), .ref (ad 3), .int (nI tp), .int (nI ps2_36), .int (nI fr2_36), .int (nI so2_36), .int vl2_36, .int (nI ft2_36), .int wa2_36, .ref (ad 4), .ref (ad 5), .ref (ad 6), .ref (ad 7), .ref (ad 8), .ref (ad 9), .ref (ad 10), .int tr], iA G (ad 3) 160 tb]) [0, 1] (by decide) rfl
      refine W.iret (v := (mLoo 0 9 (ps, fr, so, vl, ft, wa)).1) hx hb hr (fun t ht hW => ⟨⟨(mLoo 0 9 (ps, fr, so, vl, ft, wa)).1, (ps2_36, fr2_36, so2_36, vl2_36, ft2_36, wa2_36, ((mLoo 0 9 (ps, fr, so, vl, ft, wa)).1)), rfl, ?_, by rw [ht]; exact hP, hD⟩, hS.F ht⟩) hS.2.2 dX6_readDay_40
      try dsimp only
      have hz : (mLoo 0 9 (ps, fr, so, vl, ft, wa)).2.2.2.2.2.1 = ft2_4 := (by rw [← he4]); refine ⟨rfl, (congrArg (fun a => (_, a)) (he36.trans (congrArg (mTok tb tp) he4))).trans (congrArg (fun a => (a, mTok tb tp (mLoo 0 9 (ps, fr, so, vl, ft, wa)).2)) ?_)⟩; first | exact (if_neg (fun q => b13 (hz ▸ q.1))).symm | exact (if_neg (fun q => absurd q.2 (by omega))).symm | exact (if_pos ⟨hz ▸ b13, by omega⟩).symm
end

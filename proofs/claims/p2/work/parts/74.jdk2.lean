abbrev Q_J0_coder_7d493 (G : XG) (ad : XAd) (i : Nat) : Array Value → State → Outcome → State → Prop := (xRi (fun r => r = nI 0))
set_option maxHeartbeats 4000000 in
set_option maxRecDepth 100000 in
theorem c_J0_coder_7d493 (l : Launch) (G : XG) (ad : XAd) (i : Nat) (h5 : i < 5) : Met l yJ0_coder_7d493 wsJ0_coder_7d493 ({ frames := 0, cells := 0, slots := 0, locals := 0 } : Room) (va_Pc [.ref (ad.1 i)] (xZp ad)) (Q_J0_coder_7d493 G ad i) 0 0 (fun _ => False) := by
  refine Met.ofW (cc := cJ0_coder_7d493) (maxL := 1) (ret := (some .byte)) (by decide) rfl ?_
  intro pp ee ss mm aa below mt cd s₁ BB hml hv
  obtain ⟨rfl, hZ⟩ := hv
  have hx := BB.exec
  have hb := BB.bytes
  have hr := BB.returns
  have hts := atoms_spec (ws := wsJ0_coder_7d493) BB.pre
  have hown : ss.vm.findClass RJ0 = some mm.cls := findClass_of_methodNamed BB.named
  have hlocks := BB.notSynchronized
  have hS : va_S (fun _ => False) ss.heap ss.heap [] := va_S.rf
  have hP : xP (G) [] ss.heap := fun k q h => by cases h
  have hl := lv_entry ([.ref (ad.1 i)]) (n := 1) (Nat.le_of_ble_eq_true rfl)
  rw [lg_entry_eq]
  generalize (lg_sl ([.ref (ad.1 i)]) ++ List.replicate (1 - (lg_sl ([.ref (ad.1 i)])).length) Slot.unset).toArray = ls at hl ⊢
  replace hl : lv_has ls 1 [(0, .ref (ad.1 i))] := hl
  refine va_gets hx hb hZ.2.2.1 hS hown (hts (.fieldLink RJ0 38 "java/lang/String" "COMPACT_STRINGS" "Z") (List.mem_of_getElem? (i := 1) rfl)) (fun _ h9 => h9) dJ0_coder_7d493_0 ?_
  refine xn_if_eq (tgt := 13) hx hb (by omega) dJ0_coder_7d493_3 rfl (fun b3 => absurd b3 (by omega)) (fun _ => ?_)
  refine lv_aload_n hx hb dJ0_coder_7d493_6 rfl (lv_at hl 0 rfl) ?_
  refine vk_getf (v := .int (nI 0)) hx hb (hZ.1.1 i (by first | assumption | omega)).2.1 hS hown (hts (.fieldLink RJ0 15 "java/lang/String" "coder" "B") (List.mem_of_getElem? (i := 2) rfl)) (fun _ h9 => h9) dJ0_coder_7d493_7 ?_
  refine lv_goto (tgt := 14) hx hb dJ0_coder_7d493_10 rfl ?_
  refine W.zret (v := nI 0) (ty := .byte) hx hb hr (by decide) (fun t ht hW => ⟨⟨nI 0, (), rfl, ?_, trivial⟩, hS.F ht⟩) hS.2.2 dJ0_coder_7d493_14
  rfl

abbrev Q_J0_isLatin1_aae02 (G : XG) (ad : XAd) (i : Nat) : Array Value → State → Outcome → State → Prop := (xRi (fun r => r = nI 1))
set_option maxHeartbeats 4000000 in
set_option maxRecDepth 100000 in
theorem c_J0_isLatin1_aae02 (l : Launch) (G : XG) (ad : XAd) (i : Nat) (h5 : i < 5) : Met l yJ0_isLatin1_aae02 wsJ0_isLatin1_aae02 ({ frames := 0, cells := 0, slots := 0, locals := 0 } : Room) (va_Pc [.ref (ad.1 i)] (xZp ad)) (Q_J0_isLatin1_aae02 G ad i) 0 0 (fun _ => False) := by
  refine Met.ofW (cc := cJ0_isLatin1_aae02) (maxL := 1) (ret := (some .boolean)) (by decide) rfl ?_
  intro pp ee ss mm aa below mt cd s₁ BB hml hv
  obtain ⟨rfl, hZ⟩ := hv
  have hx := BB.exec
  have hb := BB.bytes
  have hr := BB.returns
  have hts := atoms_spec (ws := wsJ0_isLatin1_aae02) BB.pre
  have hown : ss.vm.findClass RJ0 = some mm.cls := findClass_of_methodNamed BB.named
  have hlocks := BB.notSynchronized
  have hS : va_S (fun _ => False) ss.heap ss.heap [] := va_S.rf
  have hP : xP (G) [] ss.heap := fun k q h => by cases h
  have hl := lv_entry ([.ref (ad.1 i)]) (n := 1) (Nat.le_of_ble_eq_true rfl)
  rw [lg_entry_eq]
  generalize (lg_sl ([.ref (ad.1 i)]) ++ List.replicate (1 - (lg_sl ([.ref (ad.1 i)])).length) Slot.unset).toArray = ls at hl ⊢
  replace hl : lv_has ls 1 [(0, .ref (ad.1 i))] := hl
  refine va_gets hx hb hZ.2.2.1 hS hown (hts (.fieldLink RJ0 38 "java/lang/String" "COMPACT_STRINGS" "Z") (List.mem_of_getElem? (i := 1) rfl)) (fun _ h9 => h9) dJ0_isLatin1_aae02_0 ?_
  refine xn_if_eq (tgt := 17) hx hb (by omega) dJ0_isLatin1_aae02_3 rfl (fun b3 => absurd b3 (by omega)) (fun _ => ?_)
  refine lv_aload_n hx hb dJ0_isLatin1_aae02_6 rfl (lv_at hl 0 rfl) ?_
  refine vk_getf (v := .int (nI 0)) hx hb (hZ.1.1 i (by first | assumption | omega)).2.1 hS hown (hts (.fieldLink RJ0 15 "java/lang/String" "coder" "B") (List.mem_of_getElem? (i := 2) rfl)) (fun _ h9 => h9) dJ0_isLatin1_aae02_7 ?_
  refine xn_if_ne (tgt := 17) hx hb (by omega) dJ0_isLatin1_aae02_10 rfl (fun b10 => absurd b10 (by omega)) (fun _ => ?_)
  refine lv_iconst (v := nI 1) hx hb dJ0_isLatin1_aae02_13 (by decide) ?_
  refine lv_goto (tgt := 18) hx hb dJ0_isLatin1_aae02_14 rfl ?_
  refine W.zret (v := nI 1) (ty := .boolean) hx hb hr (by decide) (fun t ht hW => ⟨⟨nI 1, (), rfl, ?_, trivial⟩, hS.F ht⟩) hS.2.2 dJ0_isLatin1_aae02_18
  rfl

abbrev Q_J0_length_8abf5 (G : XG) (ad : XAd) (i : Nat) : Array Value → State → Outcome → State → Prop := (xRi (fun r => r = nI (sLen.getD i 0)))
set_option maxHeartbeats 4000000 in
set_option maxRecDepth 100000 in
theorem c_J0_length_8abf5 (l : Launch) (G : XG) (ad : XAd) (i : Nat) (h5 : i < 5) : Met l yJ0_length_8abf5 wsJ0_length_8abf5 ({ frames := 1, cells := 0, slots := 0, locals := 20 } : Room) (va_Pc [.ref (ad.1 i)] (xZp ad)) (Q_J0_length_8abf5 G ad i) 0 0 (fun _ => False) := by
  refine Met.ofW (cc := cJ0_length_8abf5) (maxL := 1) (ret := (some .int)) (by decide) rfl ?_
  intro pp ee ss mm aa below mt cd s₁ BB hml hv
  obtain ⟨rfl, hZ⟩ := hv
  have hx := BB.exec
  have hb := BB.bytes
  have hr := BB.returns
  have hts := atoms_spec (ws := wsJ0_length_8abf5) BB.pre
  have hown : ss.vm.findClass RJ0 = some mm.cls := findClass_of_methodNamed BB.named
  have hlocks := BB.notSynchronized
  have hS : va_S (fun _ => False) ss.heap ss.heap [] := va_S.rf
  have hP : xP (G) [] ss.heap := fun k q h => by cases h
  have hl := lv_entry ([.ref (ad.1 i)]) (n := 1) (Nat.le_of_ble_eq_true rfl)
  rw [lg_entry_eq]
  generalize (lg_sl ([.ref (ad.1 i)]) ++ List.replicate (1 - (lg_sl ([.ref (ad.1 i)])).length) Slot.unset).toArray = ls at hl ⊢
  replace hl : lv_has ls 1 [(0, .ref (ad.1 i))] := hl
  refine lv_aload_n hx hb dJ0_length_8abf5_0 rfl (lv_at hl 0 rfl) ?_
  refine vk_getf (v := .ref (ad.2 i)) hx hb (hZ.1.1 i (by first | assumption | omega)).2.2.1 hS hown (hts (.fieldLink RJ0 9 "java/lang/String" "value" "[B") (List.mem_of_getElem? (i := 1) rfl)) (fun _ h9 => h9) dJ0_length_8abf5_1 ?_
  refine va_tlen (v := nI (sLen.getD i 0)) hx hb (hZ.1.1 i (by first | assumption | omega)).2.2.2 hS rfl dJ0_length_8abf5_4 ?_
  refine lv_aload_n hx hb dJ0_length_8abf5_5 rfl (lv_at hl 0 rfl) ?_
  refine xz_i (As := []) (rest := [.int (nI (sLen.getD i 0))]) (ad := ad) ⟨hx, hb, hml, hown, hts⟩ (c_J0_coder_7d493 l G ad i (by first | assumption | omega)) (cwV 0 hts gJ0_length_8abf5_J0_coder_7d493 rfl rfl rfl (by decide +kernel) ⟨Nat.le_of_ble_eq_true rfl, Nat.le_of_ble_eq_true rfl⟩) hZ (by first | assumption | omega) hP hS rfl hl.1 rfl (Nat.le_of_ble_eq_true rfl) dJ0_length_8abf5_6 ⟨Nat.zero_le _, Nat.zero_le _⟩ (fun r6 H locs hp6 hP hS => ?_)
  rw [show r6 = _ from hp6]
  refine lv_ishr hx hb dJ0_length_8abf5_9 ?_
  refine W.iret (v := (nI (sLen.getD i 0)) >>> ((nI 0) &&& 31)) hx hb hr (fun t ht hW => ⟨⟨(nI (sLen.getD i 0)) >>> ((nI 0) &&& 31), (), rfl, ?_, trivial⟩, hS.F ht⟩) hS.2.2 dJ0_length_8abf5_10
  exact (sLen_le i h5).2

abbrev Q_J3_checkIndex_8e157 (G : XG) (k n : Nat) (z : Nat) : Array Value → State → Outcome → State → Prop := (xRi (fun r => r = nI k))
set_option maxHeartbeats 4000000 in
set_option maxRecDepth 100000 in
theorem c_J3_checkIndex_8e157 (l : Launch) (G : XG) (k n : Nat) (z : Nat) (hkn : k < n) (hn : n ≤ 5) : Met l yJ3_checkIndex_8e157 wsJ3_checkIndex_8e157 ({ frames := 0, cells := 0, slots := 0, locals := 0 } : Room) (va_Pc [.int (nI k), .int (nI n), .ref z] (fun _ => True)) (Q_J3_checkIndex_8e157 G k n z) 0 0 (fun _ => False) := by
  refine Met.ofW (cc := cJ3_checkIndex_8e157) (maxL := 3) (ret := (some .int)) (by decide) rfl ?_
  intro pp ee ss mm aa below mt cd s₁ BB hml hv
  obtain ⟨rfl, -⟩ := hv
  have hx := BB.exec
  have hb := BB.bytes
  have hr := BB.returns
  have hts := atoms_spec (ws := wsJ3_checkIndex_8e157) BB.pre
  have hown : ss.vm.findClass RJ3 = some mm.cls := findClass_of_methodNamed BB.named
  have hlocks := BB.notSynchronized
  have hS : va_S (fun _ => False) ss.heap ss.heap [] := va_S.rf
  have hP : xP (G) [] ss.heap := fun k q h => by cases h
  have hl := lv_entry ([.int (nI k), .int (nI n), .ref z]) (n := 3) (Nat.le_of_ble_eq_true rfl)
  rw [lg_entry_eq]
  generalize (lg_sl ([.int (nI k), .int (nI n), .ref z]) ++ List.replicate (3 - (lg_sl ([.int (nI k), .int (nI n), .ref z])).length) Slot.unset).toArray = ls at hl ⊢
  replace hl : lv_has ls 3 [(0, .int (nI k)), (1, .int (nI n)), (2, .ref z)] := hl
  refine lv_iload_n hx hb dJ3_checkIndex_8e157_0 rfl (lv_at hl 0 rfl) ?_
  refine xn_if_lt (tgt := 9) hx hb (by omega) dJ3_checkIndex_8e157_1 rfl (fun b1 => absurd b1 (by omega)) (fun _ => ?_)
  refine lv_iload_n hx hb dJ3_checkIndex_8e157_4 rfl (lv_at hl 0 rfl) ?_
  refine lv_iload_n hx hb dJ3_checkIndex_8e157_5 rfl (lv_at hl 1 rfl) ?_
  refine xn_icmp_lt (tgt := 16) hx hb (by omega) (by omega) dJ3_checkIndex_8e157_6 rfl (fun _ => ?_) (fun b6 => absurd b6 (by omega))
  refine lv_iload_n hx hb dJ3_checkIndex_8e157_16 rfl (lv_at hl 0 rfl) ?_
  refine W.iret (v := nI k) hx hb hr (fun t ht hW => ⟨⟨nI k, (), rfl, ?_, trivial⟩, hS.F ht⟩) hS.2.2 dJ3_checkIndex_8e157_17
  rfl

abbrev Q_J3_checkIndex_8e157_0 (G : XG) (k n : Nat) : Array Value → State → Outcome → State → Prop := (xRi (fun r => r = nI k))
set_option maxHeartbeats 4000000 in
set_option maxRecDepth 100000 in
theorem c_J3_checkIndex_8e157_0 (l : Launch) (G : XG) (k n : Nat) (hkn : k < n) (hn : n ≤ 5) : Met l yJ3_checkIndex_8e157 wsJ3_checkIndex_8e157 ({ frames := 0, cells := 0, slots := 0, locals := 0 } : Room) (va_Pc [.int (nI k), .int (nI n), .null] (fun _ => True)) (Q_J3_checkIndex_8e157_0 G k n) 0 0 (fun _ => False) := by
  refine Met.ofW (cc := cJ3_checkIndex_8e157) (maxL := 3) (ret := (some .int)) (by decide) rfl ?_
  intro pp ee ss mm aa below mt cd s₁ BB hml hv
  obtain ⟨rfl, -⟩ := hv
  have hx := BB.exec
  have hb := BB.bytes
  have hr := BB.returns
  have hts := atoms_spec (ws := wsJ3_checkIndex_8e157) BB.pre
  have hown : ss.vm.findClass RJ3 = some mm.cls := findClass_of_methodNamed BB.named
  have hlocks := BB.notSynchronized
  have hS : va_S (fun _ => False) ss.heap ss.heap [] := va_S.rf
  have hP : xP (G) [] ss.heap := fun k q h => by cases h
  have hl := lv_entry ([.int (nI k), .int (nI n), .null]) (n := 3) (Nat.le_of_ble_eq_true rfl)
  rw [lg_entry_eq]
  generalize (lg_sl ([.int (nI k), .int (nI n), .null]) ++ List.replicate (3 - (lg_sl ([.int (nI k), .int (nI n), .null])).length) Slot.unset).toArray = ls at hl ⊢
  replace hl : lv_has ls 3 [(0, .int (nI k)), (1, .int (nI n)), (2, .null)] := hl
  refine lv_iload_n hx hb dJ3_checkIndex_8e157_0 rfl (lv_at hl 0 rfl) ?_
  refine xn_if_lt (tgt := 9) hx hb (by omega) dJ3_checkIndex_8e157_1 rfl (fun b1 => absurd b1 (by omega)) (fun _ => ?_)
  refine lv_iload_n hx hb dJ3_checkIndex_8e157_4 rfl (lv_at hl 0 rfl) ?_
  refine lv_iload_n hx hb dJ3_checkIndex_8e157_5 rfl (lv_at hl 1 rfl) ?_
  refine xn_icmp_lt (tgt := 16) hx hb (by omega) (by omega) dJ3_checkIndex_8e157_6 rfl (fun _ => ?_) (fun b6 => absurd b6 (by omega))
  refine lv_iload_n hx hb dJ3_checkIndex_8e157_16 rfl (lv_at hl 0 rfl) ?_
  refine W.iret (v := nI k) hx hb hr (fun t ht hW => ⟨⟨nI k, (), rfl, ?_, trivial⟩, hS.F ht⟩) hS.2.2 dJ3_checkIndex_8e157_17
  rfl

set_option maxHeartbeats 4000000 in
set_option maxRecDepth 100000 in
theorem c_J0_checkIndex_df160 (l : Launch) (G : XG) (ad : XAd) (k n : Nat) (hkn : k < n) (hn : n ≤ 5) : Met l yJ0_checkIndex_df160 wsJ0_checkIndex_df160 ({ frames := 1, cells := 0, slots := 0, locals := 22 } : Room) (va_Pc [.int (nI k), .int (nI n)] (xZp ad)) (va_Qv (fun (_ : Unit) => True) (fun _ _ => True) (fun _ => False)) 0 0 (fun _ => False) := by
  refine Met.ofW (cc := cJ0_checkIndex_df160) (maxL := 2) (ret := none) (by decide) rfl ?_
  intro pp ee ss mm aa below mt cd s₁ BB hml hv
  obtain ⟨rfl, hZ⟩ := hv
  have hx := BB.exec
  have hb := BB.bytes
  have hr := BB.returns
  have hts := atoms_spec (ws := wsJ0_checkIndex_df160) BB.pre
  have hown : ss.vm.findClass RJ0 = some mm.cls := findClass_of_methodNamed BB.named
  have hlocks := BB.notSynchronized
  have hS : va_S (fun _ => False) ss.heap ss.heap [] := va_S.rf
  have hP : xP (G) [] ss.heap := fun k q h => by cases h
  have hl := lv_entry ([.int (nI k), .int (nI n)]) (n := 2) (Nat.le_of_ble_eq_true rfl)
  rw [lg_entry_eq]
  generalize (lg_sl ([.int (nI k), .int (nI n)]) ++ List.replicate (2 - (lg_sl ([.int (nI k), .int (nI n)])).length) Slot.unset).toArray = ls at hl ⊢
  replace hl : lv_has ls 2 [(0, .int (nI k)), (1, .int (nI n))] := hl
  refine lv_iload_n hx hb dJ0_checkIndex_df160_0 rfl (lv_at hl 0 rfl) ?_
  refine lv_iload_n hx hb dJ0_checkIndex_df160_1 rfl (lv_at hl 1 rfl) ?_
  rcases hZ.2.2.2 with hZ3 | ⟨tz, hZ3⟩
  · refine va_gets hx hb hZ3 hS hown (hts (.fieldLink RJ0 1053 "jdk/internal/util/Preconditions" "SIOOBE_FORMATTER" "Ljava/util/function/BiFunction;") (List.mem_of_getElem? (i := 1) rfl)) (fun _ h9 => h9) dJ0_checkIndex_df160_2 ?_
    refine xs_i (As := [.int (nI k), .int (nI n), .null]) (rest := []) ⟨hx, hb, hml, hown, hts⟩ (c_J3_checkIndex_8e157_0 l G k n hkn hn) (va_cwS 3 hts gJ0_checkIndex_df160_J3_checkIndex_8e157 rfl rfl rfl (by decide +kernel) ⟨Nat.le_of_ble_eq_true rfl, Nat.le_of_ble_eq_true rfl⟩) hP hS rfl hl.1 rfl (Nat.le_of_ble_eq_true rfl) dJ0_checkIndex_df160_5 ⟨Nat.zero_le _, Nat.zero_le _⟩ (fun r5 H locs hp5 hP hS => ?_)
    refine lv_pop hx hb dJ0_checkIndex_df160_8 rfl ?_
    exact W.vret hx hb hr (fun t ht hW => ⟨⟨(), rfl, trivial, trivial⟩, hS.F ht⟩) hS.2.2 dJ0_checkIndex_df160_9
  · refine va_gets hx hb hZ3 hS hown (hts (.fieldLink RJ0 1053 "jdk/internal/util/Preconditions" "SIOOBE_FORMATTER" "Ljava/util/function/BiFunction;") (List.mem_of_getElem? (i := 1) rfl)) (fun _ h9 => h9) dJ0_checkIndex_df160_2 ?_
    refine xs_i (As := [.int (nI k), .int (nI n), .ref tz]) (rest := []) ⟨hx, hb, hml, hown, hts⟩ (c_J3_checkIndex_8e157 l G k n tz hkn hn) (va_cwS 3 hts gJ0_checkIndex_df160_J3_checkIndex_8e157 rfl rfl rfl (by decide +kernel) ⟨Nat.le_of_ble_eq_true rfl, Nat.le_of_ble_eq_true rfl⟩) hP hS rfl hl.1 rfl (Nat.le_of_ble_eq_true rfl) dJ0_checkIndex_df160_5 ⟨Nat.zero_le _, Nat.zero_le _⟩ (fun r5 H locs hp5 hP hS => ?_)
    refine lv_pop hx hb dJ0_checkIndex_df160_8 rfl ?_
    exact W.vret hx hb hr (fun t ht hW => ⟨⟨(), rfl, trivial, trivial⟩, hS.F ht⟩) hS.2.2 dJ0_checkIndex_df160_9

abbrev Q_J1_charAt_3b067 (G : XG) (ad : XAd) (i : Nat) (k : Nat) : Array Value → State → Outcome → State → Prop := (xRi (fun r => r = sC i k))
set_option maxHeartbeats 4000000 in
set_option maxRecDepth 100000 in
theorem c_J1_charAt_3b067 (l : Launch) (G : XG) (ad : XAd) (i : Nat) (k : Nat) (h5 : i < 5) (hk : k < sLen.getD i 0) : Met l yJ1_charAt_3b067 wsJ1_charAt_3b067 ({ frames := 2, cells := 0, slots := 0, locals := 43 } : Room) (va_Pc [.ref (ad.2 i), .int (nI k)] (xZp ad)) (Q_J1_charAt_3b067 G ad i k) 0 0 (fun _ => False) := by
  refine Met.ofW (cc := cJ1_charAt_3b067) (maxL := 2) (ret := (some .char)) (by decide) rfl ?_
  intro pp ee ss mm aa below mt cd s₁ BB hml hv
  obtain ⟨rfl, hZ⟩ := hv
  have hx := BB.exec
  have hb := BB.bytes
  have hr := BB.returns
  have hts := atoms_spec (ws := wsJ1_charAt_3b067) BB.pre
  have hown : ss.vm.findClass RJ1 = some mm.cls := findClass_of_methodNamed BB.named
  have hlocks := BB.notSynchronized
  have hS : va_S (fun _ => False) ss.heap ss.heap [] := va_S.rf
  have hP : xP (G) [] ss.heap := fun k q h => by cases h
  have hl := lv_entry ([.ref (ad.2 i), .int (nI k)]) (n := 2) (Nat.le_of_ble_eq_true rfl)
  rw [lg_entry_eq]
  generalize (lg_sl ([.ref (ad.2 i), .int (nI k)]) ++ List.replicate (2 - (lg_sl ([.ref (ad.2 i), .int (nI k)])).length) Slot.unset).toArray = ls at hl ⊢
  replace hl : lv_has ls 2 [(0, .ref (ad.2 i)), (1, .int (nI k))] := hl
  have hq5 := sLen_le i h5
  refine lv_iload_n hx hb dJ1_charAt_3b067_0 rfl (lv_at hl 1 rfl) ?_
  refine lv_aload_n hx hb dJ1_charAt_3b067_1 rfl (lv_at hl 0 rfl) ?_
  refine va_tlen (v := nI (sLen.getD i 0)) hx hb (hZ.1.1 i (by first | assumption | omega)).2.2.2 hS rfl dJ1_charAt_3b067_2 ?_
  refine xzs_v (As := [.int (nI k), .int (nI (sLen.getD i 0))]) (rest := []) (ad := ad) ⟨hx, hb, hml, hown, hts⟩ (c_J0_checkIndex_df160 l G ad k (sLen.getD i 0) (by first | assumption | omega) (by first | assumption | omega)) (va_cwS 2 hts gJ1_charAt_3b067_J0_checkIndex_df160 rfl rfl rfl (by decide +kernel) ⟨Nat.le_of_ble_eq_true rfl, Nat.le_of_ble_eq_true rfl⟩) hZ hP hS rfl hl.1 rfl (Nat.le_of_ble_eq_true rfl) dJ1_charAt_3b067_3 ⟨Nat.zero_le _, Nat.zero_le _⟩ (fun H locs hP hS => ?_)
  refine lv_aload_n hx hb dJ1_charAt_3b067_6 rfl (lv_at hl 0 rfl) ?_
  refine lv_iload_n hx hb dJ1_charAt_3b067_7 rfl (lv_at hl 1 rfl) ?_
  refine va_tb (v := .int (sC i k)) hx hb (hZ.1.1 i (by first | assumption | omega)).2.2.2 hS (vp_in_nI (by omega) (by omega)) (by rw [nI_clamp (by omega)]; rfl) dJ1_charAt_3b067_8 ?_
  refine lv_sipush (v := nI 255) hx hb dJ1_charAt_3b067_9 (by decide) ?_
  refine lv_iand hx hb dJ1_charAt_3b067_12 ?_
  refine lv_i2c (v := sC i k) hx hb dJ1_charAt_3b067_13 (by exact (sC_nar i h5 k (by omega)).1) ?_
  refine W.zret (v := sC i k) (ty := .char) hx hb hr (by exact (sC_nar i h5 k (by omega)).2) (fun t ht hW => ⟨⟨sC i k, (), rfl, ?_, trivial⟩, hS.F ht⟩) hS.2.2 dJ1_charAt_3b067_14
  rfl

abbrev Q_J0_charAt_5068e (G : XG) (ad : XAd) (i : Nat) (k : Nat) : Array Value → State → Outcome → State → Prop := (xRi (fun r => r = sC i k))
set_option maxHeartbeats 4000000 in
set_option maxRecDepth 100000 in
theorem c_J0_charAt_5068e (l : Launch) (G : XG) (ad : XAd) (i : Nat) (k : Nat) (h5 : i < 5) (hk : k < sLen.getD i 0) : Met l yJ0_charAt_5068e wsJ0_charAt_5068e ({ frames := 3, cells := 0, slots := 0, locals := 64 } : Room) (va_Pc [.ref (ad.1 i), .int (nI k)] (xZp ad)) (Q_J0_charAt_5068e G ad i k) 0 0 (fun _ => False) := by
  refine Met.ofW (cc := cJ0_charAt_5068e) (maxL := 2) (ret := (some .char)) (by decide) rfl ?_
  intro pp ee ss mm aa below mt cd s₁ BB hml hv
  obtain ⟨rfl, hZ⟩ := hv
  have hx := BB.exec
  have hb := BB.bytes
  have hr := BB.returns
  have hts := atoms_spec (ws := wsJ0_charAt_5068e) BB.pre
  have hown : ss.vm.findClass RJ0 = some mm.cls := findClass_of_methodNamed BB.named
  have hlocks := BB.notSynchronized
  have hS : va_S (fun _ => False) ss.heap ss.heap [] := va_S.rf
  have hP : xP (G) [] ss.heap := fun k q h => by cases h
  have hl := lv_entry ([.ref (ad.1 i), .int (nI k)]) (n := 2) (Nat.le_of_ble_eq_true rfl)
  rw [lg_entry_eq]
  generalize (lg_sl ([.ref (ad.1 i), .int (nI k)]) ++ List.replicate (2 - (lg_sl ([.ref (ad.1 i), .int (nI k)])).length) Slot.unset).toArray = ls at hl ⊢
  replace hl : lv_has ls 2 [(0, .ref (ad.1 i)), (1, .int (nI k))] := hl
  have hq5 := sLen_le i h5
  refine lv_aload_n hx hb dJ0_charAt_5068e_0 rfl (lv_at hl 0 rfl) ?_
  refine xz_i (As := []) (rest := []) (ad := ad) ⟨hx, hb, hml, hown, hts⟩ (c_J0_isLatin1_aae02 l G ad i (by first | assumption | omega)) (cwV 0 hts gJ0_charAt_5068e_J0_isLatin1_aae02 rfl rfl rfl (by decide +kernel) ⟨Nat.le_of_ble_eq_true rfl, Nat.le_of_ble_eq_true rfl⟩) hZ (by first | assumption | omega) hP hS rfl hl.1 rfl (Nat.le_of_ble_eq_true rfl) dJ0_charAt_5068e_1 ⟨Nat.zero_le _, Nat.zero_le _⟩ (fun r1 H locs hp1 hP hS => ?_)
  rw [show r1 = _ from hp1]
  refine xn_if_eq (tgt := 16) hx hb (by omega) dJ0_charAt_5068e_4 rfl (fun b4 => absurd b4 (by omega)) (fun _ => ?_)
  refine lv_aload_n hx hb dJ0_charAt_5068e_7 rfl (lv_at hl 0 rfl) ?_
  refine vk_getf (v := .ref (ad.2 i)) hx hb (hZ.1.1 i (by first | assumption | omega)).2.2.1 hS hown (hts (.fieldLink RJ0 9 "java/lang/String" "value" "[B") (List.mem_of_getElem? (i := 1) rfl)) (fun _ h9 => h9) dJ0_charAt_5068e_8 ?_
  refine lv_iload_n hx hb dJ0_charAt_5068e_11 rfl (lv_at hl 1 rfl) ?_
  refine xzs_i (As := [.ref (ad.2 i), .int (nI k)]) (rest := []) (ad := ad) ⟨hx, hb, hml, hown, hts⟩ (c_J1_charAt_3b067 l G ad i k (by first | assumption | omega) (by first | assumption | omega)) (va_cwS 2 hts gJ0_charAt_5068e_J1_charAt_3b067 rfl rfl rfl (by decide +kernel) ⟨Nat.le_of_ble_eq_true rfl, Nat.le_of_ble_eq_true rfl⟩) hZ hP hS rfl hl.1 rfl (Nat.le_of_ble_eq_true rfl) dJ0_charAt_5068e_12 ⟨Nat.zero_le _, Nat.zero_le _⟩ (fun r12 H locs hp12 hP hS => ?_)
  rw [show r12 = _ from hp12]
  refine W.zret (v := sC i k) (ty := .char) hx hb hr (by exact (sC_nar i h5 k (by omega)).2) (fun t ht hW => ⟨⟨sC i k, (), rfl, ?_, trivial⟩, hS.F ht⟩) hS.2.2 dJ0_charAt_5068e_15
  rfl

abbrev w_X1_isName (G : XG) (kre kbt kby : Nat) (rl nx kd sr : Nat) (vl fo pl li hto lto ct : Int32) (tb : Nat → Int32) : va_W := [oC kre 1 [.ref kbt, .ref kby, .int (nI rl), .int (nI nx), .int (nI kd), .int (nI sr), .int vl, .int fo, .int pl, .int li, .int hto, .int lto, .int ct], bA G kby 160 tb]
abbrev Q_X1_isName (G : XG) (ad : XAd) (kre kbt kby : Nat) (rl nx kd sr : Nat) (vl fo pl li hto lto ct : Int32) (i : Nat) (tb : Nat → Int32) : Array Value → State → Outcome → State → Prop := (xRi (fun r => r = xb (nmP tb nx sr i)))
set_option maxHeartbeats 4000000 in
set_option maxRecDepth 100000 in
theorem c_X1_isName (l : Launch) (G : XG) (ad : XAd) (kre kbt kby : Nat) (rl nx kd sr : Nat) (vl fo pl li hto lto ct : Int32) (i : Nat) (tb : Nat → Int32) (h5 : i < 5) (hrl : rl ≤ 160) (hnx : nx ≤ rl) (hsr : sr ≤ nx) : Met l yX1_isName wsX1_isName ({ frames := 4, cells := 0, slots := 0, locals := 85 } : Room) (va_Pc [.ref kre, .ref (ad.1 i)] (xZRp G ad (w_X1_isName G kre kbt kby rl nx kd sr vl fo pl li hto lto ct tb))) (Q_X1_isName G ad kre kbt kby rl nx kd sr vl fo pl li hto lto ct i tb) 0 0 (fun _ => False) := by
  refine Met.ofW (cc := cX1_isName) (maxL := 3) (ret := (some .boolean)) (by decide) rfl ?_
  intro pp ee ss mm aa below mt cd s₁ BB hml hv
  obtain ⟨rfl, ⟨hP, hK⟩, hZ⟩ := hv
  have hx := BB.exec
  have hb := BB.bytes
  have hr := BB.returns
  have hts := atoms_spec (ws := wsX1_isName) BB.pre
  have hown : ss.vm.findClass RX1 = some mm.cls := findClass_of_methodNamed BB.named
  have hlocks := BB.notSynchronized
  have hS : va_S (fun _ => False) ss.heap ss.heap [] := va_S.rf
  replace hP : xP G [oC kre 1 [.ref kbt, .ref kby, .int (nI rl), .int (nI nx), .int (nI kd), .int (nI sr), .int vl, .int fo, .int pl, .int li, .int hto, .int lto, .int ct], bA G kby 160 tb] ss.heap := hP
  have hin1 : ∀ w ∈ u_ws RX1 TX1 13, w ∈ wsX1_isName := fun w h => List.mem_cons_of_mem _ (List.mem_append_right _ h)
  have hl := lv_entry ([.ref kre, .ref (ad.1 i)]) (n := 3) (Nat.le_of_ble_eq_true rfl)
  rw [lg_entry_eq]
  generalize (lg_sl ([.ref kre, .ref (ad.1 i)]) ++ List.replicate (3 - (lg_sl ([.ref kre, .ref (ad.1 i)])).length) Slot.unset).toArray = ls at hl ⊢
  replace hl : lv_has ls 3 [(0, .ref kre), (1, .ref (ad.1 i))] := hl
  have hq5 := sLen_le i h5
  refine lv_aload_n hx hb dX1_isName_0 rfl (lv_at hl 0 rfl) ?_
  refine va_get (D := G.1) (ci := 1) (v := .int (nI nx)) (C := RX1) (T := TX1) (N := 13) hx hb hts hin1 hown hK.1 hP 0 rfl rfl 3 (by decide) (hts (.fieldLink RX1 26 "BackLenses$Reader" "next" "I") (List.mem_of_getElem? (i := 1) rfl)) (fun _ h9 => h9) rfl dX1_isName_1 ?_
  refine lv_aload_n hx hb dX1_isName_4 rfl (lv_at hl 0 rfl) ?_
  refine va_get (D := G.1) (ci := 1) (v := .int (nI sr)) (C := RX1) (T := TX1) (N := 13) hx hb hts hin1 hown hK.1 hP 0 rfl rfl 5 (by decide) (hts (.fieldLink RX1 95 "BackLenses$Reader" "start" "I") (List.mem_of_getElem? (i := 2) rfl)) (fun _ h9 => h9) rfl dX1_isName_5 ?_
  refine xn_isub hx hb (by omega) dX1_isName_8 ?_
  refine lv_aload_n hx hb dX1_isName_9 rfl (lv_at hl 1 rfl) ?_
  refine xz_i (As := []) (rest := [.int (nI (nx - sr))]) (ad := ad) ⟨hx, hb, hml, hown, hts⟩ (c_J0_length_8abf5 l G ad i (by first | assumption | omega)) (cwV 0 hts gX1_isName_J0_length_8abf5 rfl rfl rfl (by decide +kernel) ⟨Nat.le_of_ble_eq_true rfl, Nat.le_of_ble_eq_true rfl⟩) hZ (by first | assumption | omega) hP hS rfl hl.1 rfl (Nat.le_of_ble_eq_true rfl) dX1_isName_10 ⟨Nat.zero_le _, Nat.zero_le _⟩ (fun r10 H locs hp10 hP hS => ?_)
  rw [show r10 = _ from hp10]
  refine xn_icmp_eq (tgt := 18) hx hb (by omega) (by omega) dX1_isName_13 rfl (fun b13 => ?_) (fun b13 => ?_)
  · skip
    refine lv_iconst (v := nI 0) hx hb dX1_isName_18 (by decide) ?_
    refine lv_istore_n (lv' := [(2, .int (nI 0)), (0, .ref kre), (1, .ref (ad.1 i))]) hx hb dX1_isName_19 rfl hl (by decide) rfl (fun ls hl => ?_)
    have hL20 : ∀ k : Nat, ∀ (jc : Nat) (ls : Array Slot) (H : Heap) (locs : List Loc), sLen.getD i 0 - jc = k → (jc ≤ sLen.getD i 0) → (∀ j, j < jc → tb (sr + j) = sC i j) → lv_has ls 3 [(0, .ref kre), (1, .ref (ad.1 i)), (2, .int (nI jc))] → xP G [bA G kby 160 tb, oC kre 1 [.ref kbt, .ref kby, .int (nI rl), .int (nI nx), .int (nI kd), .int (nI sr), .int vl, .int fo, .int pl, .int li, .int hto, .int lto, .int ct]] H → va_S (fun _ => False) ss.heap H locs → W pp l ee ({ frames := 4, cells := 0, slots := 0, locals := 85 } : Room) ss mm ([.ref kre, .ref (ad.1 i)] : List Value).toArray below mt cd H locs 0 0 (MQ below (Q_X1_isName G ad kre kbt kby rl nx kd sr vl fo pl li hto lto ct i tb) ([.ref kre, .ref (ad.1 i)] : List Value).toArray ss 0 0 (fun _ => False)) (F0 mm 20 ls []) := by
      intro k
      induction k using Nat.strongRecOn with
      | _ k ih20 =>
      intro jc ls H locs hm20 hkk hT hl hP hS
      refine lv_iload_n hx hb dX1_isName_20 rfl (lv_at hl 2 rfl) ?_
      refine lv_aload_n hx hb dX1_isName_21 rfl (lv_at hl 1 rfl) ?_
      refine xz_i (As := []) (rest := [.int (nI jc)]) (ad := ad) ⟨hx, hb, hml, hown, hts⟩ (c_J0_length_8abf5 l G ad i (by first | assumption | omega)) (cwV 0 hts gX1_isName_J0_length_8abf5 rfl rfl rfl (by decide +kernel) ⟨Nat.le_of_ble_eq_true rfl, Nat.le_of_ble_eq_true rfl⟩) hZ (by first | assumption | omega) hP hS rfl hl.1 rfl (Nat.le_of_ble_eq_true rfl) dX1_isName_22 ⟨Nat.zero_le _, Nat.zero_le _⟩ (fun r22 H locs hp22 hP hS => ?_)
      rw [show r22 = _ from hp22]
      refine xn_icmp_ge (tgt := 55) hx hb (by omega) (by omega) dX1_isName_25 rfl (fun b25 => ?_) (fun b25 => ?_)
      · skip
        refine lv_iconst (v := nI 1) hx hb dX1_isName_55 (by decide) ?_
        refine W.zret (v := nI 1) (ty := .boolean) hx hb hr (by decide) (fun t ht hW => ⟨⟨nI 1, (), rfl, ?_, trivial⟩, hS.F ht⟩) hS.2.2 dX1_isName_56
        exact (xb_t ⟨b13, fun j hj => hT j (by omega)⟩).symm
      · skip
        refine lv_aload_n hx hb dX1_isName_28 rfl (lv_at hl 0 rfl) ?_
        refine va_get (D := G.1) (ci := 1) (v := .ref kby) (C := RX1) (T := TX1) (N := 13) hx hb hts hin1 hown hK.1 hP 1 rfl rfl 1 (by decide) (hts (.fieldLink RX1 18 "BackLenses$Reader" "bytes" "[B") (List.mem_of_getElem? (i := 3) rfl)) (fun _ h9 => h9) rfl dX1_isName_29 ?_
        refine lv_aload_n hx hb dX1_isName_32 rfl (lv_at hl 0 rfl) ?_
        refine va_get (D := G.1) (ci := 1) (v := .int (nI sr)) (C := RX1) (T := TX1) (N := 13) hx hb hts hin1 hown hK.1 hP 1 rfl rfl 5 (by decide) (hts (.fieldLink RX1 95 "BackLenses$Reader" "start" "I") (List.mem_of_getElem? (i := 2) rfl)) (fun _ h9 => h9) rfl dX1_isName_33 ?_
        refine lv_iload_n hx hb dX1_isName_36 rfl (lv_at hl 2 rfl) ?_
        refine xn_iadd hx hb dX1_isName_37 ?_
        refine xn_bald hx hb hK hP 0 rfl (by omega) (by omega) dX1_isName_38 ?_
        refine lv_aload_n hx hb dX1_isName_39 rfl (lv_at hl 1 rfl) ?_
        refine lv_iload_n hx hb dX1_isName_40 rfl (lv_at hl 2 rfl) ?_
        refine xz_i (As := [.int (nI jc)]) (rest := [.int (tb (sr + jc))]) (ad := ad) ⟨hx, hb, hml, hown, hts⟩ (c_J0_charAt_5068e l G ad i jc (by first | assumption | omega) (by first | assumption | omega)) (cwV 1 hts gX1_isName_J0_charAt_5068e rfl rfl rfl (by decide +kernel) ⟨Nat.le_of_ble_eq_true rfl, Nat.le_of_ble_eq_true rfl⟩) hZ (by first | assumption | omega) hP hS rfl hl.1 rfl (Nat.le_of_ble_eq_true rfl) dX1_isName_41 ⟨Nat.zero_le _, Nat.zero_le _⟩ (fun r41 H locs hp41 hP hS => ?_)
        rw [show r41 = _ from hp41]
        refine lv_icmp_eq (tgt := 49) hx hb dX1_isName_44 rfl (fun b44 => ?_) (fun b44 => ?_)
        · skip
          refine lv_iinc (k := 2) (v := nI (jc + 1)) (lv' := [(2, .int (nI (jc + 1))), (0, .ref kre), (1, .ref (ad.1 i))]) hx hb dX1_isName_49 hl rfl (xn_inc jc 1) (by decide) rfl (fun ls hl => ?_)
          refine lv_goto (tgt := 20) hx hb dX1_isName_52 rfl ?_
          have hl := lv_sub hl (l' := [(0, .ref kre), (1, .ref (ad.1 i)), (2, .int (nI (jc + 1)))]) [1, 2, 0] rfl
          exact ih20 (sLen.getD i 0 - (jc + 1)) (by omega) (jc + 1) ls H locs rfl (by omega) (by intro j hj; by_cases hq : j = jc; (rw [hq]; exact b44); exact hT j (by omega)) hl hP hS
        · skip
          refine lv_iconst (v := nI 0) hx hb dX1_isName_47 (by decide) ?_
          refine W.zret (v := nI 0) (ty := .boolean) hx hb hr (by decide) (fun t ht hW => ⟨⟨nI 0, (), rfl, ?_, trivial⟩, hS.F ht⟩) hS.2.2 dX1_isName_48
          exact (xb_f (fun q => b44 (q.2 jc (by omega)))).symm
    have hl := lv_sub hl (l' := [(0, .ref kre), (1, .ref (ad.1 i)), (2, .int (nI 0))]) [1, 2, 0] rfl
    have hP := hP.sub (ws' := [bA G kby 160 tb, oC kre 1 [.ref kbt, .ref kby, .int (nI rl), .int (nI nx), .int (nI kd), .int (nI sr), .int vl, .int fo, .int pl, .int li, .int hto, .int lto, .int ct]]) [1, 0] rfl
    exact hL20 (sLen.getD i 0 - 0) 0 ls H locs rfl (by omega) (by intro j hj; omega) hl hP hS
  · skip
    refine lv_iconst (v := nI 0) hx hb dX1_isName_16 (by decide) ?_
    refine W.zret (v := nI 0) (ty := .boolean) hx hb hr (by decide) (fun t ht hW => ⟨⟨nI 0, (), rfl, ?_, trivial⟩, hS.F ht⟩) hS.2.2 dX1_isName_17
    exact (xb_f (fun q => b13 q.1)).symm

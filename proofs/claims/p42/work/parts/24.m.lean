section
abbrev Q_X6_in (G : XG) (v lo hi : Int64) : Array Value → State → Outcome → State → Prop := (xRi (fun r => r = xb (lo.toInt ≤ v.toInt ∧ v.toInt ≤ hi.toInt)))
set_option maxHeartbeats 4000000 in
set_option maxRecDepth 100000 in
theorem c_X6_in (l : Launch) (G : XG) (v lo hi : Int64)  : Met l yX6_in wsX6_in ({ frames := 0, cells := 0, slots := 0, locals := 0 } : Room) (va_Pc [.long v, .long lo, .long hi] (fun _ => True)) (Q_X6_in G v lo hi) 0 0 (fun _ => False) := by
  refine Met.ofW (cc := cX6_in) (maxL := 6) (ret := (some .boolean)) (by decide) rfl ?_
  intro pp ee ss mm aa below mt cd s₁ BB hml hv
  obtain ⟨rfl, -⟩ := hv
  have hx := BB.exec
  have hb := BB.bytes
  have hr := BB.returns
  have hts := atoms_spec (ws := wsX6_in) BB.pre
  have hown : ss.vm.findClass RX6 = some mm.cls := findClass_of_methodNamed BB.named
  have hlocks := BB.notSynchronized
  have hS : va_S (fun _ => False) ss.heap ss.heap [] := va_S.rf
  have hP : xP (G) [] ss.heap := fun k q h => by cases h
  have hl := lv_entry ([.long v, .long lo, .long hi]) (n := 6) (Nat.le_of_ble_eq_true rfl)
  rw [lg_entry_eq]
  generalize (lg_sl ([.long v, .long lo, .long hi]) ++ List.replicate (6 - (lg_sl ([.long v, .long lo, .long hi])).length) Slot.unset).toArray = ls at hl ⊢
  replace hl : lv_has ls 6 [(0, .long v), (2, .long lo), (4, .long hi)] := hl
  refine lv_lload_n hx hb dX6_in_0 rfl (lv_at hl 0 rfl) ?_
  refine lv_lload_n hx hb dX6_in_1 rfl (lv_at hl 1 rfl) ?_
  refine W.lcmp hx hb dX6_in_2 ?_
  refine xl_if_lt (tgt := 17) hx hb dX6_in_3 rfl (fun b3 => ?_) (fun b3 => ?_)
  · skip
    refine lv_iconst (v := nI 0) hx hb dX6_in_17 (by decide) ?_
    refine W.zret (v := nI 0) (ty := .boolean) hx hb hr (by decide) (fun t ht hW => ⟨⟨nI 0, (), rfl, ?_, trivial⟩, hS.F ht⟩) hS.2.2 dX6_in_18
    first | exact (xb_t (by omega)).symm | exact (xb_f (by omega)).symm
  · skip
    refine lv_lload_n hx hb dX6_in_6 rfl (lv_at hl 0 rfl) ?_
    refine lv_lload hx hb dX6_in_7 (lv_at hl 2 rfl) ?_
    refine W.lcmp hx hb dX6_in_9 ?_
    refine xl_if_gt (tgt := 17) hx hb dX6_in_10 rfl (fun b10 => ?_) (fun b10 => ?_)
    · skip
      refine lv_iconst (v := nI 0) hx hb dX6_in_17 (by decide) ?_
      refine W.zret (v := nI 0) (ty := .boolean) hx hb hr (by decide) (fun t ht hW => ⟨⟨nI 0, (), rfl, ?_, trivial⟩, hS.F ht⟩) hS.2.2 dX6_in_18
      first | exact (xb_t (by omega)).symm | exact (xb_f (by omega)).symm
    · skip
      refine lv_iconst (v := nI 1) hx hb dX6_in_13 (by decide) ?_
      refine lv_goto (tgt := 18) hx hb dX6_in_14 rfl ?_
      refine W.zret (v := nI 1) (ty := .boolean) hx hb hr (by decide) (fun t ht hW => ⟨⟨nI 1, (), rfl, ?_, trivial⟩, hS.F ht⟩) hS.2.2 dX6_in_18
      first | exact (xb_t (by omega)).symm | exact (xb_f (by omega)).symm

abbrev Q_X6_flag (G : XG) (P : Prop) (iP : Decidable P) : Array Value → State → Outcome → State → Prop := (xRi (fun r => r = xb (P)))
set_option maxHeartbeats 4000000 in
set_option maxRecDepth 100000 in
theorem c_X6_flag (l : Launch) (G : XG) (P : Prop) (iP : Decidable P)  : Met l yX6_flag wsX6_flag ({ frames := 0, cells := 0, slots := 0, locals := 0 } : Room) (va_Pc [.int (xb (P))] (fun _ => True)) (Q_X6_flag G P iP) 0 0 (fun _ => False) := by
  refine Met.ofW (cc := cX6_flag) (maxL := 1) (ret := (some .int)) (by decide) rfl ?_
  intro pp ee ss mm aa below mt cd s₁ BB hml hv
  obtain ⟨rfl, -⟩ := hv
  have hx := BB.exec
  have hb := BB.bytes
  have hr := BB.returns
  have hts := atoms_spec (ws := wsX6_flag) BB.pre
  have hown : ss.vm.findClass RX6 = some mm.cls := findClass_of_methodNamed BB.named
  have hlocks := BB.notSynchronized
  have hS : va_S (fun _ => False) ss.heap ss.heap [] := va_S.rf
  have hP : xP (G) [] ss.heap := fun k q h => by cases h
  have hl := lv_entry ([.int (xb (P))]) (n := 1) (Nat.le_of_ble_eq_true rfl)
  rw [lg_entry_eq]
  generalize (lg_sl ([.int (xb (P))]) ++ List.replicate (1 - (lg_sl ([.int (xb (P))])).length) Slot.unset).toArray = ls at hl ⊢
  replace hl : lv_has ls 1 [(0, .int (xb (P)))] := hl
  refine lv_iload_n hx hb dX6_flag_0 rfl (lv_at hl 0 rfl) ?_
  refine xb_if_eq (tgt := 8) hx hb dX6_flag_1 rfl (fun b1 => ?_) (fun b1 => ?_)
  · skip
    refine lv_iconst (v := nI 0) hx hb dX6_flag_8 (by decide) ?_
    refine W.iret (v := nI 0) hx hb hr (fun t ht hW => ⟨⟨nI 0, (), rfl, ?_, trivial⟩, hS.F ht⟩) hS.2.2 dX6_flag_9
    first | exact (xb_t b1).symm | exact (xb_f b1).symm
  · skip
    refine lv_iconst (v := nI 1) hx hb dX6_flag_4 (by decide) ?_
    refine lv_goto (tgt := 9) hx hb dX6_flag_5 rfl ?_
    refine W.iret (v := nI 1) hx hb hr (fun t ht hW => ⟨⟨nI 1, (), rfl, ?_, trivial⟩, hS.F ht⟩) hS.2.2 dX6_flag_9
    first | exact (xb_t b1).symm | exact (xb_f b1).symm

abbrev w_X6_cellsNow (G : XG) (ko : Nat) (ad : Nat → Nat) (w h la tp : Nat) (ft tr : Int32) (mv : Nat → Int32) : va_W := [oC ko 6 [.ref (ad 0), .ref (ad 1), .int (nI w), .int (nI h), .int (nI la), .ref (ad 2), .int (mv 0), .int (mv 1), .int (mv 2), .int (mv 3), .int (mv 4), .int (mv 5), .int (mv 6), .ref (ad 3), .int (nI tp), .int (mv 7), .int (mv 8), .int (mv 9), .int (mv 10), .int ft, .int (mv 11), .ref (ad 4), .ref (ad 5), .ref (ad 6), .ref (ad 7), .ref (ad 8), .ref (ad 9), .ref (ad 10), .int tr]]
abbrev Q_X6_cellsNow (G : XG) (ko : Nat) (ad : Nat → Nat) (w h la tp : Nat) (ft tr : Int32) (mv : Nat → Int32) : Array Value → State → Outcome → State → Prop := (xRi (fun r => r = nI (w * h)))
set_option maxHeartbeats 4000000 in
set_option maxRecDepth 100000 in
theorem c_X6_cellsNow (l : Launch) (G : XG) (ko : Nat) (ad : Nat → Nat) (w h la tp : Nat) (ft tr : Int32) (mv : Nat → Int32)  : Met l yX6_cellsNow wsX6_cellsNow ({ frames := 0, cells := 0, slots := 0, locals := 0 } : Room) (va_Pc [.ref ko] (xRp G (w_X6_cellsNow G ko ad w h la tp ft tr mv))) (Q_X6_cellsNow G ko ad w h la tp ft tr mv) 0 0 (fun _ => False) := by
  refine Met.ofW (cc := cX6_cellsNow) (maxL := 1) (ret := (some .int)) (by decide) rfl ?_
  intro pp ee ss mm aa below mt cd s₁ BB hml hv
  obtain ⟨rfl, hP, hK⟩ := hv
  have hx := BB.exec
  have hb := BB.bytes
  have hr := BB.returns
  have hts := atoms_spec (ws := wsX6_cellsNow) BB.pre
  have hown : ss.vm.findClass RX6 = some mm.cls := findClass_of_methodNamed BB.named
  have hlocks := BB.notSynchronized
  have hS : va_S (fun _ => False) ss.heap ss.heap [] := va_S.rf
  replace hP : xP G [oC ko 6 [.ref (ad 0), .ref (ad 1), .int (nI w), .int (nI h), .int (nI la), .ref (ad 2), .int (mv 0), .int (mv 1), .int (mv 2), .int (mv 3), .int (mv 4), .int (mv 5), .int (mv 6), .ref (ad 3), .int (nI tp), .int (mv 7), .int (mv 8), .int (mv 9), .int (mv 10), .int ft, .int (mv 11), .ref (ad 4), .ref (ad 5), .ref (ad 6), .ref (ad 7), .ref (ad 8), .ref (ad 9), .ref (ad 10), .int tr]] ss.heap := hP
  have hin6 : ∀ w ∈ u_ws RX6 TX6 29, w ∈ wsX6_cellsNow := fun w h => List.mem_cons_of_mem _ (List.mem_append_right _ h)
  have hl := lv_entry ([.ref ko]) (n := 1) (Nat.le_of_ble_eq_true rfl)
  rw [lg_entry_eq]
  generalize (lg_sl ([.ref ko]) ++ List.replicate (1 - (lg_sl ([.ref ko])).length) Slot.unset).toArray = ls at hl ⊢
  replace hl : lv_has ls 1 [(0, .ref ko)] := hl
  refine lv_aload_n hx hb dX6_cellsNow_0 rfl (lv_at hl 0 rfl) ?_
  refine va_get (D := G.1) (ci := 6) (v := .int (nI w)) (C := RX6) (T := TX6) (N := 29) hx hb hts hin6 hown hK.1 hP 0 rfl rfl 2 (by decide) (hts (.fieldLink RX6 72 "BackLensesModel" "wide" "I") (List.mem_of_getElem? (i := 1) rfl)) (fun _ h9 => h9) rfl dX6_cellsNow_1 ?_
  refine lv_aload_n hx hb dX6_cellsNow_4 rfl (lv_at hl 0 rfl) ?_
  refine va_get (D := G.1) (ci := 6) (v := .int (nI h)) (C := RX6) (T := TX6) (N := 29) hx hb hts hin6 hown hK.1 hP 0 rfl rfl 3 (by decide) (hts (.fieldLink RX6 75 "BackLensesModel" "high" "I") (List.mem_of_getElem? (i := 2) rfl)) (fun _ h9 => h9) rfl dX6_cellsNow_5 ?_
  refine xn_imul hx hb dX6_cellsNow_8 ?_
  refine W.iret (v := nI (w * h)) hx hb hr (fun t ht hW => ⟨⟨nI (w * h), (), rfl, ?_, trivial⟩, hS.F ht⟩) hS.2.2 dX6_cellsNow_9
  rfl

abbrev w_X6_isCell (G : XG) (ko : Nat) (ad : Nat → Nat) (w h la tp : Nat) (ft tr : Int32) (mv : Nat → Int32) : va_W := [oC ko 6 [.ref (ad 0), .ref (ad 1), .int (nI w), .int (nI h), .int (nI la), .ref (ad 2), .int (mv 0), .int (mv 1), .int (mv 2), .int (mv 3), .int (mv 4), .int (mv 5), .int (mv 6), .ref (ad 3), .int (nI tp), .int (mv 7), .int (mv 8), .int (mv 9), .int (mv 10), .int ft, .int (mv 11), .ref (ad 4), .ref (ad 5), .ref (ad 6), .ref (ad 7), .ref (ad 8), .ref (ad 9), .ref (ad 10), .int tr]]
abbrev Q_X6_isCell (G : XG) (ko : Nat) (ad : Nat → Nat) (w h la tp : Nat) (ft tr : Int32) (mv : Nat → Int32) (c : Int32) : Array Value → State → Outcome → State → Prop := (xRi (fun r => r = xb (inR c (w * h))))
set_option maxHeartbeats 4000000 in
set_option maxRecDepth 100000 in
theorem c_X6_isCell (l : Launch) (G : XG) (ko : Nat) (ad : Nat → Nat) (w h la tp : Nat) (ft tr : Int32) (mv : Nat → Int32) (c : Int32) (hwh1 : 1 ≤ w * h) (hwh : w * h ≤ 16) : Met l yX6_isCell wsX6_isCell ({ frames := 1, cells := 0, slots := 0, locals := 25 } : Room) (va_Pc [.ref ko, .int c] (xRp G (w_X6_isCell G ko ad w h la tp ft tr mv))) (Q_X6_isCell G ko ad w h la tp ft tr mv c) 0 0 (fun _ => False) := by
  refine Met.ofW (cc := cX6_isCell) (maxL := 2) (ret := (some .boolean)) (by decide) rfl ?_
  intro pp ee ss mm aa below mt cd s₁ BB hml hv
  obtain ⟨rfl, hP, hK⟩ := hv
  have hx := BB.exec
  have hb := BB.bytes
  have hr := BB.returns
  have hts := atoms_spec (ws := wsX6_isCell) BB.pre
  have hown : ss.vm.findClass RX6 = some mm.cls := findClass_of_methodNamed BB.named
  have hlocks := BB.notSynchronized
  have hS : va_S (fun _ => False) ss.heap ss.heap [] := va_S.rf
  replace hP : xP G [oC ko 6 [.ref (ad 0), .ref (ad 1), .int (nI w), .int (nI h), .int (nI la), .ref (ad 2), .int (mv 0), .int (mv 1), .int (mv 2), .int (mv 3), .int (mv 4), .int (mv 5), .int (mv 6), .ref (ad 3), .int (nI tp), .int (mv 7), .int (mv 8), .int (mv 9), .int (mv 10), .int ft, .int (mv 11), .ref (ad 4), .ref (ad 5), .ref (ad 6), .ref (ad 7), .ref (ad 8), .ref (ad 9), .ref (ad 10), .int tr]] ss.heap := hP
  have hin6 : ∀ w ∈ u_ws RX6 TX6 29, w ∈ wsX6_isCell := fun w h => List.mem_cons_of_mem _ (List.mem_append_right _ h)
  have hl := lv_entry ([.ref ko, .int c]) (n := 2) (Nat.le_of_ble_eq_true rfl)
  rw [lg_entry_eq]
  generalize (lg_sl ([.ref ko, .int c]) ++ List.replicate (2 - (lg_sl ([.ref ko, .int c])).length) Slot.unset).toArray = ls at hl ⊢
  replace hl : lv_has ls 2 [(0, .ref ko), (1, .int c)] := hl
  refine lv_iload_n hx hb dX6_isCell_0 rfl (lv_at hl 1 rfl) ?_
  refine xi_i2l hx hb dX6_isCell_1 ?_
  refine lv_lconst (v := lN 0) hx hb dX6_isCell_2 (by decide) ?_
  refine lv_aload_n hx hb dX6_isCell_3 rfl (lv_at hl 0 rfl) ?_
  refine xr_i (As := []) (rest := [.long (lN 0), .long c.toInt64]) ⟨hx, hb, hml, hown, hts⟩ (c_X6_cellsNow l G ko ad w h la tp ft tr mv ) (cwV 0 hts gX6_isCell_X6_cellsNow rfl rfl rfl (by decide +kernel) ⟨Nat.le_of_ble_eq_true rfl, Nat.le_of_ble_eq_true rfl⟩) hK hP hS [0] rfl rfl rfl rfl hl.1 rfl (Nat.le_of_ble_eq_true rfl) dX6_isCell_4 ⟨Nat.zero_le _, Nat.zero_le _⟩ (fun r4 H locs hp4 hP hS => ?_)
  rw [show r4 = _ from hp4]
  refine lv_iconst (v := nI 1) hx hb dX6_isCell_7 (by decide) ?_
  refine xn_isub hx hb (by omega) dX6_isCell_8 ?_
  refine xn_i2l hx hb (by omega) dX6_isCell_9 ?_
  refine xs_i (As := [.long c.toInt64, .long (lN 0), .long (lN ((w * h) - 1))]) (rest := []) ⟨hx, hb, hml, hown, hts⟩ (c_X6_in l G c.toInt64 (lN 0) (lN ((w * h) - 1)) ) (va_cwS 3 hts gX6_isCell_X6_in rfl rfl rfl (by decide +kernel) ⟨Nat.le_of_ble_eq_true rfl, Nat.le_of_ble_eq_true rfl⟩) hP hS rfl hl.1 rfl (Nat.le_of_ble_eq_true rfl) dX6_isCell_10 ⟨Nat.zero_le _, Nat.zero_le _⟩ (fun r10 H locs hp10 hP hS => ?_)
  rw [show r10 = _ from hp10]
  refine W.zret (v := xb ((lN 0).toInt ≤ c.toInt64.toInt ∧ c.toInt64.toInt ≤ (lN ((w * h) - 1)).toInt)) (ty := .boolean) hx hb hr xb_nar (fun t ht hW => ⟨⟨xb ((lN 0).toInt ≤ c.toInt64.toInt ∧ c.toInt64.toInt ≤ (lN ((w * h) - 1)).toInt), (), rfl, ?_, trivial⟩, hS.F ht⟩) hS.2.2 dX6_isCell_13
  exact xb_congr (by simp only [i64_toInt]; rw [lN_toInt' (by omega), lN_toInt' (by omega)]; unfold inR; omega)

abbrev w_X6_isDay (G : XG) (ko : Nat) (ad : Nat → Nat) (w h la tp : Nat) (ft tr : Int32) (mv : Nat → Int32) : va_W := [oC ko 6 [.ref (ad 0), .ref (ad 1), .int (nI w), .int (nI h), .int (nI la), .ref (ad 2), .int (mv 0), .int (mv 1), .int (mv 2), .int (mv 3), .int (mv 4), .int (mv 5), .int (mv 6), .ref (ad 3), .int (nI tp), .int (mv 7), .int (mv 8), .int (mv 9), .int (mv 10), .int ft, .int (mv 11), .ref (ad 4), .ref (ad 5), .ref (ad 6), .ref (ad 7), .ref (ad 8), .ref (ad 9), .ref (ad 10), .int tr]]
abbrev Q_X6_isDay (G : XG) (ko : Nat) (ad : Nat → Nat) (w h la tp : Nat) (ft tr : Int32) (mv : Nat → Int32) (d : Int32) : Array Value → State → Outcome → State → Prop := (xRi (fun r => r = xb (inR d (la + 1))))
set_option maxHeartbeats 4000000 in
set_option maxRecDepth 100000 in
theorem c_X6_isDay (l : Launch) (G : XG) (ko : Nat) (ad : Nat → Nat) (w h la tp : Nat) (ft tr : Int32) (mv : Nat → Int32) (d : Int32) (hla : la ≤ 9) : Met l yX6_isDay wsX6_isDay ({ frames := 1, cells := 0, slots := 0, locals := 25 } : Room) (va_Pc [.ref ko, .int d] (xRp G (w_X6_isDay G ko ad w h la tp ft tr mv))) (Q_X6_isDay G ko ad w h la tp ft tr mv d) 0 0 (fun _ => False) := by
  refine Met.ofW (cc := cX6_isDay) (maxL := 2) (ret := (some .boolean)) (by decide) rfl ?_
  intro pp ee ss mm aa below mt cd s₁ BB hml hv
  obtain ⟨rfl, hP, hK⟩ := hv
  have hx := BB.exec
  have hb := BB.bytes
  have hr := BB.returns
  have hts := atoms_spec (ws := wsX6_isDay) BB.pre
  have hown : ss.vm.findClass RX6 = some mm.cls := findClass_of_methodNamed BB.named
  have hlocks := BB.notSynchronized
  have hS : va_S (fun _ => False) ss.heap ss.heap [] := va_S.rf
  replace hP : xP G [oC ko 6 [.ref (ad 0), .ref (ad 1), .int (nI w), .int (nI h), .int (nI la), .ref (ad 2), .int (mv 0), .int (mv 1), .int (mv 2), .int (mv 3), .int (mv 4), .int (mv 5), .int (mv 6), .ref (ad 3), .int (nI tp), .int (mv 7), .int (mv 8), .int (mv 9), .int (mv 10), .int ft, .int (mv 11), .ref (ad 4), .ref (ad 5), .ref (ad 6), .ref (ad 7), .ref (ad 8), .ref (ad 9), .ref (ad 10), .int tr]] ss.heap := hP
  have hin6 : ∀ w ∈ u_ws RX6 TX6 29, w ∈ wsX6_isDay := fun w h => List.mem_cons_of_mem _ (List.mem_append_right _ h)
  have hl := lv_entry ([.ref ko, .int d]) (n := 2) (Nat.le_of_ble_eq_true rfl)
  rw [lg_entry_eq]
  generalize (lg_sl ([.ref ko, .int d]) ++ List.replicate (2 - (lg_sl ([.ref ko, .int d])).length) Slot.unset).toArray = ls at hl ⊢
  replace hl : lv_has ls 2 [(0, .ref ko), (1, .int d)] := hl
  refine lv_iload_n hx hb dX6_isDay_0 rfl (lv_at hl 1 rfl) ?_
  refine xi_i2l hx hb dX6_isDay_1 ?_
  refine lv_lconst (v := lN 0) hx hb dX6_isDay_2 (by decide) ?_
  refine lv_aload_n hx hb dX6_isDay_3 rfl (lv_at hl 0 rfl) ?_
  refine va_get (D := G.1) (ci := 6) (v := .int (nI la)) (C := RX6) (T := TX6) (N := 29) hx hb hts hin6 hown hK.1 hP 0 rfl rfl 4 (by decide) (hts (.fieldLink RX6 78 "BackLensesModel" "last" "I") (List.mem_of_getElem? (i := 1) rfl)) (fun _ h9 => h9) rfl dX6_isDay_4 ?_
  refine xn_i2l hx hb (by omega) dX6_isDay_7 ?_
  refine xs_i (As := [.long d.toInt64, .long (lN 0), .long (lN la)]) (rest := []) ⟨hx, hb, hml, hown, hts⟩ (c_X6_in l G d.toInt64 (lN 0) (lN la) ) (va_cwS 3 hts gX6_isDay_X6_in rfl rfl rfl (by decide +kernel) ⟨Nat.le_of_ble_eq_true rfl, Nat.le_of_ble_eq_true rfl⟩) hP hS rfl hl.1 rfl (Nat.le_of_ble_eq_true rfl) dX6_isDay_8 ⟨Nat.zero_le _, Nat.zero_le _⟩ (fun r8 H locs hp8 hP hS => ?_)
  rw [show r8 = _ from hp8]
  refine W.zret (v := xb ((lN 0).toInt ≤ d.toInt64.toInt ∧ d.toInt64.toInt ≤ (lN la).toInt)) (ty := .boolean) hx hb hr xb_nar (fun t ht hW => ⟨⟨xb ((lN 0).toInt ≤ d.toInt64.toInt ∧ d.toInt64.toInt ≤ (lN la).toInt), (), rfl, ?_, trivial⟩, hS.F ht⟩) hS.2.2 dX6_isDay_11
  exact xb_congr (by simp only [i64_toInt]; rw [lN_toInt' (by omega), lN_toInt' (by omega)]; unfold inR; omega)

abbrev Q_X6_isMark (G : XG) (m : Int32) : Array Value → State → Outcome → State → Prop := (xRi (fun r => r = xb (inR m 6)))
set_option maxHeartbeats 4000000 in
set_option maxRecDepth 100000 in
theorem c_X6_isMark (l : Launch) (G : XG) (m : Int32)  : Met l yX6_isMark wsX6_isMark ({ frames := 1, cells := 0, slots := 0, locals := 25 } : Room) (va_Pc [.int m] (fun _ => True)) (Q_X6_isMark G m) 0 0 (fun _ => False) := by
  refine Met.ofW (cc := cX6_isMark) (maxL := 1) (ret := (some .boolean)) (by decide) rfl ?_
  intro pp ee ss mm aa below mt cd s₁ BB hml hv
  obtain ⟨rfl, -⟩ := hv
  have hx := BB.exec
  have hb := BB.bytes
  have hr := BB.returns
  have hts := atoms_spec (ws := wsX6_isMark) BB.pre
  have hown : ss.vm.findClass RX6 = some mm.cls := findClass_of_methodNamed BB.named
  have hlocks := BB.notSynchronized
  have hS : va_S (fun _ => False) ss.heap ss.heap [] := va_S.rf
  have hP : xP (G) [] ss.heap := fun k q h => by cases h
  have hl := lv_entry ([.int m]) (n := 1) (Nat.le_of_ble_eq_true rfl)
  rw [lg_entry_eq]
  generalize (lg_sl ([.int m]) ++ List.replicate (1 - (lg_sl ([.int m])).length) Slot.unset).toArray = ls at hl ⊢
  replace hl : lv_has ls 1 [(0, .int m)] := hl
  refine lv_iload_n hx hb dX6_isMark_0 rfl (lv_at hl 0 rfl) ?_
  refine xi_i2l hx hb dX6_isMark_1 ?_
  refine lv_lconst (v := lN 0) hx hb dX6_isMark_2 (by decide) ?_
  refine lv_ldc2 (v := lN 5) hx hb hown (hts (.constantLong RX6 161 (lN 5)) (List.mem_of_getElem? (i := 1) rfl)) dX6_isMark_3 ?_
  refine xs_i (As := [.long m.toInt64, .long (lN 0), .long (lN 5)]) (rest := []) ⟨hx, hb, hml, hown, hts⟩ (c_X6_in l G m.toInt64 (lN 0) (lN 5) ) (va_cwS 3 hts gX6_isMark_X6_in rfl rfl rfl (by decide +kernel) ⟨Nat.le_of_ble_eq_true rfl, Nat.le_of_ble_eq_true rfl⟩) hP hS rfl hl.1 rfl (Nat.le_of_ble_eq_true rfl) dX6_isMark_6 ⟨Nat.zero_le _, Nat.zero_le _⟩ (fun r6 H locs hp6 hP hS => ?_)
  rw [show r6 = _ from hp6]
  refine W.zret (v := xb ((lN 0).toInt ≤ m.toInt64.toInt ∧ m.toInt64.toInt ≤ (lN 5).toInt)) (ty := .boolean) hx hb hr xb_nar (fun t ht hW => ⟨⟨xb ((lN 0).toInt ≤ m.toInt64.toInt ∧ m.toInt64.toInt ≤ (lN 5).toInt), (), rfl, ?_, trivial⟩, hS.F ht⟩) hS.2.2 dX6_isMark_9
  exact xb_congr (by simp only [i64_toInt]; rw [lN_toInt' (by omega), lN_toInt' (by omega)]; unfold inR; omega)

abbrev Q_X6_isPart (G : XG) (m : Int32) : Array Value → State → Outcome → State → Prop := (xRi (fun r => r = xb (inR m 2)))
set_option maxHeartbeats 4000000 in
set_option maxRecDepth 100000 in
theorem c_X6_isPart (l : Launch) (G : XG) (m : Int32)  : Met l yX6_isPart wsX6_isPart ({ frames := 1, cells := 0, slots := 0, locals := 25 } : Room) (va_Pc [.int m] (fun _ => True)) (Q_X6_isPart G m) 0 0 (fun _ => False) := by
  refine Met.ofW (cc := cX6_isPart) (maxL := 1) (ret := (some .boolean)) (by decide) rfl ?_
  intro pp ee ss mm aa below mt cd s₁ BB hml hv
  obtain ⟨rfl, -⟩ := hv
  have hx := BB.exec
  have hb := BB.bytes
  have hr := BB.returns
  have hts := atoms_spec (ws := wsX6_isPart) BB.pre
  have hown : ss.vm.findClass RX6 = some mm.cls := findClass_of_methodNamed BB.named
  have hlocks := BB.notSynchronized
  have hS : va_S (fun _ => False) ss.heap ss.heap [] := va_S.rf
  have hP : xP (G) [] ss.heap := fun k q h => by cases h
  have hl := lv_entry ([.int m]) (n := 1) (Nat.le_of_ble_eq_true rfl)
  rw [lg_entry_eq]
  generalize (lg_sl ([.int m]) ++ List.replicate (1 - (lg_sl ([.int m])).length) Slot.unset).toArray = ls at hl ⊢
  replace hl : lv_has ls 1 [(0, .int m)] := hl
  refine lv_iload_n hx hb dX6_isPart_0 rfl (lv_at hl 0 rfl) ?_
  refine xi_i2l hx hb dX6_isPart_1 ?_
  refine lv_lconst (v := lN 0) hx hb dX6_isPart_2 (by decide) ?_
  refine lv_lconst (v := lN 1) hx hb dX6_isPart_3 (by decide) ?_
  refine xs_i (As := [.long m.toInt64, .long (lN 0), .long (lN 1)]) (rest := []) ⟨hx, hb, hml, hown, hts⟩ (c_X6_in l G m.toInt64 (lN 0) (lN 1) ) (va_cwS 3 hts gX6_isPart_X6_in rfl rfl rfl (by decide +kernel) ⟨Nat.le_of_ble_eq_true rfl, Nat.le_of_ble_eq_true rfl⟩) hP hS rfl hl.1 rfl (Nat.le_of_ble_eq_true rfl) dX6_isPart_4 ⟨Nat.zero_le _, Nat.zero_le _⟩ (fun r4 H locs hp4 hP hS => ?_)
  rw [show r4 = _ from hp4]
  refine W.zret (v := xb ((lN 0).toInt ≤ m.toInt64.toInt ∧ m.toInt64.toInt ≤ (lN 1).toInt)) (ty := .boolean) hx hb hr xb_nar (fun t ht hW => ⟨⟨xb ((lN 0).toInt ≤ m.toInt64.toInt ∧ m.toInt64.toInt ≤ (lN 1).toInt), (), rfl, ?_, trivial⟩, hS.F ht⟩) hS.2.2 dX6_isPart_7
  exact xb_congr (by simp only [i64_toInt]; rw [lN_toInt' (by omega), lN_toInt' (by omega)]; unfold inR; omega)

abbrev w_X6_isLens (G : XG) (ko : Nat) (ad : Nat → Nat) (w h la tp : Nat) (ft tr : Int32) (mv : Nat → Int32) (S : Nat → Int32) : va_W := [oC ko 6 [.ref (ad 0), .ref (ad 1), .int (nI w), .int (nI h), .int (nI la), .ref (ad 2), .int (mv 0), .int (mv 1), .int (mv 2), .int (mv 3), .int (mv 4), .int (mv 5), .int (mv 6), .ref (ad 3), .int (nI tp), .int (mv 7), .int (mv 8), .int (mv 9), .int (mv 10), .int ft, .int (mv 11), .ref (ad 4), .ref (ad 5), .ref (ad 6), .ref (ad 7), .ref (ad 8), .ref (ad 9), .ref (ad 10), .int tr], iA G (ad 0) 255 S]
abbrev Q_X6_isLens (G : XG) (ko : Nat) (ad : Nat → Nat) (w h la tp : Nat) (ft tr : Int32) (mv : Nat → Int32) (S : Nat → Int32) (nl : Nat) (i : Int32) : Array Value → State → Outcome → State → Prop := (xRi (fun r => r = xb (inR i nl)))
set_option maxHeartbeats 4000000 in
set_option maxRecDepth 100000 in
theorem c_X6_isLens (l : Launch) (G : XG) (ko : Nat) (ad : Nat → Nat) (w h la tp : Nat) (ft tr : Int32) (mv : Nat → Int32) (S : Nat → Int32) (nl : Nat) (i : Int32) (hs47 : S 47 = nI nl) (hnl : nl ≤ 6) : Met l yX6_isLens wsX6_isLens ({ frames := 1, cells := 0, slots := 0, locals := 25 } : Room) (va_Pc [.ref ko, .int i] (xRp G (w_X6_isLens G ko ad w h la tp ft tr mv S))) (Q_X6_isLens G ko ad w h la tp ft tr mv S nl i) 0 0 (fun _ => False) := by
  refine Met.ofW (cc := cX6_isLens) (maxL := 2) (ret := (some .boolean)) (by decide) rfl ?_
  intro pp ee ss mm aa below mt cd s₁ BB hml hv
  obtain ⟨rfl, hP, hK⟩ := hv
  have hx := BB.exec
  have hb := BB.bytes
  have hr := BB.returns
  have hts := atoms_spec (ws := wsX6_isLens) BB.pre
  have hown : ss.vm.findClass RX6 = some mm.cls := findClass_of_methodNamed BB.named
  have hlocks := BB.notSynchronized
  have hS : va_S (fun _ => False) ss.heap ss.heap [] := va_S.rf
  replace hP : xP G [oC ko 6 [.ref (ad 0), .ref (ad 1), .int (nI w), .int (nI h), .int (nI la), .ref (ad 2), .int (mv 0), .int (mv 1), .int (mv 2), .int (mv 3), .int (mv 4), .int (mv 5), .int (mv 6), .ref (ad 3), .int (nI tp), .int (mv 7), .int (mv 8), .int (mv 9), .int (mv 10), .int ft, .int (mv 11), .ref (ad 4), .ref (ad 5), .ref (ad 6), .ref (ad 7), .ref (ad 8), .ref (ad 9), .ref (ad 10), .int tr], iA G (ad 0) 255 S] ss.heap := hP
  have hin6 : ∀ w ∈ u_ws RX6 TX6 29, w ∈ wsX6_isLens := fun w h => List.mem_cons_of_mem _ (List.mem_append_right _ h)
  have hl := lv_entry ([.ref ko, .int i]) (n := 2) (Nat.le_of_ble_eq_true rfl)
  rw [lg_entry_eq]
  generalize (lg_sl ([.ref ko, .int i]) ++ List.replicate (2 - (lg_sl ([.ref ko, .int i])).length) Slot.unset).toArray = ls at hl ⊢
  replace hl : lv_has ls 2 [(0, .ref ko), (1, .int i)] := hl
  refine lv_iload_n hx hb dX6_isLens_0 rfl (lv_at hl 1 rfl) ?_
  refine xi_i2l hx hb dX6_isLens_1 ?_
  refine lv_lconst (v := lN 0) hx hb dX6_isLens_2 (by decide) ?_
  refine lv_aload_n hx hb dX6_isLens_3 rfl (lv_at hl 0 rfl) ?_
  refine va_get (D := G.1) (ci := 6) (v := .ref (ad 0)) (C := RX6) (T := TX6) (N := 29) hx hb hts hin6 hown hK.1 hP 0 rfl rfl 0 (by decide) (hts (.fieldLink RX6 7 "BackLensesModel" "st" "[I") (List.mem_of_getElem? (i := 1) rfl)) (fun _ h9 => h9) rfl dX6_isLens_4 ?_
  refine lv_bipush (v := nI 47) hx hb dX6_isLens_7 (by decide) ?_
  refine xn_iald hx hb hK hP 1 rfl (by omega) (by omega) dX6_isLens_9 ?_
  refine xn_top hs47 ?_
  refine lv_iconst (v := nI 1) hx hb dX6_isLens_10 (by decide) ?_
  refine lv_isub hx hb dX6_isLens_11 ?_
  refine xi_i2l hx hb dX6_isLens_12 ?_
  refine xs_i (As := [.long i.toInt64, .long (lN 0), .long (((nI nl) - (nI 1)).toInt64)]) (rest := []) ⟨hx, hb, hml, hown, hts⟩ (c_X6_in l G i.toInt64 (lN 0) (((nI nl) - (nI 1)).toInt64) ) (va_cwS 3 hts gX6_isLens_X6_in rfl rfl rfl (by decide +kernel) ⟨Nat.le_of_ble_eq_true rfl, Nat.le_of_ble_eq_true rfl⟩) hP hS rfl hl.1 rfl (Nat.le_of_ble_eq_true rfl) dX6_isLens_13 ⟨Nat.zero_le _, Nat.zero_le _⟩ (fun r13 H locs hp13 hP hS => ?_)
  rw [show r13 = _ from hp13]
  refine W.zret (v := xb ((lN 0).toInt ≤ i.toInt64.toInt ∧ i.toInt64.toInt ≤ (((nI nl) - (nI 1)).toInt64).toInt)) (ty := .boolean) hx hb hr xb_nar (fun t ht hW => ⟨⟨xb ((lN 0).toInt ≤ i.toInt64.toInt ∧ i.toInt64.toInt ≤ (((nI nl) - (nI 1)).toInt64).toInt), (), rfl, ?_, trivial⟩, hS.F ht⟩) hS.2.2 dX6_isLens_16
  exact xb_congr (by simp only [i64_toInt]; rw [lN_toInt' (by omega), pk_sub_toInt (by omega) (by omega)]; unfold inR; omega)

abbrev Q_X6_bitsOf (G : XG) (x : Int32) : Array Value → State → Outcome → State → Prop := (xRi (fun r => r = bcM x 16))
set_option maxHeartbeats 4000000 in
set_option maxRecDepth 100000 in
theorem c_X6_bitsOf (l : Launch) (G : XG) (x : Int32)  : Met l yX6_bitsOf wsX6_bitsOf ({ frames := 0, cells := 0, slots := 0, locals := 0 } : Room) (va_Pc [.int x] (fun _ => True)) (Q_X6_bitsOf G x) 0 0 (fun _ => False) := by
  refine Met.ofW (cc := cX6_bitsOf) (maxL := 3) (ret := (some .int)) (by decide) rfl ?_
  intro pp ee ss mm aa below mt cd s₁ BB hml hv
  obtain ⟨rfl, -⟩ := hv
  have hx := BB.exec
  have hb := BB.bytes
  have hr := BB.returns
  have hts := atoms_spec (ws := wsX6_bitsOf) BB.pre
  have hown : ss.vm.findClass RX6 = some mm.cls := findClass_of_methodNamed BB.named
  have hlocks := BB.notSynchronized
  have hS : va_S (fun _ => False) ss.heap ss.heap [] := va_S.rf
  have hP : xP (G) [] ss.heap := fun k q h => by cases h
  have hl := lv_entry ([.int x]) (n := 3) (Nat.le_of_ble_eq_true rfl)
  rw [lg_entry_eq]
  generalize (lg_sl ([.int x]) ++ List.replicate (3 - (lg_sl ([.int x])).length) Slot.unset).toArray = ls at hl ⊢
  replace hl : lv_has ls 3 [(0, .int x)] := hl
  refine lv_iconst (v := nI 0) hx hb dX6_bitsOf_0 (by decide) ?_
  refine lv_istore_n (lv' := [(1, .int (nI 0)), (0, .int x)]) hx hb dX6_bitsOf_1 rfl hl (by decide) rfl (fun ls hl => ?_)
  refine lv_iconst (v := nI 0) hx hb dX6_bitsOf_2 (by decide) ?_
  refine lv_istore_n (lv' := [(2, .int (nI 0)), (1, .int (nI 0)), (0, .int x)]) hx hb dX6_bitsOf_3 rfl hl (by decide) rfl (fun ls hl => ?_)
  have hL4 : ∀ k : Nat, ∀ (k1 : Nat) (n : Int32) (ls : Array Slot) (H : Heap) (locs : List Loc), 16 - k1 = k → (k1 ≤ 16) → (n = bcM x k1) → lv_has ls 3 [(0, .int x), (1, .int n), (2, .int (nI k1))] → xP G [] H → va_S (fun _ => False) ss.heap H locs → W pp l ee ({ frames := 0, cells := 0, slots := 0, locals := 0 } : Room) ss mm ([.int x] : List Value).toArray below mt cd H locs 0 0 (MQ below (Q_X6_bitsOf G x) ([.int x] : List Value).toArray ss 0 0 (fun _ => False)) (F0 mm 4 ls []) := by
    intro k
    induction k using Nat.strongRecOn with
    | _ k ih4 =>
    intro k1 n ls H locs hm4 hk1 hn hl hP hS
    refine lv_iload_n hx hb dX6_bitsOf_4 rfl (lv_at hl 2 rfl) ?_
    refine lv_bipush (v := nI 16) hx hb dX6_bitsOf_5 (by decide) ?_
    refine xn_icmp_ge (tgt := 24) hx hb (by omega) (by omega) dX6_bitsOf_7 rfl (fun b7 => ?_) (fun b7 => ?_)
    · skip
      refine lv_iload_n hx hb dX6_bitsOf_24 rfl (lv_at hl 1 rfl) ?_
      refine W.iret (v := n) hx hb hr (fun t ht hW => ⟨⟨n, (), rfl, ?_, trivial⟩, hS.F ht⟩) hS.2.2 dX6_bitsOf_25
      rw [hn, show k1 = 16 by omega]
    · skip
      refine lv_iload_n hx hb dX6_bitsOf_10 rfl (lv_at hl 1 rfl) ?_
      refine lv_iload_n hx hb dX6_bitsOf_11 rfl (lv_at hl 0 rfl) ?_
      refine lv_iload_n hx hb dX6_bitsOf_12 rfl (lv_at hl 2 rfl) ?_
      refine lv_ishr hx hb dX6_bitsOf_13 ?_
      refine lv_iconst (v := nI 1) hx hb dX6_bitsOf_14 (by decide) ?_
      refine lv_iand hx hb dX6_bitsOf_15 ?_
      refine lv_iadd hx hb dX6_bitsOf_16 ?_
      refine lv_istore_n (lv' := [(1, .int (n + ((x >>> ((nI k1) &&& 31)) &&& (nI 1)))), (0, .int x), (2, .int (nI k1))]) hx hb dX6_bitsOf_17 rfl hl (by decide) rfl (fun ls hl => ?_)
      refine lv_iinc (k := 2) (v := nI (k1 + 1)) (lv' := [(2, .int (nI (k1 + 1))), (1, .int (n + ((x >>> ((nI k1) &&& 31)) &&& (nI 1)))), (0, .int x)]) hx hb dX6_bitsOf_18 hl rfl (xn_inc k1 1) (by decide) rfl (fun ls hl => ?_)
      refine lv_goto (tgt := 4) hx hb dX6_bitsOf_21 rfl ?_
      have hl := lv_sub hl (l' := [(0, .int x), (1, .int (n + ((x >>> ((nI k1) &&& 31)) &&& (nI 1)))), (2, .int (nI (k1 + 1)))]) [2, 1, 0] rfl
      exact ih4 (16 - (k1 + 1)) (by omega) (k1 + 1) (n + ((x >>> ((nI k1) &&& 31)) &&& (nI 1))) ls H locs rfl (by omega) (by rw [hn]; rfl) hl hP hS
  have hl := lv_sub hl (l' := [(0, .int x), (1, .int (nI 0)), (2, .int (nI 0))]) [2, 1, 0] rfl
  exact hL4 (16 - 0) 0 (nI 0) ls ss.heap [] rfl (by omega) (by rfl) hl hP hS

abbrev w_X6_markOf (G : XG) (ko : Nat) (ad : Nat → Nat) (w h la tp : Nat) (ft tr : Int32) (mv : Nat → Int32) (S : Nat → Int32) : va_W := [oC ko 6 [.ref (ad 0), .ref (ad 1), .int (nI w), .int (nI h), .int (nI la), .ref (ad 2), .int (mv 0), .int (mv 1), .int (mv 2), .int (mv 3), .int (mv 4), .int (mv 5), .int (mv 6), .ref (ad 3), .int (nI tp), .int (mv 7), .int (mv 8), .int (mv 9), .int (mv 10), .int ft, .int (mv 11), .ref (ad 4), .ref (ad 5), .ref (ad 6), .ref (ad 7), .ref (ad 8), .ref (ad 9), .ref (ad 10), .int tr], iA G (ad 0) 255 S]
abbrev Q_X6_markOf (G : XG) (ko : Nat) (ad : Nat → Nat) (w h la tp : Nat) (ft tr : Int32) (mv : Nat → Int32) (S : Nat → Int32) (nc c d : Nat) : Array Value → State → Outcome → State → Prop := (xRi (fun r => r = mkM S nc c d))
set_option maxHeartbeats 4000000 in
set_option maxRecDepth 100000 in
theorem c_X6_markOf (l : Launch) (G : XG) (ko : Nat) (ad : Nat → Nat) (w h la tp : Nat) (ft tr : Int32) (mv : Nat → Int32) (S : Nat → Int32) (nc c d : Nat) (hs16 : S 16 = nI nc) (hnc : nc ≤ 10) (hc : c < 16) (hd : d ≤ 100) : Met l yX6_markOf wsX6_markOf ({ frames := 0, cells := 0, slots := 0, locals := 0 } : Room) (va_Pc [.ref ko, .int (nI c), .int (nI d)] (xRp G (w_X6_markOf G ko ad w h la tp ft tr mv S))) (Q_X6_markOf G ko ad w h la tp ft tr mv S nc c d) 0 0 (fun _ => False) := by
  refine Met.ofW (cc := cX6_markOf) (maxL := 8) (ret := (some .int)) (by decide) rfl ?_
  intro pp ee ss mm aa below mt cd s₁ BB hml hv
  obtain ⟨rfl, hP, hK⟩ := hv
  have hx := BB.exec
  have hb := BB.bytes
  have hr := BB.returns
  have hts := atoms_spec (ws := wsX6_markOf) BB.pre
  have hown : ss.vm.findClass RX6 = some mm.cls := findClass_of_methodNamed BB.named
  have hlocks := BB.notSynchronized
  have hS : va_S (fun _ => False) ss.heap ss.heap [] := va_S.rf
  replace hP : xP G [oC ko 6 [.ref (ad 0), .ref (ad 1), .int (nI w), .int (nI h), .int (nI la), .ref (ad 2), .int (mv 0), .int (mv 1), .int (mv 2), .int (mv 3), .int (mv 4), .int (mv 5), .int (mv 6), .ref (ad 3), .int (nI tp), .int (mv 7), .int (mv 8), .int (mv 9), .int (mv 10), .int ft, .int (mv 11), .ref (ad 4), .ref (ad 5), .ref (ad 6), .ref (ad 7), .ref (ad 8), .ref (ad 9), .ref (ad 10), .int tr], iA G (ad 0) 255 S] ss.heap := hP
  have hin6 : ∀ w ∈ u_ws RX6 TX6 29, w ∈ wsX6_markOf := fun w h => List.mem_cons_of_mem _ (List.mem_append_right _ h)
  have hl := lv_entry ([.ref ko, .int (nI c), .int (nI d)]) (n := 8) (Nat.le_of_ble_eq_true rfl)
  rw [lg_entry_eq]
  generalize (lg_sl ([.ref ko, .int (nI c), .int (nI d)]) ++ List.replicate (8 - (lg_sl ([.ref ko, .int (nI c), .int (nI d)])).length) Slot.unset).toArray = ls at hl ⊢
  replace hl : lv_has ls 8 [(0, .ref ko), (1, .int (nI c)), (2, .int (nI d))] := hl
  refine lv_aload_n hx hb dX6_markOf_0 rfl (lv_at hl 0 rfl) ?_
  refine va_get (D := G.1) (ci := 6) (v := .ref (ad 0)) (C := RX6) (T := TX6) (N := 29) hx hb hts hin6 hown hK.1 hP 0 rfl rfl 0 (by decide) (hts (.fieldLink RX6 7 "BackLensesModel" "st" "[I") (List.mem_of_getElem? (i := 1) rfl)) (fun _ h9 => h9) rfl dX6_markOf_1 ?_
  refine lv_iconst (v := nI 0) hx hb dX6_markOf_4 (by decide) ?_
  refine lv_iload_n hx hb dX6_markOf_5 rfl (lv_at hl 1 rfl) ?_
  refine xn_iadd hx hb dX6_markOf_6 ?_
  refine xn_iald hx hb hK hP 1 rfl (by omega) (by omega) dX6_markOf_7 ?_
  refine lv_istore_n (lv' := [(3, .int (S (0 + c))), (0, .ref ko), (1, .int (nI c)), (2, .int (nI d))]) hx hb dX6_markOf_8 rfl hl (by decide) rfl (fun ls hl => ?_)
  refine lv_bipush (v := (-4)) hx hb dX6_markOf_9 (by decide) ?_
  refine lv_istore (lv' := [(4, .int (-4)), (3, .int (S (0 + c))), (0, .ref ko), (1, .int (nI c)), (2, .int (nI d))]) hx hb dX6_markOf_11 hl (by decide) rfl (fun ls hl => ?_)
  refine lv_iconst (v := nI 0) hx hb dX6_markOf_13 (by decide) ?_
  refine lv_istore (lv' := [(5, .int (nI 0)), (4, .int (-4)), (3, .int (S (0 + c))), (0, .ref ko), (1, .int (nI c)), (2, .int (nI d))]) hx hb dX6_markOf_14 hl (by decide) rfl (fun ls hl => ?_)
  have hL16 : ∀ k : Nat, ∀ (i : Nat) (fo : Int32) (lt : Int32) (ls : Array Slot) (H : Heap) (locs : List Loc), nc - i = k → (i ≤ nc) → ((fo, lt) = mkR S c d i) → lv_has ls 8 [(0, .ref ko), (1, .int (nI c)), (2, .int (nI d)), (3, .int fo), (4, .int lt), (5, .int (nI i))] → xP G [iA G (ad 0) 255 S, oC ko 6 [.ref (ad 0), .ref (ad 1), .int (nI w), .int (nI h), .int (nI la), .ref (ad 2), .int (mv 0), .int (mv 1), .int (mv 2), .int (mv 3), .int (mv 4), .int (mv 5), .int (mv 6), .ref (ad 3), .int (nI tp), .int (mv 7), .int (mv 8), .int (mv 9), .int (mv 10), .int ft, .int (mv 11), .ref (ad 4), .ref (ad 5), .ref (ad 6), .ref (ad 7), .ref (ad 8), .ref (ad 9), .ref (ad 10), .int tr]] H → va_S (fun _ => False) ss.heap H locs → W pp l ee ({ frames := 0, cells := 0, slots := 0, locals := 0 } : Room) ss mm ([.ref ko, .int (nI c), .int (nI d)] : List Value).toArray below mt cd H locs 0 0 (MQ below (Q_X6_markOf G ko ad w h la tp ft tr mv S nc c d) ([.ref ko, .int (nI c), .int (nI d)] : List Value).toArray ss 0 0 (fun _ => False)) (F0 mm 16 ls []) := by
    intro k
    induction k using Nat.strongRecOn with
    | _ k ih16 =>
    intro i fo lt ls H locs hm16 hi hm hl hP hS
    refine lv_iload hx hb dX6_markOf_16 (lv_at hl 5 rfl) ?_
    refine lv_aload_n hx hb dX6_markOf_18 rfl (lv_at hl 0 rfl) ?_
    refine va_get (D := G.1) (ci := 6) (v := .ref (ad 0)) (C := RX6) (T := TX6) (N := 29) hx hb hts hin6 hown hK.1 hP 1 rfl rfl 0 (by decide) (hts (.fieldLink RX6 7 "BackLensesModel" "st" "[I") (List.mem_of_getElem? (i := 1) rfl)) (fun _ h9 => h9) rfl dX6_markOf_19 ?_
    refine lv_bipush (v := nI 16) hx hb dX6_markOf_22 (by decide) ?_
    refine xn_iald hx hb hK hP 0 rfl (by omega) (by omega) dX6_markOf_24 ?_
    refine xn_top hs16 ?_
    refine xn_icmp_ge (tgt := 124) hx hb (by omega) (by omega) dX6_markOf_25 rfl (fun b25 => ?_) (fun b25 => ?_)
    · skip
      refine lv_iload_n hx hb dX6_markOf_124 rfl (lv_at hl 3 rfl) ?_
      refine W.iret (v := fo) hx hb hr (fun t ht hW => ⟨⟨fo, (), rfl, ?_, trivial⟩, hS.F ht⟩) hS.2.2 dX6_markOf_125
      show fo = (mkR S c d nc).1; rw [show nc = i by omega, ← hm]
    · skip
      refine lv_bipush (v := nI 17) hx hb dX6_markOf_28 (by decide) ?_
      refine lv_iconst (v := nI 3) hx hb dX6_markOf_30 (by decide) ?_
      refine lv_iload hx hb dX6_markOf_31 (lv_at hl 5 rfl) ?_
      refine xn_imul hx hb dX6_markOf_33 ?_
      refine xn_iadd hx hb dX6_markOf_34 ?_
      refine lv_istore (lv' := [(6, .int (nI (17 + (3 * i)))), (0, .ref ko), (1, .int (nI c)), (2, .int (nI d)), (3, .int fo), (4, .int lt), (5, .int (nI i))]) hx hb dX6_markOf_35 hl (by decide) rfl (fun ls hl => ?_)
      refine lv_aload_n hx hb dX6_markOf_37 rfl (lv_at hl 1 rfl) ?_
      refine va_get (D := G.1) (ci := 6) (v := .ref (ad 0)) (C := RX6) (T := TX6) (N := 29) hx hb hts hin6 hown hK.1 hP 1 rfl rfl 0 (by decide) (hts (.fieldLink RX6 7 "BackLensesModel" "st" "[I") (List.mem_of_getElem? (i := 1) rfl)) (fun _ h9 => h9) rfl dX6_markOf_38 ?_
      refine lv_iload hx hb dX6_markOf_41 (lv_at hl 0 rfl) ?_
      refine lv_iconst (v := nI 1) hx hb dX6_markOf_43 (by decide) ?_
      refine xn_iadd hx hb dX6_markOf_44 ?_
      refine xn_iald hx hb hK hP 0 rfl (by omega) (by omega) dX6_markOf_45 ?_
      refine lv_iload_n hx hb dX6_markOf_46 rfl (lv_at hl 2 rfl) ?_
      refine lv_icmp_ne (tgt := 77) hx hb dX6_markOf_47 rfl (fun b47 => ?_) (fun b47 => ?_)
      · skip
        refine lv_iconst (v := nI 0) hx hb dX6_markOf_77 (by decide) ?_
        refine lv_istore (lv' := [(7, .int (nI 0)), (6, .int (nI (17 + (3 * i)))), (0, .ref ko), (1, .int (nI c)), (2, .int (nI d)), (3, .int fo), (4, .int lt), (5, .int (nI i))]) hx hb dX6_markOf_78 hl (by decide) rfl (fun ls hl => ?_)
        refine lv_iload hx hb dX6_markOf_80 (lv_at hl 0 rfl) ?_
        refine xn_if_eq (tgt := 97) hx hb (by omega) dX6_markOf_82 rfl (fun _ => ?_) (fun b82 => absurd b82 (by omega))
        refine lv_iload_n hx hb dX6_markOf_97 rfl (lv_at hl 5 rfl) ?_
        refine lv_istore_n (lv' := [(3, .int fo), (7, .int (nI 0)), (6, .int (nI (17 + (3 * i)))), (0, .ref ko), (1, .int (nI c)), (2, .int (nI d)), (4, .int lt), (5, .int (nI i))]) hx hb dX6_markOf_98 rfl hl (by decide) rfl (fun ls hl => ?_)
        refine lv_iload hx hb dX6_markOf_99 (lv_at hl 1 rfl) ?_
        refine xn_if_eq (tgt := 114) hx hb (by omega) dX6_markOf_101 rfl (fun _ => ?_) (fun b101 => absurd b101 (by omega))
        refine lv_iload hx hb dX6_markOf_114 (lv_at hl 6 rfl) ?_
        refine lv_istore (lv' := [(4, .int lt), (3, .int fo), (7, .int (nI 0)), (6, .int (nI (17 + (3 * i)))), (0, .ref ko), (1, .int (nI c)), (2, .int (nI d)), (5, .int (nI i))]) hx hb dX6_markOf_116 hl (by decide) rfl (fun ls hl => ?_)
        refine lv_iinc (k := 7) (v := nI (i + 1)) (lv' := [(5, .int (nI (i + 1))), (4, .int lt), (3, .int fo), (7, .int (nI 0)), (6, .int (nI (17 + (3 * i)))), (0, .ref ko), (1, .int (nI c)), (2, .int (nI d))]) hx hb dX6_markOf_118 hl rfl (xn_inc i 1) (by decide) rfl (fun ls hl => ?_)
        refine lv_goto (tgt := 16) hx hb dX6_markOf_121 rfl ?_
        have hl := lv_sub hl (l' := [(0, .ref ko), (1, .int (nI c)), (2, .int (nI d)), (3, .int fo), (4, .int lt), (5, .int (nI (i + 1)))]) [5, 6, 7, 2, 1, 0] rfl
        exact ih16 (nc - (i + 1)) (by omega) (i + 1) fo lt ls H locs rfl (by omega) (by rw [mkR, ← hm]; first | exact (if_neg (fun q => b47 q.1)).symm | exact (if_neg (fun q => absurd q.2.1 (by omega))).symm | exact (if_neg (fun q => absurd q.2.2 (by dsimp only; omega))).symm | exact (if_pos ⟨b47, by omega, by dsimp only; omega⟩).symm) hl hP hS
      · skip
        refine lv_aload_n hx hb dX6_markOf_50 rfl (lv_at hl 1 rfl) ?_
        refine va_get (D := G.1) (ci := 6) (v := .ref (ad 0)) (C := RX6) (T := TX6) (N := 29) hx hb hts hin6 hown hK.1 hP 1 rfl rfl 0 (by decide) (hts (.fieldLink RX6 7 "BackLensesModel" "st" "[I") (List.mem_of_getElem? (i := 1) rfl)) (fun _ h9 => h9) rfl dX6_markOf_51 ?_
        refine lv_iload hx hb dX6_markOf_54 (lv_at hl 0 rfl) ?_
        refine xn_iald hx hb hK hP 0 rfl (by omega) (by omega) dX6_markOf_56 ?_
        refine lv_iload_n hx hb dX6_markOf_57 rfl (lv_at hl 3 rfl) ?_
        refine xm_icmp_gt (tgt := 77) hx hb (by omega) dX6_markOf_58 rfl (fun b58 => ?_) (fun b58 => ?_)
        · skip
          refine lv_iconst (v := nI 0) hx hb dX6_markOf_77 (by decide) ?_
          refine lv_istore (lv' := [(7, .int (nI 0)), (6, .int (nI (17 + (3 * i)))), (0, .ref ko), (1, .int (nI c)), (2, .int (nI d)), (3, .int fo), (4, .int lt), (5, .int (nI i))]) hx hb dX6_markOf_78 hl (by decide) rfl (fun ls hl => ?_)
          refine lv_iload hx hb dX6_markOf_80 (lv_at hl 0 rfl) ?_
          refine xn_if_eq (tgt := 97) hx hb (by omega) dX6_markOf_82 rfl (fun _ => ?_) (fun b82 => absurd b82 (by omega))
          refine lv_iload_n hx hb dX6_markOf_97 rfl (lv_at hl 5 rfl) ?_
          refine lv_istore_n (lv' := [(3, .int fo), (7, .int (nI 0)), (6, .int (nI (17 + (3 * i)))), (0, .ref ko), (1, .int (nI c)), (2, .int (nI d)), (4, .int lt), (5, .int (nI i))]) hx hb dX6_markOf_98 rfl hl (by decide) rfl (fun ls hl => ?_)
          refine lv_iload hx hb dX6_markOf_99 (lv_at hl 1 rfl) ?_
          refine xn_if_eq (tgt := 114) hx hb (by omega) dX6_markOf_101 rfl (fun _ => ?_) (fun b101 => absurd b101 (by omega))
          refine lv_iload hx hb dX6_markOf_114 (lv_at hl 6 rfl) ?_
          refine lv_istore (lv' := [(4, .int lt), (3, .int fo), (7, .int (nI 0)), (6, .int (nI (17 + (3 * i)))), (0, .ref ko), (1, .int (nI c)), (2, .int (nI d)), (5, .int (nI i))]) hx hb dX6_markOf_116 hl (by decide) rfl (fun ls hl => ?_)
          refine lv_iinc (k := 7) (v := nI (i + 1)) (lv' := [(5, .int (nI (i + 1))), (4, .int lt), (3, .int fo), (7, .int (nI 0)), (6, .int (nI (17 + (3 * i)))), (0, .ref ko), (1, .int (nI c)), (2, .int (nI d))]) hx hb dX6_markOf_118 hl rfl (xn_inc i 1) (by decide) rfl (fun ls hl => ?_)
          refine lv_goto (tgt := 16) hx hb dX6_markOf_121 rfl ?_
          have hl := lv_sub hl (l' := [(0, .ref ko), (1, .int (nI c)), (2, .int (nI d)), (3, .int fo), (4, .int lt), (5, .int (nI (i + 1)))]) [5, 6, 7, 2, 1, 0] rfl
          exact ih16 (nc - (i + 1)) (by omega) (i + 1) fo lt ls H locs rfl (by omega) (by rw [mkR, ← hm]; first | exact (if_neg (fun q => b47 q.1)).symm | exact (if_neg (fun q => absurd q.2.1 (by omega))).symm | exact (if_neg (fun q => absurd q.2.2 (by dsimp only; omega))).symm | exact (if_pos ⟨b47, by omega, by dsimp only; omega⟩).symm) hl hP hS
        · skip
          refine lv_aload_n hx hb dX6_markOf_61 rfl (lv_at hl 1 rfl) ?_
          refine va_get (D := G.1) (ci := 6) (v := .ref (ad 0)) (C := RX6) (T := TX6) (N := 29) hx hb hts hin6 hown hK.1 hP 1 rfl rfl 0 (by decide) (hts (.fieldLink RX6 7 "BackLensesModel" "st" "[I") (List.mem_of_getElem? (i := 1) rfl)) (fun _ h9 => h9) rfl dX6_markOf_62 ?_
          refine lv_iload hx hb dX6_markOf_65 (lv_at hl 0 rfl) ?_
          refine xn_iald hx hb hK hP 0 rfl (by omega) (by omega) dX6_markOf_67 ?_
          refine lv_iload hx hb dX6_markOf_68 (lv_at hl 5 rfl) ?_
          refine xi_icmp_lt (tgt := 77) hx hb dX6_markOf_70 rfl (fun b70 => ?_) (fun b70 => ?_)
          · skip
            refine lv_iconst (v := nI 0) hx hb dX6_markOf_77 (by decide) ?_
            refine lv_istore (lv' := [(7, .int (nI 0)), (6, .int (nI (17 + (3 * i)))), (0, .ref ko), (1, .int (nI c)), (2, .int (nI d)), (3, .int fo), (4, .int lt), (5, .int (nI i))]) hx hb dX6_markOf_78 hl (by decide) rfl (fun ls hl => ?_)
            refine lv_iload hx hb dX6_markOf_80 (lv_at hl 0 rfl) ?_
            refine xn_if_eq (tgt := 97) hx hb (by omega) dX6_markOf_82 rfl (fun _ => ?_) (fun b82 => absurd b82 (by omega))
            refine lv_iload_n hx hb dX6_markOf_97 rfl (lv_at hl 5 rfl) ?_
            refine lv_istore_n (lv' := [(3, .int fo), (7, .int (nI 0)), (6, .int (nI (17 + (3 * i)))), (0, .ref ko), (1, .int (nI c)), (2, .int (nI d)), (4, .int lt), (5, .int (nI i))]) hx hb dX6_markOf_98 rfl hl (by decide) rfl (fun ls hl => ?_)
            refine lv_iload hx hb dX6_markOf_99 (lv_at hl 1 rfl) ?_
            refine xn_if_eq (tgt := 114) hx hb (by omega) dX6_markOf_101 rfl (fun _ => ?_) (fun b101 => absurd b101 (by omega))
            refine lv_iload hx hb dX6_markOf_114 (lv_at hl 6 rfl) ?_
            refine lv_istore (lv' := [(4, .int lt), (3, .int fo), (7, .int (nI 0)), (6, .int (nI (17 + (3 * i)))), (0, .ref ko), (1, .int (nI c)), (2, .int (nI d)), (5, .int (nI i))]) hx hb dX6_markOf_116 hl (by decide) rfl (fun ls hl => ?_)
            refine lv_iinc (k := 7) (v := nI (i + 1)) (lv' := [(5, .int (nI (i + 1))), (4, .int lt), (3, .int fo), (7, .int (nI 0)), (6, .int (nI (17 + (3 * i)))), (0, .ref ko), (1, .int (nI c)), (2, .int (nI d))]) hx hb dX6_markOf_118 hl rfl (xn_inc i 1) (by decide) rfl (fun ls hl => ?_)
            refine lv_goto (tgt := 16) hx hb dX6_markOf_121 rfl ?_
            have hl := lv_sub hl (l' := [(0, .ref ko), (1, .int (nI c)), (2, .int (nI d)), (3, .int fo), (4, .int lt), (5, .int (nI (i + 1)))]) [5, 6, 7, 2, 1, 0] rfl
            exact ih16 (nc - (i + 1)) (by omega) (i + 1) fo lt ls H locs rfl (by omega) (by rw [mkR, ← hm]; first | exact (if_neg (fun q => b47 q.1)).symm | exact (if_neg (fun q => absurd q.2.1 (by omega))).symm | exact (if_neg (fun q => absurd q.2.2 (by dsimp only; omega))).symm | exact (if_pos ⟨b47, by omega, by dsimp only; omega⟩).symm) hl hP hS
          · skip
            refine lv_iconst (v := nI 1) hx hb dX6_markOf_73 (by decide) ?_
            refine lv_goto (tgt := 78) hx hb dX6_markOf_74 rfl ?_
            refine lv_istore (lv' := [(7, .int (nI 1)), (6, .int (nI (17 + (3 * i)))), (0, .ref ko), (1, .int (nI c)), (2, .int (nI d)), (3, .int fo), (4, .int lt), (5, .int (nI i))]) hx hb dX6_markOf_78 hl (by decide) rfl (fun ls hl => ?_)
            refine lv_iload hx hb dX6_markOf_80 (lv_at hl 0 rfl) ?_
            refine xn_if_eq (tgt := 97) hx hb (by omega) dX6_markOf_82 rfl (fun b82 => absurd b82 (by omega)) (fun _ => ?_)
            refine lv_aload_n hx hb dX6_markOf_85 rfl (lv_at hl 2 rfl) ?_
            refine va_get (D := G.1) (ci := 6) (v := .ref (ad 0)) (C := RX6) (T := TX6) (N := 29) hx hb hts hin6 hown hK.1 hP 1 rfl rfl 0 (by decide) (hts (.fieldLink RX6 7 "BackLensesModel" "st" "[I") (List.mem_of_getElem? (i := 1) rfl)) (fun _ h9 => h9) rfl dX6_markOf_86 ?_
            refine lv_iload hx hb dX6_markOf_89 (lv_at hl 1 rfl) ?_
            refine lv_iconst (v := nI 2) hx hb dX6_markOf_91 (by decide) ?_
            refine xn_iadd hx hb dX6_markOf_92 ?_
            refine xn_iald hx hb hK hP 0 rfl (by omega) (by omega) dX6_markOf_93 ?_
            refine lv_goto (tgt := 98) hx hb dX6_markOf_94 rfl ?_
            refine lv_istore_n (lv' := [(3, .int (S ((17 + (3 * i)) + 2))), (7, .int (nI 1)), (6, .int (nI (17 + (3 * i)))), (0, .ref ko), (1, .int (nI c)), (2, .int (nI d)), (4, .int lt), (5, .int (nI i))]) hx hb dX6_markOf_98 rfl hl (by decide) rfl (fun ls hl => ?_)
            refine lv_iload hx hb dX6_markOf_99 (lv_at hl 1 rfl) ?_
            refine xn_if_eq (tgt := 114) hx hb (by omega) dX6_markOf_101 rfl (fun b101 => absurd b101 (by omega)) (fun _ => ?_)
            refine lv_aload_n hx hb dX6_markOf_104 rfl (lv_at hl 3 rfl) ?_
            refine va_get (D := G.1) (ci := 6) (v := .ref (ad 0)) (C := RX6) (T := TX6) (N := 29) hx hb hts hin6 hown hK.1 hP 1 rfl rfl 0 (by decide) (hts (.fieldLink RX6 7 "BackLensesModel" "st" "[I") (List.mem_of_getElem? (i := 1) rfl)) (fun _ h9 => h9) rfl dX6_markOf_105 ?_
            refine lv_iload hx hb dX6_markOf_108 (lv_at hl 2 rfl) ?_
            refine xn_iald hx hb hK hP 0 rfl (by omega) (by omega) dX6_markOf_110 ?_
            refine lv_goto (tgt := 116) hx hb dX6_markOf_111 rfl ?_
            refine lv_istore (lv' := [(4, .int (S (17 + (3 * i)))), (3, .int (S ((17 + (3 * i)) + 2))), (7, .int (nI 1)), (6, .int (nI (17 + (3 * i)))), (0, .ref ko), (1, .int (nI c)), (2, .int (nI d)), (5, .int (nI i))]) hx hb dX6_markOf_116 hl (by decide) rfl (fun ls hl => ?_)
            refine lv_iinc (k := 7) (v := nI (i + 1)) (lv' := [(5, .int (nI (i + 1))), (4, .int (S (17 + (3 * i)))), (3, .int (S ((17 + (3 * i)) + 2))), (7, .int (nI 1)), (6, .int (nI (17 + (3 * i)))), (0, .ref ko), (1, .int (nI c)), (2, .int (nI d))]) hx hb dX6_markOf_118 hl rfl (xn_inc i 1) (by decide) rfl (fun ls hl => ?_)
            refine lv_goto (tgt := 16) hx hb dX6_markOf_121 rfl ?_
            have hl := lv_sub hl (l' := [(0, .ref ko), (1, .int (nI c)), (2, .int (nI d)), (3, .int (S ((17 + (3 * i)) + 2))), (4, .int (S (17 + (3 * i)))), (5, .int (nI (i + 1)))]) [5, 6, 7, 2, 1, 0] rfl
            exact ih16 (nc - (i + 1)) (by omega) (i + 1) (S ((17 + (3 * i)) + 2)) (S (17 + (3 * i))) ls H locs rfl (by omega) (by rw [mkR, ← hm]; first | exact (if_neg (fun q => b47 q.1)).symm | exact (if_neg (fun q => absurd q.2.1 (by omega))).symm | exact (if_neg (fun q => absurd q.2.2 (by dsimp only; omega))).symm | exact (if_pos ⟨b47, by omega, by dsimp only; omega⟩).symm) hl hP hS
  have hl := lv_sub hl (l' := [(0, .ref ko), (1, .int (nI c)), (2, .int (nI d)), (3, .int (S (0 + c))), (4, .int (-4)), (5, .int (nI 0))]) [3, 4, 5, 2, 1, 0] rfl
  have hP := hP.sub (ws' := [iA G (ad 0) 255 S, oC ko 6 [.ref (ad 0), .ref (ad 1), .int (nI w), .int (nI h), .int (nI la), .ref (ad 2), .int (mv 0), .int (mv 1), .int (mv 2), .int (mv 3), .int (mv 4), .int (mv 5), .int (mv 6), .ref (ad 3), .int (nI tp), .int (mv 7), .int (mv 8), .int (mv 9), .int (mv 10), .int ft, .int (mv 11), .ref (ad 4), .ref (ad 5), .ref (ad 6), .ref (ad 7), .ref (ad 8), .ref (ad 9), .ref (ad 10), .int tr]]) [1, 0] rfl
  exact hL16 (nc - 0) 0 (S (0 + c)) (-4) ls ss.heap [] rfl (by omega) (by rw [show 0 + c = c by omega]; rfl) hl hP hS

abbrev w_X6_shiftTo (G : XG) (ko : Nat) (ad : Nat → Nat) (w h la tp : Nat) (ft tr : Int32) (mv : Nat → Int32) (S : Nat → Int32) (mk : Nat → Int32) : va_W := [oC ko 6 [.ref (ad 0), .ref (ad 1), .int (nI w), .int (nI h), .int (nI la), .ref (ad 2), .int (mv 0), .int (mv 1), .int (mv 2), .int (mv 3), .int (mv 4), .int (mv 5), .int (mv 6), .ref (ad 3), .int (nI tp), .int (mv 7), .int (mv 8), .int (mv 9), .int (mv 10), .int ft, .int (mv 11), .ref (ad 4), .ref (ad 5), .ref (ad 6), .ref (ad 7), .ref (ad 8), .ref (ad 9), .ref (ad 10), .int tr], iA G (ad 0) 255 S, iA G (ad 4) 16 mk]
abbrev Q_X6_shiftTo (G : XG) (sz : Nat) (ko : Nat) (ad : Nat → Nat) (w h la tp : Nat) (ft tr : Int32) (mv : Nat → Int32) (S : Nat → Int32) (mk : Nat → Int32) (nc d : Nat) : Array Value → State → Outcome → State → Prop := (va_Qv (fun (u : (Nat → Int32)) => (∀ c, c < 16 → u c = mkM S nc c d)) (xWb G sz (w_X6_shiftTo G ko ad w h la tp ft tr mv S mk) (fun u : (Nat → Int32) => [oC ko 6 [.ref (ad 0), .ref (ad 1), .int (nI w), .int (nI h), .int (nI la), .ref (ad 2), .int (mv 0), .int (mv 1), .int (mv 2), .int (mv 3), .int (mv 4), .int (mv 5), .int (mv 6), .ref (ad 3), .int (nI tp), .int (mv 7), .int (mv 8), .int (mv 9), .int (mv 10), .int ft, .int (mv 11), .ref (ad 4), .ref (ad 5), .ref (ad 6), .ref (ad 7), .ref (ad 8), .ref (ad 9), .ref (ad 10), .int tr], iA G (ad 0) 255 S, iA G (ad 4) 16 u])) (va_A (w_X6_shiftTo G ko ad w h la tp ft tr mv S mk) sz))
set_option maxHeartbeats 4000000 in
set_option maxRecDepth 100000 in
theorem c_X6_shiftTo (l : Launch) (G : XG) (sz : Nat) (ko : Nat) (ad : Nat → Nat) (w h la tp : Nat) (ft tr : Int32) (mv : Nat → Int32) (S : Nat → Int32) (mk : Nat → Int32) (nc d : Nat) (hs16 : S 16 = nI nc) (hnc : nc ≤ 10) (hd : d ≤ 100) : Met l yX6_shiftTo wsX6_shiftTo ({ frames := 1, cells := 0, slots := 0, locals := 27 } : Room) (va_Pc [.ref ko, .int (nI d)] (xWp G sz (w_X6_shiftTo G ko ad w h la tp ft tr mv S mk))) (Q_X6_shiftTo G sz ko ad w h la tp ft tr mv S mk nc d) 0 0 (va_A (w_X6_shiftTo G ko ad w h la tp ft tr mv S mk) sz) := by
  refine Met.ofW (cc := cX6_shiftTo) (maxL := 3) (ret := none) (by decide) rfl ?_
  intro pp ee ss mm aa below mt cd s₁ BB hml hv
  obtain ⟨rfl, hsz, hP, hK, hD0⟩ := hv
  have hx := BB.exec
  have hb := BB.bytes
  have hr := BB.returns
  have hts := atoms_spec (ws := wsX6_shiftTo) BB.pre
  have hown : ss.vm.findClass RX6 = some mm.cls := findClass_of_methodNamed BB.named
  have hlocks := BB.notSynchronized
  subst hsz
  have hD := hD0.self (sz := ss.heap.size)
  have hA : ∀ q : Nat, ss.heap.size ≤ q → va_A (w_X6_shiftTo G ko ad w h la tp ft tr mv S mk) ss.heap.size q := fun q h => Or.inr h
  have hS : va_S (va_A (w_X6_shiftTo G ko ad w h la tp ft tr mv S mk) ss.heap.size) ss.heap ss.heap [] := va_S.rf
  replace hD : va_D (va_A (w_X6_shiftTo G ko ad w h la tp ft tr mv S mk) ss.heap.size) [oC ko 6 [.ref (ad 0), .ref (ad 1), .int (nI w), .int (nI h), .int (nI la), .ref (ad 2), .int (mv 0), .int (mv 1), .int (mv 2), .int (mv 3), .int (mv 4), .int (mv 5), .int (mv 6), .ref (ad 3), .int (nI tp), .int (mv 7), .int (mv 8), .int (mv 9), .int (mv 10), .int ft, .int (mv 11), .ref (ad 4), .ref (ad 5), .ref (ad 6), .ref (ad 7), .ref (ad 8), .ref (ad 9), .ref (ad 10), .int tr], iA G (ad 0) 255 S, iA G (ad 4) 16 mk] := hD
  replace hP : xP G [oC ko 6 [.ref (ad 0), .ref (ad 1), .int (nI w), .int (nI h), .int (nI la), .ref (ad 2), .int (mv 0), .int (mv 1), .int (mv 2), .int (mv 3), .int (mv 4), .int (mv 5), .int (mv 6), .ref (ad 3), .int (nI tp), .int (mv 7), .int (mv 8), .int (mv 9), .int (mv 10), .int ft, .int (mv 11), .ref (ad 4), .ref (ad 5), .ref (ad 6), .ref (ad 7), .ref (ad 8), .ref (ad 9), .ref (ad 10), .int tr], iA G (ad 0) 255 S, iA G (ad 4) 16 mk] ss.heap := hP
  have hin6 : ∀ w ∈ u_ws RX6 TX6 29, w ∈ wsX6_shiftTo := fun w h => List.mem_cons_of_mem _ (List.mem_append_right _ h)
  have hl := lv_entry ([.ref ko, .int (nI d)]) (n := 3) (Nat.le_of_ble_eq_true rfl)
  rw [lg_entry_eq]
  generalize (lg_sl ([.ref ko, .int (nI d)]) ++ List.replicate (3 - (lg_sl ([.ref ko, .int (nI d)])).length) Slot.unset).toArray = ls at hl ⊢
  replace hl : lv_has ls 3 [(0, .ref ko), (1, .int (nI d))] := hl
  refine lv_iconst (v := nI 0) hx hb dX6_shiftTo_0 (by decide) ?_
  refine lv_istore_n (lv' := [(2, .int (nI 0)), (0, .ref ko), (1, .int (nI d))]) hx hb dX6_shiftTo_1 rfl hl (by decide) rfl (fun ls hl => ?_)
  have hL2 : ∀ k : Nat, ∀ (c : Nat) (mk2 : Nat → Int32) (ls : Array Slot) (H : Heap) (locs : List Loc), 16 - c = k → (c ≤ 16) → (∀ i, i < c → mk2 i = mkM S nc i d) → lv_has ls 3 [(0, .ref ko), (1, .int (nI d)), (2, .int (nI c))] → xP G [iA G (ad 0) 255 S, iA G (ad 4) 16 mk2, oC ko 6 [.ref (ad 0), .ref (ad 1), .int (nI w), .int (nI h), .int (nI la), .ref (ad 2), .int (mv 0), .int (mv 1), .int (mv 2), .int (mv 3), .int (mv 4), .int (mv 5), .int (mv 6), .ref (ad 3), .int (nI tp), .int (mv 7), .int (mv 8), .int (mv 9), .int (mv 10), .int ft, .int (mv 11), .ref (ad 4), .ref (ad 5), .ref (ad 6), .ref (ad 7), .ref (ad 8), .ref (ad 9), .ref (ad 10), .int tr]] H → va_D (va_A (w_X6_shiftTo G ko ad w h la tp ft tr mv S mk) ss.heap.size) [iA G (ad 0) 255 S, iA G (ad 4) 16 mk2, oC ko 6 [.ref (ad 0), .ref (ad 1), .int (nI w), .int (nI h), .int (nI la), .ref (ad 2), .int (mv 0), .int (mv 1), .int (mv 2), .int (mv 3), .int (mv 4), .int (mv 5), .int (mv 6), .ref (ad 3), .int (nI tp), .int (mv 7), .int (mv 8), .int (mv 9), .int (mv 10), .int ft, .int (mv 11), .ref (ad 4), .ref (ad 5), .ref (ad 6), .ref (ad 7), .ref (ad 8), .ref (ad 9), .ref (ad 10), .int tr]] → va_S (va_A (w_X6_shiftTo G ko ad w h la tp ft tr mv S mk) ss.heap.size) ss.heap H locs → W pp l ee ({ frames := 1, cells := 0, slots := 0, locals := 27 } : Room) ss mm ([.ref ko, .int (nI d)] : List Value).toArray below mt cd H locs 0 0 (MQ below (Q_X6_shiftTo G ss.heap.size ko ad w h la tp ft tr mv S mk nc d) ([.ref ko, .int (nI d)] : List Value).toArray ss 0 0 (va_A (w_X6_shiftTo G ko ad w h la tp ft tr mv S mk) ss.heap.size)) (F0 mm 2 ls []) := by
    intro k
    induction k using Nat.strongRecOn with
    | _ k ih2 =>
    intro c mk2 ls H locs hm2 hc hmk hl hP hD hS
    refine lv_iload_n hx hb dX6_shiftTo_2 rfl (lv_at hl 2 rfl) ?_
    refine lv_bipush (v := nI 16) hx hb dX6_shiftTo_3 (by decide) ?_
    refine xn_icmp_ge (tgt := 26) hx hb (by omega) (by omega) dX6_shiftTo_5 rfl (fun b5 => ?_) (fun b5 => ?_)
    · skip
      have hP := hP.sub (ws' := [oC ko 6 [.ref (ad 0), .ref (ad 1), .int (nI w), .int (nI h), .int (nI la), .ref (ad 2), .int (mv 0), .int (mv 1), .int (mv 2), .int (mv 3), .int (mv 4), .int (mv 5), .int (mv 6), .ref (ad 3), .int (nI tp), .int (mv 7), .int (mv 8), .int (mv 9), .int (mv 10), .int ft, .int (mv 11), .ref (ad 4), .ref (ad 5), .ref (ad 6), .ref (ad 7), .ref (ad 8), .ref (ad 9), .ref (ad 10), .int tr], iA G (ad 0) 255 S, iA G (ad 4) 16 mk2]) [2, 0, 1] rfl
      have hD := hD.sub (ws' := [oC ko 6 [.ref (ad 0), .ref (ad 1), .int (nI w), .int (nI h), .int (nI la), .ref (ad 2), .int (mv 0), .int (mv 1), .int (mv 2), .int (mv 3), .int (mv 4), .int (mv 5), .int (mv 6), .ref (ad 3), .int (nI tp), .int (mv 7), .int (mv 8), .int (mv 9), .int (mv 10), .int ft, .int (mv 11), .ref (ad 4), .ref (ad 5), .ref (ad 6), .ref (ad 7), .ref (ad 8), .ref (ad 9), .ref (ad 10), .int tr], iA G (ad 0) 255 S, iA G (ad 4) 16 mk2]) [2, 0, 1] (by decide) rfl
      refine W.vret hx hb hr (fun t ht hW => ⟨⟨(mk2), rfl, ?_, by rw [ht]; exact hP, hD⟩, hS.F ht⟩) hS.2.2 dX6_shiftTo_26
      intro c2 hc2; exact hmk c2 (by omega)
    · skip
      refine lv_aload_n hx hb dX6_shiftTo_8 rfl (lv_at hl 0 rfl) ?_
      refine va_get (D := G.1) (ci := 6) (v := .ref (ad 4)) (C := RX6) (T := TX6) (N := 29) hx hb hts hin6 hown hK.1 hP 2 rfl rfl 21 (by decide) (hts (.fieldLink RX6 23 "BackLensesModel" "marks" "[I") (List.mem_of_getElem? (i := 1) rfl)) (fun _ h9 => h9) rfl dX6_shiftTo_9 ?_
      refine lv_iload_n hx hb dX6_shiftTo_12 rfl (lv_at hl 2 rfl) ?_
      refine lv_aload_n hx hb dX6_shiftTo_13 rfl (lv_at hl 0 rfl) ?_
      refine lv_iload_n hx hb dX6_shiftTo_14 rfl (lv_at hl 2 rfl) ?_
      refine lv_iload_n hx hb dX6_shiftTo_15 rfl (lv_at hl 1 rfl) ?_
      refine xr_i (As := [.int (nI c), .int (nI d)]) (rest := [.int (nI c), .ref (ad 4)]) ⟨hx, hb, hml, hown, hts⟩ (c_X6_markOf l G ko ad w h la tp ft tr mv S _ c d (by first | assumption | omega) (by first | assumption | omega) (by first | assumption | omega) (by first | assumption | omega)) (cwV 2 hts gX6_shiftTo_X6_markOf rfl rfl rfl (by decide +kernel) ⟨Nat.le_of_ble_eq_true rfl, Nat.le_of_ble_eq_true rfl⟩) hK hP hS [2, 0] rfl rfl rfl rfl hl.1 rfl (Nat.le_of_ble_eq_true rfl) dX6_shiftTo_16 ⟨Nat.zero_le _, Nat.zero_le _⟩ (fun r16 H locs hp16 hP hS => ?_)
      rw [show r16 = _ from hp16]
      refine xn_iast hx hb hK hP hD hS 1 rfl (by omega) (by omega) dX6_shiftTo_19 (fun H locs hP hD hS => ?_)
      replace hP : xP G [iA G (ad 0) 255 S, iA G (ad 4) 16 (upd mk2 c (mkM S _ c d)), oC ko 6 [.ref (ad 0), .ref (ad 1), .int (nI w), .int (nI h), .int (nI la), .ref (ad 2), .int (mv 0), .int (mv 1), .int (mv 2), .int (mv 3), .int (mv 4), .int (mv 5), .int (mv 6), .ref (ad 3), .int (nI tp), .int (mv 7), .int (mv 8), .int (mv 9), .int (mv 10), .int ft, .int (mv 11), .ref (ad 4), .ref (ad 5), .ref (ad 6), .ref (ad 7), .ref (ad 8), .ref (ad 9), .ref (ad 10), .int tr]] H := hP
      replace hD : va_D (va_A (w_X6_shiftTo G ko ad w h la tp ft tr mv S mk) ss.heap.size) [iA G (ad 0) 255 S, iA G (ad 4) 16 (upd mk2 c (mkM S _ c d)), oC ko 6 [.ref (ad 0), .ref (ad 1), .int (nI w), .int (nI h), .int (nI la), .ref (ad 2), .int (mv 0), .int (mv 1), .int (mv 2), .int (mv 3), .int (mv 4), .int (mv 5), .int (mv 6), .ref (ad 3), .int (nI tp), .int (mv 7), .int (mv 8), .int (mv 9), .int (mv 10), .int ft, .int (mv 11), .ref (ad 4), .ref (ad 5), .ref (ad 6), .ref (ad 7), .ref (ad 8), .ref (ad 9), .ref (ad 10), .int tr]] := hD
      refine lv_iinc (k := 2) (v := nI (c + 1)) (lv' := [(2, .int (nI (c + 1))), (0, .ref ko), (1, .int (nI d))]) hx hb dX6_shiftTo_20 hl rfl (xn_inc c 1) (by decide) rfl (fun ls hl => ?_)
      refine lv_goto (tgt := 2) hx hb dX6_shiftTo_23 rfl ?_
      have hl := lv_sub hl (l' := [(0, .ref ko), (1, .int (nI d)), (2, .int (nI (c + 1)))]) [1, 2, 0] rfl
      exact ih2 (16 - (c + 1)) (by omega) (c + 1) (upd mk2 c (mkM S _ c d)) ls H locs rfl (by omega) (by intro i hi; unfold upd; by_cases hq : i = c; (subst hq; rw [if_pos rfl]); (rw [if_neg hq]; exact hmk i (by omega))) hl hP hD hS
  have hl := lv_sub hl (l' := [(0, .ref ko), (1, .int (nI d)), (2, .int (nI 0))]) [1, 2, 0] rfl
  have hP := hP.sub (ws' := [iA G (ad 0) 255 S, iA G (ad 4) 16 mk, oC ko 6 [.ref (ad 0), .ref (ad 1), .int (nI w), .int (nI h), .int (nI la), .ref (ad 2), .int (mv 0), .int (mv 1), .int (mv 2), .int (mv 3), .int (mv 4), .int (mv 5), .int (mv 6), .ref (ad 3), .int (nI tp), .int (mv 7), .int (mv 8), .int (mv 9), .int (mv 10), .int ft, .int (mv 11), .ref (ad 4), .ref (ad 5), .ref (ad 6), .ref (ad 7), .ref (ad 8), .ref (ad 9), .ref (ad 10), .int tr]]) [1, 2, 0] rfl
  have hD := hD.sub (ws' := [iA G (ad 0) 255 S, iA G (ad 4) 16 mk, oC ko 6 [.ref (ad 0), .ref (ad 1), .int (nI w), .int (nI h), .int (nI la), .ref (ad 2), .int (mv 0), .int (mv 1), .int (mv 2), .int (mv 3), .int (mv 4), .int (mv 5), .int (mv 6), .ref (ad 3), .int (nI tp), .int (mv 7), .int (mv 8), .int (mv 9), .int (mv 10), .int ft, .int (mv 11), .ref (ad 4), .ref (ad 5), .ref (ad 6), .ref (ad 7), .ref (ad 8), .ref (ad 9), .ref (ad 10), .int tr]]) [1, 2, 0] (by decide) rfl
  exact hL2 (16 - 0) 0 mk ls ss.heap [] rfl (by omega) (by intro i hi; omega) hl hP hD hS

abbrev w_X6_beside_0 (G : XG) (ko : Nat) (ad : Nat → Nat) (w h la tp : Nat) (ft tr : Int32) (mv : Nat → Int32) : va_W := [oC ko 6 [.ref (ad 0), .ref (ad 1), .int (nI w), .int (nI h), .int (nI la), .ref (ad 2), .int (mv 0), .int (mv 1), .int (mv 2), .int (mv 3), .int (mv 4), .int (mv 5), .int (mv 6), .ref (ad 3), .int (nI tp), .int (mv 7), .int (mv 8), .int (mv 9), .int (mv 10), .int ft, .int (mv 11), .ref (ad 4), .ref (ad 5), .ref (ad 6), .ref (ad 7), .ref (ad 8), .ref (ad 9), .ref (ad 10), .int tr]]
abbrev Q_X6_beside_0 (G : XG) (ko : Nat) (ad : Nat → Nat) (w h la tp : Nat) (ft tr : Int32) (mv : Nat → Int32) (c : Nat) : Array Value → State → Outcome → State → Prop := (xRi (fun r => r = (if w ≤ c then nI (c - w) else (-4))))
set_option maxHeartbeats 4000000 in
set_option maxRecDepth 100000 in
theorem c_X6_beside_0 (l : Launch) (G : XG) (ko : Nat) (ad : Nat → Nat) (w h la tp : Nat) (ft tr : Int32) (mv : Nat → Int32) (c : Nat) (hw : 1 ≤ w) (hwb : w ≤ 16) (hc : c < 1000) (hwh : w * h ≤ 16) : Met l yX6_beside wsX6_beside ({ frames := 0, cells := 0, slots := 0, locals := 0 } : Room) (va_Pc [.ref ko, .int (nI c), .int (nI 0)] (xRp G (w_X6_beside_0 G ko ad w h la tp ft tr mv))) (Q_X6_beside_0 G ko ad w h la tp ft tr mv c) 0 0 (fun _ => False) := by
  refine Met.ofW (cc := cX6_beside) (maxL := 3) (ret := (some .int)) (by decide) rfl ?_
  intro pp ee ss mm aa below mt cd s₁ BB hml hv
  obtain ⟨rfl, hP, hK⟩ := hv
  have hx := BB.exec
  have hb := BB.bytes
  have hr := BB.returns
  have hts := atoms_spec (ws := wsX6_beside) BB.pre
  have hown : ss.vm.findClass RX6 = some mm.cls := findClass_of_methodNamed BB.named
  have hlocks := BB.notSynchronized
  have hS : va_S (fun _ => False) ss.heap ss.heap [] := va_S.rf
  replace hP : xP G [oC ko 6 [.ref (ad 0), .ref (ad 1), .int (nI w), .int (nI h), .int (nI la), .ref (ad 2), .int (mv 0), .int (mv 1), .int (mv 2), .int (mv 3), .int (mv 4), .int (mv 5), .int (mv 6), .ref (ad 3), .int (nI tp), .int (mv 7), .int (mv 8), .int (mv 9), .int (mv 10), .int ft, .int (mv 11), .ref (ad 4), .ref (ad 5), .ref (ad 6), .ref (ad 7), .ref (ad 8), .ref (ad 9), .ref (ad 10), .int tr]] ss.heap := hP
  have hin6 : ∀ w ∈ u_ws RX6 TX6 29, w ∈ wsX6_beside := fun w h => List.mem_cons_of_mem _ (List.mem_append_right _ h)
  have hl := lv_entry ([.ref ko, .int (nI c), .int (nI 0)]) (n := 3) (Nat.le_of_ble_eq_true rfl)
  rw [lg_entry_eq]
  generalize (lg_sl ([.ref ko, .int (nI c), .int (nI 0)]) ++ List.replicate (3 - (lg_sl ([.ref ko, .int (nI c), .int (nI 0)])).length) Slot.unset).toArray = ls at hl ⊢
  replace hl : lv_has ls 3 [(0, .ref ko), (1, .int (nI c)), (2, .int (nI 0))] := hl
  refine lv_iload_n hx hb dX6_beside_0 rfl (lv_at hl 2 rfl) ?_
  refine lv_tableIn (off := 27) (tgt := 28) hx hb dX6_beside_1 (by decide) (by decide) rfl rfl ?_
  refine lv_iload_n hx hb dX6_beside_28 rfl (lv_at hl 1 rfl) ?_
  refine lv_aload_n hx hb dX6_beside_29 rfl (lv_at hl 0 rfl) ?_
  refine va_get (D := G.1) (ci := 6) (v := .int (nI w)) (C := RX6) (T := TX6) (N := 29) hx hb hts hin6 hown hK.1 hP 0 rfl rfl 2 (by decide) (hts (.fieldLink RX6 72 "BackLensesModel" "wide" "I") (List.mem_of_getElem? (i := 1) rfl)) (fun _ h9 => h9) rfl dX6_beside_30 ?_
  refine xn_icmp_lt (tgt := 45) hx hb (by omega) (by omega) dX6_beside_33 rfl (fun b33 => ?_) (fun b33 => ?_)
  · skip
    refine lv_bipush (v := (-4)) hx hb dX6_beside_45 (by decide) ?_
    refine W.iret (v := (-4)) hx hb hr (fun t ht hW => ⟨⟨(-4), (), rfl, ?_, trivial⟩, hS.F ht⟩) hS.2.2 dX6_beside_47
    first | exact (if_pos (by omega)).symm | exact (if_neg (by omega)).symm
  · skip
    refine lv_iload_n hx hb dX6_beside_36 rfl (lv_at hl 1 rfl) ?_
    refine lv_aload_n hx hb dX6_beside_37 rfl (lv_at hl 0 rfl) ?_
    refine va_get (D := G.1) (ci := 6) (v := .int (nI w)) (C := RX6) (T := TX6) (N := 29) hx hb hts hin6 hown hK.1 hP 0 rfl rfl 2 (by decide) (hts (.fieldLink RX6 72 "BackLensesModel" "wide" "I") (List.mem_of_getElem? (i := 1) rfl)) (fun _ h9 => h9) rfl dX6_beside_38 ?_
    refine xn_isub hx hb (by omega) dX6_beside_41 ?_
    refine lv_goto (tgt := 47) hx hb dX6_beside_42 rfl ?_
    refine W.iret (v := nI (c - w)) hx hb hr (fun t ht hW => ⟨⟨nI (c - w), (), rfl, ?_, trivial⟩, hS.F ht⟩) hS.2.2 dX6_beside_47
    first | exact (if_pos (by omega)).symm | exact (if_neg (by omega)).symm

abbrev w_X6_beside_1 (G : XG) (ko : Nat) (ad : Nat → Nat) (w h la tp : Nat) (ft tr : Int32) (mv : Nat → Int32) : va_W := [oC ko 6 [.ref (ad 0), .ref (ad 1), .int (nI w), .int (nI h), .int (nI la), .ref (ad 2), .int (mv 0), .int (mv 1), .int (mv 2), .int (mv 3), .int (mv 4), .int (mv 5), .int (mv 6), .ref (ad 3), .int (nI tp), .int (mv 7), .int (mv 8), .int (mv 9), .int (mv 10), .int ft, .int (mv 11), .ref (ad 4), .ref (ad 5), .ref (ad 6), .ref (ad 7), .ref (ad 8), .ref (ad 9), .ref (ad 10), .int tr]]
abbrev Q_X6_beside_1 (G : XG) (ko : Nat) (ad : Nat → Nat) (w h la tp : Nat) (ft tr : Int32) (mv : Nat → Int32) (c : Nat) : Array Value → State → Outcome → State → Prop := (xRi (fun r => r = (if w ≤ c % w + 1 then (-4) else nI (c + 1))))
set_option maxHeartbeats 4000000 in
set_option maxRecDepth 100000 in
theorem c_X6_beside_1 (l : Launch) (G : XG) (ko : Nat) (ad : Nat → Nat) (w h la tp : Nat) (ft tr : Int32) (mv : Nat → Int32) (c : Nat) (hw : 1 ≤ w) (hwb : w ≤ 16) (hc : c < 1000) (hwh : w * h ≤ 16) : Met l yX6_beside wsX6_beside ({ frames := 0, cells := 0, slots := 0, locals := 0 } : Room) (va_Pc [.ref ko, .int (nI c), .int (nI 1)] (xRp G (w_X6_beside_1 G ko ad w h la tp ft tr mv))) (Q_X6_beside_1 G ko ad w h la tp ft tr mv c) 0 0 (fun _ => False) := by
  refine Met.ofW (cc := cX6_beside) (maxL := 3) (ret := (some .int)) (by decide) rfl ?_
  intro pp ee ss mm aa below mt cd s₁ BB hml hv
  obtain ⟨rfl, hP, hK⟩ := hv
  have hx := BB.exec
  have hb := BB.bytes
  have hr := BB.returns
  have hts := atoms_spec (ws := wsX6_beside) BB.pre
  have hown : ss.vm.findClass RX6 = some mm.cls := findClass_of_methodNamed BB.named
  have hlocks := BB.notSynchronized
  have hS : va_S (fun _ => False) ss.heap ss.heap [] := va_S.rf
  replace hP : xP G [oC ko 6 [.ref (ad 0), .ref (ad 1), .int (nI w), .int (nI h), .int (nI la), .ref (ad 2), .int (mv 0), .int (mv 1), .int (mv 2), .int (mv 3), .int (mv 4), .int (mv 5), .int (mv 6), .ref (ad 3), .int (nI tp), .int (mv 7), .int (mv 8), .int (mv 9), .int (mv 10), .int ft, .int (mv 11), .ref (ad 4), .ref (ad 5), .ref (ad 6), .ref (ad 7), .ref (ad 8), .ref (ad 9), .ref (ad 10), .int tr]] ss.heap := hP
  have hin6 : ∀ w ∈ u_ws RX6 TX6 29, w ∈ wsX6_beside := fun w h => List.mem_cons_of_mem _ (List.mem_append_right _ h)
  have hl := lv_entry ([.ref ko, .int (nI c), .int (nI 1)]) (n := 3) (Nat.le_of_ble_eq_true rfl)
  rw [lg_entry_eq]
  generalize (lg_sl ([.ref ko, .int (nI c), .int (nI 1)]) ++ List.replicate (3 - (lg_sl ([.ref ko, .int (nI c), .int (nI 1)])).length) Slot.unset).toArray = ls at hl ⊢
  replace hl : lv_has ls 3 [(0, .ref ko), (1, .int (nI c)), (2, .int (nI 1))] := hl
  refine lv_iload_n hx hb dX6_beside_0 rfl (lv_at hl 2 rfl) ?_
  refine lv_tableIn (off := 47) (tgt := 48) hx hb dX6_beside_1 (by decide) (by decide) rfl rfl ?_
  refine lv_iload_n hx hb dX6_beside_48 rfl (lv_at hl 1 rfl) ?_
  refine lv_aload_n hx hb dX6_beside_49 rfl (lv_at hl 0 rfl) ?_
  refine va_get (D := G.1) (ci := 6) (v := .int (nI w)) (C := RX6) (T := TX6) (N := 29) hx hb hts hin6 hown hK.1 hP 0 rfl rfl 2 (by decide) (hts (.fieldLink RX6 72 "BackLensesModel" "wide" "I") (List.mem_of_getElem? (i := 1) rfl)) (fun _ h9 => h9) rfl dX6_beside_50 ?_
  refine xn_irem hx hb (by omega) (by omega) (by omega) dX6_beside_53 ?_
  have hml0 := Nat.mod_lt c (show 0 < w by omega)
  refine lv_iconst (v := nI 1) hx hb dX6_beside_54 (by decide) ?_
  refine xn_iadd hx hb dX6_beside_55 ?_
  refine lv_aload_n hx hb dX6_beside_56 rfl (lv_at hl 0 rfl) ?_
  refine va_get (D := G.1) (ci := 6) (v := .int (nI w)) (C := RX6) (T := TX6) (N := 29) hx hb hts hin6 hown hK.1 hP 0 rfl rfl 2 (by decide) (hts (.fieldLink RX6 72 "BackLensesModel" "wide" "I") (List.mem_of_getElem? (i := 1) rfl)) (fun _ h9 => h9) rfl dX6_beside_57 ?_
  refine xn_icmp_ge (tgt := 69) hx hb (by omega) (by omega) dX6_beside_60 rfl (fun b60 => ?_) (fun b60 => ?_)
  · skip
    refine lv_bipush (v := (-4)) hx hb dX6_beside_69 (by decide) ?_
    refine W.iret (v := (-4)) hx hb hr (fun t ht hW => ⟨⟨(-4), (), rfl, ?_, trivial⟩, hS.F ht⟩) hS.2.2 dX6_beside_71
    first | exact (if_pos b60).symm | exact (if_neg b60).symm
  · skip
    refine lv_iload_n hx hb dX6_beside_63 rfl (lv_at hl 1 rfl) ?_
    refine lv_iconst (v := nI 1) hx hb dX6_beside_64 (by decide) ?_
    refine xn_iadd hx hb dX6_beside_65 ?_
    refine lv_goto (tgt := 71) hx hb dX6_beside_66 rfl ?_
    refine W.iret (v := nI (c + 1)) hx hb hr (fun t ht hW => ⟨⟨nI (c + 1), (), rfl, ?_, trivial⟩, hS.F ht⟩) hS.2.2 dX6_beside_71
    first | exact (if_pos b60).symm | exact (if_neg b60).symm

abbrev w_X6_beside_2 (G : XG) (ko : Nat) (ad : Nat → Nat) (w h la tp : Nat) (ft tr : Int32) (mv : Nat → Int32) : va_W := [oC ko 6 [.ref (ad 0), .ref (ad 1), .int (nI w), .int (nI h), .int (nI la), .ref (ad 2), .int (mv 0), .int (mv 1), .int (mv 2), .int (mv 3), .int (mv 4), .int (mv 5), .int (mv 6), .ref (ad 3), .int (nI tp), .int (mv 7), .int (mv 8), .int (mv 9), .int (mv 10), .int ft, .int (mv 11), .ref (ad 4), .ref (ad 5), .ref (ad 6), .ref (ad 7), .ref (ad 8), .ref (ad 9), .ref (ad 10), .int tr]]
abbrev Q_X6_beside_2 (G : XG) (ko : Nat) (ad : Nat → Nat) (w h la tp : Nat) (ft tr : Int32) (mv : Nat → Int32) (c : Nat) : Array Value → State → Outcome → State → Prop := (xRi (fun r => r = (if w * h ≤ c + w then (-4) else nI (c + w))))
set_option maxHeartbeats 4000000 in
set_option maxRecDepth 100000 in
theorem c_X6_beside_2 (l : Launch) (G : XG) (ko : Nat) (ad : Nat → Nat) (w h la tp : Nat) (ft tr : Int32) (mv : Nat → Int32) (c : Nat) (hw : 1 ≤ w) (hwb : w ≤ 16) (hc : c < 1000) (hwh : w * h ≤ 16) : Met l yX6_beside wsX6_beside ({ frames := 1, cells := 0, slots := 0, locals := 20 } : Room) (va_Pc [.ref ko, .int (nI c), .int (nI 2)] (xRp G (w_X6_beside_2 G ko ad w h la tp ft tr mv))) (Q_X6_beside_2 G ko ad w h la tp ft tr mv c) 0 0 (fun _ => False) := by
  refine Met.ofW (cc := cX6_beside) (maxL := 3) (ret := (some .int)) (by decide) rfl ?_
  intro pp ee ss mm aa below mt cd s₁ BB hml hv
  obtain ⟨rfl, hP, hK⟩ := hv
  have hx := BB.exec
  have hb := BB.bytes
  have hr := BB.returns
  have hts := atoms_spec (ws := wsX6_beside) BB.pre
  have hown : ss.vm.findClass RX6 = some mm.cls := findClass_of_methodNamed BB.named
  have hlocks := BB.notSynchronized
  have hS : va_S (fun _ => False) ss.heap ss.heap [] := va_S.rf
  replace hP : xP G [oC ko 6 [.ref (ad 0), .ref (ad 1), .int (nI w), .int (nI h), .int (nI la), .ref (ad 2), .int (mv 0), .int (mv 1), .int (mv 2), .int (mv 3), .int (mv 4), .int (mv 5), .int (mv 6), .ref (ad 3), .int (nI tp), .int (mv 7), .int (mv 8), .int (mv 9), .int (mv 10), .int ft, .int (mv 11), .ref (ad 4), .ref (ad 5), .ref (ad 6), .ref (ad 7), .ref (ad 8), .ref (ad 9), .ref (ad 10), .int tr]] ss.heap := hP
  have hin6 : ∀ w ∈ u_ws RX6 TX6 29, w ∈ wsX6_beside := fun w h => List.mem_cons_of_mem _ (List.mem_append_right _ h)
  have hl := lv_entry ([.ref ko, .int (nI c), .int (nI 2)]) (n := 3) (Nat.le_of_ble_eq_true rfl)
  rw [lg_entry_eq]
  generalize (lg_sl ([.ref ko, .int (nI c), .int (nI 2)]) ++ List.replicate (3 - (lg_sl ([.ref ko, .int (nI c), .int (nI 2)])).length) Slot.unset).toArray = ls at hl ⊢
  replace hl : lv_has ls 3 [(0, .ref ko), (1, .int (nI c)), (2, .int (nI 2))] := hl
  refine lv_iload_n hx hb dX6_beside_0 rfl (lv_at hl 2 rfl) ?_
  refine lv_tableIn (off := 71) (tgt := 72) hx hb dX6_beside_1 (by decide) (by decide) rfl rfl ?_
  refine lv_iload_n hx hb dX6_beside_72 rfl (lv_at hl 1 rfl) ?_
  refine lv_aload_n hx hb dX6_beside_73 rfl (lv_at hl 0 rfl) ?_
  refine va_get (D := G.1) (ci := 6) (v := .int (nI w)) (C := RX6) (T := TX6) (N := 29) hx hb hts hin6 hown hK.1 hP 0 rfl rfl 2 (by decide) (hts (.fieldLink RX6 72 "BackLensesModel" "wide" "I") (List.mem_of_getElem? (i := 1) rfl)) (fun _ h9 => h9) rfl dX6_beside_74 ?_
  refine xn_iadd hx hb dX6_beside_77 ?_
  refine lv_aload_n hx hb dX6_beside_78 rfl (lv_at hl 0 rfl) ?_
  refine xr_i (As := []) (rest := [.int (nI (c + w))]) ⟨hx, hb, hml, hown, hts⟩ (c_X6_cellsNow l G ko ad w h la tp ft tr mv ) (cwV 0 hts gX6_beside_X6_cellsNow rfl rfl rfl (by decide +kernel) ⟨Nat.le_of_ble_eq_true rfl, Nat.le_of_ble_eq_true rfl⟩) hK hP hS [0] rfl rfl rfl rfl hl.1 rfl (Nat.le_of_ble_eq_true rfl) dX6_beside_79 ⟨Nat.zero_le _, Nat.zero_le _⟩ (fun r79 H locs hp79 hP hS => ?_)
  rw [show r79 = _ from hp79]
  refine xn_icmp_ge (tgt := 94) hx hb (by omega) (by omega) dX6_beside_82 rfl (fun b82 => ?_) (fun b82 => ?_)
  · skip
    refine lv_bipush (v := (-4)) hx hb dX6_beside_94 (by decide) ?_
    refine W.iret (v := (-4)) hx hb hr (fun t ht hW => ⟨⟨(-4), (), rfl, ?_, trivial⟩, hS.F ht⟩) hS.2.2 dX6_beside_96
    first | exact (if_pos b82).symm | exact (if_neg b82).symm
  · skip
    refine lv_iload_n hx hb dX6_beside_85 rfl (lv_at hl 1 rfl) ?_
    refine lv_aload_n hx hb dX6_beside_86 rfl (lv_at hl 0 rfl) ?_
    refine va_get (D := G.1) (ci := 6) (v := .int (nI w)) (C := RX6) (T := TX6) (N := 29) hx hb hts hin6 hown hK.1 hP 0 rfl rfl 2 (by decide) (hts (.fieldLink RX6 72 "BackLensesModel" "wide" "I") (List.mem_of_getElem? (i := 1) rfl)) (fun _ h9 => h9) rfl dX6_beside_87 ?_
    refine xn_iadd hx hb dX6_beside_90 ?_
    refine lv_goto (tgt := 96) hx hb dX6_beside_91 rfl ?_
    refine W.iret (v := nI (c + w)) hx hb hr (fun t ht hW => ⟨⟨nI (c + w), (), rfl, ?_, trivial⟩, hS.F ht⟩) hS.2.2 dX6_beside_96
    first | exact (if_pos b82).symm | exact (if_neg b82).symm

abbrev w_X6_beside_3 (G : XG) (ko : Nat) (ad : Nat → Nat) (w h la tp : Nat) (ft tr : Int32) (mv : Nat → Int32) : va_W := [oC ko 6 [.ref (ad 0), .ref (ad 1), .int (nI w), .int (nI h), .int (nI la), .ref (ad 2), .int (mv 0), .int (mv 1), .int (mv 2), .int (mv 3), .int (mv 4), .int (mv 5), .int (mv 6), .ref (ad 3), .int (nI tp), .int (mv 7), .int (mv 8), .int (mv 9), .int (mv 10), .int ft, .int (mv 11), .ref (ad 4), .ref (ad 5), .ref (ad 6), .ref (ad 7), .ref (ad 8), .ref (ad 9), .ref (ad 10), .int tr]]
abbrev Q_X6_beside_3 (G : XG) (ko : Nat) (ad : Nat → Nat) (w h la tp : Nat) (ft tr : Int32) (mv : Nat → Int32) (c : Nat) : Array Value → State → Outcome → State → Prop := (xRi (fun r => r = (if c % w = 0 then (-4) else nI (c - 1))))
set_option maxHeartbeats 4000000 in
set_option maxRecDepth 100000 in
theorem c_X6_beside_3 (l : Launch) (G : XG) (ko : Nat) (ad : Nat → Nat) (w h la tp : Nat) (ft tr : Int32) (mv : Nat → Int32) (c : Nat) (hw : 1 ≤ w) (hwb : w ≤ 16) (hc : c < 1000) (hwh : w * h ≤ 16) : Met l yX6_beside wsX6_beside ({ frames := 0, cells := 0, slots := 0, locals := 0 } : Room) (va_Pc [.ref ko, .int (nI c), .int (nI 3)] (xRp G (w_X6_beside_3 G ko ad w h la tp ft tr mv))) (Q_X6_beside_3 G ko ad w h la tp ft tr mv c) 0 0 (fun _ => False) := by
  refine Met.ofW (cc := cX6_beside) (maxL := 3) (ret := (some .int)) (by decide) rfl ?_
  intro pp ee ss mm aa below mt cd s₁ BB hml hv
  obtain ⟨rfl, hP, hK⟩ := hv
  have hx := BB.exec
  have hb := BB.bytes
  have hr := BB.returns
  have hts := atoms_spec (ws := wsX6_beside) BB.pre
  have hown : ss.vm.findClass RX6 = some mm.cls := findClass_of_methodNamed BB.named
  have hlocks := BB.notSynchronized
  have hS : va_S (fun _ => False) ss.heap ss.heap [] := va_S.rf
  replace hP : xP G [oC ko 6 [.ref (ad 0), .ref (ad 1), .int (nI w), .int (nI h), .int (nI la), .ref (ad 2), .int (mv 0), .int (mv 1), .int (mv 2), .int (mv 3), .int (mv 4), .int (mv 5), .int (mv 6), .ref (ad 3), .int (nI tp), .int (mv 7), .int (mv 8), .int (mv 9), .int (mv 10), .int ft, .int (mv 11), .ref (ad 4), .ref (ad 5), .ref (ad 6), .ref (ad 7), .ref (ad 8), .ref (ad 9), .ref (ad 10), .int tr]] ss.heap := hP
  have hin6 : ∀ w ∈ u_ws RX6 TX6 29, w ∈ wsX6_beside := fun w h => List.mem_cons_of_mem _ (List.mem_append_right _ h)
  have hl := lv_entry ([.ref ko, .int (nI c), .int (nI 3)]) (n := 3) (Nat.le_of_ble_eq_true rfl)
  rw [lg_entry_eq]
  generalize (lg_sl ([.ref ko, .int (nI c), .int (nI 3)]) ++ List.replicate (3 - (lg_sl ([.ref ko, .int (nI c), .int (nI 3)])).length) Slot.unset).toArray = ls at hl ⊢
  replace hl : lv_has ls 3 [(0, .ref ko), (1, .int (nI c)), (2, .int (nI 3))] := hl
  refine lv_iload_n hx hb dX6_beside_0 rfl (lv_at hl 2 rfl) ?_
  refine lv_tableOut (tgt := 97) hx hb dX6_beside_1 (Or.inr (by decide)) rfl ?_
  refine lv_iload_n hx hb dX6_beside_97 rfl (lv_at hl 1 rfl) ?_
  refine lv_aload_n hx hb dX6_beside_98 rfl (lv_at hl 0 rfl) ?_
  refine va_get (D := G.1) (ci := 6) (v := .int (nI w)) (C := RX6) (T := TX6) (N := 29) hx hb hts hin6 hown hK.1 hP 0 rfl rfl 2 (by decide) (hts (.fieldLink RX6 72 "BackLensesModel" "wide" "I") (List.mem_of_getElem? (i := 1) rfl)) (fun _ h9 => h9) rfl dX6_beside_99 ?_
  refine xn_irem hx hb (by omega) (by omega) (by omega) dX6_beside_102 ?_
  have hml0 := Nat.mod_lt c (show 0 < w by omega)
  have hml1 := Nat.mod_le c w
  refine xn_if_le (tgt := 112) hx hb (by omega) dX6_beside_103 rfl (fun b103 => ?_) (fun b103 => ?_)
  · skip
    refine lv_bipush (v := (-4)) hx hb dX6_beside_112 (by decide) ?_
    refine W.iret (v := (-4)) hx hb hr (fun t ht hW => ⟨⟨(-4), (), rfl, ?_, trivial⟩, hS.F ht⟩) hS.2.2 dX6_beside_114
    first | exact (if_pos (by omega)).symm | exact (if_neg (by omega)).symm
  · skip
    refine lv_iload_n hx hb dX6_beside_106 rfl (lv_at hl 1 rfl) ?_
    refine lv_iconst (v := nI 1) hx hb dX6_beside_107 (by decide) ?_
    refine xn_isub hx hb (by omega) dX6_beside_108 ?_
    refine lv_goto (tgt := 114) hx hb dX6_beside_109 rfl ?_
    refine W.iret (v := nI (c - 1)) hx hb hr (fun t ht hW => ⟨⟨nI (c - 1), (), rfl, ?_, trivial⟩, hS.F ht⟩) hS.2.2 dX6_beside_114
    first | exact (if_pos (by omega)).symm | exact (if_neg (by omega)).symm
end
section
abbrev w_X6_sight (G : XG) (ko : Nat) (ad : Nat → Nat) (w h la tp : Nat) (ft tr : Int32) (mv : Nat → Int32) (mk : Nat → Int32) : va_W := [oC ko 6 [.ref (ad 0), .ref (ad 1), .int (nI w), .int (nI h), .int (nI la), .ref (ad 2), .int (mv 0), .int (mv 1), .int (mv 2), .int (mv 3), .int (mv 4), .int (mv 5), .int (mv 6), .ref (ad 3), .int (nI tp), .int (mv 7), .int (mv 8), .int (mv 9), .int (mv 10), .int ft, .int (mv 11), .ref (ad 4), .ref (ad 5), .ref (ad 6), .ref (ad 7), .ref (ad 8), .ref (ad 9), .ref (ad 10), .int tr], iA G (ad 4) 16 mk]
abbrev Q_X6_sight (G : XG) (ko : Nat) (ad : Nat → Nat) (w h la tp : Nat) (ft tr : Int32) (mv : Nat → Int32) (mk : Nat → Int32) (x : Nat) : Array Value → State → Outcome → State → Prop := (xRi (fun r => r = sgF w h mk x))
set_option maxHeartbeats 4000000 in
set_option maxRecDepth 100000 in
theorem c_X6_sight (l : Launch) (G : XG) (ko : Nat) (ad : Nat → Nat) (w h la tp : Nat) (ft tr : Int32) (mv : Nat → Int32) (mk : Nat → Int32) (x : Nat) (hw : 1 ≤ w) (hwb : w ≤ 16) (hhb : h ≤ 16) (hwh : w * h ≤ 16) (hxx : x < w * h) : Met l yX6_sight wsX6_sight ({ frames := 2, cells := 0, slots := 0, locals := 42 } : Room) (va_Pc [.ref ko, .int (nI x)] (xRp G (w_X6_sight G ko ad w h la tp ft tr mv mk))) (Q_X6_sight G ko ad w h la tp ft tr mv mk x) 0 0 (fun _ => False) := by
  refine Met.ofW (cc := cX6_sight) (maxL := 6) (ret := (some .int)) (by decide) rfl ?_
  intro pp ee ss mm aa below mt cd s₁ BB hml hv
  obtain ⟨rfl, hP, hK⟩ := hv
  have hx := BB.exec
  have hb := BB.bytes
  have hr := BB.returns
  have hts := atoms_spec (ws := wsX6_sight) BB.pre
  have hown : ss.vm.findClass RX6 = some mm.cls := findClass_of_methodNamed BB.named
  have hlocks := BB.notSynchronized
  have hS : va_S (fun _ => False) ss.heap ss.heap [] := va_S.rf
  replace hP : xP G [oC ko 6 [.ref (ad 0), .ref (ad 1), .int (nI w), .int (nI h), .int (nI la), .ref (ad 2), .int (mv 0), .int (mv 1), .int (mv 2), .int (mv 3), .int (mv 4), .int (mv 5), .int (mv 6), .ref (ad 3), .int (nI tp), .int (mv 7), .int (mv 8), .int (mv 9), .int (mv 10), .int ft, .int (mv 11), .ref (ad 4), .ref (ad 5), .ref (ad 6), .ref (ad 7), .ref (ad 8), .ref (ad 9), .ref (ad 10), .int tr], iA G (ad 4) 16 mk] ss.heap := hP
  have hin6 : ∀ w ∈ u_ws RX6 TX6 29, w ∈ wsX6_sight := fun w h => List.mem_cons_of_mem _ (List.mem_append_right _ h)
  have hl := lv_entry ([.ref ko, .int (nI x)]) (n := 6) (Nat.le_of_ble_eq_true rfl)
  rw [lg_entry_eq]
  generalize (lg_sl ([.ref ko, .int (nI x)]) ++ List.replicate (6 - (lg_sl ([.ref ko, .int (nI x)])).length) Slot.unset).toArray = ls at hl ⊢
  replace hl : lv_has ls 6 [(0, .ref ko), (1, .int (nI x))] := hl
  obtain ⟨e1, e2, e3⟩ := xs_div (w := w) (h := h) (x := x) (by omega) hxx
  have e4 := Nat.div_le_self x w
  have e5 := Nat.zero_le (x / w)
  refine lv_iconst (v := nI 1) hx hb dX6_sight_0 (by decide) ?_
  refine lv_iload_n hx hb dX6_sight_1 rfl (lv_at hl 1 rfl) ?_
  refine lv_ishl hx hb dX6_sight_2 ?_
  refine lv_istore_n (lv' := [(2, .int ((nI 1) <<< ((nI x) &&& 31))), (0, .ref ko), (1, .int (nI x))]) hx hb dX6_sight_3 rfl hl (by decide) rfl (fun ls hl => ?_)
  refine lv_iconst (v := nI 0) hx hb dX6_sight_4 (by decide) ?_
  refine lv_istore_n (lv' := [(3, .int (nI 0)), (2, .int ((nI 1) <<< ((nI x) &&& 31))), (0, .ref ko), (1, .int (nI x))]) hx hb dX6_sight_5 rfl hl (by decide) rfl (fun ls hl => ?_)
  refine lv_iload_n hx hb dX6_sight_6 rfl (lv_at hl 0 rfl) ?_
  refine lv_iconst (v := nI 4) hx hb dX6_sight_7 (by decide) ?_
  refine xn_icmp_ge (tgt := 96) hx hb (by omega) (by omega) dX6_sight_8 rfl (fun b8 => absurd b8 (by omega)) (fun _ => ?_)
  refine lv_aload_n hx hb dX6_sight_11 rfl (lv_at hl 2 rfl) ?_
  refine lv_iload_n hx hb dX6_sight_12 rfl (lv_at hl 3 rfl) ?_
  refine lv_iload_n hx hb dX6_sight_13 rfl (lv_at hl 0 rfl) ?_
  refine xr_i (As := [.int (nI x), .int (nI 0)]) (rest := []) ⟨hx, hb, hml, hown, hts⟩ (c_X6_beside_0 l G ko ad w h la tp ft tr mv x (by first | assumption | omega) (by first | assumption | omega) (by first | assumption | omega) (by first | assumption | omega)) (cwV 2 hts gX6_sight_X6_beside rfl rfl rfl (by decide +kernel) ⟨Nat.le_of_ble_eq_true rfl, Nat.le_of_ble_eq_true rfl⟩) hK hP hS [0] rfl rfl rfl rfl hl.1 rfl (Nat.le_of_ble_eq_true rfl) dX6_sight_14 ⟨Nat.zero_le _, Nat.zero_le _⟩ (fun r14 H locs hp14 hP hS => ?_)
  rw [show r14 = _ from hp14]
  refine lv_istore (lv' := [(4, .int (if w ≤ x then nI (x - w) else (-4))), (3, .int (nI 0)), (2, .int ((nI 1) <<< ((nI x) &&& 31))), (0, .ref ko), (1, .int (nI x))]) hx hb dX6_sight_17 hl (by decide) rfl (fun ls hl => ?_)
  have hL19 : ∀ k : Nat, ∀ (i0 : Nat) (acc0 : Int32) (cv0 : Int32) (ls : Array Slot) (H : Heap) (locs : List Loc), x / w + 1 - i0 = k → (1 ≤ i0) → (i0 ≤ x / w + 1) → (cv0 = (if i0 ≤ x / w then nI (x - i0 * w) else (-4))) → (rayF mk (fun i => x - i * w) (nI 1) (x / w) (1) ((nI 1) <<< ((nI x) &&& 31)) = rayF mk (fun i => x - i * w) (nI 1) (x / w + 1 - i0) (i0) (acc0)) → lv_has ls 6 [(0, .ref ko), (1, .int (nI x)), (2, .int acc0), (3, .int (nI 0)), (4, .int cv0)] → xP G [iA G (ad 4) 16 mk, oC ko 6 [.ref (ad 0), .ref (ad 1), .int (nI w), .int (nI h), .int (nI la), .ref (ad 2), .int (mv 0), .int (mv 1), .int (mv 2), .int (mv 3), .int (mv 4), .int (mv 5), .int (mv 6), .ref (ad 3), .int (nI tp), .int (mv 7), .int (mv 8), .int (mv 9), .int (mv 10), .int ft, .int (mv 11), .ref (ad 4), .ref (ad 5), .ref (ad 6), .ref (ad 7), .ref (ad 8), .ref (ad 9), .ref (ad 10), .int tr]] H → va_S (fun _ => False) ss.heap H locs → W pp l ee ({ frames := 2, cells := 0, slots := 0, locals := 42 } : Room) ss mm ([.ref ko, .int (nI x)] : List Value).toArray below mt cd H locs 0 0 (MQ below (Q_X6_sight G ko ad w h la tp ft tr mv mk x) ([.ref ko, .int (nI x)] : List Value).toArray ss 0 0 (fun _ => False)) (F0 mm 19 ls []) := by
    intro k
    induction k using Nat.strongRecOn with
    | _ k ih19 =>
    intro i0 acc0 cv0 ls H locs hm19 h10 hi0 hcv0 hr0 hl hP hS
    refine lv_iload hx hb dX6_sight_19 (lv_at hl 4 rfl) ?_
    refine lv_bipush (v := (-4)) hx hb dX6_sight_21 (by decide) ?_
    refine lv_icmp_eq (tgt := 90) hx hb dX6_sight_23 rfl (fun b23 => ?_) (fun b23 => ?_)
    · skip
      have hend0 : rayF mk (fun i => x - i * w) (nI 1) (x / w) (1) ((nI 1) <<< ((nI x) &&& 31)) = acc0 := (by rw [hr0]; exact rayF_end (fun q => by rw [hcv0, if_pos q] at b23; exact nI_n4 (by omega) b23))
      refine lv_iinc (k := 3) (v := nI 1) (lv' := [(3, .int (nI 1)), (0, .ref ko), (1, .int (nI x)), (2, .int acc0), (4, .int cv0)]) hx hb dX6_sight_90 hl rfl (xn_inc 0 1) (by decide) rfl (fun ls hl => ?_)
      refine lv_goto (tgt := 6) hx hb dX6_sight_93 rfl ?_
      refine lv_iload_n hx hb dX6_sight_6 rfl (lv_at hl 0 rfl) ?_
      refine lv_iconst (v := nI 4) hx hb dX6_sight_7 (by decide) ?_
      refine xn_icmp_ge (tgt := 96) hx hb (by omega) (by omega) dX6_sight_8 rfl (fun b8 => absurd b8 (by omega)) (fun _ => ?_)
      refine lv_aload_n hx hb dX6_sight_11 rfl (lv_at hl 1 rfl) ?_
      refine lv_iload_n hx hb dX6_sight_12 rfl (lv_at hl 2 rfl) ?_
      refine lv_iload_n hx hb dX6_sight_13 rfl (lv_at hl 0 rfl) ?_
      refine xr_i (As := [.int (nI x), .int (nI 1)]) (rest := []) ⟨hx, hb, hml, hown, hts⟩ (c_X6_beside_1 l G ko ad w h la tp ft tr mv x (by first | assumption | omega) (by first | assumption | omega) (by first | assumption | omega) (by first | assumption | omega)) (cwV 2 hts gX6_sight_X6_beside rfl rfl rfl (by decide +kernel) ⟨Nat.le_of_ble_eq_true rfl, Nat.le_of_ble_eq_true rfl⟩) hK hP hS [1] rfl rfl rfl rfl hl.1 rfl (Nat.le_of_ble_eq_true rfl) dX6_sight_14 ⟨Nat.zero_le _, Nat.zero_le _⟩ (fun r14 H locs hp14 hP hS => ?_)
      rw [show r14 = _ from hp14]
      refine lv_istore (lv' := [(4, .int (if w ≤ x % w + 1 then (-4) else nI (x + 1))), (3, .int (nI 1)), (0, .ref ko), (1, .int (nI x)), (2, .int acc0)]) hx hb dX6_sight_17 hl (by decide) rfl (fun ls hl => ?_)
      have hL19 : ∀ k : Nat, ∀ (i1 : Nat) (acc1 : Int32) (cv1 : Int32) (ls : Array Slot) (H : Heap) (locs : List Loc), w - 1 - (x - x / w * w) + 1 - i1 = k → (1 ≤ i1) → (i1 ≤ w - 1 - (x - x / w * w) + 1) → (cv1 = (if i1 ≤ w - 1 - (x - x / w * w) then nI (x + i1) else (-4))) → (rayF mk (fun i => x + i) (nI 0) (w - 1 - (x - x / w * w)) (1) (acc0) = rayF mk (fun i => x + i) (nI 0) (w - 1 - (x - x / w * w) + 1 - i1) (i1) (acc1)) → lv_has ls 6 [(0, .ref ko), (1, .int (nI x)), (2, .int acc1), (3, .int (nI 1)), (4, .int cv1)] → xP G [iA G (ad 4) 16 mk, oC ko 6 [.ref (ad 0), .ref (ad 1), .int (nI w), .int (nI h), .int (nI la), .ref (ad 2), .int (mv 0), .int (mv 1), .int (mv 2), .int (mv 3), .int (mv 4), .int (mv 5), .int (mv 6), .ref (ad 3), .int (nI tp), .int (mv 7), .int (mv 8), .int (mv 9), .int (mv 10), .int ft, .int (mv 11), .ref (ad 4), .ref (ad 5), .ref (ad 6), .ref (ad 7), .ref (ad 8), .ref (ad 9), .ref (ad 10), .int tr]] H → va_S (fun _ => False) ss.heap H locs → W pp l ee ({ frames := 2, cells := 0, slots := 0, locals := 42 } : Room) ss mm ([.ref ko, .int (nI x)] : List Value).toArray below mt cd H locs 0 0 (MQ below (Q_X6_sight G ko ad w h la tp ft tr mv mk x) ([.ref ko, .int (nI x)] : List Value).toArray ss 0 0 (fun _ => False)) (F0 mm 19 ls []) := by
        intro k
        induction k using Nat.strongRecOn with
        | _ k ih19 =>
        intro i1 acc1 cv1 ls H locs hm19 h11 hi1 hcv1 hr1 hl hP hS
        refine lv_iload hx hb dX6_sight_19 (lv_at hl 4 rfl) ?_
        refine lv_bipush (v := (-4)) hx hb dX6_sight_21 (by decide) ?_
        refine lv_icmp_eq (tgt := 90) hx hb dX6_sight_23 rfl (fun b23 => ?_) (fun b23 => ?_)
        · skip
          have hend1 : rayF mk (fun i => x + i) (nI 0) (w - 1 - (x - x / w * w)) (1) (acc0) = acc1 := (by rw [hr1]; exact rayF_end (fun q => by rw [hcv1, if_pos q] at b23; exact nI_n4 (by have := xs_right (w := w) (h := h) (x := x) (i := i1) (by omega) hxx q; omega) b23))
          refine lv_iinc (k := 3) (v := nI 2) (lv' := [(3, .int (nI 2)), (0, .ref ko), (1, .int (nI x)), (2, .int acc1), (4, .int cv1)]) hx hb dX6_sight_90 hl rfl (xn_inc 1 1) (by decide) rfl (fun ls hl => ?_)
          refine lv_goto (tgt := 6) hx hb dX6_sight_93 rfl ?_
          refine lv_iload_n hx hb dX6_sight_6 rfl (lv_at hl 0 rfl) ?_
          refine lv_iconst (v := nI 4) hx hb dX6_sight_7 (by decide) ?_
          refine xn_icmp_ge (tgt := 96) hx hb (by omega) (by omega) dX6_sight_8 rfl (fun b8 => absurd b8 (by omega)) (fun _ => ?_)
          refine lv_aload_n hx hb dX6_sight_11 rfl (lv_at hl 1 rfl) ?_
          refine lv_iload_n hx hb dX6_sight_12 rfl (lv_at hl 2 rfl) ?_
          refine lv_iload_n hx hb dX6_sight_13 rfl (lv_at hl 0 rfl) ?_
          refine xr_i (As := [.int (nI x), .int (nI 2)]) (rest := []) ⟨hx, hb, hml, hown, hts⟩ (c_X6_beside_2 l G ko ad w h la tp ft tr mv x (by first | assumption | omega) (by first | assumption | omega) (by first | assumption | omega) (by first | assumption | omega)) (cwV 2 hts gX6_sight_X6_beside rfl rfl rfl (by decide +kernel) ⟨Nat.le_of_ble_eq_true rfl, Nat.le_of_ble_eq_true rfl⟩) hK hP hS [1] rfl rfl rfl rfl hl.1 rfl (Nat.le_of_ble_eq_true rfl) dX6_sight_14 ⟨Nat.zero_le _, Nat.zero_le _⟩ (fun r14 H locs hp14 hP hS => ?_)
          rw [show r14 = _ from hp14]
          refine lv_istore (lv' := [(4, .int (if w * h ≤ x + w then (-4) else nI (x + w))), (3, .int (nI 2)), (0, .ref ko), (1, .int (nI x)), (2, .int acc1)]) hx hb dX6_sight_17 hl (by decide) rfl (fun ls hl => ?_)
          have hL19 : ∀ k : Nat, ∀ (i2 : Nat) (acc2 : Int32) (cv2 : Int32) (ls : Array Slot) (H : Heap) (locs : List Loc), h - 1 - x / w + 1 - i2 = k → (1 ≤ i2) → (i2 ≤ h - 1 - x / w + 1) → (cv2 = (if i2 ≤ h - 1 - x / w then nI (x + i2 * w) else (-4))) → (rayF mk (fun i => x + i * w) (nI 1) (h - 1 - x / w) (1) (acc1) = rayF mk (fun i => x + i * w) (nI 1) (h - 1 - x / w + 1 - i2) (i2) (acc2)) → lv_has ls 6 [(0, .ref ko), (1, .int (nI x)), (2, .int acc2), (3, .int (nI 2)), (4, .int cv2)] → xP G [iA G (ad 4) 16 mk, oC ko 6 [.ref (ad 0), .ref (ad 1), .int (nI w), .int (nI h), .int (nI la), .ref (ad 2), .int (mv 0), .int (mv 1), .int (mv 2), .int (mv 3), .int (mv 4), .int (mv 5), .int (mv 6), .ref (ad 3), .int (nI tp), .int (mv 7), .int (mv 8), .int (mv 9), .int (mv 10), .int ft, .int (mv 11), .ref (ad 4), .ref (ad 5), .ref (ad 6), .ref (ad 7), .ref (ad 8), .ref (ad 9), .ref (ad 10), .int tr]] H → va_S (fun _ => False) ss.heap H locs → W pp l ee ({ frames := 2, cells := 0, slots := 0, locals := 42 } : Room) ss mm ([.ref ko, .int (nI x)] : List Value).toArray below mt cd H locs 0 0 (MQ below (Q_X6_sight G ko ad w h la tp ft tr mv mk x) ([.ref ko, .int (nI x)] : List Value).toArray ss 0 0 (fun _ => False)) (F0 mm 19 ls []) := by
            intro k
            induction k using Nat.strongRecOn with
            | _ k ih19 =>
            intro i2 acc2 cv2 ls H locs hm19 h12 hi2 hcv2 hr2 hl hP hS
            refine lv_iload hx hb dX6_sight_19 (lv_at hl 4 rfl) ?_
            refine lv_bipush (v := (-4)) hx hb dX6_sight_21 (by decide) ?_
            refine lv_icmp_eq (tgt := 90) hx hb dX6_sight_23 rfl (fun b23 => ?_) (fun b23 => ?_)
            · skip
              have hend2 : rayF mk (fun i => x + i * w) (nI 1) (h - 1 - x / w) (1) (acc1) = acc2 := (by rw [hr2]; exact rayF_end (fun q => by rw [hcv2, if_pos q] at b23; exact nI_n4 (by have := xs_down (w := w) (h := h) (x := x) (i := i2) (by omega) hxx q; omega) b23))
              refine lv_iinc (k := 3) (v := nI 3) (lv' := [(3, .int (nI 3)), (0, .ref ko), (1, .int (nI x)), (2, .int acc2), (4, .int cv2)]) hx hb dX6_sight_90 hl rfl (xn_inc 2 1) (by decide) rfl (fun ls hl => ?_)
              refine lv_goto (tgt := 6) hx hb dX6_sight_93 rfl ?_
              refine lv_iload_n hx hb dX6_sight_6 rfl (lv_at hl 0 rfl) ?_
              refine lv_iconst (v := nI 4) hx hb dX6_sight_7 (by decide) ?_
              refine xn_icmp_ge (tgt := 96) hx hb (by omega) (by omega) dX6_sight_8 rfl (fun b8 => absurd b8 (by omega)) (fun _ => ?_)
              refine lv_aload_n hx hb dX6_sight_11 rfl (lv_at hl 1 rfl) ?_
              refine lv_iload_n hx hb dX6_sight_12 rfl (lv_at hl 2 rfl) ?_
              refine lv_iload_n hx hb dX6_sight_13 rfl (lv_at hl 0 rfl) ?_
              refine xr_i (As := [.int (nI x), .int (nI 3)]) (rest := []) ⟨hx, hb, hml, hown, hts⟩ (c_X6_beside_3 l G ko ad w h la tp ft tr mv x (by first | assumption | omega) (by first | assumption | omega) (by first | assumption | omega) (by first | assumption | omega)) (cwV 2 hts gX6_sight_X6_beside rfl rfl rfl (by decide +kernel) ⟨Nat.le_of_ble_eq_true rfl, Nat.le_of_ble_eq_true rfl⟩) hK hP hS [1] rfl rfl rfl rfl hl.1 rfl (Nat.le_of_ble_eq_true rfl) dX6_sight_14 ⟨Nat.zero_le _, Nat.zero_le _⟩ (fun r14 H locs hp14 hP hS => ?_)
              rw [show r14 = _ from hp14]
              refine lv_istore (lv' := [(4, .int (if x % w = 0 then (-4) else nI (x - 1))), (3, .int (nI 3)), (0, .ref ko), (1, .int (nI x)), (2, .int acc2)]) hx hb dX6_sight_17 hl (by decide) rfl (fun ls hl => ?_)
              have hL19 : ∀ k : Nat, ∀ (i3 : Nat) (acc3 : Int32) (cv3 : Int32) (ls : Array Slot) (H : Heap) (locs : List Loc), x - x / w * w + 1 - i3 = k → (1 ≤ i3) → (i3 ≤ x - x / w * w + 1) → (cv3 = (if i3 ≤ x - x / w * w then nI (x - i3) else (-4))) → (rayF mk (fun i => x - i) (nI 0) (x - x / w * w) (1) (acc2) = rayF mk (fun i => x - i) (nI 0) (x - x / w * w + 1 - i3) (i3) (acc3)) → lv_has ls 6 [(0, .ref ko), (1, .int (nI x)), (2, .int acc3), (3, .int (nI 3)), (4, .int cv3)] → xP G [iA G (ad 4) 16 mk, oC ko 6 [.ref (ad 0), .ref (ad 1), .int (nI w), .int (nI h), .int (nI la), .ref (ad 2), .int (mv 0), .int (mv 1), .int (mv 2), .int (mv 3), .int (mv 4), .int (mv 5), .int (mv 6), .ref (ad 3), .int (nI tp), .int (mv 7), .int (mv 8), .int (mv 9), .int (mv 10), .int ft, .int (mv 11), .ref (ad 4), .ref (ad 5), .ref (ad 6), .ref (ad 7), .ref (ad 8), .ref (ad 9), .ref (ad 10), .int tr]] H → va_S (fun _ => False) ss.heap H locs → W pp l ee ({ frames := 2, cells := 0, slots := 0, locals := 42 } : Room) ss mm ([.ref ko, .int (nI x)] : List Value).toArray below mt cd H locs 0 0 (MQ below (Q_X6_sight G ko ad w h la tp ft tr mv mk x) ([.ref ko, .int (nI x)] : List Value).toArray ss 0 0 (fun _ => False)) (F0 mm 19 ls []) := by
                intro k
                induction k using Nat.strongRecOn with
                | _ k ih19 =>
                intro i3 acc3 cv3 ls H locs hm19 h13 hi3 hcv3 hr3 hl hP hS
                refine lv_iload hx hb dX6_sight_19 (lv_at hl 4 rfl) ?_
                refine lv_bipush (v := (-4)) hx hb dX6_sight_21 (by decide) ?_
                refine lv_icmp_eq (tgt := 90) hx hb dX6_sight_23 rfl (fun b23 => ?_) (fun b23 => ?_)
                · skip
                  have hend3 : rayF mk (fun i => x - i) (nI 0) (x - x / w * w) (1) (acc2) = acc3 := (by rw [hr3]; exact rayF_end (fun q => by rw [hcv3, if_pos q] at b23; exact nI_n4 (by omega) b23))
                  refine lv_iinc (k := 3) (v := nI 4) (lv' := [(3, .int (nI 4)), (0, .ref ko), (1, .int (nI x)), (2, .int acc3), (4, .int cv3)]) hx hb dX6_sight_90 hl rfl (xn_inc 3 1) (by decide) rfl (fun ls hl => ?_)
                  refine lv_goto (tgt := 6) hx hb dX6_sight_93 rfl ?_
                  refine lv_iload_n hx hb dX6_sight_6 rfl (lv_at hl 0 rfl) ?_
                  refine lv_iconst (v := nI 4) hx hb dX6_sight_7 (by decide) ?_
                  refine xn_icmp_ge (tgt := 96) hx hb (by omega) (by omega) dX6_sight_8 rfl (fun _ => ?_) (fun b8 => absurd b8 (by omega))
                  refine lv_iload_n hx hb dX6_sight_96 rfl (lv_at hl 3 rfl) ?_
                  refine W.iret (v := acc3) hx hb hr (fun t ht hW => ⟨⟨acc3, (), rfl, ?_, trivial⟩, hS.F ht⟩) hS.2.2 dX6_sight_97
                  rw [rayF_acc] at hend0 hend1 hend2 hend3; show acc3 = sgF w h mk x; rw [← hend3, ← hend2, ← hend1, ← hend0]; exact sg_order _ _ _ _ _
                · skip
                  have hic3 : i3 ≤ x - x / w * w := (by by_cases q : i3 ≤ x - x / w * w; exact q; rw [hcv3, if_neg q] at b23; exact absurd rfl b23)
                  have ecv3 : cv3 = nI (x - i3) := (by rw [hcv3, if_pos hic3])
                  have hcb3 : x - i3 < 16 := (by omega)
                  rw [ecv3] at hl
                  refine lv_iload_n hx hb dX6_sight_26 rfl (lv_at hl 2 rfl) ?_
                  refine lv_iconst (v := nI 1) hx hb dX6_sight_27 (by decide) ?_
                  refine lv_iload hx hb dX6_sight_28 (lv_at hl 4 rfl) ?_
                  refine lv_ishl hx hb dX6_sight_30 ?_
                  refine lv_ior hx hb dX6_sight_31 ?_
                  refine lv_istore_n (lv' := [(2, .int (acc3 ||| ((nI 1) <<< ((nI (x - i3)) &&& 31)))), (0, .ref ko), (1, .int (nI x)), (3, .int (nI 3)), (4, .int (nI (x - i3)))]) hx hb dX6_sight_32 rfl hl (by decide) rfl (fun ls hl => ?_)
                  refine lv_aload_n hx hb dX6_sight_33 rfl (lv_at hl 1 rfl) ?_
                  refine va_get (D := G.1) (ci := 6) (v := .ref (ad 4)) (C := RX6) (T := TX6) (N := 29) hx hb hts hin6 hown hK.1 hP 1 rfl rfl 21 (by decide) (hts (.fieldLink RX6 23 "BackLensesModel" "marks" "[I") (List.mem_of_getElem? (i := 1) rfl)) (fun _ h9 => h9) rfl dX6_sight_34 ?_
                  refine lv_iload hx hb dX6_sight_37 (lv_at hl 4 rfl) ?_
                  refine xn_iald hx hb hK hP 0 rfl (by omega) (by omega) dX6_sight_39 ?_
                  refine lv_iconst (v := nI 4) hx hb dX6_sight_40 (by decide) ?_
                  refine lv_icmp_eq (tgt := 61) hx hb dX6_sight_41 rfl (fun b41 => ?_) (fun b41 => ?_)
                  · skip
                    refine lv_iconst (v := nI 1) hx hb dX6_sight_61 (by decide) ?_
                    refine lv_goto (tgt := 66) hx hb dX6_sight_62 rfl ?_
                    refine lv_istore (lv' := [(5, .int (nI 1)), (2, .int (acc3 ||| ((nI 1) <<< ((nI (x - i3)) &&& 31)))), (0, .ref ko), (1, .int (nI x)), (3, .int (nI 3)), (4, .int (nI (x - i3)))]) hx hb dX6_sight_66 hl (by decide) rfl (fun ls hl => ?_)
                    refine lv_iload hx hb dX6_sight_68 (lv_at hl 0 rfl) ?_
                    refine xn_if_eq (tgt := 78) hx hb (by omega) dX6_sight_70 rfl (fun b70 => absurd b70 (by omega)) (fun _ => ?_)
                    refine lv_bipush (v := (-4)) hx hb dX6_sight_73 (by decide) ?_
                    refine lv_goto (tgt := 85) hx hb dX6_sight_75 rfl ?_
                    refine lv_istore (lv' := [(4, .int (-4)), (5, .int (nI 1)), (2, .int (acc3 ||| ((nI 1) <<< ((nI (x - i3)) &&& 31)))), (0, .ref ko), (1, .int (nI x)), (3, .int (nI 3))]) hx hb dX6_sight_85 hl (by decide) rfl (fun ls hl => ?_)
                    refine lv_goto (tgt := 19) hx hb dX6_sight_87 rfl ?_
                    have hl := lv_sub hl (l' := [(0, .ref ko), (1, .int (nI x)), (2, .int (acc3 ||| ((nI 1) <<< ((nI (x - i3)) &&& 31)))), (3, .int (nI 3)), (4, .int (-4))]) [3, 4, 2, 5, 0] rfl
                    exact ih19 (x - x / w * w + 1 - (x - x / w * w + 1)) (by omega) (x - x / w * w + 1) (acc3 ||| ((nI 1) <<< ((nI (x - i3)) &&& 31))) (-4) ls H locs rfl (by omega) (by omega) (by first | exact (if_neg (by omega)).symm | exact by_left (w := w) (h := h) (x := x) (i := i3) (by omega) hxx hic3) (by rw [hr3]; first | exact rayF_go hic3 (fun q => q.elim b41 (fun q2 => q2.1 rfl)) | (rw [rayF_stop hic3 (Or.inl b41), Nat.sub_self, rayF]) | (rw [rayF_stop hic3 (Or.inr ⟨by decide, b52⟩), Nat.sub_self, rayF])) hl hP hS
                  · skip
                    refine lv_aload_n hx hb dX6_sight_44 rfl (lv_at hl 1 rfl) ?_
                    refine va_get (D := G.1) (ci := 6) (v := .ref (ad 4)) (C := RX6) (T := TX6) (N := 29) hx hb hts hin6 hown hK.1 hP 1 rfl rfl 21 (by decide) (hts (.fieldLink RX6 23 "BackLensesModel" "marks" "[I") (List.mem_of_getElem? (i := 1) rfl)) (fun _ h9 => h9) rfl dX6_sight_45 ?_
                    refine lv_iload hx hb dX6_sight_48 (lv_at hl 4 rfl) ?_
                    refine xn_iald hx hb hK hP 0 rfl (by omega) (by omega) dX6_sight_50 ?_
                    refine lv_iconst (v := nI 5) hx hb dX6_sight_51 (by decide) ?_
                    refine lv_icmp_ne (tgt := 65) hx hb dX6_sight_52 rfl (fun b52 => ?_) (fun b52 => ?_)
                    · skip
                      refine lv_iconst (v := nI 0) hx hb dX6_sight_65 (by decide) ?_
                      refine lv_istore (lv' := [(5, .int (nI 0)), (2, .int (acc3 ||| ((nI 1) <<< ((nI (x - i3)) &&& 31)))), (0, .ref ko), (1, .int (nI x)), (3, .int (nI 3)), (4, .int (nI (x - i3)))]) hx hb dX6_sight_66 hl (by decide) rfl (fun ls hl => ?_)
                      refine lv_iload hx hb dX6_sight_68 (lv_at hl 0 rfl) ?_
                      refine xn_if_eq (tgt := 78) hx hb (by omega) dX6_sight_70 rfl (fun _ => ?_) (fun b70 => absurd b70 (by omega))
                      refine lv_aload_n hx hb dX6_sight_78 rfl (lv_at hl 2 rfl) ?_
                      refine lv_iload hx hb dX6_sight_79 (lv_at hl 5 rfl) ?_
                      refine lv_iload_n hx hb dX6_sight_81 rfl (lv_at hl 4 rfl) ?_
                      refine xr_i (As := [.int (nI (x - i3)), .int (nI 3)]) (rest := []) ⟨hx, hb, hml, hown, hts⟩ (c_X6_beside_3 l G ko ad w h la tp ft tr mv (x - i3) (by first | assumption | omega) (by first | assumption | omega) (by first | assumption | omega) (by first | assumption | omega)) (cwV 2 hts gX6_sight_X6_beside rfl rfl rfl (by decide +kernel) ⟨Nat.le_of_ble_eq_true rfl, Nat.le_of_ble_eq_true rfl⟩) hK hP hS [1] rfl rfl rfl rfl hl.1 rfl (Nat.le_of_ble_eq_true rfl) dX6_sight_82 ⟨Nat.zero_le _, Nat.zero_le _⟩ (fun r82 H locs hp82 hP hS => ?_)
                      rw [show r82 = _ from hp82]
                      refine lv_istore (lv' := [(4, .int (if (x - i3) % w = 0 then (-4) else nI ((x - i3) - 1))), (5, .int (nI 0)), (2, .int (acc3 ||| ((nI 1) <<< ((nI (x - i3)) &&& 31)))), (0, .ref ko), (1, .int (nI x)), (3, .int (nI 3))]) hx hb dX6_sight_85 hl (by decide) rfl (fun ls hl => ?_)
                      refine lv_goto (tgt := 19) hx hb dX6_sight_87 rfl ?_
                      have hl := lv_sub hl (l' := [(0, .ref ko), (1, .int (nI x)), (2, .int (acc3 ||| ((nI 1) <<< ((nI (x - i3)) &&& 31)))), (3, .int (nI 3)), (4, .int (if (x - i3) % w = 0 then (-4) else nI ((x - i3) - 1)))]) [3, 4, 2, 5, 0] rfl
                      exact ih19 (x - x / w * w + 1 - (i3 + 1)) (by omega) (i3 + 1) (acc3 ||| ((nI 1) <<< ((nI (x - i3)) &&& 31))) (if (x - i3) % w = 0 then (-4) else nI ((x - i3) - 1)) ls H locs rfl (by omega) (by omega) (by first | exact (if_neg (by omega)).symm | exact by_left (w := w) (h := h) (x := x) (i := i3) (by omega) hxx hic3) (by rw [hr3]; first | exact rayF_go hic3 (fun q => q.elim b41 (fun q2 => q2.1 rfl)) | (rw [rayF_stop hic3 (Or.inl b41), Nat.sub_self, rayF]) | (rw [rayF_stop hic3 (Or.inr ⟨by decide, b52⟩), Nat.sub_self, rayF])) hl hP hS
                    · skip
                      refine lv_iload_n hx hb dX6_sight_55 rfl (lv_at hl 3 rfl) ?_
                      refine lv_iconst (v := nI 2) hx hb dX6_sight_56 (by decide) ?_
                      refine xn_irem hx hb (by omega) (by omega) (by omega) dX6_sight_57 ?_
                      refine xn_if_ne (tgt := 65) hx hb (by omega) dX6_sight_58 rfl (fun _ => ?_) (fun b58 => absurd b58 (by omega))
                      refine lv_iconst (v := nI 0) hx hb dX6_sight_65 (by decide) ?_
                      refine lv_istore (lv' := [(5, .int (nI 0)), (2, .int (acc3 ||| ((nI 1) <<< ((nI (x - i3)) &&& 31)))), (0, .ref ko), (1, .int (nI x)), (3, .int (nI 3)), (4, .int (nI (x - i3)))]) hx hb dX6_sight_66 hl (by decide) rfl (fun ls hl => ?_)
                      refine lv_iload hx hb dX6_sight_68 (lv_at hl 0 rfl) ?_
                      refine xn_if_eq (tgt := 78) hx hb (by omega) dX6_sight_70 rfl (fun _ => ?_) (fun b70 => absurd b70 (by omega))
                      refine lv_aload_n hx hb dX6_sight_78 rfl (lv_at hl 2 rfl) ?_
                      refine lv_iload hx hb dX6_sight_79 (lv_at hl 5 rfl) ?_
                      refine lv_iload_n hx hb dX6_sight_81 rfl (lv_at hl 4 rfl) ?_
                      refine xr_i (As := [.int (nI (x - i3)), .int (nI 3)]) (rest := []) ⟨hx, hb, hml, hown, hts⟩ (c_X6_beside_3 l G ko ad w h la tp ft tr mv (x - i3) (by first | assumption | omega) (by first | assumption | omega) (by first | assumption | omega) (by first | assumption | omega)) (cwV 2 hts gX6_sight_X6_beside rfl rfl rfl (by decide +kernel) ⟨Nat.le_of_ble_eq_true rfl, Nat.le_of_ble_eq_true rfl⟩) hK hP hS [1] rfl rfl rfl rfl hl.1 rfl (Nat.le_of_ble_eq_true rfl) dX6_sight_82 ⟨Nat.zero_le _, Nat.zero_le _⟩ (fun r82 H locs hp82 hP hS => ?_)
                      rw [show r82 = _ from hp82]
                      refine lv_istore (lv' := [(4, .int (if (x - i3) % w = 0 then (-4) else nI ((x - i3) - 1))), (5, .int (nI 0)), (2, .int (acc3 ||| ((nI 1) <<< ((nI (x - i3)) &&& 31)))), (0, .ref ko), (1, .int (nI x)), (3, .int (nI 3))]) hx hb dX6_sight_85 hl (by decide) rfl (fun ls hl => ?_)
                      refine lv_goto (tgt := 19) hx hb dX6_sight_87 rfl ?_
                      have hl := lv_sub hl (l' := [(0, .ref ko), (1, .int (nI x)), (2, .int (acc3 ||| ((nI 1) <<< ((nI (x - i3)) &&& 31)))), (3, .int (nI 3)), (4, .int (if (x - i3) % w = 0 then (-4) else nI ((x - i3) - 1)))]) [3, 4, 2, 5, 0] rfl
                      exact ih19 (x - x / w * w + 1 - (i3 + 1)) (by omega) (i3 + 1) (acc3 ||| ((nI 1) <<< ((nI (x - i3)) &&& 31))) (if (x - i3) % w = 0 then (-4) else nI ((x - i3) - 1)) ls H locs rfl (by omega) (by omega) (by first | exact (if_neg (by omega)).symm | exact by_left (w := w) (h := h) (x := x) (i := i3) (by omega) hxx hic3) (by rw [hr3]; first | exact rayF_go hic3 (fun q => q.elim b41 (fun q2 => q2.1 rfl)) | (rw [rayF_stop hic3 (Or.inl b41), Nat.sub_self, rayF]) | (rw [rayF_stop hic3 (Or.inr ⟨by decide, b52⟩), Nat.sub_self, rayF])) hl hP hS
              have hl := lv_sub hl (l' := [(0, .ref ko), (1, .int (nI x)), (2, .int acc2), (3, .int (nI 3)), (4, .int (if x % w = 0 then (-4) else nI (x - 1)))]) [2, 3, 4, 1, 0] rfl
              exact hL19 (x - x / w * w + 1 - 1) 1 acc2 (if x % w = 0 then (-4) else nI (x - 1)) ls H locs rfl (by omega) (by omega) (by have q := by_left (w := w) (h := h) (x := x) (i := 0) (by omega) hxx (Nat.zero_le _); simp only [Nat.zero_mul, Nat.sub_zero, Nat.add_zero, Nat.zero_add] at q; exact q) (by rfl) hl hP hS
            · skip
              have hic2 : i2 ≤ h - 1 - x / w := (by by_cases q : i2 ≤ h - 1 - x / w; exact q; rw [hcv2, if_neg q] at b23; exact absurd rfl b23)
              have ecv2 : cv2 = nI (x + i2 * w) := (by rw [hcv2, if_pos hic2])
              have hcb2 : x + i2 * w < 16 := (by have := xs_down (w := w) (h := h) (x := x) (i := i2) (by omega) hxx hic2; omega)
              rw [ecv2] at hl
              refine lv_iload_n hx hb dX6_sight_26 rfl (lv_at hl 2 rfl) ?_
              refine lv_iconst (v := nI 1) hx hb dX6_sight_27 (by decide) ?_
              refine lv_iload hx hb dX6_sight_28 (lv_at hl 4 rfl) ?_
              refine lv_ishl hx hb dX6_sight_30 ?_
              refine lv_ior hx hb dX6_sight_31 ?_
              refine lv_istore_n (lv' := [(2, .int (acc2 ||| ((nI 1) <<< ((nI (x + i2 * w)) &&& 31)))), (0, .ref ko), (1, .int (nI x)), (3, .int (nI 2)), (4, .int (nI (x + i2 * w)))]) hx hb dX6_sight_32 rfl hl (by decide) rfl (fun ls hl => ?_)
              refine lv_aload_n hx hb dX6_sight_33 rfl (lv_at hl 1 rfl) ?_
              refine va_get (D := G.1) (ci := 6) (v := .ref (ad 4)) (C := RX6) (T := TX6) (N := 29) hx hb hts hin6 hown hK.1 hP 1 rfl rfl 21 (by decide) (hts (.fieldLink RX6 23 "BackLensesModel" "marks" "[I") (List.mem_of_getElem? (i := 1) rfl)) (fun _ h9 => h9) rfl dX6_sight_34 ?_
              refine lv_iload hx hb dX6_sight_37 (lv_at hl 4 rfl) ?_
              refine xn_iald hx hb hK hP 0 rfl (by omega) (by omega) dX6_sight_39 ?_
              refine lv_iconst (v := nI 4) hx hb dX6_sight_40 (by decide) ?_
              refine lv_icmp_eq (tgt := 61) hx hb dX6_sight_41 rfl (fun b41 => ?_) (fun b41 => ?_)
              · skip
                refine lv_iconst (v := nI 1) hx hb dX6_sight_61 (by decide) ?_
                refine lv_goto (tgt := 66) hx hb dX6_sight_62 rfl ?_
                refine lv_istore (lv' := [(5, .int (nI 1)), (2, .int (acc2 ||| ((nI 1) <<< ((nI (x + i2 * w)) &&& 31)))), (0, .ref ko), (1, .int (nI x)), (3, .int (nI 2)), (4, .int (nI (x + i2 * w)))]) hx hb dX6_sight_66 hl (by decide) rfl (fun ls hl => ?_)
                refine lv_iload hx hb dX6_sight_68 (lv_at hl 0 rfl) ?_
                refine xn_if_eq (tgt := 78) hx hb (by omega) dX6_sight_70 rfl (fun b70 => absurd b70 (by omega)) (fun _ => ?_)
                refine lv_bipush (v := (-4)) hx hb dX6_sight_73 (by decide) ?_
                refine lv_goto (tgt := 85) hx hb dX6_sight_75 rfl ?_
                refine lv_istore (lv' := [(4, .int (-4)), (5, .int (nI 1)), (2, .int (acc2 ||| ((nI 1) <<< ((nI (x + i2 * w)) &&& 31)))), (0, .ref ko), (1, .int (nI x)), (3, .int (nI 2))]) hx hb dX6_sight_85 hl (by decide) rfl (fun ls hl => ?_)
                refine lv_goto (tgt := 19) hx hb dX6_sight_87 rfl ?_
                have hl := lv_sub hl (l' := [(0, .ref ko), (1, .int (nI x)), (2, .int (acc2 ||| ((nI 1) <<< ((nI (x + i2 * w)) &&& 31)))), (3, .int (nI 2)), (4, .int (-4))]) [3, 4, 2, 5, 0] rfl
                exact ih19 (h - 1 - x / w + 1 - (h - 1 - x / w + 1)) (by omega) (h - 1 - x / w + 1) (acc2 ||| ((nI 1) <<< ((nI (x + i2 * w)) &&& 31))) (-4) ls H locs rfl (by omega) (by omega) (by first | exact (if_neg (by omega)).symm | exact by_down (w := w) (h := h) (x := x) (i := i2) (by omega) hxx hic2) (by rw [hr2]; first | exact rayF_go hic2 (fun q => q.elim b41 (fun q2 => b52 q2.2)) | (rw [rayF_stop hic2 (Or.inl b41), Nat.sub_self, rayF]) | (rw [rayF_stop hic2 (Or.inr ⟨by decide, b52⟩), Nat.sub_self, rayF])) hl hP hS
              · skip
                refine lv_aload_n hx hb dX6_sight_44 rfl (lv_at hl 1 rfl) ?_
                refine va_get (D := G.1) (ci := 6) (v := .ref (ad 4)) (C := RX6) (T := TX6) (N := 29) hx hb hts hin6 hown hK.1 hP 1 rfl rfl 21 (by decide) (hts (.fieldLink RX6 23 "BackLensesModel" "marks" "[I") (List.mem_of_getElem? (i := 1) rfl)) (fun _ h9 => h9) rfl dX6_sight_45 ?_
                refine lv_iload hx hb dX6_sight_48 (lv_at hl 4 rfl) ?_
                refine xn_iald hx hb hK hP 0 rfl (by omega) (by omega) dX6_sight_50 ?_
                refine lv_iconst (v := nI 5) hx hb dX6_sight_51 (by decide) ?_
                refine lv_icmp_ne (tgt := 65) hx hb dX6_sight_52 rfl (fun b52 => ?_) (fun b52 => ?_)
                · skip
                  refine lv_iconst (v := nI 0) hx hb dX6_sight_65 (by decide) ?_
                  refine lv_istore (lv' := [(5, .int (nI 0)), (2, .int (acc2 ||| ((nI 1) <<< ((nI (x + i2 * w)) &&& 31)))), (0, .ref ko), (1, .int (nI x)), (3, .int (nI 2)), (4, .int (nI (x + i2 * w)))]) hx hb dX6_sight_66 hl (by decide) rfl (fun ls hl => ?_)
                  refine lv_iload hx hb dX6_sight_68 (lv_at hl 0 rfl) ?_
                  refine xn_if_eq (tgt := 78) hx hb (by omega) dX6_sight_70 rfl (fun _ => ?_) (fun b70 => absurd b70 (by omega))
                  refine lv_aload_n hx hb dX6_sight_78 rfl (lv_at hl 2 rfl) ?_
                  refine lv_iload hx hb dX6_sight_79 (lv_at hl 5 rfl) ?_
                  refine lv_iload_n hx hb dX6_sight_81 rfl (lv_at hl 4 rfl) ?_
                  refine xr_i (As := [.int (nI (x + i2 * w)), .int (nI 2)]) (rest := []) ⟨hx, hb, hml, hown, hts⟩ (c_X6_beside_2 l G ko ad w h la tp ft tr mv (x + i2 * w) (by first | assumption | omega) (by first | assumption | omega) (by first | assumption | omega) (by first | assumption | omega)) (cwV 2 hts gX6_sight_X6_beside rfl rfl rfl (by decide +kernel) ⟨Nat.le_of_ble_eq_true rfl, Nat.le_of_ble_eq_true rfl⟩) hK hP hS [1] rfl rfl rfl rfl hl.1 rfl (Nat.le_of_ble_eq_true rfl) dX6_sight_82 ⟨Nat.zero_le _, Nat.zero_le _⟩ (fun r82 H locs hp82 hP hS => ?_)
                  rw [show r82 = _ from hp82]
                  refine lv_istore (lv' := [(4, .int (if w * h ≤ (x + i2 * w) + w then (-4) else nI ((x + i2 * w) + w))), (5, .int (nI 0)), (2, .int (acc2 ||| ((nI 1) <<< ((nI (x + i2 * w)) &&& 31)))), (0, .ref ko), (1, .int (nI x)), (3, .int (nI 2))]) hx hb dX6_sight_85 hl (by decide) rfl (fun ls hl => ?_)
                  refine lv_goto (tgt := 19) hx hb dX6_sight_87 rfl ?_
                  have hl := lv_sub hl (l' := [(0, .ref ko), (1, .int (nI x)), (2, .int (acc2 ||| ((nI 1) <<< ((nI (x + i2 * w)) &&& 31)))), (3, .int (nI 2)), (4, .int (if w * h ≤ (x + i2 * w) + w then (-4) else nI ((x + i2 * w) + w)))]) [3, 4, 2, 5, 0] rfl
                  exact ih19 (h - 1 - x / w + 1 - (i2 + 1)) (by omega) (i2 + 1) (acc2 ||| ((nI 1) <<< ((nI (x + i2 * w)) &&& 31))) (if w * h ≤ (x + i2 * w) + w then (-4) else nI ((x + i2 * w) + w)) ls H locs rfl (by omega) (by omega) (by first | exact (if_neg (by omega)).symm | exact by_down (w := w) (h := h) (x := x) (i := i2) (by omega) hxx hic2) (by rw [hr2]; first | exact rayF_go hic2 (fun q => q.elim b41 (fun q2 => b52 q2.2)) | (rw [rayF_stop hic2 (Or.inl b41), Nat.sub_self, rayF]) | (rw [rayF_stop hic2 (Or.inr ⟨by decide, b52⟩), Nat.sub_self, rayF])) hl hP hS
                · skip
                  refine lv_iload_n hx hb dX6_sight_55 rfl (lv_at hl 3 rfl) ?_
                  refine lv_iconst (v := nI 2) hx hb dX6_sight_56 (by decide) ?_
                  refine xn_irem hx hb (by omega) (by omega) (by omega) dX6_sight_57 ?_
                  refine xn_if_ne (tgt := 65) hx hb (by omega) dX6_sight_58 rfl (fun b58 => absurd b58 (by omega)) (fun _ => ?_)
                  refine lv_iconst (v := nI 1) hx hb dX6_sight_61 (by decide) ?_
                  refine lv_goto (tgt := 66) hx hb dX6_sight_62 rfl ?_
                  refine lv_istore (lv' := [(5, .int (nI 1)), (2, .int (acc2 ||| ((nI 1) <<< ((nI (x + i2 * w)) &&& 31)))), (0, .ref ko), (1, .int (nI x)), (3, .int (nI 2)), (4, .int (nI (x + i2 * w)))]) hx hb dX6_sight_66 hl (by decide) rfl (fun ls hl => ?_)
                  refine lv_iload hx hb dX6_sight_68 (lv_at hl 0 rfl) ?_
                  refine xn_if_eq (tgt := 78) hx hb (by omega) dX6_sight_70 rfl (fun b70 => absurd b70 (by omega)) (fun _ => ?_)
                  refine lv_bipush (v := (-4)) hx hb dX6_sight_73 (by decide) ?_
                  refine lv_goto (tgt := 85) hx hb dX6_sight_75 rfl ?_
                  refine lv_istore (lv' := [(4, .int (-4)), (5, .int (nI 1)), (2, .int (acc2 ||| ((nI 1) <<< ((nI (x + i2 * w)) &&& 31)))), (0, .ref ko), (1, .int (nI x)), (3, .int (nI 2))]) hx hb dX6_sight_85 hl (by decide) rfl (fun ls hl => ?_)
                  refine lv_goto (tgt := 19) hx hb dX6_sight_87 rfl ?_
                  have hl := lv_sub hl (l' := [(0, .ref ko), (1, .int (nI x)), (2, .int (acc2 ||| ((nI 1) <<< ((nI (x + i2 * w)) &&& 31)))), (3, .int (nI 2)), (4, .int (-4))]) [3, 4, 2, 5, 0] rfl
                  exact ih19 (h - 1 - x / w + 1 - (h - 1 - x / w + 1)) (by omega) (h - 1 - x / w + 1) (acc2 ||| ((nI 1) <<< ((nI (x + i2 * w)) &&& 31))) (-4) ls H locs rfl (by omega) (by omega) (by first | exact (if_neg (by omega)).symm | exact by_down (w := w) (h := h) (x := x) (i := i2) (by omega) hxx hic2) (by rw [hr2]; first | exact rayF_go hic2 (fun q => q.elim b41 (fun q2 => b52 q2.2)) | (rw [rayF_stop hic2 (Or.inl b41), Nat.sub_self, rayF]) | (rw [rayF_stop hic2 (Or.inr ⟨by decide, b52⟩), Nat.sub_self, rayF])) hl hP hS
          have hl := lv_sub hl (l' := [(0, .ref ko), (1, .int (nI x)), (2, .int acc1), (3, .int (nI 2)), (4, .int (if w * h ≤ x + w then (-4) else nI (x + w)))]) [2, 3, 4, 1, 0] rfl
          exact hL19 (h - 1 - x / w + 1 - 1) 1 acc1 (if w * h ≤ x + w then (-4) else nI (x + w)) ls H locs rfl (by omega) (by omega) (by have q := by_down (w := w) (h := h) (x := x) (i := 0) (by omega) hxx (Nat.zero_le _); simp only [Nat.zero_mul, Nat.sub_zero, Nat.add_zero, Nat.zero_add] at q; exact q) (by rfl) hl hP hS
        · skip
          have hic1 : i1 ≤ w - 1 - (x - x / w * w) := (by by_cases q : i1 ≤ w - 1 - (x - x / w * w); exact q; rw [hcv1, if_neg q] at b23; exact absurd rfl b23)
          have ecv1 : cv1 = nI (x + i1) := (by rw [hcv1, if_pos hic1])
          have hcb1 : x + i1 < 16 := (by have := xs_right (w := w) (h := h) (x := x) (i := i1) (by omega) hxx hic1; omega)
          rw [ecv1] at hl
          refine lv_iload_n hx hb dX6_sight_26 rfl (lv_at hl 2 rfl) ?_
          refine lv_iconst (v := nI 1) hx hb dX6_sight_27 (by decide) ?_
          refine lv_iload hx hb dX6_sight_28 (lv_at hl 4 rfl) ?_
          refine lv_ishl hx hb dX6_sight_30 ?_
          refine lv_ior hx hb dX6_sight_31 ?_
          refine lv_istore_n (lv' := [(2, .int (acc1 ||| ((nI 1) <<< ((nI (x + i1)) &&& 31)))), (0, .ref ko), (1, .int (nI x)), (3, .int (nI 1)), (4, .int (nI (x + i1)))]) hx hb dX6_sight_32 rfl hl (by decide) rfl (fun ls hl => ?_)
          refine lv_aload_n hx hb dX6_sight_33 rfl (lv_at hl 1 rfl) ?_
          refine va_get (D := G.1) (ci := 6) (v := .ref (ad 4)) (C := RX6) (T := TX6) (N := 29) hx hb hts hin6 hown hK.1 hP 1 rfl rfl 21 (by decide) (hts (.fieldLink RX6 23 "BackLensesModel" "marks" "[I") (List.mem_of_getElem? (i := 1) rfl)) (fun _ h9 => h9) rfl dX6_sight_34 ?_
          refine lv_iload hx hb dX6_sight_37 (lv_at hl 4 rfl) ?_
          refine xn_iald hx hb hK hP 0 rfl (by omega) (by omega) dX6_sight_39 ?_
          refine lv_iconst (v := nI 4) hx hb dX6_sight_40 (by decide) ?_
          refine lv_icmp_eq (tgt := 61) hx hb dX6_sight_41 rfl (fun b41 => ?_) (fun b41 => ?_)
          · skip
            refine lv_iconst (v := nI 1) hx hb dX6_sight_61 (by decide) ?_
            refine lv_goto (tgt := 66) hx hb dX6_sight_62 rfl ?_
            refine lv_istore (lv' := [(5, .int (nI 1)), (2, .int (acc1 ||| ((nI 1) <<< ((nI (x + i1)) &&& 31)))), (0, .ref ko), (1, .int (nI x)), (3, .int (nI 1)), (4, .int (nI (x + i1)))]) hx hb dX6_sight_66 hl (by decide) rfl (fun ls hl => ?_)
            refine lv_iload hx hb dX6_sight_68 (lv_at hl 0 rfl) ?_
            refine xn_if_eq (tgt := 78) hx hb (by omega) dX6_sight_70 rfl (fun b70 => absurd b70 (by omega)) (fun _ => ?_)
            refine lv_bipush (v := (-4)) hx hb dX6_sight_73 (by decide) ?_
            refine lv_goto (tgt := 85) hx hb dX6_sight_75 rfl ?_
            refine lv_istore (lv' := [(4, .int (-4)), (5, .int (nI 1)), (2, .int (acc1 ||| ((nI 1) <<< ((nI (x + i1)) &&& 31)))), (0, .ref ko), (1, .int (nI x)), (3, .int (nI 1))]) hx hb dX6_sight_85 hl (by decide) rfl (fun ls hl => ?_)
            refine lv_goto (tgt := 19) hx hb dX6_sight_87 rfl ?_
            have hl := lv_sub hl (l' := [(0, .ref ko), (1, .int (nI x)), (2, .int (acc1 ||| ((nI 1) <<< ((nI (x + i1)) &&& 31)))), (3, .int (nI 1)), (4, .int (-4))]) [3, 4, 2, 5, 0] rfl
            exact ih19 (w - 1 - (x - x / w * w) + 1 - (w - 1 - (x - x / w * w) + 1)) (by omega) (w - 1 - (x - x / w * w) + 1) (acc1 ||| ((nI 1) <<< ((nI (x + i1)) &&& 31))) (-4) ls H locs rfl (by omega) (by omega) (by first | exact (if_neg (by omega)).symm | exact by_right (w := w) (h := h) (x := x) (i := i1) (by omega) hxx hic1) (by rw [hr1]; first | exact rayF_go hic1 (fun q => q.elim b41 (fun q2 => q2.1 rfl)) | (rw [rayF_stop hic1 (Or.inl b41), Nat.sub_self, rayF]) | (rw [rayF_stop hic1 (Or.inr ⟨by decide, b52⟩), Nat.sub_self, rayF])) hl hP hS
          · skip
            refine lv_aload_n hx hb dX6_sight_44 rfl (lv_at hl 1 rfl) ?_
            refine va_get (D := G.1) (ci := 6) (v := .ref (ad 4)) (C := RX6) (T := TX6) (N := 29) hx hb hts hin6 hown hK.1 hP 1 rfl rfl 21 (by decide) (hts (.fieldLink RX6 23 "BackLensesModel" "marks" "[I") (List.mem_of_getElem? (i := 1) rfl)) (fun _ h9 => h9) rfl dX6_sight_45 ?_
            refine lv_iload hx hb dX6_sight_48 (lv_at hl 4 rfl) ?_
            refine xn_iald hx hb hK hP 0 rfl (by omega) (by omega) dX6_sight_50 ?_
            refine lv_iconst (v := nI 5) hx hb dX6_sight_51 (by decide) ?_
            refine lv_icmp_ne (tgt := 65) hx hb dX6_sight_52 rfl (fun b52 => ?_) (fun b52 => ?_)
            · skip
              refine lv_iconst (v := nI 0) hx hb dX6_sight_65 (by decide) ?_
              refine lv_istore (lv' := [(5, .int (nI 0)), (2, .int (acc1 ||| ((nI 1) <<< ((nI (x + i1)) &&& 31)))), (0, .ref ko), (1, .int (nI x)), (3, .int (nI 1)), (4, .int (nI (x + i1)))]) hx hb dX6_sight_66 hl (by decide) rfl (fun ls hl => ?_)
              refine lv_iload hx hb dX6_sight_68 (lv_at hl 0 rfl) ?_
              refine xn_if_eq (tgt := 78) hx hb (by omega) dX6_sight_70 rfl (fun _ => ?_) (fun b70 => absurd b70 (by omega))
              refine lv_aload_n hx hb dX6_sight_78 rfl (lv_at hl 2 rfl) ?_
              refine lv_iload hx hb dX6_sight_79 (lv_at hl 5 rfl) ?_
              refine lv_iload_n hx hb dX6_sight_81 rfl (lv_at hl 4 rfl) ?_
              refine xr_i (As := [.int (nI (x + i1)), .int (nI 1)]) (rest := []) ⟨hx, hb, hml, hown, hts⟩ (c_X6_beside_1 l G ko ad w h la tp ft tr mv (x + i1) (by first | assumption | omega) (by first | assumption | omega) (by first | assumption | omega) (by first | assumption | omega)) (cwV 2 hts gX6_sight_X6_beside rfl rfl rfl (by decide +kernel) ⟨Nat.le_of_ble_eq_true rfl, Nat.le_of_ble_eq_true rfl⟩) hK hP hS [1] rfl rfl rfl rfl hl.1 rfl (Nat.le_of_ble_eq_true rfl) dX6_sight_82 ⟨Nat.zero_le _, Nat.zero_le _⟩ (fun r82 H locs hp82 hP hS => ?_)
              rw [show r82 = _ from hp82]
              refine lv_istore (lv' := [(4, .int (if w ≤ (x + i1) % w + 1 then (-4) else nI ((x + i1) + 1))), (5, .int (nI 0)), (2, .int (acc1 ||| ((nI 1) <<< ((nI (x + i1)) &&& 31)))), (0, .ref ko), (1, .int (nI x)), (3, .int (nI 1))]) hx hb dX6_sight_85 hl (by decide) rfl (fun ls hl => ?_)
              refine lv_goto (tgt := 19) hx hb dX6_sight_87 rfl ?_
              have hl := lv_sub hl (l' := [(0, .ref ko), (1, .int (nI x)), (2, .int (acc1 ||| ((nI 1) <<< ((nI (x + i1)) &&& 31)))), (3, .int (nI 1)), (4, .int (if w ≤ (x + i1) % w + 1 then (-4) else nI ((x + i1) + 1)))]) [3, 4, 2, 5, 0] rfl
              exact ih19 (w - 1 - (x - x / w * w) + 1 - (i1 + 1)) (by omega) (i1 + 1) (acc1 ||| ((nI 1) <<< ((nI (x + i1)) &&& 31))) (if w ≤ (x + i1) % w + 1 then (-4) else nI ((x + i1) + 1)) ls H locs rfl (by omega) (by omega) (by first | exact (if_neg (by omega)).symm | exact by_right (w := w) (h := h) (x := x) (i := i1) (by omega) hxx hic1) (by rw [hr1]; first | exact rayF_go hic1 (fun q => q.elim b41 (fun q2 => q2.1 rfl)) | (rw [rayF_stop hic1 (Or.inl b41), Nat.sub_self, rayF]) | (rw [rayF_stop hic1 (Or.inr ⟨by decide, b52⟩), Nat.sub_self, rayF])) hl hP hS
            · skip
              refine lv_iload_n hx hb dX6_sight_55 rfl (lv_at hl 3 rfl) ?_
              refine lv_iconst (v := nI 2) hx hb dX6_sight_56 (by decide) ?_
              refine xn_irem hx hb (by omega) (by omega) (by omega) dX6_sight_57 ?_
              refine xn_if_ne (tgt := 65) hx hb (by omega) dX6_sight_58 rfl (fun _ => ?_) (fun b58 => absurd b58 (by omega))
              refine lv_iconst (v := nI 0) hx hb dX6_sight_65 (by decide) ?_
              refine lv_istore (lv' := [(5, .int (nI 0)), (2, .int (acc1 ||| ((nI 1) <<< ((nI (x + i1)) &&& 31)))), (0, .ref ko), (1, .int (nI x)), (3, .int (nI 1)), (4, .int (nI (x + i1)))]) hx hb dX6_sight_66 hl (by decide) rfl (fun ls hl => ?_)
              refine lv_iload hx hb dX6_sight_68 (lv_at hl 0 rfl) ?_
              refine xn_if_eq (tgt := 78) hx hb (by omega) dX6_sight_70 rfl (fun _ => ?_) (fun b70 => absurd b70 (by omega))
              refine lv_aload_n hx hb dX6_sight_78 rfl (lv_at hl 2 rfl) ?_
              refine lv_iload hx hb dX6_sight_79 (lv_at hl 5 rfl) ?_
              refine lv_iload_n hx hb dX6_sight_81 rfl (lv_at hl 4 rfl) ?_
              refine xr_i (As := [.int (nI (x + i1)), .int (nI 1)]) (rest := []) ⟨hx, hb, hml, hown, hts⟩ (c_X6_beside_1 l G ko ad w h la tp ft tr mv (x + i1) (by first | assumption | omega) (by first | assumption | omega) (by first | assumption | omega) (by first | assumption | omega)) (cwV 2 hts gX6_sight_X6_beside rfl rfl rfl (by decide +kernel) ⟨Nat.le_of_ble_eq_true rfl, Nat.le_of_ble_eq_true rfl⟩) hK hP hS [1] rfl rfl rfl rfl hl.1 rfl (Nat.le_of_ble_eq_true rfl) dX6_sight_82 ⟨Nat.zero_le _, Nat.zero_le _⟩ (fun r82 H locs hp82 hP hS => ?_)
              rw [show r82 = _ from hp82]
              refine lv_istore (lv' := [(4, .int (if w ≤ (x + i1) % w + 1 then (-4) else nI ((x + i1) + 1))), (5, .int (nI 0)), (2, .int (acc1 ||| ((nI 1) <<< ((nI (x + i1)) &&& 31)))), (0, .ref ko), (1, .int (nI x)), (3, .int (nI 1))]) hx hb dX6_sight_85 hl (by decide) rfl (fun ls hl => ?_)
              refine lv_goto (tgt := 19) hx hb dX6_sight_87 rfl ?_
              have hl := lv_sub hl (l' := [(0, .ref ko), (1, .int (nI x)), (2, .int (acc1 ||| ((nI 1) <<< ((nI (x + i1)) &&& 31)))), (3, .int (nI 1)), (4, .int (if w ≤ (x + i1) % w + 1 then (-4) else nI ((x + i1) + 1)))]) [3, 4, 2, 5, 0] rfl
              exact ih19 (w - 1 - (x - x / w * w) + 1 - (i1 + 1)) (by omega) (i1 + 1) (acc1 ||| ((nI 1) <<< ((nI (x + i1)) &&& 31))) (if w ≤ (x + i1) % w + 1 then (-4) else nI ((x + i1) + 1)) ls H locs rfl (by omega) (by omega) (by first | exact (if_neg (by omega)).symm | exact by_right (w := w) (h := h) (x := x) (i := i1) (by omega) hxx hic1) (by rw [hr1]; first | exact rayF_go hic1 (fun q => q.elim b41 (fun q2 => q2.1 rfl)) | (rw [rayF_stop hic1 (Or.inl b41), Nat.sub_self, rayF]) | (rw [rayF_stop hic1 (Or.inr ⟨by decide, b52⟩), Nat.sub_self, rayF])) hl hP hS
      have hl := lv_sub hl (l' := [(0, .ref ko), (1, .int (nI x)), (2, .int acc0), (3, .int (nI 1)), (4, .int (if w ≤ x % w + 1 then (-4) else nI (x + 1)))]) [2, 3, 4, 1, 0] rfl
      exact hL19 (w - 1 - (x - x / w * w) + 1 - 1) 1 acc0 (if w ≤ x % w + 1 then (-4) else nI (x + 1)) ls H locs rfl (by omega) (by omega) (by have q := by_right (w := w) (h := h) (x := x) (i := 0) (by omega) hxx (Nat.zero_le _); simp only [Nat.zero_mul, Nat.sub_zero, Nat.add_zero, Nat.zero_add] at q; exact q) (by rfl) hl hP hS
    · skip
      have hic0 : i0 ≤ x / w := (by by_cases q : i0 ≤ x / w; exact q; rw [hcv0, if_neg q] at b23; exact absurd rfl b23)
      have ecv0 : cv0 = nI (x - i0 * w) := (by rw [hcv0, if_pos hic0])
      have hcb0 : x - i0 * w < 16 := (by omega)
      rw [ecv0] at hl
      refine lv_iload_n hx hb dX6_sight_26 rfl (lv_at hl 2 rfl) ?_
      refine lv_iconst (v := nI 1) hx hb dX6_sight_27 (by decide) ?_
      refine lv_iload hx hb dX6_sight_28 (lv_at hl 4 rfl) ?_
      refine lv_ishl hx hb dX6_sight_30 ?_
      refine lv_ior hx hb dX6_sight_31 ?_
      refine lv_istore_n (lv' := [(2, .int (acc0 ||| ((nI 1) <<< ((nI (x - i0 * w)) &&& 31)))), (0, .ref ko), (1, .int (nI x)), (3, .int (nI 0)), (4, .int (nI (x - i0 * w)))]) hx hb dX6_sight_32 rfl hl (by decide) rfl (fun ls hl => ?_)
      refine lv_aload_n hx hb dX6_sight_33 rfl (lv_at hl 1 rfl) ?_
      refine va_get (D := G.1) (ci := 6) (v := .ref (ad 4)) (C := RX6) (T := TX6) (N := 29) hx hb hts hin6 hown hK.1 hP 1 rfl rfl 21 (by decide) (hts (.fieldLink RX6 23 "BackLensesModel" "marks" "[I") (List.mem_of_getElem? (i := 1) rfl)) (fun _ h9 => h9) rfl dX6_sight_34 ?_
      refine lv_iload hx hb dX6_sight_37 (lv_at hl 4 rfl) ?_
      refine xn_iald hx hb hK hP 0 rfl (by omega) (by omega) dX6_sight_39 ?_
      refine lv_iconst (v := nI 4) hx hb dX6_sight_40 (by decide) ?_
      refine lv_icmp_eq (tgt := 61) hx hb dX6_sight_41 rfl (fun b41 => ?_) (fun b41 => ?_)
      · skip
        refine lv_iconst (v := nI 1) hx hb dX6_sight_61 (by decide) ?_
        refine lv_goto (tgt := 66) hx hb dX6_sight_62 rfl ?_
        refine lv_istore (lv' := [(5, .int (nI 1)), (2, .int (acc0 ||| ((nI 1) <<< ((nI (x - i0 * w)) &&& 31)))), (0, .ref ko), (1, .int (nI x)), (3, .int (nI 0)), (4, .int (nI (x - i0 * w)))]) hx hb dX6_sight_66 hl (by decide) rfl (fun ls hl => ?_)
        refine lv_iload hx hb dX6_sight_68 (lv_at hl 0 rfl) ?_
        refine xn_if_eq (tgt := 78) hx hb (by omega) dX6_sight_70 rfl (fun b70 => absurd b70 (by omega)) (fun _ => ?_)
        refine lv_bipush (v := (-4)) hx hb dX6_sight_73 (by decide) ?_
        refine lv_goto (tgt := 85) hx hb dX6_sight_75 rfl ?_
        refine lv_istore (lv' := [(4, .int (-4)), (5, .int (nI 1)), (2, .int (acc0 ||| ((nI 1) <<< ((nI (x - i0 * w)) &&& 31)))), (0, .ref ko), (1, .int (nI x)), (3, .int (nI 0))]) hx hb dX6_sight_85 hl (by decide) rfl (fun ls hl => ?_)
        refine lv_goto (tgt := 19) hx hb dX6_sight_87 rfl ?_
        have hl := lv_sub hl (l' := [(0, .ref ko), (1, .int (nI x)), (2, .int (acc0 ||| ((nI 1) <<< ((nI (x - i0 * w)) &&& 31)))), (3, .int (nI 0)), (4, .int (-4))]) [3, 4, 2, 5, 0] rfl
        exact ih19 (x / w + 1 - (x / w + 1)) (by omega) (x / w + 1) (acc0 ||| ((nI 1) <<< ((nI (x - i0 * w)) &&& 31))) (-4) ls H locs rfl (by omega) (by omega) (by first | exact (if_neg (by omega)).symm | exact by_up (w := w) (h := h) (x := x) (i := i0) (by omega) hxx hic0) (by rw [hr0]; first | exact rayF_go hic0 (fun q => q.elim b41 (fun q2 => b52 q2.2)) | (rw [rayF_stop hic0 (Or.inl b41), Nat.sub_self, rayF]) | (rw [rayF_stop hic0 (Or.inr ⟨by decide, b52⟩), Nat.sub_self, rayF])) hl hP hS
      · skip
        refine lv_aload_n hx hb dX6_sight_44 rfl (lv_at hl 1 rfl) ?_
        refine va_get (D := G.1) (ci := 6) (v := .ref (ad 4)) (C := RX6) (T := TX6) (N := 29) hx hb hts hin6 hown hK.1 hP 1 rfl rfl 21 (by decide) (hts (.fieldLink RX6 23 "BackLensesModel" "marks" "[I") (List.mem_of_getElem? (i := 1) rfl)) (fun _ h9 => h9) rfl dX6_sight_45 ?_
        refine lv_iload hx hb dX6_sight_48 (lv_at hl 4 rfl) ?_
        refine xn_iald hx hb hK hP 0 rfl (by omega) (by omega) dX6_sight_50 ?_
        refine lv_iconst (v := nI 5) hx hb dX6_sight_51 (by decide) ?_
        refine lv_icmp_ne (tgt := 65) hx hb dX6_sight_52 rfl (fun b52 => ?_) (fun b52 => ?_)
        · skip
          refine lv_iconst (v := nI 0) hx hb dX6_sight_65 (by decide) ?_
          refine lv_istore (lv' := [(5, .int (nI 0)), (2, .int (acc0 ||| ((nI 1) <<< ((nI (x - i0 * w)) &&& 31)))), (0, .ref ko), (1, .int (nI x)), (3, .int (nI 0)), (4, .int (nI (x - i0 * w)))]) hx hb dX6_sight_66 hl (by decide) rfl (fun ls hl => ?_)
          refine lv_iload hx hb dX6_sight_68 (lv_at hl 0 rfl) ?_
          refine xn_if_eq (tgt := 78) hx hb (by omega) dX6_sight_70 rfl (fun _ => ?_) (fun b70 => absurd b70 (by omega))
          refine lv_aload_n hx hb dX6_sight_78 rfl (lv_at hl 2 rfl) ?_
          refine lv_iload hx hb dX6_sight_79 (lv_at hl 5 rfl) ?_
          refine lv_iload_n hx hb dX6_sight_81 rfl (lv_at hl 4 rfl) ?_
          refine xr_i (As := [.int (nI (x - i0 * w)), .int (nI 0)]) (rest := []) ⟨hx, hb, hml, hown, hts⟩ (c_X6_beside_0 l G ko ad w h la tp ft tr mv (x - i0 * w) (by first | assumption | omega) (by first | assumption | omega) (by first | assumption | omega) (by first | assumption | omega)) (cwV 2 hts gX6_sight_X6_beside rfl rfl rfl (by decide +kernel) ⟨Nat.le_of_ble_eq_true rfl, Nat.le_of_ble_eq_true rfl⟩) hK hP hS [1] rfl rfl rfl rfl hl.1 rfl (Nat.le_of_ble_eq_true rfl) dX6_sight_82 ⟨Nat.zero_le _, Nat.zero_le _⟩ (fun r82 H locs hp82 hP hS => ?_)
          rw [show r82 = _ from hp82]
          refine lv_istore (lv' := [(4, .int (if w ≤ (x - i0 * w) then nI ((x - i0 * w) - w) else (-4))), (5, .int (nI 0)), (2, .int (acc0 ||| ((nI 1) <<< ((nI (x - i0 * w)) &&& 31)))), (0, .ref ko), (1, .int (nI x)), (3, .int (nI 0))]) hx hb dX6_sight_85 hl (by decide) rfl (fun ls hl => ?_)
          refine lv_goto (tgt := 19) hx hb dX6_sight_87 rfl ?_
          have hl := lv_sub hl (l' := [(0, .ref ko), (1, .int (nI x)), (2, .int (acc0 ||| ((nI 1) <<< ((nI (x - i0 * w)) &&& 31)))), (3, .int (nI 0)), (4, .int (if w ≤ (x - i0 * w) then nI ((x - i0 * w) - w) else (-4)))]) [3, 4, 2, 5, 0] rfl
          exact ih19 (x / w + 1 - (i0 + 1)) (by omega) (i0 + 1) (acc0 ||| ((nI 1) <<< ((nI (x - i0 * w)) &&& 31))) (if w ≤ (x - i0 * w) then nI ((x - i0 * w) - w) else (-4)) ls H locs rfl (by omega) (by omega) (by first | exact (if_neg (by omega)).symm | exact by_up (w := w) (h := h) (x := x) (i := i0) (by omega) hxx hic0) (by rw [hr0]; first | exact rayF_go hic0 (fun q => q.elim b41 (fun q2 => b52 q2.2)) | (rw [rayF_stop hic0 (Or.inl b41), Nat.sub_self, rayF]) | (rw [rayF_stop hic0 (Or.inr ⟨by decide, b52⟩), Nat.sub_self, rayF])) hl hP hS
        · skip
          refine lv_iload_n hx hb dX6_sight_55 rfl (lv_at hl 3 rfl) ?_
          refine lv_iconst (v := nI 2) hx hb dX6_sight_56 (by decide) ?_
          refine xn_irem hx hb (by omega) (by omega) (by omega) dX6_sight_57 ?_
          refine xn_if_ne (tgt := 65) hx hb (by omega) dX6_sight_58 rfl (fun b58 => absurd b58 (by omega)) (fun _ => ?_)
          refine lv_iconst (v := nI 1) hx hb dX6_sight_61 (by decide) ?_
          refine lv_goto (tgt := 66) hx hb dX6_sight_62 rfl ?_
          refine lv_istore (lv' := [(5, .int (nI 1)), (2, .int (acc0 ||| ((nI 1) <<< ((nI (x - i0 * w)) &&& 31)))), (0, .ref ko), (1, .int (nI x)), (3, .int (nI 0)), (4, .int (nI (x - i0 * w)))]) hx hb dX6_sight_66 hl (by decide) rfl (fun ls hl => ?_)
          refine lv_iload hx hb dX6_sight_68 (lv_at hl 0 rfl) ?_
          refine xn_if_eq (tgt := 78) hx hb (by omega) dX6_sight_70 rfl (fun b70 => absurd b70 (by omega)) (fun _ => ?_)
          refine lv_bipush (v := (-4)) hx hb dX6_sight_73 (by decide) ?_
          refine lv_goto (tgt := 85) hx hb dX6_sight_75 rfl ?_
          refine lv_istore (lv' := [(4, .int (-4)), (5, .int (nI 1)), (2, .int (acc0 ||| ((nI 1) <<< ((nI (x - i0 * w)) &&& 31)))), (0, .ref ko), (1, .int (nI x)), (3, .int (nI 0))]) hx hb dX6_sight_85 hl (by decide) rfl (fun ls hl => ?_)
          refine lv_goto (tgt := 19) hx hb dX6_sight_87 rfl ?_
          have hl := lv_sub hl (l' := [(0, .ref ko), (1, .int (nI x)), (2, .int (acc0 ||| ((nI 1) <<< ((nI (x - i0 * w)) &&& 31)))), (3, .int (nI 0)), (4, .int (-4))]) [3, 4, 2, 5, 0] rfl
          exact ih19 (x / w + 1 - (x / w + 1)) (by omega) (x / w + 1) (acc0 ||| ((nI 1) <<< ((nI (x - i0 * w)) &&& 31))) (-4) ls H locs rfl (by omega) (by omega) (by first | exact (if_neg (by omega)).symm | exact by_up (w := w) (h := h) (x := x) (i := i0) (by omega) hxx hic0) (by rw [hr0]; first | exact rayF_go hic0 (fun q => q.elim b41 (fun q2 => b52 q2.2)) | (rw [rayF_stop hic0 (Or.inl b41), Nat.sub_self, rayF]) | (rw [rayF_stop hic0 (Or.inr ⟨by decide, b52⟩), Nat.sub_self, rayF])) hl hP hS
  have hl := lv_sub hl (l' := [(0, .ref ko), (1, .int (nI x)), (2, .int ((nI 1) <<< ((nI x) &&& 31))), (3, .int (nI 0)), (4, .int (if w ≤ x then nI (x - w) else (-4)))]) [3, 4, 2, 1, 0] rfl
  have hP := hP.sub (ws' := [iA G (ad 4) 16 mk, oC ko 6 [.ref (ad 0), .ref (ad 1), .int (nI w), .int (nI h), .int (nI la), .ref (ad 2), .int (mv 0), .int (mv 1), .int (mv 2), .int (mv 3), .int (mv 4), .int (mv 5), .int (mv 6), .ref (ad 3), .int (nI tp), .int (mv 7), .int (mv 8), .int (mv 9), .int (mv 10), .int ft, .int (mv 11), .ref (ad 4), .ref (ad 5), .ref (ad 6), .ref (ad 7), .ref (ad 8), .ref (ad 9), .ref (ad 10), .int tr]]) [1, 0] rfl
  exact hL19 (x / w + 1 - 1) 1 ((nI 1) <<< ((nI x) &&& 31)) (if w ≤ x then nI (x - w) else (-4)) ls H locs rfl (by omega) (by omega) (by have q := by_up (w := w) (h := h) (x := x) (i := 0) (by omega) hxx (Nat.zero_le _); simp only [Nat.zero_mul, Nat.sub_zero, Nat.add_zero, Nat.zero_add] at q; exact q) (by rfl) hl hP hS
end
section
theorem xbits_Z {p : Nat → Bool} {c : Nat} {b : Int32} (h : p c = false) (hb : b = xbits p c) : b ||| (nI 0 <<< (nI c &&& 31)) = xbits p (c + 1) := by
  have h0 : nI 0 <<< (nI c &&& 31) = 0 := by
    rw [show nI 0 = (0 : Int32) from rfl]
    exact Int32.zero_shiftLeft
  rw [h0, Int32.or_zero]
  exact xbits_N h hb
abbrev sgM (w h : Nat) (S : Nat → Int32) (nc x d : Nat) : Int32 := sgF w h (fun c => mkM S nc c d) x
abbrev unM (w h : Nat) (S : Nat → Int32) (nc d e : Nat) : Int32 := xbits (fun c => !decide (mkM S nc c d = mkM S nc c e)) (w * h)
abbrev shM (w h : Nat) (S : Nat → Int32) (nc l x : Nat) : Int32 := sgM w h S nc x (tn (S (48 + 2 * l))) &&& (S (48 + 2 * l + 1) ^^^ (-1))
abbrev anM (w h : Nat) (S : Nat → Int32) (nc x c d : Nat) : Int32 := if (sgM w h S nc x d >>> (nI c &&& 31)) &&& nI 1 = nI 1 then mkM S nc c d else (-4)
abbrev fitM (w h : Nat) (S : Nat → Int32) (nc d i : Nat) : Bool := decide (anM w h S nc (tn (S (61 + 3 * i))) (tn (S (61 + 3 * i + 1))) d = S (61 + 3 * i + 2))
abbrev dyM (w h la : Nat) (S : Nat → Int32) (nc n : Nat) : Int32 := xbits (fun d => allF (fitM w h S nc d) n) (la + 1)
abbrev apM (w h : Nat) (S : Nat → Int32) (nc d e : Nat) : Int32 := xbits (fun x => !decide (sgM w h S nc x d = sgM w h S nc x e) || !decide (sgM w h S nc x d &&& unM w h S nc d e = 0)) (w * h)
end
section
abbrev Q_X6_flag_1 (G : XG)  : Array Value → State → Outcome → State → Prop := (xRi (fun r => r = nI 1))
set_option maxHeartbeats 4000000 in
set_option maxRecDepth 100000 in
theorem c_X6_flag_1 (l : Launch) (G : XG)   : Met l yX6_flag wsX6_flag ({ frames := 0, cells := 0, slots := 0, locals := 0 } : Room) (va_Pc [.int (nI 1)] (fun _ => True)) (Q_X6_flag_1 G ) 0 0 (fun _ => False) := by
  refine Met.ofW (cc := cX6_flag) (maxL := 1) (ret := (some .int)) (by decide) rfl ?_
  intro pp ee ss mm aa below mt cd s₁ BB hml hv
  obtain ⟨rfl, -⟩ := hv
  have hx := BB.exec
  have hb := BB.bytes
  have hr := BB.returns
  have hts := atoms_spec (ws := wsX6_flag) BB.pre
  have hown : ss.vm.findClass RX6 = some mm.cls := findClass_of_methodNamed BB.named
  have hlocks := BB.notSynchronized
  have hS : va_S (fun _ => False) ss.heap ss.heap [] := va_S.rf
  have hP : xP (G) [] ss.heap := fun k q h => by cases h
  have hl := lv_entry ([.int (nI 1)]) (n := 1) (Nat.le_of_ble_eq_true rfl)
  rw [lg_entry_eq]
  generalize (lg_sl ([.int (nI 1)]) ++ List.replicate (1 - (lg_sl ([.int (nI 1)])).length) Slot.unset).toArray = ls at hl ⊢
  replace hl : lv_has ls 1 [(0, .int (nI 1))] := hl
  refine lv_iload_n hx hb dX6_flag_0 rfl (lv_at hl 0 rfl) ?_
  refine xn_if_eq (tgt := 8) hx hb (by omega) dX6_flag_1 rfl (fun b1 => absurd b1 (by omega)) (fun _ => ?_)
  refine lv_iconst (v := nI 1) hx hb dX6_flag_4 (by decide) ?_
  refine lv_goto (tgt := 9) hx hb dX6_flag_5 rfl ?_
  refine W.iret (v := nI 1) hx hb hr (fun t ht hW => ⟨⟨nI 1, (), rfl, ?_, trivial⟩, hS.F ht⟩) hS.2.2 dX6_flag_9
  rfl

abbrev Q_X6_flag_0 (G : XG)  : Array Value → State → Outcome → State → Prop := (xRi (fun r => r = nI 0))
set_option maxHeartbeats 4000000 in
set_option maxRecDepth 100000 in
theorem c_X6_flag_0 (l : Launch) (G : XG)   : Met l yX6_flag wsX6_flag ({ frames := 0, cells := 0, slots := 0, locals := 0 } : Room) (va_Pc [.int (nI 0)] (fun _ => True)) (Q_X6_flag_0 G ) 0 0 (fun _ => False) := by
  refine Met.ofW (cc := cX6_flag) (maxL := 1) (ret := (some .int)) (by decide) rfl ?_
  intro pp ee ss mm aa below mt cd s₁ BB hml hv
  obtain ⟨rfl, -⟩ := hv
  have hx := BB.exec
  have hb := BB.bytes
  have hr := BB.returns
  have hts := atoms_spec (ws := wsX6_flag) BB.pre
  have hown : ss.vm.findClass RX6 = some mm.cls := findClass_of_methodNamed BB.named
  have hlocks := BB.notSynchronized
  have hS : va_S (fun _ => False) ss.heap ss.heap [] := va_S.rf
  have hP : xP (G) [] ss.heap := fun k q h => by cases h
  have hl := lv_entry ([.int (nI 0)]) (n := 1) (Nat.le_of_ble_eq_true rfl)
  rw [lg_entry_eq]
  generalize (lg_sl ([.int (nI 0)]) ++ List.replicate (1 - (lg_sl ([.int (nI 0)])).length) Slot.unset).toArray = ls at hl ⊢
  replace hl : lv_has ls 1 [(0, .int (nI 0))] := hl
  refine lv_iload_n hx hb dX6_flag_0 rfl (lv_at hl 0 rfl) ?_
  refine xn_if_eq (tgt := 8) hx hb (by omega) dX6_flag_1 rfl (fun _ => ?_) (fun b1 => absurd b1 (by omega))
  refine lv_iconst (v := nI 0) hx hb dX6_flag_8 (by decide) ?_
  refine W.iret (v := nI 0) hx hb hr (fun t ht hW => ⟨⟨nI 0, (), rfl, ?_, trivial⟩, hS.F ht⟩) hS.2.2 dX6_flag_9
  rfl

abbrev w_X6_sightOn (G : XG) (ko : Nat) (ad : Nat → Nat) (w h la tp : Nat) (ft tr : Int32) (mv : Nat → Int32) (S mk : Nat → Int32) : va_W := [oC ko 6 [.ref (ad 0), .ref (ad 1), .int (nI w), .int (nI h), .int (nI la), .ref (ad 2), .int (mv 0), .int (mv 1), .int (mv 2), .int (mv 3), .int (mv 4), .int (mv 5), .int (mv 6), .ref (ad 3), .int (nI tp), .int (mv 7), .int (mv 8), .int (mv 9), .int (mv 10), .int ft, .int (mv 11), .ref (ad 4), .ref (ad 5), .ref (ad 6), .ref (ad 7), .ref (ad 8), .ref (ad 9), .ref (ad 10), .int tr], iA G (ad 0) 255 S, iA G (ad 4) 16 mk]
abbrev Q_X6_sightOn (G : XG) (sz : Nat) (ko : Nat) (ad : Nat → Nat) (w h la tp : Nat) (ft tr : Int32) (mv : Nat → Int32) (S mk : Nat → Int32) (nc : Nat) (x d : Nat) : Array Value → State → Outcome → State → Prop := (va_Qi (fun (r : Int32) (u : (Nat → Int32)) => r = sgM w h S nc x d) (xWb G sz (w_X6_sightOn G ko ad w h la tp ft tr mv S mk) (fun u : (Nat → Int32) => [oC ko 6 [.ref (ad 0), .ref (ad 1), .int (nI w), .int (nI h), .int (nI la), .ref (ad 2), .int (mv 0), .int (mv 1), .int (mv 2), .int (mv 3), .int (mv 4), .int (mv 5), .int (mv 6), .ref (ad 3), .int (nI tp), .int (mv 7), .int (mv 8), .int (mv 9), .int (mv 10), .int ft, .int (mv 11), .ref (ad 4), .ref (ad 5), .ref (ad 6), .ref (ad 7), .ref (ad 8), .ref (ad 9), .ref (ad 10), .int tr], iA G (ad 0) 255 S, iA G (ad 4) 16 u])) (va_A (w_X6_sightOn G ko ad w h la tp ft tr mv S mk) sz))
set_option maxHeartbeats 4000000 in
set_option maxRecDepth 100000 in
theorem c_X6_sightOn (l : Launch) (G : XG) (sz : Nat) (ko : Nat) (ad : Nat → Nat) (w h la tp : Nat) (ft tr : Int32) (mv : Nat → Int32) (S mk : Nat → Int32) (nc : Nat) (x d : Nat) (hw : 1 ≤ w) (hwb : w ≤ 16) (hhb : h ≤ 16) (hwh1 : 1 ≤ w * h) (hwh : w * h ≤ 16) (hla : la ≤ 9) (hs16 : S 16 = nI nc) (hnc : nc ≤ 10) (hxx : x < w * h) (hd : d ≤ 9) : Met l yX6_sightOn wsX6_sightOn ({ frames := 3, cells := 0, slots := 0, locals := 67 } : Room) (va_Pc [.ref ko, .int (nI x), .int (nI d)] (xWp G sz (w_X6_sightOn G ko ad w h la tp ft tr mv S mk))) (Q_X6_sightOn G sz ko ad w h la tp ft tr mv S mk nc x d) 0 0 (va_A (w_X6_sightOn G ko ad w h la tp ft tr mv S mk) sz) := by
  refine Met.ofW (cc := cX6_sightOn) (maxL := 3) (ret := (some .int)) (by decide) rfl ?_
  intro pp ee ss mm aa below mt cd s₁ BB hml hv
  obtain ⟨rfl, hsz, hP, hK, hD0⟩ := hv
  have hx := BB.exec
  have hb := BB.bytes
  have hr := BB.returns
  have hts := atoms_spec (ws := wsX6_sightOn) BB.pre
  have hown : ss.vm.findClass RX6 = some mm.cls := findClass_of_methodNamed BB.named
  have hlocks := BB.notSynchronized
  subst hsz
  have hD := hD0.self (sz := ss.heap.size)
  have hA : ∀ q : Nat, ss.heap.size ≤ q → va_A (w_X6_sightOn G ko ad w h la tp ft tr mv S mk) ss.heap.size q := fun q h => Or.inr h
  have hS : va_S (va_A (w_X6_sightOn G ko ad w h la tp ft tr mv S mk) ss.heap.size) ss.heap ss.heap [] := va_S.rf
  replace hD : va_D (va_A (w_X6_sightOn G ko ad w h la tp ft tr mv S mk) ss.heap.size) [oC ko 6 [.ref (ad 0), .ref (ad 1), .int (nI w), .int (nI h), .int (nI la), .ref (ad 2), .int (mv 0), .int (mv 1), .int (mv 2), .int (mv 3), .int (mv 4), .int (mv 5), .int (mv 6), .ref (ad 3), .int (nI tp), .int (mv 7), .int (mv 8), .int (mv 9), .int (mv 10), .int ft, .int (mv 11), .ref (ad 4), .ref (ad 5), .ref (ad 6), .ref (ad 7), .ref (ad 8), .ref (ad 9), .ref (ad 10), .int tr], iA G (ad 0) 255 S, iA G (ad 4) 16 mk] := hD
  replace hP : xP G [oC ko 6 [.ref (ad 0), .ref (ad 1), .int (nI w), .int (nI h), .int (nI la), .ref (ad 2), .int (mv 0), .int (mv 1), .int (mv 2), .int (mv 3), .int (mv 4), .int (mv 5), .int (mv 6), .ref (ad 3), .int (nI tp), .int (mv 7), .int (mv 8), .int (mv 9), .int (mv 10), .int ft, .int (mv 11), .ref (ad 4), .ref (ad 5), .ref (ad 6), .ref (ad 7), .ref (ad 8), .ref (ad 9), .ref (ad 10), .int tr], iA G (ad 0) 255 S, iA G (ad 4) 16 mk] ss.heap := hP
  have hin6 : ∀ w ∈ u_ws RX6 TX6 29, w ∈ wsX6_sightOn := fun w h => List.mem_cons_of_mem _ (List.mem_append_right _ h)
  have hl := lv_entry ([.ref ko, .int (nI x), .int (nI d)]) (n := 3) (Nat.le_of_ble_eq_true rfl)
  rw [lg_entry_eq]
  generalize (lg_sl ([.ref ko, .int (nI x), .int (nI d)]) ++ List.replicate (3 - (lg_sl ([.ref ko, .int (nI x), .int (nI d)])).length) Slot.unset).toArray = ls at hl ⊢
  replace hl : lv_has ls 3 [(0, .ref ko), (1, .int (nI x)), (2, .int (nI d))] := hl
  refine lv_aload_n hx hb dX6_sightOn_0 rfl (lv_at hl 0 rfl) ?_
  refine lv_iload_n hx hb dX6_sightOn_1 rfl (lv_at hl 2 rfl) ?_
  refine xw_v (As := [.int (nI d)]) (rest := []) (wr := []) ⟨hx, hb, hml, hown, hts⟩ (c_X6_shiftTo l G ss.heap.size ko ad w h la tp ft tr mv S mk _ d (by first | assumption | omega) (by first | assumption | omega) (by first | assumption | omega)) (cwV 1 hts gX6_sightOn_X6_shiftTo rfl rfl rfl (by decide +kernel) ⟨Nat.le_of_ble_eq_true rfl, Nat.le_of_ble_eq_true rfl⟩) hK hP hD hS hA [0, 1, 2] [] rfl rfl (by decide) (by decide) (by decide) rfl rfl rfl hl.1 rfl (Nat.le_of_ble_eq_true rfl) dX6_sightOn_2 ⟨Nat.le_of_ble_eq_true rfl, Nat.le_of_ble_eq_true rfl⟩ (fun u H locs hp2 hP hD hS => ?_)
  obtain ⟨mk2_2, rfl⟩ : ∃ z, z = u := ⟨_, rfl⟩
  try dsimp only at hp2 hP hD
  have he2 := hp2
  replace hP : xP G [oC ko 6 [.ref (ad 0), .ref (ad 1), .int (nI w), .int (nI h), .int (nI la), .ref (ad 2), .int (mv 0), .int (mv 1), .int (mv 2), .int (mv 3), .int (mv 4), .int (mv 5), .int (mv 6), .ref (ad 3), .int (nI tp), .int (mv 7), .int (mv 8), .int (mv 9), .int (mv 10), .int ft, .int (mv 11), .ref (ad 4), .ref (ad 5), .ref (ad 6), .ref (ad 7), .ref (ad 8), .ref (ad 9), .ref (ad 10), .int tr], iA G (ad 0) 255 S, iA G (ad 4) 16 mk2_2] H := hP
  replace hD : va_D (va_A (w_X6_sightOn G ko ad w h la tp ft tr mv S mk) ss.heap.size) [oC ko 6 [.ref (ad 0), .ref (ad 1), .int (nI w), .int (nI h), .int (nI la), .ref (ad 2), .int (mv 0), .int (mv 1), .int (mv 2), .int (mv 3), .int (mv 4), .int (mv 5), .int (mv 6), .ref (ad 3), .int (nI tp), .int (mv 7), .int (mv 8), .int (mv 9), .int (mv 10), .int ft, .int (mv 11), .ref (ad 4), .ref (ad 5), .ref (ad 6), .ref (ad 7), .ref (ad 8), .ref (ad 9), .ref (ad 10), .int tr], iA G (ad 0) 255 S, iA G (ad 4) 16 mk2_2] := hD
  refine lv_aload_n hx hb dX6_sightOn_5 rfl (lv_at hl 0 rfl) ?_
  refine lv_iload_n hx hb dX6_sightOn_6 rfl (lv_at hl 1 rfl) ?_
  refine xr_i (As := [.int (nI x)]) (rest := []) ⟨hx, hb, hml, hown, hts⟩ (c_X6_sight l G ko ad w h la tp ft tr mv mk2_2 x (by first | assumption | omega) (by first | assumption | omega) (by first | assumption | omega) (by first | assumption | omega) (by first | assumption | omega)) (cwV 1 hts gX6_sightOn_X6_sight rfl rfl rfl (by decide +kernel) ⟨Nat.le_of_ble_eq_true rfl, Nat.le_of_ble_eq_true rfl⟩) hK hP hS [0, 2] rfl rfl rfl rfl hl.1 rfl (Nat.le_of_ble_eq_true rfl) dX6_sightOn_7 ⟨Nat.zero_le _, Nat.zero_le _⟩ (fun r7 H locs hp7 hP hS => ?_)
  rw [show r7 = _ from hp7]
  have hP := hP.sub (ws' := [oC ko 6 [.ref (ad 0), .ref (ad 1), .int (nI w), .int (nI h), .int (nI la), .ref (ad 2), .int (mv 0), .int (mv 1), .int (mv 2), .int (mv 3), .int (mv 4), .int (mv 5), .int (mv 6), .ref (ad 3), .int (nI tp), .int (mv 7), .int (mv 8), .int (mv 9), .int (mv 10), .int ft, .int (mv 11), .ref (ad 4), .ref (ad 5), .ref (ad 6), .ref (ad 7), .ref (ad 8), .ref (ad 9), .ref (ad 10), .int tr], iA G (ad 0) 255 S, iA G (ad 4) 16 mk2_2]) [0, 1, 2] rfl
  have hD := hD.sub (ws' := [oC ko 6 [.ref (ad 0), .ref (ad 1), .int (nI w), .int (nI h), .int (nI la), .ref (ad 2), .int (mv 0), .int (mv 1), .int (mv 2), .int (mv 3), .int (mv 4), .int (mv 5), .int (mv 6), .ref (ad 3), .int (nI tp), .int (mv 7), .int (mv 8), .int (mv 9), .int (mv 10), .int ft, .int (mv 11), .ref (ad 4), .ref (ad 5), .ref (ad 6), .ref (ad 7), .ref (ad 8), .ref (ad 9), .ref (ad 10), .int tr], iA G (ad 0) 255 S, iA G (ad 4) 16 mk2_2]) [0, 1, 2] (by decide) rfl
  refine W.iret (v := sgF w h mk2_2 x) hx hb hr (fun t ht hW => ⟨⟨sgF w h mk2_2 x, (mk2_2), rfl, ?_, by rw [ht]; exact hP, hD⟩, hS.F ht⟩) hS.2.2 dX6_sightOn_10
  exact sgF_congr (by omega) (by omega) (fun c q => he2 c (by omega))

abbrev w_X6_shownBy (G : XG) (ko : Nat) (ad : Nat → Nat) (w h la tp : Nat) (ft tr : Int32) (mv : Nat → Int32) (S mk : Nat → Int32) : va_W := [oC ko 6 [.ref (ad 0), .ref (ad 1), .int (nI w), .int (nI h), .int (nI la), .ref (ad 2), .int (mv 0), .int (mv 1), .int (mv 2), .int (mv 3), .int (mv 4), .int (mv 5), .int (mv 6), .ref (ad 3), .int (nI tp), .int (mv 7), .int (mv 8), .int (mv 9), .int (mv 10), .int ft, .int (mv 11), .ref (ad 4), .ref (ad 5), .ref (ad 6), .ref (ad 7), .ref (ad 8), .ref (ad 9), .ref (ad 10), .int tr], iA G (ad 0) 255 S, iA G (ad 4) 16 mk]
abbrev Q_X6_shownBy (G : XG) (sz : Nat) (ko : Nat) (ad : Nat → Nat) (w h la tp : Nat) (ft tr : Int32) (mv : Nat → Int32) (S mk : Nat → Int32) (nc : Nat) (nl : Nat) (l1 x : Nat) : Array Value → State → Outcome → State → Prop := (va_Qi (fun (r : Int32) (u : (Nat → Int32)) => r = shM w h S nc l1 x) (xWb G sz (w_X6_shownBy G ko ad w h la tp ft tr mv S mk) (fun u : (Nat → Int32) => [oC ko 6 [.ref (ad 0), .ref (ad 1), .int (nI w), .int (nI h), .int (nI la), .ref (ad 2), .int (mv 0), .int (mv 1), .int (mv 2), .int (mv 3), .int (mv 4), .int (mv 5), .int (mv 6), .ref (ad 3), .int (nI tp), .int (mv 7), .int (mv 8), .int (mv 9), .int (mv 10), .int ft, .int (mv 11), .ref (ad 4), .ref (ad 5), .ref (ad 6), .ref (ad 7), .ref (ad 8), .ref (ad 9), .ref (ad 10), .int tr], iA G (ad 0) 255 S, iA G (ad 4) 16 u])) (va_A (w_X6_shownBy G ko ad w h la tp ft tr mv S mk) sz))
set_option maxHeartbeats 4000000 in
set_option maxRecDepth 100000 in
theorem c_X6_shownBy (l : Launch) (G : XG) (sz : Nat) (ko : Nat) (ad : Nat → Nat) (w h la tp : Nat) (ft tr : Int32) (mv : Nat → Int32) (S mk : Nat → Int32) (nc : Nat) (nl : Nat) (l1 x : Nat) (hw : 1 ≤ w) (hwb : w ≤ 16) (hhb : h ≤ 16) (hwh1 : 1 ≤ w * h) (hwh : w * h ≤ 16) (hla : la ≤ 9) (hs16 : S 16 = nI nc) (hnc : nc ≤ 10) (hs47 : S 47 = nI nl) (hnl : nl ≤ 6) (hlens : ∀ i, i < nl → inR (S (48 + 2 * i)) (la + 1)) (hl1 : l1 < nl) (hxx : x < w * h) : Met l yX6_shownBy wsX6_shownBy ({ frames := 4, cells := 0, slots := 0, locals := 89 } : Room) (va_Pc [.ref ko, .int (nI l1), .int (nI x)] (xWp G sz (w_X6_shownBy G ko ad w h la tp ft tr mv S mk))) (Q_X6_shownBy G sz ko ad w h la tp ft tr mv S mk nc nl l1 x) 0 0 (va_A (w_X6_shownBy G ko ad w h la tp ft tr mv S mk) sz) := by
  refine Met.ofW (cc := cX6_shownBy) (maxL := 3) (ret := (some .int)) (by decide) rfl ?_
  intro pp ee ss mm aa below mt cd s₁ BB hml hv
  obtain ⟨rfl, hsz, hP, hK, hD0⟩ := hv
  have hx := BB.exec
  have hb := BB.bytes
  have hr := BB.returns
  have hts := atoms_spec (ws := wsX6_shownBy) BB.pre
  have hown : ss.vm.findClass RX6 = some mm.cls := findClass_of_methodNamed BB.named
  have hlocks := BB.notSynchronized
  subst hsz
  have hD := hD0.self (sz := ss.heap.size)
  have hA : ∀ q : Nat, ss.heap.size ≤ q → va_A (w_X6_shownBy G ko ad w h la tp ft tr mv S mk) ss.heap.size q := fun q h => Or.inr h
  have hS : va_S (va_A (w_X6_shownBy G ko ad w h la tp ft tr mv S mk) ss.heap.size) ss.heap ss.heap [] := va_S.rf
  replace hD : va_D (va_A (w_X6_shownBy G ko ad w h la tp ft tr mv S mk) ss.heap.size) [oC ko 6 [.ref (ad 0), .ref (ad 1), .int (nI w), .int (nI h), .int (nI la), .ref (ad 2), .int (mv 0), .int (mv 1), .int (mv 2), .int (mv 3), .int (mv 4), .int (mv 5), .int (mv 6), .ref (ad 3), .int (nI tp), .int (mv 7), .int (mv 8), .int (mv 9), .int (mv 10), .int ft, .int (mv 11), .ref (ad 4), .ref (ad 5), .ref (ad 6), .ref (ad 7), .ref (ad 8), .ref (ad 9), .ref (ad 10), .int tr], iA G (ad 0) 255 S, iA G (ad 4) 16 mk] := hD
  replace hP : xP G [oC ko 6 [.ref (ad 0), .ref (ad 1), .int (nI w), .int (nI h), .int (nI la), .ref (ad 2), .int (mv 0), .int (mv 1), .int (mv 2), .int (mv 3), .int (mv 4), .int (mv 5), .int (mv 6), .ref (ad 3), .int (nI tp), .int (mv 7), .int (mv 8), .int (mv 9), .int (mv 10), .int ft, .int (mv 11), .ref (ad 4), .ref (ad 5), .ref (ad 6), .ref (ad 7), .ref (ad 8), .ref (ad 9), .ref (ad 10), .int tr], iA G (ad 0) 255 S, iA G (ad 4) 16 mk] ss.heap := hP
  have hin6 : ∀ w ∈ u_ws RX6 TX6 29, w ∈ wsX6_shownBy := fun w h => List.mem_cons_of_mem _ (List.mem_append_right _ h)
  have hl := lv_entry ([.ref ko, .int (nI l1), .int (nI x)]) (n := 3) (Nat.le_of_ble_eq_true rfl)
  rw [lg_entry_eq]
  generalize (lg_sl ([.ref ko, .int (nI l1), .int (nI x)]) ++ List.replicate (3 - (lg_sl ([.ref ko, .int (nI l1), .int (nI x)])).length) Slot.unset).toArray = ls at hl ⊢
  replace hl : lv_has ls 3 [(0, .ref ko), (1, .int (nI l1)), (2, .int (nI x))] := hl
  refine lv_aload_n hx hb dX6_shownBy_0 rfl (lv_at hl 0 rfl) ?_
  refine lv_iload_n hx hb dX6_shownBy_1 rfl (lv_at hl 2 rfl) ?_
  refine lv_aload_n hx hb dX6_shownBy_2 rfl (lv_at hl 0 rfl) ?_
  refine va_get (D := G.1) (ci := 6) (v := .ref (ad 0)) (C := RX6) (T := TX6) (N := 29) hx hb hts hin6 hown hK.1 hP 0 rfl rfl 0 (by decide) (hts (.fieldLink RX6 7 "BackLensesModel" "st" "[I") (List.mem_of_getElem? (i := 1) rfl)) (fun _ h9 => h9) rfl dX6_shownBy_3 ?_
  refine lv_bipush (v := nI 48) hx hb dX6_shownBy_6 (by decide) ?_
  refine lv_iconst (v := nI 2) hx hb dX6_shownBy_8 (by decide) ?_
  refine lv_iload_n hx hb dX6_shownBy_9 rfl (lv_at hl 1 rfl) ?_
  refine xn_imul hx hb dX6_shownBy_10 ?_
  refine xn_iadd hx hb dX6_shownBy_11 ?_
  refine xn_iald hx hb hK hP 1 rfl (by omega) (by omega) dX6_shownBy_12 ?_
  obtain ⟨d0, hd0, ed0⟩ := inR_nat (hlens l1 (by omega))
  refine xn_top ed0 ?_
  refine xw_i (As := [.int (nI x), .int (nI d0)]) (rest := []) (wr := []) ⟨hx, hb, hml, hown, hts⟩ (c_X6_sightOn l G ss.heap.size ko ad w h la tp ft tr mv S mk _ x d0 (by first | assumption | omega) (by first | assumption | omega) (by first | assumption | omega) (by first | assumption | omega) (by first | assumption | omega) (by first | assumption | omega) (by first | assumption | omega) (by first | assumption | omega) (by first | assumption | omega) (by first | assumption | omega)) (cwV 2 hts gX6_shownBy_X6_sightOn rfl rfl rfl (by decide +kernel) ⟨Nat.le_of_ble_eq_true rfl, Nat.le_of_ble_eq_true rfl⟩) hK hP hD hS hA [0, 1, 2] [] rfl rfl (by decide) (by decide) (by decide) rfl rfl rfl hl.1 rfl (Nat.le_of_ble_eq_true rfl) dX6_shownBy_13 ⟨Nat.le_of_ble_eq_true rfl, Nat.le_of_ble_eq_true rfl⟩ (fun r13 u H locs hp13 hP hD hS => ?_)
  obtain ⟨mk2_13, rfl⟩ : ∃ z, z = u := ⟨_, rfl⟩
  try dsimp only at hp13 hP hD
  obtain rfl := hp13
  replace hP : xP G [oC ko 6 [.ref (ad 0), .ref (ad 1), .int (nI w), .int (nI h), .int (nI la), .ref (ad 2), .int (mv 0), .int (mv 1), .int (mv 2), .int (mv 3), .int (mv 4), .int (mv 5), .int (mv 6), .ref (ad 3), .int (nI tp), .int (mv 7), .int (mv 8), .int (mv 9), .int (mv 10), .int ft, .int (mv 11), .ref (ad 4), .ref (ad 5), .ref (ad 6), .ref (ad 7), .ref (ad 8), .ref (ad 9), .ref (ad 10), .int tr], iA G (ad 0) 255 S, iA G (ad 4) 16 mk2_13] H := hP
  replace hD : va_D (va_A (w_X6_shownBy G ko ad w h la tp ft tr mv S mk) ss.heap.size) [oC ko 6 [.ref (ad 0), .ref (ad 1), .int (nI w), .int (nI h), .int (nI la), .ref (ad 2), .int (mv 0), .int (mv 1), .int (mv 2), .int (mv 3), .int (mv 4), .int (mv 5), .int (mv 6), .ref (ad 3), .int (nI tp), .int (mv 7), .int (mv 8), .int (mv 9), .int (mv 10), .int ft, .int (mv 11), .ref (ad 4), .ref (ad 5), .ref (ad 6), .ref (ad 7), .ref (ad 8), .ref (ad 9), .ref (ad 10), .int tr], iA G (ad 0) 255 S, iA G (ad 4) 16 mk2_13] := hD
  refine lv_aload_n hx hb dX6_shownBy_16 rfl (lv_at hl 0 rfl) ?_
  refine va_get (D := G.1) (ci := 6) (v := .ref (ad 0)) (C := RX6) (T := TX6) (N := 29) hx hb hts hin6 hown hK.1 hP 0 rfl rfl 0 (by decide) (hts (.fieldLink RX6 7 "BackLensesModel" "st" "[I") (List.mem_of_getElem? (i := 1) rfl)) (fun _ h9 => h9) rfl dX6_shownBy_17 ?_
  refine lv_bipush (v := nI 48) hx hb dX6_shownBy_20 (by decide) ?_
  refine lv_iconst (v := nI 2) hx hb dX6_shownBy_22 (by decide) ?_
  refine lv_iload_n hx hb dX6_shownBy_23 rfl (lv_at hl 1 rfl) ?_
  refine xn_imul hx hb dX6_shownBy_24 ?_
  refine xn_iadd hx hb dX6_shownBy_25 ?_
  refine lv_iconst (v := nI 1) hx hb dX6_shownBy_26 (by decide) ?_
  refine xn_iadd hx hb dX6_shownBy_27 ?_
  refine xn_iald hx hb hK hP 1 rfl (by omega) (by omega) dX6_shownBy_28 ?_
  refine lv_iconst (v := (-1)) hx hb dX6_shownBy_29 (by decide) ?_
  refine lv_ixor hx hb dX6_shownBy_30 ?_
  refine lv_iand hx hb dX6_shownBy_31 ?_
  have hP := hP.sub (ws' := [oC ko 6 [.ref (ad 0), .ref (ad 1), .int (nI w), .int (nI h), .int (nI la), .ref (ad 2), .int (mv 0), .int (mv 1), .int (mv 2), .int (mv 3), .int (mv 4), .int (mv 5), .int (mv 6), .ref (ad 3), .int (nI tp), .int (mv 7), .int (mv 8), .int (mv 9), .int (mv 10), .int ft, .int (mv 11), .ref (ad 4), .ref (ad 5), .ref (ad 6), .ref (ad 7), .ref (ad 8), .ref (ad 9), .ref (ad 10), .int tr], iA G (ad 0) 255 S, iA G (ad 4) 16 mk2_13]) [0, 1, 2] rfl
  have hD := hD.sub (ws' := [oC ko 6 [.ref (ad 0), .ref (ad 1), .int (nI w), .int (nI h), .int (nI la), .ref (ad 2), .int (mv 0), .int (mv 1), .int (mv 2), .int (mv 3), .int (mv 4), .int (mv 5), .int (mv 6), .ref (ad 3), .int (nI tp), .int (mv 7), .int (mv 8), .int (mv 9), .int (mv 10), .int ft, .int (mv 11), .ref (ad 4), .ref (ad 5), .ref (ad 6), .ref (ad 7), .ref (ad 8), .ref (ad 9), .ref (ad 10), .int tr], iA G (ad 0) 255 S, iA G (ad 4) 16 mk2_13]) [0, 1, 2] (by decide) rfl
  refine W.iret (v := (sgM w h S _ x d0) &&& ((S ((48 + (2 * l1)) + 1)) ^^^ (-1))) hx hb hr (fun t ht hW => ⟨⟨(sgM w h S _ x d0) &&& ((S ((48 + (2 * l1)) + 1)) ^^^ (-1)), (mk2_13), rfl, ?_, by rw [ht]; exact hP, hD⟩, hS.F ht⟩) hS.2.2 dX6_shownBy_32
  unfold shM; rw [ed0, tn_nI (by omega)]

abbrev w_X6_unlike (G : XG) (ko : Nat) (ad : Nat → Nat) (w h la tp : Nat) (ft tr : Int32) (mv : Nat → Int32) (S : Nat → Int32) : va_W := [oC ko 6 [.ref (ad 0), .ref (ad 1), .int (nI w), .int (nI h), .int (nI la), .ref (ad 2), .int (mv 0), .int (mv 1), .int (mv 2), .int (mv 3), .int (mv 4), .int (mv 5), .int (mv 6), .ref (ad 3), .int (nI tp), .int (mv 7), .int (mv 8), .int (mv 9), .int (mv 10), .int ft, .int (mv 11), .ref (ad 4), .ref (ad 5), .ref (ad 6), .ref (ad 7), .ref (ad 8), .ref (ad 9), .ref (ad 10), .int tr], iA G (ad 0) 255 S]
abbrev Q_X6_unlike (G : XG) (ko : Nat) (ad : Nat → Nat) (w h la tp : Nat) (ft tr : Int32) (mv : Nat → Int32) (S : Nat → Int32) (nc : Nat) (d e : Nat) : Array Value → State → Outcome → State → Prop := (xRi (fun r => r = unM w h S nc d e))
set_option maxHeartbeats 4000000 in
set_option maxRecDepth 100000 in
theorem c_X6_unlike (l : Launch) (G : XG) (ko : Nat) (ad : Nat → Nat) (w h la tp : Nat) (ft tr : Int32) (mv : Nat → Int32) (S : Nat → Int32) (nc : Nat) (d e : Nat) (hw : 1 ≤ w) (hwb : w ≤ 16) (hhb : h ≤ 16) (hwh1 : 1 ≤ w * h) (hwh : w * h ≤ 16) (hla : la ≤ 9) (hs16 : S 16 = nI nc) (hnc : nc ≤ 10) (hd : d ≤ 9) (he : e ≤ 9) : Met l yX6_unlike wsX6_unlike ({ frames := 1, cells := 0, slots := 0, locals := 27 } : Room) (va_Pc [.ref ko, .int (nI d), .int (nI e)] (xRp G (w_X6_unlike G ko ad w h la tp ft tr mv S))) (Q_X6_unlike G ko ad w h la tp ft tr mv S nc d e) 0 0 (fun _ => False) := by
  refine Met.ofW (cc := cX6_unlike) (maxL := 5) (ret := (some .int)) (by decide) rfl ?_
  intro pp ee ss mm aa below mt cd s₁ BB hml hv
  obtain ⟨rfl, hP, hK⟩ := hv
  have hx := BB.exec
  have hb := BB.bytes
  have hr := BB.returns
  have hts := atoms_spec (ws := wsX6_unlike) BB.pre
  have hown : ss.vm.findClass RX6 = some mm.cls := findClass_of_methodNamed BB.named
  have hlocks := BB.notSynchronized
  have hS : va_S (fun _ => False) ss.heap ss.heap [] := va_S.rf
  replace hP : xP G [oC ko 6 [.ref (ad 0), .ref (ad 1), .int (nI w), .int (nI h), .int (nI la), .ref (ad 2), .int (mv 0), .int (mv 1), .int (mv 2), .int (mv 3), .int (mv 4), .int (mv 5), .int (mv 6), .ref (ad 3), .int (nI tp), .int (mv 7), .int (mv 8), .int (mv 9), .int (mv 10), .int ft, .int (mv 11), .ref (ad 4), .ref (ad 5), .ref (ad 6), .ref (ad 7), .ref (ad 8), .ref (ad 9), .ref (ad 10), .int tr], iA G (ad 0) 255 S] ss.heap := hP
  have hin6 : ∀ w ∈ u_ws RX6 TX6 29, w ∈ wsX6_unlike := fun w h => List.mem_cons_of_mem _ (List.mem_append_right _ h)
  have hl := lv_entry ([.ref ko, .int (nI d), .int (nI e)]) (n := 5) (Nat.le_of_ble_eq_true rfl)
  rw [lg_entry_eq]
  generalize (lg_sl ([.ref ko, .int (nI d), .int (nI e)]) ++ List.replicate (5 - (lg_sl ([.ref ko, .int (nI d), .int (nI e)])).length) Slot.unset).toArray = ls at hl ⊢
  replace hl : lv_has ls 5 [(0, .ref ko), (1, .int (nI d)), (2, .int (nI e))] := hl
  refine lv_iconst (v := nI 0) hx hb dX6_unlike_0 (by decide) ?_
  refine lv_istore_n (lv' := [(3, .int (nI 0)), (0, .ref ko), (1, .int (nI d)), (2, .int (nI e))]) hx hb dX6_unlike_1 rfl hl (by decide) rfl (fun ls hl => ?_)
  refine lv_iconst (v := nI 0) hx hb dX6_unlike_2 (by decide) ?_
  refine lv_istore (lv' := [(4, .int (nI 0)), (3, .int (nI 0)), (0, .ref ko), (1, .int (nI d)), (2, .int (nI e))]) hx hb dX6_unlike_3 hl (by decide) rfl (fun ls hl => ?_)
  have hL5 : ∀ k : Nat, ∀ (c : Nat) (bits : Int32) (ls : Array Slot) (H : Heap) (locs : List Loc), w * h - c = k → (c ≤ w * h) → (bits = xbits (fun c => !decide (mkM S nc c d = mkM S nc c e)) c) → lv_has ls 5 [(0, .ref ko), (1, .int (nI d)), (2, .int (nI e)), (3, .int bits), (4, .int (nI c))] → xP G [iA G (ad 0) 255 S, oC ko 6 [.ref (ad 0), .ref (ad 1), .int (nI w), .int (nI h), .int (nI la), .ref (ad 2), .int (mv 0), .int (mv 1), .int (mv 2), .int (mv 3), .int (mv 4), .int (mv 5), .int (mv 6), .ref (ad 3), .int (nI tp), .int (mv 7), .int (mv 8), .int (mv 9), .int (mv 10), .int ft, .int (mv 11), .ref (ad 4), .ref (ad 5), .ref (ad 6), .ref (ad 7), .ref (ad 8), .ref (ad 9), .ref (ad 10), .int tr]] H → va_S (fun _ => False) ss.heap H locs → W pp l ee ({ frames := 1, cells := 0, slots := 0, locals := 27 } : Room) ss mm ([.ref ko, .int (nI d), .int (nI e)] : List Value).toArray below mt cd H locs 0 0 (MQ below (Q_X6_unlike G ko ad w h la tp ft tr mv S nc d e) ([.ref ko, .int (nI d), .int (nI e)] : List Value).toArray ss 0 0 (fun _ => False)) (F0 mm 5 ls []) := by
    intro k
    induction k using Nat.strongRecOn with
    | _ k ih5 =>
    intro c bits ls H locs hm5 hc hbits hl hP hS
    refine lv_iload hx hb dX6_unlike_5 (lv_at hl 4 rfl) ?_
    refine lv_aload_n hx hb dX6_unlike_7 rfl (lv_at hl 0 rfl) ?_
    refine xr_i (As := []) (rest := [.int (nI c)]) ⟨hx, hb, hml, hown, hts⟩ (c_X6_cellsNow l G ko ad w h la tp ft tr mv ) (cwV 0 hts gX6_unlike_X6_cellsNow rfl rfl rfl (by decide +kernel) ⟨Nat.le_of_ble_eq_true rfl, Nat.le_of_ble_eq_true rfl⟩) hK hP hS [1] rfl rfl rfl rfl hl.1 rfl (Nat.le_of_ble_eq_true rfl) dX6_unlike_8 ⟨Nat.zero_le _, Nat.zero_le _⟩ (fun r8 H locs hp8 hP hS => ?_)
    rw [show r8 = _ from hp8]
    refine xn_icmp_ge (tgt := 51) hx hb (by omega) (by omega) dX6_unlike_11 rfl (fun b11 => ?_) (fun b11 => ?_)
    · skip
      refine lv_iload_n hx hb dX6_unlike_51 rfl (lv_at hl 3 rfl) ?_
      refine W.iret (v := bits) hx hb hr (fun t ht hW => ⟨⟨bits, (), rfl, ?_, trivial⟩, hS.F ht⟩) hS.2.2 dX6_unlike_52
      rw [hbits, show c = w * h by omega]
    · skip
      refine lv_iload_n hx hb dX6_unlike_14 rfl (lv_at hl 3 rfl) ?_
      refine lv_aload_n hx hb dX6_unlike_15 rfl (lv_at hl 0 rfl) ?_
      refine lv_iload hx hb dX6_unlike_16 (lv_at hl 4 rfl) ?_
      refine lv_iload_n hx hb dX6_unlike_18 rfl (lv_at hl 1 rfl) ?_
      refine xr_i (As := [.int (nI c), .int (nI d)]) (rest := [.int bits]) ⟨hx, hb, hml, hown, hts⟩ (c_X6_markOf l G ko ad w h la tp ft tr mv S _ c d (by first | assumption | omega) (by first | assumption | omega) (by first | assumption | omega) (by first | assumption | omega)) (cwV 2 hts gX6_unlike_X6_markOf rfl rfl rfl (by decide +kernel) ⟨Nat.le_of_ble_eq_true rfl, Nat.le_of_ble_eq_true rfl⟩) hK hP hS [1, 0] rfl rfl rfl rfl hl.1 rfl (Nat.le_of_ble_eq_true rfl) dX6_unlike_19 ⟨Nat.zero_le _, Nat.zero_le _⟩ (fun r19 H locs hp19 hP hS => ?_)
      rw [show r19 = _ from hp19]
      refine lv_aload_n hx hb dX6_unlike_22 rfl (lv_at hl 0 rfl) ?_
      refine lv_iload hx hb dX6_unlike_23 (lv_at hl 4 rfl) ?_
      refine lv_iload_n hx hb dX6_unlike_25 rfl (lv_at hl 2 rfl) ?_
      refine xr_i (As := [.int (nI c), .int (nI e)]) (rest := [.int (mkM S _ c d), .int bits]) ⟨hx, hb, hml, hown, hts⟩ (c_X6_markOf l G ko ad w h la tp ft tr mv S _ c e (by first | assumption | omega) (by first | assumption | omega) (by first | assumption | omega) (by first | assumption | omega)) (cwV 2 hts gX6_unlike_X6_markOf rfl rfl rfl (by decide +kernel) ⟨Nat.le_of_ble_eq_true rfl, Nat.le_of_ble_eq_true rfl⟩) hK hP hS [1, 0] rfl rfl rfl rfl hl.1 rfl (Nat.le_of_ble_eq_true rfl) dX6_unlike_26 ⟨Nat.zero_le _, Nat.zero_le _⟩ (fun r26 H locs hp26 hP hS => ?_)
      rw [show r26 = _ from hp26]
      refine lv_icmp_eq (tgt := 36) hx hb dX6_unlike_29 rfl (fun b29 => ?_) (fun b29 => ?_)
      · skip
        refine lv_iconst (v := nI 0) hx hb dX6_unlike_36 (by decide) ?_
        refine xs_i (As := [.int (nI 0)]) (rest := [.int bits]) ⟨hx, hb, hml, hown, hts⟩ (c_X6_flag_0 l G) (va_cwS 1 hts gX6_unlike_X6_flag rfl rfl rfl (by decide +kernel) ⟨Nat.le_of_ble_eq_true rfl, Nat.le_of_ble_eq_true rfl⟩) hP hS rfl hl.1 rfl (Nat.le_of_ble_eq_true rfl) dX6_unlike_37 ⟨Nat.zero_le _, Nat.zero_le _⟩ (fun r37 H locs hp37 hP hS => ?_)
        rw [show r37 = _ from hp37]
        refine lv_iload hx hb dX6_unlike_40 (lv_at hl 4 rfl) ?_
        refine lv_ishl hx hb dX6_unlike_42 ?_
        refine lv_ior hx hb dX6_unlike_43 ?_
        refine lv_istore_n (lv' := [(3, .int (bits ||| ((nI 0) <<< ((nI c) &&& 31)))), (0, .ref ko), (1, .int (nI d)), (2, .int (nI e)), (4, .int (nI c))]) hx hb dX6_unlike_44 rfl hl (by decide) rfl (fun ls hl => ?_)
        refine lv_iinc (k := 4) (v := nI (c + 1)) (lv' := [(4, .int (nI (c + 1))), (3, .int (bits ||| ((nI 0) <<< ((nI c) &&& 31)))), (0, .ref ko), (1, .int (nI d)), (2, .int (nI e))]) hx hb dX6_unlike_45 hl rfl (xn_inc c 1) (by decide) rfl (fun ls hl => ?_)
        refine lv_goto (tgt := 5) hx hb dX6_unlike_48 rfl ?_
        have hl := lv_sub hl (l' := [(0, .ref ko), (1, .int (nI d)), (2, .int (nI e)), (3, .int (bits ||| ((nI 0) <<< ((nI c) &&& 31)))), (4, .int (nI (c + 1)))]) [2, 3, 4, 1, 0] rfl
        exact ih5 (w * h - (c + 1)) (by omega) (c + 1) (bits ||| ((nI 0) <<< ((nI c) &&& 31))) ls H locs rfl (by omega) (by first | exact xbits_T (by simp only [decide_eq_false b29]; rfl) hbits | exact xbits_Z (by simp only [decide_eq_true b29]; rfl) hbits) hl hP hS
      · skip
        refine lv_iconst (v := nI 1) hx hb dX6_unlike_32 (by decide) ?_
        refine lv_goto (tgt := 37) hx hb dX6_unlike_33 rfl ?_
        refine xs_i (As := [.int (nI 1)]) (rest := [.int bits]) ⟨hx, hb, hml, hown, hts⟩ (c_X6_flag_1 l G) (va_cwS 1 hts gX6_unlike_X6_flag rfl rfl rfl (by decide +kernel) ⟨Nat.le_of_ble_eq_true rfl, Nat.le_of_ble_eq_true rfl⟩) hP hS rfl hl.1 rfl (Nat.le_of_ble_eq_true rfl) dX6_unlike_37 ⟨Nat.zero_le _, Nat.zero_le _⟩ (fun r37 H locs hp37 hP hS => ?_)
        rw [show r37 = _ from hp37]
        refine lv_iload hx hb dX6_unlike_40 (lv_at hl 4 rfl) ?_
        refine lv_ishl hx hb dX6_unlike_42 ?_
        refine lv_ior hx hb dX6_unlike_43 ?_
        refine lv_istore_n (lv' := [(3, .int (bits ||| ((nI 1) <<< ((nI c) &&& 31)))), (0, .ref ko), (1, .int (nI d)), (2, .int (nI e)), (4, .int (nI c))]) hx hb dX6_unlike_44 rfl hl (by decide) rfl (fun ls hl => ?_)
        refine lv_iinc (k := 4) (v := nI (c + 1)) (lv' := [(4, .int (nI (c + 1))), (3, .int (bits ||| ((nI 1) <<< ((nI c) &&& 31)))), (0, .ref ko), (1, .int (nI d)), (2, .int (nI e))]) hx hb dX6_unlike_45 hl rfl (xn_inc c 1) (by decide) rfl (fun ls hl => ?_)
        refine lv_goto (tgt := 5) hx hb dX6_unlike_48 rfl ?_
        have hl := lv_sub hl (l' := [(0, .ref ko), (1, .int (nI d)), (2, .int (nI e)), (3, .int (bits ||| ((nI 1) <<< ((nI c) &&& 31)))), (4, .int (nI (c + 1)))]) [2, 3, 4, 1, 0] rfl
        exact ih5 (w * h - (c + 1)) (by omega) (c + 1) (bits ||| ((nI 1) <<< ((nI c) &&& 31))) ls H locs rfl (by omega) (by first | exact xbits_T (by simp only [decide_eq_false b29]; rfl) hbits | exact xbits_Z (by simp only [decide_eq_true b29]; rfl) hbits) hl hP hS
  have hl := lv_sub hl (l' := [(0, .ref ko), (1, .int (nI d)), (2, .int (nI e)), (3, .int (nI 0)), (4, .int (nI 0))]) [2, 3, 4, 1, 0] rfl
  have hP := hP.sub (ws' := [iA G (ad 0) 255 S, oC ko 6 [.ref (ad 0), .ref (ad 1), .int (nI w), .int (nI h), .int (nI la), .ref (ad 2), .int (mv 0), .int (mv 1), .int (mv 2), .int (mv 3), .int (mv 4), .int (mv 5), .int (mv 6), .ref (ad 3), .int (nI tp), .int (mv 7), .int (mv 8), .int (mv 9), .int (mv 10), .int ft, .int (mv 11), .ref (ad 4), .ref (ad 5), .ref (ad 6), .ref (ad 7), .ref (ad 8), .ref (ad 9), .ref (ad 10), .int tr]]) [1, 0] rfl
  exact hL5 (w * h - 0) 0 (nI 0) ls ss.heap [] rfl (by omega) (by rfl) hl hP hS

abbrev w_X6_rule (G : XG) (ko : Nat) (ad : Nat → Nat) (w h la tp : Nat) (ft tr : Int32) (mv : Nat → Int32) (S : Nat → Int32) : va_W := [oC ko 6 [.ref (ad 0), .ref (ad 1), .int (nI w), .int (nI h), .int (nI la), .ref (ad 2), .int (mv 0), .int (mv 1), .int (mv 2), .int (mv 3), .int (mv 4), .int (mv 5), .int (mv 6), .ref (ad 3), .int (nI tp), .int (mv 7), .int (mv 8), .int (mv 9), .int (mv 10), .int ft, .int (mv 11), .ref (ad 4), .ref (ad 5), .ref (ad 6), .ref (ad 7), .ref (ad 8), .ref (ad 9), .ref (ad 10), .int tr], iA G (ad 0) 255 S]
abbrev Q_X6_rule (G : XG) (ko : Nat) (ad : Nat → Nat) (w h la tp : Nat) (ft tr : Int32) (mv : Nat → Int32) (S : Nat → Int32) (nc nl : Nat) (a : Int32) : Array Value → State → Outcome → State → Prop := (xRi (fun r => r = (if a = nI 0 then nI w else if a = nI 1 then nI h else if a = nI 2 then nI la else if a = nI 3 then nI nc else if a = nI 4 then nI nl else (-1))))
set_option maxHeartbeats 4000000 in
set_option maxRecDepth 100000 in
theorem c_X6_rule (l : Launch) (G : XG) (ko : Nat) (ad : Nat → Nat) (w h la tp : Nat) (ft tr : Int32) (mv : Nat → Int32) (S : Nat → Int32) (nc nl : Nat) (a : Int32) (hs16 : S 16 = nI nc) (hs47 : S 47 = nI nl) : Met l yX6_rule wsX6_rule ({ frames := 0, cells := 0, slots := 0, locals := 0 } : Room) (va_Pc [.ref ko, .int a] (xRp G (w_X6_rule G ko ad w h la tp ft tr mv S))) (Q_X6_rule G ko ad w h la tp ft tr mv S nc nl a) 0 0 (fun _ => False) := by
  refine Met.ofW (cc := cX6_rule) (maxL := 2) (ret := (some .int)) (by decide) rfl ?_
  intro pp ee ss mm aa below mt cd s₁ BB hml hv
  obtain ⟨rfl, hP, hK⟩ := hv
  have hx := BB.exec
  have hb := BB.bytes
  have hr := BB.returns
  have hts := atoms_spec (ws := wsX6_rule) BB.pre
  have hown : ss.vm.findClass RX6 = some mm.cls := findClass_of_methodNamed BB.named
  have hlocks := BB.notSynchronized
  have hS : va_S (fun _ => False) ss.heap ss.heap [] := va_S.rf
  replace hP : xP G [oC ko 6 [.ref (ad 0), .ref (ad 1), .int (nI w), .int (nI h), .int (nI la), .ref (ad 2), .int (mv 0), .int (mv 1), .int (mv 2), .int (mv 3), .int (mv 4), .int (mv 5), .int (mv 6), .ref (ad 3), .int (nI tp), .int (mv 7), .int (mv 8), .int (mv 9), .int (mv 10), .int ft, .int (mv 11), .ref (ad 4), .ref (ad 5), .ref (ad 6), .ref (ad 7), .ref (ad 8), .ref (ad 9), .ref (ad 10), .int tr], iA G (ad 0) 255 S] ss.heap := hP
  have hin6 : ∀ w ∈ u_ws RX6 TX6 29, w ∈ wsX6_rule := fun w h => List.mem_cons_of_mem _ (List.mem_append_right _ h)
  have hl := lv_entry ([.ref ko, .int a]) (n := 2) (Nat.le_of_ble_eq_true rfl)
  rw [lg_entry_eq]
  generalize (lg_sl ([.ref ko, .int a]) ++ List.replicate (2 - (lg_sl ([.ref ko, .int a])).length) Slot.unset).toArray = ls at hl ⊢
  replace hl : lv_has ls 2 [(0, .ref ko), (1, .int a)] := hl
  refine lv_iload_n hx hb dX6_rule_0 rfl (lv_at hl 1 rfl) ?_
  by_cases hsw : inR a 5
  · obtain ⟨jsw, hjsw, rfl⟩ := inR_nat hsw
    rcases (show jsw = 0 ∨ jsw = 1 ∨ jsw = 2 ∨ jsw = 3 ∨ jsw = 4 by omega) with rfl | rfl | rfl | rfl | rfl
    · skip
      refine lv_tableIn (off := 35) (tgt := 36) hx hb dX6_rule_1 (by decide) (by decide) rfl rfl ?_
      refine lv_aload_n hx hb dX6_rule_36 rfl (lv_at hl 0 rfl) ?_
      refine va_get (D := G.1) (ci := 6) (v := .int (nI w)) (C := RX6) (T := TX6) (N := 29) hx hb hts hin6 hown hK.1 hP 0 rfl rfl 2 (by decide) (hts (.fieldLink RX6 72 "BackLensesModel" "wide" "I") (List.mem_of_getElem? (i := 1) rfl)) (fun _ h9 => h9) rfl dX6_rule_37 ?_
      refine W.iret (v := nI w) hx hb hr (fun t ht hW => ⟨⟨nI w, (), rfl, ?_, trivial⟩, hS.F ht⟩) hS.2.2 dX6_rule_40
      first | rfl | exact hs16 | exact hs47 | (repeat rw [if_neg (fun q => hsw (by rw [q]; exact inR_nI (by decide) (by decide)))])
    · skip
      refine lv_tableIn (off := 40) (tgt := 41) hx hb dX6_rule_1 (by decide) (by decide) rfl rfl ?_
      refine lv_aload_n hx hb dX6_rule_41 rfl (lv_at hl 0 rfl) ?_
      refine va_get (D := G.1) (ci := 6) (v := .int (nI h)) (C := RX6) (T := TX6) (N := 29) hx hb hts hin6 hown hK.1 hP 0 rfl rfl 3 (by decide) (hts (.fieldLink RX6 75 "BackLensesModel" "high" "I") (List.mem_of_getElem? (i := 2) rfl)) (fun _ h9 => h9) rfl dX6_rule_42 ?_
      refine W.iret (v := nI h) hx hb hr (fun t ht hW => ⟨⟨nI h, (), rfl, ?_, trivial⟩, hS.F ht⟩) hS.2.2 dX6_rule_45
      first | rfl | exact hs16 | exact hs47 | (repeat rw [if_neg (fun q => hsw (by rw [q]; exact inR_nI (by decide) (by decide)))])
    · skip
      refine lv_tableIn (off := 45) (tgt := 46) hx hb dX6_rule_1 (by decide) (by decide) rfl rfl ?_
      refine lv_aload_n hx hb dX6_rule_46 rfl (lv_at hl 0 rfl) ?_
      refine va_get (D := G.1) (ci := 6) (v := .int (nI la)) (C := RX6) (T := TX6) (N := 29) hx hb hts hin6 hown hK.1 hP 0 rfl rfl 4 (by decide) (hts (.fieldLink RX6 78 "BackLensesModel" "last" "I") (List.mem_of_getElem? (i := 3) rfl)) (fun _ h9 => h9) rfl dX6_rule_47 ?_
      refine W.iret (v := nI la) hx hb hr (fun t ht hW => ⟨⟨nI la, (), rfl, ?_, trivial⟩, hS.F ht⟩) hS.2.2 dX6_rule_50
      first | rfl | exact hs16 | exact hs47 | (repeat rw [if_neg (fun q => hsw (by rw [q]; exact inR_nI (by decide) (by decide)))])
    · skip
      refine lv_tableIn (off := 50) (tgt := 51) hx hb dX6_rule_1 (by decide) (by decide) rfl rfl ?_
      refine lv_aload_n hx hb dX6_rule_51 rfl (lv_at hl 0 rfl) ?_
      refine va_get (D := G.1) (ci := 6) (v := .ref (ad 0)) (C := RX6) (T := TX6) (N := 29) hx hb hts hin6 hown hK.1 hP 0 rfl rfl 0 (by decide) (hts (.fieldLink RX6 7 "BackLensesModel" "st" "[I") (List.mem_of_getElem? (i := 4) rfl)) (fun _ h9 => h9) rfl dX6_rule_52 ?_
      refine lv_bipush (v := nI 16) hx hb dX6_rule_55 (by decide) ?_
      refine xn_iald hx hb hK hP 1 rfl (by omega) (by omega) dX6_rule_57 ?_
      refine W.iret (v := S 16) hx hb hr (fun t ht hW => ⟨⟨S 16, (), rfl, ?_, trivial⟩, hS.F ht⟩) hS.2.2 dX6_rule_58
      first | rfl | exact hs16 | exact hs47 | (repeat rw [if_neg (fun q => hsw (by rw [q]; exact inR_nI (by decide) (by decide)))])
    · skip
      refine lv_tableIn (off := 58) (tgt := 59) hx hb dX6_rule_1 (by decide) (by decide) rfl rfl ?_
      refine lv_aload_n hx hb dX6_rule_59 rfl (lv_at hl 0 rfl) ?_
      refine va_get (D := G.1) (ci := 6) (v := .ref (ad 0)) (C := RX6) (T := TX6) (N := 29) hx hb hts hin6 hown hK.1 hP 0 rfl rfl 0 (by decide) (hts (.fieldLink RX6 7 "BackLensesModel" "st" "[I") (List.mem_of_getElem? (i := 4) rfl)) (fun _ h9 => h9) rfl dX6_rule_60 ?_
      refine lv_bipush (v := nI 47) hx hb dX6_rule_63 (by decide) ?_
      refine xn_iald hx hb hK hP 1 rfl (by omega) (by omega) dX6_rule_65 ?_
      refine W.iret (v := S 47) hx hb hr (fun t ht hW => ⟨⟨S 47, (), rfl, ?_, trivial⟩, hS.F ht⟩) hS.2.2 dX6_rule_66
      first | rfl | exact hs16 | exact hs47 | (repeat rw [if_neg (fun q => hsw (by rw [q]; exact inR_nI (by decide) (by decide)))])
  · refine lv_tableOut (tgt := 67) hx hb dX6_rule_1 (by unfold inR at hsw; omega) rfl ?_
    refine lv_iconst (v := (-1)) hx hb dX6_rule_67 (by decide) ?_
    refine W.iret (v := (-1)) hx hb hr (fun t ht hW => ⟨⟨(-1), (), rfl, ?_, trivial⟩, hS.F ht⟩) hS.2.2 dX6_rule_68
    first | rfl | exact hs16 | exact hs47 | (repeat rw [if_neg (fun q => hsw (by rw [q]; exact inR_nI (by decide) (by decide)))])

abbrev w_X6_mark (G : XG) (ko : Nat) (ad : Nat → Nat) (w h la tp : Nat) (ft tr : Int32) (mv : Nat → Int32) (S : Nat → Int32) : va_W := [oC ko 6 [.ref (ad 0), .ref (ad 1), .int (nI w), .int (nI h), .int (nI la), .ref (ad 2), .int (mv 0), .int (mv 1), .int (mv 2), .int (mv 3), .int (mv 4), .int (mv 5), .int (mv 6), .ref (ad 3), .int (nI tp), .int (mv 7), .int (mv 8), .int (mv 9), .int (mv 10), .int ft, .int (mv 11), .ref (ad 4), .ref (ad 5), .ref (ad 6), .ref (ad 7), .ref (ad 8), .ref (ad 9), .ref (ad 10), .int tr], iA G (ad 0) 255 S]
abbrev Q_X6_mark (G : XG) (ko : Nat) (ad : Nat → Nat) (w h la tp : Nat) (ft tr : Int32) (mv : Nat → Int32) (S : Nat → Int32) (nc : Nat) (c d : Int32) : Array Value → State → Outcome → State → Prop := (xRi (fun r => r = (if inR c (w * h) ∧ inR d (la + 1) then mkM S nc (tn c) (tn d) else (-1))))
set_option maxHeartbeats 4000000 in
set_option maxRecDepth 100000 in
theorem c_X6_mark (l : Launch) (G : XG) (ko : Nat) (ad : Nat → Nat) (w h la tp : Nat) (ft tr : Int32) (mv : Nat → Int32) (S : Nat → Int32) (nc : Nat) (c d : Int32) (hw : 1 ≤ w) (hwb : w ≤ 16) (hhb : h ≤ 16) (hwh1 : 1 ≤ w * h) (hwh : w * h ≤ 16) (hla : la ≤ 9) (hs16 : S 16 = nI nc) (hnc : nc ≤ 10) : Met l yX6_mark wsX6_mark ({ frames := 2, cells := 0, slots := 0, locals := 46 } : Room) (va_Pc [.ref ko, .int c, .int d] (xRp G (w_X6_mark G ko ad w h la tp ft tr mv S))) (Q_X6_mark G ko ad w h la tp ft tr mv S nc c d) 0 0 (fun _ => False) := by
  refine Met.ofW (cc := cX6_mark) (maxL := 3) (ret := (some .int)) (by decide) rfl ?_
  intro pp ee ss mm aa below mt cd s₁ BB hml hv
  obtain ⟨rfl, hP, hK⟩ := hv
  have hx := BB.exec
  have hb := BB.bytes
  have hr := BB.returns
  have hts := atoms_spec (ws := wsX6_mark) BB.pre
  have hown : ss.vm.findClass RX6 = some mm.cls := findClass_of_methodNamed BB.named
  have hlocks := BB.notSynchronized
  have hS : va_S (fun _ => False) ss.heap ss.heap [] := va_S.rf
  replace hP : xP G [oC ko 6 [.ref (ad 0), .ref (ad 1), .int (nI w), .int (nI h), .int (nI la), .ref (ad 2), .int (mv 0), .int (mv 1), .int (mv 2), .int (mv 3), .int (mv 4), .int (mv 5), .int (mv 6), .ref (ad 3), .int (nI tp), .int (mv 7), .int (mv 8), .int (mv 9), .int (mv 10), .int ft, .int (mv 11), .ref (ad 4), .ref (ad 5), .ref (ad 6), .ref (ad 7), .ref (ad 8), .ref (ad 9), .ref (ad 10), .int tr], iA G (ad 0) 255 S] ss.heap := hP
  have hin6 : ∀ w ∈ u_ws RX6 TX6 29, w ∈ wsX6_mark := fun w h => List.mem_cons_of_mem _ (List.mem_append_right _ h)
  have hl := lv_entry ([.ref ko, .int c, .int d]) (n := 3) (Nat.le_of_ble_eq_true rfl)
  rw [lg_entry_eq]
  generalize (lg_sl ([.ref ko, .int c, .int d]) ++ List.replicate (3 - (lg_sl ([.ref ko, .int c, .int d])).length) Slot.unset).toArray = ls at hl ⊢
  replace hl : lv_has ls 3 [(0, .ref ko), (1, .int c), (2, .int d)] := hl
  refine lv_aload_n hx hb dX6_mark_0 rfl (lv_at hl 0 rfl) ?_
  refine lv_iload_n hx hb dX6_mark_1 rfl (lv_at hl 1 rfl) ?_
  refine xr_i (As := [.int c]) (rest := []) ⟨hx, hb, hml, hown, hts⟩ (c_X6_isCell l G ko ad w h la tp ft tr mv c (by first | assumption | omega) (by first | assumption | omega)) (cwV 1 hts gX6_mark_X6_isCell rfl rfl rfl (by decide +kernel) ⟨Nat.le_of_ble_eq_true rfl, Nat.le_of_ble_eq_true rfl⟩) hK hP hS [0] rfl rfl rfl rfl hl.1 rfl (Nat.le_of_ble_eq_true rfl) dX6_mark_2 ⟨Nat.zero_le _, Nat.zero_le _⟩ (fun r2 H locs hp2 hP hS => ?_)
  rw [show r2 = _ from hp2]
  refine xb_if_eq (tgt := 25) hx hb dX6_mark_5 rfl (fun b5 => ?_) (fun b5 => ?_)
  · skip
    refine lv_iconst (v := (-1)) hx hb dX6_mark_25 (by decide) ?_
    refine W.iret (v := (-1)) hx hb hr (fun t ht hW => ⟨⟨(-1), (), rfl, ?_, trivial⟩, hS.F ht⟩) hS.2.2 dX6_mark_26
    first | exact (if_neg (fun q => b5 q.1)).symm | exact (if_neg (fun q => b13 q.2)).symm | (rw [if_pos ⟨inR_nI hc0 (by omega), inR_nI hd0 (by omega)⟩, tn_nI (by omega), tn_nI (by omega)])
  · skip
    refine lv_aload_n hx hb dX6_mark_8 rfl (lv_at hl 0 rfl) ?_
    refine lv_iload_n hx hb dX6_mark_9 rfl (lv_at hl 2 rfl) ?_
    refine xr_i (As := [.int d]) (rest := []) ⟨hx, hb, hml, hown, hts⟩ (c_X6_isDay l G ko ad w h la tp ft tr mv d (by first | assumption | omega)) (cwV 1 hts gX6_mark_X6_isDay rfl rfl rfl (by decide +kernel) ⟨Nat.le_of_ble_eq_true rfl, Nat.le_of_ble_eq_true rfl⟩) hK hP hS [0] rfl rfl rfl rfl hl.1 rfl (Nat.le_of_ble_eq_true rfl) dX6_mark_10 ⟨Nat.zero_le _, Nat.zero_le _⟩ (fun r10 H locs hp10 hP hS => ?_)
    rw [show r10 = _ from hp10]
    refine xb_if_eq (tgt := 25) hx hb dX6_mark_13 rfl (fun b13 => ?_) (fun b13 => ?_)
    · skip
      refine lv_iconst (v := (-1)) hx hb dX6_mark_25 (by decide) ?_
      refine W.iret (v := (-1)) hx hb hr (fun t ht hW => ⟨⟨(-1), (), rfl, ?_, trivial⟩, hS.F ht⟩) hS.2.2 dX6_mark_26
      first | exact (if_neg (fun q => b5 q.1)).symm | exact (if_neg (fun q => b13 q.2)).symm | (rw [if_pos ⟨inR_nI hc0 (by omega), inR_nI hd0 (by omega)⟩, tn_nI (by omega), tn_nI (by omega)])
    · skip
      obtain ⟨c0, hc0, rfl⟩ := inR_nat b5
      obtain ⟨d0, hd0, rfl⟩ := inR_nat b13
      refine lv_aload_n hx hb dX6_mark_16 rfl (lv_at hl 0 rfl) ?_
      refine lv_iload_n hx hb dX6_mark_17 rfl (lv_at hl 1 rfl) ?_
      refine lv_iload_n hx hb dX6_mark_18 rfl (lv_at hl 2 rfl) ?_
      refine xr_i (As := [.int (nI c0), .int (nI d0)]) (rest := []) ⟨hx, hb, hml, hown, hts⟩ (c_X6_markOf l G ko ad w h la tp ft tr mv S _ c0 d0 (by first | assumption | omega) (by first | assumption | omega) (by first | assumption | omega) (by first | assumption | omega)) (cwV 2 hts gX6_mark_X6_markOf rfl rfl rfl (by decide +kernel) ⟨Nat.le_of_ble_eq_true rfl, Nat.le_of_ble_eq_true rfl⟩) hK hP hS [0, 1] rfl rfl rfl rfl hl.1 rfl (Nat.le_of_ble_eq_true rfl) dX6_mark_19 ⟨Nat.zero_le _, Nat.zero_le _⟩ (fun r19 H locs hp19 hP hS => ?_)
      rw [show r19 = _ from hp19]
      refine lv_goto (tgt := 26) hx hb dX6_mark_22 rfl ?_
      refine W.iret (v := mkM S _ c0 d0) hx hb hr (fun t ht hW => ⟨⟨mkM S _ c0 d0, (), rfl, ?_, trivial⟩, hS.F ht⟩) hS.2.2 dX6_mark_26
      first | exact (if_neg (fun q => b5 q.1)).symm | exact (if_neg (fun q => b13 q.2)).symm | (rw [if_pos ⟨inR_nI hc0 (by omega), inR_nI hd0 (by omega)⟩, tn_nI (by omega), tn_nI (by omega)])

abbrev w_X6_change (G : XG) (ko : Nat) (ad : Nat → Nat) (w h la tp : Nat) (ft tr : Int32) (mv : Nat → Int32) (S : Nat → Int32) : va_W := [oC ko 6 [.ref (ad 0), .ref (ad 1), .int (nI w), .int (nI h), .int (nI la), .ref (ad 2), .int (mv 0), .int (mv 1), .int (mv 2), .int (mv 3), .int (mv 4), .int (mv 5), .int (mv 6), .ref (ad 3), .int (nI tp), .int (mv 7), .int (mv 8), .int (mv 9), .int (mv 10), .int ft, .int (mv 11), .ref (ad 4), .ref (ad 5), .ref (ad 6), .ref (ad 7), .ref (ad 8), .ref (ad 9), .ref (ad 10), .int tr], iA G (ad 0) 255 S]
abbrev Q_X6_change (G : XG) (ko : Nat) (ad : Nat → Nat) (w h la tp : Nat) (ft tr : Int32) (mv : Nat → Int32) (S : Nat → Int32) (nc : Nat) (i a : Int32) : Array Value → State → Outcome → State → Prop := (xRi (fun r => r = (if inR i nc ∧ inR a 3 then S (17 + 3 * tn i + tn a) else (-1))))
set_option maxHeartbeats 4000000 in
set_option maxRecDepth 100000 in
theorem c_X6_change (l : Launch) (G : XG) (ko : Nat) (ad : Nat → Nat) (w h la tp : Nat) (ft tr : Int32) (mv : Nat → Int32) (S : Nat → Int32) (nc : Nat) (i a : Int32) (hs16 : S 16 = nI nc) (hnc : nc ≤ 10) : Met l yX6_change wsX6_change ({ frames := 1, cells := 0, slots := 0, locals := 25 } : Room) (va_Pc [.ref ko, .int i, .int a] (xRp G (w_X6_change G ko ad w h la tp ft tr mv S))) (Q_X6_change G ko ad w h la tp ft tr mv S nc i a) 0 0 (fun _ => False) := by
  refine Met.ofW (cc := cX6_change) (maxL := 3) (ret := (some .int)) (by decide) rfl ?_
  intro pp ee ss mm aa below mt cd s₁ BB hml hv
  obtain ⟨rfl, hP, hK⟩ := hv
  have hx := BB.exec
  have hb := BB.bytes
  have hr := BB.returns
  have hts := atoms_spec (ws := wsX6_change) BB.pre
  have hown : ss.vm.findClass RX6 = some mm.cls := findClass_of_methodNamed BB.named
  have hlocks := BB.notSynchronized
  have hS : va_S (fun _ => False) ss.heap ss.heap [] := va_S.rf
  replace hP : xP G [oC ko 6 [.ref (ad 0), .ref (ad 1), .int (nI w), .int (nI h), .int (nI la), .ref (ad 2), .int (mv 0), .int (mv 1), .int (mv 2), .int (mv 3), .int (mv 4), .int (mv 5), .int (mv 6), .ref (ad 3), .int (nI tp), .int (mv 7), .int (mv 8), .int (mv 9), .int (mv 10), .int ft, .int (mv 11), .ref (ad 4), .ref (ad 5), .ref (ad 6), .ref (ad 7), .ref (ad 8), .ref (ad 9), .ref (ad 10), .int tr], iA G (ad 0) 255 S] ss.heap := hP
  have hin6 : ∀ w ∈ u_ws RX6 TX6 29, w ∈ wsX6_change := fun w h => List.mem_cons_of_mem _ (List.mem_append_right _ h)
  have hl := lv_entry ([.ref ko, .int i, .int a]) (n := 3) (Nat.le_of_ble_eq_true rfl)
  rw [lg_entry_eq]
  generalize (lg_sl ([.ref ko, .int i, .int a]) ++ List.replicate (3 - (lg_sl ([.ref ko, .int i, .int a])).length) Slot.unset).toArray = ls at hl ⊢
  replace hl : lv_has ls 3 [(0, .ref ko), (1, .int i), (2, .int a)] := hl
  refine lv_iload_n hx hb dX6_change_0 rfl (lv_at hl 1 rfl) ?_
  refine xi_i2l hx hb dX6_change_1 ?_
  refine lv_lconst (v := lN 0) hx hb dX6_change_2 (by decide) ?_
  refine lv_aload_n hx hb dX6_change_3 rfl (lv_at hl 0 rfl) ?_
  refine va_get (D := G.1) (ci := 6) (v := .ref (ad 0)) (C := RX6) (T := TX6) (N := 29) hx hb hts hin6 hown hK.1 hP 0 rfl rfl 0 (by decide) (hts (.fieldLink RX6 7 "BackLensesModel" "st" "[I") (List.mem_of_getElem? (i := 1) rfl)) (fun _ h9 => h9) rfl dX6_change_4 ?_
  refine lv_bipush (v := nI 16) hx hb dX6_change_7 (by decide) ?_
  refine xn_iald hx hb hK hP 1 rfl (by omega) (by omega) dX6_change_9 ?_
  refine xn_top hs16 ?_
  refine lv_iconst (v := nI 1) hx hb dX6_change_10 (by decide) ?_
  refine lv_isub hx hb dX6_change_11 ?_
  refine xi_i2l hx hb dX6_change_12 ?_
  refine xs_i (As := [.long i.toInt64, .long (lN 0), .long (((nI nc) - (nI 1)).toInt64)]) (rest := []) ⟨hx, hb, hml, hown, hts⟩ (c_X6_in l G i.toInt64 (lN 0) (((nI nc) - (nI 1)).toInt64) ) (va_cwS 3 hts gX6_change_X6_in rfl rfl rfl (by decide +kernel) ⟨Nat.le_of_ble_eq_true rfl, Nat.le_of_ble_eq_true rfl⟩) hP hS rfl hl.1 rfl (Nat.le_of_ble_eq_true rfl) dX6_change_13 ⟨Nat.zero_le _, Nat.zero_le _⟩ (fun r13 H locs hp13 hP hS => ?_)
  rw [show r13 = _ from hp13]
  refine xb_if_eq (tgt := 47) hx hb dX6_change_16 rfl (fun b16 => ?_) (fun b16 => ?_)
  · skip
    have b16 : ¬ inR i nc := (fun q => b16 (by simp only [i64_toInt]; rw [lN_toInt' (by omega), pk_sub_toInt (by omega) (by omega)]; unfold inR at q; omega))
    refine lv_iconst (v := (-1)) hx hb dX6_change_47 (by decide) ?_
    refine W.iret (v := (-1)) hx hb hr (fun t ht hW => ⟨⟨(-1), (), rfl, ?_, trivial⟩, hS.F ht⟩) hS.2.2 dX6_change_48
    first | exact (if_neg (fun q => b16 q.1)).symm | exact (if_neg (fun q => b28 q.2)).symm | (rw [if_pos ⟨inR_nI hi0 (by omega), inR_nI ha0 (by omega)⟩, tn_nI (by omega), tn_nI (by omega)])
  · skip
    have b16 : inR i nc := (by simp only [i64_toInt] at b16; rw [lN_toInt' (by omega), pk_sub_toInt (by omega) (by omega)] at b16; unfold inR; omega)
    refine lv_iload_n hx hb dX6_change_19 rfl (lv_at hl 2 rfl) ?_
    refine xi_i2l hx hb dX6_change_20 ?_
    refine lv_lconst (v := lN 0) hx hb dX6_change_21 (by decide) ?_
    refine lv_ldc2 (v := lN 2) hx hb hown (hts (.constantLong RX6 185 (lN 2)) (List.mem_of_getElem? (i := 2) rfl)) dX6_change_22 ?_
    refine xs_i (As := [.long a.toInt64, .long (lN 0), .long (lN 2)]) (rest := []) ⟨hx, hb, hml, hown, hts⟩ (c_X6_in l G a.toInt64 (lN 0) (lN 2) ) (va_cwS 3 hts gX6_change_X6_in rfl rfl rfl (by decide +kernel) ⟨Nat.le_of_ble_eq_true rfl, Nat.le_of_ble_eq_true rfl⟩) hP hS rfl hl.1 rfl (Nat.le_of_ble_eq_true rfl) dX6_change_25 ⟨Nat.zero_le _, Nat.zero_le _⟩ (fun r25 H locs hp25 hP hS => ?_)
    rw [show r25 = _ from hp25]
    refine xb_if_eq (tgt := 47) hx hb dX6_change_28 rfl (fun b28 => ?_) (fun b28 => ?_)
    · skip
      have b28 : ¬ inR a 3 := (fun q => b28 (by simp only [i64_toInt]; rw [lN_toInt' (by omega), lN_toInt' (by omega)]; unfold inR at q; omega))
      refine lv_iconst (v := (-1)) hx hb dX6_change_47 (by decide) ?_
      refine W.iret (v := (-1)) hx hb hr (fun t ht hW => ⟨⟨(-1), (), rfl, ?_, trivial⟩, hS.F ht⟩) hS.2.2 dX6_change_48
      first | exact (if_neg (fun q => b16 q.1)).symm | exact (if_neg (fun q => b28 q.2)).symm | (rw [if_pos ⟨inR_nI hi0 (by omega), inR_nI ha0 (by omega)⟩, tn_nI (by omega), tn_nI (by omega)])
    · skip
      have b28 : inR a 3 := (by simp only [i64_toInt] at b28; rw [lN_toInt' (by omega), lN_toInt' (by omega)] at b28; unfold inR; omega)
      obtain ⟨i0, hi0, rfl⟩ := inR_nat b16
      obtain ⟨a0, ha0, rfl⟩ := inR_nat b28
      refine lv_aload_n hx hb dX6_change_31 rfl (lv_at hl 0 rfl) ?_
      refine va_get (D := G.1) (ci := 6) (v := .ref (ad 0)) (C := RX6) (T := TX6) (N := 29) hx hb hts hin6 hown hK.1 hP 0 rfl rfl 0 (by decide) (hts (.fieldLink RX6 7 "BackLensesModel" "st" "[I") (List.mem_of_getElem? (i := 1) rfl)) (fun _ h9 => h9) rfl dX6_change_32 ?_
      refine lv_bipush (v := nI 17) hx hb dX6_change_35 (by decide) ?_
      refine lv_iconst (v := nI 3) hx hb dX6_change_37 (by decide) ?_
      refine lv_iload_n hx hb dX6_change_38 rfl (lv_at hl 1 rfl) ?_
      refine xn_imul hx hb dX6_change_39 ?_
      refine xn_iadd hx hb dX6_change_40 ?_
      refine lv_iload_n hx hb dX6_change_41 rfl (lv_at hl 2 rfl) ?_
      refine xn_iadd hx hb dX6_change_42 ?_
      refine xn_iald hx hb hK hP 1 rfl (by omega) (by omega) dX6_change_43 ?_
      refine lv_goto (tgt := 48) hx hb dX6_change_44 rfl ?_
      refine W.iret (v := S ((17 + (3 * i0)) + a0)) hx hb hr (fun t ht hW => ⟨⟨S ((17 + (3 * i0)) + a0), (), rfl, ?_, trivial⟩, hS.F ht⟩) hS.2.2 dX6_change_48
      first | exact (if_neg (fun q => b16 q.1)).symm | exact (if_neg (fun q => b28 q.2)).symm | (rw [if_pos ⟨inR_nI hi0 (by omega), inR_nI ha0 (by omega)⟩, tn_nI (by omega), tn_nI (by omega)])

abbrev w_X6_lens (G : XG) (ko : Nat) (ad : Nat → Nat) (w h la tp : Nat) (ft tr : Int32) (mv : Nat → Int32) (S : Nat → Int32) : va_W := [oC ko 6 [.ref (ad 0), .ref (ad 1), .int (nI w), .int (nI h), .int (nI la), .ref (ad 2), .int (mv 0), .int (mv 1), .int (mv 2), .int (mv 3), .int (mv 4), .int (mv 5), .int (mv 6), .ref (ad 3), .int (nI tp), .int (mv 7), .int (mv 8), .int (mv 9), .int (mv 10), .int ft, .int (mv 11), .ref (ad 4), .ref (ad 5), .ref (ad 6), .ref (ad 7), .ref (ad 8), .ref (ad 9), .ref (ad 10), .int tr], iA G (ad 0) 255 S]
abbrev Q_X6_lens (G : XG) (ko : Nat) (ad : Nat → Nat) (w h la tp : Nat) (ft tr : Int32) (mv : Nat → Int32) (S : Nat → Int32) (nl : Nat) (i a : Int32) : Array Value → State → Outcome → State → Prop := (xRi (fun r => r = (if inR i nl ∧ inR a 2 then S (48 + 2 * tn i + tn a) else (-1))))
set_option maxHeartbeats 4000000 in
set_option maxRecDepth 100000 in
theorem c_X6_lens (l : Launch) (G : XG) (ko : Nat) (ad : Nat → Nat) (w h la tp : Nat) (ft tr : Int32) (mv : Nat → Int32) (S : Nat → Int32) (nl : Nat) (i a : Int32) (hs47 : S 47 = nI nl) (hnl : nl ≤ 6) : Met l yX6_lens wsX6_lens ({ frames := 2, cells := 0, slots := 0, locals := 46 } : Room) (va_Pc [.ref ko, .int i, .int a] (xRp G (w_X6_lens G ko ad w h la tp ft tr mv S))) (Q_X6_lens G ko ad w h la tp ft tr mv S nl i a) 0 0 (fun _ => False) := by
  refine Met.ofW (cc := cX6_lens) (maxL := 3) (ret := (some .int)) (by decide) rfl ?_
  intro pp ee ss mm aa below mt cd s₁ BB hml hv
  obtain ⟨rfl, hP, hK⟩ := hv
  have hx := BB.exec
  have hb := BB.bytes
  have hr := BB.returns
  have hts := atoms_spec (ws := wsX6_lens) BB.pre
  have hown : ss.vm.findClass RX6 = some mm.cls := findClass_of_methodNamed BB.named
  have hlocks := BB.notSynchronized
  have hS : va_S (fun _ => False) ss.heap ss.heap [] := va_S.rf
  replace hP : xP G [oC ko 6 [.ref (ad 0), .ref (ad 1), .int (nI w), .int (nI h), .int (nI la), .ref (ad 2), .int (mv 0), .int (mv 1), .int (mv 2), .int (mv 3), .int (mv 4), .int (mv 5), .int (mv 6), .ref (ad 3), .int (nI tp), .int (mv 7), .int (mv 8), .int (mv 9), .int (mv 10), .int ft, .int (mv 11), .ref (ad 4), .ref (ad 5), .ref (ad 6), .ref (ad 7), .ref (ad 8), .ref (ad 9), .ref (ad 10), .int tr], iA G (ad 0) 255 S] ss.heap := hP
  have hin6 : ∀ w ∈ u_ws RX6 TX6 29, w ∈ wsX6_lens := fun w h => List.mem_cons_of_mem _ (List.mem_append_right _ h)
  have hl := lv_entry ([.ref ko, .int i, .int a]) (n := 3) (Nat.le_of_ble_eq_true rfl)
  rw [lg_entry_eq]
  generalize (lg_sl ([.ref ko, .int i, .int a]) ++ List.replicate (3 - (lg_sl ([.ref ko, .int i, .int a])).length) Slot.unset).toArray = ls at hl ⊢
  replace hl : lv_has ls 3 [(0, .ref ko), (1, .int i), (2, .int a)] := hl
  refine lv_aload_n hx hb dX6_lens_0 rfl (lv_at hl 0 rfl) ?_
  refine lv_iload_n hx hb dX6_lens_1 rfl (lv_at hl 1 rfl) ?_
  refine xr_i (As := [.int i]) (rest := []) ⟨hx, hb, hml, hown, hts⟩ (c_X6_isLens l G ko ad w h la tp ft tr mv S _ i (by first | assumption | omega) (by first | assumption | omega)) (cwV 1 hts gX6_lens_X6_isLens rfl rfl rfl (by decide +kernel) ⟨Nat.le_of_ble_eq_true rfl, Nat.le_of_ble_eq_true rfl⟩) hK hP hS [0, 1] rfl rfl rfl rfl hl.1 rfl (Nat.le_of_ble_eq_true rfl) dX6_lens_2 ⟨Nat.zero_le _, Nat.zero_le _⟩ (fun r2 H locs hp2 hP hS => ?_)
  rw [show r2 = _ from hp2]
  refine xb_if_eq (tgt := 31) hx hb dX6_lens_5 rfl (fun b5 => ?_) (fun b5 => ?_)
  · skip
    refine lv_iconst (v := (-1)) hx hb dX6_lens_31 (by decide) ?_
    refine W.iret (v := (-1)) hx hb hr (fun t ht hW => ⟨⟨(-1), (), rfl, ?_, trivial⟩, hS.F ht⟩) hS.2.2 dX6_lens_32
    first | exact (if_neg (fun q => b5 q.1)).symm | exact (if_neg (fun q => b12 q.2)).symm | (rw [if_pos ⟨inR_nI hi0 (by omega), inR_nI ha0 (by omega)⟩, tn_nI (by omega), tn_nI (by omega)])
  · skip
    refine lv_iload_n hx hb dX6_lens_8 rfl (lv_at hl 2 rfl) ?_
    refine xs_i (As := [.int a]) (rest := []) ⟨hx, hb, hml, hown, hts⟩ (c_X6_isPart l G a ) (va_cwS 1 hts gX6_lens_X6_isPart rfl rfl rfl (by decide +kernel) ⟨Nat.le_of_ble_eq_true rfl, Nat.le_of_ble_eq_true rfl⟩) hP hS rfl hl.1 rfl (Nat.le_of_ble_eq_true rfl) dX6_lens_9 ⟨Nat.zero_le _, Nat.zero_le _⟩ (fun r9 H locs hp9 hP hS => ?_)
    rw [show r9 = _ from hp9]
    refine xb_if_eq (tgt := 31) hx hb dX6_lens_12 rfl (fun b12 => ?_) (fun b12 => ?_)
    · skip
      refine lv_iconst (v := (-1)) hx hb dX6_lens_31 (by decide) ?_
      refine W.iret (v := (-1)) hx hb hr (fun t ht hW => ⟨⟨(-1), (), rfl, ?_, trivial⟩, hS.F ht⟩) hS.2.2 dX6_lens_32
      first | exact (if_neg (fun q => b5 q.1)).symm | exact (if_neg (fun q => b12 q.2)).symm | (rw [if_pos ⟨inR_nI hi0 (by omega), inR_nI ha0 (by omega)⟩, tn_nI (by omega), tn_nI (by omega)])
    · skip
      obtain ⟨i0, hi0, rfl⟩ := inR_nat b5
      obtain ⟨a0, ha0, rfl⟩ := inR_nat b12
      refine lv_aload_n hx hb dX6_lens_15 rfl (lv_at hl 0 rfl) ?_
      refine va_get (D := G.1) (ci := 6) (v := .ref (ad 0)) (C := RX6) (T := TX6) (N := 29) hx hb hts hin6 hown hK.1 hP 0 rfl rfl 0 (by decide) (hts (.fieldLink RX6 7 "BackLensesModel" "st" "[I") (List.mem_of_getElem? (i := 1) rfl)) (fun _ h9 => h9) rfl dX6_lens_16 ?_
      refine lv_bipush (v := nI 48) hx hb dX6_lens_19 (by decide) ?_
      refine lv_iconst (v := nI 2) hx hb dX6_lens_21 (by decide) ?_
      refine lv_iload_n hx hb dX6_lens_22 rfl (lv_at hl 1 rfl) ?_
      refine xn_imul hx hb dX6_lens_23 ?_
      refine xn_iadd hx hb dX6_lens_24 ?_
      refine lv_iload_n hx hb dX6_lens_25 rfl (lv_at hl 2 rfl) ?_
      refine xn_iadd hx hb dX6_lens_26 ?_
      refine xn_iald hx hb hK hP 1 rfl (by omega) (by omega) dX6_lens_27 ?_
      refine lv_goto (tgt := 32) hx hb dX6_lens_28 rfl ?_
      refine W.iret (v := S ((48 + (2 * i0)) + a0)) hx hb hr (fun t ht hW => ⟨⟨S ((48 + (2 * i0)) + a0), (), rfl, ?_, trivial⟩, hS.F ht⟩) hS.2.2 dX6_lens_32
      first | exact (if_neg (fun q => b5 q.1)).symm | exact (if_neg (fun q => b12 q.2)).symm | (rw [if_pos ⟨inR_nI hi0 (by omega), inR_nI ha0 (by omega)⟩, tn_nI (by omega), tn_nI (by omega)])

abbrev w_X6_becomes (G : XG) (ko : Nat) (ad : Nat → Nat) (w h la tp : Nat) (ft tr : Int32) (mv : Nat → Int32) (S : Nat → Int32) : va_W := [oC ko 6 [.ref (ad 0), .ref (ad 1), .int (nI w), .int (nI h), .int (nI la), .ref (ad 2), .int (mv 0), .int (mv 1), .int (mv 2), .int (mv 3), .int (mv 4), .int (mv 5), .int (mv 6), .ref (ad 3), .int (nI tp), .int (mv 7), .int (mv 8), .int (mv 9), .int (mv 10), .int ft, .int (mv 11), .ref (ad 4), .ref (ad 5), .ref (ad 6), .ref (ad 7), .ref (ad 8), .ref (ad 9), .ref (ad 10), .int tr], iA G (ad 0) 255 S]
abbrev Q_X6_becomes (G : XG) (sz : Nat) (ko : Nat) (ad : Nat → Nat) (w h la tp : Nat) (ft tr : Int32) (mv : Nat → Int32) (S : Nat → Int32) (k : Nat) (v : Int32) : Array Value → State → Outcome → State → Prop := (va_Qi (fun (r : Int32) (u : (Nat → Int32)) => r = S k ∧ u = upd S k v) (xWb G sz (w_X6_becomes G ko ad w h la tp ft tr mv S) (fun u : (Nat → Int32) => [oC ko 6 [.ref (ad 0), .ref (ad 1), .int (nI w), .int (nI h), .int (nI la), .ref (ad 2), .int (mv 0), .int (mv 1), .int (mv 2), .int (mv 3), .int (mv 4), .int (mv 5), .int (mv 6), .ref (ad 3), .int (nI tp), .int (mv 7), .int (mv 8), .int (mv 9), .int (mv 10), .int ft, .int (mv 11), .ref (ad 4), .ref (ad 5), .ref (ad 6), .ref (ad 7), .ref (ad 8), .ref (ad 9), .ref (ad 10), .int tr], iA G (ad 0) 255 u])) (va_A (w_X6_becomes G ko ad w h la tp ft tr mv S) sz))
set_option maxHeartbeats 4000000 in
set_option maxRecDepth 100000 in
theorem c_X6_becomes (l : Launch) (G : XG) (sz : Nat) (ko : Nat) (ad : Nat → Nat) (w h la tp : Nat) (ft tr : Int32) (mv : Nat → Int32) (S : Nat → Int32) (k : Nat) (v : Int32) (hk : k < 255) : Met l yX6_becomes wsX6_becomes ({ frames := 0, cells := 0, slots := 0, locals := 0 } : Room) (va_Pc [.ref ko, .int (nI k), .int v] (xWp G sz (w_X6_becomes G ko ad w h la tp ft tr mv S))) (Q_X6_becomes G sz ko ad w h la tp ft tr mv S k v) 0 0 (va_A (w_X6_becomes G ko ad w h la tp ft tr mv S) sz) := by
  refine Met.ofW (cc := cX6_becomes) (maxL := 4) (ret := (some .int)) (by decide) rfl ?_
  intro pp ee ss mm aa below mt cd s₁ BB hml hv
  obtain ⟨rfl, hsz, hP, hK, hD0⟩ := hv
  have hx := BB.exec
  have hb := BB.bytes
  have hr := BB.returns
  have hts := atoms_spec (ws := wsX6_becomes) BB.pre
  have hown : ss.vm.findClass RX6 = some mm.cls := findClass_of_methodNamed BB.named
  have hlocks := BB.notSynchronized
  subst hsz
  have hD := hD0.self (sz := ss.heap.size)
  have hA : ∀ q : Nat, ss.heap.size ≤ q → va_A (w_X6_becomes G ko ad w h la tp ft tr mv S) ss.heap.size q := fun q h => Or.inr h
  have hS : va_S (va_A (w_X6_becomes G ko ad w h la tp ft tr mv S) ss.heap.size) ss.heap ss.heap [] := va_S.rf
  replace hD : va_D (va_A (w_X6_becomes G ko ad w h la tp ft tr mv S) ss.heap.size) [oC ko 6 [.ref (ad 0), .ref (ad 1), .int (nI w), .int (nI h), .int (nI la), .ref (ad 2), .int (mv 0), .int (mv 1), .int (mv 2), .int (mv 3), .int (mv 4), .int (mv 5), .int (mv 6), .ref (ad 3), .int (nI tp), .int (mv 7), .int (mv 8), .int (mv 9), .int (mv 10), .int ft, .int (mv 11), .ref (ad 4), .ref (ad 5), .ref (ad 6), .ref (ad 7), .ref (ad 8), .ref (ad 9), .ref (ad 10), .int tr], iA G (ad 0) 255 S] := hD
  replace hP : xP G [oC ko 6 [.ref (ad 0), .ref (ad 1), .int (nI w), .int (nI h), .int (nI la), .ref (ad 2), .int (mv 0), .int (mv 1), .int (mv 2), .int (mv 3), .int (mv 4), .int (mv 5), .int (mv 6), .ref (ad 3), .int (nI tp), .int (mv 7), .int (mv 8), .int (mv 9), .int (mv 10), .int ft, .int (mv 11), .ref (ad 4), .ref (ad 5), .ref (ad 6), .ref (ad 7), .ref (ad 8), .ref (ad 9), .ref (ad 10), .int tr], iA G (ad 0) 255 S] ss.heap := hP
  have hin6 : ∀ w ∈ u_ws RX6 TX6 29, w ∈ wsX6_becomes := fun w h => List.mem_cons_of_mem _ (List.mem_append_right _ h)
  have hl := lv_entry ([.ref ko, .int (nI k), .int v]) (n := 4) (Nat.le_of_ble_eq_true rfl)
  rw [lg_entry_eq]
  generalize (lg_sl ([.ref ko, .int (nI k), .int v]) ++ List.replicate (4 - (lg_sl ([.ref ko, .int (nI k), .int v])).length) Slot.unset).toArray = ls at hl ⊢
  replace hl : lv_has ls 4 [(0, .ref ko), (1, .int (nI k)), (2, .int v)] := hl
  refine lv_aload_n hx hb dX6_becomes_0 rfl (lv_at hl 0 rfl) ?_
  refine va_get (D := G.1) (ci := 6) (v := .ref (ad 0)) (C := RX6) (T := TX6) (N := 29) hx hb hts hin6 hown hK.1 hP 0 rfl rfl 0 (by decide) (hts (.fieldLink RX6 7 "BackLensesModel" "st" "[I") (List.mem_of_getElem? (i := 1) rfl)) (fun _ h9 => h9) rfl dX6_becomes_1 ?_
  refine lv_iload_n hx hb dX6_becomes_4 rfl (lv_at hl 1 rfl) ?_
  refine xn_iald hx hb hK hP 1 rfl (by omega) (by omega) dX6_becomes_5 ?_
  refine lv_istore_n (lv' := [(3, .int (S k)), (0, .ref ko), (1, .int (nI k)), (2, .int v)]) hx hb dX6_becomes_6 rfl hl (by decide) rfl (fun ls hl => ?_)
  refine lv_aload_n hx hb dX6_becomes_7 rfl (lv_at hl 1 rfl) ?_
  refine va_get (D := G.1) (ci := 6) (v := .ref (ad 0)) (C := RX6) (T := TX6) (N := 29) hx hb hts hin6 hown hK.1 hP 0 rfl rfl 0 (by decide) (hts (.fieldLink RX6 7 "BackLensesModel" "st" "[I") (List.mem_of_getElem? (i := 1) rfl)) (fun _ h9 => h9) rfl dX6_becomes_8 ?_
  refine lv_iload_n hx hb dX6_becomes_11 rfl (lv_at hl 2 rfl) ?_
  refine lv_iload_n hx hb dX6_becomes_12 rfl (lv_at hl 3 rfl) ?_
  refine xn_iast hx hb hK hP hD hS 1 rfl (by omega) (by omega) dX6_becomes_13 (fun H locs hP hD hS => ?_)
  replace hP : xP G [oC ko 6 [.ref (ad 0), .ref (ad 1), .int (nI w), .int (nI h), .int (nI la), .ref (ad 2), .int (mv 0), .int (mv 1), .int (mv 2), .int (mv 3), .int (mv 4), .int (mv 5), .int (mv 6), .ref (ad 3), .int (nI tp), .int (mv 7), .int (mv 8), .int (mv 9), .int (mv 10), .int ft, .int (mv 11), .ref (ad 4), .ref (ad 5), .ref (ad 6), .ref (ad 7), .ref (ad 8), .ref (ad 9), .ref (ad 10), .int tr], iA G (ad 0) 255 (upd S k v)] H := hP
  replace hD : va_D (va_A (w_X6_becomes G ko ad w h la tp ft tr mv S) ss.heap.size) [oC ko 6 [.ref (ad 0), .ref (ad 1), .int (nI w), .int (nI h), .int (nI la), .ref (ad 2), .int (mv 0), .int (mv 1), .int (mv 2), .int (mv 3), .int (mv 4), .int (mv 5), .int (mv 6), .ref (ad 3), .int (nI tp), .int (mv 7), .int (mv 8), .int (mv 9), .int (mv 10), .int ft, .int (mv 11), .ref (ad 4), .ref (ad 5), .ref (ad 6), .ref (ad 7), .ref (ad 8), .ref (ad 9), .ref (ad 10), .int tr], iA G (ad 0) 255 (upd S k v)] := hD
  refine lv_iload_n hx hb dX6_becomes_14 rfl (lv_at hl 0 rfl) ?_
  have hP := hP.sub (ws' := [oC ko 6 [.ref (ad 0), .ref (ad 1), .int (nI w), .int (nI h), .int (nI la), .ref (ad 2), .int (mv 0), .int (mv 1), .int (mv 2), .int (mv 3), .int (mv 4), .int (mv 5), .int (mv 6), .ref (ad 3), .int (nI tp), .int (mv 7), .int (mv 8), .int (mv 9), .int (mv 10), .int ft, .int (mv 11), .ref (ad 4), .ref (ad 5), .ref (ad 6), .ref (ad 7), .ref (ad 8), .ref (ad 9), .ref (ad 10), .int tr], iA G (ad 0) 255 (upd S k v)]) [0, 1] rfl
  have hD := hD.sub (ws' := [oC ko 6 [.ref (ad 0), .ref (ad 1), .int (nI w), .int (nI h), .int (nI la), .ref (ad 2), .int (mv 0), .int (mv 1), .int (mv 2), .int (mv 3), .int (mv 4), .int (mv 5), .int (mv 6), .ref (ad 3), .int (nI tp), .int (mv 7), .int (mv 8), .int (mv 9), .int (mv 10), .int ft, .int (mv 11), .ref (ad 4), .ref (ad 5), .ref (ad 6), .ref (ad 7), .ref (ad 8), .ref (ad 9), .ref (ad 10), .int tr], iA G (ad 0) 255 (upd S k v)]) [0, 1] (by decide) rfl
  refine W.iret (v := S k) hx hb hr (fun t ht hW => ⟨⟨S k, (upd S k v), rfl, ?_, by rw [ht]; exact hP, hD⟩, hS.F ht⟩) hS.2.2 dX6_becomes_15
  exact ⟨rfl, rfl⟩

abbrev w_X6_first (G : XG) (ko : Nat) (ad : Nat → Nat) (w h la tp : Nat) (ft tr : Int32) (mv : Nat → Int32) (S : Nat → Int32) : va_W := [oC ko 6 [.ref (ad 0), .ref (ad 1), .int (nI w), .int (nI h), .int (nI la), .ref (ad 2), .int (mv 0), .int (mv 1), .int (mv 2), .int (mv 3), .int (mv 4), .int (mv 5), .int (mv 6), .ref (ad 3), .int (nI tp), .int (mv 7), .int (mv 8), .int (mv 9), .int (mv 10), .int ft, .int (mv 11), .ref (ad 4), .ref (ad 5), .ref (ad 6), .ref (ad 7), .ref (ad 8), .ref (ad 9), .ref (ad 10), .int tr], iA G (ad 0) 255 S]
abbrev Q_X6_first (G : XG) (sz : Nat) (ko : Nat) (ad : Nat → Nat) (w h la tp : Nat) (ft tr : Int32) (mv : Nat → Int32) (S : Nat → Int32) (c m : Int32) : Array Value → State → Outcome → State → Prop := (va_Qi (fun (r : Int32) (u : (Nat → Int32)) => r = (if inR c (w * h) ∧ inR m 6 then S (tn c) else (-1)) ∧ u = (if inR c (w * h) ∧ inR m 6 then upd S (tn c) m else S)) (xWb G sz (w_X6_first G ko ad w h la tp ft tr mv S) (fun u : (Nat → Int32) => [oC ko 6 [.ref (ad 0), .ref (ad 1), .int (nI w), .int (nI h), .int (nI la), .ref (ad 2), .int (mv 0), .int (mv 1), .int (mv 2), .int (mv 3), .int (mv 4), .int (mv 5), .int (mv 6), .ref (ad 3), .int (nI tp), .int (mv 7), .int (mv 8), .int (mv 9), .int (mv 10), .int ft, .int (mv 11), .ref (ad 4), .ref (ad 5), .ref (ad 6), .ref (ad 7), .ref (ad 8), .ref (ad 9), .ref (ad 10), .int tr], iA G (ad 0) 255 u])) (va_A (w_X6_first G ko ad w h la tp ft tr mv S) sz))
set_option maxHeartbeats 4000000 in
set_option maxRecDepth 100000 in
theorem c_X6_first (l : Launch) (G : XG) (sz : Nat) (ko : Nat) (ad : Nat → Nat) (w h la tp : Nat) (ft tr : Int32) (mv : Nat → Int32) (S : Nat → Int32) (c m : Int32) (hwh1 : 1 ≤ w * h) (hwh : w * h ≤ 16) : Met l yX6_first wsX6_first ({ frames := 2, cells := 0, slots := 0, locals := 46 } : Room) (va_Pc [.ref ko, .int c, .int m] (xWp G sz (w_X6_first G ko ad w h la tp ft tr mv S))) (Q_X6_first G sz ko ad w h la tp ft tr mv S c m) 0 0 (va_A (w_X6_first G ko ad w h la tp ft tr mv S) sz) := by
  refine Met.ofW (cc := cX6_first) (maxL := 3) (ret := (some .int)) (by decide) rfl ?_
  intro pp ee ss mm aa below mt cd s₁ BB hml hv
  obtain ⟨rfl, hsz, hP, hK, hD0⟩ := hv
  have hx := BB.exec
  have hb := BB.bytes
  have hr := BB.returns
  have hts := atoms_spec (ws := wsX6_first) BB.pre
  have hown : ss.vm.findClass RX6 = some mm.cls := findClass_of_methodNamed BB.named
  have hlocks := BB.notSynchronized
  subst hsz
  have hD := hD0.self (sz := ss.heap.size)
  have hA : ∀ q : Nat, ss.heap.size ≤ q → va_A (w_X6_first G ko ad w h la tp ft tr mv S) ss.heap.size q := fun q h => Or.inr h
  have hS : va_S (va_A (w_X6_first G ko ad w h la tp ft tr mv S) ss.heap.size) ss.heap ss.heap [] := va_S.rf
  replace hD : va_D (va_A (w_X6_first G ko ad w h la tp ft tr mv S) ss.heap.size) [oC ko 6 [.ref (ad 0), .ref (ad 1), .int (nI w), .int (nI h), .int (nI la), .ref (ad 2), .int (mv 0), .int (mv 1), .int (mv 2), .int (mv 3), .int (mv 4), .int (mv 5), .int (mv 6), .ref (ad 3), .int (nI tp), .int (mv 7), .int (mv 8), .int (mv 9), .int (mv 10), .int ft, .int (mv 11), .ref (ad 4), .ref (ad 5), .ref (ad 6), .ref (ad 7), .ref (ad 8), .ref (ad 9), .ref (ad 10), .int tr], iA G (ad 0) 255 S] := hD
  replace hP : xP G [oC ko 6 [.ref (ad 0), .ref (ad 1), .int (nI w), .int (nI h), .int (nI la), .ref (ad 2), .int (mv 0), .int (mv 1), .int (mv 2), .int (mv 3), .int (mv 4), .int (mv 5), .int (mv 6), .ref (ad 3), .int (nI tp), .int (mv 7), .int (mv 8), .int (mv 9), .int (mv 10), .int ft, .int (mv 11), .ref (ad 4), .ref (ad 5), .ref (ad 6), .ref (ad 7), .ref (ad 8), .ref (ad 9), .ref (ad 10), .int tr], iA G (ad 0) 255 S] ss.heap := hP
  have hin6 : ∀ w ∈ u_ws RX6 TX6 29, w ∈ wsX6_first := fun w h => List.mem_cons_of_mem _ (List.mem_append_right _ h)
  have hl := lv_entry ([.ref ko, .int c, .int m]) (n := 3) (Nat.le_of_ble_eq_true rfl)
  rw [lg_entry_eq]
  generalize (lg_sl ([.ref ko, .int c, .int m]) ++ List.replicate (3 - (lg_sl ([.ref ko, .int c, .int m])).length) Slot.unset).toArray = ls at hl ⊢
  replace hl : lv_has ls 3 [(0, .ref ko), (1, .int c), (2, .int m)] := hl
  refine lv_aload_n hx hb dX6_first_0 rfl (lv_at hl 0 rfl) ?_
  refine lv_iload_n hx hb dX6_first_1 rfl (lv_at hl 1 rfl) ?_
  refine xr_i (As := [.int c]) (rest := []) ⟨hx, hb, hml, hown, hts⟩ (c_X6_isCell l G ko ad w h la tp ft tr mv c (by first | assumption | omega) (by first | assumption | omega)) (cwV 1 hts gX6_first_X6_isCell rfl rfl rfl (by decide +kernel) ⟨Nat.le_of_ble_eq_true rfl, Nat.le_of_ble_eq_true rfl⟩) hK hP hS [0] rfl rfl rfl rfl hl.1 rfl (Nat.le_of_ble_eq_true rfl) dX6_first_2 ⟨Nat.zero_le _, Nat.zero_le _⟩ (fun r2 H locs hp2 hP hS => ?_)
  rw [show r2 = _ from hp2]
  refine xb_if_eq (tgt := 26) hx hb dX6_first_5 rfl (fun b5 => ?_) (fun b5 => ?_)
  · skip
    refine lv_iconst (v := (-1)) hx hb dX6_first_26 (by decide) ?_
    have hP := hP.sub (ws' := [oC ko 6 [.ref (ad 0), .ref (ad 1), .int (nI w), .int (nI h), .int (nI la), .ref (ad 2), .int (mv 0), .int (mv 1), .int (mv 2), .int (mv 3), .int (mv 4), .int (mv 5), .int (mv 6), .ref (ad 3), .int (nI tp), .int (mv 7), .int (mv 8), .int (mv 9), .int (mv 10), .int ft, .int (mv 11), .ref (ad 4), .ref (ad 5), .ref (ad 6), .ref (ad 7), .ref (ad 8), .ref (ad 9), .ref (ad 10), .int tr], iA G (ad 0) 255 S]) [0, 1] rfl
    have hD := hD.sub (ws' := [oC ko 6 [.ref (ad 0), .ref (ad 1), .int (nI w), .int (nI h), .int (nI la), .ref (ad 2), .int (mv 0), .int (mv 1), .int (mv 2), .int (mv 3), .int (mv 4), .int (mv 5), .int (mv 6), .ref (ad 3), .int (nI tp), .int (mv 7), .int (mv 8), .int (mv 9), .int (mv 10), .int ft, .int (mv 11), .ref (ad 4), .ref (ad 5), .ref (ad 6), .ref (ad 7), .ref (ad 8), .ref (ad 9), .ref (ad 10), .int tr], iA G (ad 0) 255 S]) [0, 1] (by decide) rfl
    refine W.iret (v := (-1)) hx hb hr (fun t ht hW => ⟨⟨(-1), (S), rfl, ?_, by rw [ht]; exact hP, hD⟩, hS.F ht⟩) hS.2.2 dX6_first_27
    first | exact ⟨(if_neg (fun q => b5 q.1)).symm, (if_neg (fun q => b5 q.1)).symm⟩ | exact ⟨(if_neg (fun q => b12 q.2)).symm, (if_neg (fun q => b12 q.2)).symm⟩ | (rw [if_pos ⟨inR_nI hc0 (by omega), b12⟩, if_pos ⟨inR_nI hc0 (by omega), b12⟩, tn_nI (by omega), Nat.zero_add]; exact ⟨rfl, rfl⟩)
  · skip
    refine lv_iload_n hx hb dX6_first_8 rfl (lv_at hl 2 rfl) ?_
    refine xs_i (As := [.int m]) (rest := []) ⟨hx, hb, hml, hown, hts⟩ (c_X6_isMark l G m ) (va_cwS 1 hts gX6_first_X6_isMark rfl rfl rfl (by decide +kernel) ⟨Nat.le_of_ble_eq_true rfl, Nat.le_of_ble_eq_true rfl⟩) hP hS rfl hl.1 rfl (Nat.le_of_ble_eq_true rfl) dX6_first_9 ⟨Nat.zero_le _, Nat.zero_le _⟩ (fun r9 H locs hp9 hP hS => ?_)
    rw [show r9 = _ from hp9]
    refine xb_if_eq (tgt := 26) hx hb dX6_first_12 rfl (fun b12 => ?_) (fun b12 => ?_)
    · skip
      refine lv_iconst (v := (-1)) hx hb dX6_first_26 (by decide) ?_
      have hP := hP.sub (ws' := [oC ko 6 [.ref (ad 0), .ref (ad 1), .int (nI w), .int (nI h), .int (nI la), .ref (ad 2), .int (mv 0), .int (mv 1), .int (mv 2), .int (mv 3), .int (mv 4), .int (mv 5), .int (mv 6), .ref (ad 3), .int (nI tp), .int (mv 7), .int (mv 8), .int (mv 9), .int (mv 10), .int ft, .int (mv 11), .ref (ad 4), .ref (ad 5), .ref (ad 6), .ref (ad 7), .ref (ad 8), .ref (ad 9), .ref (ad 10), .int tr], iA G (ad 0) 255 S]) [0, 1] rfl
      have hD := hD.sub (ws' := [oC ko 6 [.ref (ad 0), .ref (ad 1), .int (nI w), .int (nI h), .int (nI la), .ref (ad 2), .int (mv 0), .int (mv 1), .int (mv 2), .int (mv 3), .int (mv 4), .int (mv 5), .int (mv 6), .ref (ad 3), .int (nI tp), .int (mv 7), .int (mv 8), .int (mv 9), .int (mv 10), .int ft, .int (mv 11), .ref (ad 4), .ref (ad 5), .ref (ad 6), .ref (ad 7), .ref (ad 8), .ref (ad 9), .ref (ad 10), .int tr], iA G (ad 0) 255 S]) [0, 1] (by decide) rfl
      refine W.iret (v := (-1)) hx hb hr (fun t ht hW => ⟨⟨(-1), (S), rfl, ?_, by rw [ht]; exact hP, hD⟩, hS.F ht⟩) hS.2.2 dX6_first_27
      first | exact ⟨(if_neg (fun q => b5 q.1)).symm, (if_neg (fun q => b5 q.1)).symm⟩ | exact ⟨(if_neg (fun q => b12 q.2)).symm, (if_neg (fun q => b12 q.2)).symm⟩ | (rw [if_pos ⟨inR_nI hc0 (by omega), b12⟩, if_pos ⟨inR_nI hc0 (by omega), b12⟩, tn_nI (by omega), Nat.zero_add]; exact ⟨rfl, rfl⟩)
    · skip
      obtain ⟨c0, hc0, rfl⟩ := inR_nat b5
      refine lv_aload_n hx hb dX6_first_15 rfl (lv_at hl 0 rfl) ?_
      refine lv_iconst (v := nI 0) hx hb dX6_first_16 (by decide) ?_
      refine lv_iload_n hx hb dX6_first_17 rfl (lv_at hl 1 rfl) ?_
      refine xn_iadd hx hb dX6_first_18 ?_
      refine lv_iload_n hx hb dX6_first_19 rfl (lv_at hl 2 rfl) ?_
      refine xw_i (As := [.int (nI (0 + c0)), .int m]) (rest := []) (wr := []) ⟨hx, hb, hml, hown, hts⟩ (c_X6_becomes l G H.size ko ad w h la tp ft tr mv S (0 + c0) m (by first | assumption | omega)) (cwV 2 hts gX6_first_X6_becomes rfl rfl rfl (by decide +kernel) ⟨Nat.le_of_ble_eq_true rfl, Nat.le_of_ble_eq_true rfl⟩) hK hP hD hS hA [0, 1] [] rfl rfl (by decide) (by decide) (by decide) rfl rfl rfl hl.1 rfl (Nat.le_of_ble_eq_true rfl) dX6_first_20 ⟨Nat.le_of_ble_eq_true rfl, Nat.le_of_ble_eq_true rfl⟩ (fun r20 u H locs hp20 hP hD hS => ?_)
      obtain ⟨u0_20, rfl⟩ : ∃ z, z = u := ⟨_, rfl⟩
      try dsimp only at hp20 hP hD
      obtain ⟨rfl, rfl⟩ := hp20
      replace hP : xP G [oC ko 6 [.ref (ad 0), .ref (ad 1), .int (nI w), .int (nI h), .int (nI la), .ref (ad 2), .int (mv 0), .int (mv 1), .int (mv 2), .int (mv 3), .int (mv 4), .int (mv 5), .int (mv 6), .ref (ad 3), .int (nI tp), .int (mv 7), .int (mv 8), .int (mv 9), .int (mv 10), .int ft, .int (mv 11), .ref (ad 4), .ref (ad 5), .ref (ad 6), .ref (ad 7), .ref (ad 8), .ref (ad 9), .ref (ad 10), .int tr], iA G (ad 0) 255 (upd S (0 + c0) m)] H := hP
      replace hD : va_D (va_A (w_X6_first G ko ad w h la tp ft tr mv S) ss.heap.size) [oC ko 6 [.ref (ad 0), .ref (ad 1), .int (nI w), .int (nI h), .int (nI la), .ref (ad 2), .int (mv 0), .int (mv 1), .int (mv 2), .int (mv 3), .int (mv 4), .int (mv 5), .int (mv 6), .ref (ad 3), .int (nI tp), .int (mv 7), .int (mv 8), .int (mv 9), .int (mv 10), .int ft, .int (mv 11), .ref (ad 4), .ref (ad 5), .ref (ad 6), .ref (ad 7), .ref (ad 8), .ref (ad 9), .ref (ad 10), .int tr], iA G (ad 0) 255 (upd S (0 + c0) m)] := hD
      refine lv_goto (tgt := 27) hx hb dX6_first_23 rfl ?_
      have hP := hP.sub (ws' := [oC ko 6 [.ref (ad 0), .ref (ad 1), .int (nI w), .int (nI h), .int (nI la), .ref (ad 2), .int (mv 0), .int (mv 1), .int (mv 2), .int (mv 3), .int (mv 4), .int (mv 5), .int (mv 6), .ref (ad 3), .int (nI tp), .int (mv 7), .int (mv 8), .int (mv 9), .int (mv 10), .int ft, .int (mv 11), .ref (ad 4), .ref (ad 5), .ref (ad 6), .ref (ad 7), .ref (ad 8), .ref (ad 9), .ref (ad 10), .int tr], iA G (ad 0) 255 (upd S (0 + c0) m)]) [0, 1] rfl
      have hD := hD.sub (ws' := [oC ko 6 [.ref (ad 0), .ref (ad 1), .int (nI w), .int (nI h), .int (nI la), .ref (ad 2), .int (mv 0), .int (mv 1), .int (mv 2), .int (mv 3), .int (mv 4), .int (mv 5), .int (mv 6), .ref (ad 3), .int (nI tp), .int (mv 7), .int (mv 8), .int (mv 9), .int (mv 10), .int ft, .int (mv 11), .ref (ad 4), .ref (ad 5), .ref (ad 6), .ref (ad 7), .ref (ad 8), .ref (ad 9), .ref (ad 10), .int tr], iA G (ad 0) 255 (upd S (0 + c0) m)]) [0, 1] (by decide) rfl
      refine W.iret (v := S (0 + c0)) hx hb hr (fun t ht hW => ⟨⟨S (0 + c0), ((upd S (0 + c0) m)), rfl, ?_, by rw [ht]; exact hP, hD⟩, hS.F ht⟩) hS.2.2 dX6_first_27
      first | exact ⟨(if_neg (fun q => b5 q.1)).symm, (if_neg (fun q => b5 q.1)).symm⟩ | exact ⟨(if_neg (fun q => b12 q.2)).symm, (if_neg (fun q => b12 q.2)).symm⟩ | (rw [if_pos ⟨inR_nI hc0 (by omega), b12⟩, if_pos ⟨inR_nI hc0 (by omega), b12⟩, tn_nI (by omega), Nat.zero_add]; exact ⟨rfl, rfl⟩)
end
section
theorem upd_ne {f : Nat → Int32} {k j : Nat} {v : Int32} (h : ¬ j = k) : upd f k v j = f j := if_neg h
theorem upd_eq {f : Nat → Int32} {k : Nat} {v : Int32} : upd f k v k = v := if_pos rfl
/-- three numbers and the count at m, of a row at t -/
abbrev add3 (S : Nat → Int32) (t m : Nat) (a b c : Int32) (n : Nat) : Nat → Int32 := upd (upd (upd (upd S t a) (t + 1) b) (t + 2) c) m (nI n)
abbrev add2 (S : Nat → Int32) (t m : Nat) (a b : Int32) (n : Nat) : Nat → Int32 := upd (upd (upd S t a) (t + 1) b) m (nI n)
end
section
abbrev Q_X6_in_r (G : XG) (x : Int32) (n : Nat) : Array Value → State → Outcome → State → Prop := (xRi (fun r => r = xb (inR x (n + 1))))
set_option maxHeartbeats 4000000 in
set_option maxRecDepth 100000 in
theorem c_X6_in_r (l : Launch) (G : XG) (x : Int32) (n : Nat) (hn : n < 1000000) : Met l yX6_in wsX6_in ({ frames := 0, cells := 0, slots := 0, locals := 0 } : Room) (va_Pc [.long x.toInt64, .long (lN 0), .long (lN n)] (fun _ => True)) (Q_X6_in_r G x n) 0 0 (fun _ => False) := by
  refine Met.ofW (cc := cX6_in) (maxL := 6) (ret := (some .boolean)) (by decide) rfl ?_
  intro pp ee ss mm aa below mt cd s₁ BB hml hv
  obtain ⟨rfl, -⟩ := hv
  have hx := BB.exec
  have hb := BB.bytes
  have hr := BB.returns
  have hts := atoms_spec (ws := wsX6_in) BB.pre
  have hown : ss.vm.findClass RX6 = some mm.cls := findClass_of_methodNamed BB.named
  have hlocks := BB.notSynchronized
  have hS : va_S (fun _ => False) ss.heap ss.heap [] := va_S.rf
  have hP : xP (G) [] ss.heap := fun k q h => by cases h
  have hl := lv_entry ([.long x.toInt64, .long (lN 0), .long (lN n)]) (n := 6) (Nat.le_of_ble_eq_true rfl)
  rw [lg_entry_eq]
  generalize (lg_sl ([.long x.toInt64, .long (lN 0), .long (lN n)]) ++ List.replicate (6 - (lg_sl ([.long x.toInt64, .long (lN 0), .long (lN n)])).length) Slot.unset).toArray = ls at hl ⊢
  replace hl : lv_has ls 6 [(0, .long x.toInt64), (2, .long (lN 0)), (4, .long (lN n))] := hl
  refine lv_lload_n hx hb dX6_in_0 rfl (lv_at hl 0 rfl) ?_
  refine lv_lload_n hx hb dX6_in_1 rfl (lv_at hl 1 rfl) ?_
  refine W.lcmp hx hb dX6_in_2 ?_
  refine xl_if_lt (tgt := 17) hx hb dX6_in_3 rfl (fun b3 => ?_) (fun b3 => ?_)
  · skip
    refine lv_iconst (v := nI 0) hx hb dX6_in_17 (by decide) ?_
    refine W.zret (v := nI 0) (ty := .boolean) hx hb hr (by decide) (fun t ht hW => ⟨⟨nI 0, (), rfl, ?_, trivial⟩, hS.F ht⟩) hS.2.2 dX6_in_18
    first | exact (xb_t (by rw [i64_toInt] at *; rw [lN_toInt' (by omega)] at *; unfold inR; omega)).symm | exact (xb_f (fun q => by unfold inR at q; rw [i64_toInt, lN_toInt' (by omega)] at *; omega)).symm
  · skip
    refine lv_lload_n hx hb dX6_in_6 rfl (lv_at hl 0 rfl) ?_
    refine lv_lload hx hb dX6_in_7 (lv_at hl 2 rfl) ?_
    refine W.lcmp hx hb dX6_in_9 ?_
    refine xl_if_gt (tgt := 17) hx hb dX6_in_10 rfl (fun b10 => ?_) (fun b10 => ?_)
    · skip
      refine lv_iconst (v := nI 0) hx hb dX6_in_17 (by decide) ?_
      refine W.zret (v := nI 0) (ty := .boolean) hx hb hr (by decide) (fun t ht hW => ⟨⟨nI 0, (), rfl, ?_, trivial⟩, hS.F ht⟩) hS.2.2 dX6_in_18
      first | exact (xb_t (by rw [i64_toInt] at *; rw [lN_toInt' (by omega)] at *; unfold inR; omega)).symm | exact (xb_f (fun q => by unfold inR at q; rw [i64_toInt, lN_toInt' (by omega)] at *; omega)).symm
    · skip
      refine lv_iconst (v := nI 1) hx hb dX6_in_13 (by decide) ?_
      refine lv_goto (tgt := 18) hx hb dX6_in_14 rfl ?_
      refine W.zret (v := nI 1) (ty := .boolean) hx hb hr (by decide) (fun t ht hW => ⟨⟨nI 1, (), rfl, ?_, trivial⟩, hS.F ht⟩) hS.2.2 dX6_in_18
      first | exact (xb_t (by rw [i64_toInt] at *; rw [lN_toInt' (by omega)] at *; unfold inR; omega)).symm | exact (xb_f (fun q => by unfold inR at q; rw [i64_toInt, lN_toInt' (by omega)] at *; omega)).symm

abbrev Q_X6_in_s (G : XG) (x y : Int32) (n : Nat) : Array Value → State → Outcome → State → Prop := (xRi (fun r => r = xb (inR x n)))
set_option maxHeartbeats 4000000 in
set_option maxRecDepth 100000 in
theorem c_X6_in_s (l : Launch) (G : XG) (x y : Int32) (n : Nat) (hn : n < 1000000) (hy : y = nI n - nI 1) : Met l yX6_in wsX6_in ({ frames := 0, cells := 0, slots := 0, locals := 0 } : Room) (va_Pc [.long x.toInt64, .long (lN 0), .long y.toInt64] (fun _ => True)) (Q_X6_in_s G x y n) 0 0 (fun _ => False) := by
  refine Met.ofW (cc := cX6_in) (maxL := 6) (ret := (some .boolean)) (by decide) rfl ?_
  intro pp ee ss mm aa below mt cd s₁ BB hml hv
  obtain ⟨rfl, -⟩ := hv
  have hx := BB.exec
  have hb := BB.bytes
  have hr := BB.returns
  have hts := atoms_spec (ws := wsX6_in) BB.pre
  have hown : ss.vm.findClass RX6 = some mm.cls := findClass_of_methodNamed BB.named
  have hlocks := BB.notSynchronized
  have hS : va_S (fun _ => False) ss.heap ss.heap [] := va_S.rf
  have hP : xP (G) [] ss.heap := fun k q h => by cases h
  have hl := lv_entry ([.long x.toInt64, .long (lN 0), .long y.toInt64]) (n := 6) (Nat.le_of_ble_eq_true rfl)
  rw [lg_entry_eq]
  generalize (lg_sl ([.long x.toInt64, .long (lN 0), .long y.toInt64]) ++ List.replicate (6 - (lg_sl ([.long x.toInt64, .long (lN 0), .long y.toInt64])).length) Slot.unset).toArray = ls at hl ⊢
  replace hl : lv_has ls 6 [(0, .long x.toInt64), (2, .long (lN 0)), (4, .long y.toInt64)] := hl
  have hyi : y.toInt = (n : Int) - 1 := (by rw [hy, pk_sub_toInt (by omega) (by omega)]; rfl)
  have h00 : (lN 0).toInt = 0 := (lN_toInt' (by omega))
  refine lv_lload_n hx hb dX6_in_0 rfl (lv_at hl 0 rfl) ?_
  refine lv_lload_n hx hb dX6_in_1 rfl (lv_at hl 1 rfl) ?_
  refine W.lcmp hx hb dX6_in_2 ?_
  refine xl_if_lt (tgt := 17) hx hb dX6_in_3 rfl (fun b3 => ?_) (fun b3 => ?_)
  · skip
    refine lv_iconst (v := nI 0) hx hb dX6_in_17 (by decide) ?_
    refine W.zret (v := nI 0) (ty := .boolean) hx hb hr (by decide) (fun t ht hW => ⟨⟨nI 0, (), rfl, ?_, trivial⟩, hS.F ht⟩) hS.2.2 dX6_in_18
    first | exact (xb_t (by simp only [i64_toInt] at *; unfold inR; omega)).symm | exact (xb_f (fun q => by unfold inR at q; simp only [i64_toInt] at *; omega)).symm
  · skip
    refine lv_lload_n hx hb dX6_in_6 rfl (lv_at hl 0 rfl) ?_
    refine lv_lload hx hb dX6_in_7 (lv_at hl 2 rfl) ?_
    refine W.lcmp hx hb dX6_in_9 ?_
    refine xl_if_gt (tgt := 17) hx hb dX6_in_10 rfl (fun b10 => ?_) (fun b10 => ?_)
    · skip
      refine lv_iconst (v := nI 0) hx hb dX6_in_17 (by decide) ?_
      refine W.zret (v := nI 0) (ty := .boolean) hx hb hr (by decide) (fun t ht hW => ⟨⟨nI 0, (), rfl, ?_, trivial⟩, hS.F ht⟩) hS.2.2 dX6_in_18
      first | exact (xb_t (by simp only [i64_toInt] at *; unfold inR; omega)).symm | exact (xb_f (fun q => by unfold inR at q; simp only [i64_toInt] at *; omega)).symm
    · skip
      refine lv_iconst (v := nI 1) hx hb dX6_in_13 (by decide) ?_
      refine lv_goto (tgt := 18) hx hb dX6_in_14 rfl ?_
      refine W.zret (v := nI 1) (ty := .boolean) hx hb hr (by decide) (fun t ht hW => ⟨⟨nI 1, (), rfl, ?_, trivial⟩, hS.F ht⟩) hS.2.2 dX6_in_18
      first | exact (xb_t (by simp only [i64_toInt] at *; unfold inR; omega)).symm | exact (xb_f (fun q => by unfold inR at q; simp only [i64_toInt] at *; omega)).symm

abbrev w_X6_turn (G : XG) (ko : Nat) (ad : Nat → Nat) (w h la tp : Nat) (ft tr : Int32) (mv : Nat → Int32) (S : Nat → Int32) : va_W := [oC ko 6 [.ref (ad 0), .ref (ad 1), .int (nI w), .int (nI h), .int (nI la), .ref (ad 2), .int (mv 0), .int (mv 1), .int (mv 2), .int (mv 3), .int (mv 4), .int (mv 5), .int (mv 6), .ref (ad 3), .int (nI tp), .int (mv 7), .int (mv 8), .int (mv 9), .int (mv 10), .int ft, .int (mv 11), .ref (ad 4), .ref (ad 5), .ref (ad 6), .ref (ad 7), .ref (ad 8), .ref (ad 9), .ref (ad 10), .int tr], iA G (ad 0) 255 S]
abbrev Q_X6_turn (G : XG) (sz : Nat) (ko : Nat) (ad : Nat → Nat) (w h la tp : Nat) (ft tr : Int32) (mv : Nat → Int32) (S : Nat → Int32) (nc : Nat) (d c m : Int32) : Array Value → State → Outcome → State → Prop := (va_Qi (fun (r : Int32) (u : (Nat → Int32)) => r = (if (inR d (la + 1) ∧ inR c (w * h) ∧ inR m 6) then (if nc < 10 then nI (nc + 1) else (-3)) else (-1)) ∧ u = (if (inR d (la + 1) ∧ inR c (w * h) ∧ inR m 6 ∧ nc < 10) then add3 S (17 + 3 * nc) 16 d c m (nc + 1) else S)) (xWb G sz (w_X6_turn G ko ad w h la tp ft tr mv S) (fun u : (Nat → Int32) => [oC ko 6 [.ref (ad 0), .ref (ad 1), .int (nI w), .int (nI h), .int (nI la), .ref (ad 2), .int (mv 0), .int (mv 1), .int (mv 2), .int (mv 3), .int (mv 4), .int (mv 5), .int (mv 6), .ref (ad 3), .int (nI tp), .int (mv 7), .int (mv 8), .int (mv 9), .int (mv 10), .int ft, .int (mv 11), .ref (ad 4), .ref (ad 5), .ref (ad 6), .ref (ad 7), .ref (ad 8), .ref (ad 9), .ref (ad 10), .int tr], iA G (ad 0) 255 u])) (va_A (w_X6_turn G ko ad w h la tp ft tr mv S) sz))
set_option maxHeartbeats 4000000 in
set_option maxRecDepth 100000 in
theorem c_X6_turn (l : Launch) (G : XG) (sz : Nat) (ko : Nat) (ad : Nat → Nat) (w h la tp : Nat) (ft tr : Int32) (mv : Nat → Int32) (S : Nat → Int32) (nc : Nat) (d c m : Int32) (hw : 1 ≤ w) (hwb : w ≤ 16) (hhb : h ≤ 16) (hwh1 : 1 ≤ w * h) (hwh : w * h ≤ 16) (hla : la ≤ 9) (hs16 : S 16 = nI nc) (hnc : nc ≤ 10) : Met l yX6_turn wsX6_turn ({ frames := 2, cells := 0, slots := 0, locals := 46 } : Room) (va_Pc [.ref ko, .int d, .int c, .int m] (xWp G sz (w_X6_turn G ko ad w h la tp ft tr mv S))) (Q_X6_turn G sz ko ad w h la tp ft tr mv S nc d c m) 0 0 (va_A (w_X6_turn G ko ad w h la tp ft tr mv S) sz) := by
  refine Met.ofW (cc := cX6_turn) (maxL := 5) (ret := (some .int)) (by decide) rfl ?_
  intro pp ee ss mm aa below mt cd s₁ BB hml hv
  obtain ⟨rfl, hsz, hP, hK, hD0⟩ := hv
  have hx := BB.exec
  have hb := BB.bytes
  have hr := BB.returns
  have hts := atoms_spec (ws := wsX6_turn) BB.pre
  have hown : ss.vm.findClass RX6 = some mm.cls := findClass_of_methodNamed BB.named
  have hlocks := BB.notSynchronized
  subst hsz
  have hD := hD0.self (sz := ss.heap.size)
  have hA : ∀ q : Nat, ss.heap.size ≤ q → va_A (w_X6_turn G ko ad w h la tp ft tr mv S) ss.heap.size q := fun q h => Or.inr h
  have hS : va_S (va_A (w_X6_turn G ko ad w h la tp ft tr mv S) ss.heap.size) ss.heap ss.heap [] := va_S.rf
  replace hD : va_D (va_A (w_X6_turn G ko ad w h la tp ft tr mv S) ss.heap.size) [oC ko 6 [.ref (ad 0), .ref (ad 1), .int (nI w), .int (nI h), .int (nI la), .ref (ad 2), .int (mv 0), .int (mv 1), .int (mv 2), .int (mv 3), .int (mv 4), .int (mv 5), .int (mv 6), .ref (ad 3), .int (nI tp), .int (mv 7), .int (mv 8), .int (mv 9), .int (mv 10), .int ft, .int (mv 11), .ref (ad 4), .ref (ad 5), .ref (ad 6), .ref (ad 7), .ref (ad 8), .ref (ad 9), .ref (ad 10), .int tr], iA G (ad 0) 255 S] := hD
  replace hP : xP G [oC ko 6 [.ref (ad 0), .ref (ad 1), .int (nI w), .int (nI h), .int (nI la), .ref (ad 2), .int (mv 0), .int (mv 1), .int (mv 2), .int (mv 3), .int (mv 4), .int (mv 5), .int (mv 6), .ref (ad 3), .int (nI tp), .int (mv 7), .int (mv 8), .int (mv 9), .int (mv 10), .int ft, .int (mv 11), .ref (ad 4), .ref (ad 5), .ref (ad 6), .ref (ad 7), .ref (ad 8), .ref (ad 9), .ref (ad 10), .int tr], iA G (ad 0) 255 S] ss.heap := hP
  have hin6 : ∀ w ∈ u_ws RX6 TX6 29, w ∈ wsX6_turn := fun w h => List.mem_cons_of_mem _ (List.mem_append_right _ h)
  have hl := lv_entry ([.ref ko, .int d, .int c, .int m]) (n := 5) (Nat.le_of_ble_eq_true rfl)
  rw [lg_entry_eq]
  generalize (lg_sl ([.ref ko, .int d, .int c, .int m]) ++ List.replicate (5 - (lg_sl ([.ref ko, .int d, .int c, .int m])).length) Slot.unset).toArray = ls at hl ⊢
  replace hl : lv_has ls 5 [(0, .ref ko), (1, .int d), (2, .int c), (3, .int m)] := hl
  refine lv_aload_n hx hb dX6_turn_0 rfl (lv_at hl 0 rfl) ?_
  refine lv_iload_n hx hb dX6_turn_1 rfl (lv_at hl 1 rfl) ?_
  refine xr_i (As := [.int d]) (rest := []) ⟨hx, hb, hml, hown, hts⟩ (c_X6_isDay l G ko ad w h la tp ft tr mv d (by first | assumption | omega)) (cwV 1 hts gX6_turn_X6_isDay rfl rfl rfl (by decide +kernel) ⟨Nat.le_of_ble_eq_true rfl, Nat.le_of_ble_eq_true rfl⟩) hK hP hS [0] rfl rfl rfl rfl hl.1 rfl (Nat.le_of_ble_eq_true rfl) dX6_turn_2 ⟨Nat.zero_le _, Nat.zero_le _⟩ (fun r2 H locs hp2 hP hS => ?_)
  rw [show r2 = _ from hp2]
  refine xb_if_eq (tgt := 23) hx hb dX6_turn_5 rfl (fun b5 => ?_) (fun b5 => ?_)
  · skip
    refine lv_iconst (v := (-1)) hx hb dX6_turn_23 (by decide) ?_
    have hP := hP.sub (ws' := [oC ko 6 [.ref (ad 0), .ref (ad 1), .int (nI w), .int (nI h), .int (nI la), .ref (ad 2), .int (mv 0), .int (mv 1), .int (mv 2), .int (mv 3), .int (mv 4), .int (mv 5), .int (mv 6), .ref (ad 3), .int (nI tp), .int (mv 7), .int (mv 8), .int (mv 9), .int (mv 10), .int ft, .int (mv 11), .ref (ad 4), .ref (ad 5), .ref (ad 6), .ref (ad 7), .ref (ad 8), .ref (ad 9), .ref (ad 10), .int tr], iA G (ad 0) 255 S]) [0, 1] rfl
    have hD := hD.sub (ws' := [oC ko 6 [.ref (ad 0), .ref (ad 1), .int (nI w), .int (nI h), .int (nI la), .ref (ad 2), .int (mv 0), .int (mv 1), .int (mv 2), .int (mv 3), .int (mv 4), .int (mv 5), .int (mv 6), .ref (ad 3), .int (nI tp), .int (mv 7), .int (mv 8), .int (mv 9), .int (mv 10), .int ft, .int (mv 11), .ref (ad 4), .ref (ad 5), .ref (ad 6), .ref (ad 7), .ref (ad 8), .ref (ad 9), .ref (ad 10), .int tr], iA G (ad 0) 255 S]) [0, 1] (by decide) rfl
    refine W.iret (v := (-1)) hx hb hr (fun t ht hW => ⟨⟨(-1), (S), rfl, ?_, by rw [ht]; exact hP, hD⟩, hS.F ht⟩) hS.2.2 dX6_turn_24
    first | exact ⟨(if_neg (fun q => b5 q.1)).symm, (if_neg (fun q => b5 q.1)).symm⟩ | exact ⟨(if_neg (fun q => b13 q.2.1)).symm, (if_neg (fun q => b13 q.2.1)).symm⟩ | exact ⟨(if_neg (fun q => b20 q.2.2)).symm, (if_neg (fun q => b20 q.2.2.1)).symm⟩ | exact ⟨((if_pos ⟨b5, b13, b20⟩).trans (if_neg (by omega))).symm, (if_neg (fun q => absurd q.2.2.2 (by omega))).symm⟩ | exact ⟨((if_pos ⟨b5, b13, b20⟩).trans (if_pos (by omega))).symm, (if_pos ⟨b5, b13, b20, by omega⟩).symm⟩
  · skip
    refine lv_aload_n hx hb dX6_turn_8 rfl (lv_at hl 0 rfl) ?_
    refine lv_iload_n hx hb dX6_turn_9 rfl (lv_at hl 2 rfl) ?_
    refine xr_i (As := [.int c]) (rest := []) ⟨hx, hb, hml, hown, hts⟩ (c_X6_isCell l G ko ad w h la tp ft tr mv c (by first | assumption | omega) (by first | assumption | omega)) (cwV 1 hts gX6_turn_X6_isCell rfl rfl rfl (by decide +kernel) ⟨Nat.le_of_ble_eq_true rfl, Nat.le_of_ble_eq_true rfl⟩) hK hP hS [0] rfl rfl rfl rfl hl.1 rfl (Nat.le_of_ble_eq_true rfl) dX6_turn_10 ⟨Nat.zero_le _, Nat.zero_le _⟩ (fun r10 H locs hp10 hP hS => ?_)
    rw [show r10 = _ from hp10]
    refine xb_if_eq (tgt := 23) hx hb dX6_turn_13 rfl (fun b13 => ?_) (fun b13 => ?_)
    · skip
      refine lv_iconst (v := (-1)) hx hb dX6_turn_23 (by decide) ?_
      have hP := hP.sub (ws' := [oC ko 6 [.ref (ad 0), .ref (ad 1), .int (nI w), .int (nI h), .int (nI la), .ref (ad 2), .int (mv 0), .int (mv 1), .int (mv 2), .int (mv 3), .int (mv 4), .int (mv 5), .int (mv 6), .ref (ad 3), .int (nI tp), .int (mv 7), .int (mv 8), .int (mv 9), .int (mv 10), .int ft, .int (mv 11), .ref (ad 4), .ref (ad 5), .ref (ad 6), .ref (ad 7), .ref (ad 8), .ref (ad 9), .ref (ad 10), .int tr], iA G (ad 0) 255 S]) [0, 1] rfl
      have hD := hD.sub (ws' := [oC ko 6 [.ref (ad 0), .ref (ad 1), .int (nI w), .int (nI h), .int (nI la), .ref (ad 2), .int (mv 0), .int (mv 1), .int (mv 2), .int (mv 3), .int (mv 4), .int (mv 5), .int (mv 6), .ref (ad 3), .int (nI tp), .int (mv 7), .int (mv 8), .int (mv 9), .int (mv 10), .int ft, .int (mv 11), .ref (ad 4), .ref (ad 5), .ref (ad 6), .ref (ad 7), .ref (ad 8), .ref (ad 9), .ref (ad 10), .int tr], iA G (ad 0) 255 S]) [0, 1] (by decide) rfl
      refine W.iret (v := (-1)) hx hb hr (fun t ht hW => ⟨⟨(-1), (S), rfl, ?_, by rw [ht]; exact hP, hD⟩, hS.F ht⟩) hS.2.2 dX6_turn_24
      first | exact ⟨(if_neg (fun q => b5 q.1)).symm, (if_neg (fun q => b5 q.1)).symm⟩ | exact ⟨(if_neg (fun q => b13 q.2.1)).symm, (if_neg (fun q => b13 q.2.1)).symm⟩ | exact ⟨(if_neg (fun q => b20 q.2.2)).symm, (if_neg (fun q => b20 q.2.2.1)).symm⟩ | exact ⟨((if_pos ⟨b5, b13, b20⟩).trans (if_neg (by omega))).symm, (if_neg (fun q => absurd q.2.2.2 (by omega))).symm⟩ | exact ⟨((if_pos ⟨b5, b13, b20⟩).trans (if_pos (by omega))).symm, (if_pos ⟨b5, b13, b20, by omega⟩).symm⟩
    · skip
      refine lv_iload_n hx hb dX6_turn_16 rfl (lv_at hl 3 rfl) ?_
      refine xs_i (As := [.int m]) (rest := []) ⟨hx, hb, hml, hown, hts⟩ (c_X6_isMark l G m ) (va_cwS 1 hts gX6_turn_X6_isMark rfl rfl rfl (by decide +kernel) ⟨Nat.le_of_ble_eq_true rfl, Nat.le_of_ble_eq_true rfl⟩) hP hS rfl hl.1 rfl (Nat.le_of_ble_eq_true rfl) dX6_turn_17 ⟨Nat.zero_le _, Nat.zero_le _⟩ (fun r17 H locs hp17 hP hS => ?_)
      rw [show r17 = _ from hp17]
      refine xb_if_ne (tgt := 25) hx hb dX6_turn_20 rfl (fun b20 => ?_) (fun b20 => ?_)
      · skip
        refine lv_aload_n hx hb dX6_turn_25 rfl (lv_at hl 0 rfl) ?_
        refine va_get (D := G.1) (ci := 6) (v := .ref (ad 0)) (C := RX6) (T := TX6) (N := 29) hx hb hts hin6 hown hK.1 hP 0 rfl rfl 0 (by decide) (hts (.fieldLink RX6 7 "BackLensesModel" "st" "[I") (List.mem_of_getElem? (i := 1) rfl)) (fun _ h9 => h9) rfl dX6_turn_26 ?_
        refine lv_bipush (v := nI 16) hx hb dX6_turn_29 (by decide) ?_
        refine xn_iald hx hb hK hP 1 rfl (by omega) (by omega) dX6_turn_31 ?_
        refine xn_top (y := nI nc) (by exact hs16) ?_
        refine lv_bipush (v := nI 10) hx hb dX6_turn_32 (by decide) ?_
        refine xn_icmp_ne (tgt := 40) hx hb (by omega) (by omega) dX6_turn_34 rfl (fun b34 => ?_) (fun b34 => ?_)
        · skip
          refine lv_bipush (v := nI 17) hx hb dX6_turn_40 (by decide) ?_
          refine lv_iconst (v := nI 3) hx hb dX6_turn_42 (by decide) ?_
          refine lv_aload_n hx hb dX6_turn_43 rfl (lv_at hl 0 rfl) ?_
          refine va_get (D := G.1) (ci := 6) (v := .ref (ad 0)) (C := RX6) (T := TX6) (N := 29) hx hb hts hin6 hown hK.1 hP 0 rfl rfl 0 (by decide) (hts (.fieldLink RX6 7 "BackLensesModel" "st" "[I") (List.mem_of_getElem? (i := 1) rfl)) (fun _ h9 => h9) rfl dX6_turn_44 ?_
          refine lv_bipush (v := nI 16) hx hb dX6_turn_47 (by decide) ?_
          refine xn_iald hx hb hK hP 1 rfl (by omega) (by omega) dX6_turn_49 ?_
          refine xn_top (y := nI nc) (by exact hs16) ?_
          refine xn_imul hx hb dX6_turn_50 ?_
          refine xn_iadd hx hb dX6_turn_51 ?_
          refine lv_istore (lv' := [(4, .int (nI (17 + (3 * nc)))), (0, .ref ko), (1, .int d), (2, .int c), (3, .int m)]) hx hb dX6_turn_52 hl (by decide) rfl (fun ls hl => ?_)
          refine lv_aload_n hx hb dX6_turn_54 rfl (lv_at hl 1 rfl) ?_
          refine va_get (D := G.1) (ci := 6) (v := .ref (ad 0)) (C := RX6) (T := TX6) (N := 29) hx hb hts hin6 hown hK.1 hP 0 rfl rfl 0 (by decide) (hts (.fieldLink RX6 7 "BackLensesModel" "st" "[I") (List.mem_of_getElem? (i := 1) rfl)) (fun _ h9 => h9) rfl dX6_turn_55 ?_
          refine lv_iload hx hb dX6_turn_58 (lv_at hl 0 rfl) ?_
          refine lv_iload_n hx hb dX6_turn_60 rfl (lv_at hl 2 rfl) ?_
          refine xn_iast hx hb hK hP hD hS 1 rfl (by omega) (by omega) dX6_turn_61 (fun H locs hP hD hS => ?_)
          replace hP : xP G [oC ko 6 [.ref (ad 0), .ref (ad 1), .int (nI w), .int (nI h), .int (nI la), .ref (ad 2), .int (mv 0), .int (mv 1), .int (mv 2), .int (mv 3), .int (mv 4), .int (mv 5), .int (mv 6), .ref (ad 3), .int (nI tp), .int (mv 7), .int (mv 8), .int (mv 9), .int (mv 10), .int ft, .int (mv 11), .ref (ad 4), .ref (ad 5), .ref (ad 6), .ref (ad 7), .ref (ad 8), .ref (ad 9), .ref (ad 10), .int tr], iA G (ad 0) 255 (upd S (17 + (3 * nc)) d)] H := hP
          replace hD : va_D (va_A (w_X6_turn G ko ad w h la tp ft tr mv S) ss.heap.size) [oC ko 6 [.ref (ad 0), .ref (ad 1), .int (nI w), .int (nI h), .int (nI la), .ref (ad 2), .int (mv 0), .int (mv 1), .int (mv 2), .int (mv 3), .int (mv 4), .int (mv 5), .int (mv 6), .ref (ad 3), .int (nI tp), .int (mv 7), .int (mv 8), .int (mv 9), .int (mv 10), .int ft, .int (mv 11), .ref (ad 4), .ref (ad 5), .ref (ad 6), .ref (ad 7), .ref (ad 8), .ref (ad 9), .ref (ad 10), .int tr], iA G (ad 0) 255 (upd S (17 + (3 * nc)) d)] := hD
          refine lv_aload_n hx hb dX6_turn_62 rfl (lv_at hl 1 rfl) ?_
          refine va_get (D := G.1) (ci := 6) (v := .ref (ad 0)) (C := RX6) (T := TX6) (N := 29) hx hb hts hin6 hown hK.1 hP 0 rfl rfl 0 (by decide) (hts (.fieldLink RX6 7 "BackLensesModel" "st" "[I") (List.mem_of_getElem? (i := 1) rfl)) (fun _ h9 => h9) rfl dX6_turn_63 ?_
          refine lv_iload hx hb dX6_turn_66 (lv_at hl 0 rfl) ?_
          refine lv_iconst (v := nI 1) hx hb dX6_turn_68 (by decide) ?_
          refine xn_iadd hx hb dX6_turn_69 ?_
          refine lv_iload_n hx hb dX6_turn_70 rfl (lv_at hl 3 rfl) ?_
          refine xn_iast hx hb hK hP hD hS 1 rfl (by omega) (by omega) dX6_turn_71 (fun H locs hP hD hS => ?_)
          replace hP : xP G [oC ko 6 [.ref (ad 0), .ref (ad 1), .int (nI w), .int (nI h), .int (nI la), .ref (ad 2), .int (mv 0), .int (mv 1), .int (mv 2), .int (mv 3), .int (mv 4), .int (mv 5), .int (mv 6), .ref (ad 3), .int (nI tp), .int (mv 7), .int (mv 8), .int (mv 9), .int (mv 10), .int ft, .int (mv 11), .ref (ad 4), .ref (ad 5), .ref (ad 6), .ref (ad 7), .ref (ad 8), .ref (ad 9), .ref (ad 10), .int tr], iA G (ad 0) 255 (upd (upd S (17 + (3 * nc)) d) ((17 + (3 * nc)) + 1) c)] H := hP
          replace hD : va_D (va_A (w_X6_turn G ko ad w h la tp ft tr mv S) ss.heap.size) [oC ko 6 [.ref (ad 0), .ref (ad 1), .int (nI w), .int (nI h), .int (nI la), .ref (ad 2), .int (mv 0), .int (mv 1), .int (mv 2), .int (mv 3), .int (mv 4), .int (mv 5), .int (mv 6), .ref (ad 3), .int (nI tp), .int (mv 7), .int (mv 8), .int (mv 9), .int (mv 10), .int ft, .int (mv 11), .ref (ad 4), .ref (ad 5), .ref (ad 6), .ref (ad 7), .ref (ad 8), .ref (ad 9), .ref (ad 10), .int tr], iA G (ad 0) 255 (upd (upd S (17 + (3 * nc)) d) ((17 + (3 * nc)) + 1) c)] := hD
          refine lv_aload_n hx hb dX6_turn_72 rfl (lv_at hl 1 rfl) ?_
          refine va_get (D := G.1) (ci := 6) (v := .ref (ad 0)) (C := RX6) (T := TX6) (N := 29) hx hb hts hin6 hown hK.1 hP 0 rfl rfl 0 (by decide) (hts (.fieldLink RX6 7 "BackLensesModel" "st" "[I") (List.mem_of_getElem? (i := 1) rfl)) (fun _ h9 => h9) rfl dX6_turn_73 ?_
          refine lv_iload hx hb dX6_turn_76 (lv_at hl 0 rfl) ?_
          refine lv_iconst (v := nI 2) hx hb dX6_turn_78 (by decide) ?_
          refine xn_iadd hx hb dX6_turn_79 ?_
          refine lv_iload_n hx hb dX6_turn_80 rfl (lv_at hl 4 rfl) ?_
          refine xn_iast hx hb hK hP hD hS 1 rfl (by omega) (by omega) dX6_turn_81 (fun H locs hP hD hS => ?_)
          replace hP : xP G [oC ko 6 [.ref (ad 0), .ref (ad 1), .int (nI w), .int (nI h), .int (nI la), .ref (ad 2), .int (mv 0), .int (mv 1), .int (mv 2), .int (mv 3), .int (mv 4), .int (mv 5), .int (mv 6), .ref (ad 3), .int (nI tp), .int (mv 7), .int (mv 8), .int (mv 9), .int (mv 10), .int ft, .int (mv 11), .ref (ad 4), .ref (ad 5), .ref (ad 6), .ref (ad 7), .ref (ad 8), .ref (ad 9), .ref (ad 10), .int tr], iA G (ad 0) 255 (upd (upd (upd S (17 + (3 * nc)) d) ((17 + (3 * nc)) + 1) c) ((17 + (3 * nc)) + 2) m)] H := hP
          replace hD : va_D (va_A (w_X6_turn G ko ad w h la tp ft tr mv S) ss.heap.size) [oC ko 6 [.ref (ad 0), .ref (ad 1), .int (nI w), .int (nI h), .int (nI la), .ref (ad 2), .int (mv 0), .int (mv 1), .int (mv 2), .int (mv 3), .int (mv 4), .int (mv 5), .int (mv 6), .ref (ad 3), .int (nI tp), .int (mv 7), .int (mv 8), .int (mv 9), .int (mv 10), .int ft, .int (mv 11), .ref (ad 4), .ref (ad 5), .ref (ad 6), .ref (ad 7), .ref (ad 8), .ref (ad 9), .ref (ad 10), .int tr], iA G (ad 0) 255 (upd (upd (upd S (17 + (3 * nc)) d) ((17 + (3 * nc)) + 1) c) ((17 + (3 * nc)) + 2) m)] := hD
          refine lv_aload_n hx hb dX6_turn_82 rfl (lv_at hl 1 rfl) ?_
          refine va_get (D := G.1) (ci := 6) (v := .ref (ad 0)) (C := RX6) (T := TX6) (N := 29) hx hb hts hin6 hown hK.1 hP 0 rfl rfl 0 (by decide) (hts (.fieldLink RX6 7 "BackLensesModel" "st" "[I") (List.mem_of_getElem? (i := 1) rfl)) (fun _ h9 => h9) rfl dX6_turn_83 ?_
          refine lv_bipush (v := nI 16) hx hb dX6_turn_86 (by decide) ?_
          refine lv_dup2_11 hx hb dX6_turn_88 rfl rfl ?_
          refine xn_iald hx hb hK hP 1 rfl (by omega) (by omega) dX6_turn_89 ?_
          refine xn_top (y := nI nc) (by rw [upd_ne (by omega), upd_ne (by omega), upd_ne (by omega)]; exact hs16) ?_
          refine lv_iconst (v := nI 1) hx hb dX6_turn_90 (by decide) ?_
          refine xn_iadd hx hb dX6_turn_91 ?_
          refine xn_iast hx hb hK hP hD hS 1 rfl (by omega) (by omega) dX6_turn_92 (fun H locs hP hD hS => ?_)
          replace hP : xP G [oC ko 6 [.ref (ad 0), .ref (ad 1), .int (nI w), .int (nI h), .int (nI la), .ref (ad 2), .int (mv 0), .int (mv 1), .int (mv 2), .int (mv 3), .int (mv 4), .int (mv 5), .int (mv 6), .ref (ad 3), .int (nI tp), .int (mv 7), .int (mv 8), .int (mv 9), .int (mv 10), .int ft, .int (mv 11), .ref (ad 4), .ref (ad 5), .ref (ad 6), .ref (ad 7), .ref (ad 8), .ref (ad 9), .ref (ad 10), .int tr], iA G (ad 0) 255 (upd (upd (upd (upd S (17 + (3 * nc)) d) ((17 + (3 * nc)) + 1) c) ((17 + (3 * nc)) + 2) m) 16 (nI (nc + 1)))] H := hP
          replace hD : va_D (va_A (w_X6_turn G ko ad w h la tp ft tr mv S) ss.heap.size) [oC ko 6 [.ref (ad 0), .ref (ad 1), .int (nI w), .int (nI h), .int (nI la), .ref (ad 2), .int (mv 0), .int (mv 1), .int (mv 2), .int (mv 3), .int (mv 4), .int (mv 5), .int (mv 6), .ref (ad 3), .int (nI tp), .int (mv 7), .int (mv 8), .int (mv 9), .int (mv 10), .int ft, .int (mv 11), .ref (ad 4), .ref (ad 5), .ref (ad 6), .ref (ad 7), .ref (ad 8), .ref (ad 9), .ref (ad 10), .int tr], iA G (ad 0) 255 (upd (upd (upd (upd S (17 + (3 * nc)) d) ((17 + (3 * nc)) + 1) c) ((17 + (3 * nc)) + 2) m) 16 (nI (nc + 1)))] := hD
          refine lv_aload_n hx hb dX6_turn_93 rfl (lv_at hl 1 rfl) ?_
          refine va_get (D := G.1) (ci := 6) (v := .ref (ad 0)) (C := RX6) (T := TX6) (N := 29) hx hb hts hin6 hown hK.1 hP 0 rfl rfl 0 (by decide) (hts (.fieldLink RX6 7 "BackLensesModel" "st" "[I") (List.mem_of_getElem? (i := 1) rfl)) (fun _ h9 => h9) rfl dX6_turn_94 ?_
          refine lv_bipush (v := nI 16) hx hb dX6_turn_97 (by decide) ?_
          refine xn_iald hx hb hK hP 1 rfl (by omega) (by omega) dX6_turn_99 ?_
          refine xn_top (y := nI (nc + 1)) (by exact upd_eq) ?_
          have hP := hP.sub (ws' := [oC ko 6 [.ref (ad 0), .ref (ad 1), .int (nI w), .int (nI h), .int (nI la), .ref (ad 2), .int (mv 0), .int (mv 1), .int (mv 2), .int (mv 3), .int (mv 4), .int (mv 5), .int (mv 6), .ref (ad 3), .int (nI tp), .int (mv 7), .int (mv 8), .int (mv 9), .int (mv 10), .int ft, .int (mv 11), .ref (ad 4), .ref (ad 5), .ref (ad 6), .ref (ad 7), .ref (ad 8), .ref (ad 9), .ref (ad 10), .int tr], iA G (ad 0) 255 (upd (upd (upd (upd S (17 + (3 * nc)) d) ((17 + (3 * nc)) + 1) c) ((17 + (3 * nc)) + 2) m) 16 (nI (nc + 1)))]) [0, 1] rfl
          have hD := hD.sub (ws' := [oC ko 6 [.ref (ad 0), .ref (ad 1), .int (nI w), .int (nI h), .int (nI la), .ref (ad 2), .int (mv 0), .int (mv 1), .int (mv 2), .int (mv 3), .int (mv 4), .int (mv 5), .int (mv 6), .ref (ad 3), .int (nI tp), .int (mv 7), .int (mv 8), .int (mv 9), .int (mv 10), .int ft, .int (mv 11), .ref (ad 4), .ref (ad 5), .ref (ad 6), .ref (ad 7), .ref (ad 8), .ref (ad 9), .ref (ad 10), .int tr], iA G (ad 0) 255 (upd (upd (upd (upd S (17 + (3 * nc)) d) ((17 + (3 * nc)) + 1) c) ((17 + (3 * nc)) + 2) m) 16 (nI (nc + 1)))]) [0, 1] (by decide) rfl
          refine W.iret (v := nI (nc + 1)) hx hb hr (fun t ht hW => ⟨⟨nI (nc + 1), (upd (upd (upd (upd S (17 + (3 * nc)) d) ((17 + (3 * nc)) + 1) c) ((17 + (3 * nc)) + 2) m) 16 (nI (nc + 1))), rfl, ?_, by rw [ht]; exact hP, hD⟩, hS.F ht⟩) hS.2.2 dX6_turn_100
          first | exact ⟨(if_neg (fun q => b5 q.1)).symm, (if_neg (fun q => b5 q.1)).symm⟩ | exact ⟨(if_neg (fun q => b13 q.2.1)).symm, (if_neg (fun q => b13 q.2.1)).symm⟩ | exact ⟨(if_neg (fun q => b20 q.2.2)).symm, (if_neg (fun q => b20 q.2.2.1)).symm⟩ | exact ⟨((if_pos ⟨b5, b13, b20⟩).trans (if_neg (by omega))).symm, (if_neg (fun q => absurd q.2.2.2 (by omega))).symm⟩ | exact ⟨((if_pos ⟨b5, b13, b20⟩).trans (if_pos (by omega))).symm, (if_pos ⟨b5, b13, b20, by omega⟩).symm⟩
        · skip
          refine lv_bipush (v := (-3)) hx hb dX6_turn_37 (by decide) ?_
          have hP := hP.sub (ws' := [oC ko 6 [.ref (ad 0), .ref (ad 1), .int (nI w), .int (nI h), .int (nI la), .ref (ad 2), .int (mv 0), .int (mv 1), .int (mv 2), .int (mv 3), .int (mv 4), .int (mv 5), .int (mv 6), .ref (ad 3), .int (nI tp), .int (mv 7), .int (mv 8), .int (mv 9), .int (mv 10), .int ft, .int (mv 11), .ref (ad 4), .ref (ad 5), .ref (ad 6), .ref (ad 7), .ref (ad 8), .ref (ad 9), .ref (ad 10), .int tr], iA G (ad 0) 255 S]) [0, 1] rfl
          have hD := hD.sub (ws' := [oC ko 6 [.ref (ad 0), .ref (ad 1), .int (nI w), .int (nI h), .int (nI la), .ref (ad 2), .int (mv 0), .int (mv 1), .int (mv 2), .int (mv 3), .int (mv 4), .int (mv 5), .int (mv 6), .ref (ad 3), .int (nI tp), .int (mv 7), .int (mv 8), .int (mv 9), .int (mv 10), .int ft, .int (mv 11), .ref (ad 4), .ref (ad 5), .ref (ad 6), .ref (ad 7), .ref (ad 8), .ref (ad 9), .ref (ad 10), .int tr], iA G (ad 0) 255 S]) [0, 1] (by decide) rfl
          refine W.iret (v := (-3)) hx hb hr (fun t ht hW => ⟨⟨(-3), (S), rfl, ?_, by rw [ht]; exact hP, hD⟩, hS.F ht⟩) hS.2.2 dX6_turn_39
          first | exact ⟨(if_neg (fun q => b5 q.1)).symm, (if_neg (fun q => b5 q.1)).symm⟩ | exact ⟨(if_neg (fun q => b13 q.2.1)).symm, (if_neg (fun q => b13 q.2.1)).symm⟩ | exact ⟨(if_neg (fun q => b20 q.2.2)).symm, (if_neg (fun q => b20 q.2.2.1)).symm⟩ | exact ⟨((if_pos ⟨b5, b13, b20⟩).trans (if_neg (by omega))).symm, (if_neg (fun q => absurd q.2.2.2 (by omega))).symm⟩ | exact ⟨((if_pos ⟨b5, b13, b20⟩).trans (if_pos (by omega))).symm, (if_pos ⟨b5, b13, b20, by omega⟩).symm⟩
      · skip
        refine lv_iconst (v := (-1)) hx hb dX6_turn_23 (by decide) ?_
        have hP := hP.sub (ws' := [oC ko 6 [.ref (ad 0), .ref (ad 1), .int (nI w), .int (nI h), .int (nI la), .ref (ad 2), .int (mv 0), .int (mv 1), .int (mv 2), .int (mv 3), .int (mv 4), .int (mv 5), .int (mv 6), .ref (ad 3), .int (nI tp), .int (mv 7), .int (mv 8), .int (mv 9), .int (mv 10), .int ft, .int (mv 11), .ref (ad 4), .ref (ad 5), .ref (ad 6), .ref (ad 7), .ref (ad 8), .ref (ad 9), .ref (ad 10), .int tr], iA G (ad 0) 255 S]) [0, 1] rfl
        have hD := hD.sub (ws' := [oC ko 6 [.ref (ad 0), .ref (ad 1), .int (nI w), .int (nI h), .int (nI la), .ref (ad 2), .int (mv 0), .int (mv 1), .int (mv 2), .int (mv 3), .int (mv 4), .int (mv 5), .int (mv 6), .ref (ad 3), .int (nI tp), .int (mv 7), .int (mv 8), .int (mv 9), .int (mv 10), .int ft, .int (mv 11), .ref (ad 4), .ref (ad 5), .ref (ad 6), .ref (ad 7), .ref (ad 8), .ref (ad 9), .ref (ad 10), .int tr], iA G (ad 0) 255 S]) [0, 1] (by decide) rfl
        refine W.iret (v := (-1)) hx hb hr (fun t ht hW => ⟨⟨(-1), (S), rfl, ?_, by rw [ht]; exact hP, hD⟩, hS.F ht⟩) hS.2.2 dX6_turn_24
        first | exact ⟨(if_neg (fun q => b5 q.1)).symm, (if_neg (fun q => b5 q.1)).symm⟩ | exact ⟨(if_neg (fun q => b13 q.2.1)).symm, (if_neg (fun q => b13 q.2.1)).symm⟩ | exact ⟨(if_neg (fun q => b20 q.2.2)).symm, (if_neg (fun q => b20 q.2.2.1)).symm⟩ | exact ⟨((if_pos ⟨b5, b13, b20⟩).trans (if_neg (by omega))).symm, (if_neg (fun q => absurd q.2.2.2 (by omega))).symm⟩ | exact ⟨((if_pos ⟨b5, b13, b20⟩).trans (if_pos (by omega))).symm, (if_pos ⟨b5, b13, b20, by omega⟩).symm⟩

abbrev w_X6_show (G : XG) (ko : Nat) (ad : Nat → Nat) (w h la tp : Nat) (ft tr : Int32) (mv : Nat → Int32) (S : Nat → Int32) : va_W := [oC ko 6 [.ref (ad 0), .ref (ad 1), .int (nI w), .int (nI h), .int (nI la), .ref (ad 2), .int (mv 0), .int (mv 1), .int (mv 2), .int (mv 3), .int (mv 4), .int (mv 5), .int (mv 6), .ref (ad 3), .int (nI tp), .int (mv 7), .int (mv 8), .int (mv 9), .int (mv 10), .int ft, .int (mv 11), .ref (ad 4), .ref (ad 5), .ref (ad 6), .ref (ad 7), .ref (ad 8), .ref (ad 9), .ref (ad 10), .int tr], iA G (ad 0) 255 S]
abbrev Q_X6_show (G : XG) (sz : Nat) (ko : Nat) (ad : Nat → Nat) (w h la tp : Nat) (ft tr : Int32) (mv : Nat → Int32) (S : Nat → Int32) (ns : Nat) (x c m : Int32) : Array Value → State → Outcome → State → Prop := (va_Qi (fun (r : Int32) (u : (Nat → Int32)) => r = (if (inR x (w * h) ∧ inR c (w * h) ∧ (m = (-4) ∨ inR m 6)) then (if ns < 8 then nI (ns + 1) else (-3)) else (-1)) ∧ u = (if (inR x (w * h) ∧ inR c (w * h) ∧ (m = (-4) ∨ inR m 6) ∧ ns < 8) then add3 S (61 + 3 * ns) 60 x c m (ns + 1) else S)) (xWb G sz (w_X6_show G ko ad w h la tp ft tr mv S) (fun u : (Nat → Int32) => [oC ko 6 [.ref (ad 0), .ref (ad 1), .int (nI w), .int (nI h), .int (nI la), .ref (ad 2), .int (mv 0), .int (mv 1), .int (mv 2), .int (mv 3), .int (mv 4), .int (mv 5), .int (mv 6), .ref (ad 3), .int (nI tp), .int (mv 7), .int (mv 8), .int (mv 9), .int (mv 10), .int ft, .int (mv 11), .ref (ad 4), .ref (ad 5), .ref (ad 6), .ref (ad 7), .ref (ad 8), .ref (ad 9), .ref (ad 10), .int tr], iA G (ad 0) 255 u])) (va_A (w_X6_show G ko ad w h la tp ft tr mv S) sz))
set_option maxHeartbeats 4000000 in
set_option maxRecDepth 100000 in
theorem c_X6_show (l : Launch) (G : XG) (sz : Nat) (ko : Nat) (ad : Nat → Nat) (w h la tp : Nat) (ft tr : Int32) (mv : Nat → Int32) (S : Nat → Int32) (ns : Nat) (x c m : Int32) (hw : 1 ≤ w) (hwb : w ≤ 16) (hhb : h ≤ 16) (hwh1 : 1 ≤ w * h) (hwh : w * h ≤ 16) (hs60 : S 60 = nI ns) (hns : ns ≤ 8) : Met l yX6_show wsX6_show ({ frames := 2, cells := 0, slots := 0, locals := 46 } : Room) (va_Pc [.ref ko, .int x, .int c, .int m] (xWp G sz (w_X6_show G ko ad w h la tp ft tr mv S))) (Q_X6_show G sz ko ad w h la tp ft tr mv S ns x c m) 0 0 (va_A (w_X6_show G ko ad w h la tp ft tr mv S) sz) := by
  refine Met.ofW (cc := cX6_show) (maxL := 5) (ret := (some .int)) (by decide) rfl ?_
  intro pp ee ss mm aa below mt cd s₁ BB hml hv
  obtain ⟨rfl, hsz, hP, hK, hD0⟩ := hv
  have hx := BB.exec
  have hb := BB.bytes
  have hr := BB.returns
  have hts := atoms_spec (ws := wsX6_show) BB.pre
  have hown : ss.vm.findClass RX6 = some mm.cls := findClass_of_methodNamed BB.named
  have hlocks := BB.notSynchronized
  subst hsz
  have hD := hD0.self (sz := ss.heap.size)
  have hA : ∀ q : Nat, ss.heap.size ≤ q → va_A (w_X6_show G ko ad w h la tp ft tr mv S) ss.heap.size q := fun q h => Or.inr h
  have hS : va_S (va_A (w_X6_show G ko ad w h la tp ft tr mv S) ss.heap.size) ss.heap ss.heap [] := va_S.rf
  replace hD : va_D (va_A (w_X6_show G ko ad w h la tp ft tr mv S) ss.heap.size) [oC ko 6 [.ref (ad 0), .ref (ad 1), .int (nI w), .int (nI h), .int (nI la), .ref (ad 2), .int (mv 0), .int (mv 1), .int (mv 2), .int (mv 3), .int (mv 4), .int (mv 5), .int (mv 6), .ref (ad 3), .int (nI tp), .int (mv 7), .int (mv 8), .int (mv 9), .int (mv 10), .int ft, .int (mv 11), .ref (ad 4), .ref (ad 5), .ref (ad 6), .ref (ad 7), .ref (ad 8), .ref (ad 9), .ref (ad 10), .int tr], iA G (ad 0) 255 S] := hD
  replace hP : xP G [oC ko 6 [.ref (ad 0), .ref (ad 1), .int (nI w), .int (nI h), .int (nI la), .ref (ad 2), .int (mv 0), .int (mv 1), .int (mv 2), .int (mv 3), .int (mv 4), .int (mv 5), .int (mv 6), .ref (ad 3), .int (nI tp), .int (mv 7), .int (mv 8), .int (mv 9), .int (mv 10), .int ft, .int (mv 11), .ref (ad 4), .ref (ad 5), .ref (ad 6), .ref (ad 7), .ref (ad 8), .ref (ad 9), .ref (ad 10), .int tr], iA G (ad 0) 255 S] ss.heap := hP
  have hin6 : ∀ w ∈ u_ws RX6 TX6 29, w ∈ wsX6_show := fun w h => List.mem_cons_of_mem _ (List.mem_append_right _ h)
  have hl := lv_entry ([.ref ko, .int x, .int c, .int m]) (n := 5) (Nat.le_of_ble_eq_true rfl)
  rw [lg_entry_eq]
  generalize (lg_sl ([.ref ko, .int x, .int c, .int m]) ++ List.replicate (5 - (lg_sl ([.ref ko, .int x, .int c, .int m])).length) Slot.unset).toArray = ls at hl ⊢
  replace hl : lv_has ls 5 [(0, .ref ko), (1, .int x), (2, .int c), (3, .int m)] := hl
  refine lv_aload_n hx hb dX6_show_0 rfl (lv_at hl 0 rfl) ?_
  refine lv_iload_n hx hb dX6_show_1 rfl (lv_at hl 1 rfl) ?_
  refine xr_i (As := [.int x]) (rest := []) ⟨hx, hb, hml, hown, hts⟩ (c_X6_isCell l G ko ad w h la tp ft tr mv x (by first | assumption | omega) (by first | assumption | omega)) (cwV 1 hts gX6_show_X6_isCell rfl rfl rfl (by decide +kernel) ⟨Nat.le_of_ble_eq_true rfl, Nat.le_of_ble_eq_true rfl⟩) hK hP hS [0] rfl rfl rfl rfl hl.1 rfl (Nat.le_of_ble_eq_true rfl) dX6_show_2 ⟨Nat.zero_le _, Nat.zero_le _⟩ (fun r2 H locs hp2 hP hS => ?_)
  rw [show r2 = _ from hp2]
  refine xb_if_eq (tgt := 29) hx hb dX6_show_5 rfl (fun b5 => ?_) (fun b5 => ?_)
  · skip
    refine lv_iconst (v := (-1)) hx hb dX6_show_29 (by decide) ?_
    have hP := hP.sub (ws' := [oC ko 6 [.ref (ad 0), .ref (ad 1), .int (nI w), .int (nI h), .int (nI la), .ref (ad 2), .int (mv 0), .int (mv 1), .int (mv 2), .int (mv 3), .int (mv 4), .int (mv 5), .int (mv 6), .ref (ad 3), .int (nI tp), .int (mv 7), .int (mv 8), .int (mv 9), .int (mv 10), .int ft, .int (mv 11), .ref (ad 4), .ref (ad 5), .ref (ad 6), .ref (ad 7), .ref (ad 8), .ref (ad 9), .ref (ad 10), .int tr], iA G (ad 0) 255 S]) [0, 1] rfl
    have hD := hD.sub (ws' := [oC ko 6 [.ref (ad 0), .ref (ad 1), .int (nI w), .int (nI h), .int (nI la), .ref (ad 2), .int (mv 0), .int (mv 1), .int (mv 2), .int (mv 3), .int (mv 4), .int (mv 5), .int (mv 6), .ref (ad 3), .int (nI tp), .int (mv 7), .int (mv 8), .int (mv 9), .int (mv 10), .int ft, .int (mv 11), .ref (ad 4), .ref (ad 5), .ref (ad 6), .ref (ad 7), .ref (ad 8), .ref (ad 9), .ref (ad 10), .int tr], iA G (ad 0) 255 S]) [0, 1] (by decide) rfl
    refine W.iret (v := (-1)) hx hb hr (fun t ht hW => ⟨⟨(-1), (S), rfl, ?_, by rw [ht]; exact hP, hD⟩, hS.F ht⟩) hS.2.2 dX6_show_30
    first | exact ⟨(if_neg (fun q => b5 q.1)).symm, (if_neg (fun q => b5 q.1)).symm⟩ | exact ⟨(if_neg (fun q => b13 q.2.1)).symm, (if_neg (fun q => b13 q.2.1)).symm⟩ | exact ⟨(if_neg (fun q => (q.2.2).elim b19 b26)).symm, (if_neg (fun q => (q.2.2.1).elim b19 b26)).symm⟩ | exact ⟨((if_pos ⟨b5, b13, hmm⟩).trans (if_neg (by omega))).symm, (if_neg (fun q => absurd q.2.2.2 (by omega))).symm⟩ | exact ⟨((if_pos ⟨b5, b13, hmm⟩).trans (if_pos (by omega))).symm, (if_pos ⟨b5, b13, hmm, by omega⟩).symm⟩
  · skip
    refine lv_aload_n hx hb dX6_show_8 rfl (lv_at hl 0 rfl) ?_
    refine lv_iload_n hx hb dX6_show_9 rfl (lv_at hl 2 rfl) ?_
    refine xr_i (As := [.int c]) (rest := []) ⟨hx, hb, hml, hown, hts⟩ (c_X6_isCell l G ko ad w h la tp ft tr mv c (by first | assumption | omega) (by first | assumption | omega)) (cwV 1 hts gX6_show_X6_isCell rfl rfl rfl (by decide +kernel) ⟨Nat.le_of_ble_eq_true rfl, Nat.le_of_ble_eq_true rfl⟩) hK hP hS [0] rfl rfl rfl rfl hl.1 rfl (Nat.le_of_ble_eq_true rfl) dX6_show_10 ⟨Nat.zero_le _, Nat.zero_le _⟩ (fun r10 H locs hp10 hP hS => ?_)
    rw [show r10 = _ from hp10]
    refine xb_if_eq (tgt := 29) hx hb dX6_show_13 rfl (fun b13 => ?_) (fun b13 => ?_)
    · skip
      refine lv_iconst (v := (-1)) hx hb dX6_show_29 (by decide) ?_
      have hP := hP.sub (ws' := [oC ko 6 [.ref (ad 0), .ref (ad 1), .int (nI w), .int (nI h), .int (nI la), .ref (ad 2), .int (mv 0), .int (mv 1), .int (mv 2), .int (mv 3), .int (mv 4), .int (mv 5), .int (mv 6), .ref (ad 3), .int (nI tp), .int (mv 7), .int (mv 8), .int (mv 9), .int (mv 10), .int ft, .int (mv 11), .ref (ad 4), .ref (ad 5), .ref (ad 6), .ref (ad 7), .ref (ad 8), .ref (ad 9), .ref (ad 10), .int tr], iA G (ad 0) 255 S]) [0, 1] rfl
      have hD := hD.sub (ws' := [oC ko 6 [.ref (ad 0), .ref (ad 1), .int (nI w), .int (nI h), .int (nI la), .ref (ad 2), .int (mv 0), .int (mv 1), .int (mv 2), .int (mv 3), .int (mv 4), .int (mv 5), .int (mv 6), .ref (ad 3), .int (nI tp), .int (mv 7), .int (mv 8), .int (mv 9), .int (mv 10), .int ft, .int (mv 11), .ref (ad 4), .ref (ad 5), .ref (ad 6), .ref (ad 7), .ref (ad 8), .ref (ad 9), .ref (ad 10), .int tr], iA G (ad 0) 255 S]) [0, 1] (by decide) rfl
      refine W.iret (v := (-1)) hx hb hr (fun t ht hW => ⟨⟨(-1), (S), rfl, ?_, by rw [ht]; exact hP, hD⟩, hS.F ht⟩) hS.2.2 dX6_show_30
      first | exact ⟨(if_neg (fun q => b5 q.1)).symm, (if_neg (fun q => b5 q.1)).symm⟩ | exact ⟨(if_neg (fun q => b13 q.2.1)).symm, (if_neg (fun q => b13 q.2.1)).symm⟩ | exact ⟨(if_neg (fun q => (q.2.2).elim b19 b26)).symm, (if_neg (fun q => (q.2.2.1).elim b19 b26)).symm⟩ | exact ⟨((if_pos ⟨b5, b13, hmm⟩).trans (if_neg (by omega))).symm, (if_neg (fun q => absurd q.2.2.2 (by omega))).symm⟩ | exact ⟨((if_pos ⟨b5, b13, hmm⟩).trans (if_pos (by omega))).symm, (if_pos ⟨b5, b13, hmm, by omega⟩).symm⟩
    · skip
      refine lv_iload_n hx hb dX6_show_16 rfl (lv_at hl 3 rfl) ?_
      refine lv_bipush (v := (-4)) hx hb dX6_show_17 (by decide) ?_
      refine lv_icmp_eq (tgt := 31) hx hb dX6_show_19 rfl (fun b19 => ?_) (fun b19 => ?_)
      · skip
        have hmm : m = (-4) ∨ inR m 6 := (by first | exact Or.inl b19 | exact Or.inr b26)
        refine lv_aload_n hx hb dX6_show_31 rfl (lv_at hl 0 rfl) ?_
        refine va_get (D := G.1) (ci := 6) (v := .ref (ad 0)) (C := RX6) (T := TX6) (N := 29) hx hb hts hin6 hown hK.1 hP 0 rfl rfl 0 (by decide) (hts (.fieldLink RX6 7 "BackLensesModel" "st" "[I") (List.mem_of_getElem? (i := 1) rfl)) (fun _ h9 => h9) rfl dX6_show_32 ?_
        refine lv_bipush (v := nI 60) hx hb dX6_show_35 (by decide) ?_
        refine xn_iald hx hb hK hP 1 rfl (by omega) (by omega) dX6_show_37 ?_
        refine xn_top (y := nI ns) (by exact hs60) ?_
        refine lv_bipush (v := nI 8) hx hb dX6_show_38 (by decide) ?_
        refine xn_icmp_ne (tgt := 46) hx hb (by omega) (by omega) dX6_show_40 rfl (fun b40 => ?_) (fun b40 => ?_)
        · skip
          refine lv_bipush (v := nI 61) hx hb dX6_show_46 (by decide) ?_
          refine lv_iconst (v := nI 3) hx hb dX6_show_48 (by decide) ?_
          refine lv_aload_n hx hb dX6_show_49 rfl (lv_at hl 0 rfl) ?_
          refine va_get (D := G.1) (ci := 6) (v := .ref (ad 0)) (C := RX6) (T := TX6) (N := 29) hx hb hts hin6 hown hK.1 hP 0 rfl rfl 0 (by decide) (hts (.fieldLink RX6 7 "BackLensesModel" "st" "[I") (List.mem_of_getElem? (i := 1) rfl)) (fun _ h9 => h9) rfl dX6_show_50 ?_
          refine lv_bipush (v := nI 60) hx hb dX6_show_53 (by decide) ?_
          refine xn_iald hx hb hK hP 1 rfl (by omega) (by omega) dX6_show_55 ?_
          refine xn_top (y := nI ns) (by exact hs60) ?_
          refine xn_imul hx hb dX6_show_56 ?_
          refine xn_iadd hx hb dX6_show_57 ?_
          refine lv_istore (lv' := [(4, .int (nI (61 + (3 * ns)))), (0, .ref ko), (1, .int x), (2, .int c), (3, .int m)]) hx hb dX6_show_58 hl (by decide) rfl (fun ls hl => ?_)
          refine lv_aload_n hx hb dX6_show_60 rfl (lv_at hl 1 rfl) ?_
          refine va_get (D := G.1) (ci := 6) (v := .ref (ad 0)) (C := RX6) (T := TX6) (N := 29) hx hb hts hin6 hown hK.1 hP 0 rfl rfl 0 (by decide) (hts (.fieldLink RX6 7 "BackLensesModel" "st" "[I") (List.mem_of_getElem? (i := 1) rfl)) (fun _ h9 => h9) rfl dX6_show_61 ?_
          refine lv_iload hx hb dX6_show_64 (lv_at hl 0 rfl) ?_
          refine lv_iload_n hx hb dX6_show_66 rfl (lv_at hl 2 rfl) ?_
          refine xn_iast hx hb hK hP hD hS 1 rfl (by omega) (by omega) dX6_show_67 (fun H locs hP hD hS => ?_)
          replace hP : xP G [oC ko 6 [.ref (ad 0), .ref (ad 1), .int (nI w), .int (nI h), .int (nI la), .ref (ad 2), .int (mv 0), .int (mv 1), .int (mv 2), .int (mv 3), .int (mv 4), .int (mv 5), .int (mv 6), .ref (ad 3), .int (nI tp), .int (mv 7), .int (mv 8), .int (mv 9), .int (mv 10), .int ft, .int (mv 11), .ref (ad 4), .ref (ad 5), .ref (ad 6), .ref (ad 7), .ref (ad 8), .ref (ad 9), .ref (ad 10), .int tr], iA G (ad 0) 255 (upd S (61 + (3 * ns)) x)] H := hP
          replace hD : va_D (va_A (w_X6_show G ko ad w h la tp ft tr mv S) ss.heap.size) [oC ko 6 [.ref (ad 0), .ref (ad 1), .int (nI w), .int (nI h), .int (nI la), .ref (ad 2), .int (mv 0), .int (mv 1), .int (mv 2), .int (mv 3), .int (mv 4), .int (mv 5), .int (mv 6), .ref (ad 3), .int (nI tp), .int (mv 7), .int (mv 8), .int (mv 9), .int (mv 10), .int ft, .int (mv 11), .ref (ad 4), .ref (ad 5), .ref (ad 6), .ref (ad 7), .ref (ad 8), .ref (ad 9), .ref (ad 10), .int tr], iA G (ad 0) 255 (upd S (61 + (3 * ns)) x)] := hD
          refine lv_aload_n hx hb dX6_show_68 rfl (lv_at hl 1 rfl) ?_
          refine va_get (D := G.1) (ci := 6) (v := .ref (ad 0)) (C := RX6) (T := TX6) (N := 29) hx hb hts hin6 hown hK.1 hP 0 rfl rfl 0 (by decide) (hts (.fieldLink RX6 7 "BackLensesModel" "st" "[I") (List.mem_of_getElem? (i := 1) rfl)) (fun _ h9 => h9) rfl dX6_show_69 ?_
          refine lv_iload hx hb dX6_show_72 (lv_at hl 0 rfl) ?_
          refine lv_iconst (v := nI 1) hx hb dX6_show_74 (by decide) ?_
          refine xn_iadd hx hb dX6_show_75 ?_
          refine lv_iload_n hx hb dX6_show_76 rfl (lv_at hl 3 rfl) ?_
          refine xn_iast hx hb hK hP hD hS 1 rfl (by omega) (by omega) dX6_show_77 (fun H locs hP hD hS => ?_)
          replace hP : xP G [oC ko 6 [.ref (ad 0), .ref (ad 1), .int (nI w), .int (nI h), .int (nI la), .ref (ad 2), .int (mv 0), .int (mv 1), .int (mv 2), .int (mv 3), .int (mv 4), .int (mv 5), .int (mv 6), .ref (ad 3), .int (nI tp), .int (mv 7), .int (mv 8), .int (mv 9), .int (mv 10), .int ft, .int (mv 11), .ref (ad 4), .ref (ad 5), .ref (ad 6), .ref (ad 7), .ref (ad 8), .ref (ad 9), .ref (ad 10), .int tr], iA G (ad 0) 255 (upd (upd S (61 + (3 * ns)) x) ((61 + (3 * ns)) + 1) c)] H := hP
          replace hD : va_D (va_A (w_X6_show G ko ad w h la tp ft tr mv S) ss.heap.size) [oC ko 6 [.ref (ad 0), .ref (ad 1), .int (nI w), .int (nI h), .int (nI la), .ref (ad 2), .int (mv 0), .int (mv 1), .int (mv 2), .int (mv 3), .int (mv 4), .int (mv 5), .int (mv 6), .ref (ad 3), .int (nI tp), .int (mv 7), .int (mv 8), .int (mv 9), .int (mv 10), .int ft, .int (mv 11), .ref (ad 4), .ref (ad 5), .ref (ad 6), .ref (ad 7), .ref (ad 8), .ref (ad 9), .ref (ad 10), .int tr], iA G (ad 0) 255 (upd (upd S (61 + (3 * ns)) x) ((61 + (3 * ns)) + 1) c)] := hD
          refine lv_aload_n hx hb dX6_show_78 rfl (lv_at hl 1 rfl) ?_
          refine va_get (D := G.1) (ci := 6) (v := .ref (ad 0)) (C := RX6) (T := TX6) (N := 29) hx hb hts hin6 hown hK.1 hP 0 rfl rfl 0 (by decide) (hts (.fieldLink RX6 7 "BackLensesModel" "st" "[I") (List.mem_of_getElem? (i := 1) rfl)) (fun _ h9 => h9) rfl dX6_show_79 ?_
          refine lv_iload hx hb dX6_show_82 (lv_at hl 0 rfl) ?_
          refine lv_iconst (v := nI 2) hx hb dX6_show_84 (by decide) ?_
          refine xn_iadd hx hb dX6_show_85 ?_
          refine lv_iload_n hx hb dX6_show_86 rfl (lv_at hl 4 rfl) ?_
          refine xn_iast hx hb hK hP hD hS 1 rfl (by omega) (by omega) dX6_show_87 (fun H locs hP hD hS => ?_)
          replace hP : xP G [oC ko 6 [.ref (ad 0), .ref (ad 1), .int (nI w), .int (nI h), .int (nI la), .ref (ad 2), .int (mv 0), .int (mv 1), .int (mv 2), .int (mv 3), .int (mv 4), .int (mv 5), .int (mv 6), .ref (ad 3), .int (nI tp), .int (mv 7), .int (mv 8), .int (mv 9), .int (mv 10), .int ft, .int (mv 11), .ref (ad 4), .ref (ad 5), .ref (ad 6), .ref (ad 7), .ref (ad 8), .ref (ad 9), .ref (ad 10), .int tr], iA G (ad 0) 255 (upd (upd (upd S (61 + (3 * ns)) x) ((61 + (3 * ns)) + 1) c) ((61 + (3 * ns)) + 2) m)] H := hP
          replace hD : va_D (va_A (w_X6_show G ko ad w h la tp ft tr mv S) ss.heap.size) [oC ko 6 [.ref (ad 0), .ref (ad 1), .int (nI w), .int (nI h), .int (nI la), .ref (ad 2), .int (mv 0), .int (mv 1), .int (mv 2), .int (mv 3), .int (mv 4), .int (mv 5), .int (mv 6), .ref (ad 3), .int (nI tp), .int (mv 7), .int (mv 8), .int (mv 9), .int (mv 10), .int ft, .int (mv 11), .ref (ad 4), .ref (ad 5), .ref (ad 6), .ref (ad 7), .ref (ad 8), .ref (ad 9), .ref (ad 10), .int tr], iA G (ad 0) 255 (upd (upd (upd S (61 + (3 * ns)) x) ((61 + (3 * ns)) + 1) c) ((61 + (3 * ns)) + 2) m)] := hD
          refine lv_aload_n hx hb dX6_show_88 rfl (lv_at hl 1 rfl) ?_
          refine va_get (D := G.1) (ci := 6) (v := .ref (ad 0)) (C := RX6) (T := TX6) (N := 29) hx hb hts hin6 hown hK.1 hP 0 rfl rfl 0 (by decide) (hts (.fieldLink RX6 7 "BackLensesModel" "st" "[I") (List.mem_of_getElem? (i := 1) rfl)) (fun _ h9 => h9) rfl dX6_show_89 ?_
          refine lv_bipush (v := nI 60) hx hb dX6_show_92 (by decide) ?_
          refine lv_dup2_11 hx hb dX6_show_94 rfl rfl ?_
          refine xn_iald hx hb hK hP 1 rfl (by omega) (by omega) dX6_show_95 ?_
          refine xn_top (y := nI ns) (by rw [upd_ne (by omega), upd_ne (by omega), upd_ne (by omega)]; exact hs60) ?_
          refine lv_iconst (v := nI 1) hx hb dX6_show_96 (by decide) ?_
          refine xn_iadd hx hb dX6_show_97 ?_
          refine xn_iast hx hb hK hP hD hS 1 rfl (by omega) (by omega) dX6_show_98 (fun H locs hP hD hS => ?_)
          replace hP : xP G [oC ko 6 [.ref (ad 0), .ref (ad 1), .int (nI w), .int (nI h), .int (nI la), .ref (ad 2), .int (mv 0), .int (mv 1), .int (mv 2), .int (mv 3), .int (mv 4), .int (mv 5), .int (mv 6), .ref (ad 3), .int (nI tp), .int (mv 7), .int (mv 8), .int (mv 9), .int (mv 10), .int ft, .int (mv 11), .ref (ad 4), .ref (ad 5), .ref (ad 6), .ref (ad 7), .ref (ad 8), .ref (ad 9), .ref (ad 10), .int tr], iA G (ad 0) 255 (upd (upd (upd (upd S (61 + (3 * ns)) x) ((61 + (3 * ns)) + 1) c) ((61 + (3 * ns)) + 2) m) 60 (nI (ns + 1)))] H := hP
          replace hD : va_D (va_A (w_X6_show G ko ad w h la tp ft tr mv S) ss.heap.size) [oC ko 6 [.ref (ad 0), .ref (ad 1), .int (nI w), .int (nI h), .int (nI la), .ref (ad 2), .int (mv 0), .int (mv 1), .int (mv 2), .int (mv 3), .int (mv 4), .int (mv 5), .int (mv 6), .ref (ad 3), .int (nI tp), .int (mv 7), .int (mv 8), .int (mv 9), .int (mv 10), .int ft, .int (mv 11), .ref (ad 4), .ref (ad 5), .ref (ad 6), .ref (ad 7), .ref (ad 8), .ref (ad 9), .ref (ad 10), .int tr], iA G (ad 0) 255 (upd (upd (upd (upd S (61 + (3 * ns)) x) ((61 + (3 * ns)) + 1) c) ((61 + (3 * ns)) + 2) m) 60 (nI (ns + 1)))] := hD
          refine lv_aload_n hx hb dX6_show_99 rfl (lv_at hl 1 rfl) ?_
          refine va_get (D := G.1) (ci := 6) (v := .ref (ad 0)) (C := RX6) (T := TX6) (N := 29) hx hb hts hin6 hown hK.1 hP 0 rfl rfl 0 (by decide) (hts (.fieldLink RX6 7 "BackLensesModel" "st" "[I") (List.mem_of_getElem? (i := 1) rfl)) (fun _ h9 => h9) rfl dX6_show_100 ?_
          refine lv_bipush (v := nI 60) hx hb dX6_show_103 (by decide) ?_
          refine xn_iald hx hb hK hP 1 rfl (by omega) (by omega) dX6_show_105 ?_
          refine xn_top (y := nI (ns + 1)) (by exact upd_eq) ?_
          have hP := hP.sub (ws' := [oC ko 6 [.ref (ad 0), .ref (ad 1), .int (nI w), .int (nI h), .int (nI la), .ref (ad 2), .int (mv 0), .int (mv 1), .int (mv 2), .int (mv 3), .int (mv 4), .int (mv 5), .int (mv 6), .ref (ad 3), .int (nI tp), .int (mv 7), .int (mv 8), .int (mv 9), .int (mv 10), .int ft, .int (mv 11), .ref (ad 4), .ref (ad 5), .ref (ad 6), .ref (ad 7), .ref (ad 8), .ref (ad 9), .ref (ad 10), .int tr], iA G (ad 0) 255 (upd (upd (upd (upd S (61 + (3 * ns)) x) ((61 + (3 * ns)) + 1) c) ((61 + (3 * ns)) + 2) m) 60 (nI (ns + 1)))]) [0, 1] rfl
          have hD := hD.sub (ws' := [oC ko 6 [.ref (ad 0), .ref (ad 1), .int (nI w), .int (nI h), .int (nI la), .ref (ad 2), .int (mv 0), .int (mv 1), .int (mv 2), .int (mv 3), .int (mv 4), .int (mv 5), .int (mv 6), .ref (ad 3), .int (nI tp), .int (mv 7), .int (mv 8), .int (mv 9), .int (mv 10), .int ft, .int (mv 11), .ref (ad 4), .ref (ad 5), .ref (ad 6), .ref (ad 7), .ref (ad 8), .ref (ad 9), .ref (ad 10), .int tr], iA G (ad 0) 255 (upd (upd (upd (upd S (61 + (3 * ns)) x) ((61 + (3 * ns)) + 1) c) ((61 + (3 * ns)) + 2) m) 60 (nI (ns + 1)))]) [0, 1] (by decide) rfl
          refine W.iret (v := nI (ns + 1)) hx hb hr (fun t ht hW => ⟨⟨nI (ns + 1), (upd (upd (upd (upd S (61 + (3 * ns)) x) ((61 + (3 * ns)) + 1) c) ((61 + (3 * ns)) + 2) m) 60 (nI (ns + 1))), rfl, ?_, by rw [ht]; exact hP, hD⟩, hS.F ht⟩) hS.2.2 dX6_show_106
          first | exact ⟨(if_neg (fun q => b5 q.1)).symm, (if_neg (fun q => b5 q.1)).symm⟩ | exact ⟨(if_neg (fun q => b13 q.2.1)).symm, (if_neg (fun q => b13 q.2.1)).symm⟩ | exact ⟨(if_neg (fun q => (q.2.2).elim b19 b26)).symm, (if_neg (fun q => (q.2.2.1).elim b19 b26)).symm⟩ | exact ⟨((if_pos ⟨b5, b13, hmm⟩).trans (if_neg (by omega))).symm, (if_neg (fun q => absurd q.2.2.2 (by omega))).symm⟩ | exact ⟨((if_pos ⟨b5, b13, hmm⟩).trans (if_pos (by omega))).symm, (if_pos ⟨b5, b13, hmm, by omega⟩).symm⟩
        · skip
          refine lv_bipush (v := (-3)) hx hb dX6_show_43 (by decide) ?_
          have hP := hP.sub (ws' := [oC ko 6 [.ref (ad 0), .ref (ad 1), .int (nI w), .int (nI h), .int (nI la), .ref (ad 2), .int (mv 0), .int (mv 1), .int (mv 2), .int (mv 3), .int (mv 4), .int (mv 5), .int (mv 6), .ref (ad 3), .int (nI tp), .int (mv 7), .int (mv 8), .int (mv 9), .int (mv 10), .int ft, .int (mv 11), .ref (ad 4), .ref (ad 5), .ref (ad 6), .ref (ad 7), .ref (ad 8), .ref (ad 9), .ref (ad 10), .int tr], iA G (ad 0) 255 S]) [0, 1] rfl
          have hD := hD.sub (ws' := [oC ko 6 [.ref (ad 0), .ref (ad 1), .int (nI w), .int (nI h), .int (nI la), .ref (ad 2), .int (mv 0), .int (mv 1), .int (mv 2), .int (mv 3), .int (mv 4), .int (mv 5), .int (mv 6), .ref (ad 3), .int (nI tp), .int (mv 7), .int (mv 8), .int (mv 9), .int (mv 10), .int ft, .int (mv 11), .ref (ad 4), .ref (ad 5), .ref (ad 6), .ref (ad 7), .ref (ad 8), .ref (ad 9), .ref (ad 10), .int tr], iA G (ad 0) 255 S]) [0, 1] (by decide) rfl
          refine W.iret (v := (-3)) hx hb hr (fun t ht hW => ⟨⟨(-3), (S), rfl, ?_, by rw [ht]; exact hP, hD⟩, hS.F ht⟩) hS.2.2 dX6_show_45
          first | exact ⟨(if_neg (fun q => b5 q.1)).symm, (if_neg (fun q => b5 q.1)).symm⟩ | exact ⟨(if_neg (fun q => b13 q.2.1)).symm, (if_neg (fun q => b13 q.2.1)).symm⟩ | exact ⟨(if_neg (fun q => (q.2.2).elim b19 b26)).symm, (if_neg (fun q => (q.2.2.1).elim b19 b26)).symm⟩ | exact ⟨((if_pos ⟨b5, b13, hmm⟩).trans (if_neg (by omega))).symm, (if_neg (fun q => absurd q.2.2.2 (by omega))).symm⟩ | exact ⟨((if_pos ⟨b5, b13, hmm⟩).trans (if_pos (by omega))).symm, (if_pos ⟨b5, b13, hmm, by omega⟩).symm⟩
      · skip
        refine lv_iload_n hx hb dX6_show_22 rfl (lv_at hl 3 rfl) ?_
        refine xs_i (As := [.int m]) (rest := []) ⟨hx, hb, hml, hown, hts⟩ (c_X6_isMark l G m ) (va_cwS 1 hts gX6_show_X6_isMark rfl rfl rfl (by decide +kernel) ⟨Nat.le_of_ble_eq_true rfl, Nat.le_of_ble_eq_true rfl⟩) hP hS rfl hl.1 rfl (Nat.le_of_ble_eq_true rfl) dX6_show_23 ⟨Nat.zero_le _, Nat.zero_le _⟩ (fun r23 H locs hp23 hP hS => ?_)
        rw [show r23 = _ from hp23]
        refine xb_if_ne (tgt := 31) hx hb dX6_show_26 rfl (fun b26 => ?_) (fun b26 => ?_)
        · skip
          have hmm : m = (-4) ∨ inR m 6 := (by first | exact Or.inl b19 | exact Or.inr b26)
          refine lv_aload_n hx hb dX6_show_31 rfl (lv_at hl 0 rfl) ?_
          refine va_get (D := G.1) (ci := 6) (v := .ref (ad 0)) (C := RX6) (T := TX6) (N := 29) hx hb hts hin6 hown hK.1 hP 0 rfl rfl 0 (by decide) (hts (.fieldLink RX6 7 "BackLensesModel" "st" "[I") (List.mem_of_getElem? (i := 1) rfl)) (fun _ h9 => h9) rfl dX6_show_32 ?_
          refine lv_bipush (v := nI 60) hx hb dX6_show_35 (by decide) ?_
          refine xn_iald hx hb hK hP 1 rfl (by omega) (by omega) dX6_show_37 ?_
          refine xn_top (y := nI ns) (by exact hs60) ?_
          refine lv_bipush (v := nI 8) hx hb dX6_show_38 (by decide) ?_
          refine xn_icmp_ne (tgt := 46) hx hb (by omega) (by omega) dX6_show_40 rfl (fun b40 => ?_) (fun b40 => ?_)
          · skip
            refine lv_bipush (v := nI 61) hx hb dX6_show_46 (by decide) ?_
            refine lv_iconst (v := nI 3) hx hb dX6_show_48 (by decide) ?_
            refine lv_aload_n hx hb dX6_show_49 rfl (lv_at hl 0 rfl) ?_
            refine va_get (D := G.1) (ci := 6) (v := .ref (ad 0)) (C := RX6) (T := TX6) (N := 29) hx hb hts hin6 hown hK.1 hP 0 rfl rfl 0 (by decide) (hts (.fieldLink RX6 7 "BackLensesModel" "st" "[I") (List.mem_of_getElem? (i := 1) rfl)) (fun _ h9 => h9) rfl dX6_show_50 ?_
            refine lv_bipush (v := nI 60) hx hb dX6_show_53 (by decide) ?_
            refine xn_iald hx hb hK hP 1 rfl (by omega) (by omega) dX6_show_55 ?_
            refine xn_top (y := nI ns) (by exact hs60) ?_
            refine xn_imul hx hb dX6_show_56 ?_
            refine xn_iadd hx hb dX6_show_57 ?_
            refine lv_istore (lv' := [(4, .int (nI (61 + (3 * ns)))), (0, .ref ko), (1, .int x), (2, .int c), (3, .int m)]) hx hb dX6_show_58 hl (by decide) rfl (fun ls hl => ?_)
            refine lv_aload_n hx hb dX6_show_60 rfl (lv_at hl 1 rfl) ?_
            refine va_get (D := G.1) (ci := 6) (v := .ref (ad 0)) (C := RX6) (T := TX6) (N := 29) hx hb hts hin6 hown hK.1 hP 0 rfl rfl 0 (by decide) (hts (.fieldLink RX6 7 "BackLensesModel" "st" "[I") (List.mem_of_getElem? (i := 1) rfl)) (fun _ h9 => h9) rfl dX6_show_61 ?_
            refine lv_iload hx hb dX6_show_64 (lv_at hl 0 rfl) ?_
            refine lv_iload_n hx hb dX6_show_66 rfl (lv_at hl 2 rfl) ?_
            refine xn_iast hx hb hK hP hD hS 1 rfl (by omega) (by omega) dX6_show_67 (fun H locs hP hD hS => ?_)
            replace hP : xP G [oC ko 6 [.ref (ad 0), .ref (ad 1), .int (nI w), .int (nI h), .int (nI la), .ref (ad 2), .int (mv 0), .int (mv 1), .int (mv 2), .int (mv 3), .int (mv 4), .int (mv 5), .int (mv 6), .ref (ad 3), .int (nI tp), .int (mv 7), .int (mv 8), .int (mv 9), .int (mv 10), .int ft, .int (mv 11), .ref (ad 4), .ref (ad 5), .ref (ad 6), .ref (ad 7), .ref (ad 8), .ref (ad 9), .ref (ad 10), .int tr], iA G (ad 0) 255 (upd S (61 + (3 * ns)) x)] H := hP
            replace hD : va_D (va_A (w_X6_show G ko ad w h la tp ft tr mv S) ss.heap.size) [oC ko 6 [.ref (ad 0), .ref (ad 1), .int (nI w), .int (nI h), .int (nI la), .ref (ad 2), .int (mv 0), .int (mv 1), .int (mv 2), .int (mv 3), .int (mv 4), .int (mv 5), .int (mv 6), .ref (ad 3), .int (nI tp), .int (mv 7), .int (mv 8), .int (mv 9), .int (mv 10), .int ft, .int (mv 11), .ref (ad 4), .ref (ad 5), .ref (ad 6), .ref (ad 7), .ref (ad 8), .ref (ad 9), .ref (ad 10), .int tr], iA G (ad 0) 255 (upd S (61 + (3 * ns)) x)] := hD
            refine lv_aload_n hx hb dX6_show_68 rfl (lv_at hl 1 rfl) ?_
            refine va_get (D := G.1) (ci := 6) (v := .ref (ad 0)) (C := RX6) (T := TX6) (N := 29) hx hb hts hin6 hown hK.1 hP 0 rfl rfl 0 (by decide) (hts (.fieldLink RX6 7 "BackLensesModel" "st" "[I") (List.mem_of_getElem? (i := 1) rfl)) (fun _ h9 => h9) rfl dX6_show_69 ?_
            refine lv_iload hx hb dX6_show_72 (lv_at hl 0 rfl) ?_
            refine lv_iconst (v := nI 1) hx hb dX6_show_74 (by decide) ?_
            refine xn_iadd hx hb dX6_show_75 ?_
            refine lv_iload_n hx hb dX6_show_76 rfl (lv_at hl 3 rfl) ?_
            refine xn_iast hx hb hK hP hD hS 1 rfl (by omega) (by omega) dX6_show_77 (fun H locs hP hD hS => ?_)
            replace hP : xP G [oC ko 6 [.ref (ad 0), .ref (ad 1), .int (nI w), .int (nI h), .int (nI la), .ref (ad 2), .int (mv 0), .int (mv 1), .int (mv 2), .int (mv 3), .int (mv 4), .int (mv 5), .int (mv 6), .ref (ad 3), .int (nI tp), .int (mv 7), .int (mv 8), .int (mv 9), .int (mv 10), .int ft, .int (mv 11), .ref (ad 4), .ref (ad 5), .ref (ad 6), .ref (ad 7), .ref (ad 8), .ref (ad 9), .ref (ad 10), .int tr], iA G (ad 0) 255 (upd (upd S (61 + (3 * ns)) x) ((61 + (3 * ns)) + 1) c)] H := hP
            replace hD : va_D (va_A (w_X6_show G ko ad w h la tp ft tr mv S) ss.heap.size) [oC ko 6 [.ref (ad 0), .ref (ad 1), .int (nI w), .int (nI h), .int (nI la), .ref (ad 2), .int (mv 0), .int (mv 1), .int (mv 2), .int (mv 3), .int (mv 4), .int (mv 5), .int (mv 6), .ref (ad 3), .int (nI tp), .int (mv 7), .int (mv 8), .int (mv 9), .int (mv 10), .int ft, .int (mv 11), .ref (ad 4), .ref (ad 5), .ref (ad 6), .ref (ad 7), .ref (ad 8), .ref (ad 9), .ref (ad 10), .int tr], iA G (ad 0) 255 (upd (upd S (61 + (3 * ns)) x) ((61 + (3 * ns)) + 1) c)] := hD
            refine lv_aload_n hx hb dX6_show_78 rfl (lv_at hl 1 rfl) ?_
            refine va_get (D := G.1) (ci := 6) (v := .ref (ad 0)) (C := RX6) (T := TX6) (N := 29) hx hb hts hin6 hown hK.1 hP 0 rfl rfl 0 (by decide) (hts (.fieldLink RX6 7 "BackLensesModel" "st" "[I") (List.mem_of_getElem? (i := 1) rfl)) (fun _ h9 => h9) rfl dX6_show_79 ?_
            refine lv_iload hx hb dX6_show_82 (lv_at hl 0 rfl) ?_
            refine lv_iconst (v := nI 2) hx hb dX6_show_84 (by decide) ?_
            refine xn_iadd hx hb dX6_show_85 ?_
            refine lv_iload_n hx hb dX6_show_86 rfl (lv_at hl 4 rfl) ?_
            refine xn_iast hx hb hK hP hD hS 1 rfl (by omega) (by omega) dX6_show_87 (fun H locs hP hD hS => ?_)
            replace hP : xP G [oC ko 6 [.ref (ad 0), .ref (ad 1), .int (nI w), .int (nI h), .int (nI la), .ref (ad 2), .int (mv 0), .int (mv 1), .int (mv 2), .int (mv 3), .int (mv 4), .int (mv 5), .int (mv 6), .ref (ad 3), .int (nI tp), .int (mv 7), .int (mv 8), .int (mv 9), .int (mv 10), .int ft, .int (mv 11), .ref (ad 4), .ref (ad 5), .ref (ad 6), .ref (ad 7), .ref (ad 8), .ref (ad 9), .ref (ad 10), .int tr], iA G (ad 0) 255 (upd (upd (upd S (61 + (3 * ns)) x) ((61 + (3 * ns)) + 1) c) ((61 + (3 * ns)) + 2) m)] H := hP
            replace hD : va_D (va_A (w_X6_show G ko ad w h la tp ft tr mv S) ss.heap.size) [oC ko 6 [.ref (ad 0), .ref (ad 1), .int (nI w), .int (nI h), .int (nI la), .ref (ad 2), .int (mv 0), .int (mv 1), .int (mv 2), .int (mv 3), .int (mv 4), .int (mv 5), .int (mv 6), .ref (ad 3), .int (nI tp), .int (mv 7), .int (mv 8), .int (mv 9), .int (mv 10), .int ft, .int (mv 11), .ref (ad 4), .ref (ad 5), .ref (ad 6), .ref (ad 7), .ref (ad 8), .ref (ad 9), .ref (ad 10), .int tr], iA G (ad 0) 255 (upd (upd (upd S (61 + (3 * ns)) x) ((61 + (3 * ns)) + 1) c) ((61 + (3 * ns)) + 2) m)] := hD
            refine lv_aload_n hx hb dX6_show_88 rfl (lv_at hl 1 rfl) ?_
            refine va_get (D := G.1) (ci := 6) (v := .ref (ad 0)) (C := RX6) (T := TX6) (N := 29) hx hb hts hin6 hown hK.1 hP 0 rfl rfl 0 (by decide) (hts (.fieldLink RX6 7 "BackLensesModel" "st" "[I") (List.mem_of_getElem? (i := 1) rfl)) (fun _ h9 => h9) rfl dX6_show_89 ?_
            refine lv_bipush (v := nI 60) hx hb dX6_show_92 (by decide) ?_
            refine lv_dup2_11 hx hb dX6_show_94 rfl rfl ?_
            refine xn_iald hx hb hK hP 1 rfl (by omega) (by omega) dX6_show_95 ?_
            refine xn_top (y := nI ns) (by rw [upd_ne (by omega), upd_ne (by omega), upd_ne (by omega)]; exact hs60) ?_
            refine lv_iconst (v := nI 1) hx hb dX6_show_96 (by decide) ?_
            refine xn_iadd hx hb dX6_show_97 ?_
            refine xn_iast hx hb hK hP hD hS 1 rfl (by omega) (by omega) dX6_show_98 (fun H locs hP hD hS => ?_)
            replace hP : xP G [oC ko 6 [.ref (ad 0), .ref (ad 1), .int (nI w), .int (nI h), .int (nI la), .ref (ad 2), .int (mv 0), .int (mv 1), .int (mv 2), .int (mv 3), .int (mv 4), .int (mv 5), .int (mv 6), .ref (ad 3), .int (nI tp), .int (mv 7), .int (mv 8), .int (mv 9), .int (mv 10), .int ft, .int (mv 11), .ref (ad 4), .ref (ad 5), .ref (ad 6), .ref (ad 7), .ref (ad 8), .ref (ad 9), .ref (ad 10), .int tr], iA G (ad 0) 255 (upd (upd (upd (upd S (61 + (3 * ns)) x) ((61 + (3 * ns)) + 1) c) ((61 + (3 * ns)) + 2) m) 60 (nI (ns + 1)))] H := hP
            replace hD : va_D (va_A (w_X6_show G ko ad w h la tp ft tr mv S) ss.heap.size) [oC ko 6 [.ref (ad 0), .ref (ad 1), .int (nI w), .int (nI h), .int (nI la), .ref (ad 2), .int (mv 0), .int (mv 1), .int (mv 2), .int (mv 3), .int (mv 4), .int (mv 5), .int (mv 6), .ref (ad 3), .int (nI tp), .int (mv 7), .int (mv 8), .int (mv 9), .int (mv 10), .int ft, .int (mv 11), .ref (ad 4), .ref (ad 5), .ref (ad 6), .ref (ad 7), .ref (ad 8), .ref (ad 9), .ref (ad 10), .int tr], iA G (ad 0) 255 (upd (upd (upd (upd S (61 + (3 * ns)) x) ((61 + (3 * ns)) + 1) c) ((61 + (3 * ns)) + 2) m) 60 (nI (ns + 1)))] := hD
            refine lv_aload_n hx hb dX6_show_99 rfl (lv_at hl 1 rfl) ?_
            refine va_get (D := G.1) (ci := 6) (v := .ref (ad 0)) (C := RX6) (T := TX6) (N := 29) hx hb hts hin6 hown hK.1 hP 0 rfl rfl 0 (by decide) (hts (.fieldLink RX6 7 "BackLensesModel" "st" "[I") (List.mem_of_getElem? (i := 1) rfl)) (fun _ h9 => h9) rfl dX6_show_100 ?_
            refine lv_bipush (v := nI 60) hx hb dX6_show_103 (by decide) ?_
            refine xn_iald hx hb hK hP 1 rfl (by omega) (by omega) dX6_show_105 ?_
            refine xn_top (y := nI (ns + 1)) (by exact upd_eq) ?_
            have hP := hP.sub (ws' := [oC ko 6 [.ref (ad 0), .ref (ad 1), .int (nI w), .int (nI h), .int (nI la), .ref (ad 2), .int (mv 0), .int (mv 1), .int (mv 2), .int (mv 3), .int (mv 4), .int (mv 5), .int (mv 6), .ref (ad 3), .int (nI tp), .int (mv 7), .int (mv 8), .int (mv 9), .int (mv 10), .int ft, .int (mv 11), .ref (ad 4), .ref (ad 5), .ref (ad 6), .ref (ad 7), .ref (ad 8), .ref (ad 9), .ref (ad 10), .int tr], iA G (ad 0) 255 (upd (upd (upd (upd S (61 + (3 * ns)) x) ((61 + (3 * ns)) + 1) c) ((61 + (3 * ns)) + 2) m) 60 (nI (ns + 1)))]) [0, 1] rfl
            have hD := hD.sub (ws' := [oC ko 6 [.ref (ad 0), .ref (ad 1), .int (nI w), .int (nI h), .int (nI la), .ref (ad 2), .int (mv 0), .int (mv 1), .int (mv 2), .int (mv 3), .int (mv 4), .int (mv 5), .int (mv 6), .ref (ad 3), .int (nI tp), .int (mv 7), .int (mv 8), .int (mv 9), .int (mv 10), .int ft, .int (mv 11), .ref (ad 4), .ref (ad 5), .ref (ad 6), .ref (ad 7), .ref (ad 8), .ref (ad 9), .ref (ad 10), .int tr], iA G (ad 0) 255 (upd (upd (upd (upd S (61 + (3 * ns)) x) ((61 + (3 * ns)) + 1) c) ((61 + (3 * ns)) + 2) m) 60 (nI (ns + 1)))]) [0, 1] (by decide) rfl
            refine W.iret (v := nI (ns + 1)) hx hb hr (fun t ht hW => ⟨⟨nI (ns + 1), (upd (upd (upd (upd S (61 + (3 * ns)) x) ((61 + (3 * ns)) + 1) c) ((61 + (3 * ns)) + 2) m) 60 (nI (ns + 1))), rfl, ?_, by rw [ht]; exact hP, hD⟩, hS.F ht⟩) hS.2.2 dX6_show_106
            first | exact ⟨(if_neg (fun q => b5 q.1)).symm, (if_neg (fun q => b5 q.1)).symm⟩ | exact ⟨(if_neg (fun q => b13 q.2.1)).symm, (if_neg (fun q => b13 q.2.1)).symm⟩ | exact ⟨(if_neg (fun q => (q.2.2).elim b19 b26)).symm, (if_neg (fun q => (q.2.2.1).elim b19 b26)).symm⟩ | exact ⟨((if_pos ⟨b5, b13, hmm⟩).trans (if_neg (by omega))).symm, (if_neg (fun q => absurd q.2.2.2 (by omega))).symm⟩ | exact ⟨((if_pos ⟨b5, b13, hmm⟩).trans (if_pos (by omega))).symm, (if_pos ⟨b5, b13, hmm, by omega⟩).symm⟩
          · skip
            refine lv_bipush (v := (-3)) hx hb dX6_show_43 (by decide) ?_
            have hP := hP.sub (ws' := [oC ko 6 [.ref (ad 0), .ref (ad 1), .int (nI w), .int (nI h), .int (nI la), .ref (ad 2), .int (mv 0), .int (mv 1), .int (mv 2), .int (mv 3), .int (mv 4), .int (mv 5), .int (mv 6), .ref (ad 3), .int (nI tp), .int (mv 7), .int (mv 8), .int (mv 9), .int (mv 10), .int ft, .int (mv 11), .ref (ad 4), .ref (ad 5), .ref (ad 6), .ref (ad 7), .ref (ad 8), .ref (ad 9), .ref (ad 10), .int tr], iA G (ad 0) 255 S]) [0, 1] rfl
            have hD := hD.sub (ws' := [oC ko 6 [.ref (ad 0), .ref (ad 1), .int (nI w), .int (nI h), .int (nI la), .ref (ad 2), .int (mv 0), .int (mv 1), .int (mv 2), .int (mv 3), .int (mv 4), .int (mv 5), .int (mv 6), .ref (ad 3), .int (nI tp), .int (mv 7), .int (mv 8), .int (mv 9), .int (mv 10), .int ft, .int (mv 11), .ref (ad 4), .ref (ad 5), .ref (ad 6), .ref (ad 7), .ref (ad 8), .ref (ad 9), .ref (ad 10), .int tr], iA G (ad 0) 255 S]) [0, 1] (by decide) rfl
            refine W.iret (v := (-3)) hx hb hr (fun t ht hW => ⟨⟨(-3), (S), rfl, ?_, by rw [ht]; exact hP, hD⟩, hS.F ht⟩) hS.2.2 dX6_show_45
            first | exact ⟨(if_neg (fun q => b5 q.1)).symm, (if_neg (fun q => b5 q.1)).symm⟩ | exact ⟨(if_neg (fun q => b13 q.2.1)).symm, (if_neg (fun q => b13 q.2.1)).symm⟩ | exact ⟨(if_neg (fun q => (q.2.2).elim b19 b26)).symm, (if_neg (fun q => (q.2.2.1).elim b19 b26)).symm⟩ | exact ⟨((if_pos ⟨b5, b13, hmm⟩).trans (if_neg (by omega))).symm, (if_neg (fun q => absurd q.2.2.2 (by omega))).symm⟩ | exact ⟨((if_pos ⟨b5, b13, hmm⟩).trans (if_pos (by omega))).symm, (if_pos ⟨b5, b13, hmm, by omega⟩).symm⟩
        · skip
          refine lv_iconst (v := (-1)) hx hb dX6_show_29 (by decide) ?_
          have hP := hP.sub (ws' := [oC ko 6 [.ref (ad 0), .ref (ad 1), .int (nI w), .int (nI h), .int (nI la), .ref (ad 2), .int (mv 0), .int (mv 1), .int (mv 2), .int (mv 3), .int (mv 4), .int (mv 5), .int (mv 6), .ref (ad 3), .int (nI tp), .int (mv 7), .int (mv 8), .int (mv 9), .int (mv 10), .int ft, .int (mv 11), .ref (ad 4), .ref (ad 5), .ref (ad 6), .ref (ad 7), .ref (ad 8), .ref (ad 9), .ref (ad 10), .int tr], iA G (ad 0) 255 S]) [0, 1] rfl
          have hD := hD.sub (ws' := [oC ko 6 [.ref (ad 0), .ref (ad 1), .int (nI w), .int (nI h), .int (nI la), .ref (ad 2), .int (mv 0), .int (mv 1), .int (mv 2), .int (mv 3), .int (mv 4), .int (mv 5), .int (mv 6), .ref (ad 3), .int (nI tp), .int (mv 7), .int (mv 8), .int (mv 9), .int (mv 10), .int ft, .int (mv 11), .ref (ad 4), .ref (ad 5), .ref (ad 6), .ref (ad 7), .ref (ad 8), .ref (ad 9), .ref (ad 10), .int tr], iA G (ad 0) 255 S]) [0, 1] (by decide) rfl
          refine W.iret (v := (-1)) hx hb hr (fun t ht hW => ⟨⟨(-1), (S), rfl, ?_, by rw [ht]; exact hP, hD⟩, hS.F ht⟩) hS.2.2 dX6_show_30
          first | exact ⟨(if_neg (fun q => b5 q.1)).symm, (if_neg (fun q => b5 q.1)).symm⟩ | exact ⟨(if_neg (fun q => b13 q.2.1)).symm, (if_neg (fun q => b13 q.2.1)).symm⟩ | exact ⟨(if_neg (fun q => (q.2.2).elim b19 b26)).symm, (if_neg (fun q => (q.2.2.1).elim b19 b26)).symm⟩ | exact ⟨((if_pos ⟨b5, b13, hmm⟩).trans (if_neg (by omega))).symm, (if_neg (fun q => absurd q.2.2.2 (by omega))).symm⟩ | exact ⟨((if_pos ⟨b5, b13, hmm⟩).trans (if_pos (by omega))).symm, (if_pos ⟨b5, b13, hmm, by omega⟩).symm⟩

abbrev w_X6_grind (G : XG) (ko : Nat) (ad : Nat → Nat) (w h la tp : Nat) (ft tr : Int32) (mv : Nat → Int32) (S : Nat → Int32) : va_W := [oC ko 6 [.ref (ad 0), .ref (ad 1), .int (nI w), .int (nI h), .int (nI la), .ref (ad 2), .int (mv 0), .int (mv 1), .int (mv 2), .int (mv 3), .int (mv 4), .int (mv 5), .int (mv 6), .ref (ad 3), .int (nI tp), .int (mv 7), .int (mv 8), .int (mv 9), .int (mv 10), .int ft, .int (mv 11), .ref (ad 4), .ref (ad 5), .ref (ad 6), .ref (ad 7), .ref (ad 8), .ref (ad 9), .ref (ad 10), .int tr], iA G (ad 0) 255 S]
abbrev Q_X6_grind (G : XG) (sz : Nat) (ko : Nat) (ad : Nat → Nat) (w h la tp : Nat) (ft tr : Int32) (mv : Nat → Int32) (S : Nat → Int32) (nl : Nat) (d blind : Int32) : Array Value → State → Outcome → State → Prop := (va_Qi (fun (r : Int32) (u : (Nat → Int32)) => r = (if (inR d (la + 1) ∧ inR blind (2 ^ (w * h))) then (if nl < 6 then nI (nl + 1) else (-3)) else (-1)) ∧ u = (if (inR d (la + 1) ∧ inR blind (2 ^ (w * h)) ∧ nl < 6) then add2 S (48 + 2 * nl) 47 d blind (nl + 1) else S)) (xWb G sz (w_X6_grind G ko ad w h la tp ft tr mv S) (fun u : (Nat → Int32) => [oC ko 6 [.ref (ad 0), .ref (ad 1), .int (nI w), .int (nI h), .int (nI la), .ref (ad 2), .int (mv 0), .int (mv 1), .int (mv 2), .int (mv 3), .int (mv 4), .int (mv 5), .int (mv 6), .ref (ad 3), .int (nI tp), .int (mv 7), .int (mv 8), .int (mv 9), .int (mv 10), .int ft, .int (mv 11), .ref (ad 4), .ref (ad 5), .ref (ad 6), .ref (ad 7), .ref (ad 8), .ref (ad 9), .ref (ad 10), .int tr], iA G (ad 0) 255 u])) (va_A (w_X6_grind G ko ad w h la tp ft tr mv S) sz))
set_option maxHeartbeats 4000000 in
set_option maxRecDepth 100000 in
theorem c_X6_grind (l : Launch) (G : XG) (sz : Nat) (ko : Nat) (ad : Nat → Nat) (w h la tp : Nat) (ft tr : Int32) (mv : Nat → Int32) (S : Nat → Int32) (nl : Nat) (d blind : Int32) (hw : 1 ≤ w) (hwb : w ≤ 16) (hhb : h ≤ 16) (hwh1 : 1 ≤ w * h) (hwh : w * h ≤ 16) (hla : la ≤ 9) (hs47 : S 47 = nI nl) (hnl : nl ≤ 6) : Met l yX6_grind wsX6_grind ({ frames := 2, cells := 0, slots := 0, locals := 46 } : Room) (va_Pc [.ref ko, .int d, .int blind] (xWp G sz (w_X6_grind G ko ad w h la tp ft tr mv S))) (Q_X6_grind G sz ko ad w h la tp ft tr mv S nl d blind) 0 0 (va_A (w_X6_grind G ko ad w h la tp ft tr mv S) sz) := by
  refine Met.ofW (cc := cX6_grind) (maxL := 3) (ret := (some .int)) (by decide) rfl ?_
  intro pp ee ss mm aa below mt cd s₁ BB hml hv
  obtain ⟨rfl, hsz, hP, hK, hD0⟩ := hv
  have hx := BB.exec
  have hb := BB.bytes
  have hr := BB.returns
  have hts := atoms_spec (ws := wsX6_grind) BB.pre
  have hown : ss.vm.findClass RX6 = some mm.cls := findClass_of_methodNamed BB.named
  have hlocks := BB.notSynchronized
  subst hsz
  have hD := hD0.self (sz := ss.heap.size)
  have hA : ∀ q : Nat, ss.heap.size ≤ q → va_A (w_X6_grind G ko ad w h la tp ft tr mv S) ss.heap.size q := fun q h => Or.inr h
  have hS : va_S (va_A (w_X6_grind G ko ad w h la tp ft tr mv S) ss.heap.size) ss.heap ss.heap [] := va_S.rf
  replace hD : va_D (va_A (w_X6_grind G ko ad w h la tp ft tr mv S) ss.heap.size) [oC ko 6 [.ref (ad 0), .ref (ad 1), .int (nI w), .int (nI h), .int (nI la), .ref (ad 2), .int (mv 0), .int (mv 1), .int (mv 2), .int (mv 3), .int (mv 4), .int (mv 5), .int (mv 6), .ref (ad 3), .int (nI tp), .int (mv 7), .int (mv 8), .int (mv 9), .int (mv 10), .int ft, .int (mv 11), .ref (ad 4), .ref (ad 5), .ref (ad 6), .ref (ad 7), .ref (ad 8), .ref (ad 9), .ref (ad 10), .int tr], iA G (ad 0) 255 S] := hD
  replace hP : xP G [oC ko 6 [.ref (ad 0), .ref (ad 1), .int (nI w), .int (nI h), .int (nI la), .ref (ad 2), .int (mv 0), .int (mv 1), .int (mv 2), .int (mv 3), .int (mv 4), .int (mv 5), .int (mv 6), .ref (ad 3), .int (nI tp), .int (mv 7), .int (mv 8), .int (mv 9), .int (mv 10), .int ft, .int (mv 11), .ref (ad 4), .ref (ad 5), .ref (ad 6), .ref (ad 7), .ref (ad 8), .ref (ad 9), .ref (ad 10), .int tr], iA G (ad 0) 255 S] ss.heap := hP
  have hin6 : ∀ w ∈ u_ws RX6 TX6 29, w ∈ wsX6_grind := fun w h => List.mem_cons_of_mem _ (List.mem_append_right _ h)
  have hl := lv_entry ([.ref ko, .int d, .int blind]) (n := 3) (Nat.le_of_ble_eq_true rfl)
  rw [lg_entry_eq]
  generalize (lg_sl ([.ref ko, .int d, .int blind]) ++ List.replicate (3 - (lg_sl ([.ref ko, .int d, .int blind])).length) Slot.unset).toArray = ls at hl ⊢
  replace hl : lv_has ls 3 [(0, .ref ko), (1, .int d), (2, .int blind)] := hl
  refine lv_aload_n hx hb dX6_grind_0 rfl (lv_at hl 0 rfl) ?_
  refine lv_iload_n hx hb dX6_grind_1 rfl (lv_at hl 1 rfl) ?_
  refine xr_i (As := [.int d]) (rest := []) ⟨hx, hb, hml, hown, hts⟩ (c_X6_isDay l G ko ad w h la tp ft tr mv d (by first | assumption | omega)) (cwV 1 hts gX6_grind_X6_isDay rfl rfl rfl (by decide +kernel) ⟨Nat.le_of_ble_eq_true rfl, Nat.le_of_ble_eq_true rfl⟩) hK hP hS [0] rfl rfl rfl rfl hl.1 rfl (Nat.le_of_ble_eq_true rfl) dX6_grind_2 ⟨Nat.zero_le _, Nat.zero_le _⟩ (fun r2 H locs hp2 hP hS => ?_)
  rw [show r2 = _ from hp2]
  refine xb_if_eq (tgt := 26) hx hb dX6_grind_5 rfl (fun b5 => ?_) (fun b5 => ?_)
  · skip
    refine lv_iconst (v := (-1)) hx hb dX6_grind_26 (by decide) ?_
    have hP := hP.sub (ws' := [oC ko 6 [.ref (ad 0), .ref (ad 1), .int (nI w), .int (nI h), .int (nI la), .ref (ad 2), .int (mv 0), .int (mv 1), .int (mv 2), .int (mv 3), .int (mv 4), .int (mv 5), .int (mv 6), .ref (ad 3), .int (nI tp), .int (mv 7), .int (mv 8), .int (mv 9), .int (mv 10), .int ft, .int (mv 11), .ref (ad 4), .ref (ad 5), .ref (ad 6), .ref (ad 7), .ref (ad 8), .ref (ad 9), .ref (ad 10), .int tr], iA G (ad 0) 255 S]) [0, 1] rfl
    have hD := hD.sub (ws' := [oC ko 6 [.ref (ad 0), .ref (ad 1), .int (nI w), .int (nI h), .int (nI la), .ref (ad 2), .int (mv 0), .int (mv 1), .int (mv 2), .int (mv 3), .int (mv 4), .int (mv 5), .int (mv 6), .ref (ad 3), .int (nI tp), .int (mv 7), .int (mv 8), .int (mv 9), .int (mv 10), .int ft, .int (mv 11), .ref (ad 4), .ref (ad 5), .ref (ad 6), .ref (ad 7), .ref (ad 8), .ref (ad 9), .ref (ad 10), .int tr], iA G (ad 0) 255 S]) [0, 1] (by decide) rfl
    refine W.iret (v := (-1)) hx hb hr (fun t ht hW => ⟨⟨(-1), (S), rfl, ?_, by rw [ht]; exact hP, hD⟩, hS.F ht⟩) hS.2.2 dX6_grind_27
    first | exact ⟨(if_neg (fun q => b5 q.1)).symm, (if_neg (fun q => b5 q.1)).symm⟩ | exact ⟨(if_neg (fun q => b23 q.2)).symm, (if_neg (fun q => b23 q.2.1)).symm⟩ | exact ⟨((if_pos ⟨b5, b23⟩).trans (if_neg (by omega))).symm, (if_neg (fun q => absurd q.2.2 (by omega))).symm⟩ | exact ⟨((if_pos ⟨b5, b23⟩).trans (if_pos (by omega))).symm, (if_pos ⟨b5, b23, by omega⟩).symm⟩
  · skip
    refine lv_iload_n hx hb dX6_grind_8 rfl (lv_at hl 2 rfl) ?_
    refine xi_i2l hx hb dX6_grind_9 ?_
    refine lv_lconst (v := lN 0) hx hb dX6_grind_10 (by decide) ?_
    refine lv_iconst (v := nI 1) hx hb dX6_grind_11 (by decide) ?_
    refine lv_aload_n hx hb dX6_grind_12 rfl (lv_at hl 0 rfl) ?_
    refine xr_i (As := []) (rest := [.int (nI 1), .long (lN 0), .long blind.toInt64]) ⟨hx, hb, hml, hown, hts⟩ (c_X6_cellsNow l G ko ad w h la tp ft tr mv ) (cwV 0 hts gX6_grind_X6_cellsNow rfl rfl rfl (by decide +kernel) ⟨Nat.le_of_ble_eq_true rfl, Nat.le_of_ble_eq_true rfl⟩) hK hP hS [0] rfl rfl rfl rfl hl.1 rfl (Nat.le_of_ble_eq_true rfl) dX6_grind_13 ⟨Nat.zero_le _, Nat.zero_le _⟩ (fun r13 H locs hp13 hP hS => ?_)
    rw [show r13 = _ from hp13]
    refine lv_ishl hx hb dX6_grind_16 ?_
    obtain ⟨hp1, hp2, hp3⟩ := xs_pow hwh
    refine xn_top hp1 ?_
    refine lv_iconst (v := nI 1) hx hb dX6_grind_17 (by decide) ?_
    refine xn_isub hx hb (by omega) dX6_grind_18 ?_
    refine xn_i2l hx hb (by omega) dX6_grind_19 ?_
    refine xs_i (As := [.long blind.toInt64, .long (lN 0), .long (lN ((2 ^ (w * h)) - 1))]) (rest := []) ⟨hx, hb, hml, hown, hts⟩ (c_X6_in_r l G blind ((2 ^ (w * h)) - 1) (by first | assumption | omega)) (va_cwS 3 hts gX6_grind_X6_in rfl rfl rfl (by decide +kernel) ⟨Nat.le_of_ble_eq_true rfl, Nat.le_of_ble_eq_true rfl⟩) hP hS rfl hl.1 rfl (Nat.le_of_ble_eq_true rfl) dX6_grind_20 ⟨Nat.zero_le _, Nat.zero_le _⟩ (fun r20 H locs hp20 hP hS => ?_)
    rw [show r20 = _ from hp20]
    refine xn_top (y := xb (inR blind (2 ^ (w * h)))) (xb_congr (by rw [show 2 ^ (w * h) - 1 + 1 = 2 ^ (w * h) by omega])) ?_
    refine xb_if_ne (tgt := 28) hx hb dX6_grind_23 rfl (fun b23 => ?_) (fun b23 => ?_)
    · skip
      refine lv_aload_n hx hb dX6_grind_28 rfl (lv_at hl 0 rfl) ?_
      refine va_get (D := G.1) (ci := 6) (v := .ref (ad 0)) (C := RX6) (T := TX6) (N := 29) hx hb hts hin6 hown hK.1 hP 0 rfl rfl 0 (by decide) (hts (.fieldLink RX6 7 "BackLensesModel" "st" "[I") (List.mem_of_getElem? (i := 1) rfl)) (fun _ h9 => h9) rfl dX6_grind_29 ?_
      refine lv_bipush (v := nI 47) hx hb dX6_grind_32 (by decide) ?_
      refine xn_iald hx hb hK hP 1 rfl (by omega) (by omega) dX6_grind_34 ?_
      refine xn_top (y := nI nl) (by exact hs47) ?_
      refine lv_bipush (v := nI 6) hx hb dX6_grind_35 (by decide) ?_
      refine xn_icmp_ne (tgt := 43) hx hb (by omega) (by omega) dX6_grind_37 rfl (fun b37 => ?_) (fun b37 => ?_)
      · skip
        refine lv_aload_n hx hb dX6_grind_43 rfl (lv_at hl 0 rfl) ?_
        refine va_get (D := G.1) (ci := 6) (v := .ref (ad 0)) (C := RX6) (T := TX6) (N := 29) hx hb hts hin6 hown hK.1 hP 0 rfl rfl 0 (by decide) (hts (.fieldLink RX6 7 "BackLensesModel" "st" "[I") (List.mem_of_getElem? (i := 1) rfl)) (fun _ h9 => h9) rfl dX6_grind_44 ?_
        refine lv_bipush (v := nI 48) hx hb dX6_grind_47 (by decide) ?_
        refine lv_iconst (v := nI 2) hx hb dX6_grind_49 (by decide) ?_
        refine lv_aload_n hx hb dX6_grind_50 rfl (lv_at hl 0 rfl) ?_
        refine va_get (D := G.1) (ci := 6) (v := .ref (ad 0)) (C := RX6) (T := TX6) (N := 29) hx hb hts hin6 hown hK.1 hP 0 rfl rfl 0 (by decide) (hts (.fieldLink RX6 7 "BackLensesModel" "st" "[I") (List.mem_of_getElem? (i := 1) rfl)) (fun _ h9 => h9) rfl dX6_grind_51 ?_
        refine lv_bipush (v := nI 47) hx hb dX6_grind_54 (by decide) ?_
        refine xn_iald hx hb hK hP 1 rfl (by omega) (by omega) dX6_grind_56 ?_
        refine xn_top (y := nI nl) (by exact hs47) ?_
        refine xn_imul hx hb dX6_grind_57 ?_
        refine xn_iadd hx hb dX6_grind_58 ?_
        refine lv_iload_n hx hb dX6_grind_59 rfl (lv_at hl 1 rfl) ?_
        refine xn_iast hx hb hK hP hD hS 1 rfl (by omega) (by omega) dX6_grind_60 (fun H locs hP hD hS => ?_)
        replace hP : xP G [oC ko 6 [.ref (ad 0), .ref (ad 1), .int (nI w), .int (nI h), .int (nI la), .ref (ad 2), .int (mv 0), .int (mv 1), .int (mv 2), .int (mv 3), .int (mv 4), .int (mv 5), .int (mv 6), .ref (ad 3), .int (nI tp), .int (mv 7), .int (mv 8), .int (mv 9), .int (mv 10), .int ft, .int (mv 11), .ref (ad 4), .ref (ad 5), .ref (ad 6), .ref (ad 7), .ref (ad 8), .ref (ad 9), .ref (ad 10), .int tr], iA G (ad 0) 255 (upd S (48 + (2 * nl)) d)] H := hP
        replace hD : va_D (va_A (w_X6_grind G ko ad w h la tp ft tr mv S) ss.heap.size) [oC ko 6 [.ref (ad 0), .ref (ad 1), .int (nI w), .int (nI h), .int (nI la), .ref (ad 2), .int (mv 0), .int (mv 1), .int (mv 2), .int (mv 3), .int (mv 4), .int (mv 5), .int (mv 6), .ref (ad 3), .int (nI tp), .int (mv 7), .int (mv 8), .int (mv 9), .int (mv 10), .int ft, .int (mv 11), .ref (ad 4), .ref (ad 5), .ref (ad 6), .ref (ad 7), .ref (ad 8), .ref (ad 9), .ref (ad 10), .int tr], iA G (ad 0) 255 (upd S (48 + (2 * nl)) d)] := hD
        refine lv_aload_n hx hb dX6_grind_61 rfl (lv_at hl 0 rfl) ?_
        refine va_get (D := G.1) (ci := 6) (v := .ref (ad 0)) (C := RX6) (T := TX6) (N := 29) hx hb hts hin6 hown hK.1 hP 0 rfl rfl 0 (by decide) (hts (.fieldLink RX6 7 "BackLensesModel" "st" "[I") (List.mem_of_getElem? (i := 1) rfl)) (fun _ h9 => h9) rfl dX6_grind_62 ?_
        refine lv_bipush (v := nI 48) hx hb dX6_grind_65 (by decide) ?_
        refine lv_iconst (v := nI 2) hx hb dX6_grind_67 (by decide) ?_
        refine lv_aload_n hx hb dX6_grind_68 rfl (lv_at hl 0 rfl) ?_
        refine va_get (D := G.1) (ci := 6) (v := .ref (ad 0)) (C := RX6) (T := TX6) (N := 29) hx hb hts hin6 hown hK.1 hP 0 rfl rfl 0 (by decide) (hts (.fieldLink RX6 7 "BackLensesModel" "st" "[I") (List.mem_of_getElem? (i := 1) rfl)) (fun _ h9 => h9) rfl dX6_grind_69 ?_
        refine lv_bipush (v := nI 47) hx hb dX6_grind_72 (by decide) ?_
        refine xn_iald hx hb hK hP 1 rfl (by omega) (by omega) dX6_grind_74 ?_
        refine xn_top (y := nI nl) (by rw [upd_ne (by omega)]; exact hs47) ?_
        refine xn_imul hx hb dX6_grind_75 ?_
        refine xn_iadd hx hb dX6_grind_76 ?_
        refine lv_iconst (v := nI 1) hx hb dX6_grind_77 (by decide) ?_
        refine xn_iadd hx hb dX6_grind_78 ?_
        refine lv_iload_n hx hb dX6_grind_79 rfl (lv_at hl 2 rfl) ?_
        refine xn_iast hx hb hK hP hD hS 1 rfl (by omega) (by omega) dX6_grind_80 (fun H locs hP hD hS => ?_)
        replace hP : xP G [oC ko 6 [.ref (ad 0), .ref (ad 1), .int (nI w), .int (nI h), .int (nI la), .ref (ad 2), .int (mv 0), .int (mv 1), .int (mv 2), .int (mv 3), .int (mv 4), .int (mv 5), .int (mv 6), .ref (ad 3), .int (nI tp), .int (mv 7), .int (mv 8), .int (mv 9), .int (mv 10), .int ft, .int (mv 11), .ref (ad 4), .ref (ad 5), .ref (ad 6), .ref (ad 7), .ref (ad 8), .ref (ad 9), .ref (ad 10), .int tr], iA G (ad 0) 255 (upd (upd S (48 + (2 * nl)) d) ((48 + (2 * nl)) + 1) blind)] H := hP
        replace hD : va_D (va_A (w_X6_grind G ko ad w h la tp ft tr mv S) ss.heap.size) [oC ko 6 [.ref (ad 0), .ref (ad 1), .int (nI w), .int (nI h), .int (nI la), .ref (ad 2), .int (mv 0), .int (mv 1), .int (mv 2), .int (mv 3), .int (mv 4), .int (mv 5), .int (mv 6), .ref (ad 3), .int (nI tp), .int (mv 7), .int (mv 8), .int (mv 9), .int (mv 10), .int ft, .int (mv 11), .ref (ad 4), .ref (ad 5), .ref (ad 6), .ref (ad 7), .ref (ad 8), .ref (ad 9), .ref (ad 10), .int tr], iA G (ad 0) 255 (upd (upd S (48 + (2 * nl)) d) ((48 + (2 * nl)) + 1) blind)] := hD
        refine lv_aload_n hx hb dX6_grind_81 rfl (lv_at hl 0 rfl) ?_
        refine va_get (D := G.1) (ci := 6) (v := .ref (ad 0)) (C := RX6) (T := TX6) (N := 29) hx hb hts hin6 hown hK.1 hP 0 rfl rfl 0 (by decide) (hts (.fieldLink RX6 7 "BackLensesModel" "st" "[I") (List.mem_of_getElem? (i := 1) rfl)) (fun _ h9 => h9) rfl dX6_grind_82 ?_
        refine lv_bipush (v := nI 47) hx hb dX6_grind_85 (by decide) ?_
        refine lv_dup2_11 hx hb dX6_grind_87 rfl rfl ?_
        refine xn_iald hx hb hK hP 1 rfl (by omega) (by omega) dX6_grind_88 ?_
        refine xn_top (y := nI nl) (by rw [upd_ne (by omega), upd_ne (by omega)]; exact hs47) ?_
        refine lv_iconst (v := nI 1) hx hb dX6_grind_89 (by decide) ?_
        refine xn_iadd hx hb dX6_grind_90 ?_
        refine xn_iast hx hb hK hP hD hS 1 rfl (by omega) (by omega) dX6_grind_91 (fun H locs hP hD hS => ?_)
        replace hP : xP G [oC ko 6 [.ref (ad 0), .ref (ad 1), .int (nI w), .int (nI h), .int (nI la), .ref (ad 2), .int (mv 0), .int (mv 1), .int (mv 2), .int (mv 3), .int (mv 4), .int (mv 5), .int (mv 6), .ref (ad 3), .int (nI tp), .int (mv 7), .int (mv 8), .int (mv 9), .int (mv 10), .int ft, .int (mv 11), .ref (ad 4), .ref (ad 5), .ref (ad 6), .ref (ad 7), .ref (ad 8), .ref (ad 9), .ref (ad 10), .int tr], iA G (ad 0) 255 (upd (upd (upd S (48 + (2 * nl)) d) ((48 + (2 * nl)) + 1) blind) 47 (nI (nl + 1)))] H := hP
        replace hD : va_D (va_A (w_X6_grind G ko ad w h la tp ft tr mv S) ss.heap.size) [oC ko 6 [.ref (ad 0), .ref (ad 1), .int (nI w), .int (nI h), .int (nI la), .ref (ad 2), .int (mv 0), .int (mv 1), .int (mv 2), .int (mv 3), .int (mv 4), .int (mv 5), .int (mv 6), .ref (ad 3), .int (nI tp), .int (mv 7), .int (mv 8), .int (mv 9), .int (mv 10), .int ft, .int (mv 11), .ref (ad 4), .ref (ad 5), .ref (ad 6), .ref (ad 7), .ref (ad 8), .ref (ad 9), .ref (ad 10), .int tr], iA G (ad 0) 255 (upd (upd (upd S (48 + (2 * nl)) d) ((48 + (2 * nl)) + 1) blind) 47 (nI (nl + 1)))] := hD
        refine lv_aload_n hx hb dX6_grind_92 rfl (lv_at hl 0 rfl) ?_
        refine va_get (D := G.1) (ci := 6) (v := .ref (ad 0)) (C := RX6) (T := TX6) (N := 29) hx hb hts hin6 hown hK.1 hP 0 rfl rfl 0 (by decide) (hts (.fieldLink RX6 7 "BackLensesModel" "st" "[I") (List.mem_of_getElem? (i := 1) rfl)) (fun _ h9 => h9) rfl dX6_grind_93 ?_
        refine lv_bipush (v := nI 47) hx hb dX6_grind_96 (by decide) ?_
        refine xn_iald hx hb hK hP 1 rfl (by omega) (by omega) dX6_grind_98 ?_
        refine xn_top (y := nI (nl + 1)) (by exact upd_eq) ?_
        have hP := hP.sub (ws' := [oC ko 6 [.ref (ad 0), .ref (ad 1), .int (nI w), .int (nI h), .int (nI la), .ref (ad 2), .int (mv 0), .int (mv 1), .int (mv 2), .int (mv 3), .int (mv 4), .int (mv 5), .int (mv 6), .ref (ad 3), .int (nI tp), .int (mv 7), .int (mv 8), .int (mv 9), .int (mv 10), .int ft, .int (mv 11), .ref (ad 4), .ref (ad 5), .ref (ad 6), .ref (ad 7), .ref (ad 8), .ref (ad 9), .ref (ad 10), .int tr], iA G (ad 0) 255 (upd (upd (upd S (48 + (2 * nl)) d) ((48 + (2 * nl)) + 1) blind) 47 (nI (nl + 1)))]) [0, 1] rfl
        have hD := hD.sub (ws' := [oC ko 6 [.ref (ad 0), .ref (ad 1), .int (nI w), .int (nI h), .int (nI la), .ref (ad 2), .int (mv 0), .int (mv 1), .int (mv 2), .int (mv 3), .int (mv 4), .int (mv 5), .int (mv 6), .ref (ad 3), .int (nI tp), .int (mv 7), .int (mv 8), .int (mv 9), .int (mv 10), .int ft, .int (mv 11), .ref (ad 4), .ref (ad 5), .ref (ad 6), .ref (ad 7), .ref (ad 8), .ref (ad 9), .ref (ad 10), .int tr], iA G (ad 0) 255 (upd (upd (upd S (48 + (2 * nl)) d) ((48 + (2 * nl)) + 1) blind) 47 (nI (nl + 1)))]) [0, 1] (by decide) rfl
        refine W.iret (v := nI (nl + 1)) hx hb hr (fun t ht hW => ⟨⟨nI (nl + 1), (upd (upd (upd S (48 + (2 * nl)) d) ((48 + (2 * nl)) + 1) blind) 47 (nI (nl + 1))), rfl, ?_, by rw [ht]; exact hP, hD⟩, hS.F ht⟩) hS.2.2 dX6_grind_99
        first | exact ⟨(if_neg (fun q => b5 q.1)).symm, (if_neg (fun q => b5 q.1)).symm⟩ | exact ⟨(if_neg (fun q => b23 q.2)).symm, (if_neg (fun q => b23 q.2.1)).symm⟩ | exact ⟨((if_pos ⟨b5, b23⟩).trans (if_neg (by omega))).symm, (if_neg (fun q => absurd q.2.2 (by omega))).symm⟩ | exact ⟨((if_pos ⟨b5, b23⟩).trans (if_pos (by omega))).symm, (if_pos ⟨b5, b23, by omega⟩).symm⟩
      · skip
        refine lv_bipush (v := (-3)) hx hb dX6_grind_40 (by decide) ?_
        have hP := hP.sub (ws' := [oC ko 6 [.ref (ad 0), .ref (ad 1), .int (nI w), .int (nI h), .int (nI la), .ref (ad 2), .int (mv 0), .int (mv 1), .int (mv 2), .int (mv 3), .int (mv 4), .int (mv 5), .int (mv 6), .ref (ad 3), .int (nI tp), .int (mv 7), .int (mv 8), .int (mv 9), .int (mv 10), .int ft, .int (mv 11), .ref (ad 4), .ref (ad 5), .ref (ad 6), .ref (ad 7), .ref (ad 8), .ref (ad 9), .ref (ad 10), .int tr], iA G (ad 0) 255 S]) [0, 1] rfl
        have hD := hD.sub (ws' := [oC ko 6 [.ref (ad 0), .ref (ad 1), .int (nI w), .int (nI h), .int (nI la), .ref (ad 2), .int (mv 0), .int (mv 1), .int (mv 2), .int (mv 3), .int (mv 4), .int (mv 5), .int (mv 6), .ref (ad 3), .int (nI tp), .int (mv 7), .int (mv 8), .int (mv 9), .int (mv 10), .int ft, .int (mv 11), .ref (ad 4), .ref (ad 5), .ref (ad 6), .ref (ad 7), .ref (ad 8), .ref (ad 9), .ref (ad 10), .int tr], iA G (ad 0) 255 S]) [0, 1] (by decide) rfl
        refine W.iret (v := (-3)) hx hb hr (fun t ht hW => ⟨⟨(-3), (S), rfl, ?_, by rw [ht]; exact hP, hD⟩, hS.F ht⟩) hS.2.2 dX6_grind_42
        first | exact ⟨(if_neg (fun q => b5 q.1)).symm, (if_neg (fun q => b5 q.1)).symm⟩ | exact ⟨(if_neg (fun q => b23 q.2)).symm, (if_neg (fun q => b23 q.2.1)).symm⟩ | exact ⟨((if_pos ⟨b5, b23⟩).trans (if_neg (by omega))).symm, (if_neg (fun q => absurd q.2.2 (by omega))).symm⟩ | exact ⟨((if_pos ⟨b5, b23⟩).trans (if_pos (by omega))).symm, (if_pos ⟨b5, b23, by omega⟩).symm⟩
    · skip
      refine lv_iconst (v := (-1)) hx hb dX6_grind_26 (by decide) ?_
      have hP := hP.sub (ws' := [oC ko 6 [.ref (ad 0), .ref (ad 1), .int (nI w), .int (nI h), .int (nI la), .ref (ad 2), .int (mv 0), .int (mv 1), .int (mv 2), .int (mv 3), .int (mv 4), .int (mv 5), .int (mv 6), .ref (ad 3), .int (nI tp), .int (mv 7), .int (mv 8), .int (mv 9), .int (mv 10), .int ft, .int (mv 11), .ref (ad 4), .ref (ad 5), .ref (ad 6), .ref (ad 7), .ref (ad 8), .ref (ad 9), .ref (ad 10), .int tr], iA G (ad 0) 255 S]) [0, 1] rfl
      have hD := hD.sub (ws' := [oC ko 6 [.ref (ad 0), .ref (ad 1), .int (nI w), .int (nI h), .int (nI la), .ref (ad 2), .int (mv 0), .int (mv 1), .int (mv 2), .int (mv 3), .int (mv 4), .int (mv 5), .int (mv 6), .ref (ad 3), .int (nI tp), .int (mv 7), .int (mv 8), .int (mv 9), .int (mv 10), .int ft, .int (mv 11), .ref (ad 4), .ref (ad 5), .ref (ad 6), .ref (ad 7), .ref (ad 8), .ref (ad 9), .ref (ad 10), .int tr], iA G (ad 0) 255 S]) [0, 1] (by decide) rfl
      refine W.iret (v := (-1)) hx hb hr (fun t ht hW => ⟨⟨(-1), (S), rfl, ?_, by rw [ht]; exact hP, hD⟩, hS.F ht⟩) hS.2.2 dX6_grind_27
      first | exact ⟨(if_neg (fun q => b5 q.1)).symm, (if_neg (fun q => b5 q.1)).symm⟩ | exact ⟨(if_neg (fun q => b23 q.2)).symm, (if_neg (fun q => b23 q.2.1)).symm⟩ | exact ⟨((if_pos ⟨b5, b23⟩).trans (if_neg (by omega))).symm, (if_neg (fun q => absurd q.2.2 (by omega))).symm⟩ | exact ⟨((if_pos ⟨b5, b23⟩).trans (if_pos (by omega))).symm, (if_pos ⟨b5, b23, by omega⟩).symm⟩

abbrev w_X6_regrind (G : XG) (ko : Nat) (ad : Nat → Nat) (w h la tp : Nat) (ft tr : Int32) (mv : Nat → Int32) (S : Nat → Int32) : va_W := [oC ko 6 [.ref (ad 0), .ref (ad 1), .int (nI w), .int (nI h), .int (nI la), .ref (ad 2), .int (mv 0), .int (mv 1), .int (mv 2), .int (mv 3), .int (mv 4), .int (mv 5), .int (mv 6), .ref (ad 3), .int (nI tp), .int (mv 7), .int (mv 8), .int (mv 9), .int (mv 10), .int ft, .int (mv 11), .ref (ad 4), .ref (ad 5), .ref (ad 6), .ref (ad 7), .ref (ad 8), .ref (ad 9), .ref (ad 10), .int tr], iA G (ad 0) 255 S]
abbrev Q_X6_regrind (G : XG) (sz : Nat) (ko : Nat) (ad : Nat → Nat) (w h la tp : Nat) (ft tr : Int32) (mv : Nat → Int32) (S : Nat → Int32) (nl : Nat) (i d : Int32) : Array Value → State → Outcome → State → Prop := (va_Qi (fun (r : Int32) (u : (Nat → Int32)) => r = (if inR i nl ∧ inR d (la + 1) then S (48 + 2 * tn i) else (-1)) ∧ u = (if inR i nl ∧ inR d (la + 1) then upd S (48 + 2 * tn i) d else S)) (xWb G sz (w_X6_regrind G ko ad w h la tp ft tr mv S) (fun u : (Nat → Int32) => [oC ko 6 [.ref (ad 0), .ref (ad 1), .int (nI w), .int (nI h), .int (nI la), .ref (ad 2), .int (mv 0), .int (mv 1), .int (mv 2), .int (mv 3), .int (mv 4), .int (mv 5), .int (mv 6), .ref (ad 3), .int (nI tp), .int (mv 7), .int (mv 8), .int (mv 9), .int (mv 10), .int ft, .int (mv 11), .ref (ad 4), .ref (ad 5), .ref (ad 6), .ref (ad 7), .ref (ad 8), .ref (ad 9), .ref (ad 10), .int tr], iA G (ad 0) 255 u])) (va_A (w_X6_regrind G ko ad w h la tp ft tr mv S) sz))
set_option maxHeartbeats 4000000 in
set_option maxRecDepth 100000 in
theorem c_X6_regrind (l : Launch) (G : XG) (sz : Nat) (ko : Nat) (ad : Nat → Nat) (w h la tp : Nat) (ft tr : Int32) (mv : Nat → Int32) (S : Nat → Int32) (nl : Nat) (i d : Int32) (hla : la ≤ 9) (hs47 : S 47 = nI nl) (hnl : nl ≤ 6) : Met l yX6_regrind wsX6_regrind ({ frames := 2, cells := 0, slots := 0, locals := 46 } : Room) (va_Pc [.ref ko, .int i, .int d] (xWp G sz (w_X6_regrind G ko ad w h la tp ft tr mv S))) (Q_X6_regrind G sz ko ad w h la tp ft tr mv S nl i d) 0 0 (va_A (w_X6_regrind G ko ad w h la tp ft tr mv S) sz) := by
  refine Met.ofW (cc := cX6_regrind) (maxL := 3) (ret := (some .int)) (by decide) rfl ?_
  intro pp ee ss mm aa below mt cd s₁ BB hml hv
  obtain ⟨rfl, hsz, hP, hK, hD0⟩ := hv
  have hx := BB.exec
  have hb := BB.bytes
  have hr := BB.returns
  have hts := atoms_spec (ws := wsX6_regrind) BB.pre
  have hown : ss.vm.findClass RX6 = some mm.cls := findClass_of_methodNamed BB.named
  have hlocks := BB.notSynchronized
  subst hsz
  have hD := hD0.self (sz := ss.heap.size)
  have hA : ∀ q : Nat, ss.heap.size ≤ q → va_A (w_X6_regrind G ko ad w h la tp ft tr mv S) ss.heap.size q := fun q h => Or.inr h
  have hS : va_S (va_A (w_X6_regrind G ko ad w h la tp ft tr mv S) ss.heap.size) ss.heap ss.heap [] := va_S.rf
  replace hD : va_D (va_A (w_X6_regrind G ko ad w h la tp ft tr mv S) ss.heap.size) [oC ko 6 [.ref (ad 0), .ref (ad 1), .int (nI w), .int (nI h), .int (nI la), .ref (ad 2), .int (mv 0), .int (mv 1), .int (mv 2), .int (mv 3), .int (mv 4), .int (mv 5), .int (mv 6), .ref (ad 3), .int (nI tp), .int (mv 7), .int (mv 8), .int (mv 9), .int (mv 10), .int ft, .int (mv 11), .ref (ad 4), .ref (ad 5), .ref (ad 6), .ref (ad 7), .ref (ad 8), .ref (ad 9), .ref (ad 10), .int tr], iA G (ad 0) 255 S] := hD
  replace hP : xP G [oC ko 6 [.ref (ad 0), .ref (ad 1), .int (nI w), .int (nI h), .int (nI la), .ref (ad 2), .int (mv 0), .int (mv 1), .int (mv 2), .int (mv 3), .int (mv 4), .int (mv 5), .int (mv 6), .ref (ad 3), .int (nI tp), .int (mv 7), .int (mv 8), .int (mv 9), .int (mv 10), .int ft, .int (mv 11), .ref (ad 4), .ref (ad 5), .ref (ad 6), .ref (ad 7), .ref (ad 8), .ref (ad 9), .ref (ad 10), .int tr], iA G (ad 0) 255 S] ss.heap := hP
  have hin6 : ∀ w ∈ u_ws RX6 TX6 29, w ∈ wsX6_regrind := fun w h => List.mem_cons_of_mem _ (List.mem_append_right _ h)
  have hl := lv_entry ([.ref ko, .int i, .int d]) (n := 3) (Nat.le_of_ble_eq_true rfl)
  rw [lg_entry_eq]
  generalize (lg_sl ([.ref ko, .int i, .int d]) ++ List.replicate (3 - (lg_sl ([.ref ko, .int i, .int d])).length) Slot.unset).toArray = ls at hl ⊢
  replace hl : lv_has ls 3 [(0, .ref ko), (1, .int i), (2, .int d)] := hl
  refine lv_aload_n hx hb dX6_regrind_0 rfl (lv_at hl 0 rfl) ?_
  refine lv_iload_n hx hb dX6_regrind_1 rfl (lv_at hl 1 rfl) ?_
  refine xr_i (As := [.int i]) (rest := []) ⟨hx, hb, hml, hown, hts⟩ (c_X6_isLens l G ko ad w h la tp ft tr mv S _ i (by first | assumption | omega) (by first | assumption | omega)) (cwV 1 hts gX6_regrind_X6_isLens rfl rfl rfl (by decide +kernel) ⟨Nat.le_of_ble_eq_true rfl, Nat.le_of_ble_eq_true rfl⟩) hK hP hS [0, 1] rfl rfl rfl rfl hl.1 rfl (Nat.le_of_ble_eq_true rfl) dX6_regrind_2 ⟨Nat.zero_le _, Nat.zero_le _⟩ (fun r2 H locs hp2 hP hS => ?_)
  rw [show r2 = _ from hp2]
  refine xb_if_eq (tgt := 30) hx hb dX6_regrind_5 rfl (fun b5 => ?_) (fun b5 => ?_)
  · skip
    refine lv_iconst (v := (-1)) hx hb dX6_regrind_30 (by decide) ?_
    have hP := hP.sub (ws' := [oC ko 6 [.ref (ad 0), .ref (ad 1), .int (nI w), .int (nI h), .int (nI la), .ref (ad 2), .int (mv 0), .int (mv 1), .int (mv 2), .int (mv 3), .int (mv 4), .int (mv 5), .int (mv 6), .ref (ad 3), .int (nI tp), .int (mv 7), .int (mv 8), .int (mv 9), .int (mv 10), .int ft, .int (mv 11), .ref (ad 4), .ref (ad 5), .ref (ad 6), .ref (ad 7), .ref (ad 8), .ref (ad 9), .ref (ad 10), .int tr], iA G (ad 0) 255 S]) [0, 1] rfl
    have hD := hD.sub (ws' := [oC ko 6 [.ref (ad 0), .ref (ad 1), .int (nI w), .int (nI h), .int (nI la), .ref (ad 2), .int (mv 0), .int (mv 1), .int (mv 2), .int (mv 3), .int (mv 4), .int (mv 5), .int (mv 6), .ref (ad 3), .int (nI tp), .int (mv 7), .int (mv 8), .int (mv 9), .int (mv 10), .int ft, .int (mv 11), .ref (ad 4), .ref (ad 5), .ref (ad 6), .ref (ad 7), .ref (ad 8), .ref (ad 9), .ref (ad 10), .int tr], iA G (ad 0) 255 S]) [0, 1] (by decide) rfl
    refine W.iret (v := (-1)) hx hb hr (fun t ht hW => ⟨⟨(-1), (S), rfl, ?_, by rw [ht]; exact hP, hD⟩, hS.F ht⟩) hS.2.2 dX6_regrind_31
    first | exact ⟨(if_neg (fun q => b5 q.1)).symm, (if_neg (fun q => b5 q.1)).symm⟩ | exact ⟨(if_neg (fun q => b13 q.2)).symm, (if_neg (fun q => b13 q.2)).symm⟩ | (rw [if_pos ⟨inR_nI hi0 (by omega), b13⟩, if_pos ⟨inR_nI hi0 (by omega), b13⟩, tn_nI (by omega)]; exact ⟨rfl, rfl⟩)
  · skip
    refine lv_aload_n hx hb dX6_regrind_8 rfl (lv_at hl 0 rfl) ?_
    refine lv_iload_n hx hb dX6_regrind_9 rfl (lv_at hl 2 rfl) ?_
    refine xr_i (As := [.int d]) (rest := []) ⟨hx, hb, hml, hown, hts⟩ (c_X6_isDay l G ko ad w h la tp ft tr mv d (by first | assumption | omega)) (cwV 1 hts gX6_regrind_X6_isDay rfl rfl rfl (by decide +kernel) ⟨Nat.le_of_ble_eq_true rfl, Nat.le_of_ble_eq_true rfl⟩) hK hP hS [0] rfl rfl rfl rfl hl.1 rfl (Nat.le_of_ble_eq_true rfl) dX6_regrind_10 ⟨Nat.zero_le _, Nat.zero_le _⟩ (fun r10 H locs hp10 hP hS => ?_)
    rw [show r10 = _ from hp10]
    refine xb_if_eq (tgt := 30) hx hb dX6_regrind_13 rfl (fun b13 => ?_) (fun b13 => ?_)
    · skip
      refine lv_iconst (v := (-1)) hx hb dX6_regrind_30 (by decide) ?_
      have hP := hP.sub (ws' := [oC ko 6 [.ref (ad 0), .ref (ad 1), .int (nI w), .int (nI h), .int (nI la), .ref (ad 2), .int (mv 0), .int (mv 1), .int (mv 2), .int (mv 3), .int (mv 4), .int (mv 5), .int (mv 6), .ref (ad 3), .int (nI tp), .int (mv 7), .int (mv 8), .int (mv 9), .int (mv 10), .int ft, .int (mv 11), .ref (ad 4), .ref (ad 5), .ref (ad 6), .ref (ad 7), .ref (ad 8), .ref (ad 9), .ref (ad 10), .int tr], iA G (ad 0) 255 S]) [0, 1] rfl
      have hD := hD.sub (ws' := [oC ko 6 [.ref (ad 0), .ref (ad 1), .int (nI w), .int (nI h), .int (nI la), .ref (ad 2), .int (mv 0), .int (mv 1), .int (mv 2), .int (mv 3), .int (mv 4), .int (mv 5), .int (mv 6), .ref (ad 3), .int (nI tp), .int (mv 7), .int (mv 8), .int (mv 9), .int (mv 10), .int ft, .int (mv 11), .ref (ad 4), .ref (ad 5), .ref (ad 6), .ref (ad 7), .ref (ad 8), .ref (ad 9), .ref (ad 10), .int tr], iA G (ad 0) 255 S]) [0, 1] (by decide) rfl
      refine W.iret (v := (-1)) hx hb hr (fun t ht hW => ⟨⟨(-1), (S), rfl, ?_, by rw [ht]; exact hP, hD⟩, hS.F ht⟩) hS.2.2 dX6_regrind_31
      first | exact ⟨(if_neg (fun q => b5 q.1)).symm, (if_neg (fun q => b5 q.1)).symm⟩ | exact ⟨(if_neg (fun q => b13 q.2)).symm, (if_neg (fun q => b13 q.2)).symm⟩ | (rw [if_pos ⟨inR_nI hi0 (by omega), b13⟩, if_pos ⟨inR_nI hi0 (by omega), b13⟩, tn_nI (by omega)]; exact ⟨rfl, rfl⟩)
    · skip
      obtain ⟨i0, hi0, rfl⟩ := inR_nat b5
      refine lv_aload_n hx hb dX6_regrind_16 rfl (lv_at hl 0 rfl) ?_
      refine lv_bipush (v := nI 48) hx hb dX6_regrind_17 (by decide) ?_
      refine lv_iconst (v := nI 2) hx hb dX6_regrind_19 (by decide) ?_
      refine lv_iload_n hx hb dX6_regrind_20 rfl (lv_at hl 1 rfl) ?_
      refine xn_imul hx hb dX6_regrind_21 ?_
      refine xn_iadd hx hb dX6_regrind_22 ?_
      refine lv_iload_n hx hb dX6_regrind_23 rfl (lv_at hl 2 rfl) ?_
      refine xw_i (As := [.int (nI (48 + (2 * i0))), .int d]) (rest := []) (wr := []) ⟨hx, hb, hml, hown, hts⟩ (c_X6_becomes l G H.size ko ad w h la tp ft tr mv S (48 + (2 * i0)) d (by first | assumption | omega)) (cwV 2 hts gX6_regrind_X6_becomes rfl rfl rfl (by decide +kernel) ⟨Nat.le_of_ble_eq_true rfl, Nat.le_of_ble_eq_true rfl⟩) hK hP hD hS hA [0, 1] [] rfl rfl (by decide) (by decide) (by decide) rfl rfl rfl hl.1 rfl (Nat.le_of_ble_eq_true rfl) dX6_regrind_24 ⟨Nat.le_of_ble_eq_true rfl, Nat.le_of_ble_eq_true rfl⟩ (fun r24 u H locs hp24 hP hD hS => ?_)
      obtain ⟨u0_24, rfl⟩ : ∃ z, z = u := ⟨_, rfl⟩
      try dsimp only at hp24 hP hD
      obtain ⟨rfl, rfl⟩ := hp24
      replace hP : xP G [oC ko 6 [.ref (ad 0), .ref (ad 1), .int (nI w), .int (nI h), .int (nI la), .ref (ad 2), .int (mv 0), .int (mv 1), .int (mv 2), .int (mv 3), .int (mv 4), .int (mv 5), .int (mv 6), .ref (ad 3), .int (nI tp), .int (mv 7), .int (mv 8), .int (mv 9), .int (mv 10), .int ft, .int (mv 11), .ref (ad 4), .ref (ad 5), .ref (ad 6), .ref (ad 7), .ref (ad 8), .ref (ad 9), .ref (ad 10), .int tr], iA G (ad 0) 255 (upd S (48 + (2 * i0)) d)] H := hP
      replace hD : va_D (va_A (w_X6_regrind G ko ad w h la tp ft tr mv S) ss.heap.size) [oC ko 6 [.ref (ad 0), .ref (ad 1), .int (nI w), .int (nI h), .int (nI la), .ref (ad 2), .int (mv 0), .int (mv 1), .int (mv 2), .int (mv 3), .int (mv 4), .int (mv 5), .int (mv 6), .ref (ad 3), .int (nI tp), .int (mv 7), .int (mv 8), .int (mv 9), .int (mv 10), .int ft, .int (mv 11), .ref (ad 4), .ref (ad 5), .ref (ad 6), .ref (ad 7), .ref (ad 8), .ref (ad 9), .ref (ad 10), .int tr], iA G (ad 0) 255 (upd S (48 + (2 * i0)) d)] := hD
      refine lv_goto (tgt := 31) hx hb dX6_regrind_27 rfl ?_
      have hP := hP.sub (ws' := [oC ko 6 [.ref (ad 0), .ref (ad 1), .int (nI w), .int (nI h), .int (nI la), .ref (ad 2), .int (mv 0), .int (mv 1), .int (mv 2), .int (mv 3), .int (mv 4), .int (mv 5), .int (mv 6), .ref (ad 3), .int (nI tp), .int (mv 7), .int (mv 8), .int (mv 9), .int (mv 10), .int ft, .int (mv 11), .ref (ad 4), .ref (ad 5), .ref (ad 6), .ref (ad 7), .ref (ad 8), .ref (ad 9), .ref (ad 10), .int tr], iA G (ad 0) 255 (upd S (48 + (2 * i0)) d)]) [0, 1] rfl
      have hD := hD.sub (ws' := [oC ko 6 [.ref (ad 0), .ref (ad 1), .int (nI w), .int (nI h), .int (nI la), .ref (ad 2), .int (mv 0), .int (mv 1), .int (mv 2), .int (mv 3), .int (mv 4), .int (mv 5), .int (mv 6), .ref (ad 3), .int (nI tp), .int (mv 7), .int (mv 8), .int (mv 9), .int (mv 10), .int ft, .int (mv 11), .ref (ad 4), .ref (ad 5), .ref (ad 6), .ref (ad 7), .ref (ad 8), .ref (ad 9), .ref (ad 10), .int tr], iA G (ad 0) 255 (upd S (48 + (2 * i0)) d)]) [0, 1] (by decide) rfl
      refine W.iret (v := S (48 + (2 * i0))) hx hb hr (fun t ht hW => ⟨⟨S (48 + (2 * i0)), ((upd S (48 + (2 * i0)) d)), rfl, ?_, by rw [ht]; exact hP, hD⟩, hS.F ht⟩) hS.2.2 dX6_regrind_31
      first | exact ⟨(if_neg (fun q => b5 q.1)).symm, (if_neg (fun q => b5 q.1)).symm⟩ | exact ⟨(if_neg (fun q => b13 q.2)).symm, (if_neg (fun q => b13 q.2)).symm⟩ | (rw [if_pos ⟨inR_nI hi0 (by omega), b13⟩, if_pos ⟨inR_nI hi0 (by omega), b13⟩, tn_nI (by omega)]; exact ⟨rfl, rfl⟩)

abbrev w_X6_crack (G : XG) (ko : Nat) (ad : Nat → Nat) (w h la tp : Nat) (ft tr : Int32) (mv : Nat → Int32) (S : Nat → Int32) : va_W := [oC ko 6 [.ref (ad 0), .ref (ad 1), .int (nI w), .int (nI h), .int (nI la), .ref (ad 2), .int (mv 0), .int (mv 1), .int (mv 2), .int (mv 3), .int (mv 4), .int (mv 5), .int (mv 6), .ref (ad 3), .int (nI tp), .int (mv 7), .int (mv 8), .int (mv 9), .int (mv 10), .int ft, .int (mv 11), .ref (ad 4), .ref (ad 5), .ref (ad 6), .ref (ad 7), .ref (ad 8), .ref (ad 9), .ref (ad 10), .int tr], iA G (ad 0) 255 S]
abbrev Q_X6_crack (G : XG) (sz : Nat) (ko : Nat) (ad : Nat → Nat) (w h la tp : Nat) (ft tr : Int32) (mv : Nat → Int32) (S : Nat → Int32) (nl : Nat) (i c is : Int32) : Array Value → State → Outcome → State → Prop := (va_Qi (fun (r : Int32) (u : (Nat → Int32)) => r = (if inR i nl ∧ inR c (w * h) then ((S (48 + 2 * tn i + 1)) >>> (nI (tn c) &&& 31)) &&& nI 1 else (-1)) ∧ u = (if inR i nl ∧ inR c (w * h) then upd S (48 + 2 * tn i + 1) (if is = 0 then (S (48 + 2 * tn i + 1)) &&& (xbit (tn c) ^^^ (-1)) else (S (48 + 2 * tn i + 1)) ||| xbit (tn c)) else S)) (xWb G sz (w_X6_crack G ko ad w h la tp ft tr mv S) (fun u : (Nat → Int32) => [oC ko 6 [.ref (ad 0), .ref (ad 1), .int (nI w), .int (nI h), .int (nI la), .ref (ad 2), .int (mv 0), .int (mv 1), .int (mv 2), .int (mv 3), .int (mv 4), .int (mv 5), .int (mv 6), .ref (ad 3), .int (nI tp), .int (mv 7), .int (mv 8), .int (mv 9), .int (mv 10), .int ft, .int (mv 11), .ref (ad 4), .ref (ad 5), .ref (ad 6), .ref (ad 7), .ref (ad 8), .ref (ad 9), .ref (ad 10), .int tr], iA G (ad 0) 255 u])) (va_A (w_X6_crack G ko ad w h la tp ft tr mv S) sz))
set_option maxHeartbeats 4000000 in
set_option maxRecDepth 100000 in
theorem c_X6_crack (l : Launch) (G : XG) (sz : Nat) (ko : Nat) (ad : Nat → Nat) (w h la tp : Nat) (ft tr : Int32) (mv : Nat → Int32) (S : Nat → Int32) (nl : Nat) (i c is : Int32) (hw : 1 ≤ w) (hwb : w ≤ 16) (hhb : h ≤ 16) (hwh1 : 1 ≤ w * h) (hwh : w * h ≤ 16) (hs47 : S 47 = nI nl) (hnl : nl ≤ 6) : Met l yX6_crack wsX6_crack ({ frames := 2, cells := 0, slots := 0, locals := 46 } : Room) (va_Pc [.ref ko, .int i, .int c, .int is] (xWp G sz (w_X6_crack G ko ad w h la tp ft tr mv S))) (Q_X6_crack G sz ko ad w h la tp ft tr mv S nl i c is) 0 0 (va_A (w_X6_crack G ko ad w h la tp ft tr mv S) sz) := by
  refine Met.ofW (cc := cX6_crack) (maxL := 6) (ret := (some .int)) (by decide) rfl ?_
  intro pp ee ss mm aa below mt cd s₁ BB hml hv
  obtain ⟨rfl, hsz, hP, hK, hD0⟩ := hv
  have hx := BB.exec
  have hb := BB.bytes
  have hr := BB.returns
  have hts := atoms_spec (ws := wsX6_crack) BB.pre
  have hown : ss.vm.findClass RX6 = some mm.cls := findClass_of_methodNamed BB.named
  have hlocks := BB.notSynchronized
  subst hsz
  have hD := hD0.self (sz := ss.heap.size)
  have hA : ∀ q : Nat, ss.heap.size ≤ q → va_A (w_X6_crack G ko ad w h la tp ft tr mv S) ss.heap.size q := fun q h => Or.inr h
  have hS : va_S (va_A (w_X6_crack G ko ad w h la tp ft tr mv S) ss.heap.size) ss.heap ss.heap [] := va_S.rf
  replace hD : va_D (va_A (w_X6_crack G ko ad w h la tp ft tr mv S) ss.heap.size) [oC ko 6 [.ref (ad 0), .ref (ad 1), .int (nI w), .int (nI h), .int (nI la), .ref (ad 2), .int (mv 0), .int (mv 1), .int (mv 2), .int (mv 3), .int (mv 4), .int (mv 5), .int (mv 6), .ref (ad 3), .int (nI tp), .int (mv 7), .int (mv 8), .int (mv 9), .int (mv 10), .int ft, .int (mv 11), .ref (ad 4), .ref (ad 5), .ref (ad 6), .ref (ad 7), .ref (ad 8), .ref (ad 9), .ref (ad 10), .int tr], iA G (ad 0) 255 S] := hD
  replace hP : xP G [oC ko 6 [.ref (ad 0), .ref (ad 1), .int (nI w), .int (nI h), .int (nI la), .ref (ad 2), .int (mv 0), .int (mv 1), .int (mv 2), .int (mv 3), .int (mv 4), .int (mv 5), .int (mv 6), .ref (ad 3), .int (nI tp), .int (mv 7), .int (mv 8), .int (mv 9), .int (mv 10), .int ft, .int (mv 11), .ref (ad 4), .ref (ad 5), .ref (ad 6), .ref (ad 7), .ref (ad 8), .ref (ad 9), .ref (ad 10), .int tr], iA G (ad 0) 255 S] ss.heap := hP
  have hin6 : ∀ w ∈ u_ws RX6 TX6 29, w ∈ wsX6_crack := fun w h => List.mem_cons_of_mem _ (List.mem_append_right _ h)
  have hl := lv_entry ([.ref ko, .int i, .int c, .int is]) (n := 6) (Nat.le_of_ble_eq_true rfl)
  rw [lg_entry_eq]
  generalize (lg_sl ([.ref ko, .int i, .int c, .int is]) ++ List.replicate (6 - (lg_sl ([.ref ko, .int i, .int c, .int is])).length) Slot.unset).toArray = ls at hl ⊢
  replace hl : lv_has ls 6 [(0, .ref ko), (1, .int i), (2, .int c), (3, .int is)] := hl
  refine lv_aload_n hx hb dX6_crack_0 rfl (lv_at hl 0 rfl) ?_
  refine lv_iload_n hx hb dX6_crack_1 rfl (lv_at hl 1 rfl) ?_
  refine xr_i (As := [.int i]) (rest := []) ⟨hx, hb, hml, hown, hts⟩ (c_X6_isLens l G ko ad w h la tp ft tr mv S _ i (by first | assumption | omega) (by first | assumption | omega)) (cwV 1 hts gX6_crack_X6_isLens rfl rfl rfl (by decide +kernel) ⟨Nat.le_of_ble_eq_true rfl, Nat.le_of_ble_eq_true rfl⟩) hK hP hS [0, 1] rfl rfl rfl rfl hl.1 rfl (Nat.le_of_ble_eq_true rfl) dX6_crack_2 ⟨Nat.zero_le _, Nat.zero_le _⟩ (fun r2 H locs hp2 hP hS => ?_)
  rw [show r2 = _ from hp2]
  refine xb_if_eq (tgt := 16) hx hb dX6_crack_5 rfl (fun b5 => ?_) (fun b5 => ?_)
  · skip
    refine lv_iconst (v := (-1)) hx hb dX6_crack_16 (by decide) ?_
    have hP := hP.sub (ws' := [oC ko 6 [.ref (ad 0), .ref (ad 1), .int (nI w), .int (nI h), .int (nI la), .ref (ad 2), .int (mv 0), .int (mv 1), .int (mv 2), .int (mv 3), .int (mv 4), .int (mv 5), .int (mv 6), .ref (ad 3), .int (nI tp), .int (mv 7), .int (mv 8), .int (mv 9), .int (mv 10), .int ft, .int (mv 11), .ref (ad 4), .ref (ad 5), .ref (ad 6), .ref (ad 7), .ref (ad 8), .ref (ad 9), .ref (ad 10), .int tr], iA G (ad 0) 255 S]) [0, 1] rfl
    have hD := hD.sub (ws' := [oC ko 6 [.ref (ad 0), .ref (ad 1), .int (nI w), .int (nI h), .int (nI la), .ref (ad 2), .int (mv 0), .int (mv 1), .int (mv 2), .int (mv 3), .int (mv 4), .int (mv 5), .int (mv 6), .ref (ad 3), .int (nI tp), .int (mv 7), .int (mv 8), .int (mv 9), .int (mv 10), .int ft, .int (mv 11), .ref (ad 4), .ref (ad 5), .ref (ad 6), .ref (ad 7), .ref (ad 8), .ref (ad 9), .ref (ad 10), .int tr], iA G (ad 0) 255 S]) [0, 1] (by decide) rfl
    refine W.iret (v := (-1)) hx hb hr (fun t ht hW => ⟨⟨(-1), (S), rfl, ?_, by rw [ht]; exact hP, hD⟩, hS.F ht⟩) hS.2.2 dX6_crack_17
    first | exact ⟨(if_neg (fun q => b5 q.1)).symm, (if_neg (fun q => b5 q.1)).symm⟩ | exact ⟨(if_neg (fun q => b13 q.2)).symm, (if_neg (fun q => b13 q.2)).symm⟩ | (have hok : inR (nI i0) nl ∧ inR (nI c0) (w * h) := ⟨inR_nI hi0 (by omega), inR_nI hc0 (by omega)⟩; rw [if_pos hok, if_pos hok, tn_nI (by omega), tn_nI (by omega)]; first | (rw [if_pos b48]; exact ⟨rfl, rfl⟩) | (rw [if_neg b48]; exact ⟨rfl, rfl⟩))
  · skip
    refine lv_aload_n hx hb dX6_crack_8 rfl (lv_at hl 0 rfl) ?_
    refine lv_iload_n hx hb dX6_crack_9 rfl (lv_at hl 2 rfl) ?_
    refine xr_i (As := [.int c]) (rest := []) ⟨hx, hb, hml, hown, hts⟩ (c_X6_isCell l G ko ad w h la tp ft tr mv c (by first | assumption | omega) (by first | assumption | omega)) (cwV 1 hts gX6_crack_X6_isCell rfl rfl rfl (by decide +kernel) ⟨Nat.le_of_ble_eq_true rfl, Nat.le_of_ble_eq_true rfl⟩) hK hP hS [0] rfl rfl rfl rfl hl.1 rfl (Nat.le_of_ble_eq_true rfl) dX6_crack_10 ⟨Nat.zero_le _, Nat.zero_le _⟩ (fun r10 H locs hp10 hP hS => ?_)
    rw [show r10 = _ from hp10]
    refine xb_if_ne (tgt := 18) hx hb dX6_crack_13 rfl (fun b13 => ?_) (fun b13 => ?_)
    · skip
      obtain ⟨i0, hi0, rfl⟩ := inR_nat b5
      obtain ⟨c0, hc0, rfl⟩ := inR_nat b13
      refine lv_bipush (v := nI 48) hx hb dX6_crack_18 (by decide) ?_
      refine lv_iconst (v := nI 2) hx hb dX6_crack_20 (by decide) ?_
      refine lv_iload_n hx hb dX6_crack_21 rfl (lv_at hl 1 rfl) ?_
      refine xn_imul hx hb dX6_crack_22 ?_
      refine xn_iadd hx hb dX6_crack_23 ?_
      refine lv_iconst (v := nI 1) hx hb dX6_crack_24 (by decide) ?_
      refine xn_iadd hx hb dX6_crack_25 ?_
      refine lv_istore (lv' := [(4, .int (nI ((48 + (2 * i0)) + 1))), (0, .ref ko), (1, .int (nI i0)), (2, .int (nI c0)), (3, .int is)]) hx hb dX6_crack_26 hl (by decide) rfl (fun ls hl => ?_)
      refine lv_aload_n hx hb dX6_crack_28 rfl (lv_at hl 1 rfl) ?_
      refine va_get (D := G.1) (ci := 6) (v := .ref (ad 0)) (C := RX6) (T := TX6) (N := 29) hx hb hts hin6 hown hK.1 hP 0 rfl rfl 0 (by decide) (hts (.fieldLink RX6 7 "BackLensesModel" "st" "[I") (List.mem_of_getElem? (i := 1) rfl)) (fun _ h9 => h9) rfl dX6_crack_29 ?_
      refine lv_iload hx hb dX6_crack_32 (lv_at hl 0 rfl) ?_
      refine xn_iald hx hb hK hP 1 rfl (by omega) (by omega) dX6_crack_34 ?_
      refine lv_iload_n hx hb dX6_crack_35 rfl (lv_at hl 3 rfl) ?_
      refine lv_ishr hx hb dX6_crack_36 ?_
      refine lv_iconst (v := nI 1) hx hb dX6_crack_37 (by decide) ?_
      refine lv_iand hx hb dX6_crack_38 ?_
      refine lv_istore (lv' := [(5, .int (((S ((48 + (2 * i0)) + 1)) >>> ((nI c0) &&& 31)) &&& (nI 1))), (4, .int (nI ((48 + (2 * i0)) + 1))), (0, .ref ko), (1, .int (nI i0)), (2, .int (nI c0)), (3, .int is)]) hx hb dX6_crack_39 hl (by decide) rfl (fun ls hl => ?_)
      refine lv_aload_n hx hb dX6_crack_41 rfl (lv_at hl 2 rfl) ?_
      refine va_get (D := G.1) (ci := 6) (v := .ref (ad 0)) (C := RX6) (T := TX6) (N := 29) hx hb hts hin6 hown hK.1 hP 0 rfl rfl 0 (by decide) (hts (.fieldLink RX6 7 "BackLensesModel" "st" "[I") (List.mem_of_getElem? (i := 1) rfl)) (fun _ h9 => h9) rfl dX6_crack_42 ?_
      refine lv_iload hx hb dX6_crack_45 (lv_at hl 1 rfl) ?_
      refine lv_iload_n hx hb dX6_crack_47 rfl (lv_at hl 5 rfl) ?_
      refine lv_if_eq (tgt := 65) hx hb dX6_crack_48 rfl (fun b48 => ?_) (fun b48 => ?_)
      · skip
        refine lv_aload_n hx hb dX6_crack_65 rfl (lv_at hl 2 rfl) ?_
        refine va_get (D := G.1) (ci := 6) (v := .ref (ad 0)) (C := RX6) (T := TX6) (N := 29) hx hb hts hin6 hown hK.1 hP 0 rfl rfl 0 (by decide) (hts (.fieldLink RX6 7 "BackLensesModel" "st" "[I") (List.mem_of_getElem? (i := 1) rfl)) (fun _ h9 => h9) rfl dX6_crack_66 ?_
        refine lv_iload hx hb dX6_crack_69 (lv_at hl 1 rfl) ?_
        refine xn_iald hx hb hK hP 1 rfl (by omega) (by omega) dX6_crack_71 ?_
        refine lv_iconst (v := nI 1) hx hb dX6_crack_72 (by decide) ?_
        refine lv_iload_n hx hb dX6_crack_73 rfl (lv_at hl 4 rfl) ?_
        refine lv_ishl hx hb dX6_crack_74 ?_
        refine lv_iconst (v := (-1)) hx hb dX6_crack_75 (by decide) ?_
        refine lv_ixor hx hb dX6_crack_76 ?_
        refine lv_iand hx hb dX6_crack_77 ?_
        refine xn_iast hx hb hK hP hD hS 1 rfl (by omega) (by omega) dX6_crack_78 (fun H locs hP hD hS => ?_)
        replace hP : xP G [oC ko 6 [.ref (ad 0), .ref (ad 1), .int (nI w), .int (nI h), .int (nI la), .ref (ad 2), .int (mv 0), .int (mv 1), .int (mv 2), .int (mv 3), .int (mv 4), .int (mv 5), .int (mv 6), .ref (ad 3), .int (nI tp), .int (mv 7), .int (mv 8), .int (mv 9), .int (mv 10), .int ft, .int (mv 11), .ref (ad 4), .ref (ad 5), .ref (ad 6), .ref (ad 7), .ref (ad 8), .ref (ad 9), .ref (ad 10), .int tr], iA G (ad 0) 255 (upd S ((48 + (2 * i0)) + 1) ((S ((48 + (2 * i0)) + 1)) &&& (((nI 1) <<< ((nI c0) &&& 31)) ^^^ (-1))))] H := hP
        replace hD : va_D (va_A (w_X6_crack G ko ad w h la tp ft tr mv S) ss.heap.size) [oC ko 6 [.ref (ad 0), .ref (ad 1), .int (nI w), .int (nI h), .int (nI la), .ref (ad 2), .int (mv 0), .int (mv 1), .int (mv 2), .int (mv 3), .int (mv 4), .int (mv 5), .int (mv 6), .ref (ad 3), .int (nI tp), .int (mv 7), .int (mv 8), .int (mv 9), .int (mv 10), .int ft, .int (mv 11), .ref (ad 4), .ref (ad 5), .ref (ad 6), .ref (ad 7), .ref (ad 8), .ref (ad 9), .ref (ad 10), .int tr], iA G (ad 0) 255 (upd S ((48 + (2 * i0)) + 1) ((S ((48 + (2 * i0)) + 1)) &&& (((nI 1) <<< ((nI c0) &&& 31)) ^^^ (-1))))] := hD
        refine lv_iload hx hb dX6_crack_79 (lv_at hl 0 rfl) ?_
        have hP := hP.sub (ws' := [oC ko 6 [.ref (ad 0), .ref (ad 1), .int (nI w), .int (nI h), .int (nI la), .ref (ad 2), .int (mv 0), .int (mv 1), .int (mv 2), .int (mv 3), .int (mv 4), .int (mv 5), .int (mv 6), .ref (ad 3), .int (nI tp), .int (mv 7), .int (mv 8), .int (mv 9), .int (mv 10), .int ft, .int (mv 11), .ref (ad 4), .ref (ad 5), .ref (ad 6), .ref (ad 7), .ref (ad 8), .ref (ad 9), .ref (ad 10), .int tr], iA G (ad 0) 255 (upd S ((48 + (2 * i0)) + 1) ((S ((48 + (2 * i0)) + 1)) &&& (((nI 1) <<< ((nI c0) &&& 31)) ^^^ (-1))))]) [0, 1] rfl
        have hD := hD.sub (ws' := [oC ko 6 [.ref (ad 0), .ref (ad 1), .int (nI w), .int (nI h), .int (nI la), .ref (ad 2), .int (mv 0), .int (mv 1), .int (mv 2), .int (mv 3), .int (mv 4), .int (mv 5), .int (mv 6), .ref (ad 3), .int (nI tp), .int (mv 7), .int (mv 8), .int (mv 9), .int (mv 10), .int ft, .int (mv 11), .ref (ad 4), .ref (ad 5), .ref (ad 6), .ref (ad 7), .ref (ad 8), .ref (ad 9), .ref (ad 10), .int tr], iA G (ad 0) 255 (upd S ((48 + (2 * i0)) + 1) ((S ((48 + (2 * i0)) + 1)) &&& (((nI 1) <<< ((nI c0) &&& 31)) ^^^ (-1))))]) [0, 1] (by decide) rfl
        refine W.iret (v := ((S ((48 + (2 * i0)) + 1)) >>> ((nI c0) &&& 31)) &&& (nI 1)) hx hb hr (fun t ht hW => ⟨⟨((S ((48 + (2 * i0)) + 1)) >>> ((nI c0) &&& 31)) &&& (nI 1), (upd S ((48 + (2 * i0)) + 1) ((S ((48 + (2 * i0)) + 1)) &&& (((nI 1) <<< ((nI c0) &&& 31)) ^^^ (-1)))), rfl, ?_, by rw [ht]; exact hP, hD⟩, hS.F ht⟩) hS.2.2 dX6_crack_81
        first | exact ⟨(if_neg (fun q => b5 q.1)).symm, (if_neg (fun q => b5 q.1)).symm⟩ | exact ⟨(if_neg (fun q => b13 q.2)).symm, (if_neg (fun q => b13 q.2)).symm⟩ | (have hok : inR (nI i0) nl ∧ inR (nI c0) (w * h) := ⟨inR_nI hi0 (by omega), inR_nI hc0 (by omega)⟩; rw [if_pos hok, if_pos hok, tn_nI (by omega), tn_nI (by omega)]; first | (rw [if_pos b48]; exact ⟨rfl, rfl⟩) | (rw [if_neg b48]; exact ⟨rfl, rfl⟩))
      · skip
        refine lv_aload_n hx hb dX6_crack_51 rfl (lv_at hl 2 rfl) ?_
        refine va_get (D := G.1) (ci := 6) (v := .ref (ad 0)) (C := RX6) (T := TX6) (N := 29) hx hb hts hin6 hown hK.1 hP 0 rfl rfl 0 (by decide) (hts (.fieldLink RX6 7 "BackLensesModel" "st" "[I") (List.mem_of_getElem? (i := 1) rfl)) (fun _ h9 => h9) rfl dX6_crack_52 ?_
        refine lv_iload hx hb dX6_crack_55 (lv_at hl 1 rfl) ?_
        refine xn_iald hx hb hK hP 1 rfl (by omega) (by omega) dX6_crack_57 ?_
        refine lv_iconst (v := nI 1) hx hb dX6_crack_58 (by decide) ?_
        refine lv_iload_n hx hb dX6_crack_59 rfl (lv_at hl 4 rfl) ?_
        refine lv_ishl hx hb dX6_crack_60 ?_
        refine lv_ior hx hb dX6_crack_61 ?_
        refine lv_goto (tgt := 78) hx hb dX6_crack_62 rfl ?_
        refine xn_iast hx hb hK hP hD hS 1 rfl (by omega) (by omega) dX6_crack_78 (fun H locs hP hD hS => ?_)
        replace hP : xP G [oC ko 6 [.ref (ad 0), .ref (ad 1), .int (nI w), .int (nI h), .int (nI la), .ref (ad 2), .int (mv 0), .int (mv 1), .int (mv 2), .int (mv 3), .int (mv 4), .int (mv 5), .int (mv 6), .ref (ad 3), .int (nI tp), .int (mv 7), .int (mv 8), .int (mv 9), .int (mv 10), .int ft, .int (mv 11), .ref (ad 4), .ref (ad 5), .ref (ad 6), .ref (ad 7), .ref (ad 8), .ref (ad 9), .ref (ad 10), .int tr], iA G (ad 0) 255 (upd S ((48 + (2 * i0)) + 1) ((S ((48 + (2 * i0)) + 1)) ||| ((nI 1) <<< ((nI c0) &&& 31))))] H := hP
        replace hD : va_D (va_A (w_X6_crack G ko ad w h la tp ft tr mv S) ss.heap.size) [oC ko 6 [.ref (ad 0), .ref (ad 1), .int (nI w), .int (nI h), .int (nI la), .ref (ad 2), .int (mv 0), .int (mv 1), .int (mv 2), .int (mv 3), .int (mv 4), .int (mv 5), .int (mv 6), .ref (ad 3), .int (nI tp), .int (mv 7), .int (mv 8), .int (mv 9), .int (mv 10), .int ft, .int (mv 11), .ref (ad 4), .ref (ad 5), .ref (ad 6), .ref (ad 7), .ref (ad 8), .ref (ad 9), .ref (ad 10), .int tr], iA G (ad 0) 255 (upd S ((48 + (2 * i0)) + 1) ((S ((48 + (2 * i0)) + 1)) ||| ((nI 1) <<< ((nI c0) &&& 31))))] := hD
        refine lv_iload hx hb dX6_crack_79 (lv_at hl 0 rfl) ?_
        have hP := hP.sub (ws' := [oC ko 6 [.ref (ad 0), .ref (ad 1), .int (nI w), .int (nI h), .int (nI la), .ref (ad 2), .int (mv 0), .int (mv 1), .int (mv 2), .int (mv 3), .int (mv 4), .int (mv 5), .int (mv 6), .ref (ad 3), .int (nI tp), .int (mv 7), .int (mv 8), .int (mv 9), .int (mv 10), .int ft, .int (mv 11), .ref (ad 4), .ref (ad 5), .ref (ad 6), .ref (ad 7), .ref (ad 8), .ref (ad 9), .ref (ad 10), .int tr], iA G (ad 0) 255 (upd S ((48 + (2 * i0)) + 1) ((S ((48 + (2 * i0)) + 1)) ||| ((nI 1) <<< ((nI c0) &&& 31))))]) [0, 1] rfl
        have hD := hD.sub (ws' := [oC ko 6 [.ref (ad 0), .ref (ad 1), .int (nI w), .int (nI h), .int (nI la), .ref (ad 2), .int (mv 0), .int (mv 1), .int (mv 2), .int (mv 3), .int (mv 4), .int (mv 5), .int (mv 6), .ref (ad 3), .int (nI tp), .int (mv 7), .int (mv 8), .int (mv 9), .int (mv 10), .int ft, .int (mv 11), .ref (ad 4), .ref (ad 5), .ref (ad 6), .ref (ad 7), .ref (ad 8), .ref (ad 9), .ref (ad 10), .int tr], iA G (ad 0) 255 (upd S ((48 + (2 * i0)) + 1) ((S ((48 + (2 * i0)) + 1)) ||| ((nI 1) <<< ((nI c0) &&& 31))))]) [0, 1] (by decide) rfl
        refine W.iret (v := ((S ((48 + (2 * i0)) + 1)) >>> ((nI c0) &&& 31)) &&& (nI 1)) hx hb hr (fun t ht hW => ⟨⟨((S ((48 + (2 * i0)) + 1)) >>> ((nI c0) &&& 31)) &&& (nI 1), (upd S ((48 + (2 * i0)) + 1) ((S ((48 + (2 * i0)) + 1)) ||| ((nI 1) <<< ((nI c0) &&& 31)))), rfl, ?_, by rw [ht]; exact hP, hD⟩, hS.F ht⟩) hS.2.2 dX6_crack_81
        first | exact ⟨(if_neg (fun q => b5 q.1)).symm, (if_neg (fun q => b5 q.1)).symm⟩ | exact ⟨(if_neg (fun q => b13 q.2)).symm, (if_neg (fun q => b13 q.2)).symm⟩ | (have hok : inR (nI i0) nl ∧ inR (nI c0) (w * h) := ⟨inR_nI hi0 (by omega), inR_nI hc0 (by omega)⟩; rw [if_pos hok, if_pos hok, tn_nI (by omega), tn_nI (by omega)]; first | (rw [if_pos b48]; exact ⟨rfl, rfl⟩) | (rw [if_neg b48]; exact ⟨rfl, rfl⟩))
    · skip
      refine lv_iconst (v := (-1)) hx hb dX6_crack_16 (by decide) ?_
      have hP := hP.sub (ws' := [oC ko 6 [.ref (ad 0), .ref (ad 1), .int (nI w), .int (nI h), .int (nI la), .ref (ad 2), .int (mv 0), .int (mv 1), .int (mv 2), .int (mv 3), .int (mv 4), .int (mv 5), .int (mv 6), .ref (ad 3), .int (nI tp), .int (mv 7), .int (mv 8), .int (mv 9), .int (mv 10), .int ft, .int (mv 11), .ref (ad 4), .ref (ad 5), .ref (ad 6), .ref (ad 7), .ref (ad 8), .ref (ad 9), .ref (ad 10), .int tr], iA G (ad 0) 255 S]) [0, 1] rfl
      have hD := hD.sub (ws' := [oC ko 6 [.ref (ad 0), .ref (ad 1), .int (nI w), .int (nI h), .int (nI la), .ref (ad 2), .int (mv 0), .int (mv 1), .int (mv 2), .int (mv 3), .int (mv 4), .int (mv 5), .int (mv 6), .ref (ad 3), .int (nI tp), .int (mv 7), .int (mv 8), .int (mv 9), .int (mv 10), .int ft, .int (mv 11), .ref (ad 4), .ref (ad 5), .ref (ad 6), .ref (ad 7), .ref (ad 8), .ref (ad 9), .ref (ad 10), .int tr], iA G (ad 0) 255 S]) [0, 1] (by decide) rfl
      refine W.iret (v := (-1)) hx hb hr (fun t ht hW => ⟨⟨(-1), (S), rfl, ?_, by rw [ht]; exact hP, hD⟩, hS.F ht⟩) hS.2.2 dX6_crack_17
      first | exact ⟨(if_neg (fun q => b5 q.1)).symm, (if_neg (fun q => b5 q.1)).symm⟩ | exact ⟨(if_neg (fun q => b13 q.2)).symm, (if_neg (fun q => b13 q.2)).symm⟩ | (have hok : inR (nI i0) nl ∧ inR (nI c0) (w * h) := ⟨inR_nI hi0 (by omega), inR_nI hc0 (by omega)⟩; rw [if_pos hok, if_pos hok, tn_nI (by omega), tn_nI (by omega)]; first | (rw [if_pos b48]; exact ⟨rfl, rfl⟩) | (rw [if_neg b48]; exact ⟨rfl, rfl⟩))

abbrev w_X6_forget (G : XG) (ko : Nat) (ad : Nat → Nat) (w h la tp : Nat) (ft tr : Int32) (mv : Nat → Int32) (S : Nat → Int32) : va_W := [oC ko 6 [.ref (ad 0), .ref (ad 1), .int (nI w), .int (nI h), .int (nI la), .ref (ad 2), .int (mv 0), .int (mv 1), .int (mv 2), .int (mv 3), .int (mv 4), .int (mv 5), .int (mv 6), .ref (ad 3), .int (nI tp), .int (mv 7), .int (mv 8), .int (mv 9), .int (mv 10), .int ft, .int (mv 11), .ref (ad 4), .ref (ad 5), .ref (ad 6), .ref (ad 7), .ref (ad 8), .ref (ad 9), .ref (ad 10), .int tr], iA G (ad 0) 255 S]
abbrev Q_X6_forget (G : XG) (sz : Nat) (ko : Nat) (ad : Nat → Nat) (w h la tp : Nat) (ft tr : Int32) (mv : Nat → Int32) (S : Nat → Int32) (ns : Nat) (v : Int32) : Array Value → State → Outcome → State → Prop := (va_Qi (fun (r : Int32) (u : (Nat → Int32)) => r = (if inR v (ns + 1) then nI ns else (-1)) ∧ u = (if inR v (ns + 1) then upd S 60 v else S)) (xWb G sz (w_X6_forget G ko ad w h la tp ft tr mv S) (fun u : (Nat → Int32) => [oC ko 6 [.ref (ad 0), .ref (ad 1), .int (nI w), .int (nI h), .int (nI la), .ref (ad 2), .int (mv 0), .int (mv 1), .int (mv 2), .int (mv 3), .int (mv 4), .int (mv 5), .int (mv 6), .ref (ad 3), .int (nI tp), .int (mv 7), .int (mv 8), .int (mv 9), .int (mv 10), .int ft, .int (mv 11), .ref (ad 4), .ref (ad 5), .ref (ad 6), .ref (ad 7), .ref (ad 8), .ref (ad 9), .ref (ad 10), .int tr], iA G (ad 0) 255 u])) (va_A (w_X6_forget G ko ad w h la tp ft tr mv S) sz))
set_option maxHeartbeats 4000000 in
set_option maxRecDepth 100000 in
theorem c_X6_forget (l : Launch) (G : XG) (sz : Nat) (ko : Nat) (ad : Nat → Nat) (w h la tp : Nat) (ft tr : Int32) (mv : Nat → Int32) (S : Nat → Int32) (ns : Nat) (v : Int32) (hs60 : S 60 = nI ns) (hns : ns ≤ 8) : Met l yX6_forget wsX6_forget ({ frames := 1, cells := 0, slots := 0, locals := 25 } : Room) (va_Pc [.ref ko, .int v] (xWp G sz (w_X6_forget G ko ad w h la tp ft tr mv S))) (Q_X6_forget G sz ko ad w h la tp ft tr mv S ns v) 0 0 (va_A (w_X6_forget G ko ad w h la tp ft tr mv S) sz) := by
  refine Met.ofW (cc := cX6_forget) (maxL := 2) (ret := (some .int)) (by decide) rfl ?_
  intro pp ee ss mm aa below mt cd s₁ BB hml hv
  obtain ⟨rfl, hsz, hP, hK, hD0⟩ := hv
  have hx := BB.exec
  have hb := BB.bytes
  have hr := BB.returns
  have hts := atoms_spec (ws := wsX6_forget) BB.pre
  have hown : ss.vm.findClass RX6 = some mm.cls := findClass_of_methodNamed BB.named
  have hlocks := BB.notSynchronized
  subst hsz
  have hD := hD0.self (sz := ss.heap.size)
  have hA : ∀ q : Nat, ss.heap.size ≤ q → va_A (w_X6_forget G ko ad w h la tp ft tr mv S) ss.heap.size q := fun q h => Or.inr h
  have hS : va_S (va_A (w_X6_forget G ko ad w h la tp ft tr mv S) ss.heap.size) ss.heap ss.heap [] := va_S.rf
  replace hD : va_D (va_A (w_X6_forget G ko ad w h la tp ft tr mv S) ss.heap.size) [oC ko 6 [.ref (ad 0), .ref (ad 1), .int (nI w), .int (nI h), .int (nI la), .ref (ad 2), .int (mv 0), .int (mv 1), .int (mv 2), .int (mv 3), .int (mv 4), .int (mv 5), .int (mv 6), .ref (ad 3), .int (nI tp), .int (mv 7), .int (mv 8), .int (mv 9), .int (mv 10), .int ft, .int (mv 11), .ref (ad 4), .ref (ad 5), .ref (ad 6), .ref (ad 7), .ref (ad 8), .ref (ad 9), .ref (ad 10), .int tr], iA G (ad 0) 255 S] := hD
  replace hP : xP G [oC ko 6 [.ref (ad 0), .ref (ad 1), .int (nI w), .int (nI h), .int (nI la), .ref (ad 2), .int (mv 0), .int (mv 1), .int (mv 2), .int (mv 3), .int (mv 4), .int (mv 5), .int (mv 6), .ref (ad 3), .int (nI tp), .int (mv 7), .int (mv 8), .int (mv 9), .int (mv 10), .int ft, .int (mv 11), .ref (ad 4), .ref (ad 5), .ref (ad 6), .ref (ad 7), .ref (ad 8), .ref (ad 9), .ref (ad 10), .int tr], iA G (ad 0) 255 S] ss.heap := hP
  have hin6 : ∀ w ∈ u_ws RX6 TX6 29, w ∈ wsX6_forget := fun w h => List.mem_cons_of_mem _ (List.mem_append_right _ h)
  have hl := lv_entry ([.ref ko, .int v]) (n := 2) (Nat.le_of_ble_eq_true rfl)
  rw [lg_entry_eq]
  generalize (lg_sl ([.ref ko, .int v]) ++ List.replicate (2 - (lg_sl ([.ref ko, .int v])).length) Slot.unset).toArray = ls at hl ⊢
  replace hl : lv_has ls 2 [(0, .ref ko), (1, .int v)] := hl
  refine lv_iload_n hx hb dX6_forget_0 rfl (lv_at hl 1 rfl) ?_
  refine xi_i2l hx hb dX6_forget_1 ?_
  refine lv_lconst (v := lN 0) hx hb dX6_forget_2 (by decide) ?_
  refine lv_aload_n hx hb dX6_forget_3 rfl (lv_at hl 0 rfl) ?_
  refine va_get (D := G.1) (ci := 6) (v := .ref (ad 0)) (C := RX6) (T := TX6) (N := 29) hx hb hts hin6 hown hK.1 hP 0 rfl rfl 0 (by decide) (hts (.fieldLink RX6 7 "BackLensesModel" "st" "[I") (List.mem_of_getElem? (i := 1) rfl)) (fun _ h9 => h9) rfl dX6_forget_4 ?_
  refine lv_bipush (v := nI 60) hx hb dX6_forget_7 (by decide) ?_
  refine xn_iald hx hb hK hP 1 rfl (by omega) (by omega) dX6_forget_9 ?_
  refine xn_top (y := nI ns) (by exact hs60) ?_
  refine xn_i2l hx hb (by omega) dX6_forget_10 ?_
  refine xs_i (As := [.long v.toInt64, .long (lN 0), .long (lN ns)]) (rest := []) ⟨hx, hb, hml, hown, hts⟩ (c_X6_in_r l G v ns (by first | assumption | omega)) (va_cwS 3 hts gX6_forget_X6_in rfl rfl rfl (by decide +kernel) ⟨Nat.le_of_ble_eq_true rfl, Nat.le_of_ble_eq_true rfl⟩) hP hS rfl hl.1 rfl (Nat.le_of_ble_eq_true rfl) dX6_forget_11 ⟨Nat.zero_le _, Nat.zero_le _⟩ (fun r11 H locs hp11 hP hS => ?_)
  rw [show r11 = _ from hp11]
  refine xb_if_eq (tgt := 27) hx hb dX6_forget_14 rfl (fun b14 => ?_) (fun b14 => ?_)
  · skip
    refine lv_iconst (v := (-1)) hx hb dX6_forget_27 (by decide) ?_
    have hP := hP.sub (ws' := [oC ko 6 [.ref (ad 0), .ref (ad 1), .int (nI w), .int (nI h), .int (nI la), .ref (ad 2), .int (mv 0), .int (mv 1), .int (mv 2), .int (mv 3), .int (mv 4), .int (mv 5), .int (mv 6), .ref (ad 3), .int (nI tp), .int (mv 7), .int (mv 8), .int (mv 9), .int (mv 10), .int ft, .int (mv 11), .ref (ad 4), .ref (ad 5), .ref (ad 6), .ref (ad 7), .ref (ad 8), .ref (ad 9), .ref (ad 10), .int tr], iA G (ad 0) 255 S]) [0, 1] rfl
    have hD := hD.sub (ws' := [oC ko 6 [.ref (ad 0), .ref (ad 1), .int (nI w), .int (nI h), .int (nI la), .ref (ad 2), .int (mv 0), .int (mv 1), .int (mv 2), .int (mv 3), .int (mv 4), .int (mv 5), .int (mv 6), .ref (ad 3), .int (nI tp), .int (mv 7), .int (mv 8), .int (mv 9), .int (mv 10), .int ft, .int (mv 11), .ref (ad 4), .ref (ad 5), .ref (ad 6), .ref (ad 7), .ref (ad 8), .ref (ad 9), .ref (ad 10), .int tr], iA G (ad 0) 255 S]) [0, 1] (by decide) rfl
    refine W.iret (v := (-1)) hx hb hr (fun t ht hW => ⟨⟨(-1), (S), rfl, ?_, by rw [ht]; exact hP, hD⟩, hS.F ht⟩) hS.2.2 dX6_forget_28
    first | exact ⟨(if_neg b14).symm, (if_neg b14).symm⟩ | exact ⟨(by rw [if_pos b14]; exact hs60), (if_pos b14).symm⟩
  · skip
    refine lv_aload_n hx hb dX6_forget_17 rfl (lv_at hl 0 rfl) ?_
    refine lv_bipush (v := nI 60) hx hb dX6_forget_18 (by decide) ?_
    refine lv_iload_n hx hb dX6_forget_20 rfl (lv_at hl 1 rfl) ?_
    refine xw_i (As := [.int (nI 60), .int v]) (rest := []) (wr := []) ⟨hx, hb, hml, hown, hts⟩ (c_X6_becomes l G H.size ko ad w h la tp ft tr mv S 60 v (by first | assumption | omega)) (cwV 2 hts gX6_forget_X6_becomes rfl rfl rfl (by decide +kernel) ⟨Nat.le_of_ble_eq_true rfl, Nat.le_of_ble_eq_true rfl⟩) hK hP hD hS hA [0, 1] [] rfl rfl (by decide) (by decide) (by decide) rfl rfl rfl hl.1 rfl (Nat.le_of_ble_eq_true rfl) dX6_forget_21 ⟨Nat.le_of_ble_eq_true rfl, Nat.le_of_ble_eq_true rfl⟩ (fun r21 u H locs hp21 hP hD hS => ?_)
    obtain ⟨u0_21, rfl⟩ : ∃ z, z = u := ⟨_, rfl⟩
    try dsimp only at hp21 hP hD
    obtain ⟨rfl, rfl⟩ := hp21
    replace hP : xP G [oC ko 6 [.ref (ad 0), .ref (ad 1), .int (nI w), .int (nI h), .int (nI la), .ref (ad 2), .int (mv 0), .int (mv 1), .int (mv 2), .int (mv 3), .int (mv 4), .int (mv 5), .int (mv 6), .ref (ad 3), .int (nI tp), .int (mv 7), .int (mv 8), .int (mv 9), .int (mv 10), .int ft, .int (mv 11), .ref (ad 4), .ref (ad 5), .ref (ad 6), .ref (ad 7), .ref (ad 8), .ref (ad 9), .ref (ad 10), .int tr], iA G (ad 0) 255 (upd S 60 v)] H := hP
    replace hD : va_D (va_A (w_X6_forget G ko ad w h la tp ft tr mv S) ss.heap.size) [oC ko 6 [.ref (ad 0), .ref (ad 1), .int (nI w), .int (nI h), .int (nI la), .ref (ad 2), .int (mv 0), .int (mv 1), .int (mv 2), .int (mv 3), .int (mv 4), .int (mv 5), .int (mv 6), .ref (ad 3), .int (nI tp), .int (mv 7), .int (mv 8), .int (mv 9), .int (mv 10), .int ft, .int (mv 11), .ref (ad 4), .ref (ad 5), .ref (ad 6), .ref (ad 7), .ref (ad 8), .ref (ad 9), .ref (ad 10), .int tr], iA G (ad 0) 255 (upd S 60 v)] := hD
    refine lv_goto (tgt := 28) hx hb dX6_forget_24 rfl ?_
    have hP := hP.sub (ws' := [oC ko 6 [.ref (ad 0), .ref (ad 1), .int (nI w), .int (nI h), .int (nI la), .ref (ad 2), .int (mv 0), .int (mv 1), .int (mv 2), .int (mv 3), .int (mv 4), .int (mv 5), .int (mv 6), .ref (ad 3), .int (nI tp), .int (mv 7), .int (mv 8), .int (mv 9), .int (mv 10), .int ft, .int (mv 11), .ref (ad 4), .ref (ad 5), .ref (ad 6), .ref (ad 7), .ref (ad 8), .ref (ad 9), .ref (ad 10), .int tr], iA G (ad 0) 255 (upd S 60 v)]) [0, 1] rfl
    have hD := hD.sub (ws' := [oC ko 6 [.ref (ad 0), .ref (ad 1), .int (nI w), .int (nI h), .int (nI la), .ref (ad 2), .int (mv 0), .int (mv 1), .int (mv 2), .int (mv 3), .int (mv 4), .int (mv 5), .int (mv 6), .ref (ad 3), .int (nI tp), .int (mv 7), .int (mv 8), .int (mv 9), .int (mv 10), .int ft, .int (mv 11), .ref (ad 4), .ref (ad 5), .ref (ad 6), .ref (ad 7), .ref (ad 8), .ref (ad 9), .ref (ad 10), .int tr], iA G (ad 0) 255 (upd S 60 v)]) [0, 1] (by decide) rfl
    refine W.iret (v := S 60) hx hb hr (fun t ht hW => ⟨⟨S 60, ((upd S 60 v)), rfl, ?_, by rw [ht]; exact hP, hD⟩, hS.F ht⟩) hS.2.2 dX6_forget_28
    first | exact ⟨(if_neg b14).symm, (if_neg b14).symm⟩ | exact ⟨(by rw [if_pos b14]; exact hs60), (if_pos b14).symm⟩

abbrev w_X6_cut (G : XG) (ko : Nat) (ad : Nat → Nat) (w h la tp : Nat) (ft tr : Int32) (mv : Nat → Int32) (S : Nat → Int32) : va_W := [oC ko 6 [.ref (ad 0), .ref (ad 1), .int (nI w), .int (nI h), .int (nI la), .ref (ad 2), .int (mv 0), .int (mv 1), .int (mv 2), .int (mv 3), .int (mv 4), .int (mv 5), .int (mv 6), .ref (ad 3), .int (nI tp), .int (mv 7), .int (mv 8), .int (mv 9), .int (mv 10), .int ft, .int (mv 11), .ref (ad 4), .ref (ad 5), .ref (ad 6), .ref (ad 7), .ref (ad 8), .ref (ad 9), .ref (ad 10), .int tr], iA G (ad 0) 255 S]
abbrev Q_X6_cut (G : XG) (sz : Nat) (ko : Nat) (ad : Nat → Nat) (w h la tp : Nat) (ft tr : Int32) (mv : Nat → Int32) (S : Nat → Int32) (nc nl : Nat) (a v : Int32) : Array Value → State → Outcome → State → Prop := (va_Qi (fun (r : Int32) (u : (Nat → Int32)) => r = (if a = 0 then (if inR v (nc + 1) then nI nc else (-1)) else if a = nI 1 then (if inR v (nl + 1) then nI nl else (-1)) else (-1)) ∧ u = (if a = 0 ∧ inR v (nc + 1) then upd S 16 v else if a = nI 1 ∧ inR v (nl + 1) then upd S 47 v else S)) (xWb G sz (w_X6_cut G ko ad w h la tp ft tr mv S) (fun u : (Nat → Int32) => [oC ko 6 [.ref (ad 0), .ref (ad 1), .int (nI w), .int (nI h), .int (nI la), .ref (ad 2), .int (mv 0), .int (mv 1), .int (mv 2), .int (mv 3), .int (mv 4), .int (mv 5), .int (mv 6), .ref (ad 3), .int (nI tp), .int (mv 7), .int (mv 8), .int (mv 9), .int (mv 10), .int ft, .int (mv 11), .ref (ad 4), .ref (ad 5), .ref (ad 6), .ref (ad 7), .ref (ad 8), .ref (ad 9), .ref (ad 10), .int tr], iA G (ad 0) 255 u])) (va_A (w_X6_cut G ko ad w h la tp ft tr mv S) sz))
set_option maxHeartbeats 4000000 in
set_option maxRecDepth 100000 in
theorem c_X6_cut (l : Launch) (G : XG) (sz : Nat) (ko : Nat) (ad : Nat → Nat) (w h la tp : Nat) (ft tr : Int32) (mv : Nat → Int32) (S : Nat → Int32) (nc nl : Nat) (a v : Int32) (hs16 : S 16 = nI nc) (hnc : nc ≤ 10) (hs47 : S 47 = nI nl) (hnl : nl ≤ 6) : Met l yX6_cut wsX6_cut ({ frames := 2, cells := 0, slots := 0, locals := 45 } : Room) (va_Pc [.ref ko, .int a, .int v] (xWp G sz (w_X6_cut G ko ad w h la tp ft tr mv S))) (Q_X6_cut G sz ko ad w h la tp ft tr mv S nc nl a v) 0 0 (va_A (w_X6_cut G ko ad w h la tp ft tr mv S) sz) := by
  refine Met.ofW (cc := cX6_cut) (maxL := 4) (ret := (some .int)) (by decide) rfl ?_
  intro pp ee ss mm aa below mt cd s₁ BB hml hv
  obtain ⟨rfl, hsz, hP, hK, hD0⟩ := hv
  have hx := BB.exec
  have hb := BB.bytes
  have hr := BB.returns
  have hts := atoms_spec (ws := wsX6_cut) BB.pre
  have hown : ss.vm.findClass RX6 = some mm.cls := findClass_of_methodNamed BB.named
  have hlocks := BB.notSynchronized
  subst hsz
  have hD := hD0.self (sz := ss.heap.size)
  have hA : ∀ q : Nat, ss.heap.size ≤ q → va_A (w_X6_cut G ko ad w h la tp ft tr mv S) ss.heap.size q := fun q h => Or.inr h
  have hS : va_S (va_A (w_X6_cut G ko ad w h la tp ft tr mv S) ss.heap.size) ss.heap ss.heap [] := va_S.rf
  replace hD : va_D (va_A (w_X6_cut G ko ad w h la tp ft tr mv S) ss.heap.size) [oC ko 6 [.ref (ad 0), .ref (ad 1), .int (nI w), .int (nI h), .int (nI la), .ref (ad 2), .int (mv 0), .int (mv 1), .int (mv 2), .int (mv 3), .int (mv 4), .int (mv 5), .int (mv 6), .ref (ad 3), .int (nI tp), .int (mv 7), .int (mv 8), .int (mv 9), .int (mv 10), .int ft, .int (mv 11), .ref (ad 4), .ref (ad 5), .ref (ad 6), .ref (ad 7), .ref (ad 8), .ref (ad 9), .ref (ad 10), .int tr], iA G (ad 0) 255 S] := hD
  replace hP : xP G [oC ko 6 [.ref (ad 0), .ref (ad 1), .int (nI w), .int (nI h), .int (nI la), .ref (ad 2), .int (mv 0), .int (mv 1), .int (mv 2), .int (mv 3), .int (mv 4), .int (mv 5), .int (mv 6), .ref (ad 3), .int (nI tp), .int (mv 7), .int (mv 8), .int (mv 9), .int (mv 10), .int ft, .int (mv 11), .ref (ad 4), .ref (ad 5), .ref (ad 6), .ref (ad 7), .ref (ad 8), .ref (ad 9), .ref (ad 10), .int tr], iA G (ad 0) 255 S] ss.heap := hP
  have hin6 : ∀ w ∈ u_ws RX6 TX6 29, w ∈ wsX6_cut := fun w h => List.mem_cons_of_mem _ (List.mem_append_right _ h)
  have hl := lv_entry ([.ref ko, .int a, .int v]) (n := 4) (Nat.le_of_ble_eq_true rfl)
  rw [lg_entry_eq]
  generalize (lg_sl ([.ref ko, .int a, .int v]) ++ List.replicate (4 - (lg_sl ([.ref ko, .int a, .int v])).length) Slot.unset).toArray = ls at hl ⊢
  replace hl : lv_has ls 4 [(0, .ref ko), (1, .int a), (2, .int v)] := hl
  refine lv_iload_n hx hb dX6_cut_0 rfl (lv_at hl 1 rfl) ?_
  refine lv_if_ne (tgt := 9) hx hb dX6_cut_1 rfl (fun b1 => ?_) (fun b1 => ?_)
  · skip
    refine lv_bipush (v := nI 47) hx hb dX6_cut_9 (by decide) ?_
    refine lv_istore_n (lv' := [(3, .int (nI 47)), (0, .ref ko), (1, .int a), (2, .int v)]) hx hb dX6_cut_11 rfl hl (by decide) rfl (fun ls hl => ?_)
    refine lv_iload_n hx hb dX6_cut_12 rfl (lv_at hl 2 rfl) ?_
    refine xs_i (As := [.int a]) (rest := []) ⟨hx, hb, hml, hown, hts⟩ (c_X6_isPart l G a ) (va_cwS 1 hts gX6_cut_X6_isPart rfl rfl rfl (by decide +kernel) ⟨Nat.le_of_ble_eq_true rfl, Nat.le_of_ble_eq_true rfl⟩) hP hS rfl hl.1 rfl (Nat.le_of_ble_eq_true rfl) dX6_cut_13 ⟨Nat.zero_le _, Nat.zero_le _⟩ (fun r13 H locs hp13 hP hS => ?_)
    rw [show r13 = _ from hp13]
    refine xb_if_eq (tgt := 44) hx hb dX6_cut_16 rfl (fun b16 => ?_) (fun b16 => ?_)
    · skip
      refine lv_iconst (v := (-1)) hx hb dX6_cut_44 (by decide) ?_
      have hP := hP.sub (ws' := [oC ko 6 [.ref (ad 0), .ref (ad 1), .int (nI w), .int (nI h), .int (nI la), .ref (ad 2), .int (mv 0), .int (mv 1), .int (mv 2), .int (mv 3), .int (mv 4), .int (mv 5), .int (mv 6), .ref (ad 3), .int (nI tp), .int (mv 7), .int (mv 8), .int (mv 9), .int (mv 10), .int ft, .int (mv 11), .ref (ad 4), .ref (ad 5), .ref (ad 6), .ref (ad 7), .ref (ad 8), .ref (ad 9), .ref (ad 10), .int tr], iA G (ad 0) 255 S]) [0, 1] rfl
      have hD := hD.sub (ws' := [oC ko 6 [.ref (ad 0), .ref (ad 1), .int (nI w), .int (nI h), .int (nI la), .ref (ad 2), .int (mv 0), .int (mv 1), .int (mv 2), .int (mv 3), .int (mv 4), .int (mv 5), .int (mv 6), .ref (ad 3), .int (nI tp), .int (mv 7), .int (mv 8), .int (mv 9), .int (mv 10), .int ft, .int (mv 11), .ref (ad 4), .ref (ad 5), .ref (ad 6), .ref (ad 7), .ref (ad 8), .ref (ad 9), .ref (ad 10), .int tr], iA G (ad 0) 255 S]) [0, 1] (by decide) rfl
      refine W.iret (v := (-1)) hx hb hr (fun t ht hW => ⟨⟨(-1), (S), rfl, ?_, by rw [ht]; exact hP, hD⟩, hS.F ht⟩) hS.2.2 dX6_cut_45
      first | exact absurd (inR_2.mpr (Or.inl b1)) b16 | exact ⟨((if_pos b1).trans (if_neg b32)).symm, ((if_neg (fun q => b32 q.2)).trans (if_neg (fun q => absurd (q.1.symm.trans b1) (by decide)))).symm⟩ | exact ⟨hs16.trans ((if_pos b1).trans (if_pos b32)).symm, (if_pos ⟨b1, b32⟩).symm⟩ | exact ⟨((if_neg b1).trans (if_neg (fun q => b16 (inR_2.mpr (Or.inr q))))).symm, ((if_neg (fun q => b1 q.1)).trans (if_neg (fun q => b16 (inR_2.mpr (Or.inr q.1))))).symm⟩ | exact ⟨((if_neg b1).trans ((if_pos ((inR_2.mp b16).resolve_left b1)).trans (if_neg b32))).symm, ((if_neg (fun q => b1 q.1)).trans (if_neg (fun q => b32 q.2))).symm⟩ | exact ⟨hs47.trans ((if_neg b1).trans ((if_pos ((inR_2.mp b16).resolve_left b1)).trans (if_pos b32))).symm, ((if_neg (fun q => b1 q.1)).trans (if_pos ⟨((inR_2.mp b16).resolve_left b1), b32⟩)).symm⟩
    · skip
      refine lv_iload_n hx hb dX6_cut_19 rfl (lv_at hl 3 rfl) ?_
      refine xi_i2l hx hb dX6_cut_20 ?_
      refine lv_lconst (v := lN 0) hx hb dX6_cut_21 (by decide) ?_
      refine lv_aload_n hx hb dX6_cut_22 rfl (lv_at hl 1 rfl) ?_
      refine va_get (D := G.1) (ci := 6) (v := .ref (ad 0)) (C := RX6) (T := TX6) (N := 29) hx hb hts hin6 hown hK.1 hP 0 rfl rfl 0 (by decide) (hts (.fieldLink RX6 7 "BackLensesModel" "st" "[I") (List.mem_of_getElem? (i := 1) rfl)) (fun _ h9 => h9) rfl dX6_cut_23 ?_
      refine lv_iload_n hx hb dX6_cut_26 rfl (lv_at hl 0 rfl) ?_
      refine xn_iald hx hb hK hP 1 rfl (by omega) (by omega) dX6_cut_27 ?_
      refine xn_top (y := nI nl) (by exact hs47) ?_
      refine xn_i2l hx hb (by omega) dX6_cut_28 ?_
      refine xs_i (As := [.long v.toInt64, .long (lN 0), .long (lN nl)]) (rest := []) ⟨hx, hb, hml, hown, hts⟩ (c_X6_in_r l G v nl (by first | assumption | omega)) (va_cwS 3 hts gX6_cut_X6_in rfl rfl rfl (by decide +kernel) ⟨Nat.le_of_ble_eq_true rfl, Nat.le_of_ble_eq_true rfl⟩) hP hS rfl hl.1 rfl (Nat.le_of_ble_eq_true rfl) dX6_cut_29 ⟨Nat.zero_le _, Nat.zero_le _⟩ (fun r29 H locs hp29 hP hS => ?_)
      rw [show r29 = _ from hp29]
      refine xb_if_eq (tgt := 44) hx hb dX6_cut_32 rfl (fun b32 => ?_) (fun b32 => ?_)
      · skip
        refine lv_iconst (v := (-1)) hx hb dX6_cut_44 (by decide) ?_
        have hP := hP.sub (ws' := [oC ko 6 [.ref (ad 0), .ref (ad 1), .int (nI w), .int (nI h), .int (nI la), .ref (ad 2), .int (mv 0), .int (mv 1), .int (mv 2), .int (mv 3), .int (mv 4), .int (mv 5), .int (mv 6), .ref (ad 3), .int (nI tp), .int (mv 7), .int (mv 8), .int (mv 9), .int (mv 10), .int ft, .int (mv 11), .ref (ad 4), .ref (ad 5), .ref (ad 6), .ref (ad 7), .ref (ad 8), .ref (ad 9), .ref (ad 10), .int tr], iA G (ad 0) 255 S]) [0, 1] rfl
        have hD := hD.sub (ws' := [oC ko 6 [.ref (ad 0), .ref (ad 1), .int (nI w), .int (nI h), .int (nI la), .ref (ad 2), .int (mv 0), .int (mv 1), .int (mv 2), .int (mv 3), .int (mv 4), .int (mv 5), .int (mv 6), .ref (ad 3), .int (nI tp), .int (mv 7), .int (mv 8), .int (mv 9), .int (mv 10), .int ft, .int (mv 11), .ref (ad 4), .ref (ad 5), .ref (ad 6), .ref (ad 7), .ref (ad 8), .ref (ad 9), .ref (ad 10), .int tr], iA G (ad 0) 255 S]) [0, 1] (by decide) rfl
        refine W.iret (v := (-1)) hx hb hr (fun t ht hW => ⟨⟨(-1), (S), rfl, ?_, by rw [ht]; exact hP, hD⟩, hS.F ht⟩) hS.2.2 dX6_cut_45
        first | exact absurd (inR_2.mpr (Or.inl b1)) b16 | exact ⟨((if_pos b1).trans (if_neg b32)).symm, ((if_neg (fun q => b32 q.2)).trans (if_neg (fun q => absurd (q.1.symm.trans b1) (by decide)))).symm⟩ | exact ⟨hs16.trans ((if_pos b1).trans (if_pos b32)).symm, (if_pos ⟨b1, b32⟩).symm⟩ | exact ⟨((if_neg b1).trans (if_neg (fun q => b16 (inR_2.mpr (Or.inr q))))).symm, ((if_neg (fun q => b1 q.1)).trans (if_neg (fun q => b16 (inR_2.mpr (Or.inr q.1))))).symm⟩ | exact ⟨((if_neg b1).trans ((if_pos ((inR_2.mp b16).resolve_left b1)).trans (if_neg b32))).symm, ((if_neg (fun q => b1 q.1)).trans (if_neg (fun q => b32 q.2))).symm⟩ | exact ⟨hs47.trans ((if_neg b1).trans ((if_pos ((inR_2.mp b16).resolve_left b1)).trans (if_pos b32))).symm, ((if_neg (fun q => b1 q.1)).trans (if_pos ⟨((inR_2.mp b16).resolve_left b1), b32⟩)).symm⟩
      · skip
        refine lv_aload_n hx hb dX6_cut_35 rfl (lv_at hl 1 rfl) ?_
        refine lv_iload_n hx hb dX6_cut_36 rfl (lv_at hl 0 rfl) ?_
        refine lv_iload_n hx hb dX6_cut_37 rfl (lv_at hl 3 rfl) ?_
        refine xw_i (As := [.int (nI 47), .int v]) (rest := []) (wr := []) ⟨hx, hb, hml, hown, hts⟩ (c_X6_becomes l G H.size ko ad w h la tp ft tr mv S 47 v (by first | assumption | omega)) (cwV 2 hts gX6_cut_X6_becomes rfl rfl rfl (by decide +kernel) ⟨Nat.le_of_ble_eq_true rfl, Nat.le_of_ble_eq_true rfl⟩) hK hP hD hS hA [0, 1] [] rfl rfl (by decide) (by decide) (by decide) rfl rfl rfl hl.1 rfl (Nat.le_of_ble_eq_true rfl) dX6_cut_38 ⟨Nat.le_of_ble_eq_true rfl, Nat.le_of_ble_eq_true rfl⟩ (fun r38 u H locs hp38 hP hD hS => ?_)
        obtain ⟨u0_38, rfl⟩ : ∃ z, z = u := ⟨_, rfl⟩
        try dsimp only at hp38 hP hD
        obtain ⟨rfl, rfl⟩ := hp38
        replace hP : xP G [oC ko 6 [.ref (ad 0), .ref (ad 1), .int (nI w), .int (nI h), .int (nI la), .ref (ad 2), .int (mv 0), .int (mv 1), .int (mv 2), .int (mv 3), .int (mv 4), .int (mv 5), .int (mv 6), .ref (ad 3), .int (nI tp), .int (mv 7), .int (mv 8), .int (mv 9), .int (mv 10), .int ft, .int (mv 11), .ref (ad 4), .ref (ad 5), .ref (ad 6), .ref (ad 7), .ref (ad 8), .ref (ad 9), .ref (ad 10), .int tr], iA G (ad 0) 255 (upd S 47 v)] H := hP
        replace hD : va_D (va_A (w_X6_cut G ko ad w h la tp ft tr mv S) ss.heap.size) [oC ko 6 [.ref (ad 0), .ref (ad 1), .int (nI w), .int (nI h), .int (nI la), .ref (ad 2), .int (mv 0), .int (mv 1), .int (mv 2), .int (mv 3), .int (mv 4), .int (mv 5), .int (mv 6), .ref (ad 3), .int (nI tp), .int (mv 7), .int (mv 8), .int (mv 9), .int (mv 10), .int ft, .int (mv 11), .ref (ad 4), .ref (ad 5), .ref (ad 6), .ref (ad 7), .ref (ad 8), .ref (ad 9), .ref (ad 10), .int tr], iA G (ad 0) 255 (upd S 47 v)] := hD
        refine lv_goto (tgt := 45) hx hb dX6_cut_41 rfl ?_
        have hP := hP.sub (ws' := [oC ko 6 [.ref (ad 0), .ref (ad 1), .int (nI w), .int (nI h), .int (nI la), .ref (ad 2), .int (mv 0), .int (mv 1), .int (mv 2), .int (mv 3), .int (mv 4), .int (mv 5), .int (mv 6), .ref (ad 3), .int (nI tp), .int (mv 7), .int (mv 8), .int (mv 9), .int (mv 10), .int ft, .int (mv 11), .ref (ad 4), .ref (ad 5), .ref (ad 6), .ref (ad 7), .ref (ad 8), .ref (ad 9), .ref (ad 10), .int tr], iA G (ad 0) 255 (upd S 47 v)]) [0, 1] rfl
        have hD := hD.sub (ws' := [oC ko 6 [.ref (ad 0), .ref (ad 1), .int (nI w), .int (nI h), .int (nI la), .ref (ad 2), .int (mv 0), .int (mv 1), .int (mv 2), .int (mv 3), .int (mv 4), .int (mv 5), .int (mv 6), .ref (ad 3), .int (nI tp), .int (mv 7), .int (mv 8), .int (mv 9), .int (mv 10), .int ft, .int (mv 11), .ref (ad 4), .ref (ad 5), .ref (ad 6), .ref (ad 7), .ref (ad 8), .ref (ad 9), .ref (ad 10), .int tr], iA G (ad 0) 255 (upd S 47 v)]) [0, 1] (by decide) rfl
        refine W.iret (v := S 47) hx hb hr (fun t ht hW => ⟨⟨S 47, ((upd S 47 v)), rfl, ?_, by rw [ht]; exact hP, hD⟩, hS.F ht⟩) hS.2.2 dX6_cut_45
        first | exact absurd (inR_2.mpr (Or.inl b1)) b16 | exact ⟨((if_pos b1).trans (if_neg b32)).symm, ((if_neg (fun q => b32 q.2)).trans (if_neg (fun q => absurd (q.1.symm.trans b1) (by decide)))).symm⟩ | exact ⟨hs16.trans ((if_pos b1).trans (if_pos b32)).symm, (if_pos ⟨b1, b32⟩).symm⟩ | exact ⟨((if_neg b1).trans (if_neg (fun q => b16 (inR_2.mpr (Or.inr q))))).symm, ((if_neg (fun q => b1 q.1)).trans (if_neg (fun q => b16 (inR_2.mpr (Or.inr q.1))))).symm⟩ | exact ⟨((if_neg b1).trans ((if_pos ((inR_2.mp b16).resolve_left b1)).trans (if_neg b32))).symm, ((if_neg (fun q => b1 q.1)).trans (if_neg (fun q => b32 q.2))).symm⟩ | exact ⟨hs47.trans ((if_neg b1).trans ((if_pos ((inR_2.mp b16).resolve_left b1)).trans (if_pos b32))).symm, ((if_neg (fun q => b1 q.1)).trans (if_pos ⟨((inR_2.mp b16).resolve_left b1), b32⟩)).symm⟩
  · skip
    refine lv_bipush (v := nI 16) hx hb dX6_cut_4 (by decide) ?_
    refine lv_goto (tgt := 11) hx hb dX6_cut_6 rfl ?_
    refine lv_istore_n (lv' := [(3, .int (nI 16)), (0, .ref ko), (1, .int a), (2, .int v)]) hx hb dX6_cut_11 rfl hl (by decide) rfl (fun ls hl => ?_)
    refine lv_iload_n hx hb dX6_cut_12 rfl (lv_at hl 2 rfl) ?_
    refine xs_i (As := [.int a]) (rest := []) ⟨hx, hb, hml, hown, hts⟩ (c_X6_isPart l G a ) (va_cwS 1 hts gX6_cut_X6_isPart rfl rfl rfl (by decide +kernel) ⟨Nat.le_of_ble_eq_true rfl, Nat.le_of_ble_eq_true rfl⟩) hP hS rfl hl.1 rfl (Nat.le_of_ble_eq_true rfl) dX6_cut_13 ⟨Nat.zero_le _, Nat.zero_le _⟩ (fun r13 H locs hp13 hP hS => ?_)
    rw [show r13 = _ from hp13]
    refine xb_if_eq (tgt := 44) hx hb dX6_cut_16 rfl (fun b16 => ?_) (fun b16 => ?_)
    · skip
      refine lv_iconst (v := (-1)) hx hb dX6_cut_44 (by decide) ?_
      have hP := hP.sub (ws' := [oC ko 6 [.ref (ad 0), .ref (ad 1), .int (nI w), .int (nI h), .int (nI la), .ref (ad 2), .int (mv 0), .int (mv 1), .int (mv 2), .int (mv 3), .int (mv 4), .int (mv 5), .int (mv 6), .ref (ad 3), .int (nI tp), .int (mv 7), .int (mv 8), .int (mv 9), .int (mv 10), .int ft, .int (mv 11), .ref (ad 4), .ref (ad 5), .ref (ad 6), .ref (ad 7), .ref (ad 8), .ref (ad 9), .ref (ad 10), .int tr], iA G (ad 0) 255 S]) [0, 1] rfl
      have hD := hD.sub (ws' := [oC ko 6 [.ref (ad 0), .ref (ad 1), .int (nI w), .int (nI h), .int (nI la), .ref (ad 2), .int (mv 0), .int (mv 1), .int (mv 2), .int (mv 3), .int (mv 4), .int (mv 5), .int (mv 6), .ref (ad 3), .int (nI tp), .int (mv 7), .int (mv 8), .int (mv 9), .int (mv 10), .int ft, .int (mv 11), .ref (ad 4), .ref (ad 5), .ref (ad 6), .ref (ad 7), .ref (ad 8), .ref (ad 9), .ref (ad 10), .int tr], iA G (ad 0) 255 S]) [0, 1] (by decide) rfl
      refine W.iret (v := (-1)) hx hb hr (fun t ht hW => ⟨⟨(-1), (S), rfl, ?_, by rw [ht]; exact hP, hD⟩, hS.F ht⟩) hS.2.2 dX6_cut_45
      first | exact absurd (inR_2.mpr (Or.inl b1)) b16 | exact ⟨((if_pos b1).trans (if_neg b32)).symm, ((if_neg (fun q => b32 q.2)).trans (if_neg (fun q => absurd (q.1.symm.trans b1) (by decide)))).symm⟩ | exact ⟨hs16.trans ((if_pos b1).trans (if_pos b32)).symm, (if_pos ⟨b1, b32⟩).symm⟩ | exact ⟨((if_neg b1).trans (if_neg (fun q => b16 (inR_2.mpr (Or.inr q))))).symm, ((if_neg (fun q => b1 q.1)).trans (if_neg (fun q => b16 (inR_2.mpr (Or.inr q.1))))).symm⟩ | exact ⟨((if_neg b1).trans ((if_pos ((inR_2.mp b16).resolve_left b1)).trans (if_neg b32))).symm, ((if_neg (fun q => b1 q.1)).trans (if_neg (fun q => b32 q.2))).symm⟩ | exact ⟨hs47.trans ((if_neg b1).trans ((if_pos ((inR_2.mp b16).resolve_left b1)).trans (if_pos b32))).symm, ((if_neg (fun q => b1 q.1)).trans (if_pos ⟨((inR_2.mp b16).resolve_left b1), b32⟩)).symm⟩
    · skip
      refine lv_iload_n hx hb dX6_cut_19 rfl (lv_at hl 3 rfl) ?_
      refine xi_i2l hx hb dX6_cut_20 ?_
      refine lv_lconst (v := lN 0) hx hb dX6_cut_21 (by decide) ?_
      refine lv_aload_n hx hb dX6_cut_22 rfl (lv_at hl 1 rfl) ?_
      refine va_get (D := G.1) (ci := 6) (v := .ref (ad 0)) (C := RX6) (T := TX6) (N := 29) hx hb hts hin6 hown hK.1 hP 0 rfl rfl 0 (by decide) (hts (.fieldLink RX6 7 "BackLensesModel" "st" "[I") (List.mem_of_getElem? (i := 1) rfl)) (fun _ h9 => h9) rfl dX6_cut_23 ?_
      refine lv_iload_n hx hb dX6_cut_26 rfl (lv_at hl 0 rfl) ?_
      refine xn_iald hx hb hK hP 1 rfl (by omega) (by omega) dX6_cut_27 ?_
      refine xn_top (y := nI nc) (by exact hs16) ?_
      refine xn_i2l hx hb (by omega) dX6_cut_28 ?_
      refine xs_i (As := [.long v.toInt64, .long (lN 0), .long (lN nc)]) (rest := []) ⟨hx, hb, hml, hown, hts⟩ (c_X6_in_r l G v nc (by first | assumption | omega)) (va_cwS 3 hts gX6_cut_X6_in rfl rfl rfl (by decide +kernel) ⟨Nat.le_of_ble_eq_true rfl, Nat.le_of_ble_eq_true rfl⟩) hP hS rfl hl.1 rfl (Nat.le_of_ble_eq_true rfl) dX6_cut_29 ⟨Nat.zero_le _, Nat.zero_le _⟩ (fun r29 H locs hp29 hP hS => ?_)
      rw [show r29 = _ from hp29]
      refine xb_if_eq (tgt := 44) hx hb dX6_cut_32 rfl (fun b32 => ?_) (fun b32 => ?_)
      · skip
        refine lv_iconst (v := (-1)) hx hb dX6_cut_44 (by decide) ?_
        have hP := hP.sub (ws' := [oC ko 6 [.ref (ad 0), .ref (ad 1), .int (nI w), .int (nI h), .int (nI la), .ref (ad 2), .int (mv 0), .int (mv 1), .int (mv 2), .int (mv 3), .int (mv 4), .int (mv 5), .int (mv 6), .ref (ad 3), .int (nI tp), .int (mv 7), .int (mv 8), .int (mv 9), .int (mv 10), .int ft, .int (mv 11), .ref (ad 4), .ref (ad 5), .ref (ad 6), .ref (ad 7), .ref (ad 8), .ref (ad 9), .ref (ad 10), .int tr], iA G (ad 0) 255 S]) [0, 1] rfl
        have hD := hD.sub (ws' := [oC ko 6 [.ref (ad 0), .ref (ad 1), .int (nI w), .int (nI h), .int (nI la), .ref (ad 2), .int (mv 0), .int (mv 1), .int (mv 2), .int (mv 3), .int (mv 4), .int (mv 5), .int (mv 6), .ref (ad 3), .int (nI tp), .int (mv 7), .int (mv 8), .int (mv 9), .int (mv 10), .int ft, .int (mv 11), .ref (ad 4), .ref (ad 5), .ref (ad 6), .ref (ad 7), .ref (ad 8), .ref (ad 9), .ref (ad 10), .int tr], iA G (ad 0) 255 S]) [0, 1] (by decide) rfl
        refine W.iret (v := (-1)) hx hb hr (fun t ht hW => ⟨⟨(-1), (S), rfl, ?_, by rw [ht]; exact hP, hD⟩, hS.F ht⟩) hS.2.2 dX6_cut_45
        first | exact absurd (inR_2.mpr (Or.inl b1)) b16 | exact ⟨((if_pos b1).trans (if_neg b32)).symm, ((if_neg (fun q => b32 q.2)).trans (if_neg (fun q => absurd (q.1.symm.trans b1) (by decide)))).symm⟩ | exact ⟨hs16.trans ((if_pos b1).trans (if_pos b32)).symm, (if_pos ⟨b1, b32⟩).symm⟩ | exact ⟨((if_neg b1).trans (if_neg (fun q => b16 (inR_2.mpr (Or.inr q))))).symm, ((if_neg (fun q => b1 q.1)).trans (if_neg (fun q => b16 (inR_2.mpr (Or.inr q.1))))).symm⟩ | exact ⟨((if_neg b1).trans ((if_pos ((inR_2.mp b16).resolve_left b1)).trans (if_neg b32))).symm, ((if_neg (fun q => b1 q.1)).trans (if_neg (fun q => b32 q.2))).symm⟩ | exact ⟨hs47.trans ((if_neg b1).trans ((if_pos ((inR_2.mp b16).resolve_left b1)).trans (if_pos b32))).symm, ((if_neg (fun q => b1 q.1)).trans (if_pos ⟨((inR_2.mp b16).resolve_left b1), b32⟩)).symm⟩
      · skip
        refine lv_aload_n hx hb dX6_cut_35 rfl (lv_at hl 1 rfl) ?_
        refine lv_iload_n hx hb dX6_cut_36 rfl (lv_at hl 0 rfl) ?_
        refine lv_iload_n hx hb dX6_cut_37 rfl (lv_at hl 3 rfl) ?_
        refine xw_i (As := [.int (nI 16), .int v]) (rest := []) (wr := []) ⟨hx, hb, hml, hown, hts⟩ (c_X6_becomes l G H.size ko ad w h la tp ft tr mv S 16 v (by first | assumption | omega)) (cwV 2 hts gX6_cut_X6_becomes rfl rfl rfl (by decide +kernel) ⟨Nat.le_of_ble_eq_true rfl, Nat.le_of_ble_eq_true rfl⟩) hK hP hD hS hA [0, 1] [] rfl rfl (by decide) (by decide) (by decide) rfl rfl rfl hl.1 rfl (Nat.le_of_ble_eq_true rfl) dX6_cut_38 ⟨Nat.le_of_ble_eq_true rfl, Nat.le_of_ble_eq_true rfl⟩ (fun r38 u H locs hp38 hP hD hS => ?_)
        obtain ⟨u0_38, rfl⟩ : ∃ z, z = u := ⟨_, rfl⟩
        try dsimp only at hp38 hP hD
        obtain ⟨rfl, rfl⟩ := hp38
        replace hP : xP G [oC ko 6 [.ref (ad 0), .ref (ad 1), .int (nI w), .int (nI h), .int (nI la), .ref (ad 2), .int (mv 0), .int (mv 1), .int (mv 2), .int (mv 3), .int (mv 4), .int (mv 5), .int (mv 6), .ref (ad 3), .int (nI tp), .int (mv 7), .int (mv 8), .int (mv 9), .int (mv 10), .int ft, .int (mv 11), .ref (ad 4), .ref (ad 5), .ref (ad 6), .ref (ad 7), .ref (ad 8), .ref (ad 9), .ref (ad 10), .int tr], iA G (ad 0) 255 (upd S 16 v)] H := hP
        replace hD : va_D (va_A (w_X6_cut G ko ad w h la tp ft tr mv S) ss.heap.size) [oC ko 6 [.ref (ad 0), .ref (ad 1), .int (nI w), .int (nI h), .int (nI la), .ref (ad 2), .int (mv 0), .int (mv 1), .int (mv 2), .int (mv 3), .int (mv 4), .int (mv 5), .int (mv 6), .ref (ad 3), .int (nI tp), .int (mv 7), .int (mv 8), .int (mv 9), .int (mv 10), .int ft, .int (mv 11), .ref (ad 4), .ref (ad 5), .ref (ad 6), .ref (ad 7), .ref (ad 8), .ref (ad 9), .ref (ad 10), .int tr], iA G (ad 0) 255 (upd S 16 v)] := hD
        refine lv_goto (tgt := 45) hx hb dX6_cut_41 rfl ?_
        have hP := hP.sub (ws' := [oC ko 6 [.ref (ad 0), .ref (ad 1), .int (nI w), .int (nI h), .int (nI la), .ref (ad 2), .int (mv 0), .int (mv 1), .int (mv 2), .int (mv 3), .int (mv 4), .int (mv 5), .int (mv 6), .ref (ad 3), .int (nI tp), .int (mv 7), .int (mv 8), .int (mv 9), .int (mv 10), .int ft, .int (mv 11), .ref (ad 4), .ref (ad 5), .ref (ad 6), .ref (ad 7), .ref (ad 8), .ref (ad 9), .ref (ad 10), .int tr], iA G (ad 0) 255 (upd S 16 v)]) [0, 1] rfl
        have hD := hD.sub (ws' := [oC ko 6 [.ref (ad 0), .ref (ad 1), .int (nI w), .int (nI h), .int (nI la), .ref (ad 2), .int (mv 0), .int (mv 1), .int (mv 2), .int (mv 3), .int (mv 4), .int (mv 5), .int (mv 6), .ref (ad 3), .int (nI tp), .int (mv 7), .int (mv 8), .int (mv 9), .int (mv 10), .int ft, .int (mv 11), .ref (ad 4), .ref (ad 5), .ref (ad 6), .ref (ad 7), .ref (ad 8), .ref (ad 9), .ref (ad 10), .int tr], iA G (ad 0) 255 (upd S 16 v)]) [0, 1] (by decide) rfl
        refine W.iret (v := S 16) hx hb hr (fun t ht hW => ⟨⟨S 16, ((upd S 16 v)), rfl, ?_, by rw [ht]; exact hP, hD⟩, hS.F ht⟩) hS.2.2 dX6_cut_45
        first | exact absurd (inR_2.mpr (Or.inl b1)) b16 | exact ⟨((if_pos b1).trans (if_neg b32)).symm, ((if_neg (fun q => b32 q.2)).trans (if_neg (fun q => absurd (q.1.symm.trans b1) (by decide)))).symm⟩ | exact ⟨hs16.trans ((if_pos b1).trans (if_pos b32)).symm, (if_pos ⟨b1, b32⟩).symm⟩ | exact ⟨((if_neg b1).trans (if_neg (fun q => b16 (inR_2.mpr (Or.inr q))))).symm, ((if_neg (fun q => b1 q.1)).trans (if_neg (fun q => b16 (inR_2.mpr (Or.inr q.1))))).symm⟩ | exact ⟨((if_neg b1).trans ((if_pos ((inR_2.mp b16).resolve_left b1)).trans (if_neg b32))).symm, ((if_neg (fun q => b1 q.1)).trans (if_neg (fun q => b32 q.2))).symm⟩ | exact ⟨hs47.trans ((if_neg b1).trans ((if_pos ((inR_2.mp b16).resolve_left b1)).trans (if_pos b32))).symm, ((if_neg (fun q => b1 q.1)).trans (if_pos ⟨((inR_2.mp b16).resolve_left b1), b32⟩)).symm⟩
end
section
theorem bit1 {y : Int32} : y &&& nI 1 = nI 1 ↔ ¬ y &&& nI 1 = 0 := by
  rcases and1 y with q | q
  · rw [q]; exact ⟨fun h => absurd h (by decide), fun h => absurd rfl h⟩
  · rw [q]; exact ⟨fun _ => by decide, fun _ => rfl⟩
abbrev slM (w h : Nat) (S : Nat → Int32) (nc x c : Nat) : Nat → Nat := fun d => slA (anM w h S nc x c d)
abbrev wsM (w h la : Nat) (S : Nat → Int32) (nc x c : Nat) (some_ : Int32) : Nat := woF (slM w h S nc x c) (fun d => bitB some_ d) (la + 1)
theorem anm_in {w h : Nat} {S : Nat → Int32} {nc x c d : Nat} (hm : inR (mkM S nc c d) 6) (h0 : ¬ anM w h S nc x c d = (-4)) : inR (anM w h S nc x c d) 6 := by
  unfold anM at h0 ⊢
  split
  · exact hm
  · rename_i q; rw [if_neg q] at h0; exact absurd rfl h0
theorem wo_gt {sl : Nat → Nat} {fb : Nat → Bool} {d sk wo : Nat} {ty : Nat → Int32} (hfb : fb d = true) (hsk : sk = sl d) (hwo : wo = woF sl fb d) (ht : ty sk = nI (tlF sl fb d sk)) (hd : d ≤ 10) (hg : wo < tlF sl fb d sk + 1) : tlF sl fb d sk + 1 = woF sl fb (d + 1) := by
  rw [woF, if_pos hfb, ← hsk, ← hwo, if_pos hg]
theorem wo_le {sl : Nat → Nat} {fb : Nat → Bool} {d sk wo : Nat} (hfb : fb d = true) (hsk : sk = sl d) (hwo : wo = woF sl fb d) (hg : ¬ wo < tlF sl fb d sk + 1) : wo = woF sl fb (d + 1) := by
  rw [woF, if_pos hfb, ← hsk, ← hwo, if_neg hg]
/-- the reference's again: a bit may be set more than once -/
def agI (p : Nat → Bool) (d : Nat) (b : Int32) : Nat → Int32
  | 0 => b
  | e + 1 => agI p d b e ||| ((if p e then nI 1 else nI 0) <<< (nI d &&& 31))
def agM (p : Nat → Nat → Bool) : Nat → Int32
  | 0 => nI 0
  | d + 1 => agI (p d) d (agM p d) d
theorem agI_T {p : Nat → Bool} {d e : Nat} {b : Int32} (h : p e = true) : agI p d b (e + 1) = agI p d b e ||| (nI 1 <<< (nI d &&& 31)) := by rw [agI, if_pos h]
theorem agI_F {p : Nat → Bool} {d e : Nat} {b : Int32} (h : p e = false) : agI p d b (e + 1) = agI p d b e ||| (nI 0 <<< (nI d &&& 31)) := by rw [agI, if_neg (by rw [h]; decide)]
end

abbrev Q_X6_in (G : XG) (v lo hi : Int64) : Array Value → State → Outcome → State → Prop := (xRi (fun r => r = xb (lo.toInt ≤ v.toInt ∧ v.toInt ≤ hi.toInt)))
set_option maxHeartbeats 4000000 in
set_option maxRecDepth 100000 in
theorem c_X6_in (l : Launch) (G : XG) (v lo hi : Int64)  : Met l yX6_in wsX6_in ({ frames := 0, cells := 0, slots := 0, locals := 0 } : Room) (va_Pc [.long v, .long lo, .long hi] (fun _ => True)) (Q_X6_in G v lo hi) 0 0 (fun _ => False) := by
  refine Met.ofW (cc := cX6_in) (maxL := 6) (ret := (some .boolean)) (by decide) rfl ?_
  intro pp ee ss mm aa below mt cd s₁ BB hml hv
  obtain ⟨rfl, -⟩ := hv
  have hx := BB.exec
  have hb := BB.bytes
  have hr := BB.returns
  have hts := atoms_spec (ws := wsX6_in) BB.pre
  have hown : ss.vm.findClass RX6 = some mm.cls := findClass_of_methodNamed BB.named
  have hlocks := BB.notSynchronized
  have hS : va_S (fun _ => False) ss.heap ss.heap [] := va_S.rf
  have hP : xP (G) [] ss.heap := fun k q h => by cases h
  have hl := lv_entry ([.long v, .long lo, .long hi]) (n := 6) (Nat.le_of_ble_eq_true rfl)
  rw [lg_entry_eq]
  generalize (lg_sl ([.long v, .long lo, .long hi]) ++ List.replicate (6 - (lg_sl ([.long v, .long lo, .long hi])).length) Slot.unset).toArray = ls at hl ⊢
  replace hl : lv_has ls 6 [(0, .long v), (2, .long lo), (4, .long hi)] := hl
  refine lv_lload_n hx hb dX6_in_0 rfl (lv_at hl 0 rfl) ?_
  refine lv_lload_n hx hb dX6_in_1 rfl (lv_at hl 1 rfl) ?_
  refine W.lcmp hx hb dX6_in_2 ?_
  refine xl_if_lt (tgt := 17) hx hb dX6_in_3 rfl (fun b3 => ?_) (fun b3 => ?_)
  · skip
    refine lv_iconst (v := nI 0) hx hb dX6_in_17 (by decide) ?_
    refine W.zret (v := nI 0) (ty := .boolean) hx hb hr (by decide) (fun t ht hW => ⟨⟨nI 0, (), rfl, ?_, trivial⟩, hS.F ht⟩) hS.2.2 dX6_in_18
    first | exact (xb_t (by omega)).symm | exact (xb_f (by omega)).symm
  · skip
    refine lv_lload_n hx hb dX6_in_6 rfl (lv_at hl 0 rfl) ?_
    refine lv_lload hx hb dX6_in_7 (lv_at hl 2 rfl) ?_
    refine W.lcmp hx hb dX6_in_9 ?_
    refine xl_if_gt (tgt := 17) hx hb dX6_in_10 rfl (fun b10 => ?_) (fun b10 => ?_)
    · skip
      refine lv_iconst (v := nI 0) hx hb dX6_in_17 (by decide) ?_
      refine W.zret (v := nI 0) (ty := .boolean) hx hb hr (by decide) (fun t ht hW => ⟨⟨nI 0, (), rfl, ?_, trivial⟩, hS.F ht⟩) hS.2.2 dX6_in_18
      first | exact (xb_t (by omega)).symm | exact (xb_f (by omega)).symm
    · skip
      refine lv_iconst (v := nI 1) hx hb dX6_in_13 (by decide) ?_
      refine lv_goto (tgt := 18) hx hb dX6_in_14 rfl ?_
      refine W.zret (v := nI 1) (ty := .boolean) hx hb hr (by decide) (fun t ht hW => ⟨⟨nI 1, (), rfl, ?_, trivial⟩, hS.F ht⟩) hS.2.2 dX6_in_18
      first | exact (xb_t (by omega)).symm | exact (xb_f (by omega)).symm

abbrev Q_X6_flag (G : XG) (P : Prop) (iP : Decidable P) : Array Value → State → Outcome → State → Prop := (xRi (fun r => r = xb (P)))
set_option maxHeartbeats 4000000 in
set_option maxRecDepth 100000 in
theorem c_X6_flag (l : Launch) (G : XG) (P : Prop) (iP : Decidable P)  : Met l yX6_flag wsX6_flag ({ frames := 0, cells := 0, slots := 0, locals := 0 } : Room) (va_Pc [.int (xb (P))] (fun _ => True)) (Q_X6_flag G P iP) 0 0 (fun _ => False) := by
  refine Met.ofW (cc := cX6_flag) (maxL := 1) (ret := (some .int)) (by decide) rfl ?_
  intro pp ee ss mm aa below mt cd s₁ BB hml hv
  obtain ⟨rfl, -⟩ := hv
  have hx := BB.exec
  have hb := BB.bytes
  have hr := BB.returns
  have hts := atoms_spec (ws := wsX6_flag) BB.pre
  have hown : ss.vm.findClass RX6 = some mm.cls := findClass_of_methodNamed BB.named
  have hlocks := BB.notSynchronized
  have hS : va_S (fun _ => False) ss.heap ss.heap [] := va_S.rf
  have hP : xP (G) [] ss.heap := fun k q h => by cases h
  have hl := lv_entry ([.int (xb (P))]) (n := 1) (Nat.le_of_ble_eq_true rfl)
  rw [lg_entry_eq]
  generalize (lg_sl ([.int (xb (P))]) ++ List.replicate (1 - (lg_sl ([.int (xb (P))])).length) Slot.unset).toArray = ls at hl ⊢
  replace hl : lv_has ls 1 [(0, .int (xb (P)))] := hl
  refine lv_iload_n hx hb dX6_flag_0 rfl (lv_at hl 0 rfl) ?_
  refine xb_if_eq (tgt := 8) hx hb dX6_flag_1 rfl (fun b1 => ?_) (fun b1 => ?_)
  · skip
    refine lv_iconst (v := nI 0) hx hb dX6_flag_8 (by decide) ?_
    refine W.iret (v := nI 0) hx hb hr (fun t ht hW => ⟨⟨nI 0, (), rfl, ?_, trivial⟩, hS.F ht⟩) hS.2.2 dX6_flag_9
    first | exact (xb_t b1).symm | exact (xb_f b1).symm
  · skip
    refine lv_iconst (v := nI 1) hx hb dX6_flag_4 (by decide) ?_
    refine lv_goto (tgt := 9) hx hb dX6_flag_5 rfl ?_
    refine W.iret (v := nI 1) hx hb hr (fun t ht hW => ⟨⟨nI 1, (), rfl, ?_, trivial⟩, hS.F ht⟩) hS.2.2 dX6_flag_9
    first | exact (xb_t b1).symm | exact (xb_f b1).symm

abbrev w_X6_cellsNow (G : XG) (ko : Nat) (ad : Nat → Nat) (w h la tp : Nat) (ft tr : Int32) (mv : Nat → Int32) : va_W := [oC ko 6 [.ref (ad 0), .ref (ad 1), .int (nI w), .int (nI h), .int (nI la), .ref (ad 2), .int (mv 0), .int (mv 1), .int (mv 2), .int (mv 3), .int (mv 4), .int (mv 5), .int (mv 6), .ref (ad 3), .int (nI tp), .int (mv 7), .int (mv 8), .int (mv 9), .int (mv 10), .int ft, .int (mv 11), .ref (ad 4), .ref (ad 5), .ref (ad 6), .ref (ad 7), .ref (ad 8), .ref (ad 9), .ref (ad 10), .int tr]]
abbrev Q_X6_cellsNow (G : XG) (ko : Nat) (ad : Nat → Nat) (w h la tp : Nat) (ft tr : Int32) (mv : Nat → Int32) : Array Value → State → Outcome → State → Prop := (xRi (fun r => r = nI (w * h)))
set_option maxHeartbeats 4000000 in
set_option maxRecDepth 100000 in
theorem c_X6_cellsNow (l : Launch) (G : XG) (ko : Nat) (ad : Nat → Nat) (w h la tp : Nat) (ft tr : Int32) (mv : Nat → Int32)  : Met l yX6_cellsNow wsX6_cellsNow ({ frames := 0, cells := 0, slots := 0, locals := 0 } : Room) (va_Pc [.ref ko] (xRp G (w_X6_cellsNow G ko ad w h la tp ft tr mv))) (Q_X6_cellsNow G ko ad w h la tp ft tr mv) 0 0 (fun _ => False) := by
  refine Met.ofW (cc := cX6_cellsNow) (maxL := 1) (ret := (some .int)) (by decide) rfl ?_
  intro pp ee ss mm aa below mt cd s₁ BB hml hv
  obtain ⟨rfl, hP, hK⟩ := hv
  have hx := BB.exec
  have hb := BB.bytes
  have hr := BB.returns
  have hts := atoms_spec (ws := wsX6_cellsNow) BB.pre
  have hown : ss.vm.findClass RX6 = some mm.cls := findClass_of_methodNamed BB.named
  have hlocks := BB.notSynchronized
  have hS : va_S (fun _ => False) ss.heap ss.heap [] := va_S.rf
  replace hP : xP G [oC ko 6 [.ref (ad 0), .ref (ad 1), .int (nI w), .int (nI h), .int (nI la), .ref (ad 2), .int (mv 0), .int (mv 1), .int (mv 2), .int (mv 3), .int (mv 4), .int (mv 5), .int (mv 6), .ref (ad 3), .int (nI tp), .int (mv 7), .int (mv 8), .int (mv 9), .int (mv 10), .int ft, .int (mv 11), .ref (ad 4), .ref (ad 5), .ref (ad 6), .ref (ad 7), .ref (ad 8), .ref (ad 9), .ref (ad 10), .int tr]] ss.heap := hP
  have hin6 : ∀ w ∈ u_ws RX6 TX6 29, w ∈ wsX6_cellsNow := fun w h => List.mem_cons_of_mem _ (List.mem_append_right _ h)
  have hl := lv_entry ([.ref ko]) (n := 1) (Nat.le_of_ble_eq_true rfl)
  rw [lg_entry_eq]
  generalize (lg_sl ([.ref ko]) ++ List.replicate (1 - (lg_sl ([.ref ko])).length) Slot.unset).toArray = ls at hl ⊢
  replace hl : lv_has ls 1 [(0, .ref ko)] := hl
  refine lv_aload_n hx hb dX6_cellsNow_0 rfl (lv_at hl 0 rfl) ?_
  refine va_get (D := G.1) (ci := 6) (v := .int (nI w)) (C := RX6) (T := TX6) (N := 29) hx hb hts hin6 hown hK.1 hP 0 rfl rfl 2 (by decide) (hts (.fieldLink RX6 72 "BackLensesModel" "wide" "I") (List.mem_of_getElem? (i := 1) rfl)) (fun _ h9 => h9) rfl dX6_cellsNow_1 ?_
  refine lv_aload_n hx hb dX6_cellsNow_4 rfl (lv_at hl 0 rfl) ?_
  refine va_get (D := G.1) (ci := 6) (v := .int (nI h)) (C := RX6) (T := TX6) (N := 29) hx hb hts hin6 hown hK.1 hP 0 rfl rfl 3 (by decide) (hts (.fieldLink RX6 75 "BackLensesModel" "high" "I") (List.mem_of_getElem? (i := 2) rfl)) (fun _ h9 => h9) rfl dX6_cellsNow_5 ?_
  refine xn_imul hx hb dX6_cellsNow_8 ?_
  refine W.iret (v := nI (w * h)) hx hb hr (fun t ht hW => ⟨⟨nI (w * h), (), rfl, ?_, trivial⟩, hS.F ht⟩) hS.2.2 dX6_cellsNow_9
  rfl

abbrev w_X6_isCell (G : XG) (ko : Nat) (ad : Nat → Nat) (w h la tp : Nat) (ft tr : Int32) (mv : Nat → Int32) : va_W := [oC ko 6 [.ref (ad 0), .ref (ad 1), .int (nI w), .int (nI h), .int (nI la), .ref (ad 2), .int (mv 0), .int (mv 1), .int (mv 2), .int (mv 3), .int (mv 4), .int (mv 5), .int (mv 6), .ref (ad 3), .int (nI tp), .int (mv 7), .int (mv 8), .int (mv 9), .int (mv 10), .int ft, .int (mv 11), .ref (ad 4), .ref (ad 5), .ref (ad 6), .ref (ad 7), .ref (ad 8), .ref (ad 9), .ref (ad 10), .int tr]]
abbrev Q_X6_isCell (G : XG) (ko : Nat) (ad : Nat → Nat) (w h la tp : Nat) (ft tr : Int32) (mv : Nat → Int32) (c : Int32) : Array Value → State → Outcome → State → Prop := (xRi (fun r => r = xb (inR c (w * h))))
set_option maxHeartbeats 4000000 in
set_option maxRecDepth 100000 in
theorem c_X6_isCell (l : Launch) (G : XG) (ko : Nat) (ad : Nat → Nat) (w h la tp : Nat) (ft tr : Int32) (mv : Nat → Int32) (c : Int32) (hwh1 : 1 ≤ w * h) (hwh : w * h ≤ 16) : Met l yX6_isCell wsX6_isCell ({ frames := 1, cells := 0, slots := 0, locals := 25 } : Room) (va_Pc [.ref ko, .int c] (xRp G (w_X6_isCell G ko ad w h la tp ft tr mv))) (Q_X6_isCell G ko ad w h la tp ft tr mv c) 0 0 (fun _ => False) := by
  refine Met.ofW (cc := cX6_isCell) (maxL := 2) (ret := (some .boolean)) (by decide) rfl ?_
  intro pp ee ss mm aa below mt cd s₁ BB hml hv
  obtain ⟨rfl, hP, hK⟩ := hv
  have hx := BB.exec
  have hb := BB.bytes
  have hr := BB.returns
  have hts := atoms_spec (ws := wsX6_isCell) BB.pre
  have hown : ss.vm.findClass RX6 = some mm.cls := findClass_of_methodNamed BB.named
  have hlocks := BB.notSynchronized
  have hS : va_S (fun _ => False) ss.heap ss.heap [] := va_S.rf
  replace hP : xP G [oC ko 6 [.ref (ad 0), .ref (ad 1), .int (nI w), .int (nI h), .int (nI la), .ref (ad 2), .int (mv 0), .int (mv 1), .int (mv 2), .int (mv 3), .int (mv 4), .int (mv 5), .int (mv 6), .ref (ad 3), .int (nI tp), .int (mv 7), .int (mv 8), .int (mv 9), .int (mv 10), .int ft, .int (mv 11), .ref (ad 4), .ref (ad 5), .ref (ad 6), .ref (ad 7), .ref (ad 8), .ref (ad 9), .ref (ad 10), .int tr]] ss.heap := hP
  have hin6 : ∀ w ∈ u_ws RX6 TX6 29, w ∈ wsX6_isCell := fun w h => List.mem_cons_of_mem _ (List.mem_append_right _ h)
  have hl := lv_entry ([.ref ko, .int c]) (n := 2) (Nat.le_of_ble_eq_true rfl)
  rw [lg_entry_eq]
  generalize (lg_sl ([.ref ko, .int c]) ++ List.replicate (2 - (lg_sl ([.ref ko, .int c])).length) Slot.unset).toArray = ls at hl ⊢
  replace hl : lv_has ls 2 [(0, .ref ko), (1, .int c)] := hl
  refine lv_iload_n hx hb dX6_isCell_0 rfl (lv_at hl 1 rfl) ?_
  refine xi_i2l hx hb dX6_isCell_1 ?_
  refine lv_lconst (v := lN 0) hx hb dX6_isCell_2 (by decide) ?_
  refine lv_aload_n hx hb dX6_isCell_3 rfl (lv_at hl 0 rfl) ?_
  refine xr_i (As := []) (rest := [.long (lN 0), .long c.toInt64]) ⟨hx, hb, hml, hown, hts⟩ (c_X6_cellsNow l G ko ad w h la tp ft tr mv ) (cwV 0 hts gX6_isCell_X6_cellsNow rfl rfl rfl (by decide +kernel) ⟨Nat.le_of_ble_eq_true rfl, Nat.le_of_ble_eq_true rfl⟩) hK hP hS [0] rfl rfl rfl rfl hl.1 rfl (Nat.le_of_ble_eq_true rfl) dX6_isCell_4 ⟨Nat.zero_le _, Nat.zero_le _⟩ (fun r4 H locs hp4 hP hS => ?_)
  rw [show r4 = _ from hp4]
  refine lv_iconst (v := nI 1) hx hb dX6_isCell_7 (by decide) ?_
  refine xn_isub hx hb (by omega) dX6_isCell_8 ?_
  refine xn_i2l hx hb (by omega) dX6_isCell_9 ?_
  refine xs_i (As := [.long c.toInt64, .long (lN 0), .long (lN ((w * h) - 1))]) (rest := []) ⟨hx, hb, hml, hown, hts⟩ (c_X6_in l G c.toInt64 (lN 0) (lN ((w * h) - 1)) ) (va_cwS 3 hts gX6_isCell_X6_in rfl rfl rfl (by decide +kernel) ⟨Nat.le_of_ble_eq_true rfl, Nat.le_of_ble_eq_true rfl⟩) hP hS rfl hl.1 rfl (Nat.le_of_ble_eq_true rfl) dX6_isCell_10 ⟨Nat.zero_le _, Nat.zero_le _⟩ (fun r10 H locs hp10 hP hS => ?_)
  rw [show r10 = _ from hp10]
  refine W.zret (v := xb ((lN 0).toInt ≤ c.toInt64.toInt ∧ c.toInt64.toInt ≤ (lN ((w * h) - 1)).toInt)) (ty := .boolean) hx hb hr xb_nar (fun t ht hW => ⟨⟨xb ((lN 0).toInt ≤ c.toInt64.toInt ∧ c.toInt64.toInt ≤ (lN ((w * h) - 1)).toInt), (), rfl, ?_, trivial⟩, hS.F ht⟩) hS.2.2 dX6_isCell_13
  exact xb_congr (by simp only [i64_toInt]; rw [lN_toInt' (by omega), lN_toInt' (by omega)]; unfold inR; omega)

abbrev w_X6_isDay (G : XG) (ko : Nat) (ad : Nat → Nat) (w h la tp : Nat) (ft tr : Int32) (mv : Nat → Int32) : va_W := [oC ko 6 [.ref (ad 0), .ref (ad 1), .int (nI w), .int (nI h), .int (nI la), .ref (ad 2), .int (mv 0), .int (mv 1), .int (mv 2), .int (mv 3), .int (mv 4), .int (mv 5), .int (mv 6), .ref (ad 3), .int (nI tp), .int (mv 7), .int (mv 8), .int (mv 9), .int (mv 10), .int ft, .int (mv 11), .ref (ad 4), .ref (ad 5), .ref (ad 6), .ref (ad 7), .ref (ad 8), .ref (ad 9), .ref (ad 10), .int tr]]
abbrev Q_X6_isDay (G : XG) (ko : Nat) (ad : Nat → Nat) (w h la tp : Nat) (ft tr : Int32) (mv : Nat → Int32) (d : Int32) : Array Value → State → Outcome → State → Prop := (xRi (fun r => r = xb (inR d (la + 1))))
set_option maxHeartbeats 4000000 in
set_option maxRecDepth 100000 in
theorem c_X6_isDay (l : Launch) (G : XG) (ko : Nat) (ad : Nat → Nat) (w h la tp : Nat) (ft tr : Int32) (mv : Nat → Int32) (d : Int32) (hla : la ≤ 9) : Met l yX6_isDay wsX6_isDay ({ frames := 1, cells := 0, slots := 0, locals := 25 } : Room) (va_Pc [.ref ko, .int d] (xRp G (w_X6_isDay G ko ad w h la tp ft tr mv))) (Q_X6_isDay G ko ad w h la tp ft tr mv d) 0 0 (fun _ => False) := by
  refine Met.ofW (cc := cX6_isDay) (maxL := 2) (ret := (some .boolean)) (by decide) rfl ?_
  intro pp ee ss mm aa below mt cd s₁ BB hml hv
  obtain ⟨rfl, hP, hK⟩ := hv
  have hx := BB.exec
  have hb := BB.bytes
  have hr := BB.returns
  have hts := atoms_spec (ws := wsX6_isDay) BB.pre
  have hown : ss.vm.findClass RX6 = some mm.cls := findClass_of_methodNamed BB.named
  have hlocks := BB.notSynchronized
  have hS : va_S (fun _ => False) ss.heap ss.heap [] := va_S.rf
  replace hP : xP G [oC ko 6 [.ref (ad 0), .ref (ad 1), .int (nI w), .int (nI h), .int (nI la), .ref (ad 2), .int (mv 0), .int (mv 1), .int (mv 2), .int (mv 3), .int (mv 4), .int (mv 5), .int (mv 6), .ref (ad 3), .int (nI tp), .int (mv 7), .int (mv 8), .int (mv 9), .int (mv 10), .int ft, .int (mv 11), .ref (ad 4), .ref (ad 5), .ref (ad 6), .ref (ad 7), .ref (ad 8), .ref (ad 9), .ref (ad 10), .int tr]] ss.heap := hP
  have hin6 : ∀ w ∈ u_ws RX6 TX6 29, w ∈ wsX6_isDay := fun w h => List.mem_cons_of_mem _ (List.mem_append_right _ h)
  have hl := lv_entry ([.ref ko, .int d]) (n := 2) (Nat.le_of_ble_eq_true rfl)
  rw [lg_entry_eq]
  generalize (lg_sl ([.ref ko, .int d]) ++ List.replicate (2 - (lg_sl ([.ref ko, .int d])).length) Slot.unset).toArray = ls at hl ⊢
  replace hl : lv_has ls 2 [(0, .ref ko), (1, .int d)] := hl
  refine lv_iload_n hx hb dX6_isDay_0 rfl (lv_at hl 1 rfl) ?_
  refine xi_i2l hx hb dX6_isDay_1 ?_
  refine lv_lconst (v := lN 0) hx hb dX6_isDay_2 (by decide) ?_
  refine lv_aload_n hx hb dX6_isDay_3 rfl (lv_at hl 0 rfl) ?_
  refine va_get (D := G.1) (ci := 6) (v := .int (nI la)) (C := RX6) (T := TX6) (N := 29) hx hb hts hin6 hown hK.1 hP 0 rfl rfl 4 (by decide) (hts (.fieldLink RX6 78 "BackLensesModel" "last" "I") (List.mem_of_getElem? (i := 1) rfl)) (fun _ h9 => h9) rfl dX6_isDay_4 ?_
  refine xn_i2l hx hb (by omega) dX6_isDay_7 ?_
  refine xs_i (As := [.long d.toInt64, .long (lN 0), .long (lN la)]) (rest := []) ⟨hx, hb, hml, hown, hts⟩ (c_X6_in l G d.toInt64 (lN 0) (lN la) ) (va_cwS 3 hts gX6_isDay_X6_in rfl rfl rfl (by decide +kernel) ⟨Nat.le_of_ble_eq_true rfl, Nat.le_of_ble_eq_true rfl⟩) hP hS rfl hl.1 rfl (Nat.le_of_ble_eq_true rfl) dX6_isDay_8 ⟨Nat.zero_le _, Nat.zero_le _⟩ (fun r8 H locs hp8 hP hS => ?_)
  rw [show r8 = _ from hp8]
  refine W.zret (v := xb ((lN 0).toInt ≤ d.toInt64.toInt ∧ d.toInt64.toInt ≤ (lN la).toInt)) (ty := .boolean) hx hb hr xb_nar (fun t ht hW => ⟨⟨xb ((lN 0).toInt ≤ d.toInt64.toInt ∧ d.toInt64.toInt ≤ (lN la).toInt), (), rfl, ?_, trivial⟩, hS.F ht⟩) hS.2.2 dX6_isDay_11
  exact xb_congr (by simp only [i64_toInt]; rw [lN_toInt' (by omega), lN_toInt' (by omega)]; unfold inR; omega)

abbrev Q_X6_isMark (G : XG) (m : Int32) : Array Value → State → Outcome → State → Prop := (xRi (fun r => r = xb (inR m 6)))
set_option maxHeartbeats 4000000 in
set_option maxRecDepth 100000 in
theorem c_X6_isMark (l : Launch) (G : XG) (m : Int32)  : Met l yX6_isMark wsX6_isMark ({ frames := 1, cells := 0, slots := 0, locals := 25 } : Room) (va_Pc [.int m] (fun _ => True)) (Q_X6_isMark G m) 0 0 (fun _ => False) := by
  refine Met.ofW (cc := cX6_isMark) (maxL := 1) (ret := (some .boolean)) (by decide) rfl ?_
  intro pp ee ss mm aa below mt cd s₁ BB hml hv
  obtain ⟨rfl, -⟩ := hv
  have hx := BB.exec
  have hb := BB.bytes
  have hr := BB.returns
  have hts := atoms_spec (ws := wsX6_isMark) BB.pre
  have hown : ss.vm.findClass RX6 = some mm.cls := findClass_of_methodNamed BB.named
  have hlocks := BB.notSynchronized
  have hS : va_S (fun _ => False) ss.heap ss.heap [] := va_S.rf
  have hP : xP (G) [] ss.heap := fun k q h => by cases h
  have hl := lv_entry ([.int m]) (n := 1) (Nat.le_of_ble_eq_true rfl)
  rw [lg_entry_eq]
  generalize (lg_sl ([.int m]) ++ List.replicate (1 - (lg_sl ([.int m])).length) Slot.unset).toArray = ls at hl ⊢
  replace hl : lv_has ls 1 [(0, .int m)] := hl
  refine lv_iload_n hx hb dX6_isMark_0 rfl (lv_at hl 0 rfl) ?_
  refine xi_i2l hx hb dX6_isMark_1 ?_
  refine lv_lconst (v := lN 0) hx hb dX6_isMark_2 (by decide) ?_
  refine lv_ldc2 (v := lN 5) hx hb hown (hts (.constantLong RX6 161 (lN 5)) (List.mem_of_getElem? (i := 1) rfl)) dX6_isMark_3 ?_
  refine xs_i (As := [.long m.toInt64, .long (lN 0), .long (lN 5)]) (rest := []) ⟨hx, hb, hml, hown, hts⟩ (c_X6_in l G m.toInt64 (lN 0) (lN 5) ) (va_cwS 3 hts gX6_isMark_X6_in rfl rfl rfl (by decide +kernel) ⟨Nat.le_of_ble_eq_true rfl, Nat.le_of_ble_eq_true rfl⟩) hP hS rfl hl.1 rfl (Nat.le_of_ble_eq_true rfl) dX6_isMark_6 ⟨Nat.zero_le _, Nat.zero_le _⟩ (fun r6 H locs hp6 hP hS => ?_)
  rw [show r6 = _ from hp6]
  refine W.zret (v := xb ((lN 0).toInt ≤ m.toInt64.toInt ∧ m.toInt64.toInt ≤ (lN 5).toInt)) (ty := .boolean) hx hb hr xb_nar (fun t ht hW => ⟨⟨xb ((lN 0).toInt ≤ m.toInt64.toInt ∧ m.toInt64.toInt ≤ (lN 5).toInt), (), rfl, ?_, trivial⟩, hS.F ht⟩) hS.2.2 dX6_isMark_9
  exact xb_congr (by simp only [i64_toInt]; rw [lN_toInt' (by omega), lN_toInt' (by omega)]; unfold inR; omega)

abbrev Q_X6_isPart (G : XG) (m : Int32) : Array Value → State → Outcome → State → Prop := (xRi (fun r => r = xb (inR m 2)))
set_option maxHeartbeats 4000000 in
set_option maxRecDepth 100000 in
theorem c_X6_isPart (l : Launch) (G : XG) (m : Int32)  : Met l yX6_isPart wsX6_isPart ({ frames := 1, cells := 0, slots := 0, locals := 25 } : Room) (va_Pc [.int m] (fun _ => True)) (Q_X6_isPart G m) 0 0 (fun _ => False) := by
  refine Met.ofW (cc := cX6_isPart) (maxL := 1) (ret := (some .boolean)) (by decide) rfl ?_
  intro pp ee ss mm aa below mt cd s₁ BB hml hv
  obtain ⟨rfl, -⟩ := hv
  have hx := BB.exec
  have hb := BB.bytes
  have hr := BB.returns
  have hts := atoms_spec (ws := wsX6_isPart) BB.pre
  have hown : ss.vm.findClass RX6 = some mm.cls := findClass_of_methodNamed BB.named
  have hlocks := BB.notSynchronized
  have hS : va_S (fun _ => False) ss.heap ss.heap [] := va_S.rf
  have hP : xP (G) [] ss.heap := fun k q h => by cases h
  have hl := lv_entry ([.int m]) (n := 1) (Nat.le_of_ble_eq_true rfl)
  rw [lg_entry_eq]
  generalize (lg_sl ([.int m]) ++ List.replicate (1 - (lg_sl ([.int m])).length) Slot.unset).toArray = ls at hl ⊢
  replace hl : lv_has ls 1 [(0, .int m)] := hl
  refine lv_iload_n hx hb dX6_isPart_0 rfl (lv_at hl 0 rfl) ?_
  refine xi_i2l hx hb dX6_isPart_1 ?_
  refine lv_lconst (v := lN 0) hx hb dX6_isPart_2 (by decide) ?_
  refine lv_lconst (v := lN 1) hx hb dX6_isPart_3 (by decide) ?_
  refine xs_i (As := [.long m.toInt64, .long (lN 0), .long (lN 1)]) (rest := []) ⟨hx, hb, hml, hown, hts⟩ (c_X6_in l G m.toInt64 (lN 0) (lN 1) ) (va_cwS 3 hts gX6_isPart_X6_in rfl rfl rfl (by decide +kernel) ⟨Nat.le_of_ble_eq_true rfl, Nat.le_of_ble_eq_true rfl⟩) hP hS rfl hl.1 rfl (Nat.le_of_ble_eq_true rfl) dX6_isPart_4 ⟨Nat.zero_le _, Nat.zero_le _⟩ (fun r4 H locs hp4 hP hS => ?_)
  rw [show r4 = _ from hp4]
  refine W.zret (v := xb ((lN 0).toInt ≤ m.toInt64.toInt ∧ m.toInt64.toInt ≤ (lN 1).toInt)) (ty := .boolean) hx hb hr xb_nar (fun t ht hW => ⟨⟨xb ((lN 0).toInt ≤ m.toInt64.toInt ∧ m.toInt64.toInt ≤ (lN 1).toInt), (), rfl, ?_, trivial⟩, hS.F ht⟩) hS.2.2 dX6_isPart_7
  exact xb_congr (by simp only [i64_toInt]; rw [lN_toInt' (by omega), lN_toInt' (by omega)]; unfold inR; omega)

abbrev w_X6_isLens (G : XG) (ko : Nat) (ad : Nat → Nat) (w h la tp : Nat) (ft tr : Int32) (mv : Nat → Int32) (S : Nat → Int32) : va_W := [oC ko 6 [.ref (ad 0), .ref (ad 1), .int (nI w), .int (nI h), .int (nI la), .ref (ad 2), .int (mv 0), .int (mv 1), .int (mv 2), .int (mv 3), .int (mv 4), .int (mv 5), .int (mv 6), .ref (ad 3), .int (nI tp), .int (mv 7), .int (mv 8), .int (mv 9), .int (mv 10), .int ft, .int (mv 11), .ref (ad 4), .ref (ad 5), .ref (ad 6), .ref (ad 7), .ref (ad 8), .ref (ad 9), .ref (ad 10), .int tr], iA G (ad 0) 255 S]
abbrev Q_X6_isLens (G : XG) (ko : Nat) (ad : Nat → Nat) (w h la tp : Nat) (ft tr : Int32) (mv : Nat → Int32) (S : Nat → Int32) (nl : Nat) (i : Int32) : Array Value → State → Outcome → State → Prop := (xRi (fun r => r = xb (inR i nl)))
set_option maxHeartbeats 4000000 in
set_option maxRecDepth 100000 in
theorem c_X6_isLens (l : Launch) (G : XG) (ko : Nat) (ad : Nat → Nat) (w h la tp : Nat) (ft tr : Int32) (mv : Nat → Int32) (S : Nat → Int32) (nl : Nat) (i : Int32) (hs47 : S 47 = nI nl) (hnl : nl ≤ 6) : Met l yX6_isLens wsX6_isLens ({ frames := 1, cells := 0, slots := 0, locals := 25 } : Room) (va_Pc [.ref ko, .int i] (xRp G (w_X6_isLens G ko ad w h la tp ft tr mv S))) (Q_X6_isLens G ko ad w h la tp ft tr mv S nl i) 0 0 (fun _ => False) := by
  refine Met.ofW (cc := cX6_isLens) (maxL := 2) (ret := (some .boolean)) (by decide) rfl ?_
  intro pp ee ss mm aa below mt cd s₁ BB hml hv
  obtain ⟨rfl, hP, hK⟩ := hv
  have hx := BB.exec
  have hb := BB.bytes
  have hr := BB.returns
  have hts := atoms_spec (ws := wsX6_isLens) BB.pre
  have hown : ss.vm.findClass RX6 = some mm.cls := findClass_of_methodNamed BB.named
  have hlocks := BB.notSynchronized
  have hS : va_S (fun _ => False) ss.heap ss.heap [] := va_S.rf
  replace hP : xP G [oC ko 6 [.ref (ad 0), .ref (ad 1), .int (nI w), .int (nI h), .int (nI la), .ref (ad 2), .int (mv 0), .int (mv 1), .int (mv 2), .int (mv 3), .int (mv 4), .int (mv 5), .int (mv 6), .ref (ad 3), .int (nI tp), .int (mv 7), .int (mv 8), .int (mv 9), .int (mv 10), .int ft, .int (mv 11), .ref (ad 4), .ref (ad 5), .ref (ad 6), .ref (ad 7), .ref (ad 8), .ref (ad 9), .ref (ad 10), .int tr], iA G (ad 0) 255 S] ss.heap := hP
  have hin6 : ∀ w ∈ u_ws RX6 TX6 29, w ∈ wsX6_isLens := fun w h => List.mem_cons_of_mem _ (List.mem_append_right _ h)
  have hl := lv_entry ([.ref ko, .int i]) (n := 2) (Nat.le_of_ble_eq_true rfl)
  rw [lg_entry_eq]
  generalize (lg_sl ([.ref ko, .int i]) ++ List.replicate (2 - (lg_sl ([.ref ko, .int i])).length) Slot.unset).toArray = ls at hl ⊢
  replace hl : lv_has ls 2 [(0, .ref ko), (1, .int i)] := hl
  refine lv_iload_n hx hb dX6_isLens_0 rfl (lv_at hl 1 rfl) ?_
  refine xi_i2l hx hb dX6_isLens_1 ?_
  refine lv_lconst (v := lN 0) hx hb dX6_isLens_2 (by decide) ?_
  refine lv_aload_n hx hb dX6_isLens_3 rfl (lv_at hl 0 rfl) ?_
  refine va_get (D := G.1) (ci := 6) (v := .ref (ad 0)) (C := RX6) (T := TX6) (N := 29) hx hb hts hin6 hown hK.1 hP 0 rfl rfl 0 (by decide) (hts (.fieldLink RX6 7 "BackLensesModel" "st" "[I") (List.mem_of_getElem? (i := 1) rfl)) (fun _ h9 => h9) rfl dX6_isLens_4 ?_
  refine lv_bipush (v := nI 47) hx hb dX6_isLens_7 (by decide) ?_
  refine xn_iald hx hb hK hP 1 rfl (by omega) (by omega) dX6_isLens_9 ?_
  refine xn_top hs47 ?_
  refine lv_iconst (v := nI 1) hx hb dX6_isLens_10 (by decide) ?_
  refine lv_isub hx hb dX6_isLens_11 ?_
  refine xi_i2l hx hb dX6_isLens_12 ?_
  refine xs_i (As := [.long i.toInt64, .long (lN 0), .long (((nI nl) - (nI 1)).toInt64)]) (rest := []) ⟨hx, hb, hml, hown, hts⟩ (c_X6_in l G i.toInt64 (lN 0) (((nI nl) - (nI 1)).toInt64) ) (va_cwS 3 hts gX6_isLens_X6_in rfl rfl rfl (by decide +kernel) ⟨Nat.le_of_ble_eq_true rfl, Nat.le_of_ble_eq_true rfl⟩) hP hS rfl hl.1 rfl (Nat.le_of_ble_eq_true rfl) dX6_isLens_13 ⟨Nat.zero_le _, Nat.zero_le _⟩ (fun r13 H locs hp13 hP hS => ?_)
  rw [show r13 = _ from hp13]
  refine W.zret (v := xb ((lN 0).toInt ≤ i.toInt64.toInt ∧ i.toInt64.toInt ≤ (((nI nl) - (nI 1)).toInt64).toInt)) (ty := .boolean) hx hb hr xb_nar (fun t ht hW => ⟨⟨xb ((lN 0).toInt ≤ i.toInt64.toInt ∧ i.toInt64.toInt ≤ (((nI nl) - (nI 1)).toInt64).toInt), (), rfl, ?_, trivial⟩, hS.F ht⟩) hS.2.2 dX6_isLens_16
  exact xb_congr (by simp only [i64_toInt]; rw [lN_toInt' (by omega), pk_sub_toInt (by omega) (by omega)]; unfold inR; omega)

abbrev Q_X6_bitsOf (G : XG) (x : Int32) : Array Value → State → Outcome → State → Prop := (xRi (fun r => r = bcM x 16))
set_option maxHeartbeats 4000000 in
set_option maxRecDepth 100000 in
theorem c_X6_bitsOf (l : Launch) (G : XG) (x : Int32)  : Met l yX6_bitsOf wsX6_bitsOf ({ frames := 0, cells := 0, slots := 0, locals := 0 } : Room) (va_Pc [.int x] (fun _ => True)) (Q_X6_bitsOf G x) 0 0 (fun _ => False) := by
  refine Met.ofW (cc := cX6_bitsOf) (maxL := 3) (ret := (some .int)) (by decide) rfl ?_
  intro pp ee ss mm aa below mt cd s₁ BB hml hv
  obtain ⟨rfl, -⟩ := hv
  have hx := BB.exec
  have hb := BB.bytes
  have hr := BB.returns
  have hts := atoms_spec (ws := wsX6_bitsOf) BB.pre
  have hown : ss.vm.findClass RX6 = some mm.cls := findClass_of_methodNamed BB.named
  have hlocks := BB.notSynchronized
  have hS : va_S (fun _ => False) ss.heap ss.heap [] := va_S.rf
  have hP : xP (G) [] ss.heap := fun k q h => by cases h
  have hl := lv_entry ([.int x]) (n := 3) (Nat.le_of_ble_eq_true rfl)
  rw [lg_entry_eq]
  generalize (lg_sl ([.int x]) ++ List.replicate (3 - (lg_sl ([.int x])).length) Slot.unset).toArray = ls at hl ⊢
  replace hl : lv_has ls 3 [(0, .int x)] := hl
  refine lv_iconst (v := nI 0) hx hb dX6_bitsOf_0 (by decide) ?_
  refine lv_istore_n (lv' := [(1, .int (nI 0)), (0, .int x)]) hx hb dX6_bitsOf_1 rfl hl (by decide) rfl (fun ls hl => ?_)
  refine lv_iconst (v := nI 0) hx hb dX6_bitsOf_2 (by decide) ?_
  refine lv_istore_n (lv' := [(2, .int (nI 0)), (1, .int (nI 0)), (0, .int x)]) hx hb dX6_bitsOf_3 rfl hl (by decide) rfl (fun ls hl => ?_)
  have hL4 : ∀ k : Nat, ∀ (k1 : Nat) (n : Int32) (ls : Array Slot) (H : Heap) (locs : List Loc), 16 - k1 = k → (k1 ≤ 16) → (n = bcM x k1) → lv_has ls 3 [(0, .int x), (1, .int n), (2, .int (nI k1))] → xP G [] H → va_S (fun _ => False) ss.heap H locs → W pp l ee ({ frames := 0, cells := 0, slots := 0, locals := 0 } : Room) ss mm ([.int x] : List Value).toArray below mt cd H locs 0 0 (MQ below (Q_X6_bitsOf G x) ([.int x] : List Value).toArray ss 0 0 (fun _ => False)) (F0 mm 4 ls []) := by
    intro k
    induction k using Nat.strongRecOn with
    | _ k ih4 =>
    intro k1 n ls H locs hm4 hk1 hn hl hP hS
    refine lv_iload_n hx hb dX6_bitsOf_4 rfl (lv_at hl 2 rfl) ?_
    refine lv_bipush (v := nI 16) hx hb dX6_bitsOf_5 (by decide) ?_
    refine xn_icmp_ge (tgt := 24) hx hb (by omega) (by omega) dX6_bitsOf_7 rfl (fun b7 => ?_) (fun b7 => ?_)
    · skip
      refine lv_iload_n hx hb dX6_bitsOf_24 rfl (lv_at hl 1 rfl) ?_
      refine W.iret (v := n) hx hb hr (fun t ht hW => ⟨⟨n, (), rfl, ?_, trivial⟩, hS.F ht⟩) hS.2.2 dX6_bitsOf_25
      rw [hn, show k1 = 16 by omega]
    · skip
      refine lv_iload_n hx hb dX6_bitsOf_10 rfl (lv_at hl 1 rfl) ?_
      refine lv_iload_n hx hb dX6_bitsOf_11 rfl (lv_at hl 0 rfl) ?_
      refine lv_iload_n hx hb dX6_bitsOf_12 rfl (lv_at hl 2 rfl) ?_
      refine lv_ishr hx hb dX6_bitsOf_13 ?_
      refine lv_iconst (v := nI 1) hx hb dX6_bitsOf_14 (by decide) ?_
      refine lv_iand hx hb dX6_bitsOf_15 ?_
      refine lv_iadd hx hb dX6_bitsOf_16 ?_
      refine lv_istore_n (lv' := [(1, .int (n + ((x >>> ((nI k1) &&& 31)) &&& (nI 1)))), (0, .int x), (2, .int (nI k1))]) hx hb dX6_bitsOf_17 rfl hl (by decide) rfl (fun ls hl => ?_)
      refine lv_iinc (k := 2) (v := nI (k1 + 1)) (lv' := [(2, .int (nI (k1 + 1))), (1, .int (n + ((x >>> ((nI k1) &&& 31)) &&& (nI 1)))), (0, .int x)]) hx hb dX6_bitsOf_18 hl rfl (xn_inc k1 1) (by decide) rfl (fun ls hl => ?_)
      refine lv_goto (tgt := 4) hx hb dX6_bitsOf_21 rfl ?_
      have hl := lv_sub hl (l' := [(0, .int x), (1, .int (n + ((x >>> ((nI k1) &&& 31)) &&& (nI 1)))), (2, .int (nI (k1 + 1)))]) [2, 1, 0] rfl
      exact ih4 (16 - (k1 + 1)) (by omega) (k1 + 1) (n + ((x >>> ((nI k1) &&& 31)) &&& (nI 1))) ls H locs rfl (by omega) (by rw [hn]; rfl) hl hP hS
  have hl := lv_sub hl (l' := [(0, .int x), (1, .int (nI 0)), (2, .int (nI 0))]) [2, 1, 0] rfl
  exact hL4 (16 - 0) 0 (nI 0) ls ss.heap [] rfl (by omega) (by rfl) hl hP hS

abbrev w_X6_markOf (G : XG) (ko : Nat) (ad : Nat → Nat) (w h la tp : Nat) (ft tr : Int32) (mv : Nat → Int32) (S : Nat → Int32) : va_W := [oC ko 6 [.ref (ad 0), .ref (ad 1), .int (nI w), .int (nI h), .int (nI la), .ref (ad 2), .int (mv 0), .int (mv 1), .int (mv 2), .int (mv 3), .int (mv 4), .int (mv 5), .int (mv 6), .ref (ad 3), .int (nI tp), .int (mv 7), .int (mv 8), .int (mv 9), .int (mv 10), .int ft, .int (mv 11), .ref (ad 4), .ref (ad 5), .ref (ad 6), .ref (ad 7), .ref (ad 8), .ref (ad 9), .ref (ad 10), .int tr], iA G (ad 0) 255 S]
abbrev Q_X6_markOf (G : XG) (ko : Nat) (ad : Nat → Nat) (w h la tp : Nat) (ft tr : Int32) (mv : Nat → Int32) (S : Nat → Int32) (nc c d : Nat) : Array Value → State → Outcome → State → Prop := (xRi (fun r => r = mkM S nc c d))
set_option maxHeartbeats 4000000 in
set_option maxRecDepth 100000 in
theorem c_X6_markOf (l : Launch) (G : XG) (ko : Nat) (ad : Nat → Nat) (w h la tp : Nat) (ft tr : Int32) (mv : Nat → Int32) (S : Nat → Int32) (nc c d : Nat) (hs16 : S 16 = nI nc) (hnc : nc ≤ 10) (hc : c < 16) (hd : d ≤ 100) : Met l yX6_markOf wsX6_markOf ({ frames := 0, cells := 0, slots := 0, locals := 0 } : Room) (va_Pc [.ref ko, .int (nI c), .int (nI d)] (xRp G (w_X6_markOf G ko ad w h la tp ft tr mv S))) (Q_X6_markOf G ko ad w h la tp ft tr mv S nc c d) 0 0 (fun _ => False) := by
  refine Met.ofW (cc := cX6_markOf) (maxL := 8) (ret := (some .int)) (by decide) rfl ?_
  intro pp ee ss mm aa below mt cd s₁ BB hml hv
  obtain ⟨rfl, hP, hK⟩ := hv
  have hx := BB.exec
  have hb := BB.bytes
  have hr := BB.returns
  have hts := atoms_spec (ws := wsX6_markOf) BB.pre
  have hown : ss.vm.findClass RX6 = some mm.cls := findClass_of_methodNamed BB.named
  have hlocks := BB.notSynchronized
  have hS : va_S (fun _ => False) ss.heap ss.heap [] := va_S.rf
  replace hP : xP G [oC ko 6 [.ref (ad 0), .ref (ad 1), .int (nI w), .int (nI h), .int (nI la), .ref (ad 2), .int (mv 0), .int (mv 1), .int (mv 2), .int (mv 3), .int (mv 4), .int (mv 5), .int (mv 6), .ref (ad 3), .int (nI tp), .int (mv 7), .int (mv 8), .int (mv 9), .int (mv 10), .int ft, .int (mv 11), .ref (ad 4), .ref (ad 5), .ref (ad 6), .ref (ad 7), .ref (ad 8), .ref (ad 9), .ref (ad 10), .int tr], iA G (ad 0) 255 S] ss.heap := hP
  have hin6 : ∀ w ∈ u_ws RX6 TX6 29, w ∈ wsX6_markOf := fun w h => List.mem_cons_of_mem _ (List.mem_append_right _ h)
  have hl := lv_entry ([.ref ko, .int (nI c), .int (nI d)]) (n := 8) (Nat.le_of_ble_eq_true rfl)
  rw [lg_entry_eq]
  generalize (lg_sl ([.ref ko, .int (nI c), .int (nI d)]) ++ List.replicate (8 - (lg_sl ([.ref ko, .int (nI c), .int (nI d)])).length) Slot.unset).toArray = ls at hl ⊢
  replace hl : lv_has ls 8 [(0, .ref ko), (1, .int (nI c)), (2, .int (nI d))] := hl
  refine lv_aload_n hx hb dX6_markOf_0 rfl (lv_at hl 0 rfl) ?_
  refine va_get (D := G.1) (ci := 6) (v := .ref (ad 0)) (C := RX6) (T := TX6) (N := 29) hx hb hts hin6 hown hK.1 hP 0 rfl rfl 0 (by decide) (hts (.fieldLink RX6 7 "BackLensesModel" "st" "[I") (List.mem_of_getElem? (i := 1) rfl)) (fun _ h9 => h9) rfl dX6_markOf_1 ?_
  refine lv_iconst (v := nI 0) hx hb dX6_markOf_4 (by decide) ?_
  refine lv_iload_n hx hb dX6_markOf_5 rfl (lv_at hl 1 rfl) ?_
  refine xn_iadd hx hb dX6_markOf_6 ?_
  refine xn_iald hx hb hK hP 1 rfl (by omega) (by omega) dX6_markOf_7 ?_
  refine lv_istore_n (lv' := [(3, .int (S (0 + c))), (0, .ref ko), (1, .int (nI c)), (2, .int (nI d))]) hx hb dX6_markOf_8 rfl hl (by decide) rfl (fun ls hl => ?_)
  refine lv_bipush (v := (-4)) hx hb dX6_markOf_9 (by decide) ?_
  refine lv_istore (lv' := [(4, .int (-4)), (3, .int (S (0 + c))), (0, .ref ko), (1, .int (nI c)), (2, .int (nI d))]) hx hb dX6_markOf_11 hl (by decide) rfl (fun ls hl => ?_)
  refine lv_iconst (v := nI 0) hx hb dX6_markOf_13 (by decide) ?_
  refine lv_istore (lv' := [(5, .int (nI 0)), (4, .int (-4)), (3, .int (S (0 + c))), (0, .ref ko), (1, .int (nI c)), (2, .int (nI d))]) hx hb dX6_markOf_14 hl (by decide) rfl (fun ls hl => ?_)
  have hL16 : ∀ k : Nat, ∀ (i : Nat) (fo : Int32) (lt : Int32) (ls : Array Slot) (H : Heap) (locs : List Loc), nc - i = k → (i ≤ nc) → ((fo, lt) = mkR S c d i) → lv_has ls 8 [(0, .ref ko), (1, .int (nI c)), (2, .int (nI d)), (3, .int fo), (4, .int lt), (5, .int (nI i))] → xP G [iA G (ad 0) 255 S, oC ko 6 [.ref (ad 0), .ref (ad 1), .int (nI w), .int (nI h), .int (nI la), .ref (ad 2), .int (mv 0), .int (mv 1), .int (mv 2), .int (mv 3), .int (mv 4), .int (mv 5), .int (mv 6), .ref (ad 3), .int (nI tp), .int (mv 7), .int (mv 8), .int (mv 9), .int (mv 10), .int ft, .int (mv 11), .ref (ad 4), .ref (ad 5), .ref (ad 6), .ref (ad 7), .ref (ad 8), .ref (ad 9), .ref (ad 10), .int tr]] H → va_S (fun _ => False) ss.heap H locs → W pp l ee ({ frames := 0, cells := 0, slots := 0, locals := 0 } : Room) ss mm ([.ref ko, .int (nI c), .int (nI d)] : List Value).toArray below mt cd H locs 0 0 (MQ below (Q_X6_markOf G ko ad w h la tp ft tr mv S nc c d) ([.ref ko, .int (nI c), .int (nI d)] : List Value).toArray ss 0 0 (fun _ => False)) (F0 mm 16 ls []) := by
    intro k
    induction k using Nat.strongRecOn with
    | _ k ih16 =>
    intro i fo lt ls H locs hm16 hi hm hl hP hS
    refine lv_iload hx hb dX6_markOf_16 (lv_at hl 5 rfl) ?_
    refine lv_aload_n hx hb dX6_markOf_18 rfl (lv_at hl 0 rfl) ?_
    refine va_get (D := G.1) (ci := 6) (v := .ref (ad 0)) (C := RX6) (T := TX6) (N := 29) hx hb hts hin6 hown hK.1 hP 1 rfl rfl 0 (by decide) (hts (.fieldLink RX6 7 "BackLensesModel" "st" "[I") (List.mem_of_getElem? (i := 1) rfl)) (fun _ h9 => h9) rfl dX6_markOf_19 ?_
    refine lv_bipush (v := nI 16) hx hb dX6_markOf_22 (by decide) ?_
    refine xn_iald hx hb hK hP 0 rfl (by omega) (by omega) dX6_markOf_24 ?_
    refine xn_top hs16 ?_
    refine xn_icmp_ge (tgt := 124) hx hb (by omega) (by omega) dX6_markOf_25 rfl (fun b25 => ?_) (fun b25 => ?_)
    · skip
      refine lv_iload_n hx hb dX6_markOf_124 rfl (lv_at hl 3 rfl) ?_
      refine W.iret (v := fo) hx hb hr (fun t ht hW => ⟨⟨fo, (), rfl, ?_, trivial⟩, hS.F ht⟩) hS.2.2 dX6_markOf_125
      show fo = (mkR S c d nc).1; rw [show nc = i by omega, ← hm]
    · skip
      refine lv_bipush (v := nI 17) hx hb dX6_markOf_28 (by decide) ?_
      refine lv_iconst (v := nI 3) hx hb dX6_markOf_30 (by decide) ?_
      refine lv_iload hx hb dX6_markOf_31 (lv_at hl 5 rfl) ?_
      refine xn_imul hx hb dX6_markOf_33 ?_
      refine xn_iadd hx hb dX6_markOf_34 ?_
      refine lv_istore (lv' := [(6, .int (nI (17 + (3 * i)))), (0, .ref ko), (1, .int (nI c)), (2, .int (nI d)), (3, .int fo), (4, .int lt), (5, .int (nI i))]) hx hb dX6_markOf_35 hl (by decide) rfl (fun ls hl => ?_)
      refine lv_aload_n hx hb dX6_markOf_37 rfl (lv_at hl 1 rfl) ?_
      refine va_get (D := G.1) (ci := 6) (v := .ref (ad 0)) (C := RX6) (T := TX6) (N := 29) hx hb hts hin6 hown hK.1 hP 1 rfl rfl 0 (by decide) (hts (.fieldLink RX6 7 "BackLensesModel" "st" "[I") (List.mem_of_getElem? (i := 1) rfl)) (fun _ h9 => h9) rfl dX6_markOf_38 ?_
      refine lv_iload hx hb dX6_markOf_41 (lv_at hl 0 rfl) ?_
      refine lv_iconst (v := nI 1) hx hb dX6_markOf_43 (by decide) ?_
      refine xn_iadd hx hb dX6_markOf_44 ?_
      refine xn_iald hx hb hK hP 0 rfl (by omega) (by omega) dX6_markOf_45 ?_
      refine lv_iload_n hx hb dX6_markOf_46 rfl (lv_at hl 2 rfl) ?_
      refine lv_icmp_ne (tgt := 77) hx hb dX6_markOf_47 rfl (fun b47 => ?_) (fun b47 => ?_)
      · skip
        refine lv_iconst (v := nI 0) hx hb dX6_markOf_77 (by decide) ?_
        refine lv_istore (lv' := [(7, .int (nI 0)), (6, .int (nI (17 + (3 * i)))), (0, .ref ko), (1, .int (nI c)), (2, .int (nI d)), (3, .int fo), (4, .int lt), (5, .int (nI i))]) hx hb dX6_markOf_78 hl (by decide) rfl (fun ls hl => ?_)
        refine lv_iload hx hb dX6_markOf_80 (lv_at hl 0 rfl) ?_
        refine xn_if_eq (tgt := 97) hx hb (by omega) dX6_markOf_82 rfl (fun _ => ?_) (fun b82 => absurd b82 (by omega))
        refine lv_iload_n hx hb dX6_markOf_97 rfl (lv_at hl 5 rfl) ?_
        refine lv_istore_n (lv' := [(3, .int fo), (7, .int (nI 0)), (6, .int (nI (17 + (3 * i)))), (0, .ref ko), (1, .int (nI c)), (2, .int (nI d)), (4, .int lt), (5, .int (nI i))]) hx hb dX6_markOf_98 rfl hl (by decide) rfl (fun ls hl => ?_)
        refine lv_iload hx hb dX6_markOf_99 (lv_at hl 1 rfl) ?_
        refine xn_if_eq (tgt := 114) hx hb (by omega) dX6_markOf_101 rfl (fun _ => ?_) (fun b101 => absurd b101 (by omega))
        refine lv_iload hx hb dX6_markOf_114 (lv_at hl 6 rfl) ?_
        refine lv_istore (lv' := [(4, .int lt), (3, .int fo), (7, .int (nI 0)), (6, .int (nI (17 + (3 * i)))), (0, .ref ko), (1, .int (nI c)), (2, .int (nI d)), (5, .int (nI i))]) hx hb dX6_markOf_116 hl (by decide) rfl (fun ls hl => ?_)
        refine lv_iinc (k := 7) (v := nI (i + 1)) (lv' := [(5, .int (nI (i + 1))), (4, .int lt), (3, .int fo), (7, .int (nI 0)), (6, .int (nI (17 + (3 * i)))), (0, .ref ko), (1, .int (nI c)), (2, .int (nI d))]) hx hb dX6_markOf_118 hl rfl (xn_inc i 1) (by decide) rfl (fun ls hl => ?_)
        refine lv_goto (tgt := 16) hx hb dX6_markOf_121 rfl ?_
        have hl := lv_sub hl (l' := [(0, .ref ko), (1, .int (nI c)), (2, .int (nI d)), (3, .int fo), (4, .int lt), (5, .int (nI (i + 1)))]) [5, 6, 7, 2, 1, 0] rfl
        exact ih16 (nc - (i + 1)) (by omega) (i + 1) fo lt ls H locs rfl (by omega) (by rw [mkR, ← hm]; first | exact (if_neg (fun q => b47 q.1)).symm | exact (if_neg (fun q => absurd q.2.1 (by omega))).symm | exact (if_neg (fun q => absurd q.2.2 (by dsimp only; omega))).symm | exact (if_pos ⟨b47, by omega, by dsimp only; omega⟩).symm) hl hP hS
      · skip
        refine lv_aload_n hx hb dX6_markOf_50 rfl (lv_at hl 1 rfl) ?_
        refine va_get (D := G.1) (ci := 6) (v := .ref (ad 0)) (C := RX6) (T := TX6) (N := 29) hx hb hts hin6 hown hK.1 hP 1 rfl rfl 0 (by decide) (hts (.fieldLink RX6 7 "BackLensesModel" "st" "[I") (List.mem_of_getElem? (i := 1) rfl)) (fun _ h9 => h9) rfl dX6_markOf_51 ?_
        refine lv_iload hx hb dX6_markOf_54 (lv_at hl 0 rfl) ?_
        refine xn_iald hx hb hK hP 0 rfl (by omega) (by omega) dX6_markOf_56 ?_
        refine lv_iload_n hx hb dX6_markOf_57 rfl (lv_at hl 3 rfl) ?_
        refine xm_icmp_gt (tgt := 77) hx hb (by omega) dX6_markOf_58 rfl (fun b58 => ?_) (fun b58 => ?_)
        · skip
          refine lv_iconst (v := nI 0) hx hb dX6_markOf_77 (by decide) ?_
          refine lv_istore (lv' := [(7, .int (nI 0)), (6, .int (nI (17 + (3 * i)))), (0, .ref ko), (1, .int (nI c)), (2, .int (nI d)), (3, .int fo), (4, .int lt), (5, .int (nI i))]) hx hb dX6_markOf_78 hl (by decide) rfl (fun ls hl => ?_)
          refine lv_iload hx hb dX6_markOf_80 (lv_at hl 0 rfl) ?_
          refine xn_if_eq (tgt := 97) hx hb (by omega) dX6_markOf_82 rfl (fun _ => ?_) (fun b82 => absurd b82 (by omega))
          refine lv_iload_n hx hb dX6_markOf_97 rfl (lv_at hl 5 rfl) ?_
          refine lv_istore_n (lv' := [(3, .int fo), (7, .int (nI 0)), (6, .int (nI (17 + (3 * i)))), (0, .ref ko), (1, .int (nI c)), (2, .int (nI d)), (4, .int lt), (5, .int (nI i))]) hx hb dX6_markOf_98 rfl hl (by decide) rfl (fun ls hl => ?_)
          refine lv_iload hx hb dX6_markOf_99 (lv_at hl 1 rfl) ?_
          refine xn_if_eq (tgt := 114) hx hb (by omega) dX6_markOf_101 rfl (fun _ => ?_) (fun b101 => absurd b101 (by omega))
          refine lv_iload hx hb dX6_markOf_114 (lv_at hl 6 rfl) ?_
          refine lv_istore (lv' := [(4, .int lt), (3, .int fo), (7, .int (nI 0)), (6, .int (nI (17 + (3 * i)))), (0, .ref ko), (1, .int (nI c)), (2, .int (nI d)), (5, .int (nI i))]) hx hb dX6_markOf_116 hl (by decide) rfl (fun ls hl => ?_)
          refine lv_iinc (k := 7) (v := nI (i + 1)) (lv' := [(5, .int (nI (i + 1))), (4, .int lt), (3, .int fo), (7, .int (nI 0)), (6, .int (nI (17 + (3 * i)))), (0, .ref ko), (1, .int (nI c)), (2, .int (nI d))]) hx hb dX6_markOf_118 hl rfl (xn_inc i 1) (by decide) rfl (fun ls hl => ?_)
          refine lv_goto (tgt := 16) hx hb dX6_markOf_121 rfl ?_
          have hl := lv_sub hl (l' := [(0, .ref ko), (1, .int (nI c)), (2, .int (nI d)), (3, .int fo), (4, .int lt), (5, .int (nI (i + 1)))]) [5, 6, 7, 2, 1, 0] rfl
          exact ih16 (nc - (i + 1)) (by omega) (i + 1) fo lt ls H locs rfl (by omega) (by rw [mkR, ← hm]; first | exact (if_neg (fun q => b47 q.1)).symm | exact (if_neg (fun q => absurd q.2.1 (by omega))).symm | exact (if_neg (fun q => absurd q.2.2 (by dsimp only; omega))).symm | exact (if_pos ⟨b47, by omega, by dsimp only; omega⟩).symm) hl hP hS
        · skip
          refine lv_aload_n hx hb dX6_markOf_61 rfl (lv_at hl 1 rfl) ?_
          refine va_get (D := G.1) (ci := 6) (v := .ref (ad 0)) (C := RX6) (T := TX6) (N := 29) hx hb hts hin6 hown hK.1 hP 1 rfl rfl 0 (by decide) (hts (.fieldLink RX6 7 "BackLensesModel" "st" "[I") (List.mem_of_getElem? (i := 1) rfl)) (fun _ h9 => h9) rfl dX6_markOf_62 ?_
          refine lv_iload hx hb dX6_markOf_65 (lv_at hl 0 rfl) ?_
          refine xn_iald hx hb hK hP 0 rfl (by omega) (by omega) dX6_markOf_67 ?_
          refine lv_iload hx hb dX6_markOf_68 (lv_at hl 5 rfl) ?_
          refine xi_icmp_lt (tgt := 77) hx hb dX6_markOf_70 rfl (fun b70 => ?_) (fun b70 => ?_)
          · skip
            refine lv_iconst (v := nI 0) hx hb dX6_markOf_77 (by decide) ?_
            refine lv_istore (lv' := [(7, .int (nI 0)), (6, .int (nI (17 + (3 * i)))), (0, .ref ko), (1, .int (nI c)), (2, .int (nI d)), (3, .int fo), (4, .int lt), (5, .int (nI i))]) hx hb dX6_markOf_78 hl (by decide) rfl (fun ls hl => ?_)
            refine lv_iload hx hb dX6_markOf_80 (lv_at hl 0 rfl) ?_
            refine xn_if_eq (tgt := 97) hx hb (by omega) dX6_markOf_82 rfl (fun _ => ?_) (fun b82 => absurd b82 (by omega))
            refine lv_iload_n hx hb dX6_markOf_97 rfl (lv_at hl 5 rfl) ?_
            refine lv_istore_n (lv' := [(3, .int fo), (7, .int (nI 0)), (6, .int (nI (17 + (3 * i)))), (0, .ref ko), (1, .int (nI c)), (2, .int (nI d)), (4, .int lt), (5, .int (nI i))]) hx hb dX6_markOf_98 rfl hl (by decide) rfl (fun ls hl => ?_)
            refine lv_iload hx hb dX6_markOf_99 (lv_at hl 1 rfl) ?_
            refine xn_if_eq (tgt := 114) hx hb (by omega) dX6_markOf_101 rfl (fun _ => ?_) (fun b101 => absurd b101 (by omega))
            refine lv_iload hx hb dX6_markOf_114 (lv_at hl 6 rfl) ?_
            refine lv_istore (lv' := [(4, .int lt), (3, .int fo), (7, .int (nI 0)), (6, .int (nI (17 + (3 * i)))), (0, .ref ko), (1, .int (nI c)), (2, .int (nI d)), (5, .int (nI i))]) hx hb dX6_markOf_116 hl (by decide) rfl (fun ls hl => ?_)
            refine lv_iinc (k := 7) (v := nI (i + 1)) (lv' := [(5, .int (nI (i + 1))), (4, .int lt), (3, .int fo), (7, .int (nI 0)), (6, .int (nI (17 + (3 * i)))), (0, .ref ko), (1, .int (nI c)), (2, .int (nI d))]) hx hb dX6_markOf_118 hl rfl (xn_inc i 1) (by decide) rfl (fun ls hl => ?_)
            refine lv_goto (tgt := 16) hx hb dX6_markOf_121 rfl ?_
            have hl := lv_sub hl (l' := [(0, .ref ko), (1, .int (nI c)), (2, .int (nI d)), (3, .int fo), (4, .int lt), (5, .int (nI (i + 1)))]) [5, 6, 7, 2, 1, 0] rfl
            exact ih16 (nc - (i + 1)) (by omega) (i + 1) fo lt ls H locs rfl (by omega) (by rw [mkR, ← hm]; first | exact (if_neg (fun q => b47 q.1)).symm | exact (if_neg (fun q => absurd q.2.1 (by omega))).symm | exact (if_neg (fun q => absurd q.2.2 (by dsimp only; omega))).symm | exact (if_pos ⟨b47, by omega, by dsimp only; omega⟩).symm) hl hP hS
          · skip
            refine lv_iconst (v := nI 1) hx hb dX6_markOf_73 (by decide) ?_
            refine lv_goto (tgt := 78) hx hb dX6_markOf_74 rfl ?_
            refine lv_istore (lv' := [(7, .int (nI 1)), (6, .int (nI (17 + (3 * i)))), (0, .ref ko), (1, .int (nI c)), (2, .int (nI d)), (3, .int fo), (4, .int lt), (5, .int (nI i))]) hx hb dX6_markOf_78 hl (by decide) rfl (fun ls hl => ?_)
            refine lv_iload hx hb dX6_markOf_80 (lv_at hl 0 rfl) ?_
            refine xn_if_eq (tgt := 97) hx hb (by omega) dX6_markOf_82 rfl (fun b82 => absurd b82 (by omega)) (fun _ => ?_)
            refine lv_aload_n hx hb dX6_markOf_85 rfl (lv_at hl 2 rfl) ?_
            refine va_get (D := G.1) (ci := 6) (v := .ref (ad 0)) (C := RX6) (T := TX6) (N := 29) hx hb hts hin6 hown hK.1 hP 1 rfl rfl 0 (by decide) (hts (.fieldLink RX6 7 "BackLensesModel" "st" "[I") (List.mem_of_getElem? (i := 1) rfl)) (fun _ h9 => h9) rfl dX6_markOf_86 ?_
            refine lv_iload hx hb dX6_markOf_89 (lv_at hl 1 rfl) ?_
            refine lv_iconst (v := nI 2) hx hb dX6_markOf_91 (by decide) ?_
            refine xn_iadd hx hb dX6_markOf_92 ?_
            refine xn_iald hx hb hK hP 0 rfl (by omega) (by omega) dX6_markOf_93 ?_
            refine lv_goto (tgt := 98) hx hb dX6_markOf_94 rfl ?_
            refine lv_istore_n (lv' := [(3, .int (S ((17 + (3 * i)) + 2))), (7, .int (nI 1)), (6, .int (nI (17 + (3 * i)))), (0, .ref ko), (1, .int (nI c)), (2, .int (nI d)), (4, .int lt), (5, .int (nI i))]) hx hb dX6_markOf_98 rfl hl (by decide) rfl (fun ls hl => ?_)
            refine lv_iload hx hb dX6_markOf_99 (lv_at hl 1 rfl) ?_
            refine xn_if_eq (tgt := 114) hx hb (by omega) dX6_markOf_101 rfl (fun b101 => absurd b101 (by omega)) (fun _ => ?_)
            refine lv_aload_n hx hb dX6_markOf_104 rfl (lv_at hl 3 rfl) ?_
            refine va_get (D := G.1) (ci := 6) (v := .ref (ad 0)) (C := RX6) (T := TX6) (N := 29) hx hb hts hin6 hown hK.1 hP 1 rfl rfl 0 (by decide) (hts (.fieldLink RX6 7 "BackLensesModel" "st" "[I") (List.mem_of_getElem? (i := 1) rfl)) (fun _ h9 => h9) rfl dX6_markOf_105 ?_
            refine lv_iload hx hb dX6_markOf_108 (lv_at hl 2 rfl) ?_
            refine xn_iald hx hb hK hP 0 rfl (by omega) (by omega) dX6_markOf_110 ?_
            refine lv_goto (tgt := 116) hx hb dX6_markOf_111 rfl ?_
            refine lv_istore (lv' := [(4, .int (S (17 + (3 * i)))), (3, .int (S ((17 + (3 * i)) + 2))), (7, .int (nI 1)), (6, .int (nI (17 + (3 * i)))), (0, .ref ko), (1, .int (nI c)), (2, .int (nI d)), (5, .int (nI i))]) hx hb dX6_markOf_116 hl (by decide) rfl (fun ls hl => ?_)
            refine lv_iinc (k := 7) (v := nI (i + 1)) (lv' := [(5, .int (nI (i + 1))), (4, .int (S (17 + (3 * i)))), (3, .int (S ((17 + (3 * i)) + 2))), (7, .int (nI 1)), (6, .int (nI (17 + (3 * i)))), (0, .ref ko), (1, .int (nI c)), (2, .int (nI d))]) hx hb dX6_markOf_118 hl rfl (xn_inc i 1) (by decide) rfl (fun ls hl => ?_)
            refine lv_goto (tgt := 16) hx hb dX6_markOf_121 rfl ?_
            have hl := lv_sub hl (l' := [(0, .ref ko), (1, .int (nI c)), (2, .int (nI d)), (3, .int (S ((17 + (3 * i)) + 2))), (4, .int (S (17 + (3 * i)))), (5, .int (nI (i + 1)))]) [5, 6, 7, 2, 1, 0] rfl
            exact ih16 (nc - (i + 1)) (by omega) (i + 1) (S ((17 + (3 * i)) + 2)) (S (17 + (3 * i))) ls H locs rfl (by omega) (by rw [mkR, ← hm]; first | exact (if_neg (fun q => b47 q.1)).symm | exact (if_neg (fun q => absurd q.2.1 (by omega))).symm | exact (if_neg (fun q => absurd q.2.2 (by dsimp only; omega))).symm | exact (if_pos ⟨b47, by omega, by dsimp only; omega⟩).symm) hl hP hS
  have hl := lv_sub hl (l' := [(0, .ref ko), (1, .int (nI c)), (2, .int (nI d)), (3, .int (S (0 + c))), (4, .int (-4)), (5, .int (nI 0))]) [3, 4, 5, 2, 1, 0] rfl
  have hP := hP.sub (ws' := [iA G (ad 0) 255 S, oC ko 6 [.ref (ad 0), .ref (ad 1), .int (nI w), .int (nI h), .int (nI la), .ref (ad 2), .int (mv 0), .int (mv 1), .int (mv 2), .int (mv 3), .int (mv 4), .int (mv 5), .int (mv 6), .ref (ad 3), .int (nI tp), .int (mv 7), .int (mv 8), .int (mv 9), .int (mv 10), .int ft, .int (mv 11), .ref (ad 4), .ref (ad 5), .ref (ad 6), .ref (ad 7), .ref (ad 8), .ref (ad 9), .ref (ad 10), .int tr]]) [1, 0] rfl
  exact hL16 (nc - 0) 0 (S (0 + c)) (-4) ls ss.heap [] rfl (by omega) (by rw [show 0 + c = c by omega]; rfl) hl hP hS

abbrev w_X6_shiftTo (G : XG) (ko : Nat) (ad : Nat → Nat) (w h la tp : Nat) (ft tr : Int32) (mv : Nat → Int32) (S : Nat → Int32) (mk : Nat → Int32) : va_W := [oC ko 6 [.ref (ad 0), .ref (ad 1), .int (nI w), .int (nI h), .int (nI la), .ref (ad 2), .int (mv 0), .int (mv 1), .int (mv 2), .int (mv 3), .int (mv 4), .int (mv 5), .int (mv 6), .ref (ad 3), .int (nI tp), .int (mv 7), .int (mv 8), .int (mv 9), .int (mv 10), .int ft, .int (mv 11), .ref (ad 4), .ref (ad 5), .ref (ad 6), .ref (ad 7), .ref (ad 8), .ref (ad 9), .ref (ad 10), .int tr], iA G (ad 0) 255 S, iA G (ad 4) 16 mk]
abbrev Q_X6_shiftTo (G : XG) (sz : Nat) (ko : Nat) (ad : Nat → Nat) (w h la tp : Nat) (ft tr : Int32) (mv : Nat → Int32) (S : Nat → Int32) (mk : Nat → Int32) (nc d : Nat) : Array Value → State → Outcome → State → Prop := (va_Qv (fun (u : (Nat → Int32)) => (∀ c, c < 16 → u c = mkM S nc c d)) (xWb G sz (w_X6_shiftTo G ko ad w h la tp ft tr mv S mk) (fun u : (Nat → Int32) => [oC ko 6 [.ref (ad 0), .ref (ad 1), .int (nI w), .int (nI h), .int (nI la), .ref (ad 2), .int (mv 0), .int (mv 1), .int (mv 2), .int (mv 3), .int (mv 4), .int (mv 5), .int (mv 6), .ref (ad 3), .int (nI tp), .int (mv 7), .int (mv 8), .int (mv 9), .int (mv 10), .int ft, .int (mv 11), .ref (ad 4), .ref (ad 5), .ref (ad 6), .ref (ad 7), .ref (ad 8), .ref (ad 9), .ref (ad 10), .int tr], iA G (ad 0) 255 S, iA G (ad 4) 16 u])) (va_A (w_X6_shiftTo G ko ad w h la tp ft tr mv S mk) sz))
set_option maxHeartbeats 4000000 in
set_option maxRecDepth 100000 in
theorem c_X6_shiftTo (l : Launch) (G : XG) (sz : Nat) (ko : Nat) (ad : Nat → Nat) (w h la tp : Nat) (ft tr : Int32) (mv : Nat → Int32) (S : Nat → Int32) (mk : Nat → Int32) (nc d : Nat) (hs16 : S 16 = nI nc) (hnc : nc ≤ 10) (hd : d ≤ 100) : Met l yX6_shiftTo wsX6_shiftTo ({ frames := 1, cells := 0, slots := 0, locals := 27 } : Room) (va_Pc [.ref ko, .int (nI d)] (xWp G sz (w_X6_shiftTo G ko ad w h la tp ft tr mv S mk))) (Q_X6_shiftTo G sz ko ad w h la tp ft tr mv S mk nc d) 0 0 (va_A (w_X6_shiftTo G ko ad w h la tp ft tr mv S mk) sz) := by
  refine Met.ofW (cc := cX6_shiftTo) (maxL := 3) (ret := none) (by decide) rfl ?_
  intro pp ee ss mm aa below mt cd s₁ BB hml hv
  obtain ⟨rfl, hsz, hP, hK, hD0⟩ := hv
  have hx := BB.exec
  have hb := BB.bytes
  have hr := BB.returns
  have hts := atoms_spec (ws := wsX6_shiftTo) BB.pre
  have hown : ss.vm.findClass RX6 = some mm.cls := findClass_of_methodNamed BB.named
  have hlocks := BB.notSynchronized
  subst hsz
  have hD := hD0.self (sz := ss.heap.size)
  have hA : ∀ q : Nat, ss.heap.size ≤ q → va_A (w_X6_shiftTo G ko ad w h la tp ft tr mv S mk) ss.heap.size q := fun q h => Or.inr h
  have hS : va_S (va_A (w_X6_shiftTo G ko ad w h la tp ft tr mv S mk) ss.heap.size) ss.heap ss.heap [] := va_S.rf
  replace hD : va_D (va_A (w_X6_shiftTo G ko ad w h la tp ft tr mv S mk) ss.heap.size) [oC ko 6 [.ref (ad 0), .ref (ad 1), .int (nI w), .int (nI h), .int (nI la), .ref (ad 2), .int (mv 0), .int (mv 1), .int (mv 2), .int (mv 3), .int (mv 4), .int (mv 5), .int (mv 6), .ref (ad 3), .int (nI tp), .int (mv 7), .int (mv 8), .int (mv 9), .int (mv 10), .int ft, .int (mv 11), .ref (ad 4), .ref (ad 5), .ref (ad 6), .ref (ad 7), .ref (ad 8), .ref (ad 9), .ref (ad 10), .int tr], iA G (ad 0) 255 S, iA G (ad 4) 16 mk] := hD
  replace hP : xP G [oC ko 6 [.ref (ad 0), .ref (ad 1), .int (nI w), .int (nI h), .int (nI la), .ref (ad 2), .int (mv 0), .int (mv 1), .int (mv 2), .int (mv 3), .int (mv 4), .int (mv 5), .int (mv 6), .ref (ad 3), .int (nI tp), .int (mv 7), .int (mv 8), .int (mv 9), .int (mv 10), .int ft, .int (mv 11), .ref (ad 4), .ref (ad 5), .ref (ad 6), .ref (ad 7), .ref (ad 8), .ref (ad 9), .ref (ad 10), .int tr], iA G (ad 0) 255 S, iA G (ad 4) 16 mk] ss.heap := hP
  have hin6 : ∀ w ∈ u_ws RX6 TX6 29, w ∈ wsX6_shiftTo := fun w h => List.mem_cons_of_mem _ (List.mem_append_right _ h)
  have hl := lv_entry ([.ref ko, .int (nI d)]) (n := 3) (Nat.le_of_ble_eq_true rfl)
  rw [lg_entry_eq]
  generalize (lg_sl ([.ref ko, .int (nI d)]) ++ List.replicate (3 - (lg_sl ([.ref ko, .int (nI d)])).length) Slot.unset).toArray = ls at hl ⊢
  replace hl : lv_has ls 3 [(0, .ref ko), (1, .int (nI d))] := hl
  refine lv_iconst (v := nI 0) hx hb dX6_shiftTo_0 (by decide) ?_
  refine lv_istore_n (lv' := [(2, .int (nI 0)), (0, .ref ko), (1, .int (nI d))]) hx hb dX6_shiftTo_1 rfl hl (by decide) rfl (fun ls hl => ?_)
  have hL2 : ∀ k : Nat, ∀ (c : Nat) (mk2 : Nat → Int32) (ls : Array Slot) (H : Heap) (locs : List Loc), 16 - c = k → (c ≤ 16) → (∀ i, i < c → mk2 i = mkM S nc i d) → lv_has ls 3 [(0, .ref ko), (1, .int (nI d)), (2, .int (nI c))] → xP G [iA G (ad 0) 255 S, iA G (ad 4) 16 mk2, oC ko 6 [.ref (ad 0), .ref (ad 1), .int (nI w), .int (nI h), .int (nI la), .ref (ad 2), .int (mv 0), .int (mv 1), .int (mv 2), .int (mv 3), .int (mv 4), .int (mv 5), .int (mv 6), .ref (ad 3), .int (nI tp), .int (mv 7), .int (mv 8), .int (mv 9), .int (mv 10), .int ft, .int (mv 11), .ref (ad 4), .ref (ad 5), .ref (ad 6), .ref (ad 7), .ref (ad 8), .ref (ad 9), .ref (ad 10), .int tr]] H → va_D (va_A (w_X6_shiftTo G ko ad w h la tp ft tr mv S mk) ss.heap.size) [iA G (ad 0) 255 S, iA G (ad 4) 16 mk2, oC ko 6 [.ref (ad 0), .ref (ad 1), .int (nI w), .int (nI h), .int (nI la), .ref (ad 2), .int (mv 0), .int (mv 1), .int (mv 2), .int (mv 3), .int (mv 4), .int (mv 5), .int (mv 6), .ref (ad 3), .int (nI tp), .int (mv 7), .int (mv 8), .int (mv 9), .int (mv 10), .int ft, .int (mv 11), .ref (ad 4), .ref (ad 5), .ref (ad 6), .ref (ad 7), .ref (ad 8), .ref (ad 9), .ref (ad 10), .int tr]] → va_S (va_A (w_X6_shiftTo G ko ad w h la tp ft tr mv S mk) ss.heap.size) ss.heap H locs → W pp l ee ({ frames := 1, cells := 0, slots := 0, locals := 27 } : Room) ss mm ([.ref ko, .int (nI d)] : List Value).toArray below mt cd H locs 0 0 (MQ below (Q_X6_shiftTo G ss.heap.size ko ad w h la tp ft tr mv S mk nc d) ([.ref ko, .int (nI d)] : List Value).toArray ss 0 0 (va_A (w_X6_shiftTo G ko ad w h la tp ft tr mv S mk) ss.heap.size)) (F0 mm 2 ls []) := by
    intro k
    induction k using Nat.strongRecOn with
    | _ k ih2 =>
    intro c mk2 ls H locs hm2 hc hmk hl hP hD hS
    refine lv_iload_n hx hb dX6_shiftTo_2 rfl (lv_at hl 2 rfl) ?_
    refine lv_bipush (v := nI 16) hx hb dX6_shiftTo_3 (by decide) ?_
    refine xn_icmp_ge (tgt := 26) hx hb (by omega) (by omega) dX6_shiftTo_5 rfl (fun b5 => ?_) (fun b5 => ?_)
    · skip
      have hP := hP.sub (ws' := [oC ko 6 [.ref (ad 0), .ref (ad 1), .int (nI w), .int (nI h), .int (nI la), .ref (ad 2), .int (mv 0), .int (mv 1), .int (mv 2), .int (mv 3), .int (mv 4), .int (mv 5), .int (mv 6), .ref (ad 3), .int (nI tp), .int (mv 7), .int (mv 8), .int (mv 9), .int (mv 10), .int ft, .int (mv 11), .ref (ad 4), .ref (ad 5), .ref (ad 6), .ref (ad 7), .ref (ad 8), .ref (ad 9), .ref (ad 10), .int tr], iA G (ad 0) 255 S, iA G (ad 4) 16 mk2]) [2, 0, 1] rfl
      have hD := hD.sub (ws' := [oC ko 6 [.ref (ad 0), .ref (ad 1), .int (nI w), .int (nI h), .int (nI la), .ref (ad 2), .int (mv 0), .int (mv 1), .int (mv 2), .int (mv 3), .int (mv 4), .int (mv 5), .int (mv 6), .ref (ad 3), .int (nI tp), .int (mv 7), .int (mv 8), .int (mv 9), .int (mv 10), .int ft, .int (mv 11), .ref (ad 4), .ref (ad 5), .ref (ad 6), .ref (ad 7), .ref (ad 8), .ref (ad 9), .ref (ad 10), .int tr], iA G (ad 0) 255 S, iA G (ad 4) 16 mk2]) [2, 0, 1] (by decide) rfl
      refine W.vret hx hb hr (fun t ht hW => ⟨⟨(mk2), rfl, ?_, by rw [ht]; exact hP, hD⟩, hS.F ht⟩) hS.2.2 dX6_shiftTo_26
      intro c2 hc2; exact hmk c2 (by omega)
    · skip
      refine lv_aload_n hx hb dX6_shiftTo_8 rfl (lv_at hl 0 rfl) ?_
      refine va_get (D := G.1) (ci := 6) (v := .ref (ad 4)) (C := RX6) (T := TX6) (N := 29) hx hb hts hin6 hown hK.1 hP 2 rfl rfl 21 (by decide) (hts (.fieldLink RX6 23 "BackLensesModel" "marks" "[I") (List.mem_of_getElem? (i := 1) rfl)) (fun _ h9 => h9) rfl dX6_shiftTo_9 ?_
      refine lv_iload_n hx hb dX6_shiftTo_12 rfl (lv_at hl 2 rfl) ?_
      refine lv_aload_n hx hb dX6_shiftTo_13 rfl (lv_at hl 0 rfl) ?_
      refine lv_iload_n hx hb dX6_shiftTo_14 rfl (lv_at hl 2 rfl) ?_
      refine lv_iload_n hx hb dX6_shiftTo_15 rfl (lv_at hl 1 rfl) ?_
      refine xr_i (As := [.int (nI c), .int (nI d)]) (rest := [.int (nI c), .ref (ad 4)]) ⟨hx, hb, hml, hown, hts⟩ (c_X6_markOf l G ko ad w h la tp ft tr mv S _ c d (by first | assumption | omega) (by first | assumption | omega) (by first | assumption | omega) (by first | assumption | omega)) (cwV 2 hts gX6_shiftTo_X6_markOf rfl rfl rfl (by decide +kernel) ⟨Nat.le_of_ble_eq_true rfl, Nat.le_of_ble_eq_true rfl⟩) hK hP hS [2, 0] rfl rfl rfl rfl hl.1 rfl (Nat.le_of_ble_eq_true rfl) dX6_shiftTo_16 ⟨Nat.zero_le _, Nat.zero_le _⟩ (fun r16 H locs hp16 hP hS => ?_)
      rw [show r16 = _ from hp16]
      refine xn_iast hx hb hK hP hD hS 1 rfl (by omega) (by omega) dX6_shiftTo_19 (fun H locs hP hD hS => ?_)
      replace hP : xP G [iA G (ad 0) 255 S, iA G (ad 4) 16 (upd mk2 c (mkM S _ c d)), oC ko 6 [.ref (ad 0), .ref (ad 1), .int (nI w), .int (nI h), .int (nI la), .ref (ad 2), .int (mv 0), .int (mv 1), .int (mv 2), .int (mv 3), .int (mv 4), .int (mv 5), .int (mv 6), .ref (ad 3), .int (nI tp), .int (mv 7), .int (mv 8), .int (mv 9), .int (mv 10), .int ft, .int (mv 11), .ref (ad 4), .ref (ad 5), .ref (ad 6), .ref (ad 7), .ref (ad 8), .ref (ad 9), .ref (ad 10), .int tr]] H := hP
      replace hD : va_D (va_A (w_X6_shiftTo G ko ad w h la tp ft tr mv S mk) ss.heap.size) [iA G (ad 0) 255 S, iA G (ad 4) 16 (upd mk2 c (mkM S _ c d)), oC ko 6 [.ref (ad 0), .ref (ad 1), .int (nI w), .int (nI h), .int (nI la), .ref (ad 2), .int (mv 0), .int (mv 1), .int (mv 2), .int (mv 3), .int (mv 4), .int (mv 5), .int (mv 6), .ref (ad 3), .int (nI tp), .int (mv 7), .int (mv 8), .int (mv 9), .int (mv 10), .int ft, .int (mv 11), .ref (ad 4), .ref (ad 5), .ref (ad 6), .ref (ad 7), .ref (ad 8), .ref (ad 9), .ref (ad 10), .int tr]] := hD
      refine lv_iinc (k := 2) (v := nI (c + 1)) (lv' := [(2, .int (nI (c + 1))), (0, .ref ko), (1, .int (nI d))]) hx hb dX6_shiftTo_20 hl rfl (xn_inc c 1) (by decide) rfl (fun ls hl => ?_)
      refine lv_goto (tgt := 2) hx hb dX6_shiftTo_23 rfl ?_
      have hl := lv_sub hl (l' := [(0, .ref ko), (1, .int (nI d)), (2, .int (nI (c + 1)))]) [1, 2, 0] rfl
      exact ih2 (16 - (c + 1)) (by omega) (c + 1) (upd mk2 c (mkM S _ c d)) ls H locs rfl (by omega) (by intro i hi; unfold upd; by_cases hq : i = c; (subst hq; rw [if_pos rfl]); (rw [if_neg hq]; exact hmk i (by omega))) hl hP hD hS
  have hl := lv_sub hl (l' := [(0, .ref ko), (1, .int (nI d)), (2, .int (nI 0))]) [1, 2, 0] rfl
  have hP := hP.sub (ws' := [iA G (ad 0) 255 S, iA G (ad 4) 16 mk, oC ko 6 [.ref (ad 0), .ref (ad 1), .int (nI w), .int (nI h), .int (nI la), .ref (ad 2), .int (mv 0), .int (mv 1), .int (mv 2), .int (mv 3), .int (mv 4), .int (mv 5), .int (mv 6), .ref (ad 3), .int (nI tp), .int (mv 7), .int (mv 8), .int (mv 9), .int (mv 10), .int ft, .int (mv 11), .ref (ad 4), .ref (ad 5), .ref (ad 6), .ref (ad 7), .ref (ad 8), .ref (ad 9), .ref (ad 10), .int tr]]) [1, 2, 0] rfl
  have hD := hD.sub (ws' := [iA G (ad 0) 255 S, iA G (ad 4) 16 mk, oC ko 6 [.ref (ad 0), .ref (ad 1), .int (nI w), .int (nI h), .int (nI la), .ref (ad 2), .int (mv 0), .int (mv 1), .int (mv 2), .int (mv 3), .int (mv 4), .int (mv 5), .int (mv 6), .ref (ad 3), .int (nI tp), .int (mv 7), .int (mv 8), .int (mv 9), .int (mv 10), .int ft, .int (mv 11), .ref (ad 4), .ref (ad 5), .ref (ad 6), .ref (ad 7), .ref (ad 8), .ref (ad 9), .ref (ad 10), .int tr]]) [1, 2, 0] (by decide) rfl
  exact hL2 (16 - 0) 0 mk ls ss.heap [] rfl (by omega) (by intro i hi; omega) hl hP hD hS

abbrev w_X6_beside_0 (G : XG) (ko : Nat) (ad : Nat → Nat) (w h la tp : Nat) (ft tr : Int32) (mv : Nat → Int32) : va_W := [oC ko 6 [.ref (ad 0), .ref (ad 1), .int (nI w), .int (nI h), .int (nI la), .ref (ad 2), .int (mv 0), .int (mv 1), .int (mv 2), .int (mv 3), .int (mv 4), .int (mv 5), .int (mv 6), .ref (ad 3), .int (nI tp), .int (mv 7), .int (mv 8), .int (mv 9), .int (mv 10), .int ft, .int (mv 11), .ref (ad 4), .ref (ad 5), .ref (ad 6), .ref (ad 7), .ref (ad 8), .ref (ad 9), .ref (ad 10), .int tr]]
abbrev Q_X6_beside_0 (G : XG) (ko : Nat) (ad : Nat → Nat) (w h la tp : Nat) (ft tr : Int32) (mv : Nat → Int32) (c : Nat) : Array Value → State → Outcome → State → Prop := (xRi (fun r => r = (if w ≤ c then nI (c - w) else (-4))))
set_option maxHeartbeats 4000000 in
set_option maxRecDepth 100000 in
theorem c_X6_beside_0 (l : Launch) (G : XG) (ko : Nat) (ad : Nat → Nat) (w h la tp : Nat) (ft tr : Int32) (mv : Nat → Int32) (c : Nat) (hw : 1 ≤ w) (hwb : w ≤ 16) (hc : c < 1000) (hwh : w * h ≤ 16) : Met l yX6_beside wsX6_beside ({ frames := 0, cells := 0, slots := 0, locals := 0 } : Room) (va_Pc [.ref ko, .int (nI c), .int (nI 0)] (xRp G (w_X6_beside_0 G ko ad w h la tp ft tr mv))) (Q_X6_beside_0 G ko ad w h la tp ft tr mv c) 0 0 (fun _ => False) := by
  refine Met.ofW (cc := cX6_beside) (maxL := 3) (ret := (some .int)) (by decide) rfl ?_
  intro pp ee ss mm aa below mt cd s₁ BB hml hv
  obtain ⟨rfl, hP, hK⟩ := hv
  have hx := BB.exec
  have hb := BB.bytes
  have hr := BB.returns
  have hts := atoms_spec (ws := wsX6_beside) BB.pre
  have hown : ss.vm.findClass RX6 = some mm.cls := findClass_of_methodNamed BB.named
  have hlocks := BB.notSynchronized
  have hS : va_S (fun _ => False) ss.heap ss.heap [] := va_S.rf
  replace hP : xP G [oC ko 6 [.ref (ad 0), .ref (ad 1), .int (nI w), .int (nI h), .int (nI la), .ref (ad 2), .int (mv 0), .int (mv 1), .int (mv 2), .int (mv 3), .int (mv 4), .int (mv 5), .int (mv 6), .ref (ad 3), .int (nI tp), .int (mv 7), .int (mv 8), .int (mv 9), .int (mv 10), .int ft, .int (mv 11), .ref (ad 4), .ref (ad 5), .ref (ad 6), .ref (ad 7), .ref (ad 8), .ref (ad 9), .ref (ad 10), .int tr]] ss.heap := hP
  have hin6 : ∀ w ∈ u_ws RX6 TX6 29, w ∈ wsX6_beside := fun w h => List.mem_cons_of_mem _ (List.mem_append_right _ h)
  have hl := lv_entry ([.ref ko, .int (nI c), .int (nI 0)]) (n := 3) (Nat.le_of_ble_eq_true rfl)
  rw [lg_entry_eq]
  generalize (lg_sl ([.ref ko, .int (nI c), .int (nI 0)]) ++ List.replicate (3 - (lg_sl ([.ref ko, .int (nI c), .int (nI 0)])).length) Slot.unset).toArray = ls at hl ⊢
  replace hl : lv_has ls 3 [(0, .ref ko), (1, .int (nI c)), (2, .int (nI 0))] := hl
  refine lv_iload_n hx hb dX6_beside_0 rfl (lv_at hl 2 rfl) ?_
  refine lv_tableIn (off := 27) (tgt := 28) hx hb dX6_beside_1 (by decide) (by decide) rfl rfl ?_
  refine lv_iload_n hx hb dX6_beside_28 rfl (lv_at hl 1 rfl) ?_
  refine lv_aload_n hx hb dX6_beside_29 rfl (lv_at hl 0 rfl) ?_
  refine va_get (D := G.1) (ci := 6) (v := .int (nI w)) (C := RX6) (T := TX6) (N := 29) hx hb hts hin6 hown hK.1 hP 0 rfl rfl 2 (by decide) (hts (.fieldLink RX6 72 "BackLensesModel" "wide" "I") (List.mem_of_getElem? (i := 1) rfl)) (fun _ h9 => h9) rfl dX6_beside_30 ?_
  refine xn_icmp_lt (tgt := 45) hx hb (by omega) (by omega) dX6_beside_33 rfl (fun b33 => ?_) (fun b33 => ?_)
  · skip
    refine lv_bipush (v := (-4)) hx hb dX6_beside_45 (by decide) ?_
    refine W.iret (v := (-4)) hx hb hr (fun t ht hW => ⟨⟨(-4), (), rfl, ?_, trivial⟩, hS.F ht⟩) hS.2.2 dX6_beside_47
    first | exact (if_pos (by omega)).symm | exact (if_neg (by omega)).symm
  · skip
    refine lv_iload_n hx hb dX6_beside_36 rfl (lv_at hl 1 rfl) ?_
    refine lv_aload_n hx hb dX6_beside_37 rfl (lv_at hl 0 rfl) ?_
    refine va_get (D := G.1) (ci := 6) (v := .int (nI w)) (C := RX6) (T := TX6) (N := 29) hx hb hts hin6 hown hK.1 hP 0 rfl rfl 2 (by decide) (hts (.fieldLink RX6 72 "BackLensesModel" "wide" "I") (List.mem_of_getElem? (i := 1) rfl)) (fun _ h9 => h9) rfl dX6_beside_38 ?_
    refine xn_isub hx hb (by omega) dX6_beside_41 ?_
    refine lv_goto (tgt := 47) hx hb dX6_beside_42 rfl ?_
    refine W.iret (v := nI (c - w)) hx hb hr (fun t ht hW => ⟨⟨nI (c - w), (), rfl, ?_, trivial⟩, hS.F ht⟩) hS.2.2 dX6_beside_47
    first | exact (if_pos (by omega)).symm | exact (if_neg (by omega)).symm

abbrev w_X6_beside_1 (G : XG) (ko : Nat) (ad : Nat → Nat) (w h la tp : Nat) (ft tr : Int32) (mv : Nat → Int32) : va_W := [oC ko 6 [.ref (ad 0), .ref (ad 1), .int (nI w), .int (nI h), .int (nI la), .ref (ad 2), .int (mv 0), .int (mv 1), .int (mv 2), .int (mv 3), .int (mv 4), .int (mv 5), .int (mv 6), .ref (ad 3), .int (nI tp), .int (mv 7), .int (mv 8), .int (mv 9), .int (mv 10), .int ft, .int (mv 11), .ref (ad 4), .ref (ad 5), .ref (ad 6), .ref (ad 7), .ref (ad 8), .ref (ad 9), .ref (ad 10), .int tr]]
abbrev Q_X6_beside_1 (G : XG) (ko : Nat) (ad : Nat → Nat) (w h la tp : Nat) (ft tr : Int32) (mv : Nat → Int32) (c : Nat) : Array Value → State → Outcome → State → Prop := (xRi (fun r => r = (if w ≤ c % w + 1 then (-4) else nI (c + 1))))
set_option maxHeartbeats 4000000 in
set_option maxRecDepth 100000 in
theorem c_X6_beside_1 (l : Launch) (G : XG) (ko : Nat) (ad : Nat → Nat) (w h la tp : Nat) (ft tr : Int32) (mv : Nat → Int32) (c : Nat) (hw : 1 ≤ w) (hwb : w ≤ 16) (hc : c < 1000) (hwh : w * h ≤ 16) : Met l yX6_beside wsX6_beside ({ frames := 0, cells := 0, slots := 0, locals := 0 } : Room) (va_Pc [.ref ko, .int (nI c), .int (nI 1)] (xRp G (w_X6_beside_1 G ko ad w h la tp ft tr mv))) (Q_X6_beside_1 G ko ad w h la tp ft tr mv c) 0 0 (fun _ => False) := by
  refine Met.ofW (cc := cX6_beside) (maxL := 3) (ret := (some .int)) (by decide) rfl ?_
  intro pp ee ss mm aa below mt cd s₁ BB hml hv
  obtain ⟨rfl, hP, hK⟩ := hv
  have hx := BB.exec
  have hb := BB.bytes
  have hr := BB.returns
  have hts := atoms_spec (ws := wsX6_beside) BB.pre
  have hown : ss.vm.findClass RX6 = some mm.cls := findClass_of_methodNamed BB.named
  have hlocks := BB.notSynchronized
  have hS : va_S (fun _ => False) ss.heap ss.heap [] := va_S.rf
  replace hP : xP G [oC ko 6 [.ref (ad 0), .ref (ad 1), .int (nI w), .int (nI h), .int (nI la), .ref (ad 2), .int (mv 0), .int (mv 1), .int (mv 2), .int (mv 3), .int (mv 4), .int (mv 5), .int (mv 6), .ref (ad 3), .int (nI tp), .int (mv 7), .int (mv 8), .int (mv 9), .int (mv 10), .int ft, .int (mv 11), .ref (ad 4), .ref (ad 5), .ref (ad 6), .ref (ad 7), .ref (ad 8), .ref (ad 9), .ref (ad 10), .int tr]] ss.heap := hP
  have hin6 : ∀ w ∈ u_ws RX6 TX6 29, w ∈ wsX6_beside := fun w h => List.mem_cons_of_mem _ (List.mem_append_right _ h)
  have hl := lv_entry ([.ref ko, .int (nI c), .int (nI 1)]) (n := 3) (Nat.le_of_ble_eq_true rfl)
  rw [lg_entry_eq]
  generalize (lg_sl ([.ref ko, .int (nI c), .int (nI 1)]) ++ List.replicate (3 - (lg_sl ([.ref ko, .int (nI c), .int (nI 1)])).length) Slot.unset).toArray = ls at hl ⊢
  replace hl : lv_has ls 3 [(0, .ref ko), (1, .int (nI c)), (2, .int (nI 1))] := hl
  refine lv_iload_n hx hb dX6_beside_0 rfl (lv_at hl 2 rfl) ?_
  refine lv_tableIn (off := 47) (tgt := 48) hx hb dX6_beside_1 (by decide) (by decide) rfl rfl ?_
  refine lv_iload_n hx hb dX6_beside_48 rfl (lv_at hl 1 rfl) ?_
  refine lv_aload_n hx hb dX6_beside_49 rfl (lv_at hl 0 rfl) ?_
  refine va_get (D := G.1) (ci := 6) (v := .int (nI w)) (C := RX6) (T := TX6) (N := 29) hx hb hts hin6 hown hK.1 hP 0 rfl rfl 2 (by decide) (hts (.fieldLink RX6 72 "BackLensesModel" "wide" "I") (List.mem_of_getElem? (i := 1) rfl)) (fun _ h9 => h9) rfl dX6_beside_50 ?_
  refine xn_irem hx hb (by omega) (by omega) (by omega) dX6_beside_53 ?_
  have hml0 := Nat.mod_lt c (show 0 < w by omega)
  refine lv_iconst (v := nI 1) hx hb dX6_beside_54 (by decide) ?_
  refine xn_iadd hx hb dX6_beside_55 ?_
  refine lv_aload_n hx hb dX6_beside_56 rfl (lv_at hl 0 rfl) ?_
  refine va_get (D := G.1) (ci := 6) (v := .int (nI w)) (C := RX6) (T := TX6) (N := 29) hx hb hts hin6 hown hK.1 hP 0 rfl rfl 2 (by decide) (hts (.fieldLink RX6 72 "BackLensesModel" "wide" "I") (List.mem_of_getElem? (i := 1) rfl)) (fun _ h9 => h9) rfl dX6_beside_57 ?_
  refine xn_icmp_ge (tgt := 69) hx hb (by omega) (by omega) dX6_beside_60 rfl (fun b60 => ?_) (fun b60 => ?_)
  · skip
    refine lv_bipush (v := (-4)) hx hb dX6_beside_69 (by decide) ?_
    refine W.iret (v := (-4)) hx hb hr (fun t ht hW => ⟨⟨(-4), (), rfl, ?_, trivial⟩, hS.F ht⟩) hS.2.2 dX6_beside_71
    first | exact (if_pos b60).symm | exact (if_neg b60).symm
  · skip
    refine lv_iload_n hx hb dX6_beside_63 rfl (lv_at hl 1 rfl) ?_
    refine lv_iconst (v := nI 1) hx hb dX6_beside_64 (by decide) ?_
    refine xn_iadd hx hb dX6_beside_65 ?_
    refine lv_goto (tgt := 71) hx hb dX6_beside_66 rfl ?_
    refine W.iret (v := nI (c + 1)) hx hb hr (fun t ht hW => ⟨⟨nI (c + 1), (), rfl, ?_, trivial⟩, hS.F ht⟩) hS.2.2 dX6_beside_71
    first | exact (if_pos b60).symm | exact (if_neg b60).symm

abbrev w_X6_beside_2 (G : XG) (ko : Nat) (ad : Nat → Nat) (w h la tp : Nat) (ft tr : Int32) (mv : Nat → Int32) : va_W := [oC ko 6 [.ref (ad 0), .ref (ad 1), .int (nI w), .int (nI h), .int (nI la), .ref (ad 2), .int (mv 0), .int (mv 1), .int (mv 2), .int (mv 3), .int (mv 4), .int (mv 5), .int (mv 6), .ref (ad 3), .int (nI tp), .int (mv 7), .int (mv 8), .int (mv 9), .int (mv 10), .int ft, .int (mv 11), .ref (ad 4), .ref (ad 5), .ref (ad 6), .ref (ad 7), .ref (ad 8), .ref (ad 9), .ref (ad 10), .int tr]]
abbrev Q_X6_beside_2 (G : XG) (ko : Nat) (ad : Nat → Nat) (w h la tp : Nat) (ft tr : Int32) (mv : Nat → Int32) (c : Nat) : Array Value → State → Outcome → State → Prop := (xRi (fun r => r = (if w * h ≤ c + w then (-4) else nI (c + w))))
set_option maxHeartbeats 4000000 in
set_option maxRecDepth 100000 in
theorem c_X6_beside_2 (l : Launch) (G : XG) (ko : Nat) (ad : Nat → Nat) (w h la tp : Nat) (ft tr : Int32) (mv : Nat → Int32) (c : Nat) (hw : 1 ≤ w) (hwb : w ≤ 16) (hc : c < 1000) (hwh : w * h ≤ 16) : Met l yX6_beside wsX6_beside ({ frames := 1, cells := 0, slots := 0, locals := 20 } : Room) (va_Pc [.ref ko, .int (nI c), .int (nI 2)] (xRp G (w_X6_beside_2 G ko ad w h la tp ft tr mv))) (Q_X6_beside_2 G ko ad w h la tp ft tr mv c) 0 0 (fun _ => False) := by
  refine Met.ofW (cc := cX6_beside) (maxL := 3) (ret := (some .int)) (by decide) rfl ?_
  intro pp ee ss mm aa below mt cd s₁ BB hml hv
  obtain ⟨rfl, hP, hK⟩ := hv
  have hx := BB.exec
  have hb := BB.bytes
  have hr := BB.returns
  have hts := atoms_spec (ws := wsX6_beside) BB.pre
  have hown : ss.vm.findClass RX6 = some mm.cls := findClass_of_methodNamed BB.named
  have hlocks := BB.notSynchronized
  have hS : va_S (fun _ => False) ss.heap ss.heap [] := va_S.rf
  replace hP : xP G [oC ko 6 [.ref (ad 0), .ref (ad 1), .int (nI w), .int (nI h), .int (nI la), .ref (ad 2), .int (mv 0), .int (mv 1), .int (mv 2), .int (mv 3), .int (mv 4), .int (mv 5), .int (mv 6), .ref (ad 3), .int (nI tp), .int (mv 7), .int (mv 8), .int (mv 9), .int (mv 10), .int ft, .int (mv 11), .ref (ad 4), .ref (ad 5), .ref (ad 6), .ref (ad 7), .ref (ad 8), .ref (ad 9), .ref (ad 10), .int tr]] ss.heap := hP
  have hin6 : ∀ w ∈ u_ws RX6 TX6 29, w ∈ wsX6_beside := fun w h => List.mem_cons_of_mem _ (List.mem_append_right _ h)
  have hl := lv_entry ([.ref ko, .int (nI c), .int (nI 2)]) (n := 3) (Nat.le_of_ble_eq_true rfl)
  rw [lg_entry_eq]
  generalize (lg_sl ([.ref ko, .int (nI c), .int (nI 2)]) ++ List.replicate (3 - (lg_sl ([.ref ko, .int (nI c), .int (nI 2)])).length) Slot.unset).toArray = ls at hl ⊢
  replace hl : lv_has ls 3 [(0, .ref ko), (1, .int (nI c)), (2, .int (nI 2))] := hl
  refine lv_iload_n hx hb dX6_beside_0 rfl (lv_at hl 2 rfl) ?_
  refine lv_tableIn (off := 71) (tgt := 72) hx hb dX6_beside_1 (by decide) (by decide) rfl rfl ?_
  refine lv_iload_n hx hb dX6_beside_72 rfl (lv_at hl 1 rfl) ?_
  refine lv_aload_n hx hb dX6_beside_73 rfl (lv_at hl 0 rfl) ?_
  refine va_get (D := G.1) (ci := 6) (v := .int (nI w)) (C := RX6) (T := TX6) (N := 29) hx hb hts hin6 hown hK.1 hP 0 rfl rfl 2 (by decide) (hts (.fieldLink RX6 72 "BackLensesModel" "wide" "I") (List.mem_of_getElem? (i := 1) rfl)) (fun _ h9 => h9) rfl dX6_beside_74 ?_
  refine xn_iadd hx hb dX6_beside_77 ?_
  refine lv_aload_n hx hb dX6_beside_78 rfl (lv_at hl 0 rfl) ?_
  refine xr_i (As := []) (rest := [.int (nI (c + w))]) ⟨hx, hb, hml, hown, hts⟩ (c_X6_cellsNow l G ko ad w h la tp ft tr mv ) (cwV 0 hts gX6_beside_X6_cellsNow rfl rfl rfl (by decide +kernel) ⟨Nat.le_of_ble_eq_true rfl, Nat.le_of_ble_eq_true rfl⟩) hK hP hS [0] rfl rfl rfl rfl hl.1 rfl (Nat.le_of_ble_eq_true rfl) dX6_beside_79 ⟨Nat.zero_le _, Nat.zero_le _⟩ (fun r79 H locs hp79 hP hS => ?_)
  rw [show r79 = _ from hp79]
  refine xn_icmp_ge (tgt := 94) hx hb (by omega) (by omega) dX6_beside_82 rfl (fun b82 => ?_) (fun b82 => ?_)
  · skip
    refine lv_bipush (v := (-4)) hx hb dX6_beside_94 (by decide) ?_
    refine W.iret (v := (-4)) hx hb hr (fun t ht hW => ⟨⟨(-4), (), rfl, ?_, trivial⟩, hS.F ht⟩) hS.2.2 dX6_beside_96
    first | exact (if_pos b82).symm | exact (if_neg b82).symm
  · skip
    refine lv_iload_n hx hb dX6_beside_85 rfl (lv_at hl 1 rfl) ?_
    refine lv_aload_n hx hb dX6_beside_86 rfl (lv_at hl 0 rfl) ?_
    refine va_get (D := G.1) (ci := 6) (v := .int (nI w)) (C := RX6) (T := TX6) (N := 29) hx hb hts hin6 hown hK.1 hP 0 rfl rfl 2 (by decide) (hts (.fieldLink RX6 72 "BackLensesModel" "wide" "I") (List.mem_of_getElem? (i := 1) rfl)) (fun _ h9 => h9) rfl dX6_beside_87 ?_
    refine xn_iadd hx hb dX6_beside_90 ?_
    refine lv_goto (tgt := 96) hx hb dX6_beside_91 rfl ?_
    refine W.iret (v := nI (c + w)) hx hb hr (fun t ht hW => ⟨⟨nI (c + w), (), rfl, ?_, trivial⟩, hS.F ht⟩) hS.2.2 dX6_beside_96
    first | exact (if_pos b82).symm | exact (if_neg b82).symm

abbrev w_X6_beside_3 (G : XG) (ko : Nat) (ad : Nat → Nat) (w h la tp : Nat) (ft tr : Int32) (mv : Nat → Int32) : va_W := [oC ko 6 [.ref (ad 0), .ref (ad 1), .int (nI w), .int (nI h), .int (nI la), .ref (ad 2), .int (mv 0), .int (mv 1), .int (mv 2), .int (mv 3), .int (mv 4), .int (mv 5), .int (mv 6), .ref (ad 3), .int (nI tp), .int (mv 7), .int (mv 8), .int (mv 9), .int (mv 10), .int ft, .int (mv 11), .ref (ad 4), .ref (ad 5), .ref (ad 6), .ref (ad 7), .ref (ad 8), .ref (ad 9), .ref (ad 10), .int tr]]
abbrev Q_X6_beside_3 (G : XG) (ko : Nat) (ad : Nat → Nat) (w h la tp : Nat) (ft tr : Int32) (mv : Nat → Int32) (c : Nat) : Array Value → State → Outcome → State → Prop := (xRi (fun r => r = (if c % w = 0 then (-4) else nI (c - 1))))
set_option maxHeartbeats 4000000 in
set_option maxRecDepth 100000 in
theorem c_X6_beside_3 (l : Launch) (G : XG) (ko : Nat) (ad : Nat → Nat) (w h la tp : Nat) (ft tr : Int32) (mv : Nat → Int32) (c : Nat) (hw : 1 ≤ w) (hwb : w ≤ 16) (hc : c < 1000) (hwh : w * h ≤ 16) : Met l yX6_beside wsX6_beside ({ frames := 0, cells := 0, slots := 0, locals := 0 } : Room) (va_Pc [.ref ko, .int (nI c), .int (nI 3)] (xRp G (w_X6_beside_3 G ko ad w h la tp ft tr mv))) (Q_X6_beside_3 G ko ad w h la tp ft tr mv c) 0 0 (fun _ => False) := by
  refine Met.ofW (cc := cX6_beside) (maxL := 3) (ret := (some .int)) (by decide) rfl ?_
  intro pp ee ss mm aa below mt cd s₁ BB hml hv
  obtain ⟨rfl, hP, hK⟩ := hv
  have hx := BB.exec
  have hb := BB.bytes
  have hr := BB.returns
  have hts := atoms_spec (ws := wsX6_beside) BB.pre
  have hown : ss.vm.findClass RX6 = some mm.cls := findClass_of_methodNamed BB.named
  have hlocks := BB.notSynchronized
  have hS : va_S (fun _ => False) ss.heap ss.heap [] := va_S.rf
  replace hP : xP G [oC ko 6 [.ref (ad 0), .ref (ad 1), .int (nI w), .int (nI h), .int (nI la), .ref (ad 2), .int (mv 0), .int (mv 1), .int (mv 2), .int (mv 3), .int (mv 4), .int (mv 5), .int (mv 6), .ref (ad 3), .int (nI tp), .int (mv 7), .int (mv 8), .int (mv 9), .int (mv 10), .int ft, .int (mv 11), .ref (ad 4), .ref (ad 5), .ref (ad 6), .ref (ad 7), .ref (ad 8), .ref (ad 9), .ref (ad 10), .int tr]] ss.heap := hP
  have hin6 : ∀ w ∈ u_ws RX6 TX6 29, w ∈ wsX6_beside := fun w h => List.mem_cons_of_mem _ (List.mem_append_right _ h)
  have hl := lv_entry ([.ref ko, .int (nI c), .int (nI 3)]) (n := 3) (Nat.le_of_ble_eq_true rfl)
  rw [lg_entry_eq]
  generalize (lg_sl ([.ref ko, .int (nI c), .int (nI 3)]) ++ List.replicate (3 - (lg_sl ([.ref ko, .int (nI c), .int (nI 3)])).length) Slot.unset).toArray = ls at hl ⊢
  replace hl : lv_has ls 3 [(0, .ref ko), (1, .int (nI c)), (2, .int (nI 3))] := hl
  refine lv_iload_n hx hb dX6_beside_0 rfl (lv_at hl 2 rfl) ?_
  refine lv_tableOut (tgt := 97) hx hb dX6_beside_1 (Or.inr (by decide)) rfl ?_
  refine lv_iload_n hx hb dX6_beside_97 rfl (lv_at hl 1 rfl) ?_
  refine lv_aload_n hx hb dX6_beside_98 rfl (lv_at hl 0 rfl) ?_
  refine va_get (D := G.1) (ci := 6) (v := .int (nI w)) (C := RX6) (T := TX6) (N := 29) hx hb hts hin6 hown hK.1 hP 0 rfl rfl 2 (by decide) (hts (.fieldLink RX6 72 "BackLensesModel" "wide" "I") (List.mem_of_getElem? (i := 1) rfl)) (fun _ h9 => h9) rfl dX6_beside_99 ?_
  refine xn_irem hx hb (by omega) (by omega) (by omega) dX6_beside_102 ?_
  have hml0 := Nat.mod_lt c (show 0 < w by omega)
  have hml1 := Nat.mod_le c w
  refine xn_if_le (tgt := 112) hx hb (by omega) dX6_beside_103 rfl (fun b103 => ?_) (fun b103 => ?_)
  · skip
    refine lv_bipush (v := (-4)) hx hb dX6_beside_112 (by decide) ?_
    refine W.iret (v := (-4)) hx hb hr (fun t ht hW => ⟨⟨(-4), (), rfl, ?_, trivial⟩, hS.F ht⟩) hS.2.2 dX6_beside_114
    first | exact (if_pos (by omega)).symm | exact (if_neg (by omega)).symm
  · skip
    refine lv_iload_n hx hb dX6_beside_106 rfl (lv_at hl 1 rfl) ?_
    refine lv_iconst (v := nI 1) hx hb dX6_beside_107 (by decide) ?_
    refine xn_isub hx hb (by omega) dX6_beside_108 ?_
    refine lv_goto (tgt := 114) hx hb dX6_beside_109 rfl ?_
    refine W.iret (v := nI (c - 1)) hx hb hr (fun t ht hW => ⟨⟨nI (c - 1), (), rfl, ?_, trivial⟩, hS.F ht⟩) hS.2.2 dX6_beside_114
    first | exact (if_pos (by omega)).symm | exact (if_neg (by omega)).symm

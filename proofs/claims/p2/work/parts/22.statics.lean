abbrev Q_X5_isMark (G : XG) (m : Int32) : Array Value → State → Outcome → State → Prop := (xRi (fun r => r = xb (inR m 6)))
set_option maxHeartbeats 4000000 in
set_option maxRecDepth 100000 in
theorem c_X5_isMark (l : Launch) (G : XG) (m : Int32)  : Met l yX5_isMark wsX5_isMark ({ frames := 0, cells := 0, slots := 0, locals := 0 } : Room) (va_Pc [.int m] (fun _ => True)) (Q_X5_isMark G m) 0 0 (fun _ => False) := by
  refine Met.ofW (cc := cX5_isMark) (maxL := 1) (ret := (some .boolean)) (by decide) rfl ?_
  intro pp ee ss mm aa below mt cd s₁ BB hml hv
  obtain ⟨rfl, -⟩ := hv
  have hx := BB.exec
  have hb := BB.bytes
  have hr := BB.returns
  have hts := atoms_spec (ws := wsX5_isMark) BB.pre
  have hown : ss.vm.findClass RX5 = some mm.cls := findClass_of_methodNamed BB.named
  have hlocks := BB.notSynchronized
  have hS : va_S (fun _ => False) ss.heap ss.heap [] := va_S.rf
  have hP : xP (G) [] ss.heap := fun k q h => by cases h
  have hl := lv_entry ([.int m]) (n := 1) (Nat.le_of_ble_eq_true rfl)
  rw [lg_entry_eq]
  generalize (lg_sl ([.int m]) ++ List.replicate (1 - (lg_sl ([.int m])).length) Slot.unset).toArray = ls at hl ⊢
  replace hl : lv_has ls 1 [(0, .int m)] := hl
  refine lv_iload_n hx hb dX5_isMark_0 rfl (lv_at hl 0 rfl) ?_
  refine xi_if_lt (tgt := 14) hx hb dX5_isMark_1 rfl (fun b1 => ?_) (fun b1 => ?_)
  · skip
    refine lv_iconst (v := nI 0) hx hb dX5_isMark_14 (by decide) ?_
    refine W.zret (v := nI 0) (ty := .boolean) hx hb hr (by decide) (fun t ht hW => ⟨⟨nI 0, (), rfl, ?_, trivial⟩, hS.F ht⟩) hS.2.2 dX5_isMark_15
    first | exact (xb_t (by unfold inR; omega)).symm | exact (xb_f (by unfold inR; omega)).symm
  · skip
    refine lv_iload_n hx hb dX5_isMark_4 rfl (lv_at hl 0 rfl) ?_
    refine lv_bipush (v := nI 6) hx hb dX5_isMark_5 (by decide) ?_
    refine xm_icmp_ge (tgt := 14) hx hb (by omega) dX5_isMark_7 rfl (fun b7 => ?_) (fun b7 => ?_)
    · skip
      refine lv_iconst (v := nI 0) hx hb dX5_isMark_14 (by decide) ?_
      refine W.zret (v := nI 0) (ty := .boolean) hx hb hr (by decide) (fun t ht hW => ⟨⟨nI 0, (), rfl, ?_, trivial⟩, hS.F ht⟩) hS.2.2 dX5_isMark_15
      first | exact (xb_t (by unfold inR; omega)).symm | exact (xb_f (by unfold inR; omega)).symm
    · skip
      refine lv_iconst (v := nI 1) hx hb dX5_isMark_10 (by decide) ?_
      refine lv_goto (tgt := 15) hx hb dX5_isMark_11 rfl ?_
      refine W.zret (v := nI 1) (ty := .boolean) hx hb hr (by decide) (fun t ht hW => ⟨⟨nI 1, (), rfl, ?_, trivial⟩, hS.F ht⟩) hS.2.2 dX5_isMark_15
      first | exact (xb_t (by unfold inR; omega)).symm | exact (xb_f (by unfold inR; omega)).symm

abbrev Q_X5_isTenth (G : XG) (v : Int32) : Array Value → State → Outcome → State → Prop := (xRi (fun r => r = xb (inR v 11)))
set_option maxHeartbeats 4000000 in
set_option maxRecDepth 100000 in
theorem c_X5_isTenth (l : Launch) (G : XG) (v : Int32)  : Met l yX5_isTenth wsX5_isTenth ({ frames := 0, cells := 0, slots := 0, locals := 0 } : Room) (va_Pc [.int v] (fun _ => True)) (Q_X5_isTenth G v) 0 0 (fun _ => False) := by
  refine Met.ofW (cc := cX5_isTenth) (maxL := 1) (ret := (some .boolean)) (by decide) rfl ?_
  intro pp ee ss mm aa below mt cd s₁ BB hml hv
  obtain ⟨rfl, -⟩ := hv
  have hx := BB.exec
  have hb := BB.bytes
  have hr := BB.returns
  have hts := atoms_spec (ws := wsX5_isTenth) BB.pre
  have hown : ss.vm.findClass RX5 = some mm.cls := findClass_of_methodNamed BB.named
  have hlocks := BB.notSynchronized
  have hS : va_S (fun _ => False) ss.heap ss.heap [] := va_S.rf
  have hP : xP (G) [] ss.heap := fun k q h => by cases h
  have hl := lv_entry ([.int v]) (n := 1) (Nat.le_of_ble_eq_true rfl)
  rw [lg_entry_eq]
  generalize (lg_sl ([.int v]) ++ List.replicate (1 - (lg_sl ([.int v])).length) Slot.unset).toArray = ls at hl ⊢
  replace hl : lv_has ls 1 [(0, .int v)] := hl
  refine lv_iload_n hx hb dX5_isTenth_0 rfl (lv_at hl 0 rfl) ?_
  refine xi_if_lt (tgt := 14) hx hb dX5_isTenth_1 rfl (fun b1 => ?_) (fun b1 => ?_)
  · skip
    refine lv_iconst (v := nI 0) hx hb dX5_isTenth_14 (by decide) ?_
    refine W.zret (v := nI 0) (ty := .boolean) hx hb hr (by decide) (fun t ht hW => ⟨⟨nI 0, (), rfl, ?_, trivial⟩, hS.F ht⟩) hS.2.2 dX5_isTenth_15
    first | exact (xb_t (by unfold inR; omega)).symm | exact (xb_f (by unfold inR; omega)).symm
  · skip
    refine lv_iload_n hx hb dX5_isTenth_4 rfl (lv_at hl 0 rfl) ?_
    refine lv_bipush (v := nI 10) hx hb dX5_isTenth_5 (by decide) ?_
    refine xm_icmp_gt (tgt := 14) hx hb (by omega) dX5_isTenth_7 rfl (fun b7 => ?_) (fun b7 => ?_)
    · skip
      refine lv_iconst (v := nI 0) hx hb dX5_isTenth_14 (by decide) ?_
      refine W.zret (v := nI 0) (ty := .boolean) hx hb hr (by decide) (fun t ht hW => ⟨⟨nI 0, (), rfl, ?_, trivial⟩, hS.F ht⟩) hS.2.2 dX5_isTenth_15
      first | exact (xb_t (by unfold inR; omega)).symm | exact (xb_f (by unfold inR; omega)).symm
    · skip
      refine lv_iconst (v := nI 1) hx hb dX5_isTenth_10 (by decide) ?_
      refine lv_goto (tgt := 15) hx hb dX5_isTenth_11 rfl ?_
      refine W.zret (v := nI 1) (ty := .boolean) hx hb hr (by decide) (fun t ht hW => ⟨⟨nI 1, (), rfl, ?_, trivial⟩, hS.F ht⟩) hS.2.2 dX5_isTenth_15
      first | exact (xb_t (by unfold inR; omega)).symm | exact (xb_f (by unfold inR; omega)).symm

abbrev Q_X5_isSheet (G : XG) (k : Int32) : Array Value → State → Outcome → State → Prop := (xRi (fun r => r = xb (inR k 4)))
set_option maxHeartbeats 4000000 in
set_option maxRecDepth 100000 in
theorem c_X5_isSheet (l : Launch) (G : XG) (k : Int32)  : Met l yX5_isSheet wsX5_isSheet ({ frames := 0, cells := 0, slots := 0, locals := 0 } : Room) (va_Pc [.int k] (fun _ => True)) (Q_X5_isSheet G k) 0 0 (fun _ => False) := by
  refine Met.ofW (cc := cX5_isSheet) (maxL := 1) (ret := (some .boolean)) (by decide) rfl ?_
  intro pp ee ss mm aa below mt cd s₁ BB hml hv
  obtain ⟨rfl, -⟩ := hv
  have hx := BB.exec
  have hb := BB.bytes
  have hr := BB.returns
  have hts := atoms_spec (ws := wsX5_isSheet) BB.pre
  have hown : ss.vm.findClass RX5 = some mm.cls := findClass_of_methodNamed BB.named
  have hlocks := BB.notSynchronized
  have hS : va_S (fun _ => False) ss.heap ss.heap [] := va_S.rf
  have hP : xP (G) [] ss.heap := fun k q h => by cases h
  have hl := lv_entry ([.int k]) (n := 1) (Nat.le_of_ble_eq_true rfl)
  rw [lg_entry_eq]
  generalize (lg_sl ([.int k]) ++ List.replicate (1 - (lg_sl ([.int k])).length) Slot.unset).toArray = ls at hl ⊢
  replace hl : lv_has ls 1 [(0, .int k)] := hl
  refine lv_iload_n hx hb dX5_isSheet_0 rfl (lv_at hl 0 rfl) ?_
  refine xi_if_lt (tgt := 13) hx hb dX5_isSheet_1 rfl (fun b1 => ?_) (fun b1 => ?_)
  · skip
    refine lv_iconst (v := nI 0) hx hb dX5_isSheet_13 (by decide) ?_
    refine W.zret (v := nI 0) (ty := .boolean) hx hb hr (by decide) (fun t ht hW => ⟨⟨nI 0, (), rfl, ?_, trivial⟩, hS.F ht⟩) hS.2.2 dX5_isSheet_14
    first | exact (xb_t (by unfold inR; omega)).symm | exact (xb_f (by unfold inR; omega)).symm
  · skip
    refine lv_iload_n hx hb dX5_isSheet_4 rfl (lv_at hl 0 rfl) ?_
    refine lv_iconst (v := nI 4) hx hb dX5_isSheet_5 (by decide) ?_
    refine xm_icmp_ge (tgt := 13) hx hb (by omega) dX5_isSheet_6 rfl (fun b6 => ?_) (fun b6 => ?_)
    · skip
      refine lv_iconst (v := nI 0) hx hb dX5_isSheet_13 (by decide) ?_
      refine W.zret (v := nI 0) (ty := .boolean) hx hb hr (by decide) (fun t ht hW => ⟨⟨nI 0, (), rfl, ?_, trivial⟩, hS.F ht⟩) hS.2.2 dX5_isSheet_14
      first | exact (xb_t (by unfold inR; omega)).symm | exact (xb_f (by unfold inR; omega)).symm
    · skip
      refine lv_iconst (v := nI 1) hx hb dX5_isSheet_9 (by decide) ?_
      refine lv_goto (tgt := 14) hx hb dX5_isSheet_10 rfl ?_
      refine W.zret (v := nI 1) (ty := .boolean) hx hb hr (by decide) (fun t ht hW => ⟨⟨nI 1, (), rfl, ?_, trivial⟩, hS.F ht⟩) hS.2.2 dX5_isSheet_14
      first | exact (xb_t (by unfold inR; omega)).symm | exact (xb_f (by unfold inR; omega)).symm

abbrev Q_X5_isLane (G : XG) (k : Int32) : Array Value → State → Outcome → State → Prop := (xRi (fun r => r = xb (inR k 3)))
set_option maxHeartbeats 4000000 in
set_option maxRecDepth 100000 in
theorem c_X5_isLane (l : Launch) (G : XG) (k : Int32)  : Met l yX5_isLane wsX5_isLane ({ frames := 0, cells := 0, slots := 0, locals := 0 } : Room) (va_Pc [.int k] (fun _ => True)) (Q_X5_isLane G k) 0 0 (fun _ => False) := by
  refine Met.ofW (cc := cX5_isLane) (maxL := 1) (ret := (some .boolean)) (by decide) rfl ?_
  intro pp ee ss mm aa below mt cd s₁ BB hml hv
  obtain ⟨rfl, -⟩ := hv
  have hx := BB.exec
  have hb := BB.bytes
  have hr := BB.returns
  have hts := atoms_spec (ws := wsX5_isLane) BB.pre
  have hown : ss.vm.findClass RX5 = some mm.cls := findClass_of_methodNamed BB.named
  have hlocks := BB.notSynchronized
  have hS : va_S (fun _ => False) ss.heap ss.heap [] := va_S.rf
  have hP : xP (G) [] ss.heap := fun k q h => by cases h
  have hl := lv_entry ([.int k]) (n := 1) (Nat.le_of_ble_eq_true rfl)
  rw [lg_entry_eq]
  generalize (lg_sl ([.int k]) ++ List.replicate (1 - (lg_sl ([.int k])).length) Slot.unset).toArray = ls at hl ⊢
  replace hl : lv_has ls 1 [(0, .int k)] := hl
  refine lv_iload_n hx hb dX5_isLane_0 rfl (lv_at hl 0 rfl) ?_
  refine xi_if_lt (tgt := 13) hx hb dX5_isLane_1 rfl (fun b1 => ?_) (fun b1 => ?_)
  · skip
    refine lv_iconst (v := nI 0) hx hb dX5_isLane_13 (by decide) ?_
    refine W.zret (v := nI 0) (ty := .boolean) hx hb hr (by decide) (fun t ht hW => ⟨⟨nI 0, (), rfl, ?_, trivial⟩, hS.F ht⟩) hS.2.2 dX5_isLane_14
    first | exact (xb_t (by unfold inR; omega)).symm | exact (xb_f (by unfold inR; omega)).symm
  · skip
    refine lv_iload_n hx hb dX5_isLane_4 rfl (lv_at hl 0 rfl) ?_
    refine lv_iconst (v := nI 3) hx hb dX5_isLane_5 (by decide) ?_
    refine xm_icmp_ge (tgt := 13) hx hb (by omega) dX5_isLane_6 rfl (fun b6 => ?_) (fun b6 => ?_)
    · skip
      refine lv_iconst (v := nI 0) hx hb dX5_isLane_13 (by decide) ?_
      refine W.zret (v := nI 0) (ty := .boolean) hx hb hr (by decide) (fun t ht hW => ⟨⟨nI 0, (), rfl, ?_, trivial⟩, hS.F ht⟩) hS.2.2 dX5_isLane_14
      first | exact (xb_t (by unfold inR; omega)).symm | exact (xb_f (by unfold inR; omega)).symm
    · skip
      refine lv_iconst (v := nI 1) hx hb dX5_isLane_9 (by decide) ?_
      refine lv_goto (tgt := 14) hx hb dX5_isLane_10 rfl ?_
      refine W.zret (v := nI 1) (ty := .boolean) hx hb hr (by decide) (fun t ht hW => ⟨⟨nI 1, (), rfl, ?_, trivial⟩, hS.F ht⟩) hS.2.2 dX5_isLane_14
      first | exact (xb_t (by unfold inR; omega)).symm | exact (xb_f (by unfold inR; omega)).symm

abbrev Q_X5_isChoice (G : XG) (w : Int32) : Array Value → State → Outcome → State → Prop := (xRi (fun r => r = xb (inR w 2)))
set_option maxHeartbeats 4000000 in
set_option maxRecDepth 100000 in
theorem c_X5_isChoice (l : Launch) (G : XG) (w : Int32)  : Met l yX5_isChoice wsX5_isChoice ({ frames := 0, cells := 0, slots := 0, locals := 0 } : Room) (va_Pc [.int w] (fun _ => True)) (Q_X5_isChoice G w) 0 0 (fun _ => False) := by
  refine Met.ofW (cc := cX5_isChoice) (maxL := 1) (ret := (some .boolean)) (by decide) rfl ?_
  intro pp ee ss mm aa below mt cd s₁ BB hml hv
  obtain ⟨rfl, -⟩ := hv
  have hx := BB.exec
  have hb := BB.bytes
  have hr := BB.returns
  have hts := atoms_spec (ws := wsX5_isChoice) BB.pre
  have hown : ss.vm.findClass RX5 = some mm.cls := findClass_of_methodNamed BB.named
  have hlocks := BB.notSynchronized
  have hS : va_S (fun _ => False) ss.heap ss.heap [] := va_S.rf
  have hP : xP (G) [] ss.heap := fun k q h => by cases h
  have hl := lv_entry ([.int w]) (n := 1) (Nat.le_of_ble_eq_true rfl)
  rw [lg_entry_eq]
  generalize (lg_sl ([.int w]) ++ List.replicate (1 - (lg_sl ([.int w])).length) Slot.unset).toArray = ls at hl ⊢
  replace hl : lv_has ls 1 [(0, .int w)] := hl
  refine lv_iload_n hx hb dX5_isChoice_0 rfl (lv_at hl 0 rfl) ?_
  refine lv_if_eq (tgt := 9) hx hb dX5_isChoice_1 rfl (fun b1 => ?_) (fun b1 => ?_)
  · skip
    refine lv_iconst (v := nI 1) hx hb dX5_isChoice_9 (by decide) ?_
    refine lv_goto (tgt := 14) hx hb dX5_isChoice_10 rfl ?_
    refine W.zret (v := nI 1) (ty := .boolean) hx hb hr (by decide) (fun t ht hW => ⟨⟨nI 1, (), rfl, ?_, trivial⟩, hS.F ht⟩) hS.2.2 dX5_isChoice_14
    first | exact (xb_t (inR_2.mpr (by simp_all))).symm | exact (xb_f (fun q => by rcases inR_2.mp q with q | q <;> simp_all)).symm
  · skip
    refine lv_iload_n hx hb dX5_isChoice_4 rfl (lv_at hl 0 rfl) ?_
    refine lv_iconst (v := nI 1) hx hb dX5_isChoice_5 (by decide) ?_
    refine lv_icmp_ne (tgt := 13) hx hb dX5_isChoice_6 rfl (fun b6 => ?_) (fun b6 => ?_)
    · skip
      refine lv_iconst (v := nI 0) hx hb dX5_isChoice_13 (by decide) ?_
      refine W.zret (v := nI 0) (ty := .boolean) hx hb hr (by decide) (fun t ht hW => ⟨⟨nI 0, (), rfl, ?_, trivial⟩, hS.F ht⟩) hS.2.2 dX5_isChoice_14
      first | exact (xb_t (inR_2.mpr (by simp_all))).symm | exact (xb_f (fun q => by rcases inR_2.mp q with q | q <;> simp_all)).symm
    · skip
      refine lv_iconst (v := nI 1) hx hb dX5_isChoice_9 (by decide) ?_
      refine lv_goto (tgt := 14) hx hb dX5_isChoice_10 rfl ?_
      refine W.zret (v := nI 1) (ty := .boolean) hx hb hr (by decide) (fun t ht hW => ⟨⟨nI 1, (), rfl, ?_, trivial⟩, hS.F ht⟩) hS.2.2 dX5_isChoice_14
      first | exact (xb_t (inR_2.mpr (by simp_all))).symm | exact (xb_f (fun q => by rcases inR_2.mp q with q | q <;> simp_all)).symm

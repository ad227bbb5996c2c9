abbrev w_X2_has (G : XG) (h0 h1 : Nat) (room n : Nat) : va_W := [oC h0 2 [.ref h1, .int (nI room), .int (nI n)]]
abbrev Q_X2_has (G : XG) (h0 h1 : Nat) (room n : Nat) (i : Int32) : Array Value → State → Outcome → State → Prop := (xRi (fun r => r = xb (inR i n)))
set_option maxHeartbeats 4000000 in
set_option maxRecDepth 100000 in
theorem c_X2_has (l : Launch) (G : XG) (h0 h1 : Nat) (room n : Nat) (i : Int32) (hn : n ≤ 10) : Met l yX2_has wsX2_has ({ frames := 0, cells := 0, slots := 0, locals := 0 } : Room) (va_Pc [.ref h0, .int i] (xRp G (w_X2_has G h0 h1 room n))) (Q_X2_has G h0 h1 room n i) 0 0 (fun _ => False) := by
  refine Met.ofW (cc := cX2_has) (maxL := 2) (ret := (some .boolean)) (by decide) rfl ?_
  intro pp ee ss mm aa below mt cd s₁ BB hml hv
  obtain ⟨rfl, hP, hK⟩ := hv
  have hx := BB.exec
  have hb := BB.bytes
  have hr := BB.returns
  have hts := atoms_spec (ws := wsX2_has) BB.pre
  have hown : ss.vm.findClass RX2 = some mm.cls := findClass_of_methodNamed BB.named
  have hlocks := BB.notSynchronized
  have hS : va_S (fun _ => False) ss.heap ss.heap [] := va_S.rf
  replace hP : xP G [oC h0 2 [.ref h1, .int (nI room), .int (nI n)]] ss.heap := hP
  have hin2 : ∀ w ∈ u_ws RX2 TX2 3, w ∈ wsX2_has := fun w h => List.mem_cons_of_mem _ (List.mem_append_right _ h)
  have hl := lv_entry ([.ref h0, .int i]) (n := 2) (Nat.le_of_ble_eq_true rfl)
  rw [lg_entry_eq]
  generalize (lg_sl ([.ref h0, .int i]) ++ List.replicate (2 - (lg_sl ([.ref h0, .int i])).length) Slot.unset).toArray = ls at hl ⊢
  replace hl : lv_has ls 2 [(0, .ref h0), (1, .int i)] := hl
  refine lv_iload_n hx hb dX2_has_0 rfl (lv_at hl 1 rfl) ?_
  refine xi_if_lt (tgt := 16) hx hb dX2_has_1 rfl (fun b1 => ?_) (fun b1 => ?_)
  · skip
    refine lv_iconst (v := nI 0) hx hb dX2_has_16 (by decide) ?_
    refine W.zret (v := nI 0) (ty := .boolean) hx hb hr (by decide) (fun t ht hW => ⟨⟨nI 0, (), rfl, ?_, trivial⟩, hS.F ht⟩) hS.2.2 dX2_has_17
    first | exact (xb_t (by unfold inR; omega)).symm | exact (xb_f (by unfold inR; omega)).symm
  · skip
    refine lv_iload_n hx hb dX2_has_4 rfl (lv_at hl 1 rfl) ?_
    refine lv_aload_n hx hb dX2_has_5 rfl (lv_at hl 0 rfl) ?_
    refine va_get (D := G.1) (ci := 2) (v := .int (nI n)) (C := RX2) (T := TX2) (N := 3) hx hb hts hin2 hown hK.1 hP 0 rfl rfl 2 (by decide) (hts (.fieldLink RX2 19 "BackLenses$Rows" "size" "I") (List.mem_of_getElem? (i := 1) rfl)) (fun _ h9 => h9) rfl dX2_has_6 ?_
    refine xm_icmp_ge (tgt := 16) hx hb (by omega) dX2_has_9 rfl (fun b9 => ?_) (fun b9 => ?_)
    · skip
      refine lv_iconst (v := nI 0) hx hb dX2_has_16 (by decide) ?_
      refine W.zret (v := nI 0) (ty := .boolean) hx hb hr (by decide) (fun t ht hW => ⟨⟨nI 0, (), rfl, ?_, trivial⟩, hS.F ht⟩) hS.2.2 dX2_has_17
      first | exact (xb_t (by unfold inR; omega)).symm | exact (xb_f (by unfold inR; omega)).symm
    · skip
      refine lv_iconst (v := nI 1) hx hb dX2_has_12 (by decide) ?_
      refine lv_goto (tgt := 17) hx hb dX2_has_13 rfl ?_
      refine W.zret (v := nI 1) (ty := .boolean) hx hb hr (by decide) (fun t ht hW => ⟨⟨nI 1, (), rfl, ?_, trivial⟩, hS.F ht⟩) hS.2.2 dX2_has_17
      first | exact (xb_t (by unfold inR; omega)).symm | exact (xb_f (by unfold inR; omega)).symm

abbrev w_X2_number (G : XG) (h0 h1 : Nat) (room n : Nat) (f : Nat → Int32) : va_W := [oC h0 2 [.ref h1, .int (nI room), .int (nI n)], iA G h1 (3 * room) f]
abbrev Q_X2_number (G : XG) (h0 h1 : Nat) (room n : Nat) (f : Nat → Int32) (i j : Nat) : Array Value → State → Outcome → State → Prop := (xRi (fun r => r = f (3 * i + j)))
set_option maxHeartbeats 4000000 in
set_option maxRecDepth 100000 in
theorem c_X2_number (l : Launch) (G : XG) (h0 h1 : Nat) (room n : Nat) (f : Nat → Int32) (i j : Nat) (hr : room ≤ 10) (hi : 3 * i + j < 3 * room) : Met l yX2_number wsX2_number ({ frames := 0, cells := 0, slots := 0, locals := 0 } : Room) (va_Pc [.ref h0, .int (nI i), .int (nI j)] (xRp G (w_X2_number G h0 h1 room n f))) (Q_X2_number G h0 h1 room n f i j) 0 0 (fun _ => False) := by
  refine Met.ofW (cc := cX2_number) (maxL := 3) (ret := (some .int)) (by decide) rfl ?_
  intro pp ee ss mm aa below mt cd s₁ BB hml hv
  obtain ⟨rfl, hP, hK⟩ := hv
  have hx := BB.exec
  have hb := BB.bytes
  have hr := BB.returns
  have hts := atoms_spec (ws := wsX2_number) BB.pre
  have hown : ss.vm.findClass RX2 = some mm.cls := findClass_of_methodNamed BB.named
  have hlocks := BB.notSynchronized
  have hS : va_S (fun _ => False) ss.heap ss.heap [] := va_S.rf
  replace hP : xP G [oC h0 2 [.ref h1, .int (nI room), .int (nI n)], iA G h1 (3 * room) f] ss.heap := hP
  have hin2 : ∀ w ∈ u_ws RX2 TX2 3, w ∈ wsX2_number := fun w h => List.mem_cons_of_mem _ (List.mem_append_right _ h)
  have hl := lv_entry ([.ref h0, .int (nI i), .int (nI j)]) (n := 3) (Nat.le_of_ble_eq_true rfl)
  rw [lg_entry_eq]
  generalize (lg_sl ([.ref h0, .int (nI i), .int (nI j)]) ++ List.replicate (3 - (lg_sl ([.ref h0, .int (nI i), .int (nI j)])).length) Slot.unset).toArray = ls at hl ⊢
  replace hl : lv_has ls 3 [(0, .ref h0), (1, .int (nI i)), (2, .int (nI j))] := hl
  refine lv_aload_n hx hb dX2_number_0 rfl (lv_at hl 0 rfl) ?_
  refine va_get (D := G.1) (ci := 2) (v := .ref h1) (C := RX2) (T := TX2) (N := 3) hx hb hts hin2 hown hK.1 hP 0 rfl rfl 0 (by decide) (hts (.fieldLink RX2 15 "BackLenses$Rows" "numbers" "[I") (List.mem_of_getElem? (i := 1) rfl)) (fun _ h9 => h9) rfl dX2_number_1 ?_
  refine lv_iconst (v := nI 3) hx hb dX2_number_4 (by decide) ?_
  refine lv_iload_n hx hb dX2_number_5 rfl (lv_at hl 1 rfl) ?_
  refine xn_imul hx hb dX2_number_6 ?_
  refine lv_iload_n hx hb dX2_number_7 rfl (lv_at hl 2 rfl) ?_
  refine xn_iadd hx hb dX2_number_8 ?_
  refine xn_iald hx hb hK hP 1 rfl (by omega) (by omega) dX2_number_9 ?_
  refine W.iret (v := f ((3 * i) + j)) hx hb hr (fun t ht hW => ⟨⟨f ((3 * i) + j), (), rfl, ?_, trivial⟩, hS.F ht⟩) hS.2.2 dX2_number_10
  rfl

abbrev w_X2_replace (G : XG) (h0 h1 : Nat) (room n : Nat) (f : Nat → Int32) : va_W := [oC h0 2 [.ref h1, .int (nI room), .int (nI n)], iA G h1 (3 * room) f]
abbrev Q_X2_replace (G : XG) (sz : Nat) (h0 h1 : Nat) (room n : Nat) (f : Nat → Int32) (i j : Nat) (v : Int32) : Array Value → State → Outcome → State → Prop := (va_Qi (fun (r : Int32) (u : (Nat → Int32)) => r = f (3 * i + j) ∧ u = upd f (3 * i + j) v) (xWb G sz (w_X2_replace G h0 h1 room n f) (fun u : (Nat → Int32) => [oC h0 2 [.ref h1, .int (nI room), .int (nI n)], iA G h1 (3 * room) u])) (va_A (w_X2_replace G h0 h1 room n f) sz))
set_option maxHeartbeats 4000000 in
set_option maxRecDepth 100000 in
theorem c_X2_replace (l : Launch) (G : XG) (sz : Nat) (h0 h1 : Nat) (room n : Nat) (f : Nat → Int32) (i j : Nat) (v : Int32) (hr : room ≤ 10) (hi : 3 * i + j < 3 * room) : Met l yX2_replace wsX2_replace ({ frames := 0, cells := 0, slots := 0, locals := 0 } : Room) (va_Pc [.ref h0, .int (nI i), .int (nI j), .int v] (xWp G sz (w_X2_replace G h0 h1 room n f))) (Q_X2_replace G sz h0 h1 room n f i j v) 0 0 (va_A (w_X2_replace G h0 h1 room n f) sz) := by
  refine Met.ofW (cc := cX2_replace) (maxL := 5) (ret := (some .int)) (by decide) rfl ?_
  intro pp ee ss mm aa below mt cd s₁ BB hml hv
  obtain ⟨rfl, hsz, hP, hK, hD0⟩ := hv
  have hx := BB.exec
  have hb := BB.bytes
  have hr := BB.returns
  have hts := atoms_spec (ws := wsX2_replace) BB.pre
  have hown : ss.vm.findClass RX2 = some mm.cls := findClass_of_methodNamed BB.named
  have hlocks := BB.notSynchronized
  subst hsz
  have hD := hD0.self (sz := ss.heap.size)
  have hA : ∀ q : Nat, ss.heap.size ≤ q → va_A (w_X2_replace G h0 h1 room n f) ss.heap.size q := fun q h => Or.inr h
  have hS : va_S (va_A (w_X2_replace G h0 h1 room n f) ss.heap.size) ss.heap ss.heap [] := va_S.rf
  replace hD : va_D (va_A (w_X2_replace G h0 h1 room n f) ss.heap.size) [oC h0 2 [.ref h1, .int (nI room), .int (nI n)], iA G h1 (3 * room) f] := hD
  replace hP : xP G [oC h0 2 [.ref h1, .int (nI room), .int (nI n)], iA G h1 (3 * room) f] ss.heap := hP
  have hin2 : ∀ w ∈ u_ws RX2 TX2 3, w ∈ wsX2_replace := fun w h => List.mem_cons_of_mem _ (List.mem_append_right _ h)
  have hl := lv_entry ([.ref h0, .int (nI i), .int (nI j), .int v]) (n := 5) (Nat.le_of_ble_eq_true rfl)
  rw [lg_entry_eq]
  generalize (lg_sl ([.ref h0, .int (nI i), .int (nI j), .int v]) ++ List.replicate (5 - (lg_sl ([.ref h0, .int (nI i), .int (nI j), .int v])).length) Slot.unset).toArray = ls at hl ⊢
  replace hl : lv_has ls 5 [(0, .ref h0), (1, .int (nI i)), (2, .int (nI j)), (3, .int v)] := hl
  refine lv_aload_n hx hb dX2_replace_0 rfl (lv_at hl 0 rfl) ?_
  refine va_get (D := G.1) (ci := 2) (v := .ref h1) (C := RX2) (T := TX2) (N := 3) hx hb hts hin2 hown hK.1 hP 0 rfl rfl 0 (by decide) (hts (.fieldLink RX2 15 "BackLenses$Rows" "numbers" "[I") (List.mem_of_getElem? (i := 1) rfl)) (fun _ h9 => h9) rfl dX2_replace_1 ?_
  refine lv_iconst (v := nI 3) hx hb dX2_replace_4 (by decide) ?_
  refine lv_iload_n hx hb dX2_replace_5 rfl (lv_at hl 1 rfl) ?_
  refine xn_imul hx hb dX2_replace_6 ?_
  refine lv_iload_n hx hb dX2_replace_7 rfl (lv_at hl 2 rfl) ?_
  refine xn_iadd hx hb dX2_replace_8 ?_
  refine xn_iald hx hb hK hP 1 rfl (by omega) (by omega) dX2_replace_9 ?_
  refine lv_istore (lv' := [(4, .int (f ((3 * i) + j))), (0, .ref h0), (1, .int (nI i)), (2, .int (nI j)), (3, .int v)]) hx hb dX2_replace_10 hl (by decide) rfl (fun ls hl => ?_)
  refine lv_aload_n hx hb dX2_replace_12 rfl (lv_at hl 1 rfl) ?_
  refine va_get (D := G.1) (ci := 2) (v := .ref h1) (C := RX2) (T := TX2) (N := 3) hx hb hts hin2 hown hK.1 hP 0 rfl rfl 0 (by decide) (hts (.fieldLink RX2 15 "BackLenses$Rows" "numbers" "[I") (List.mem_of_getElem? (i := 1) rfl)) (fun _ h9 => h9) rfl dX2_replace_13 ?_
  refine lv_iconst (v := nI 3) hx hb dX2_replace_16 (by decide) ?_
  refine lv_iload_n hx hb dX2_replace_17 rfl (lv_at hl 2 rfl) ?_
  refine xn_imul hx hb dX2_replace_18 ?_
  refine lv_iload_n hx hb dX2_replace_19 rfl (lv_at hl 3 rfl) ?_
  refine xn_iadd hx hb dX2_replace_20 ?_
  refine lv_iload_n hx hb dX2_replace_21 rfl (lv_at hl 4 rfl) ?_
  refine xn_iast hx hb hK hP hD hS 1 rfl (by omega) (by omega) dX2_replace_22 (fun H locs hP hD hS => ?_)
  replace hP : xP G [oC h0 2 [.ref h1, .int (nI room), .int (nI n)], iA G h1 (3 * room) (upd f ((3 * i) + j) v)] H := hP
  replace hD : va_D (va_A (w_X2_replace G h0 h1 room n f) ss.heap.size) [oC h0 2 [.ref h1, .int (nI room), .int (nI n)], iA G h1 (3 * room) (upd f ((3 * i) + j) v)] := hD
  refine lv_iload hx hb dX2_replace_23 (lv_at hl 0 rfl) ?_
  have hP := hP.sub (ws' := [oC h0 2 [.ref h1, .int (nI room), .int (nI n)], iA G h1 (3 * room) (upd f ((3 * i) + j) v)]) [0, 1] rfl
  have hD := hD.sub (ws' := [oC h0 2 [.ref h1, .int (nI room), .int (nI n)], iA G h1 (3 * room) (upd f ((3 * i) + j) v)]) [0, 1] (by decide) rfl
  refine W.iret (v := f ((3 * i) + j)) hx hb hr (fun t ht hW => ⟨⟨f ((3 * i) + j), (upd f ((3 * i) + j) v), rfl, ?_, by rw [ht]; exact hP, hD⟩, hS.F ht⟩) hS.2.2 dX2_replace_25
  exact ⟨rfl, rfl⟩

abbrev w_X2_shorten (G : XG) (h0 h1 : Nat) (room n : Nat) : va_W := [oC h0 2 [.ref h1, .int (nI room), .int (nI n)]]
abbrev Q_X2_shorten (G : XG) (sz : Nat) (h0 h1 : Nat) (room n : Nat) (v : Int32) : Array Value → State → Outcome → State → Prop := (va_Qi (fun (r : Int32) (u : Nat) => r = (if inR v (n + 1) then nI n else (-1)) ∧ u = (if inR v (n + 1) then v.toInt.toNat else n)) (xWb G sz (w_X2_shorten G h0 h1 room n) (fun u : Nat => [oC h0 2 [.ref h1, .int (nI room), .int (nI u)]])) (va_A (w_X2_shorten G h0 h1 room n) sz))
set_option maxHeartbeats 4000000 in
set_option maxRecDepth 100000 in
theorem c_X2_shorten (l : Launch) (G : XG) (sz : Nat) (h0 h1 : Nat) (room n : Nat) (v : Int32) (hn : n ≤ 10) : Met l yX2_shorten wsX2_shorten ({ frames := 0, cells := 0, slots := 0, locals := 0 } : Room) (va_Pc [.ref h0, .int v] (xWp G sz (w_X2_shorten G h0 h1 room n))) (Q_X2_shorten G sz h0 h1 room n v) 0 0 (va_A (w_X2_shorten G h0 h1 room n) sz) := by
  refine Met.ofW (cc := cX2_shorten) (maxL := 3) (ret := (some .int)) (by decide) rfl ?_
  intro pp ee ss mm aa below mt cd s₁ BB hml hv
  obtain ⟨rfl, hsz, hP, hK, hD0⟩ := hv
  have hx := BB.exec
  have hb := BB.bytes
  have hr := BB.returns
  have hts := atoms_spec (ws := wsX2_shorten) BB.pre
  have hown : ss.vm.findClass RX2 = some mm.cls := findClass_of_methodNamed BB.named
  have hlocks := BB.notSynchronized
  subst hsz
  have hD := hD0.self (sz := ss.heap.size)
  have hA : ∀ q : Nat, ss.heap.size ≤ q → va_A (w_X2_shorten G h0 h1 room n) ss.heap.size q := fun q h => Or.inr h
  have hS : va_S (va_A (w_X2_shorten G h0 h1 room n) ss.heap.size) ss.heap ss.heap [] := va_S.rf
  replace hD : va_D (va_A (w_X2_shorten G h0 h1 room n) ss.heap.size) [oC h0 2 [.ref h1, .int (nI room), .int (nI n)]] := hD
  replace hP : xP G [oC h0 2 [.ref h1, .int (nI room), .int (nI n)]] ss.heap := hP
  have hin2 : ∀ w ∈ u_ws RX2 TX2 3, w ∈ wsX2_shorten := fun w h => List.mem_cons_of_mem _ (List.mem_append_right _ h)
  have hl := lv_entry ([.ref h0, .int v]) (n := 3) (Nat.le_of_ble_eq_true rfl)
  rw [lg_entry_eq]
  generalize (lg_sl ([.ref h0, .int v]) ++ List.replicate (3 - (lg_sl ([.ref h0, .int v])).length) Slot.unset).toArray = ls at hl ⊢
  replace hl : lv_has ls 3 [(0, .ref h0), (1, .int v)] := hl
  refine lv_iload_n hx hb dX2_shorten_0 rfl (lv_at hl 1 rfl) ?_
  refine xi_if_lt (tgt := 12) hx hb dX2_shorten_1 rfl (fun b1 => ?_) (fun b1 => ?_)
  · skip
    refine lv_iconst (v := (-1)) hx hb dX2_shorten_12 (by decide) ?_
    have hP := hP.sub (ws' := [oC h0 2 [.ref h1, .int (nI room), .int (nI n)]]) [0] rfl
    have hD := hD.sub (ws' := [oC h0 2 [.ref h1, .int (nI room), .int (nI n)]]) [0] (by decide) rfl
    refine W.iret (v := (-1)) hx hb hr (fun t ht hW => ⟨⟨(-1), (n), rfl, ?_, by rw [ht]; exact hP, hD⟩, hS.F ht⟩) hS.2.2 dX2_shorten_13
    first | (rw [if_neg (show ¬ inR _ _ by unfold inR; omega), if_neg (show ¬ inR _ _ by unfold inR; omega)]; exact ⟨rfl, rfl⟩) | (rw [if_pos (inR_nI hk (by omega)), if_pos (inR_nI hk (by omega)), nI_toInt (by omega)]; exact ⟨rfl, by omega⟩)
  · skip
    refine lv_iload_n hx hb dX2_shorten_4 rfl (lv_at hl 1 rfl) ?_
    refine lv_aload_n hx hb dX2_shorten_5 rfl (lv_at hl 0 rfl) ?_
    refine va_get (D := G.1) (ci := 2) (v := .int (nI n)) (C := RX2) (T := TX2) (N := 3) hx hb hts hin2 hown hK.1 hP 0 rfl rfl 2 (by decide) (hts (.fieldLink RX2 19 "BackLenses$Rows" "size" "I") (List.mem_of_getElem? (i := 1) rfl)) (fun _ h9 => h9) rfl dX2_shorten_6 ?_
    refine xm_icmp_le (tgt := 14) hx hb (by omega) dX2_shorten_9 rfl (fun b9 => ?_) (fun b9 => ?_)
    · skip
      obtain ⟨k, hk, rfl⟩ := inR_nat (x := v) (n := n + 1) (by unfold inR; omega)
      refine lv_aload_n hx hb dX2_shorten_14 rfl (lv_at hl 0 rfl) ?_
      refine va_get (D := G.1) (ci := 2) (v := .int (nI n)) (C := RX2) (T := TX2) (N := 3) hx hb hts hin2 hown hK.1 hP 0 rfl rfl 2 (by decide) (hts (.fieldLink RX2 19 "BackLenses$Rows" "size" "I") (List.mem_of_getElem? (i := 1) rfl)) (fun _ h9 => h9) rfl dX2_shorten_15 ?_
      refine lv_istore_n (lv' := [(2, .int (nI n)), (0, .ref h0), (1, .int (nI k))]) hx hb dX2_shorten_18 rfl hl (by decide) rfl (fun ls hl => ?_)
      refine lv_aload_n hx hb dX2_shorten_19 rfl (lv_at hl 1 rfl) ?_
      refine lv_iload_n hx hb dX2_shorten_20 rfl (lv_at hl 2 rfl) ?_
      refine va_put (D := G.1) (ci := 2) (v := .int (nI k)) (ty := .int) (C := RX2) (T := TX2) (N := 3) hx hb hts hin2 tyX2 tyX2_ok nmX2 hown hK.1 hP hD hS 0 rfl rfl 2 (by decide) (hts (.fieldLink RX2 19 "BackLenses$Rows" "size" "I") (List.mem_of_getElem? (i := 1) rfl)) (fun _ h9 => h9) rfl (by decide +kernel) rfl rfl (Nat.le_of_ble_eq_true rfl) dX2_shorten_21 (fun H locs hP hD hS => ?_)
      replace hP : xP G [oC h0 2 [.ref h1, .int (nI room), .int (nI k)]] H := hP
      replace hD : va_D (va_A (w_X2_shorten G h0 h1 room n) ss.heap.size) [oC h0 2 [.ref h1, .int (nI room), .int (nI k)]] := hD
      refine lv_iload_n hx hb dX2_shorten_24 rfl (lv_at hl 0 rfl) ?_
      have hP := hP.sub (ws' := [oC h0 2 [.ref h1, .int (nI room), .int (nI k)]]) [0] rfl
      have hD := hD.sub (ws' := [oC h0 2 [.ref h1, .int (nI room), .int (nI k)]]) [0] (by decide) rfl
      refine W.iret (v := nI n) hx hb hr (fun t ht hW => ⟨⟨nI n, (k), rfl, ?_, by rw [ht]; exact hP, hD⟩, hS.F ht⟩) hS.2.2 dX2_shorten_25
      first | (rw [if_neg (show ¬ inR _ _ by unfold inR; omega), if_neg (show ¬ inR _ _ by unfold inR; omega)]; exact ⟨rfl, rfl⟩) | (rw [if_pos (inR_nI hk (by omega)), if_pos (inR_nI hk (by omega)), nI_toInt (by omega)]; exact ⟨rfl, by omega⟩)
    · skip
      refine lv_iconst (v := (-1)) hx hb dX2_shorten_12 (by decide) ?_
      have hP := hP.sub (ws' := [oC h0 2 [.ref h1, .int (nI room), .int (nI n)]]) [0] rfl
      have hD := hD.sub (ws' := [oC h0 2 [.ref h1, .int (nI room), .int (nI n)]]) [0] (by decide) rfl
      refine W.iret (v := (-1)) hx hb hr (fun t ht hW => ⟨⟨(-1), (n), rfl, ?_, by rw [ht]; exact hP, hD⟩, hS.F ht⟩) hS.2.2 dX2_shorten_13
      first | (rw [if_neg (show ¬ inR _ _ by unfold inR; omega), if_neg (show ¬ inR _ _ by unfold inR; omega)]; exact ⟨rfl, rfl⟩) | (rw [if_pos (inR_nI hk (by omega)), if_pos (inR_nI hk (by omega)), nI_toInt (by omega)]; exact ⟨rfl, by omega⟩)

abbrev w_X2_add (G : XG) (h0 h1 : Nat) (room n : Nat) (f : Nat → Int32) : va_W := [oC h0 2 [.ref h1, .int (nI room), .int (nI n)], iA G h1 (3 * room) f]
abbrev Q_X2_add (G : XG) (sz : Nat) (h0 h1 : Nat) (room n : Nat) (f : Nat → Int32) (a b c : Int32) : Array Value → State → Outcome → State → Prop := (va_Qi (fun (r : Int32) (u : Nat × (Nat → Int32)) => r = (if n < room then nI (n + 1) else (-3)) ∧ u.1 = (if n < room then n + 1 else n) ∧ u.2 = (if n < room then upd (upd (upd f (3 * n) a) (3 * n + 1) b) (3 * n + 2) c else f)) (xWb G sz (w_X2_add G h0 h1 room n f) (fun u : Nat × (Nat → Int32) => [oC h0 2 [.ref h1, .int (nI room), .int (nI u.1)], iA G h1 (3 * room) u.2])) (va_A (w_X2_add G h0 h1 room n f) sz))
set_option maxHeartbeats 4000000 in
set_option maxRecDepth 100000 in
theorem c_X2_add (l : Launch) (G : XG) (sz : Nat) (h0 h1 : Nat) (room n : Nat) (f : Nat → Int32) (a b c : Int32) (hr : room ≤ 10) (hn : n ≤ room) : Met l yX2_add wsX2_add ({ frames := 0, cells := 0, slots := 0, locals := 0 } : Room) (va_Pc [.ref h0, .int a, .int b, .int c] (xWp G sz (w_X2_add G h0 h1 room n f))) (Q_X2_add G sz h0 h1 room n f a b c) 0 0 (va_A (w_X2_add G h0 h1 room n f) sz) := by
  refine Met.ofW (cc := cX2_add) (maxL := 4) (ret := (some .int)) (by decide) rfl ?_
  intro pp ee ss mm aa below mt cd s₁ BB hml hv
  obtain ⟨rfl, hsz, hP, hK, hD0⟩ := hv
  have hx := BB.exec
  have hb := BB.bytes
  have hr := BB.returns
  have hts := atoms_spec (ws := wsX2_add) BB.pre
  have hown : ss.vm.findClass RX2 = some mm.cls := findClass_of_methodNamed BB.named
  have hlocks := BB.notSynchronized
  subst hsz
  have hD := hD0.self (sz := ss.heap.size)
  have hA : ∀ q : Nat, ss.heap.size ≤ q → va_A (w_X2_add G h0 h1 room n f) ss.heap.size q := fun q h => Or.inr h
  have hS : va_S (va_A (w_X2_add G h0 h1 room n f) ss.heap.size) ss.heap ss.heap [] := va_S.rf
  replace hD : va_D (va_A (w_X2_add G h0 h1 room n f) ss.heap.size) [oC h0 2 [.ref h1, .int (nI room), .int (nI n)], iA G h1 (3 * room) f] := hD
  replace hP : xP G [oC h0 2 [.ref h1, .int (nI room), .int (nI n)], iA G h1 (3 * room) f] ss.heap := hP
  have hin2 : ∀ w ∈ u_ws RX2 TX2 3, w ∈ wsX2_add := fun w h => List.mem_cons_of_mem _ (List.mem_append_right _ h)
  have hl := lv_entry ([.ref h0, .int a, .int b, .int c]) (n := 4) (Nat.le_of_ble_eq_true rfl)
  rw [lg_entry_eq]
  generalize (lg_sl ([.ref h0, .int a, .int b, .int c]) ++ List.replicate (4 - (lg_sl ([.ref h0, .int a, .int b, .int c])).length) Slot.unset).toArray = ls at hl ⊢
  replace hl : lv_has ls 4 [(0, .ref h0), (1, .int a), (2, .int b), (3, .int c)] := hl
  refine lv_aload_n hx hb dX2_add_0 rfl (lv_at hl 0 rfl) ?_
  refine va_get (D := G.1) (ci := 2) (v := .int (nI n)) (C := RX2) (T := TX2) (N := 3) hx hb hts hin2 hown hK.1 hP 0 rfl rfl 2 (by decide) (hts (.fieldLink RX2 19 "BackLenses$Rows" "size" "I") (List.mem_of_getElem? (i := 1) rfl)) (fun _ h9 => h9) rfl dX2_add_1 ?_
  refine lv_aload_n hx hb dX2_add_4 rfl (lv_at hl 0 rfl) ?_
  refine va_get (D := G.1) (ci := 2) (v := .int (nI room)) (C := RX2) (T := TX2) (N := 3) hx hb hts hin2 hown hK.1 hP 0 rfl rfl 1 (by decide) (hts (.fieldLink RX2 9 "BackLenses$Rows" "room" "I") (List.mem_of_getElem? (i := 2) rfl)) (fun _ h9 => h9) rfl dX2_add_5 ?_
  refine xn_icmp_lt (tgt := 14) hx hb (by omega) (by omega) dX2_add_8 rfl (fun b8 => ?_) (fun b8 => ?_)
  · skip
    refine lv_aload_n hx hb dX2_add_14 rfl (lv_at hl 0 rfl) ?_
    refine va_get (D := G.1) (ci := 2) (v := .ref h1) (C := RX2) (T := TX2) (N := 3) hx hb hts hin2 hown hK.1 hP 0 rfl rfl 0 (by decide) (hts (.fieldLink RX2 15 "BackLenses$Rows" "numbers" "[I") (List.mem_of_getElem? (i := 3) rfl)) (fun _ h9 => h9) rfl dX2_add_15 ?_
    refine lv_iconst (v := nI 3) hx hb dX2_add_18 (by decide) ?_
    refine lv_aload_n hx hb dX2_add_19 rfl (lv_at hl 0 rfl) ?_
    refine va_get (D := G.1) (ci := 2) (v := .int (nI n)) (C := RX2) (T := TX2) (N := 3) hx hb hts hin2 hown hK.1 hP 0 rfl rfl 2 (by decide) (hts (.fieldLink RX2 19 "BackLenses$Rows" "size" "I") (List.mem_of_getElem? (i := 1) rfl)) (fun _ h9 => h9) rfl dX2_add_20 ?_
    refine xn_imul hx hb dX2_add_23 ?_
    refine lv_iload_n hx hb dX2_add_24 rfl (lv_at hl 1 rfl) ?_
    refine xn_iast hx hb hK hP hD hS 1 rfl (by omega) (by omega) dX2_add_25 (fun H locs hP hD hS => ?_)
    replace hP : xP G [oC h0 2 [.ref h1, .int (nI room), .int (nI n)], iA G h1 (3 * room) (upd f (3 * n) a)] H := hP
    replace hD : va_D (va_A (w_X2_add G h0 h1 room n f) ss.heap.size) [oC h0 2 [.ref h1, .int (nI room), .int (nI n)], iA G h1 (3 * room) (upd f (3 * n) a)] := hD
    refine lv_aload_n hx hb dX2_add_26 rfl (lv_at hl 0 rfl) ?_
    refine va_get (D := G.1) (ci := 2) (v := .ref h1) (C := RX2) (T := TX2) (N := 3) hx hb hts hin2 hown hK.1 hP 0 rfl rfl 0 (by decide) (hts (.fieldLink RX2 15 "BackLenses$Rows" "numbers" "[I") (List.mem_of_getElem? (i := 3) rfl)) (fun _ h9 => h9) rfl dX2_add_27 ?_
    refine lv_iconst (v := nI 3) hx hb dX2_add_30 (by decide) ?_
    refine lv_aload_n hx hb dX2_add_31 rfl (lv_at hl 0 rfl) ?_
    refine va_get (D := G.1) (ci := 2) (v := .int (nI n)) (C := RX2) (T := TX2) (N := 3) hx hb hts hin2 hown hK.1 hP 0 rfl rfl 2 (by decide) (hts (.fieldLink RX2 19 "BackLenses$Rows" "size" "I") (List.mem_of_getElem? (i := 1) rfl)) (fun _ h9 => h9) rfl dX2_add_32 ?_
    refine xn_imul hx hb dX2_add_35 ?_
    refine lv_iconst (v := nI 1) hx hb dX2_add_36 (by decide) ?_
    refine xn_iadd hx hb dX2_add_37 ?_
    refine lv_iload_n hx hb dX2_add_38 rfl (lv_at hl 2 rfl) ?_
    refine xn_iast hx hb hK hP hD hS 1 rfl (by omega) (by omega) dX2_add_39 (fun H locs hP hD hS => ?_)
    replace hP : xP G [oC h0 2 [.ref h1, .int (nI room), .int (nI n)], iA G h1 (3 * room) (upd (upd f (3 * n) a) ((3 * n) + 1) b)] H := hP
    replace hD : va_D (va_A (w_X2_add G h0 h1 room n f) ss.heap.size) [oC h0 2 [.ref h1, .int (nI room), .int (nI n)], iA G h1 (3 * room) (upd (upd f (3 * n) a) ((3 * n) + 1) b)] := hD
    refine lv_aload_n hx hb dX2_add_40 rfl (lv_at hl 0 rfl) ?_
    refine va_get (D := G.1) (ci := 2) (v := .ref h1) (C := RX2) (T := TX2) (N := 3) hx hb hts hin2 hown hK.1 hP 0 rfl rfl 0 (by decide) (hts (.fieldLink RX2 15 "BackLenses$Rows" "numbers" "[I") (List.mem_of_getElem? (i := 3) rfl)) (fun _ h9 => h9) rfl dX2_add_41 ?_
    refine lv_iconst (v := nI 3) hx hb dX2_add_44 (by decide) ?_
    refine lv_aload_n hx hb dX2_add_45 rfl (lv_at hl 0 rfl) ?_
    refine va_get (D := G.1) (ci := 2) (v := .int (nI n)) (C := RX2) (T := TX2) (N := 3) hx hb hts hin2 hown hK.1 hP 0 rfl rfl 2 (by decide) (hts (.fieldLink RX2 19 "BackLenses$Rows" "size" "I") (List.mem_of_getElem? (i := 1) rfl)) (fun _ h9 => h9) rfl dX2_add_46 ?_
    refine xn_imul hx hb dX2_add_49 ?_
    refine lv_iconst (v := nI 2) hx hb dX2_add_50 (by decide) ?_
    refine xn_iadd hx hb dX2_add_51 ?_
    refine lv_iload_n hx hb dX2_add_52 rfl (lv_at hl 3 rfl) ?_
    refine xn_iast hx hb hK hP hD hS 1 rfl (by omega) (by omega) dX2_add_53 (fun H locs hP hD hS => ?_)
    replace hP : xP G [oC h0 2 [.ref h1, .int (nI room), .int (nI n)], iA G h1 (3 * room) (upd (upd (upd f (3 * n) a) ((3 * n) + 1) b) ((3 * n) + 2) c)] H := hP
    replace hD : va_D (va_A (w_X2_add G h0 h1 room n f) ss.heap.size) [oC h0 2 [.ref h1, .int (nI room), .int (nI n)], iA G h1 (3 * room) (upd (upd (upd f (3 * n) a) ((3 * n) + 1) b) ((3 * n) + 2) c)] := hD
    refine lv_aload_n hx hb dX2_add_54 rfl (lv_at hl 0 rfl) ?_
    refine lv_dup hx hb dX2_add_55 rfl ?_
    refine va_get (D := G.1) (ci := 2) (v := .int (nI n)) (C := RX2) (T := TX2) (N := 3) hx hb hts hin2 hown hK.1 hP 0 rfl rfl 2 (by decide) (hts (.fieldLink RX2 19 "BackLenses$Rows" "size" "I") (List.mem_of_getElem? (i := 1) rfl)) (fun _ h9 => h9) rfl dX2_add_56 ?_
    refine lv_iconst (v := nI 1) hx hb dX2_add_59 (by decide) ?_
    refine xn_iadd hx hb dX2_add_60 ?_
    refine va_put (D := G.1) (ci := 2) (v := .int (nI (n + 1))) (ty := .int) (C := RX2) (T := TX2) (N := 3) hx hb hts hin2 tyX2 tyX2_ok nmX2 hown hK.1 hP hD hS 0 rfl rfl 2 (by decide) (hts (.fieldLink RX2 19 "BackLenses$Rows" "size" "I") (List.mem_of_getElem? (i := 1) rfl)) (fun _ h9 => h9) rfl (by decide +kernel) rfl rfl (Nat.le_of_ble_eq_true rfl) dX2_add_61 (fun H locs hP hD hS => ?_)
    replace hP : xP G [oC h0 2 [.ref h1, .int (nI room), .int (nI (n + 1))], iA G h1 (3 * room) (upd (upd (upd f (3 * n) a) ((3 * n) + 1) b) ((3 * n) + 2) c)] H := hP
    replace hD : va_D (va_A (w_X2_add G h0 h1 room n f) ss.heap.size) [oC h0 2 [.ref h1, .int (nI room), .int (nI (n + 1))], iA G h1 (3 * room) (upd (upd (upd f (3 * n) a) ((3 * n) + 1) b) ((3 * n) + 2) c)] := hD
    refine lv_aload_n hx hb dX2_add_64 rfl (lv_at hl 0 rfl) ?_
    refine va_get (D := G.1) (ci := 2) (v := .int (nI (n + 1))) (C := RX2) (T := TX2) (N := 3) hx hb hts hin2 hown hK.1 hP 0 rfl rfl 2 (by decide) (hts (.fieldLink RX2 19 "BackLenses$Rows" "size" "I") (List.mem_of_getElem? (i := 1) rfl)) (fun _ h9 => h9) rfl dX2_add_65 ?_
    have hP := hP.sub (ws' := [oC h0 2 [.ref h1, .int (nI room), .int (nI (n + 1))], iA G h1 (3 * room) (upd (upd (upd f (3 * n) a) ((3 * n) + 1) b) ((3 * n) + 2) c)]) [0, 1] rfl
    have hD := hD.sub (ws' := [oC h0 2 [.ref h1, .int (nI room), .int (nI (n + 1))], iA G h1 (3 * room) (upd (upd (upd f (3 * n) a) ((3 * n) + 1) b) ((3 * n) + 2) c)]) [0, 1] (by decide) rfl
    refine W.iret (v := nI (n + 1)) hx hb hr (fun t ht hW => ⟨⟨nI (n + 1), (n + 1, upd (upd (upd f (3 * n) a) ((3 * n) + 1) b) ((3 * n) + 2) c), rfl, ?_, by rw [ht]; exact hP, hD⟩, hS.F ht⟩) hS.2.2 dX2_add_68
    try dsimp only
    first | exact ⟨(if_pos b8).symm, (if_pos b8).symm, (if_pos b8).symm⟩ | exact ⟨(if_neg b8).symm, (if_neg b8).symm, (if_neg b8).symm⟩
  · skip
    refine lv_bipush (v := (-3)) hx hb dX2_add_11 (by decide) ?_
    have hP := hP.sub (ws' := [oC h0 2 [.ref h1, .int (nI room), .int (nI n)], iA G h1 (3 * room) f]) [0, 1] rfl
    have hD := hD.sub (ws' := [oC h0 2 [.ref h1, .int (nI room), .int (nI n)], iA G h1 (3 * room) f]) [0, 1] (by decide) rfl
    refine W.iret (v := (-3)) hx hb hr (fun t ht hW => ⟨⟨(-3), (n, f), rfl, ?_, by rw [ht]; exact hP, hD⟩, hS.F ht⟩) hS.2.2 dX2_add_13
    try dsimp only
    first | exact ⟨(if_pos b8).symm, (if_pos b8).symm, (if_pos b8).symm⟩ | exact ⟨(if_neg b8).symm, (if_neg b8).symm, (if_neg b8).symm⟩

abbrev w_X2_become (G : XG) (h0 h1 : Nat) (room n : Nat) (f : Nat → Int32) (h2 h3 : Nat) (n2 : Nat) (f2 : Nat → Int32) : va_W := [oC h0 2 [.ref h1, .int (nI room), .int (nI n)], iA G h1 (3 * room) f, oC h2 2 [.ref h3, .int (nI room), .int (nI n2)], iA G h3 (3 * room) f2]
abbrev Q_X2_become (G : XG) (sz : Nat) (h0 h1 : Nat) (room n : Nat) (f : Nat → Int32) (h2 h3 : Nat) (n2 : Nat) (f2 : Nat → Int32) : Array Value → State → Outcome → State → Prop := (va_Qv (fun (u : (Nat → Int32)) => u = va_cpy f2 f 0 0 (3 * room)) (xWb G sz (w_X2_become G h0 h1 room n f h2 h3 n2 f2) (fun u : (Nat → Int32) => [oC h0 2 [.ref h1, .int (nI room), .int (nI n2)], iA G h1 (3 * room) u, oC h2 2 [.ref h3, .int (nI room), .int (nI n2)], iA G h3 (3 * room) f2])) (va_A (w_X2_become G h0 h1 room n f h2 h3 n2 f2) sz))
set_option maxHeartbeats 4000000 in
set_option maxRecDepth 100000 in
theorem c_X2_become (l : Launch) (G : XG) (sz : Nat) (h0 h1 : Nat) (room n : Nat) (f : Nat → Int32) (h2 h3 : Nat) (n2 : Nat) (f2 : Nat → Int32) (hr : room ≤ 10) : Met l yX2_become wsX2_become ({ frames := 1, cells := 0, slots := 0, locals := 18 } : Room) (va_Pc [.ref h0, .ref h2] (xWp G sz (w_X2_become G h0 h1 room n f h2 h3 n2 f2))) (Q_X2_become G sz h0 h1 room n f h2 h3 n2 f2) 0 0 (va_A (w_X2_become G h0 h1 room n f h2 h3 n2 f2) sz) := by
  refine Met.ofW (cc := cX2_become) (maxL := 2) (ret := none) (by decide) rfl ?_
  intro pp ee ss mm aa below mt cd s₁ BB hml hv
  obtain ⟨rfl, hsz, hP, hK, hD0⟩ := hv
  have hx := BB.exec
  have hb := BB.bytes
  have hr := BB.returns
  have hts := atoms_spec (ws := wsX2_become) BB.pre
  have hown : ss.vm.findClass RX2 = some mm.cls := findClass_of_methodNamed BB.named
  have hlocks := BB.notSynchronized
  subst hsz
  have hD := hD0.self (sz := ss.heap.size)
  have hA : ∀ q : Nat, ss.heap.size ≤ q → va_A (w_X2_become G h0 h1 room n f h2 h3 n2 f2) ss.heap.size q := fun q h => Or.inr h
  have hS : va_S (va_A (w_X2_become G h0 h1 room n f h2 h3 n2 f2) ss.heap.size) ss.heap ss.heap [] := va_S.rf
  replace hD : va_D (va_A (w_X2_become G h0 h1 room n f h2 h3 n2 f2) ss.heap.size) [oC h0 2 [.ref h1, .int (nI room), .int (nI n)], iA G h1 (3 * room) f, oC h2 2 [.ref h3, .int (nI room), .int (nI n2)], iA G h3 (3 * room) f2] := hD
  replace hP : xP G [oC h0 2 [.ref h1, .int (nI room), .int (nI n)], iA G h1 (3 * room) f, oC h2 2 [.ref h3, .int (nI room), .int (nI n2)], iA G h3 (3 * room) f2] ss.heap := hP
  have hin2 : ∀ w ∈ u_ws RX2 TX2 3, w ∈ wsX2_become := fun w h => List.mem_cons_of_mem _ (List.mem_append_right _ h)
  have hl := lv_entry ([.ref h0, .ref h2]) (n := 2) (Nat.le_of_ble_eq_true rfl)
  rw [lg_entry_eq]
  generalize (lg_sl ([.ref h0, .ref h2]) ++ List.replicate (2 - (lg_sl ([.ref h0, .ref h2])).length) Slot.unset).toArray = ls at hl ⊢
  replace hl : lv_has ls 2 [(0, .ref h0), (1, .ref h2)] := hl
  refine lv_aload_n hx hb dX2_become_0 rfl (lv_at hl 0 rfl) ?_
  refine lv_aload_n hx hb dX2_become_1 rfl (lv_at hl 1 rfl) ?_
  refine va_get (D := G.1) (ci := 2) (v := .int (nI n2)) (C := RX2) (T := TX2) (N := 3) hx hb hts hin2 hown hK.1 hP 2 rfl rfl 2 (by decide) (hts (.fieldLink RX2 19 "BackLenses$Rows" "size" "I") (List.mem_of_getElem? (i := 1) rfl)) (fun _ h9 => h9) rfl dX2_become_2 ?_
  refine va_put (D := G.1) (ci := 2) (v := .int (nI n2)) (ty := .int) (C := RX2) (T := TX2) (N := 3) hx hb hts hin2 tyX2 tyX2_ok nmX2 hown hK.1 hP hD hS 0 rfl rfl 2 (by decide) (hts (.fieldLink RX2 19 "BackLenses$Rows" "size" "I") (List.mem_of_getElem? (i := 1) rfl)) (fun _ h9 => h9) rfl (by decide +kernel) rfl rfl (Nat.le_of_ble_eq_true rfl) dX2_become_5 (fun H locs hP hD hS => ?_)
  replace hP : xP G [oC h0 2 [.ref h1, .int (nI room), .int (nI n2)], iA G h1 (3 * room) f, oC h2 2 [.ref h3, .int (nI room), .int (nI n2)], iA G h3 (3 * room) f2] H := hP
  replace hD : va_D (va_A (w_X2_become G h0 h1 room n f h2 h3 n2 f2) ss.heap.size) [oC h0 2 [.ref h1, .int (nI room), .int (nI n2)], iA G h1 (3 * room) f, oC h2 2 [.ref h3, .int (nI room), .int (nI n2)], iA G h3 (3 * room) f2] := hD
  refine lv_aload_n hx hb dX2_become_8 rfl (lv_at hl 1 rfl) ?_
  refine va_get (D := G.1) (ci := 2) (v := .ref h3) (C := RX2) (T := TX2) (N := 3) hx hb hts hin2 hown hK.1 hP 2 rfl rfl 0 (by decide) (hts (.fieldLink RX2 15 "BackLenses$Rows" "numbers" "[I") (List.mem_of_getElem? (i := 2) rfl)) (fun _ h9 => h9) rfl dX2_become_9 ?_
  refine lv_iconst (v := nI 0) hx hb dX2_become_12 (by decide) ?_
  refine lv_aload_n hx hb dX2_become_13 rfl (lv_at hl 0 rfl) ?_
  refine va_get (D := G.1) (ci := 2) (v := .ref h1) (C := RX2) (T := TX2) (N := 3) hx hb hts hin2 hown hK.1 hP 0 rfl rfl 0 (by decide) (hts (.fieldLink RX2 15 "BackLenses$Rows" "numbers" "[I") (List.mem_of_getElem? (i := 2) rfl)) (fun _ h9 => h9) rfl dX2_become_14 ?_
  refine lv_iconst (v := nI 0) hx hb dX2_become_17 (by decide) ?_
  refine lv_aload_n hx hb dX2_become_18 rfl (lv_at hl 0 rfl) ?_
  refine va_get (D := G.1) (ci := 2) (v := .ref h1) (C := RX2) (T := TX2) (N := 3) hx hb hts hin2 hown hK.1 hP 0 rfl rfl 0 (by decide) (hts (.fieldLink RX2 15 "BackLenses$Rows" "numbers" "[I") (List.mem_of_getElem? (i := 2) rfl)) (fun _ h9 => h9) rfl dX2_become_19 ?_
  refine xn_alen hx hb hK hP 1 rfl dX2_become_22 ?_
  refine xn_copyi (n := 3 * room) (sp := 0) (dp := 0) hx hb (by rw [hml]; exact hl.1.symm) hown (hts (.methodLink RX2 22 arraycopyName) (List.mem_of_getElem? (i := 3) rfl)) (hts (.native arraycopyName) (List.mem_of_getElem? (i := 4) rfl)) (hts (.static arraycopyName) (List.mem_of_getElem? (i := 5) rfl)) (hts (.initialized "java/lang/System") (List.mem_of_getElem? (i := 6) rfl)) hK hP hD hS 3 1 rfl rfl (by omega) (by omega) (by omega) (by omega) (Nat.le_of_ble_eq_true rfl) (Nat.le_of_ble_eq_true rfl) dX2_become_23 (fun H locs hP hD hS => ?_)
  replace hP : xP G [oC h0 2 [.ref h1, .int (nI room), .int (nI n2)], iA G h1 (3 * room) (va_cpy f2 f 0 0 (3 * room)), oC h2 2 [.ref h3, .int (nI room), .int (nI n2)], iA G h3 (3 * room) f2] H := hP
  replace hD : va_D (va_A (w_X2_become G h0 h1 room n f h2 h3 n2 f2) ss.heap.size) [oC h0 2 [.ref h1, .int (nI room), .int (nI n2)], iA G h1 (3 * room) (va_cpy f2 f 0 0 (3 * room)), oC h2 2 [.ref h3, .int (nI room), .int (nI n2)], iA G h3 (3 * room) f2] := hD
  have hP := hP.sub (ws' := [oC h0 2 [.ref h1, .int (nI room), .int (nI n2)], iA G h1 (3 * room) (va_cpy f2 f 0 0 (3 * room)), oC h2 2 [.ref h3, .int (nI room), .int (nI n2)], iA G h3 (3 * room) f2]) [0, 1, 2, 3] rfl
  have hD := hD.sub (ws' := [oC h0 2 [.ref h1, .int (nI room), .int (nI n2)], iA G h1 (3 * room) (va_cpy f2 f 0 0 (3 * room)), oC h2 2 [.ref h3, .int (nI room), .int (nI n2)], iA G h3 (3 * room) f2]) [0, 1, 2, 3] (by decide) rfl
  refine W.vret hx hb hr (fun t ht hW => ⟨⟨(va_cpy f2 f 0 0 (3 * room)), rfl, ?_, by rw [ht]; exact hP, hD⟩, hS.F ht⟩) hS.2.2 dX2_become_26
  rfl


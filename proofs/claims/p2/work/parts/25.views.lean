abbrev w_X4_markOf (G : XG) (kv km kg : Nat) (vw vh : Nat) (sl : Int32) (mk : Nat → Int32) : va_W := [oC kv 4 [.ref km, .ref kg, .int (nI vw), .int (nI vh), .int sl], iA G km 176 mk]
abbrev Q_X4_markOf (G : XG) (kv km kg : Nat) (vw vh : Nat) (sl : Int32) (mk : Nat → Int32) (c d : Nat) : Array Value → State → Outcome → State → Prop := (xRi (fun r => r = mk (d * 16 + c)))
set_option maxHeartbeats 4000000 in
set_option maxRecDepth 100000 in
theorem c_X4_markOf (l : Launch) (G : XG) (kv km kg : Nat) (vw vh : Nat) (sl : Int32) (mk : Nat → Int32) (c d : Nat) (hi : d * 16 + c < 176) : Met l yX4_markOf wsX4_markOf ({ frames := 0, cells := 0, slots := 0, locals := 0 } : Room) (va_Pc [.ref kv, .int (nI c), .int (nI d)] (xRp G (w_X4_markOf G kv km kg vw vh sl mk))) (Q_X4_markOf G kv km kg vw vh sl mk c d) 0 0 (fun _ => False) := by
  refine Met.ofW (cc := cX4_markOf) (maxL := 3) (ret := (some .int)) (by decide) rfl ?_
  intro pp ee ss mm aa below mt cd s₁ BB hml hv
  obtain ⟨rfl, hP, hK⟩ := hv
  have hx := BB.exec
  have hb := BB.bytes
  have hr := BB.returns
  have hts := atoms_spec (ws := wsX4_markOf) BB.pre
  have hown : ss.vm.findClass RX4 = some mm.cls := findClass_of_methodNamed BB.named
  have hlocks := BB.notSynchronized
  have hS : va_S (fun _ => False) ss.heap ss.heap [] := va_S.rf
  replace hP : xP G [oC kv 4 [.ref km, .ref kg, .int (nI vw), .int (nI vh), .int sl], iA G km 176 mk] ss.heap := hP
  have hin4 : ∀ w ∈ u_ws RX4 TX4 5, w ∈ wsX4_markOf := fun w h => List.mem_cons_of_mem _ (List.mem_append_right _ h)
  have hl := lv_entry ([.ref kv, .int (nI c), .int (nI d)]) (n := 3) (Nat.le_of_ble_eq_true rfl)
  rw [lg_entry_eq]
  generalize (lg_sl ([.ref kv, .int (nI c), .int (nI d)]) ++ List.replicate (3 - (lg_sl ([.ref kv, .int (nI c), .int (nI d)])).length) Slot.unset).toArray = ls at hl ⊢
  replace hl : lv_has ls 3 [(0, .ref kv), (1, .int (nI c)), (2, .int (nI d))] := hl
  refine lv_aload_n hx hb dX4_markOf_0 rfl (lv_at hl 0 rfl) ?_
  refine va_get (D := G.1) (ci := 4) (v := .ref km) (C := RX4) (T := TX4) (N := 5) hx hb hts hin4 hown hK.1 hP 0 rfl rfl 0 (by decide) (hts (.fieldLink RX4 9 "BackLenses$Views" "marks" "[I") (List.mem_of_getElem? (i := 1) rfl)) (fun _ h9 => h9) rfl dX4_markOf_1 ?_
  refine lv_iload_n hx hb dX4_markOf_4 rfl (lv_at hl 2 rfl) ?_
  refine lv_bipush (v := nI 16) hx hb dX4_markOf_5 (by decide) ?_
  refine xn_imul hx hb dX4_markOf_7 ?_
  refine lv_iload_n hx hb dX4_markOf_8 rfl (lv_at hl 1 rfl) ?_
  refine xn_iadd hx hb dX4_markOf_9 ?_
  refine xn_iald hx hb hK hP 1 rfl (by omega) (by omega) dX4_markOf_10 ?_
  refine W.iret (v := mk ((d * 16) + c)) hx hb hr (fun t ht hW => ⟨⟨mk ((d * 16) + c), (), rfl, ?_, trivial⟩, hS.F ht⟩) hS.2.2 dX4_markOf_11
  rfl

abbrev w_X4_sightOf (G : XG) (kv km kg : Nat) (vw vh : Nat) (sl : Int32) (sg : Nat → Int32) : va_W := [oC kv 4 [.ref km, .ref kg, .int (nI vw), .int (nI vh), .int sl], iA G kg 160 sg]
abbrev Q_X4_sightOf (G : XG) (kv km kg : Nat) (vw vh : Nat) (sl : Int32) (sg : Nat → Int32) (x d : Nat) : Array Value → State → Outcome → State → Prop := (xRi (fun r => r = sg (d * 16 + x)))
set_option maxHeartbeats 4000000 in
set_option maxRecDepth 100000 in
theorem c_X4_sightOf (l : Launch) (G : XG) (kv km kg : Nat) (vw vh : Nat) (sl : Int32) (sg : Nat → Int32) (x d : Nat) (hi : d * 16 + x < 160) : Met l yX4_sightOf wsX4_sightOf ({ frames := 0, cells := 0, slots := 0, locals := 0 } : Room) (va_Pc [.ref kv, .int (nI x), .int (nI d)] (xRp G (w_X4_sightOf G kv km kg vw vh sl sg))) (Q_X4_sightOf G kv km kg vw vh sl sg x d) 0 0 (fun _ => False) := by
  refine Met.ofW (cc := cX4_sightOf) (maxL := 3) (ret := (some .int)) (by decide) rfl ?_
  intro pp ee ss mm aa below mt cd s₁ BB hml hv
  obtain ⟨rfl, hP, hK⟩ := hv
  have hx := BB.exec
  have hb := BB.bytes
  have hr := BB.returns
  have hts := atoms_spec (ws := wsX4_sightOf) BB.pre
  have hown : ss.vm.findClass RX4 = some mm.cls := findClass_of_methodNamed BB.named
  have hlocks := BB.notSynchronized
  have hS : va_S (fun _ => False) ss.heap ss.heap [] := va_S.rf
  replace hP : xP G [oC kv 4 [.ref km, .ref kg, .int (nI vw), .int (nI vh), .int sl], iA G kg 160 sg] ss.heap := hP
  have hin4 : ∀ w ∈ u_ws RX4 TX4 5, w ∈ wsX4_sightOf := fun w h => List.mem_cons_of_mem _ (List.mem_append_right _ h)
  have hl := lv_entry ([.ref kv, .int (nI x), .int (nI d)]) (n := 3) (Nat.le_of_ble_eq_true rfl)
  rw [lg_entry_eq]
  generalize (lg_sl ([.ref kv, .int (nI x), .int (nI d)]) ++ List.replicate (3 - (lg_sl ([.ref kv, .int (nI x), .int (nI d)])).length) Slot.unset).toArray = ls at hl ⊢
  replace hl : lv_has ls 3 [(0, .ref kv), (1, .int (nI x)), (2, .int (nI d))] := hl
  refine lv_aload_n hx hb dX4_sightOf_0 rfl (lv_at hl 0 rfl) ?_
  refine va_get (D := G.1) (ci := 4) (v := .ref kg) (C := RX4) (T := TX4) (N := 5) hx hb hts hin4 hown hK.1 hP 0 rfl rfl 1 (by decide) (hts (.fieldLink RX4 15 "BackLenses$Views" "sights" "[I") (List.mem_of_getElem? (i := 1) rfl)) (fun _ h9 => h9) rfl dX4_sightOf_1 ?_
  refine lv_iload_n hx hb dX4_sightOf_4 rfl (lv_at hl 2 rfl) ?_
  refine lv_bipush (v := nI 16) hx hb dX4_sightOf_5 (by decide) ?_
  refine xn_imul hx hb dX4_sightOf_7 ?_
  refine lv_iload_n hx hb dX4_sightOf_8 rfl (lv_at hl 1 rfl) ?_
  refine xn_iadd hx hb dX4_sightOf_9 ?_
  refine xn_iald hx hb hK hP 1 rfl (by omega) (by omega) dX4_sightOf_10 ?_
  refine W.iret (v := sg ((d * 16) + x)) hx hb hr (fun t ht hW => ⟨⟨sg ((d * 16) + x), (), rfl, ?_, trivial⟩, hS.F ht⟩) hS.2.2 dX4_sightOf_11
  rfl

abbrev w_X4_unlike (G : XG) (kv km kg : Nat) (vw vh : Nat) (sl : Int32) (mk : Nat → Int32) : va_W := [oC kv 4 [.ref km, .ref kg, .int (nI vw), .int (nI vh), .int sl], iA G km 176 mk]
abbrev Q_X4_unlike (G : XG) (kv km kg : Nat) (vw vh : Nat) (sl : Int32) (mk : Nat → Int32) (d e : Nat) : Array Value → State → Outcome → State → Prop := (xRi (fun r => r = xbits (fun c => !decide (mk (d * 16 + c) = mk (e * 16 + c))) (vw * vh)))
set_option maxHeartbeats 4000000 in
set_option maxRecDepth 100000 in
theorem c_X4_unlike (l : Launch) (G : XG) (kv km kg : Nat) (vw vh : Nat) (sl : Int32) (mk : Nat → Int32) (d e : Nat) (hwh : vw * vh ≤ 16) (hd : d ≤ 10) (he : e ≤ 10) : Met l yX4_unlike wsX4_unlike ({ frames := 1, cells := 0, slots := 0, locals := 22 } : Room) (va_Pc [.ref kv, .int (nI d), .int (nI e)] (xRp G (w_X4_unlike G kv km kg vw vh sl mk))) (Q_X4_unlike G kv km kg vw vh sl mk d e) 0 0 (fun _ => False) := by
  refine Met.ofW (cc := cX4_unlike) (maxL := 5) (ret := (some .int)) (by decide) rfl ?_
  intro pp ee ss mm aa below mt cd s₁ BB hml hv
  obtain ⟨rfl, hP, hK⟩ := hv
  have hx := BB.exec
  have hb := BB.bytes
  have hr := BB.returns
  have hts := atoms_spec (ws := wsX4_unlike) BB.pre
  have hown : ss.vm.findClass RX4 = some mm.cls := findClass_of_methodNamed BB.named
  have hlocks := BB.notSynchronized
  have hS : va_S (fun _ => False) ss.heap ss.heap [] := va_S.rf
  replace hP : xP G [oC kv 4 [.ref km, .ref kg, .int (nI vw), .int (nI vh), .int sl], iA G km 176 mk] ss.heap := hP
  have hin4 : ∀ w ∈ u_ws RX4 TX4 5, w ∈ wsX4_unlike := fun w h => List.mem_cons_of_mem _ (List.mem_append_right _ h)
  have hl := lv_entry ([.ref kv, .int (nI d), .int (nI e)]) (n := 5) (Nat.le_of_ble_eq_true rfl)
  rw [lg_entry_eq]
  generalize (lg_sl ([.ref kv, .int (nI d), .int (nI e)]) ++ List.replicate (5 - (lg_sl ([.ref kv, .int (nI d), .int (nI e)])).length) Slot.unset).toArray = ls at hl ⊢
  replace hl : lv_has ls 5 [(0, .ref kv), (1, .int (nI d)), (2, .int (nI e))] := hl
  refine lv_iconst (v := nI 0) hx hb dX4_unlike_0 (by decide) ?_
  refine lv_istore_n (lv' := [(3, .int (nI 0)), (0, .ref kv), (1, .int (nI d)), (2, .int (nI e))]) hx hb dX4_unlike_1 rfl hl (by decide) rfl (fun ls hl => ?_)
  refine lv_iconst (v := nI 0) hx hb dX4_unlike_2 (by decide) ?_
  refine lv_istore (lv' := [(4, .int (nI 0)), (3, .int (nI 0)), (0, .ref kv), (1, .int (nI d)), (2, .int (nI e))]) hx hb dX4_unlike_3 hl (by decide) rfl (fun ls hl => ?_)
  have hL5 : ∀ k : Nat, ∀ (c : Nat) (bits : Int32) (ls : Array Slot) (H : Heap) (locs : List Loc), vw * vh - c = k → (c ≤ vw * vh) → (bits = xbits (fun c => !decide (mk (d * 16 + c) = mk (e * 16 + c))) c) → lv_has ls 5 [(0, .ref kv), (1, .int (nI d)), (2, .int (nI e)), (3, .int bits), (4, .int (nI c))] → xP G [iA G km 176 mk, oC kv 4 [.ref km, .ref kg, .int (nI vw), .int (nI vh), .int sl]] H → va_S (fun _ => False) ss.heap H locs → W pp l ee ({ frames := 1, cells := 0, slots := 0, locals := 22 } : Room) ss mm ([.ref kv, .int (nI d), .int (nI e)] : List Value).toArray below mt cd H locs 0 0 (MQ below (Q_X4_unlike G kv km kg vw vh sl mk d e) ([.ref kv, .int (nI d), .int (nI e)] : List Value).toArray ss 0 0 (fun _ => False)) (F0 mm 5 ls []) := by
    intro k
    induction k using Nat.strongRecOn with
    | _ k ih5 =>
    intro c bits ls H locs hm5 kc hbits hl hP hS
    refine lv_iload hx hb dX4_unlike_5 (lv_at hl 4 rfl) ?_
    refine lv_aload_n hx hb dX4_unlike_7 rfl (lv_at hl 0 rfl) ?_
    refine va_get (D := G.1) (ci := 4) (v := .int (nI vw)) (C := RX4) (T := TX4) (N := 5) hx hb hts hin4 hown hK.1 hP 1 rfl rfl 2 (by decide) (hts (.fieldLink RX4 28 "BackLenses$Views" "wide" "I") (List.mem_of_getElem? (i := 1) rfl)) (fun _ h9 => h9) rfl dX4_unlike_8 ?_
    refine lv_aload_n hx hb dX4_unlike_11 rfl (lv_at hl 0 rfl) ?_
    refine va_get (D := G.1) (ci := 4) (v := .int (nI vh)) (C := RX4) (T := TX4) (N := 5) hx hb hts hin4 hown hK.1 hP 1 rfl rfl 3 (by decide) (hts (.fieldLink RX4 32 "BackLenses$Views" "high" "I") (List.mem_of_getElem? (i := 2) rfl)) (fun _ h9 => h9) rfl dX4_unlike_12 ?_
    refine xn_imul hx hb dX4_unlike_15 ?_
    refine xn_icmp_ge (tgt := 49) hx hb (by omega) (by omega) dX4_unlike_16 rfl (fun b16 => ?_) (fun b16 => ?_)
    · skip
      refine lv_iload_n hx hb dX4_unlike_49 rfl (lv_at hl 3 rfl) ?_
      refine W.iret (v := bits) hx hb hr (fun t ht hW => ⟨⟨bits, (), rfl, ?_, trivial⟩, hS.F ht⟩) hS.2.2 dX4_unlike_50
      rw [hbits, show c = vw * vh by omega]
    · skip
      refine lv_aload_n hx hb dX4_unlike_19 rfl (lv_at hl 0 rfl) ?_
      refine lv_iload hx hb dX4_unlike_20 (lv_at hl 4 rfl) ?_
      refine lv_iload_n hx hb dX4_unlike_22 rfl (lv_at hl 1 rfl) ?_
      refine xr_i (As := [.int (nI c), .int (nI d)]) (rest := []) ⟨hx, hb, hml, hown, hts⟩ (c_X4_markOf l G kv km kg vw vh sl mk c d (by first | assumption | omega)) (cwV 2 hts gX4_unlike_X4_markOf rfl rfl rfl (by decide +kernel) ⟨Nat.le_of_ble_eq_true rfl, Nat.le_of_ble_eq_true rfl⟩) hK hP hS [1, 0] rfl rfl rfl rfl hl.1 rfl (Nat.le_of_ble_eq_true rfl) dX4_unlike_23 ⟨Nat.zero_le _, Nat.zero_le _⟩ (fun r23 H locs hp23 hP hS => ?_)
      obtain rfl : r23 = mk (d * 16 + c) := hp23
      refine lv_aload_n hx hb dX4_unlike_26 rfl (lv_at hl 0 rfl) ?_
      refine lv_iload hx hb dX4_unlike_27 (lv_at hl 4 rfl) ?_
      refine lv_iload_n hx hb dX4_unlike_29 rfl (lv_at hl 2 rfl) ?_
      refine xr_i (As := [.int (nI c), .int (nI e)]) (rest := [.int (mk (d * 16 + c))]) ⟨hx, hb, hml, hown, hts⟩ (c_X4_markOf l G kv km kg vw vh sl mk c e (by first | assumption | omega)) (cwV 2 hts gX4_unlike_X4_markOf rfl rfl rfl (by decide +kernel) ⟨Nat.le_of_ble_eq_true rfl, Nat.le_of_ble_eq_true rfl⟩) hK hP hS [1, 0] rfl rfl rfl rfl hl.1 rfl (Nat.le_of_ble_eq_true rfl) dX4_unlike_30 ⟨Nat.zero_le _, Nat.zero_le _⟩ (fun r30 H locs hp30 hP hS => ?_)
      obtain rfl : r30 = mk (e * 16 + c) := hp30
      refine lv_icmp_eq (tgt := 43) hx hb dX4_unlike_33 rfl (fun b33 => ?_) (fun b33 => ?_)
      · skip
        refine lv_iinc (k := 4) (v := nI (c + 1)) (lv' := [(4, .int (nI (c + 1))), (0, .ref kv), (1, .int (nI d)), (2, .int (nI e)), (3, .int bits)]) hx hb dX4_unlike_43 hl rfl (xn_inc c 1) (by decide) rfl (fun ls hl => ?_)
        refine lv_goto (tgt := 5) hx hb dX4_unlike_46 rfl ?_
        have hl := lv_sub hl (l' := [(0, .ref kv), (1, .int (nI d)), (2, .int (nI e)), (3, .int bits), (4, .int (nI (c + 1)))]) [1, 2, 3, 4, 0] rfl
        exact ih5 (vw * vh - (c + 1)) (by omega) (c + 1) bits ls H locs rfl (by omega) (by first | (rw [xbits_f (by simp [b33])]; exact hbits) | (rw [xbits_t (by simp [b33]), ← hbits])) hl hP hS
      · skip
        refine lv_iload_n hx hb dX4_unlike_36 rfl (lv_at hl 3 rfl) ?_
        refine lv_iconst (v := nI 1) hx hb dX4_unlike_37 (by decide) ?_
        refine lv_iload hx hb dX4_unlike_38 (lv_at hl 4 rfl) ?_
        refine lv_ishl hx hb dX4_unlike_40 ?_
        refine lv_ior hx hb dX4_unlike_41 ?_
        refine lv_istore_n (lv' := [(3, .int (bits ||| ((nI 1) <<< ((nI c) &&& 31)))), (0, .ref kv), (1, .int (nI d)), (2, .int (nI e)), (4, .int (nI c))]) hx hb dX4_unlike_42 rfl hl (by decide) rfl (fun ls hl => ?_)
        refine lv_iinc (k := 4) (v := nI (c + 1)) (lv' := [(4, .int (nI (c + 1))), (3, .int (bits ||| ((nI 1) <<< ((nI c) &&& 31)))), (0, .ref kv), (1, .int (nI d)), (2, .int (nI e))]) hx hb dX4_unlike_43 hl rfl (xn_inc c 1) (by decide) rfl (fun ls hl => ?_)
        refine lv_goto (tgt := 5) hx hb dX4_unlike_46 rfl ?_
        have hl := lv_sub hl (l' := [(0, .ref kv), (1, .int (nI d)), (2, .int (nI e)), (3, .int (bits ||| ((nI 1) <<< ((nI c) &&& 31)))), (4, .int (nI (c + 1)))]) [2, 3, 4, 1, 0] rfl
        exact ih5 (vw * vh - (c + 1)) (by omega) (c + 1) (bits ||| ((nI 1) <<< ((nI c) &&& 31))) ls H locs rfl (by omega) (by first | (rw [xbits_f (by simp [b33])]; exact hbits) | (rw [xbits_t (by simp [b33]), ← hbits])) hl hP hS
  have hl := lv_sub hl (l' := [(0, .ref kv), (1, .int (nI d)), (2, .int (nI e)), (3, .int (nI 0)), (4, .int (nI 0))]) [2, 3, 4, 1, 0] rfl
  have hP := hP.sub (ws' := [iA G km 176 mk, oC kv 4 [.ref km, .ref kg, .int (nI vw), .int (nI vh), .int sl]]) [1, 0] rfl
  exact hL5 (vw * vh - 0) 0 (nI 0) ls ss.heap [] rfl (by omega) (by rfl) hl hP hS

abbrev w_X4_cellsWith (G : XG) (kv km kg : Nat) (vw vh : Nat) (sl : Int32) (mk : Nat → Int32) : va_W := [oC kv 4 [.ref km, .ref kg, .int (nI vw), .int (nI vh), .int sl], iA G km 176 mk]
abbrev Q_X4_cellsWith (G : XG) (kv km kg : Nat) (vw vh : Nat) (sl : Int32) (mk : Nat → Int32) (m : Int32) (d : Nat) : Array Value → State → Outcome → State → Prop := (xRi (fun r => r = xbits (fun c => decide (mk (d * 16 + c) = m)) (vw * vh)))
set_option maxHeartbeats 4000000 in
set_option maxRecDepth 100000 in
theorem c_X4_cellsWith (l : Launch) (G : XG) (kv km kg : Nat) (vw vh : Nat) (sl : Int32) (mk : Nat → Int32) (m : Int32) (d : Nat) (hwh : vw * vh ≤ 16) (hd : d ≤ 10) : Met l yX4_cellsWith wsX4_cellsWith ({ frames := 1, cells := 0, slots := 0, locals := 22 } : Room) (va_Pc [.ref kv, .int m, .int (nI d)] (xRp G (w_X4_cellsWith G kv km kg vw vh sl mk))) (Q_X4_cellsWith G kv km kg vw vh sl mk m d) 0 0 (fun _ => False) := by
  refine Met.ofW (cc := cX4_cellsWith) (maxL := 5) (ret := (some .int)) (by decide) rfl ?_
  intro pp ee ss mm aa below mt cd s₁ BB hml hv
  obtain ⟨rfl, hP, hK⟩ := hv
  have hx := BB.exec
  have hb := BB.bytes
  have hr := BB.returns
  have hts := atoms_spec (ws := wsX4_cellsWith) BB.pre
  have hown : ss.vm.findClass RX4 = some mm.cls := findClass_of_methodNamed BB.named
  have hlocks := BB.notSynchronized
  have hS : va_S (fun _ => False) ss.heap ss.heap [] := va_S.rf
  replace hP : xP G [oC kv 4 [.ref km, .ref kg, .int (nI vw), .int (nI vh), .int sl], iA G km 176 mk] ss.heap := hP
  have hin4 : ∀ w ∈ u_ws RX4 TX4 5, w ∈ wsX4_cellsWith := fun w h => List.mem_cons_of_mem _ (List.mem_append_right _ h)
  have hl := lv_entry ([.ref kv, .int m, .int (nI d)]) (n := 5) (Nat.le_of_ble_eq_true rfl)
  rw [lg_entry_eq]
  generalize (lg_sl ([.ref kv, .int m, .int (nI d)]) ++ List.replicate (5 - (lg_sl ([.ref kv, .int m, .int (nI d)])).length) Slot.unset).toArray = ls at hl ⊢
  replace hl : lv_has ls 5 [(0, .ref kv), (1, .int m), (2, .int (nI d))] := hl
  refine lv_iconst (v := nI 0) hx hb dX4_cellsWith_0 (by decide) ?_
  refine lv_istore_n (lv' := [(3, .int (nI 0)), (0, .ref kv), (1, .int m), (2, .int (nI d))]) hx hb dX4_cellsWith_1 rfl hl (by decide) rfl (fun ls hl => ?_)
  refine lv_iconst (v := nI 0) hx hb dX4_cellsWith_2 (by decide) ?_
  refine lv_istore (lv' := [(4, .int (nI 0)), (3, .int (nI 0)), (0, .ref kv), (1, .int m), (2, .int (nI d))]) hx hb dX4_cellsWith_3 hl (by decide) rfl (fun ls hl => ?_)
  have hL5 : ∀ k : Nat, ∀ (c : Nat) (bits : Int32) (ls : Array Slot) (H : Heap) (locs : List Loc), vw * vh - c = k → (c ≤ vw * vh) → (bits = xbits (fun c => decide (mk (d * 16 + c) = m)) c) → lv_has ls 5 [(0, .ref kv), (1, .int m), (2, .int (nI d)), (3, .int bits), (4, .int (nI c))] → xP G [iA G km 176 mk, oC kv 4 [.ref km, .ref kg, .int (nI vw), .int (nI vh), .int sl]] H → va_S (fun _ => False) ss.heap H locs → W pp l ee ({ frames := 1, cells := 0, slots := 0, locals := 22 } : Room) ss mm ([.ref kv, .int m, .int (nI d)] : List Value).toArray below mt cd H locs 0 0 (MQ below (Q_X4_cellsWith G kv km kg vw vh sl mk m d) ([.ref kv, .int m, .int (nI d)] : List Value).toArray ss 0 0 (fun _ => False)) (F0 mm 5 ls []) := by
    intro k
    induction k using Nat.strongRecOn with
    | _ k ih5 =>
    intro c bits ls H locs hm5 kc hbits hl hP hS
    refine lv_iload hx hb dX4_cellsWith_5 (lv_at hl 4 rfl) ?_
    refine lv_aload_n hx hb dX4_cellsWith_7 rfl (lv_at hl 0 rfl) ?_
    refine va_get (D := G.1) (ci := 4) (v := .int (nI vw)) (C := RX4) (T := TX4) (N := 5) hx hb hts hin4 hown hK.1 hP 1 rfl rfl 2 (by decide) (hts (.fieldLink RX4 28 "BackLenses$Views" "wide" "I") (List.mem_of_getElem? (i := 1) rfl)) (fun _ h9 => h9) rfl dX4_cellsWith_8 ?_
    refine lv_aload_n hx hb dX4_cellsWith_11 rfl (lv_at hl 0 rfl) ?_
    refine va_get (D := G.1) (ci := 4) (v := .int (nI vh)) (C := RX4) (T := TX4) (N := 5) hx hb hts hin4 hown hK.1 hP 1 rfl rfl 3 (by decide) (hts (.fieldLink RX4 32 "BackLenses$Views" "high" "I") (List.mem_of_getElem? (i := 2) rfl)) (fun _ h9 => h9) rfl dX4_cellsWith_12 ?_
    refine xn_imul hx hb dX4_cellsWith_15 ?_
    refine xn_icmp_ge (tgt := 43) hx hb (by omega) (by omega) dX4_cellsWith_16 rfl (fun b16 => ?_) (fun b16 => ?_)
    · skip
      refine lv_iload_n hx hb dX4_cellsWith_43 rfl (lv_at hl 3 rfl) ?_
      refine W.iret (v := bits) hx hb hr (fun t ht hW => ⟨⟨bits, (), rfl, ?_, trivial⟩, hS.F ht⟩) hS.2.2 dX4_cellsWith_44
      rw [hbits, show c = vw * vh by omega]
    · skip
      refine lv_aload_n hx hb dX4_cellsWith_19 rfl (lv_at hl 0 rfl) ?_
      refine lv_iload hx hb dX4_cellsWith_20 (lv_at hl 4 rfl) ?_
      refine lv_iload_n hx hb dX4_cellsWith_22 rfl (lv_at hl 2 rfl) ?_
      refine xr_i (As := [.int (nI c), .int (nI d)]) (rest := []) ⟨hx, hb, hml, hown, hts⟩ (c_X4_markOf l G kv km kg vw vh sl mk c d (by first | assumption | omega)) (cwV 2 hts gX4_cellsWith_X4_markOf rfl rfl rfl (by decide +kernel) ⟨Nat.le_of_ble_eq_true rfl, Nat.le_of_ble_eq_true rfl⟩) hK hP hS [1, 0] rfl rfl rfl rfl hl.1 rfl (Nat.le_of_ble_eq_true rfl) dX4_cellsWith_23 ⟨Nat.zero_le _, Nat.zero_le _⟩ (fun r23 H locs hp23 hP hS => ?_)
      obtain rfl : r23 = mk (d * 16 + c) := hp23
      refine lv_iload_n hx hb dX4_cellsWith_26 rfl (lv_at hl 1 rfl) ?_
      refine lv_icmp_ne (tgt := 37) hx hb dX4_cellsWith_27 rfl (fun b27 => ?_) (fun b27 => ?_)
      · skip
        refine lv_iinc (k := 4) (v := nI (c + 1)) (lv' := [(4, .int (nI (c + 1))), (0, .ref kv), (1, .int m), (2, .int (nI d)), (3, .int bits)]) hx hb dX4_cellsWith_37 hl rfl (xn_inc c 1) (by decide) rfl (fun ls hl => ?_)
        refine lv_goto (tgt := 5) hx hb dX4_cellsWith_40 rfl ?_
        have hl := lv_sub hl (l' := [(0, .ref kv), (1, .int m), (2, .int (nI d)), (3, .int bits), (4, .int (nI (c + 1)))]) [1, 2, 3, 4, 0] rfl
        exact ih5 (vw * vh - (c + 1)) (by omega) (c + 1) bits ls H locs rfl (by omega) (by first | (rw [xbits_f (by simp [b27])]; exact hbits) | (rw [xbits_t (by simp [b27]), ← hbits])) hl hP hS
      · skip
        refine lv_iload_n hx hb dX4_cellsWith_30 rfl (lv_at hl 3 rfl) ?_
        refine lv_iconst (v := nI 1) hx hb dX4_cellsWith_31 (by decide) ?_
        refine lv_iload hx hb dX4_cellsWith_32 (lv_at hl 4 rfl) ?_
        refine lv_ishl hx hb dX4_cellsWith_34 ?_
        refine lv_ior hx hb dX4_cellsWith_35 ?_
        refine lv_istore_n (lv' := [(3, .int (bits ||| ((nI 1) <<< ((nI c) &&& 31)))), (0, .ref kv), (1, .int m), (2, .int (nI d)), (4, .int (nI c))]) hx hb dX4_cellsWith_36 rfl hl (by decide) rfl (fun ls hl => ?_)
        refine lv_iinc (k := 4) (v := nI (c + 1)) (lv' := [(4, .int (nI (c + 1))), (3, .int (bits ||| ((nI 1) <<< ((nI c) &&& 31)))), (0, .ref kv), (1, .int m), (2, .int (nI d))]) hx hb dX4_cellsWith_37 hl rfl (xn_inc c 1) (by decide) rfl (fun ls hl => ?_)
        refine lv_goto (tgt := 5) hx hb dX4_cellsWith_40 rfl ?_
        have hl := lv_sub hl (l' := [(0, .ref kv), (1, .int m), (2, .int (nI d)), (3, .int (bits ||| ((nI 1) <<< ((nI c) &&& 31)))), (4, .int (nI (c + 1)))]) [2, 3, 4, 1, 0] rfl
        exact ih5 (vw * vh - (c + 1)) (by omega) (c + 1) (bits ||| ((nI 1) <<< ((nI c) &&& 31))) ls H locs rfl (by omega) (by first | (rw [xbits_f (by simp [b27])]; exact hbits) | (rw [xbits_t (by simp [b27]), ← hbits])) hl hP hS
  have hl := lv_sub hl (l' := [(0, .ref kv), (1, .int m), (2, .int (nI d)), (3, .int (nI 0)), (4, .int (nI 0))]) [2, 3, 4, 1, 0] rfl
  have hP := hP.sub (ws' := [iA G km 176 mk, oC kv 4 [.ref km, .ref kg, .int (nI vw), .int (nI vh), .int sl]]) [1, 0] rfl
  exact hL5 (vw * vh - 0) 0 (nI 0) ls ss.heap [] rfl (by omega) (by rfl) hl hP hS

abbrev w_X4_tellingApart (G : XG) (kv km kg : Nat) (vw vh : Nat) (sl : Int32) (mk : Nat → Int32) (sg : Nat → Int32) : va_W := [oC kv 4 [.ref km, .ref kg, .int (nI vw), .int (nI vh), .int sl], iA G km 176 mk, iA G kg 160 sg]
abbrev Q_X4_tellingApart (G : XG) (kv km kg : Nat) (vw vh : Nat) (sl : Int32) (mk : Nat → Int32) (sg : Nat → Int32) (d e n : Nat) : Array Value → State → Outcome → State → Prop := (xRi (fun r => r = xbits (fun x => !decide (sg (d * 16 + x) = sg (e * 16 + x)) || !decide (sg (d * 16 + x) &&& xbits (fun c => !decide (mk (d * 16 + c) = mk (e * 16 + c))) (vw * vh) = 0)) n))
set_option maxHeartbeats 4000000 in
set_option maxRecDepth 100000 in
theorem c_X4_tellingApart (l : Launch) (G : XG) (kv km kg : Nat) (vw vh : Nat) (sl : Int32) (mk : Nat → Int32) (sg : Nat → Int32) (d e n : Nat) (hwh : vw * vh ≤ 16) (hd : d ≤ 9) (he : e ≤ 9) (hn : n ≤ 16) : Met l yX4_tellingApart wsX4_tellingApart ({ frames := 2, cells := 0, slots := 0, locals := 46 } : Room) (va_Pc [.ref kv, .int (nI d), .int (nI e), .int (nI n)] (xRp G (w_X4_tellingApart G kv km kg vw vh sl mk sg))) (Q_X4_tellingApart G kv km kg vw vh sl mk sg d e n) 0 0 (fun _ => False) := by
  refine Met.ofW (cc := cX4_tellingApart) (maxL := 7) (ret := (some .int)) (by decide) rfl ?_
  intro pp ee ss mm aa below mt cd s₁ BB hml hv
  obtain ⟨rfl, hP, hK⟩ := hv
  have hx := BB.exec
  have hb := BB.bytes
  have hr := BB.returns
  have hts := atoms_spec (ws := wsX4_tellingApart) BB.pre
  have hown : ss.vm.findClass RX4 = some mm.cls := findClass_of_methodNamed BB.named
  have hlocks := BB.notSynchronized
  have hS : va_S (fun _ => False) ss.heap ss.heap [] := va_S.rf
  replace hP : xP G [oC kv 4 [.ref km, .ref kg, .int (nI vw), .int (nI vh), .int sl], iA G km 176 mk, iA G kg 160 sg] ss.heap := hP
  have hin4 : ∀ w ∈ u_ws RX4 TX4 5, w ∈ wsX4_tellingApart := fun w h => List.mem_cons_of_mem _ (List.mem_append_right _ h)
  have hl := lv_entry ([.ref kv, .int (nI d), .int (nI e), .int (nI n)]) (n := 7) (Nat.le_of_ble_eq_true rfl)
  rw [lg_entry_eq]
  generalize (lg_sl ([.ref kv, .int (nI d), .int (nI e), .int (nI n)]) ++ List.replicate (7 - (lg_sl ([.ref kv, .int (nI d), .int (nI e), .int (nI n)])).length) Slot.unset).toArray = ls at hl ⊢
  replace hl : lv_has ls 7 [(0, .ref kv), (1, .int (nI d)), (2, .int (nI e)), (3, .int (nI n))] := hl
  refine lv_aload_n hx hb dX4_tellingApart_0 rfl (lv_at hl 0 rfl) ?_
  refine lv_iload_n hx hb dX4_tellingApart_1 rfl (lv_at hl 1 rfl) ?_
  refine lv_iload_n hx hb dX4_tellingApart_2 rfl (lv_at hl 2 rfl) ?_
  refine xr_i (As := [.int (nI d), .int (nI e)]) (rest := []) ⟨hx, hb, hml, hown, hts⟩ (c_X4_unlike l G kv km kg vw vh sl mk d e (by first | assumption | omega) (by first | assumption | omega) (by first | assumption | omega)) (cwV 2 hts gX4_tellingApart_X4_unlike rfl rfl rfl (by decide +kernel) ⟨Nat.le_of_ble_eq_true rfl, Nat.le_of_ble_eq_true rfl⟩) hK hP hS [0, 1] rfl rfl rfl rfl hl.1 rfl (Nat.le_of_ble_eq_true rfl) dX4_tellingApart_3 ⟨Nat.zero_le _, Nat.zero_le _⟩ (fun r3 H locs hp3 hP hS => ?_)
  obtain rfl : r3 = xbits (fun c => !decide (mk (d * 16 + c) = mk (e * 16 + c))) (vw * vh) := hp3
  refine lv_istore (lv' := [(4, .int (xbits (fun c => !decide (mk (d * 16 + c) = mk (e * 16 + c))) (vw * vh))), (0, .ref kv), (1, .int (nI d)), (2, .int (nI e)), (3, .int (nI n))]) hx hb dX4_tellingApart_6 hl (by decide) rfl (fun ls hl => ?_)
  refine lv_iconst (v := nI 0) hx hb dX4_tellingApart_8 (by decide) ?_
  refine lv_istore (lv' := [(5, .int (nI 0)), (4, .int (xbits (fun c => !decide (mk (d * 16 + c) = mk (e * 16 + c))) (vw * vh))), (0, .ref kv), (1, .int (nI d)), (2, .int (nI e)), (3, .int (nI n))]) hx hb dX4_tellingApart_9 hl (by decide) rfl (fun ls hl => ?_)
  refine lv_iconst (v := nI 0) hx hb dX4_tellingApart_11 (by decide) ?_
  refine lv_istore (lv' := [(6, .int (nI 0)), (5, .int (nI 0)), (4, .int (xbits (fun c => !decide (mk (d * 16 + c) = mk (e * 16 + c))) (vw * vh))), (0, .ref kv), (1, .int (nI d)), (2, .int (nI e)), (3, .int (nI n))]) hx hb dX4_tellingApart_12 hl (by decide) rfl (fun ls hl => ?_)
  have hL14 : ∀ k : Nat, ∀ (c : Nat) (bits : Int32) (ls : Array Slot) (H : Heap) (locs : List Loc), n - c = k → (c ≤ n) → (bits = xbits (fun x => !decide (sg (d * 16 + x) = sg (e * 16 + x)) || !decide (sg (d * 16 + x) &&& xbits (fun c => !decide (mk (d * 16 + c) = mk (e * 16 + c))) (vw * vh) = 0)) c) → lv_has ls 7 [(0, .ref kv), (1, .int (nI d)), (2, .int (nI e)), (3, .int (nI n)), (4, .int (xbits (fun c => !decide (mk (d * 16 + c) = mk (e * 16 + c))) (vw * vh))), (5, .int bits), (6, .int (nI c))] → xP G [iA G kg 160 sg, iA G km 176 mk, oC kv 4 [.ref km, .ref kg, .int (nI vw), .int (nI vh), .int sl]] H → va_S (fun _ => False) ss.heap H locs → W pp l ee ({ frames := 2, cells := 0, slots := 0, locals := 46 } : Room) ss mm ([.ref kv, .int (nI d), .int (nI e), .int (nI n)] : List Value).toArray below mt cd H locs 0 0 (MQ below (Q_X4_tellingApart G kv km kg vw vh sl mk sg d e n) ([.ref kv, .int (nI d), .int (nI e), .int (nI n)] : List Value).toArray ss 0 0 (fun _ => False)) (F0 mm 14 ls []) := by
    intro k
    induction k using Nat.strongRecOn with
    | _ k ih14 =>
    intro c bits ls H locs hm14 kc hbits hl hP hS
    refine lv_iload hx hb dX4_tellingApart_14 (lv_at hl 6 rfl) ?_
    refine lv_iload_n hx hb dX4_tellingApart_16 rfl (lv_at hl 3 rfl) ?_
    refine xn_icmp_ge (tgt := 65) hx hb (by omega) (by omega) dX4_tellingApart_17 rfl (fun b17 => ?_) (fun b17 => ?_)
    · skip
      refine lv_iload hx hb dX4_tellingApart_65 (lv_at hl 5 rfl) ?_
      refine W.iret (v := bits) hx hb hr (fun t ht hW => ⟨⟨bits, (), rfl, ?_, trivial⟩, hS.F ht⟩) hS.2.2 dX4_tellingApart_67
      rw [hbits, show c = n by omega]
    · skip
      refine lv_aload_n hx hb dX4_tellingApart_20 rfl (lv_at hl 0 rfl) ?_
      refine lv_iload hx hb dX4_tellingApart_21 (lv_at hl 6 rfl) ?_
      refine lv_iload_n hx hb dX4_tellingApart_23 rfl (lv_at hl 1 rfl) ?_
      refine xr_i (As := [.int (nI c), .int (nI d)]) (rest := []) ⟨hx, hb, hml, hown, hts⟩ (c_X4_sightOf l G kv km kg vw vh sl sg c d (by first | assumption | omega)) (cwV 2 hts gX4_tellingApart_X4_sightOf rfl rfl rfl (by decide +kernel) ⟨Nat.le_of_ble_eq_true rfl, Nat.le_of_ble_eq_true rfl⟩) hK hP hS [2, 0] rfl rfl rfl rfl hl.1 rfl (Nat.le_of_ble_eq_true rfl) dX4_tellingApart_24 ⟨Nat.zero_le _, Nat.zero_le _⟩ (fun r24 H locs hp24 hP hS => ?_)
      obtain rfl : r24 = sg (d * 16 + c) := hp24
      refine lv_aload_n hx hb dX4_tellingApart_27 rfl (lv_at hl 0 rfl) ?_
      refine lv_iload hx hb dX4_tellingApart_28 (lv_at hl 6 rfl) ?_
      refine lv_iload_n hx hb dX4_tellingApart_30 rfl (lv_at hl 2 rfl) ?_
      refine xr_i (As := [.int (nI c), .int (nI e)]) (rest := [.int (sg (d * 16 + c))]) ⟨hx, hb, hml, hown, hts⟩ (c_X4_sightOf l G kv km kg vw vh sl sg c e (by first | assumption | omega)) (cwV 2 hts gX4_tellingApart_X4_sightOf rfl rfl rfl (by decide +kernel) ⟨Nat.le_of_ble_eq_true rfl, Nat.le_of_ble_eq_true rfl⟩) hK hP hS [2, 0] rfl rfl rfl rfl hl.1 rfl (Nat.le_of_ble_eq_true rfl) dX4_tellingApart_31 ⟨Nat.zero_le _, Nat.zero_le _⟩ (fun r31 H locs hp31 hP hS => ?_)
      obtain rfl : r31 = sg (e * 16 + c) := hp31
      refine lv_icmp_ne (tgt := 50) hx hb dX4_tellingApart_34 rfl (fun b34 => ?_) (fun b34 => ?_)
      · skip
        refine lv_iload hx hb dX4_tellingApart_50 (lv_at hl 5 rfl) ?_
        refine lv_iconst (v := nI 1) hx hb dX4_tellingApart_52 (by decide) ?_
        refine lv_iload hx hb dX4_tellingApart_53 (lv_at hl 6 rfl) ?_
        refine lv_ishl hx hb dX4_tellingApart_55 ?_
        refine lv_ior hx hb dX4_tellingApart_56 ?_
        refine lv_istore (lv' := [(5, .int (bits ||| ((nI 1) <<< ((nI c) &&& 31)))), (0, .ref kv), (1, .int (nI d)), (2, .int (nI e)), (3, .int (nI n)), (4, .int (xbits (fun c => !decide (mk (d * 16 + c) = mk (e * 16 + c))) (vw * vh))), (6, .int (nI c))]) hx hb dX4_tellingApart_57 hl (by decide) rfl (fun ls hl => ?_)
        refine lv_iinc (k := 6) (v := nI (c + 1)) (lv' := [(6, .int (nI (c + 1))), (5, .int (bits ||| ((nI 1) <<< ((nI c) &&& 31)))), (0, .ref kv), (1, .int (nI d)), (2, .int (nI e)), (3, .int (nI n)), (4, .int (xbits (fun c => !decide (mk (d * 16 + c) = mk (e * 16 + c))) (vw * vh)))]) hx hb dX4_tellingApart_59 hl rfl (xn_inc c 1) (by decide) rfl (fun ls hl => ?_)
        refine lv_goto (tgt := 14) hx hb dX4_tellingApart_62 rfl ?_
        have hl := lv_sub hl (l' := [(0, .ref kv), (1, .int (nI d)), (2, .int (nI e)), (3, .int (nI n)), (4, .int (xbits (fun c => !decide (mk (d * 16 + c) = mk (e * 16 + c))) (vw * vh))), (5, .int (bits ||| ((nI 1) <<< ((nI c) &&& 31)))), (6, .int (nI (c + 1)))]) [2, 3, 4, 5, 6, 1, 0] rfl
        exact ih14 (n - (c + 1)) (by omega) (c + 1) (bits ||| ((nI 1) <<< ((nI c) &&& 31))) ls H locs rfl (by omega) (by first | (rw [xbits_f (by simp only [decide_eq_true b34, decide_eq_true b47]; decide)]; exact hbits) | (rw [xbits_t (by simp only [decide_eq_false b47]; simp), ← hbits]) | (rw [xbits_t (by simp only [decide_eq_false b34]; simp), ← hbits])) hl hP hS
      · skip
        refine lv_aload_n hx hb dX4_tellingApart_37 rfl (lv_at hl 0 rfl) ?_
        refine lv_iload hx hb dX4_tellingApart_38 (lv_at hl 6 rfl) ?_
        refine lv_iload_n hx hb dX4_tellingApart_40 rfl (lv_at hl 1 rfl) ?_
        refine xr_i (As := [.int (nI c), .int (nI d)]) (rest := []) ⟨hx, hb, hml, hown, hts⟩ (c_X4_sightOf l G kv km kg vw vh sl sg c d (by first | assumption | omega)) (cwV 2 hts gX4_tellingApart_X4_sightOf rfl rfl rfl (by decide +kernel) ⟨Nat.le_of_ble_eq_true rfl, Nat.le_of_ble_eq_true rfl⟩) hK hP hS [2, 0] rfl rfl rfl rfl hl.1 rfl (Nat.le_of_ble_eq_true rfl) dX4_tellingApart_41 ⟨Nat.zero_le _, Nat.zero_le _⟩ (fun r41 H locs hp41 hP hS => ?_)
        obtain rfl : r41 = sg (d * 16 + c) := hp41
        refine lv_iload hx hb dX4_tellingApart_44 (lv_at hl 4 rfl) ?_
        refine lv_iand hx hb dX4_tellingApart_46 ?_
        refine lv_if_eq (tgt := 59) hx hb dX4_tellingApart_47 rfl (fun b47 => ?_) (fun b47 => ?_)
        · skip
          refine lv_iinc (k := 6) (v := nI (c + 1)) (lv' := [(6, .int (nI (c + 1))), (0, .ref kv), (1, .int (nI d)), (2, .int (nI e)), (3, .int (nI n)), (4, .int (xbits (fun c => !decide (mk (d * 16 + c) = mk (e * 16 + c))) (vw * vh))), (5, .int bits)]) hx hb dX4_tellingApart_59 hl rfl (xn_inc c 1) (by decide) rfl (fun ls hl => ?_)
          refine lv_goto (tgt := 14) hx hb dX4_tellingApart_62 rfl ?_
          have hl := lv_sub hl (l' := [(0, .ref kv), (1, .int (nI d)), (2, .int (nI e)), (3, .int (nI n)), (4, .int (xbits (fun c => !decide (mk (d * 16 + c) = mk (e * 16 + c))) (vw * vh))), (5, .int bits), (6, .int (nI (c + 1)))]) [1, 2, 3, 4, 5, 6, 0] rfl
          exact ih14 (n - (c + 1)) (by omega) (c + 1) bits ls H locs rfl (by omega) (by first | (rw [xbits_f (by simp only [decide_eq_true b34, decide_eq_true b47]; decide)]; exact hbits) | (rw [xbits_t (by simp only [decide_eq_false b47]; simp), ← hbits]) | (rw [xbits_t (by simp only [decide_eq_false b34]; simp), ← hbits])) hl hP hS
        · skip
          refine lv_iload hx hb dX4_tellingApart_50 (lv_at hl 5 rfl) ?_
          refine lv_iconst (v := nI 1) hx hb dX4_tellingApart_52 (by decide) ?_
          refine lv_iload hx hb dX4_tellingApart_53 (lv_at hl 6 rfl) ?_
          refine lv_ishl hx hb dX4_tellingApart_55 ?_
          refine lv_ior hx hb dX4_tellingApart_56 ?_
          refine lv_istore (lv' := [(5, .int (bits ||| ((nI 1) <<< ((nI c) &&& 31)))), (0, .ref kv), (1, .int (nI d)), (2, .int (nI e)), (3, .int (nI n)), (4, .int (xbits (fun c => !decide (mk (d * 16 + c) = mk (e * 16 + c))) (vw * vh))), (6, .int (nI c))]) hx hb dX4_tellingApart_57 hl (by decide) rfl (fun ls hl => ?_)
          refine lv_iinc (k := 6) (v := nI (c + 1)) (lv' := [(6, .int (nI (c + 1))), (5, .int (bits ||| ((nI 1) <<< ((nI c) &&& 31)))), (0, .ref kv), (1, .int (nI d)), (2, .int (nI e)), (3, .int (nI n)), (4, .int (xbits (fun c => !decide (mk (d * 16 + c) = mk (e * 16 + c))) (vw * vh)))]) hx hb dX4_tellingApart_59 hl rfl (xn_inc c 1) (by decide) rfl (fun ls hl => ?_)
          refine lv_goto (tgt := 14) hx hb dX4_tellingApart_62 rfl ?_
          have hl := lv_sub hl (l' := [(0, .ref kv), (1, .int (nI d)), (2, .int (nI e)), (3, .int (nI n)), (4, .int (xbits (fun c => !decide (mk (d * 16 + c) = mk (e * 16 + c))) (vw * vh))), (5, .int (bits ||| ((nI 1) <<< ((nI c) &&& 31)))), (6, .int (nI (c + 1)))]) [2, 3, 4, 5, 6, 1, 0] rfl
          exact ih14 (n - (c + 1)) (by omega) (c + 1) (bits ||| ((nI 1) <<< ((nI c) &&& 31))) ls H locs rfl (by omega) (by first | (rw [xbits_f (by simp only [decide_eq_true b34, decide_eq_true b47]; decide)]; exact hbits) | (rw [xbits_t (by simp only [decide_eq_false b47]; simp), ← hbits]) | (rw [xbits_t (by simp only [decide_eq_false b34]; simp), ← hbits])) hl hP hS
  have hl := lv_sub hl (l' := [(0, .ref kv), (1, .int (nI d)), (2, .int (nI e)), (3, .int (nI n)), (4, .int (xbits (fun c => !decide (mk (d * 16 + c) = mk (e * 16 + c))) (vw * vh))), (5, .int (nI 0)), (6, .int (nI 0))]) [3, 4, 5, 6, 2, 1, 0] rfl
  have hP := hP.sub (ws' := [iA G kg 160 sg, iA G km 176 mk, oC kv 4 [.ref km, .ref kg, .int (nI vw), .int (nI vh), .int sl]]) [2, 1, 0] rfl
  exact hL14 (n - 0) 0 (nI 0) ls H locs rfl (by omega) (by rfl) hl hP hS

abbrev w_X4_answerOf (G : XG) (kv km kg : Nat) (vw vh : Nat) (sl : Int32) (mk : Nat → Int32) (sg : Nat → Int32) : va_W := [oC kv 4 [.ref km, .ref kg, .int (nI vw), .int (nI vh), .int sl], iA G km 176 mk, iA G kg 160 sg]
abbrev Q_X4_answerOf (G : XG) (kv km kg : Nat) (vw vh : Nat) (sl : Int32) (mk : Nat → Int32) (sg : Nat → Int32) (x c d : Nat) : Array Value → State → Outcome → State → Prop := (xRi (fun r => r = (if (sg (d * 16 + x) >>> (nI c &&& 31)) &&& nI 1 = 0 then (-4) else mk (d * 16 + c))))
set_option maxHeartbeats 4000000 in
set_option maxRecDepth 100000 in
theorem c_X4_answerOf (l : Launch) (G : XG) (kv km kg : Nat) (vw vh : Nat) (sl : Int32) (mk : Nat → Int32) (sg : Nat → Int32) (x c d : Nat) (hd : d ≤ 9) (kx : x < 16) (kc : c < 16) : Met l yX4_answerOf wsX4_answerOf ({ frames := 1, cells := 0, slots := 0, locals := 22 } : Room) (va_Pc [.ref kv, .int (nI x), .int (nI c), .int (nI d)] (xRp G (w_X4_answerOf G kv km kg vw vh sl mk sg))) (Q_X4_answerOf G kv km kg vw vh sl mk sg x c d) 0 0 (fun _ => False) := by
  refine Met.ofW (cc := cX4_answerOf) (maxL := 4) (ret := (some .int)) (by decide) rfl ?_
  intro pp ee ss mm aa below mt cd s₁ BB hml hv
  obtain ⟨rfl, hP, hK⟩ := hv
  have hx := BB.exec
  have hb := BB.bytes
  have hr := BB.returns
  have hts := atoms_spec (ws := wsX4_answerOf) BB.pre
  have hown : ss.vm.findClass RX4 = some mm.cls := findClass_of_methodNamed BB.named
  have hlocks := BB.notSynchronized
  have hS : va_S (fun _ => False) ss.heap ss.heap [] := va_S.rf
  replace hP : xP G [oC kv 4 [.ref km, .ref kg, .int (nI vw), .int (nI vh), .int sl], iA G km 176 mk, iA G kg 160 sg] ss.heap := hP
  have hin4 : ∀ w ∈ u_ws RX4 TX4 5, w ∈ wsX4_answerOf := fun w h => List.mem_cons_of_mem _ (List.mem_append_right _ h)
  have hl := lv_entry ([.ref kv, .int (nI x), .int (nI c), .int (nI d)]) (n := 4) (Nat.le_of_ble_eq_true rfl)
  rw [lg_entry_eq]
  generalize (lg_sl ([.ref kv, .int (nI x), .int (nI c), .int (nI d)]) ++ List.replicate (4 - (lg_sl ([.ref kv, .int (nI x), .int (nI c), .int (nI d)])).length) Slot.unset).toArray = ls at hl ⊢
  replace hl : lv_has ls 4 [(0, .ref kv), (1, .int (nI x)), (2, .int (nI c)), (3, .int (nI d))] := hl
  refine lv_aload_n hx hb dX4_answerOf_0 rfl (lv_at hl 0 rfl) ?_
  refine lv_iload_n hx hb dX4_answerOf_1 rfl (lv_at hl 1 rfl) ?_
  refine lv_iload_n hx hb dX4_answerOf_2 rfl (lv_at hl 3 rfl) ?_
  refine xr_i (As := [.int (nI x), .int (nI d)]) (rest := []) ⟨hx, hb, hml, hown, hts⟩ (c_X4_sightOf l G kv km kg vw vh sl sg x d (by first | assumption | omega)) (cwV 2 hts gX4_answerOf_X4_sightOf rfl rfl rfl (by decide +kernel) ⟨Nat.le_of_ble_eq_true rfl, Nat.le_of_ble_eq_true rfl⟩) hK hP hS [0, 2] rfl rfl rfl rfl hl.1 rfl (Nat.le_of_ble_eq_true rfl) dX4_answerOf_3 ⟨Nat.zero_le _, Nat.zero_le _⟩ (fun r3 H locs hp3 hP hS => ?_)
  obtain rfl : r3 = sg (d * 16 + x) := hp3
  refine lv_iload_n hx hb dX4_answerOf_6 rfl (lv_at hl 2 rfl) ?_
  refine lv_ishr hx hb dX4_answerOf_7 ?_
  refine lv_iconst (v := nI 1) hx hb dX4_answerOf_8 (by decide) ?_
  refine lv_iand hx hb dX4_answerOf_9 ?_
  refine lv_if_eq (tgt := 22) hx hb dX4_answerOf_10 rfl (fun b10 => ?_) (fun b10 => ?_)
  · skip
    refine lv_bipush (v := (-4)) hx hb dX4_answerOf_22 (by decide) ?_
    refine W.iret (v := (-4)) hx hb hr (fun t ht hW => ⟨⟨(-4), (), rfl, ?_, trivial⟩, hS.F ht⟩) hS.2.2 dX4_answerOf_24
    first | exact (if_pos b10).symm | exact (if_neg b10).symm
  · skip
    refine lv_aload_n hx hb dX4_answerOf_13 rfl (lv_at hl 0 rfl) ?_
    refine lv_iload_n hx hb dX4_answerOf_14 rfl (lv_at hl 2 rfl) ?_
    refine lv_iload_n hx hb dX4_answerOf_15 rfl (lv_at hl 3 rfl) ?_
    refine xr_i (As := [.int (nI c), .int (nI d)]) (rest := []) ⟨hx, hb, hml, hown, hts⟩ (c_X4_markOf l G kv km kg vw vh sl mk c d (by first | assumption | omega)) (cwV 2 hts gX4_answerOf_X4_markOf rfl rfl rfl (by decide +kernel) ⟨Nat.le_of_ble_eq_true rfl, Nat.le_of_ble_eq_true rfl⟩) hK hP hS [0, 1] rfl rfl rfl rfl hl.1 rfl (Nat.le_of_ble_eq_true rfl) dX4_answerOf_16 ⟨Nat.zero_le _, Nat.zero_le _⟩ (fun r16 H locs hp16 hP hS => ?_)
    obtain rfl : r16 = mk (d * 16 + c) := hp16
    refine lv_goto (tgt := 24) hx hb dX4_answerOf_19 rfl ?_
    refine W.iret (v := mk (d * 16 + c)) hx hb hr (fun t ht hW => ⟨⟨mk (d * 16 + c), (), rfl, ?_, trivial⟩, hS.F ht⟩) hS.2.2 dX4_answerOf_24
    first | exact (if_pos b10).symm | exact (if_neg b10).symm

abbrev w_X4_copyToSpareDay (G : XG) (kv km kg : Nat) (vw vh : Nat) (sl : Int32) (mk : Nat → Int32) : va_W := [oC kv 4 [.ref km, .ref kg, .int (nI vw), .int (nI vh), .int sl], iA G km 176 mk]
abbrev Q_X4_copyToSpareDay (G : XG) (sz : Nat) (kv km kg : Nat) (vw vh : Nat) (sl : Int32) (mk : Nat → Int32) (d : Nat) : Array Value → State → Outcome → State → Prop := (va_Qv (fun (u : (Nat → Int32)) => u = va_cpy mk mk (d * 16) 160 16) (xWb G sz (w_X4_copyToSpareDay G kv km kg vw vh sl mk) (fun u : (Nat → Int32) => [oC kv 4 [.ref km, .ref kg, .int (nI vw), .int (nI vh), .int sl], iA G km 176 u])) (va_A (w_X4_copyToSpareDay G kv km kg vw vh sl mk) sz))
set_option maxHeartbeats 4000000 in
set_option maxRecDepth 100000 in
theorem c_X4_copyToSpareDay (l : Launch) (G : XG) (sz : Nat) (kv km kg : Nat) (vw vh : Nat) (sl : Int32) (mk : Nat → Int32) (d : Nat) (hd : d ≤ 9) : Met l yX4_copyToSpareDay wsX4_copyToSpareDay ({ frames := 1, cells := 0, slots := 0, locals := 18 } : Room) (va_Pc [.ref kv, .int (nI d)] (xWp G sz (w_X4_copyToSpareDay G kv km kg vw vh sl mk))) (Q_X4_copyToSpareDay G sz kv km kg vw vh sl mk d) 0 0 (va_A (w_X4_copyToSpareDay G kv km kg vw vh sl mk) sz) := by
  refine Met.ofW (cc := cX4_copyToSpareDay) (maxL := 2) (ret := none) (by decide) rfl ?_
  intro pp ee ss mm aa below mt cd s₁ BB hml hv
  obtain ⟨rfl, hsz, hP, hK, hD0⟩ := hv
  have hx := BB.exec
  have hb := BB.bytes
  have hr := BB.returns
  have hts := atoms_spec (ws := wsX4_copyToSpareDay) BB.pre
  have hown : ss.vm.findClass RX4 = some mm.cls := findClass_of_methodNamed BB.named
  have hlocks := BB.notSynchronized
  subst hsz
  have hD := hD0.self (sz := ss.heap.size)
  have hA : ∀ q : Nat, ss.heap.size ≤ q → va_A (w_X4_copyToSpareDay G kv km kg vw vh sl mk) ss.heap.size q := fun q h => Or.inr h
  have hS : va_S (va_A (w_X4_copyToSpareDay G kv km kg vw vh sl mk) ss.heap.size) ss.heap ss.heap [] := va_S.rf
  replace hD : va_D (va_A (w_X4_copyToSpareDay G kv km kg vw vh sl mk) ss.heap.size) [oC kv 4 [.ref km, .ref kg, .int (nI vw), .int (nI vh), .int sl], iA G km 176 mk] := hD
  replace hP : xP G [oC kv 4 [.ref km, .ref kg, .int (nI vw), .int (nI vh), .int sl], iA G km 176 mk] ss.heap := hP
  have hin4 : ∀ w ∈ u_ws RX4 TX4 5, w ∈ wsX4_copyToSpareDay := fun w h => List.mem_cons_of_mem _ (List.mem_append_right _ h)
  have hl := lv_entry ([.ref kv, .int (nI d)]) (n := 2) (Nat.le_of_ble_eq_true rfl)
  rw [lg_entry_eq]
  generalize (lg_sl ([.ref kv, .int (nI d)]) ++ List.replicate (2 - (lg_sl ([.ref kv, .int (nI d)])).length) Slot.unset).toArray = ls at hl ⊢
  replace hl : lv_has ls 2 [(0, .ref kv), (1, .int (nI d))] := hl
  refine lv_aload_n hx hb dX4_copyToSpareDay_0 rfl (lv_at hl 0 rfl) ?_
  refine va_get (D := G.1) (ci := 4) (v := .ref km) (C := RX4) (T := TX4) (N := 5) hx hb hts hin4 hown hK.1 hP 0 rfl rfl 0 (by decide) (hts (.fieldLink RX4 9 "BackLenses$Views" "marks" "[I") (List.mem_of_getElem? (i := 1) rfl)) (fun _ h9 => h9) rfl dX4_copyToSpareDay_1 ?_
  refine lv_iload_n hx hb dX4_copyToSpareDay_4 rfl (lv_at hl 1 rfl) ?_
  refine lv_bipush (v := nI 16) hx hb dX4_copyToSpareDay_5 (by decide) ?_
  refine xn_imul hx hb dX4_copyToSpareDay_7 ?_
  refine lv_aload_n hx hb dX4_copyToSpareDay_8 rfl (lv_at hl 0 rfl) ?_
  refine va_get (D := G.1) (ci := 4) (v := .ref km) (C := RX4) (T := TX4) (N := 5) hx hb hts hin4 hown hK.1 hP 0 rfl rfl 0 (by decide) (hts (.fieldLink RX4 9 "BackLenses$Views" "marks" "[I") (List.mem_of_getElem? (i := 1) rfl)) (fun _ h9 => h9) rfl dX4_copyToSpareDay_9 ?_
  refine lv_sipush (v := nI 160) hx hb dX4_copyToSpareDay_12 (by decide) ?_
  refine lv_bipush (v := nI 16) hx hb dX4_copyToSpareDay_15 (by decide) ?_
  refine xn_copyi (n := 16) (sp := d * 16) (dp := 160) hx hb (by rw [hml]; exact hl.1.symm) hown (hts (.methodLink RX4 47 arraycopyName) (List.mem_of_getElem? (i := 2) rfl)) (hts (.native arraycopyName) (List.mem_of_getElem? (i := 3) rfl)) (hts (.static arraycopyName) (List.mem_of_getElem? (i := 4) rfl)) (hts (.initialized "java/lang/System") (List.mem_of_getElem? (i := 5) rfl)) hK hP hD hS 1 1 rfl rfl (by omega) (by omega) (by omega) (by omega) (Nat.le_of_ble_eq_true rfl) (Nat.le_of_ble_eq_true rfl) dX4_copyToSpareDay_17 (fun H locs hP hD hS => ?_)
  replace hP : xP G [oC kv 4 [.ref km, .ref kg, .int (nI vw), .int (nI vh), .int sl], iA G km 176 (va_cpy mk mk (d * 16) 160 16)] H := hP
  replace hD : va_D (va_A (w_X4_copyToSpareDay G kv km kg vw vh sl mk) ss.heap.size) [oC kv 4 [.ref km, .ref kg, .int (nI vw), .int (nI vh), .int sl], iA G km 176 (va_cpy mk mk (d * 16) 160 16)] := hD
  have hP := hP.sub (ws' := [oC kv 4 [.ref km, .ref kg, .int (nI vw), .int (nI vh), .int sl], iA G km 176 (va_cpy mk mk (d * 16) 160 16)]) [0, 1] rfl
  have hD := hD.sub (ws' := [oC kv 4 [.ref km, .ref kg, .int (nI vw), .int (nI vh), .int sl], iA G km 176 (va_cpy mk mk (d * 16) 160 16)]) [0, 1] (by decide) rfl
  refine W.vret hx hb hr (fun t ht hW => ⟨⟨(va_cpy mk mk (d * 16) 160 16), rfl, ?_, by rw [ht]; exact hP, hD⟩, hS.F ht⟩) hS.2.2 dX4_copyToSpareDay_20
  rfl

abbrev w_X4_markOnSpareDay (G : XG) (kv km kg : Nat) (vw vh : Nat) (sl : Int32) (mk : Nat → Int32) : va_W := [oC kv 4 [.ref km, .ref kg, .int (nI vw), .int (nI vh), .int sl], iA G km 176 mk]
abbrev Q_X4_markOnSpareDay (G : XG) (sz : Nat) (kv km kg : Nat) (vw vh : Nat) (sl : Int32) (mk : Nat → Int32) (c : Nat) (m : Int32) : Array Value → State → Outcome → State → Prop := (va_Qv (fun (u : (Nat → Int32)) => u = upd mk (160 + c) m) (xWb G sz (w_X4_markOnSpareDay G kv km kg vw vh sl mk) (fun u : (Nat → Int32) => [oC kv 4 [.ref km, .ref kg, .int (nI vw), .int (nI vh), .int sl], iA G km 176 u])) (va_A (w_X4_markOnSpareDay G kv km kg vw vh sl mk) sz))
set_option maxHeartbeats 4000000 in
set_option maxRecDepth 100000 in
theorem c_X4_markOnSpareDay (l : Launch) (G : XG) (sz : Nat) (kv km kg : Nat) (vw vh : Nat) (sl : Int32) (mk : Nat → Int32) (c : Nat) (m : Int32) (kc : c < 16) : Met l yX4_markOnSpareDay wsX4_markOnSpareDay ({ frames := 0, cells := 0, slots := 0, locals := 0 } : Room) (va_Pc [.ref kv, .int (nI c), .int m] (xWp G sz (w_X4_markOnSpareDay G kv km kg vw vh sl mk))) (Q_X4_markOnSpareDay G sz kv km kg vw vh sl mk c m) 0 0 (va_A (w_X4_markOnSpareDay G kv km kg vw vh sl mk) sz) := by
  refine Met.ofW (cc := cX4_markOnSpareDay) (maxL := 3) (ret := none) (by decide) rfl ?_
  intro pp ee ss mm aa below mt cd s₁ BB hml hv
  obtain ⟨rfl, hsz, hP, hK, hD0⟩ := hv
  have hx := BB.exec
  have hb := BB.bytes
  have hr := BB.returns
  have hts := atoms_spec (ws := wsX4_markOnSpareDay) BB.pre
  have hown : ss.vm.findClass RX4 = some mm.cls := findClass_of_methodNamed BB.named
  have hlocks := BB.notSynchronized
  subst hsz
  have hD := hD0.self (sz := ss.heap.size)
  have hA : ∀ q : Nat, ss.heap.size ≤ q → va_A (w_X4_markOnSpareDay G kv km kg vw vh sl mk) ss.heap.size q := fun q h => Or.inr h
  have hS : va_S (va_A (w_X4_markOnSpareDay G kv km kg vw vh sl mk) ss.heap.size) ss.heap ss.heap [] := va_S.rf
  replace hD : va_D (va_A (w_X4_markOnSpareDay G kv km kg vw vh sl mk) ss.heap.size) [oC kv 4 [.ref km, .ref kg, .int (nI vw), .int (nI vh), .int sl], iA G km 176 mk] := hD
  replace hP : xP G [oC kv 4 [.ref km, .ref kg, .int (nI vw), .int (nI vh), .int sl], iA G km 176 mk] ss.heap := hP
  have hin4 : ∀ w ∈ u_ws RX4 TX4 5, w ∈ wsX4_markOnSpareDay := fun w h => List.mem_cons_of_mem _ (List.mem_append_right _ h)
  have hl := lv_entry ([.ref kv, .int (nI c), .int m]) (n := 3) (Nat.le_of_ble_eq_true rfl)
  rw [lg_entry_eq]
  generalize (lg_sl ([.ref kv, .int (nI c), .int m]) ++ List.replicate (3 - (lg_sl ([.ref kv, .int (nI c), .int m])).length) Slot.unset).toArray = ls at hl ⊢
  replace hl : lv_has ls 3 [(0, .ref kv), (1, .int (nI c)), (2, .int m)] := hl
  refine lv_aload_n hx hb dX4_markOnSpareDay_0 rfl (lv_at hl 0 rfl) ?_
  refine va_get (D := G.1) (ci := 4) (v := .ref km) (C := RX4) (T := TX4) (N := 5) hx hb hts hin4 hown hK.1 hP 0 rfl rfl 0 (by decide) (hts (.fieldLink RX4 9 "BackLenses$Views" "marks" "[I") (List.mem_of_getElem? (i := 1) rfl)) (fun _ h9 => h9) rfl dX4_markOnSpareDay_1 ?_
  refine lv_sipush (v := nI 160) hx hb dX4_markOnSpareDay_4 (by decide) ?_
  refine lv_iload_n hx hb dX4_markOnSpareDay_7 rfl (lv_at hl 1 rfl) ?_
  refine xn_iadd hx hb dX4_markOnSpareDay_8 ?_
  refine lv_iload_n hx hb dX4_markOnSpareDay_9 rfl (lv_at hl 2 rfl) ?_
  refine xn_iast hx hb hK hP hD hS 1 rfl (by omega) (by omega) dX4_markOnSpareDay_10 (fun H locs hP hD hS => ?_)
  replace hP : xP G [oC kv 4 [.ref km, .ref kg, .int (nI vw), .int (nI vh), .int sl], iA G km 176 (upd mk (160 + c) m)] H := hP
  replace hD : va_D (va_A (w_X4_markOnSpareDay G kv km kg vw vh sl mk) ss.heap.size) [oC kv 4 [.ref km, .ref kg, .int (nI vw), .int (nI vh), .int sl], iA G km 176 (upd mk (160 + c) m)] := hD
  have hP := hP.sub (ws' := [oC kv 4 [.ref km, .ref kg, .int (nI vw), .int (nI vh), .int sl], iA G km 176 (upd mk (160 + c) m)]) [0, 1] rfl
  have hD := hD.sub (ws' := [oC kv 4 [.ref km, .ref kg, .int (nI vw), .int (nI vh), .int sl], iA G km 176 (upd mk (160 + c) m)]) [0, 1] (by decide) rfl
  refine W.vret hx hb hr (fun t ht hW => ⟨⟨(upd mk (160 + c) m), rfl, ?_, by rw [ht]; exact hP, hD⟩, hS.F ht⟩) hS.2.2 dX4_markOnSpareDay_11
  rfl

abbrev w_X4_ray (G : XG) (kv km kg : Nat) (vw vh : Nat) (sl : Int32) (mk : Nat → Int32) : va_W := [oC kv 4 [.ref km, .ref kg, .int (nI vw), .int (nI vh), .int sl], iA G km 176 mk]
abbrev Q_X4_ray (G : XG) (kv km kg : Nat) (vw vh : Nat) (sl : Int32) (mk : Nat → Int32) (at0 x : Nat) (step : Int32) (st : Nat) (door : Int32) (cf : Nat → Nat) : Array Value → State → Outcome → State → Prop := (xRi (fun r => r = rayF (fun c => mk (at0 + c)) cf door st 1 (nI 0)))
set_option maxHeartbeats 4000000 in
set_option maxRecDepth 100000 in
theorem c_X4_ray (l : Launch) (G : XG) (kv km kg : Nat) (vw vh : Nat) (sl : Int32) (mk : Nat → Int32) (at0 x : Nat) (step : Int32) (st : Nat) (door : Int32) (cf : Nat → Nat) (hst : st ≤ 16) (hcf : ∀ i, 1 ≤ i → i ≤ st → nI x + nI i * step = nI (cf i) ∧ at0 + cf i < 176) : Met l yX4_ray wsX4_ray ({ frames := 0, cells := 0, slots := 0, locals := 0 } : Room) (va_Pc [.ref kv, .int (nI at0), .int (nI x), .int step, .int (nI st), .int door] (xRp G (w_X4_ray G kv km kg vw vh sl mk))) (Q_X4_ray G kv km kg vw vh sl mk at0 x step st door cf) 0 0 (fun _ => False) := by
  refine Met.ofW (cc := cX4_ray) (maxL := 10) (ret := (some .int)) (by decide) rfl ?_
  intro pp ee ss mm aa below mt cd s₁ BB hml hv
  obtain ⟨rfl, hP, hK⟩ := hv
  have hx := BB.exec
  have hb := BB.bytes
  have hr := BB.returns
  have hts := atoms_spec (ws := wsX4_ray) BB.pre
  have hown : ss.vm.findClass RX4 = some mm.cls := findClass_of_methodNamed BB.named
  have hlocks := BB.notSynchronized
  have hS : va_S (fun _ => False) ss.heap ss.heap [] := va_S.rf
  replace hP : xP G [oC kv 4 [.ref km, .ref kg, .int (nI vw), .int (nI vh), .int sl], iA G km 176 mk] ss.heap := hP
  have hin4 : ∀ w ∈ u_ws RX4 TX4 5, w ∈ wsX4_ray := fun w h => List.mem_cons_of_mem _ (List.mem_append_right _ h)
  have hl := lv_entry ([.ref kv, .int (nI at0), .int (nI x), .int step, .int (nI st), .int door]) (n := 10) (Nat.le_of_ble_eq_true rfl)
  rw [lg_entry_eq]
  generalize (lg_sl ([.ref kv, .int (nI at0), .int (nI x), .int step, .int (nI st), .int door]) ++ List.replicate (10 - (lg_sl ([.ref kv, .int (nI at0), .int (nI x), .int step, .int (nI st), .int door])).length) Slot.unset).toArray = ls at hl ⊢
  replace hl : lv_has ls 10 [(0, .ref kv), (1, .int (nI at0)), (2, .int (nI x)), (3, .int step), (4, .int (nI st)), (5, .int door)] := hl
  refine lv_iconst (v := nI 0) hx hb dX4_ray_0 (by decide) ?_
  refine lv_istore (lv' := [(6, .int (nI 0)), (0, .ref kv), (1, .int (nI at0)), (2, .int (nI x)), (3, .int step), (4, .int (nI st)), (5, .int door)]) hx hb dX4_ray_1 hl (by decide) rfl (fun ls hl => ?_)
  refine lv_iconst (v := nI 1) hx hb dX4_ray_3 (by decide) ?_
  refine lv_istore (lv' := [(7, .int (nI 1)), (6, .int (nI 0)), (0, .ref kv), (1, .int (nI at0)), (2, .int (nI x)), (3, .int step), (4, .int (nI st)), (5, .int door)]) hx hb dX4_ray_4 hl (by decide) rfl (fun ls hl => ?_)
  have hL6 : ∀ k : Nat, ∀ (i : Nat) (acc : Int32) (ls : Array Slot) (H : Heap) (locs : List Loc), st + 1 - i = k → (1 ≤ i) → (i ≤ st + 1) → (rayF (fun c => mk (at0 + c)) cf door st 1 (nI 0) = rayF (fun c => mk (at0 + c)) cf door (st + 1 - i) i acc) → lv_has ls 10 [(0, .ref kv), (1, .int (nI at0)), (2, .int (nI x)), (3, .int step), (4, .int (nI st)), (5, .int door), (6, .int acc), (7, .int (nI i))] → xP G [iA G km 176 mk, oC kv 4 [.ref km, .ref kg, .int (nI vw), .int (nI vh), .int sl]] H → va_S (fun _ => False) ss.heap H locs → W pp l ee ({ frames := 0, cells := 0, slots := 0, locals := 0 } : Room) ss mm ([.ref kv, .int (nI at0), .int (nI x), .int step, .int (nI st), .int door] : List Value).toArray below mt cd H locs 0 0 (MQ below (Q_X4_ray G kv km kg vw vh sl mk at0 x step st door cf) ([.ref kv, .int (nI at0), .int (nI x), .int step, .int (nI st), .int door] : List Value).toArray ss 0 0 (fun _ => False)) (F0 mm 6 ls []) := by
    intro k
    induction k using Nat.strongRecOn with
    | _ k ih6 =>
    intro i acc ls H locs hm6 h1i hi hacc hl hP hS
    refine lv_iload hx hb dX4_ray_6 (lv_at hl 7 rfl) ?_
    refine lv_iload hx hb dX4_ray_8 (lv_at hl 4 rfl) ?_
    refine xn_icmp_gt (tgt := 67) hx hb (by omega) (by omega) dX4_ray_10 rfl (fun b10 => ?_) (fun b10 => ?_)
    · skip
      refine lv_iload hx hb dX4_ray_67 (lv_at hl 6 rfl) ?_
      refine W.iret (v := acc) hx hb hr (fun t ht hW => ⟨⟨acc, (), rfl, ?_, trivial⟩, hS.F ht⟩) hS.2.2 dX4_ray_69
      first | (rw [hacc, show st + 1 - i = 0 by omega, rayF]) | (rw [hacc, show st + 1 - i = (st + 1 - (i + 1)) + 1 by omega, rayF, if_pos (by simp_all)])
    · skip
      refine lv_iload_n hx hb dX4_ray_13 rfl (lv_at hl 2 rfl) ?_
      refine lv_iload hx hb dX4_ray_14 (lv_at hl 7 rfl) ?_
      refine lv_iload_n hx hb dX4_ray_16 rfl (lv_at hl 3 rfl) ?_
      refine lv_imul hx hb dX4_ray_17 ?_
      refine lv_iadd hx hb dX4_ray_18 ?_
      refine xn_top (hcf i (by omega) (by omega)).1 ?_
      refine lv_istore (lv' := [(8, .int (nI (cf i))), (0, .ref kv), (1, .int (nI at0)), (2, .int (nI x)), (3, .int step), (4, .int (nI st)), (5, .int door), (6, .int acc), (7, .int (nI i))]) hx hb dX4_ray_19 hl (by decide) rfl (fun ls hl => ?_)
      refine lv_iload hx hb dX4_ray_21 (lv_at hl 7 rfl) ?_
      refine lv_iconst (v := nI 1) hx hb dX4_ray_23 (by decide) ?_
      refine lv_iload hx hb dX4_ray_24 (lv_at hl 0 rfl) ?_
      refine lv_ishl hx hb dX4_ray_26 ?_
      refine lv_ior hx hb dX4_ray_27 ?_
      refine lv_istore (lv' := [(6, .int (acc ||| ((nI 1) <<< ((nI (cf i)) &&& 31)))), (8, .int (nI (cf i))), (0, .ref kv), (1, .int (nI at0)), (2, .int (nI x)), (3, .int step), (4, .int (nI st)), (5, .int door), (7, .int (nI i))]) hx hb dX4_ray_28 hl (by decide) rfl (fun ls hl => ?_)
      refine lv_aload_n hx hb dX4_ray_30 rfl (lv_at hl 2 rfl) ?_
      refine va_get (D := G.1) (ci := 4) (v := .ref km) (C := RX4) (T := TX4) (N := 5) hx hb hts hin4 hown hK.1 hP 1 rfl rfl 0 (by decide) (hts (.fieldLink RX4 9 "BackLenses$Views" "marks" "[I") (List.mem_of_getElem? (i := 1) rfl)) (fun _ h9 => h9) rfl dX4_ray_31 ?_
      refine lv_iload_n hx hb dX4_ray_34 rfl (lv_at hl 3 rfl) ?_
      refine lv_iload hx hb dX4_ray_35 (lv_at hl 1 rfl) ?_
      refine xn_iadd hx hb dX4_ray_37 ?_
      refine xn_iald hx hb hK hP 0 rfl (by have := (hcf i (by omega) (by omega)).2; omega) (by omega) dX4_ray_38 ?_
      refine lv_istore (lv' := [(9, .int (mk (at0 + (cf i)))), (6, .int (acc ||| ((nI 1) <<< ((nI (cf i)) &&& 31)))), (8, .int (nI (cf i))), (0, .ref kv), (1, .int (nI at0)), (2, .int (nI x)), (3, .int step), (4, .int (nI st)), (5, .int door), (7, .int (nI i))]) hx hb dX4_ray_39 hl (by decide) rfl (fun ls hl => ?_)
      refine lv_iload hx hb dX4_ray_41 (lv_at hl 0 rfl) ?_
      refine lv_iconst (v := nI 4) hx hb dX4_ray_43 (by decide) ?_
      refine lv_icmp_eq (tgt := 67) hx hb dX4_ray_44 rfl (fun b44 => ?_) (fun b44 => ?_)
      · skip
        refine lv_iload hx hb dX4_ray_67 (lv_at hl 1 rfl) ?_
        refine W.iret (v := acc ||| ((nI 1) <<< ((nI (cf i)) &&& 31))) hx hb hr (fun t ht hW => ⟨⟨acc ||| ((nI 1) <<< ((nI (cf i)) &&& 31)), (), rfl, ?_, trivial⟩, hS.F ht⟩) hS.2.2 dX4_ray_69
        first | (rw [hacc, show st + 1 - i = 0 by omega, rayF]) | (rw [hacc, show st + 1 - i = (st + 1 - (i + 1)) + 1 by omega, rayF, if_pos (by simp_all)])
      · skip
        refine lv_iload hx hb dX4_ray_47 (lv_at hl 8 rfl) ?_
        refine lv_if_eq (tgt := 61) hx hb dX4_ray_49 rfl (fun b49 => ?_) (fun b49 => ?_)
        · skip
          refine lv_iinc (k := 9) (v := nI (i + 1)) (lv' := [(7, .int (nI (i + 1))), (9, .int (mk (at0 + (cf i)))), (6, .int (acc ||| ((nI 1) <<< ((nI (cf i)) &&& 31)))), (8, .int (nI (cf i))), (0, .ref kv), (1, .int (nI at0)), (2, .int (nI x)), (3, .int step), (4, .int (nI st)), (5, .int door)]) hx hb dX4_ray_61 hl rfl (xn_inc i 1) (by decide) rfl (fun ls hl => ?_)
          refine lv_goto (tgt := 6) hx hb dX4_ray_64 rfl ?_
          have hl := lv_sub hl (l' := [(0, .ref kv), (1, .int (nI at0)), (2, .int (nI x)), (3, .int step), (4, .int (nI st)), (5, .int door), (6, .int (acc ||| ((nI 1) <<< ((nI (cf i)) &&& 31)))), (7, .int (nI (i + 1)))]) [4, 5, 6, 7, 8, 9, 2, 0] rfl
          exact ih6 (st + 1 - (i + 1)) (by omega) (i + 1) (acc ||| ((nI 1) <<< ((nI (cf i)) &&& 31))) ls H locs rfl (by omega) (by omega) (by rw [hacc, show st + 1 - i = (st + 1 - (i + 1)) + 1 by omega, rayF, if_neg (by simp_all)]) hl hP hS
        · skip
          refine lv_iload hx hb dX4_ray_52 (lv_at hl 0 rfl) ?_
          refine lv_iconst (v := nI 5) hx hb dX4_ray_54 (by decide) ?_
          refine lv_icmp_ne (tgt := 61) hx hb dX4_ray_55 rfl (fun b55 => ?_) (fun b55 => ?_)
          · skip
            refine lv_iinc (k := 9) (v := nI (i + 1)) (lv' := [(7, .int (nI (i + 1))), (9, .int (mk (at0 + (cf i)))), (6, .int (acc ||| ((nI 1) <<< ((nI (cf i)) &&& 31)))), (8, .int (nI (cf i))), (0, .ref kv), (1, .int (nI at0)), (2, .int (nI x)), (3, .int step), (4, .int (nI st)), (5, .int door)]) hx hb dX4_ray_61 hl rfl (xn_inc i 1) (by decide) rfl (fun ls hl => ?_)
            refine lv_goto (tgt := 6) hx hb dX4_ray_64 rfl ?_
            have hl := lv_sub hl (l' := [(0, .ref kv), (1, .int (nI at0)), (2, .int (nI x)), (3, .int step), (4, .int (nI st)), (5, .int door), (6, .int (acc ||| ((nI 1) <<< ((nI (cf i)) &&& 31)))), (7, .int (nI (i + 1)))]) [4, 5, 6, 7, 8, 9, 2, 0] rfl
            exact ih6 (st + 1 - (i + 1)) (by omega) (i + 1) (acc ||| ((nI 1) <<< ((nI (cf i)) &&& 31))) ls H locs rfl (by omega) (by omega) (by rw [hacc, show st + 1 - i = (st + 1 - (i + 1)) + 1 by omega, rayF, if_neg (by simp_all)]) hl hP hS
          · skip
            refine lv_goto (tgt := 67) hx hb dX4_ray_58 rfl ?_
            refine lv_iload hx hb dX4_ray_67 (lv_at hl 1 rfl) ?_
            refine W.iret (v := acc ||| ((nI 1) <<< ((nI (cf i)) &&& 31))) hx hb hr (fun t ht hW => ⟨⟨acc ||| ((nI 1) <<< ((nI (cf i)) &&& 31)), (), rfl, ?_, trivial⟩, hS.F ht⟩) hS.2.2 dX4_ray_69
            first | (rw [hacc, show st + 1 - i = 0 by omega, rayF]) | (rw [hacc, show st + 1 - i = (st + 1 - (i + 1)) + 1 by omega, rayF, if_pos (by simp_all)])
  have hl := lv_sub hl (l' := [(0, .ref kv), (1, .int (nI at0)), (2, .int (nI x)), (3, .int step), (4, .int (nI st)), (5, .int door), (6, .int (nI 0)), (7, .int (nI 1))]) [2, 3, 4, 5, 6, 7, 1, 0] rfl
  have hP := hP.sub (ws' := [iA G km 176 mk, oC kv 4 [.ref km, .ref kg, .int (nI vw), .int (nI vh), .int sl]]) [1, 0] rfl
  exact hL6 (st + 1 - 1) 1 (nI 0) ls ss.heap [] rfl (by omega) (by omega) (by rfl) hl hP hS

abbrev w_X4_sight (G : XG) (kv km kg : Nat) (vw vh : Nat) (sl : Int32) (mk : Nat → Int32) : va_W := [oC kv 4 [.ref km, .ref kg, .int (nI vw), .int (nI vh), .int sl], iA G km 176 mk]
abbrev Q_X4_sight (G : XG) (kv km kg : Nat) (vw vh : Nat) (sl : Int32) (mk : Nat → Int32) (at0 x : Nat) : Array Value → State → Outcome → State → Prop := (xRi (fun r => r = sgF vw vh (fun c => mk (at0 + c)) x))
set_option maxHeartbeats 4000000 in
set_option maxRecDepth 100000 in
theorem c_X4_sight (l : Launch) (G : XG) (kv km kg : Nat) (vw vh : Nat) (sl : Int32) (mk : Nat → Int32) (at0 x : Nat) (hw : 1 ≤ vw) (hwb : vw ≤ 16) (hhb : vh ≤ 16) (kx : x < vw * vh) (hwh : vw * vh ≤ 16) (hat : at0 ≤ 160) : Met l yX4_sight wsX4_sight ({ frames := 1, cells := 0, slots := 0, locals := 29 } : Room) (va_Pc [.ref kv, .int (nI at0), .int (nI x)] (xRp G (w_X4_sight G kv km kg vw vh sl mk))) (Q_X4_sight G kv km kg vw vh sl mk at0 x) 0 0 (fun _ => False) := by
  refine Met.ofW (cc := cX4_sight) (maxL := 5) (ret := (some .int)) (by decide) rfl ?_
  intro pp ee ss mm aa below mt cd s₁ BB hml hv
  obtain ⟨rfl, hP, hK⟩ := hv
  have hx := BB.exec
  have hb := BB.bytes
  have hr := BB.returns
  have hts := atoms_spec (ws := wsX4_sight) BB.pre
  have hown : ss.vm.findClass RX4 = some mm.cls := findClass_of_methodNamed BB.named
  have hlocks := BB.notSynchronized
  have hS : va_S (fun _ => False) ss.heap ss.heap [] := va_S.rf
  replace hP : xP G [oC kv 4 [.ref km, .ref kg, .int (nI vw), .int (nI vh), .int sl], iA G km 176 mk] ss.heap := hP
  have hin4 : ∀ w ∈ u_ws RX4 TX4 5, w ∈ wsX4_sight := fun w h => List.mem_cons_of_mem _ (List.mem_append_right _ h)
  have hl := lv_entry ([.ref kv, .int (nI at0), .int (nI x)]) (n := 5) (Nat.le_of_ble_eq_true rfl)
  rw [lg_entry_eq]
  generalize (lg_sl ([.ref kv, .int (nI at0), .int (nI x)]) ++ List.replicate (5 - (lg_sl ([.ref kv, .int (nI at0), .int (nI x)])).length) Slot.unset).toArray = ls at hl ⊢
  replace hl : lv_has ls 5 [(0, .ref kv), (1, .int (nI at0)), (2, .int (nI x))] := hl
  obtain ⟨e1, e2, e3⟩ := xs_div (w := vw) (h := vh) (x := x) (by omega) kx
  have e0 : 0 < vh := Nat.lt_of_le_of_lt (Nat.zero_le _) e1
  refine lv_aload_n hx hb dX4_sight_0 rfl (lv_at hl 0 rfl) ?_
  refine va_get (D := G.1) (ci := 4) (v := .int (nI vw)) (C := RX4) (T := TX4) (N := 5) hx hb hts hin4 hown hK.1 hP 0 rfl rfl 2 (by decide) (hts (.fieldLink RX4 28 "BackLenses$Views" "wide" "I") (List.mem_of_getElem? (i := 1) rfl)) (fun _ h9 => h9) rfl dX4_sight_1 ?_
  refine xn_if_le (tgt := 16) hx hb (by omega) dX4_sight_4 rfl (fun b4 => absurd b4 (by omega)) (fun _ => ?_)
  refine lv_iload_n hx hb dX4_sight_7 rfl (lv_at hl 2 rfl) ?_
  refine lv_aload_n hx hb dX4_sight_8 rfl (lv_at hl 0 rfl) ?_
  refine va_get (D := G.1) (ci := 4) (v := .int (nI vw)) (C := RX4) (T := TX4) (N := 5) hx hb hts hin4 hown hK.1 hP 0 rfl rfl 2 (by decide) (hts (.fieldLink RX4 28 "BackLenses$Views" "wide" "I") (List.mem_of_getElem? (i := 1) rfl)) (fun _ h9 => h9) rfl dX4_sight_9 ?_
  refine xn_idiv hx hb (by omega) (by omega) (by omega) dX4_sight_12 ?_
  refine lv_goto (tgt := 17) hx hb dX4_sight_13 rfl ?_
  refine lv_istore_n (lv' := [(3, .int (nI (x / vw))), (0, .ref kv), (1, .int (nI at0)), (2, .int (nI x))]) hx hb dX4_sight_17 rfl hl (by decide) rfl (fun ls hl => ?_)
  refine lv_iload_n hx hb dX4_sight_18 rfl (lv_at hl 3 rfl) ?_
  refine lv_iload_n hx hb dX4_sight_19 rfl (lv_at hl 0 rfl) ?_
  refine lv_aload_n hx hb dX4_sight_20 rfl (lv_at hl 1 rfl) ?_
  refine va_get (D := G.1) (ci := 4) (v := .int (nI vw)) (C := RX4) (T := TX4) (N := 5) hx hb hts hin4 hown hK.1 hP 0 rfl rfl 2 (by decide) (hts (.fieldLink RX4 28 "BackLenses$Views" "wide" "I") (List.mem_of_getElem? (i := 1) rfl)) (fun _ h9 => h9) rfl dX4_sight_21 ?_
  refine xn_imul hx hb dX4_sight_24 ?_
  refine xn_isub hx hb (by omega) dX4_sight_25 ?_
  refine lv_istore (lv' := [(4, .int (nI (x - ((x / vw) * vw)))), (3, .int (nI (x / vw))), (0, .ref kv), (1, .int (nI at0)), (2, .int (nI x))]) hx hb dX4_sight_26 hl (by decide) rfl (fun ls hl => ?_)
  refine lv_iconst (v := nI 1) hx hb dX4_sight_28 (by decide) ?_
  refine lv_iload_n hx hb dX4_sight_29 rfl (lv_at hl 4 rfl) ?_
  refine lv_ishl hx hb dX4_sight_30 ?_
  refine lv_aload_n hx hb dX4_sight_31 rfl (lv_at hl 2 rfl) ?_
  refine lv_iload_n hx hb dX4_sight_32 rfl (lv_at hl 3 rfl) ?_
  refine lv_iload_n hx hb dX4_sight_33 rfl (lv_at hl 4 rfl) ?_
  refine lv_aload_n hx hb dX4_sight_34 rfl (lv_at hl 2 rfl) ?_
  refine va_get (D := G.1) (ci := 4) (v := .int (nI vw)) (C := RX4) (T := TX4) (N := 5) hx hb hts hin4 hown hK.1 hP 0 rfl rfl 2 (by decide) (hts (.fieldLink RX4 28 "BackLenses$Views" "wide" "I") (List.mem_of_getElem? (i := 1) rfl)) (fun _ h9 => h9) rfl dX4_sight_35 ?_
  refine lv_ineg hx hb dX4_sight_38 ?_
  refine lv_iload_n hx hb dX4_sight_39 rfl (lv_at hl 1 rfl) ?_
  refine lv_iconst (v := nI 1) hx hb dX4_sight_40 (by decide) ?_
  refine xr_i (As := [.int (nI at0), .int (nI x), .int (-(nI vw)), .int (nI (x / vw)), .int (nI 1)]) (rest := [.int ((nI 1) <<< ((nI x) &&& 31))]) ⟨hx, hb, hml, hown, hts⟩ (c_X4_ray l G kv km kg vw vh sl mk at0 x (-(nI vw)) (x / vw) (nI 1) (fun i => x - i * vw) (by first | assumption | omega) (by intro i h1 h2; have := xs_up (w := vw) (h := vh) (by omega) kx h2; exact ⟨xn_neg this, by first | omega | (dsimp only; omega)⟩)) (cwV 5 hts gX4_sight_X4_ray rfl rfl rfl (by decide +kernel) ⟨Nat.le_of_ble_eq_true rfl, Nat.le_of_ble_eq_true rfl⟩) hK hP hS [0, 1] rfl rfl rfl rfl hl.1 rfl (Nat.le_of_ble_eq_true rfl) dX4_sight_41 ⟨Nat.zero_le _, Nat.zero_le _⟩ (fun r41 H locs hp41 hP hS => ?_)
  obtain rfl : r41 = rayF (fun c => mk (at0 + c)) (fun i => x - i * vw) (nI 1) (x / vw) 1 (nI 0) := hp41
  refine lv_ior hx hb dX4_sight_44 ?_
  refine lv_aload_n hx hb dX4_sight_45 rfl (lv_at hl 2 rfl) ?_
  refine lv_iload_n hx hb dX4_sight_46 rfl (lv_at hl 3 rfl) ?_
  refine lv_iload_n hx hb dX4_sight_47 rfl (lv_at hl 4 rfl) ?_
  refine lv_aload_n hx hb dX4_sight_48 rfl (lv_at hl 2 rfl) ?_
  refine va_get (D := G.1) (ci := 4) (v := .int (nI vw)) (C := RX4) (T := TX4) (N := 5) hx hb hts hin4 hown hK.1 hP 0 rfl rfl 2 (by decide) (hts (.fieldLink RX4 28 "BackLenses$Views" "wide" "I") (List.mem_of_getElem? (i := 1) rfl)) (fun _ h9 => h9) rfl dX4_sight_49 ?_
  refine lv_aload_n hx hb dX4_sight_52 rfl (lv_at hl 2 rfl) ?_
  refine va_get (D := G.1) (ci := 4) (v := .int (nI vh)) (C := RX4) (T := TX4) (N := 5) hx hb hts hin4 hown hK.1 hP 0 rfl rfl 3 (by decide) (hts (.fieldLink RX4 32 "BackLenses$Views" "high" "I") (List.mem_of_getElem? (i := 2) rfl)) (fun _ h9 => h9) rfl dX4_sight_53 ?_
  refine lv_iconst (v := nI 1) hx hb dX4_sight_56 (by decide) ?_
  refine xn_isub hx hb (by omega) dX4_sight_57 ?_
  refine lv_iload_n hx hb dX4_sight_58 rfl (lv_at hl 1 rfl) ?_
  refine xn_isub hx hb (by exact Nat.le_sub_one_of_lt e1) dX4_sight_59 ?_
  refine lv_iconst (v := nI 1) hx hb dX4_sight_60 (by decide) ?_
  refine xr_i (As := [.int (nI at0), .int (nI x), .int (nI vw), .int (nI ((vh - 1) - (x / vw))), .int (nI 1)]) (rest := [.int (((nI 1) <<< ((nI x) &&& 31)) ||| (rayF (fun c => mk (at0 + c)) (fun i => x - i * vw) (nI 1) (x / vw) 1 (nI 0)))]) ⟨hx, hb, hml, hown, hts⟩ (c_X4_ray l G kv km kg vw vh sl mk at0 x (nI vw) ((vh - 1) - (x / vw)) (nI 1) (fun i => x + i * vw) (by exact Nat.le_trans (Nat.sub_le _ _) (Nat.le_trans (Nat.sub_le _ _) hhb)) (by intro i h1 h2; have := xs_down (w := vw) (h := vh) (by omega) kx h2; exact ⟨by rw [pk_mul, nI_add], by first | omega | (dsimp only; omega)⟩)) (cwV 5 hts gX4_sight_X4_ray rfl rfl rfl (by decide +kernel) ⟨Nat.le_of_ble_eq_true rfl, Nat.le_of_ble_eq_true rfl⟩) hK hP hS [0, 1] rfl rfl rfl rfl hl.1 rfl (Nat.le_of_ble_eq_true rfl) dX4_sight_61 ⟨Nat.zero_le _, Nat.zero_le _⟩ (fun r61 H locs hp61 hP hS => ?_)
  obtain rfl : r61 = rayF (fun c => mk (at0 + c)) (fun i => x + i * vw) (nI 1) ((vh - 1) - (x / vw)) 1 (nI 0) := hp61
  refine lv_ior hx hb dX4_sight_64 ?_
  refine lv_aload_n hx hb dX4_sight_65 rfl (lv_at hl 2 rfl) ?_
  refine lv_iload_n hx hb dX4_sight_66 rfl (lv_at hl 3 rfl) ?_
  refine lv_iload_n hx hb dX4_sight_67 rfl (lv_at hl 4 rfl) ?_
  refine lv_iconst (v := (-1)) hx hb dX4_sight_68 (by decide) ?_
  refine lv_iload hx hb dX4_sight_69 (lv_at hl 0 rfl) ?_
  refine lv_iconst (v := nI 0) hx hb dX4_sight_71 (by decide) ?_
  refine xr_i (As := [.int (nI at0), .int (nI x), .int (-1), .int (nI (x - ((x / vw) * vw))), .int (nI 0)]) (rest := [.int ((((nI 1) <<< ((nI x) &&& 31)) ||| (rayF (fun c => mk (at0 + c)) (fun i => x - i * vw) (nI 1) (x / vw) 1 (nI 0))) ||| (rayF (fun c => mk (at0 + c)) (fun i => x + i * vw) (nI 1) ((vh - 1) - (x / vw)) 1 (nI 0)))]) ⟨hx, hb, hml, hown, hts⟩ (c_X4_ray l G kv km kg vw vh sl mk at0 x (-1) (x - ((x / vw) * vw)) (nI 0) (fun i => x - i) (by first | assumption | omega) (by intro i h1 h2; have h3 := xn_neg (x := x) (i := i) (w := 1) (by omega); exact ⟨by rw [Nat.mul_one] at h3; exact h3, by first | omega | (dsimp only; omega)⟩)) (cwV 5 hts gX4_sight_X4_ray rfl rfl rfl (by decide +kernel) ⟨Nat.le_of_ble_eq_true rfl, Nat.le_of_ble_eq_true rfl⟩) hK hP hS [0, 1] rfl rfl rfl rfl hl.1 rfl (Nat.le_of_ble_eq_true rfl) dX4_sight_72 ⟨Nat.zero_le _, Nat.zero_le _⟩ (fun r72 H locs hp72 hP hS => ?_)
  obtain rfl : r72 = rayF (fun c => mk (at0 + c)) (fun i => x - i) (nI 0) (x - ((x / vw) * vw)) 1 (nI 0) := hp72
  refine lv_ior hx hb dX4_sight_75 ?_
  refine lv_aload_n hx hb dX4_sight_76 rfl (lv_at hl 2 rfl) ?_
  refine lv_iload_n hx hb dX4_sight_77 rfl (lv_at hl 3 rfl) ?_
  refine lv_iload_n hx hb dX4_sight_78 rfl (lv_at hl 4 rfl) ?_
  refine lv_iconst (v := nI 1) hx hb dX4_sight_79 (by decide) ?_
  refine lv_aload_n hx hb dX4_sight_80 rfl (lv_at hl 2 rfl) ?_
  refine va_get (D := G.1) (ci := 4) (v := .int (nI vw)) (C := RX4) (T := TX4) (N := 5) hx hb hts hin4 hown hK.1 hP 0 rfl rfl 2 (by decide) (hts (.fieldLink RX4 28 "BackLenses$Views" "wide" "I") (List.mem_of_getElem? (i := 1) rfl)) (fun _ h9 => h9) rfl dX4_sight_81 ?_
  refine lv_iconst (v := nI 1) hx hb dX4_sight_84 (by decide) ?_
  refine xn_isub hx hb (by omega) dX4_sight_85 ?_
  refine lv_iload hx hb dX4_sight_86 (lv_at hl 0 rfl) ?_
  refine xn_isub hx hb (by omega) dX4_sight_88 ?_
  refine lv_iconst (v := nI 0) hx hb dX4_sight_89 (by decide) ?_
  refine xr_i (As := [.int (nI at0), .int (nI x), .int (nI 1), .int (nI ((vw - 1) - (x - ((x / vw) * vw)))), .int (nI 0)]) (rest := [.int (((((nI 1) <<< ((nI x) &&& 31)) ||| (rayF (fun c => mk (at0 + c)) (fun i => x - i * vw) (nI 1) (x / vw) 1 (nI 0))) ||| (rayF (fun c => mk (at0 + c)) (fun i => x + i * vw) (nI 1) ((vh - 1) - (x / vw)) 1 (nI 0))) ||| (rayF (fun c => mk (at0 + c)) (fun i => x - i) (nI 0) (x - ((x / vw) * vw)) 1 (nI 0)))]) ⟨hx, hb, hml, hown, hts⟩ (c_X4_ray l G kv km kg vw vh sl mk at0 x (nI 1) ((vw - 1) - (x - ((x / vw) * vw))) (nI 0) (fun i => x + i) (by first | assumption | omega) (by intro i h1 h2; have := xs_right (w := vw) (h := vh) (by omega) kx h2; exact ⟨by rw [pk_mul, nI_add, Nat.mul_one], by first | omega | (dsimp only; omega)⟩)) (cwV 5 hts gX4_sight_X4_ray rfl rfl rfl (by decide +kernel) ⟨Nat.le_of_ble_eq_true rfl, Nat.le_of_ble_eq_true rfl⟩) hK hP hS [0, 1] rfl rfl rfl rfl hl.1 rfl (Nat.le_of_ble_eq_true rfl) dX4_sight_90 ⟨Nat.zero_le _, Nat.zero_le _⟩ (fun r90 H locs hp90 hP hS => ?_)
  obtain rfl : r90 = rayF (fun c => mk (at0 + c)) (fun i => x + i) (nI 0) ((vw - 1) - (x - ((x / vw) * vw))) 1 (nI 0) := hp90
  refine lv_ior hx hb dX4_sight_93 ?_
  refine W.iret (v := (((((nI 1) <<< ((nI x) &&& 31)) ||| (rayF (fun c => mk (at0 + c)) (fun i => x - i * vw) (nI 1) (x / vw) 1 (nI 0))) ||| (rayF (fun c => mk (at0 + c)) (fun i => x + i * vw) (nI 1) ((vh - 1) - (x / vw)) 1 (nI 0))) ||| (rayF (fun c => mk (at0 + c)) (fun i => x - i) (nI 0) (x - ((x / vw) * vw)) 1 (nI 0))) ||| (rayF (fun c => mk (at0 + c)) (fun i => x + i) (nI 0) ((vw - 1) - (x - ((x / vw) * vw))) 1 (nI 0))) hx hb hr (fun t ht hW => ⟨⟨(((((nI 1) <<< ((nI x) &&& 31)) ||| (rayF (fun c => mk (at0 + c)) (fun i => x - i * vw) (nI 1) (x / vw) 1 (nI 0))) ||| (rayF (fun c => mk (at0 + c)) (fun i => x + i * vw) (nI 1) ((vh - 1) - (x / vw)) 1 (nI 0))) ||| (rayF (fun c => mk (at0 + c)) (fun i => x - i) (nI 0) (x - ((x / vw) * vw)) 1 (nI 0))) ||| (rayF (fun c => mk (at0 + c)) (fun i => x + i) (nI 0) ((vw - 1) - (x - ((x / vw) * vw))) 1 (nI 0)), (), rfl, ?_, trivial⟩, hS.F ht⟩) hS.2.2 dX4_sight_94
  rfl

abbrev w_X4_sightOnSpareDay (G : XG) (kv km kg : Nat) (vw vh : Nat) (sl : Int32) (mk : Nat → Int32) : va_W := [oC kv 4 [.ref km, .ref kg, .int (nI vw), .int (nI vh), .int sl], iA G km 176 mk]
abbrev Q_X4_sightOnSpareDay (G : XG) (kv km kg : Nat) (vw vh : Nat) (sl : Int32) (mk : Nat → Int32) (x : Nat) : Array Value → State → Outcome → State → Prop := (xRi (fun r => r = sgF vw vh (fun c => mk (160 + c)) x))
set_option maxHeartbeats 4000000 in
set_option maxRecDepth 100000 in
theorem c_X4_sightOnSpareDay (l : Launch) (G : XG) (kv km kg : Nat) (vw vh : Nat) (sl : Int32) (mk : Nat → Int32) (x : Nat) (hw : 1 ≤ vw) (hwb : vw ≤ 16) (hhb : vh ≤ 16) (kx : x < vw * vh) (hwh : vw * vh ≤ 16) : Met l yX4_sightOnSpareDay wsX4_sightOnSpareDay ({ frames := 2, cells := 0, slots := 0, locals := 53 } : Room) (va_Pc [.ref kv, .int (nI x)] (xRp G (w_X4_sightOnSpareDay G kv km kg vw vh sl mk))) (Q_X4_sightOnSpareDay G kv km kg vw vh sl mk x) 0 0 (fun _ => False) := by
  refine Met.ofW (cc := cX4_sightOnSpareDay) (maxL := 2) (ret := (some .int)) (by decide) rfl ?_
  intro pp ee ss mm aa below mt cd s₁ BB hml hv
  obtain ⟨rfl, hP, hK⟩ := hv
  have hx := BB.exec
  have hb := BB.bytes
  have hr := BB.returns
  have hts := atoms_spec (ws := wsX4_sightOnSpareDay) BB.pre
  have hown : ss.vm.findClass RX4 = some mm.cls := findClass_of_methodNamed BB.named
  have hlocks := BB.notSynchronized
  have hS : va_S (fun _ => False) ss.heap ss.heap [] := va_S.rf
  replace hP : xP G [oC kv 4 [.ref km, .ref kg, .int (nI vw), .int (nI vh), .int sl], iA G km 176 mk] ss.heap := hP
  have hin4 : ∀ w ∈ u_ws RX4 TX4 5, w ∈ wsX4_sightOnSpareDay := fun w h => List.mem_cons_of_mem _ (List.mem_append_right _ h)
  have hl := lv_entry ([.ref kv, .int (nI x)]) (n := 2) (Nat.le_of_ble_eq_true rfl)
  rw [lg_entry_eq]
  generalize (lg_sl ([.ref kv, .int (nI x)]) ++ List.replicate (2 - (lg_sl ([.ref kv, .int (nI x)])).length) Slot.unset).toArray = ls at hl ⊢
  replace hl : lv_has ls 2 [(0, .ref kv), (1, .int (nI x))] := hl
  refine lv_aload_n hx hb dX4_sightOnSpareDay_0 rfl (lv_at hl 0 rfl) ?_
  refine lv_sipush (v := nI 160) hx hb dX4_sightOnSpareDay_1 (by decide) ?_
  refine lv_iload_n hx hb dX4_sightOnSpareDay_4 rfl (lv_at hl 1 rfl) ?_
  refine xr_i (As := [.int (nI 160), .int (nI x)]) (rest := []) ⟨hx, hb, hml, hown, hts⟩ (c_X4_sight l G kv km kg vw vh sl mk 160 x (by first | assumption | omega) (by first | assumption | omega) (by first | assumption | omega) (by first | assumption | omega) (by first | assumption | omega) (by first | assumption | omega)) (cwV 2 hts gX4_sightOnSpareDay_X4_sight rfl rfl rfl (by decide +kernel) ⟨Nat.le_of_ble_eq_true rfl, Nat.le_of_ble_eq_true rfl⟩) hK hP hS [0, 1] rfl rfl rfl rfl hl.1 rfl (Nat.le_of_ble_eq_true rfl) dX4_sightOnSpareDay_5 ⟨Nat.zero_le _, Nat.zero_le _⟩ (fun r5 H locs hp5 hP hS => ?_)
  obtain rfl : r5 = sgF vw vh (fun c => mk (160 + c)) x := hp5
  refine W.iret (v := sgF vw vh (fun c => mk (160 + c)) x) hx hb hr (fun t ht hW => ⟨⟨sgF vw vh (fun c => mk (160 + c)) x, (), rfl, ?_, trivial⟩, hS.F ht⟩) hS.2.2 dX4_sightOnSpareDay_8
  rfl

abbrev w_X4_buildMarks (G : XG) (kv km kg : Nat) (vw vh : Nat) (sl : Int32) (mk : Nat → Int32) (kb ka kc kcn kl kn : Nat) (w h la : Nat) (af : Nat → Int32) (nc : Nat) (fc : Nat → Int32) : va_W := [oC kv 4 [.ref km, .ref kg, .int (nI vw), .int (nI vh), .int sl], iA G km 176 mk, oC kb 0 [.int (nI w), .int (nI h), .int (nI la), .ref ka, .ref kc, .ref kl, .ref kn], iA G ka 16 af, oC kc 2 [.ref kcn, .int (nI 10), .int (nI nc)], iA G kcn (3 * 10) fc]
abbrev Q_X4_buildMarks (G : XG) (sz : Nat) (kv km kg : Nat) (vw vh : Nat) (sl : Int32) (mk : Nat → Int32) (kb ka kc kcn kl kn : Nat) (w h la : Nat) (af : Nat → Int32) (nc : Nat) (fc : Nat → Int32) (d : Nat) : Array Value → State → Outcome → State → Prop := (va_Qv (fun (u : (Nat → Int32)) => ((∀ j, j < d * 16 → u j = mk j) ∧ ∀ c, c < 16 → u (d * 16 + c) = mkS af nc fc c d)) (xWb G sz (w_X4_buildMarks G kv km kg vw vh sl mk kb ka kc kcn kl kn w h la af nc fc) (fun u : (Nat → Int32) => [oC kv 4 [.ref km, .ref kg, .int (nI vw), .int (nI vh), .int sl], iA G km 176 u, oC kb 0 [.int (nI w), .int (nI h), .int (nI la), .ref ka, .ref kc, .ref kl, .ref kn], iA G ka 16 af, oC kc 2 [.ref kcn, .int (nI 10), .int (nI nc)], iA G kcn (3 * 10) fc])) (va_A (w_X4_buildMarks G kv km kg vw vh sl mk kb ka kc kcn kl kn w h la af nc fc) sz))
set_option maxHeartbeats 4000000 in
set_option maxRecDepth 100000 in
theorem c_X4_buildMarks (l : Launch) (G : XG) (sz : Nat) (kv km kg : Nat) (vw vh : Nat) (sl : Int32) (mk : Nat → Int32) (kb ka kc kcn kl kn : Nat) (w h la : Nat) (af : Nat → Int32) (nc : Nat) (fc : Nat → Int32) (d : Nat) (hd : d ≤ 9) (hnc : nc ≤ 10) (hcell : ∀ i, i < nc → inR (fc (3 * i + 1)) 16) (hprev : d = 0 ∨ ∀ c, c < 16 → mk ((d - 1) * 16 + c) = mkS af nc fc c (d - 1)) : Met l yX4_buildMarks wsX4_buildMarks ({ frames := 1, cells := 0, slots := 0, locals := 22 } : Room) (va_Pc [.ref kv, .ref kb, .int (nI d)] (xWp G sz (w_X4_buildMarks G kv km kg vw vh sl mk kb ka kc kcn kl kn w h la af nc fc))) (Q_X4_buildMarks G sz kv km kg vw vh sl mk kb ka kc kcn kl kn w h la af nc fc d) 0 0 (va_A (w_X4_buildMarks G kv km kg vw vh sl mk kb ka kc kcn kl kn w h la af nc fc) sz) := by
  refine Met.ofW (cc := cX4_buildMarks) (maxL := 5) (ret := none) (by decide) rfl ?_
  intro pp ee ss mm aa below mt cd s₁ BB hml hv
  obtain ⟨rfl, hsz, hP, hK, hD0⟩ := hv
  have hx := BB.exec
  have hb := BB.bytes
  have hr := BB.returns
  have hts := atoms_spec (ws := wsX4_buildMarks) BB.pre
  have hown : ss.vm.findClass RX4 = some mm.cls := findClass_of_methodNamed BB.named
  have hlocks := BB.notSynchronized
  subst hsz
  have hD := hD0.self (sz := ss.heap.size)
  have hA : ∀ q : Nat, ss.heap.size ≤ q → va_A (w_X4_buildMarks G kv km kg vw vh sl mk kb ka kc kcn kl kn w h la af nc fc) ss.heap.size q := fun q h => Or.inr h
  have hS : va_S (va_A (w_X4_buildMarks G kv km kg vw vh sl mk kb ka kc kcn kl kn w h la af nc fc) ss.heap.size) ss.heap ss.heap [] := va_S.rf
  replace hD : va_D (va_A (w_X4_buildMarks G kv km kg vw vh sl mk kb ka kc kcn kl kn w h la af nc fc) ss.heap.size) [oC kv 4 [.ref km, .ref kg, .int (nI vw), .int (nI vh), .int sl], iA G km 176 mk, oC kb 0 [.int (nI w), .int (nI h), .int (nI la), .ref ka, .ref kc, .ref kl, .ref kn], iA G ka 16 af, oC kc 2 [.ref kcn, .int (nI 10), .int (nI nc)], iA G kcn (3 * 10) fc] := hD
  replace hP : xP G [oC kv 4 [.ref km, .ref kg, .int (nI vw), .int (nI vh), .int sl], iA G km 176 mk, oC kb 0 [.int (nI w), .int (nI h), .int (nI la), .ref ka, .ref kc, .ref kl, .ref kn], iA G ka 16 af, oC kc 2 [.ref kcn, .int (nI 10), .int (nI nc)], iA G kcn (3 * 10) fc] ss.heap := hP
  have hin0 : ∀ w ∈ u_ws RX0 TX0 7, w ∈ wsX4_buildMarks := fun w h => List.mem_cons_of_mem _ (List.mem_append_left _ (List.mem_append_left _ (List.mem_append_right _ h)))
  have hin2 : ∀ w ∈ u_ws RX2 TX2 3, w ∈ wsX4_buildMarks := fun w h => List.mem_cons_of_mem _ (List.mem_append_right _ h)
  have hin4 : ∀ w ∈ u_ws RX4 TX4 5, w ∈ wsX4_buildMarks := fun w h => List.mem_cons_of_mem _ (List.mem_append_left _ (List.mem_append_right _ h))
  have hl := lv_entry ([.ref kv, .ref kb, .int (nI d)]) (n := 5) (Nat.le_of_ble_eq_true rfl)
  rw [lg_entry_eq]
  generalize (lg_sl ([.ref kv, .ref kb, .int (nI d)]) ++ List.replicate (5 - (lg_sl ([.ref kv, .ref kb, .int (nI d)])).length) Slot.unset).toArray = ls at hl ⊢
  replace hl : lv_has ls 5 [(0, .ref kv), (1, .ref kb), (2, .int (nI d))] := hl
  refine lv_iload_n hx hb dX4_buildMarks_0 rfl (lv_at hl 2 rfl) ?_
  refine lv_bipush (v := nI 16) hx hb dX4_buildMarks_1 (by decide) ?_
  refine xn_imul hx hb dX4_buildMarks_3 ?_
  refine lv_istore_n (lv' := [(3, .int (nI (d * 16))), (0, .ref kv), (1, .ref kb), (2, .int (nI d))]) hx hb dX4_buildMarks_4 rfl hl (by decide) rfl (fun ls hl => ?_)
  have hL48 : ∀ k : Nat, ∀ (i : Nat) (mk2 : Nat → Int32) (ls : Array Slot) (H : Heap) (locs : List Loc), nc - i = k → (i ≤ nc) → (∀ j, j < d * 16 → mk2 j = mk j) → (∀ c, c < 16 → mk2 (d * 16 + c) = chD fc d c (mkB af nc fc c d) i) → lv_has ls 5 [(0, .ref kv), (1, .ref kb), (2, .int (nI d)), (3, .int (nI (d * 16))), (4, .int (nI i))] → xP G [iA G ka 16 af, oC kb 0 [.int (nI w), .int (nI h), .int (nI la), .ref ka, .ref kc, .ref kl, .ref kn], oC kc 2 [.ref kcn, .int (nI 10), .int (nI nc)], iA G kcn (3 * 10) fc, iA G km 176 mk2, oC kv 4 [.ref km, .ref kg, .int (nI vw), .int (nI vh), .int sl]] H → va_D (va_A (w_X4_buildMarks G kv km kg vw vh sl mk kb ka kc kcn kl kn w h la af nc fc) ss.heap.size) [iA G ka 16 af, oC kb 0 [.int (nI w), .int (nI h), .int (nI la), .ref ka, .ref kc, .ref kl, .ref kn], oC kc 2 [.ref kcn, .int (nI 10), .int (nI nc)], iA G kcn (3 * 10) fc, iA G km 176 mk2, oC kv 4 [.ref km, .ref kg, .int (nI vw), .int (nI vh), .int sl]] → va_S (va_A (w_X4_buildMarks G kv km kg vw vh sl mk kb ka kc kcn kl kn w h la af nc fc) ss.heap.size) ss.heap H locs → W pp l ee ({ frames := 1, cells := 0, slots := 0, locals := 22 } : Room) ss mm ([.ref kv, .ref kb, .int (nI d)] : List Value).toArray below mt cd H locs 0 0 (MQ below (Q_X4_buildMarks G ss.heap.size kv km kg vw vh sl mk kb ka kc kcn kl kn w h la af nc fc d) ([.ref kv, .ref kb, .int (nI d)] : List Value).toArray ss 0 0 (va_A (w_X4_buildMarks G kv km kg vw vh sl mk kb ka kc kcn kl kn w h la af nc fc) ss.heap.size)) (F0 mm 48 ls []) := by
    intro k
    induction k using Nat.strongRecOn with
    | _ k ih48 =>
    intro i mk2 ls H locs hm48 hi hold hrow hl hP hD hS
    refine lv_iload hx hb dX4_buildMarks_48 (lv_at hl 4 rfl) ?_
    refine lv_aload_n hx hb dX4_buildMarks_50 rfl (lv_at hl 1 rfl) ?_
    refine va_getN (D := G.1) (ci := 0) (v := .ref kc) (C := RX0) (T := TX0) (N := 7) hx hb hts hin0 hown hK.1 hP 1 rfl rfl 4 (by decide) (va_Nw.use rfl (hK.2 (Cond.fieldLinkNest "BackLenses$Views" (53 : Nat) "BackLenses$Book" "changes" "LBackLenses$Rows;" "BackLenses") (List.mem_of_getElem? (i := 16) rfl))) (fun _ h9 => h9) rfl dX4_buildMarks_51 ?_
    refine va_getN (D := G.1) (ci := 2) (v := .int (nI nc)) (C := RX2) (T := TX2) (N := 3) hx hb hts hin2 hown hK.1 hP 2 rfl rfl 2 (by decide) (va_Nw.use rfl (hK.2 (Cond.fieldLinkNest "BackLenses$Views" (57 : Nat) "BackLenses$Rows" "size" "I" "BackLenses") (List.mem_of_getElem? (i := 1) rfl))) (fun _ h9 => h9) rfl dX4_buildMarks_54 ?_
    refine xn_icmp_ge (tgt := 107) hx hb (by omega) (by omega) dX4_buildMarks_57 rfl (fun b57 => ?_) (fun b57 => ?_)
    · skip
      have hP := hP.sub (ws' := [oC kv 4 [.ref km, .ref kg, .int (nI vw), .int (nI vh), .int sl], iA G km 176 mk2, oC kb 0 [.int (nI w), .int (nI h), .int (nI la), .ref ka, .ref kc, .ref kl, .ref kn], iA G ka 16 af, oC kc 2 [.ref kcn, .int (nI 10), .int (nI nc)], iA G kcn (3 * 10) fc]) [5, 4, 1, 0, 2, 3] rfl
      have hD := hD.sub (ws' := [oC kv 4 [.ref km, .ref kg, .int (nI vw), .int (nI vh), .int sl], iA G km 176 mk2, oC kb 0 [.int (nI w), .int (nI h), .int (nI la), .ref ka, .ref kc, .ref kl, .ref kn], iA G ka 16 af, oC kc 2 [.ref kcn, .int (nI 10), .int (nI nc)], iA G kcn (3 * 10) fc]) [5, 4, 1, 0, 2, 3] (by decide) rfl
      refine W.vret hx hb hr (fun t ht hW => ⟨⟨(mk2), rfl, ?_, by rw [ht]; exact hP, hD⟩, hS.F ht⟩) hS.2.2 dX4_buildMarks_107
      exact ⟨hold, fun c kc => by rw [hrow c kc, mkS_eq, show i = nc by omega]⟩
    · skip
      refine lv_aload_n hx hb dX4_buildMarks_60 rfl (lv_at hl 1 rfl) ?_
      refine va_getN (D := G.1) (ci := 0) (v := .ref kc) (C := RX0) (T := TX0) (N := 7) hx hb hts hin0 hown hK.1 hP 1 rfl rfl 4 (by decide) (va_Nw.use rfl (hK.2 (Cond.fieldLinkNest "BackLenses$Views" (53 : Nat) "BackLenses$Book" "changes" "LBackLenses$Rows;" "BackLenses") (List.mem_of_getElem? (i := 16) rfl))) (fun _ h9 => h9) rfl dX4_buildMarks_61 ?_
      refine lv_iload hx hb dX4_buildMarks_64 (lv_at hl 4 rfl) ?_
      refine lv_iconst (v := nI 0) hx hb dX4_buildMarks_66 (by decide) ?_
      refine xr_i (As := [.int (nI i), .int (nI 0)]) (rest := []) ⟨hx, hb, hml, hown, hts⟩ (c_X2_number l G kc kcn 10 nc fc i 0 (by first | assumption | omega) (by first | assumption | omega)) (cwV 2 hts gX4_buildMarks_X2_number rfl rfl rfl (by decide +kernel) ⟨Nat.le_of_ble_eq_true rfl, Nat.le_of_ble_eq_true rfl⟩) hK hP hS [2, 3] rfl rfl rfl rfl hl.1 rfl (Nat.le_of_ble_eq_true rfl) dX4_buildMarks_67 ⟨Nat.zero_le _, Nat.zero_le _⟩ (fun r67 H locs hp67 hP hS => ?_)
      obtain rfl : r67 = fc (3 * i + 0) := hp67
      refine lv_iload_n hx hb dX4_buildMarks_70 rfl (lv_at hl 2 rfl) ?_
      refine lv_icmp_ne (tgt := 101) hx hb dX4_buildMarks_71 rfl (fun b71 => ?_) (fun b71 => ?_)
      · skip
        refine lv_iinc (k := 4) (v := nI (i + 1)) (lv' := [(4, .int (nI (i + 1))), (0, .ref kv), (1, .ref kb), (2, .int (nI d)), (3, .int (nI (d * 16)))]) hx hb dX4_buildMarks_101 hl rfl (xn_inc i 1) (by decide) rfl (fun ls hl => ?_)
        refine lv_goto (tgt := 48) hx hb dX4_buildMarks_104 rfl ?_
        have hl := lv_sub hl (l' := [(0, .ref kv), (1, .ref kb), (2, .int (nI d)), (3, .int (nI (d * 16))), (4, .int (nI (i + 1)))]) [1, 2, 3, 4, 0] rfl
        exact ih48 (nc - (i + 1)) (by omega) (i + 1) mk2 ls H locs rfl (by omega) (by first | exact hold | (intro j hj; unfold upd; rw [if_neg (by omega)]; exact hold j hj)) (by intro c kc; rw [chD]; first | (rw [if_neg (fun q => b71 q.1)]; exact hrow c kc) | (unfold upd; by_cases hq : c = kk; (subst hq; rw [if_pos rfl]; exact (if_pos ⟨b71, hek⟩).symm); (rw [if_neg (by omega), if_neg (fun q => hq ((nI_eq (by omega) (by omega)).mp (hek.symm.trans q.2)).symm)]; exact hrow c kc))) hl hP hD hS
      · skip
        refine lv_aload_n hx hb dX4_buildMarks_74 rfl (lv_at hl 0 rfl) ?_
        refine va_get (D := G.1) (ci := 4) (v := .ref km) (C := RX4) (T := TX4) (N := 5) hx hb hts hin4 hown hK.1 hP 5 rfl rfl 0 (by decide) (hts (.fieldLink RX4 9 "BackLenses$Views" "marks" "[I") (List.mem_of_getElem? (i := 1) rfl)) (fun _ h9 => h9) rfl dX4_buildMarks_75 ?_
        refine lv_iload_n hx hb dX4_buildMarks_78 rfl (lv_at hl 3 rfl) ?_
        refine lv_aload_n hx hb dX4_buildMarks_79 rfl (lv_at hl 1 rfl) ?_
        refine va_getN (D := G.1) (ci := 0) (v := .ref kc) (C := RX0) (T := TX0) (N := 7) hx hb hts hin0 hown hK.1 hP 1 rfl rfl 4 (by decide) (va_Nw.use rfl (hK.2 (Cond.fieldLinkNest "BackLenses$Views" (53 : Nat) "BackLenses$Book" "changes" "LBackLenses$Rows;" "BackLenses") (List.mem_of_getElem? (i := 16) rfl))) (fun _ h9 => h9) rfl dX4_buildMarks_80 ?_
        refine lv_iload hx hb dX4_buildMarks_83 (lv_at hl 4 rfl) ?_
        refine lv_iconst (v := nI 1) hx hb dX4_buildMarks_85 (by decide) ?_
        refine xr_i (As := [.int (nI i), .int (nI 1)]) (rest := [.int (nI (d * 16)), .ref km]) ⟨hx, hb, hml, hown, hts⟩ (c_X2_number l G kc kcn 10 nc fc i 1 (by first | assumption | omega) (by first | assumption | omega)) (cwV 2 hts gX4_buildMarks_X2_number rfl rfl rfl (by decide +kernel) ⟨Nat.le_of_ble_eq_true rfl, Nat.le_of_ble_eq_true rfl⟩) hK hP hS [2, 3] rfl rfl rfl rfl hl.1 rfl (Nat.le_of_ble_eq_true rfl) dX4_buildMarks_86 ⟨Nat.zero_le _, Nat.zero_le _⟩ (fun r86 H locs hp86 hP hS => ?_)
        obtain rfl : r86 = fc (3 * i + 1) := hp86
        obtain ⟨kk, hkk, hek⟩ := inR_nat (hcell i (by omega))
        refine xn_top hek ?_
        refine xn_iadd hx hb dX4_buildMarks_89 ?_
        refine lv_aload_n hx hb dX4_buildMarks_90 rfl (lv_at hl 1 rfl) ?_
        refine va_getN (D := G.1) (ci := 0) (v := .ref kc) (C := RX0) (T := TX0) (N := 7) hx hb hts hin0 hown hK.1 hP 1 rfl rfl 4 (by decide) (va_Nw.use rfl (hK.2 (Cond.fieldLinkNest "BackLenses$Views" (53 : Nat) "BackLenses$Book" "changes" "LBackLenses$Rows;" "BackLenses") (List.mem_of_getElem? (i := 16) rfl))) (fun _ h9 => h9) rfl dX4_buildMarks_91 ?_
        refine lv_iload hx hb dX4_buildMarks_94 (lv_at hl 4 rfl) ?_
        refine lv_iconst (v := nI 2) hx hb dX4_buildMarks_96 (by decide) ?_
        refine xr_i (As := [.int (nI i), .int (nI 2)]) (rest := [.int (nI ((d * 16) + kk)), .ref km]) ⟨hx, hb, hml, hown, hts⟩ (c_X2_number l G kc kcn 10 nc fc i 2 (by first | assumption | omega) (by first | assumption | omega)) (cwV 2 hts gX4_buildMarks_X2_number rfl rfl rfl (by decide +kernel) ⟨Nat.le_of_ble_eq_true rfl, Nat.le_of_ble_eq_true rfl⟩) hK hP hS [2, 3] rfl rfl rfl rfl hl.1 rfl (Nat.le_of_ble_eq_true rfl) dX4_buildMarks_97 ⟨Nat.zero_le _, Nat.zero_le _⟩ (fun r97 H locs hp97 hP hS => ?_)
        obtain rfl : r97 = fc (3 * i + 2) := hp97
        refine xn_iast hx hb hK hP hD hS 4 rfl (by omega) (by omega) dX4_buildMarks_100 (fun H locs hP hD hS => ?_)
        replace hP : xP G [iA G ka 16 af, oC kb 0 [.int (nI w), .int (nI h), .int (nI la), .ref ka, .ref kc, .ref kl, .ref kn], oC kc 2 [.ref kcn, .int (nI 10), .int (nI nc)], iA G kcn (3 * 10) fc, iA G km 176 (upd mk2 ((d * 16) + kk) (fc (3 * i + 2))), oC kv 4 [.ref km, .ref kg, .int (nI vw), .int (nI vh), .int sl]] H := hP
        replace hD : va_D (va_A (w_X4_buildMarks G kv km kg vw vh sl mk kb ka kc kcn kl kn w h la af nc fc) ss.heap.size) [iA G ka 16 af, oC kb 0 [.int (nI w), .int (nI h), .int (nI la), .ref ka, .ref kc, .ref kl, .ref kn], oC kc 2 [.ref kcn, .int (nI 10), .int (nI nc)], iA G kcn (3 * 10) fc, iA G km 176 (upd mk2 ((d * 16) + kk) (fc (3 * i + 2))), oC kv 4 [.ref km, .ref kg, .int (nI vw), .int (nI vh), .int sl]] := hD
        refine lv_iinc (k := 4) (v := nI (i + 1)) (lv' := [(4, .int (nI (i + 1))), (0, .ref kv), (1, .ref kb), (2, .int (nI d)), (3, .int (nI (d * 16)))]) hx hb dX4_buildMarks_101 hl rfl (xn_inc i 1) (by decide) rfl (fun ls hl => ?_)
        refine lv_goto (tgt := 48) hx hb dX4_buildMarks_104 rfl ?_
        have hl := lv_sub hl (l' := [(0, .ref kv), (1, .ref kb), (2, .int (nI d)), (3, .int (nI (d * 16))), (4, .int (nI (i + 1)))]) [1, 2, 3, 4, 0] rfl
        exact ih48 (nc - (i + 1)) (by omega) (i + 1) (upd mk2 ((d * 16) + kk) (fc (3 * i + 2))) ls H locs rfl (by omega) (by first | exact hold | (intro j hj; unfold upd; rw [if_neg (by omega)]; exact hold j hj)) (by intro c kc; rw [chD]; first | (rw [if_neg (fun q => b71 q.1)]; exact hrow c kc) | (unfold upd; by_cases hq : c = kk; (subst hq; rw [if_pos rfl]; exact (if_pos ⟨b71, hek⟩).symm); (rw [if_neg (by omega), if_neg (fun q => hq ((nI_eq (by omega) (by omega)).mp (hek.symm.trans q.2)).symm)]; exact hrow c kc))) hl hP hD hS
  refine lv_iload_n hx hb dX4_buildMarks_5 rfl (lv_at hl 3 rfl) ?_
  refine xn_if_ne (tgt := 27) hx hb (by omega) dX4_buildMarks_6 rfl (fun b6 => ?_) (fun b6 => ?_)
  · skip
    refine lv_aload_n hx hb dX4_buildMarks_27 rfl (lv_at hl 1 rfl) ?_
    refine va_get (D := G.1) (ci := 4) (v := .ref km) (C := RX4) (T := TX4) (N := 5) hx hb hts hin4 hown hK.1 hP 0 rfl rfl 0 (by decide) (hts (.fieldLink RX4 9 "BackLenses$Views" "marks" "[I") (List.mem_of_getElem? (i := 1) rfl)) (fun _ h9 => h9) rfl dX4_buildMarks_28 ?_
    refine lv_iload_n hx hb dX4_buildMarks_31 rfl (lv_at hl 0 rfl) ?_
    refine lv_bipush (v := nI 16) hx hb dX4_buildMarks_32 (by decide) ?_
    refine xn_isub hx hb (by omega) dX4_buildMarks_34 ?_
    refine lv_aload_n hx hb dX4_buildMarks_35 rfl (lv_at hl 1 rfl) ?_
    refine va_get (D := G.1) (ci := 4) (v := .ref km) (C := RX4) (T := TX4) (N := 5) hx hb hts hin4 hown hK.1 hP 0 rfl rfl 0 (by decide) (hts (.fieldLink RX4 9 "BackLenses$Views" "marks" "[I") (List.mem_of_getElem? (i := 1) rfl)) (fun _ h9 => h9) rfl dX4_buildMarks_36 ?_
    refine lv_iload_n hx hb dX4_buildMarks_39 rfl (lv_at hl 0 rfl) ?_
    refine lv_bipush (v := nI 16) hx hb dX4_buildMarks_40 (by decide) ?_
    refine xn_copyi (n := 16) (sp := (d * 16) - 16) (dp := d * 16) hx hb (by rw [hml]; exact hl.1.symm) hown (hts (.methodLink RX4 47 arraycopyName) (List.mem_of_getElem? (i := 2) rfl)) (hts (.native arraycopyName) (List.mem_of_getElem? (i := 3) rfl)) (hts (.static arraycopyName) (List.mem_of_getElem? (i := 4) rfl)) (hts (.initialized "java/lang/System") (List.mem_of_getElem? (i := 5) rfl)) hK hP hD hS 1 1 rfl rfl (by omega) (by omega) (by omega) (by omega) (Nat.le_of_ble_eq_true rfl) (Nat.le_of_ble_eq_true rfl) dX4_buildMarks_42 (fun H locs hP hD hS => ?_)
    replace hP : xP G [oC kv 4 [.ref km, .ref kg, .int (nI vw), .int (nI vh), .int sl], iA G km 176 (va_cpy mk mk ((d * 16) - 16) (d * 16) 16), oC kb 0 [.int (nI w), .int (nI h), .int (nI la), .ref ka, .ref kc, .ref kl, .ref kn], iA G ka 16 af, oC kc 2 [.ref kcn, .int (nI 10), .int (nI nc)], iA G kcn (3 * 10) fc] H := hP
    replace hD : va_D (va_A (w_X4_buildMarks G kv km kg vw vh sl mk kb ka kc kcn kl kn w h la af nc fc) ss.heap.size) [oC kv 4 [.ref km, .ref kg, .int (nI vw), .int (nI vh), .int sl], iA G km 176 (va_cpy mk mk ((d * 16) - 16) (d * 16) 16), oC kb 0 [.int (nI w), .int (nI h), .int (nI la), .ref ka, .ref kc, .ref kl, .ref kn], iA G ka 16 af, oC kc 2 [.ref kcn, .int (nI 10), .int (nI nc)], iA G kcn (3 * 10) fc] := hD
    refine lv_iconst (v := nI 0) hx hb dX4_buildMarks_45 (by decide) ?_
    refine lv_istore (lv' := [(4, .int (nI 0)), (3, .int (nI (d * 16))), (0, .ref kv), (1, .ref kb), (2, .int (nI d))]) hx hb dX4_buildMarks_46 hl (by decide) rfl (fun ls hl => ?_)
    have hl := lv_sub hl (l' := [(0, .ref kv), (1, .ref kb), (2, .int (nI d)), (3, .int (nI (d * 16))), (4, .int (nI 0))]) [2, 3, 4, 1, 0] rfl
    have hP := hP.sub (ws' := [iA G ka 16 af, oC kb 0 [.int (nI w), .int (nI h), .int (nI la), .ref ka, .ref kc, .ref kl, .ref kn], oC kc 2 [.ref kcn, .int (nI 10), .int (nI nc)], iA G kcn (3 * 10) fc, iA G km 176 (va_cpy mk mk ((d * 16) - 16) (d * 16) 16), oC kv 4 [.ref km, .ref kg, .int (nI vw), .int (nI vh), .int sl]]) [3, 2, 4, 5, 1, 0] rfl
    have hD := hD.sub (ws' := [iA G ka 16 af, oC kb 0 [.int (nI w), .int (nI h), .int (nI la), .ref ka, .ref kc, .ref kl, .ref kn], oC kc 2 [.ref kcn, .int (nI 10), .int (nI nc)], iA G kcn (3 * 10) fc, iA G km 176 (va_cpy mk mk ((d * 16) - 16) (d * 16) 16), oC kv 4 [.ref km, .ref kg, .int (nI vw), .int (nI vh), .int sl]]) [3, 2, 4, 5, 1, 0] (by decide) rfl
    exact hL48 (nc - 0) 0 (va_cpy mk mk ((d * 16) - 16) (d * 16) 16) ls H locs rfl (by omega) (by intro j hj; unfold va_cpy; rw [if_neg (by omega)]) (by intro c kc; unfold va_cpy; rw [if_pos (by omega), chD]; first | (subst b6; simp [mkB]) | (rcases hprev with hq | hq; exact absurd hq b6; obtain ⟨d, rfl⟩ : ∃ z, d = z + 1 := ⟨d - 1, by omega⟩; have hq2 := hq c kc; simp only [Nat.add_sub_cancel] at hq2; rw [mkB, ← hq2]; congr 1; omega)) hl hP hD hS
  · skip
    refine lv_aload_n hx hb dX4_buildMarks_9 rfl (lv_at hl 2 rfl) ?_
    refine va_getN (D := G.1) (ci := 0) (v := .ref ka) (C := RX0) (T := TX0) (N := 7) hx hb hts hin0 hown hK.1 hP 2 rfl rfl 3 (by decide) (va_Nw.use rfl (hK.2 (Cond.fieldLinkNest "BackLenses$Views" (44 : Nat) "BackLenses$Book" "atFirst" "[I" "BackLenses") (List.mem_of_getElem? (i := 13) rfl))) (fun _ h9 => h9) rfl dX4_buildMarks_10 ?_
    refine lv_iconst (v := nI 0) hx hb dX4_buildMarks_13 (by decide) ?_
    refine lv_aload_n hx hb dX4_buildMarks_14 rfl (lv_at hl 1 rfl) ?_
    refine va_get (D := G.1) (ci := 4) (v := .ref km) (C := RX4) (T := TX4) (N := 5) hx hb hts hin4 hown hK.1 hP 0 rfl rfl 0 (by decide) (hts (.fieldLink RX4 9 "BackLenses$Views" "marks" "[I") (List.mem_of_getElem? (i := 1) rfl)) (fun _ h9 => h9) rfl dX4_buildMarks_15 ?_
    refine lv_iconst (v := nI 0) hx hb dX4_buildMarks_18 (by decide) ?_
    refine lv_bipush (v := nI 16) hx hb dX4_buildMarks_19 (by decide) ?_
    refine xn_copyi (n := 16) (sp := 0) (dp := 0) hx hb (by rw [hml]; exact hl.1.symm) hown (hts (.methodLink RX4 47 arraycopyName) (List.mem_of_getElem? (i := 2) rfl)) (hts (.native arraycopyName) (List.mem_of_getElem? (i := 3) rfl)) (hts (.static arraycopyName) (List.mem_of_getElem? (i := 4) rfl)) (hts (.initialized "java/lang/System") (List.mem_of_getElem? (i := 5) rfl)) hK hP hD hS 3 1 rfl rfl (by omega) (by omega) (by omega) (by omega) (Nat.le_of_ble_eq_true rfl) (Nat.le_of_ble_eq_true rfl) dX4_buildMarks_21 (fun H locs hP hD hS => ?_)
    replace hP : xP G [oC kv 4 [.ref km, .ref kg, .int (nI vw), .int (nI vh), .int sl], iA G km 176 (va_cpy af mk 0 0 16), oC kb 0 [.int (nI w), .int (nI h), .int (nI la), .ref ka, .ref kc, .ref kl, .ref kn], iA G ka 16 af, oC kc 2 [.ref kcn, .int (nI 10), .int (nI nc)], iA G kcn (3 * 10) fc] H := hP
    replace hD : va_D (va_A (w_X4_buildMarks G kv km kg vw vh sl mk kb ka kc kcn kl kn w h la af nc fc) ss.heap.size) [oC kv 4 [.ref km, .ref kg, .int (nI vw), .int (nI vh), .int sl], iA G km 176 (va_cpy af mk 0 0 16), oC kb 0 [.int (nI w), .int (nI h), .int (nI la), .ref ka, .ref kc, .ref kl, .ref kn], iA G ka 16 af, oC kc 2 [.ref kcn, .int (nI 10), .int (nI nc)], iA G kcn (3 * 10) fc] := hD
    refine lv_goto (tgt := 45) hx hb dX4_buildMarks_24 rfl ?_
    refine lv_iconst (v := nI 0) hx hb dX4_buildMarks_45 (by decide) ?_
    refine lv_istore (lv' := [(4, .int (nI 0)), (3, .int (nI (d * 16))), (0, .ref kv), (1, .ref kb), (2, .int (nI d))]) hx hb dX4_buildMarks_46 hl (by decide) rfl (fun ls hl => ?_)
    have hl := lv_sub hl (l' := [(0, .ref kv), (1, .ref kb), (2, .int (nI d)), (3, .int (nI (d * 16))), (4, .int (nI 0))]) [2, 3, 4, 1, 0] rfl
    have hP := hP.sub (ws' := [iA G ka 16 af, oC kb 0 [.int (nI w), .int (nI h), .int (nI la), .ref ka, .ref kc, .ref kl, .ref kn], oC kc 2 [.ref kcn, .int (nI 10), .int (nI nc)], iA G kcn (3 * 10) fc, iA G km 176 (va_cpy af mk 0 0 16), oC kv 4 [.ref km, .ref kg, .int (nI vw), .int (nI vh), .int sl]]) [3, 2, 4, 5, 1, 0] rfl
    have hD := hD.sub (ws' := [iA G ka 16 af, oC kb 0 [.int (nI w), .int (nI h), .int (nI la), .ref ka, .ref kc, .ref kl, .ref kn], oC kc 2 [.ref kcn, .int (nI 10), .int (nI nc)], iA G kcn (3 * 10) fc, iA G km 176 (va_cpy af mk 0 0 16), oC kv 4 [.ref km, .ref kg, .int (nI vw), .int (nI vh), .int sl]]) [3, 2, 4, 5, 1, 0] (by decide) rfl
    exact hL48 (nc - 0) 0 (va_cpy af mk 0 0 16) ls H locs rfl (by omega) (by intro j hj; unfold va_cpy; rw [if_neg (by omega)]) (by intro c kc; unfold va_cpy; rw [if_pos (by omega), chD]; first | (subst b6; simp [mkB]) | (rcases hprev with hq | hq; exact absurd hq b6; obtain ⟨d, rfl⟩ : ∃ z, d = z + 1 := ⟨d - 1, by omega⟩; have hq2 := hq c kc; simp only [Nat.add_sub_cancel] at hq2; rw [mkB, ← hq2]; congr 1; omega)) hl hP hD hS

abbrev w_X4_build (G : XG) (kv km kg : Nat) (vw vh : Nat) (sl : Int32) (mk : Nat → Int32) (sg : Nat → Int32) (kb ka kc kcn kl kn : Nat) (w h la : Nat) (af : Nat → Int32) (nc : Nat) (fc : Nat → Int32) : va_W := [oC kv 4 [.ref km, .ref kg, .int (nI vw), .int (nI vh), .int sl], iA G km 176 mk, iA G kg 160 sg, oC kb 0 [.int (nI w), .int (nI h), .int (nI la), .ref ka, .ref kc, .ref kl, .ref kn], iA G ka 16 af, oC kc 2 [.ref kcn, .int (nI 10), .int (nI nc)], iA G kcn (3 * 10) fc]
abbrev Q_X4_build (G : XG) (sz : Nat) (kv km kg : Nat) (vw vh : Nat) (sl : Int32) (mk : Nat → Int32) (sg : Nat → Int32) (kb ka kc kcn kl kn : Nat) (w h la : Nat) (af : Nat → Int32) (nc : Nat) (fc : Nat → Int32) : Array Value → State → Outcome → State → Prop := (va_Qv (fun (u : (Nat → Int32) × (Nat → Int32)) => FR w h la af nc fc u.1 u.2) (xWb G sz (w_X4_build G kv km kg vw vh sl mk sg kb ka kc kcn kl kn w h la af nc fc) (fun u : (Nat → Int32) × (Nat → Int32) => [oC kv 4 [.ref km, .ref kg, .int (nI w), .int (nI h), .int (nI 0)], iA G km 176 u.1, iA G kg 160 u.2, oC kb 0 [.int (nI w), .int (nI h), .int (nI la), .ref ka, .ref kc, .ref kl, .ref kn], iA G ka 16 af, oC kc 2 [.ref kcn, .int (nI 10), .int (nI nc)], iA G kcn (3 * 10) fc])) (va_A (w_X4_build G kv km kg vw vh sl mk sg kb ka kc kcn kl kn w h la af nc fc) sz))
set_option maxHeartbeats 4000000 in
set_option maxRecDepth 100000 in
theorem c_X4_build (l : Launch) (G : XG) (sz : Nat) (kv km kg : Nat) (vw vh : Nat) (sl : Int32) (mk : Nat → Int32) (sg : Nat → Int32) (kb ka kc kcn kl kn : Nat) (w h la : Nat) (af : Nat → Int32) (nc : Nat) (fc : Nat → Int32) (hw : 1 ≤ w) (hwb : w ≤ 16) (hhb : h ≤ 16) (hwh : w * h ≤ 16) (hla : la ≤ 9) (hnc : nc ≤ 10) (hcell : ∀ i, i < nc → inR (fc (3 * i + 1)) 16) : Met l yX4_build wsX4_build ({ frames := 2, cells := 0, slots := 0, locals := 53 } : Room) (va_Pc [.ref kv, .ref kb] (xWp G sz (w_X4_build G kv km kg vw vh sl mk sg kb ka kc kcn kl kn w h la af nc fc))) (Q_X4_build G sz kv km kg vw vh sl mk sg kb ka kc kcn kl kn w h la af nc fc) 0 0 (va_A (w_X4_build G kv km kg vw vh sl mk sg kb ka kc kcn kl kn w h la af nc fc) sz) := by
  refine Met.ofW (cc := cX4_build) (maxL := 4) (ret := none) (by decide) rfl ?_
  intro pp ee ss mm aa below mt cd s₁ BB hml hv
  obtain ⟨rfl, hsz, hP, hK, hD0⟩ := hv
  have hx := BB.exec
  have hb := BB.bytes
  have hr := BB.returns
  have hts := atoms_spec (ws := wsX4_build) BB.pre
  have hown : ss.vm.findClass RX4 = some mm.cls := findClass_of_methodNamed BB.named
  have hlocks := BB.notSynchronized
  subst hsz
  have hD := hD0.self (sz := ss.heap.size)
  have hA : ∀ q : Nat, ss.heap.size ≤ q → va_A (w_X4_build G kv km kg vw vh sl mk sg kb ka kc kcn kl kn w h la af nc fc) ss.heap.size q := fun q h => Or.inr h
  have hS : va_S (va_A (w_X4_build G kv km kg vw vh sl mk sg kb ka kc kcn kl kn w h la af nc fc) ss.heap.size) ss.heap ss.heap [] := va_S.rf
  replace hD : va_D (va_A (w_X4_build G kv km kg vw vh sl mk sg kb ka kc kcn kl kn w h la af nc fc) ss.heap.size) [oC kv 4 [.ref km, .ref kg, .int (nI vw), .int (nI vh), .int sl], iA G km 176 mk, iA G kg 160 sg, oC kb 0 [.int (nI w), .int (nI h), .int (nI la), .ref ka, .ref kc, .ref kl, .ref kn], iA G ka 16 af, oC kc 2 [.ref kcn, .int (nI 10), .int (nI nc)], iA G kcn (3 * 10) fc] := hD
  replace hP : xP G [oC kv 4 [.ref km, .ref kg, .int (nI vw), .int (nI vh), .int sl], iA G km 176 mk, iA G kg 160 sg, oC kb 0 [.int (nI w), .int (nI h), .int (nI la), .ref ka, .ref kc, .ref kl, .ref kn], iA G ka 16 af, oC kc 2 [.ref kcn, .int (nI 10), .int (nI nc)], iA G kcn (3 * 10) fc] ss.heap := hP
  have hin0 : ∀ w ∈ u_ws RX0 TX0 7, w ∈ wsX4_build := fun w h => List.mem_cons_of_mem _ (List.mem_append_left _ (List.mem_append_left _ (List.mem_append_right _ h)))
  have hin2 : ∀ w ∈ u_ws RX2 TX2 3, w ∈ wsX4_build := fun w h => List.mem_cons_of_mem _ (List.mem_append_right _ h)
  have hin4 : ∀ w ∈ u_ws RX4 TX4 5, w ∈ wsX4_build := fun w h => List.mem_cons_of_mem _ (List.mem_append_left _ (List.mem_append_right _ h))
  have hl := lv_entry ([.ref kv, .ref kb]) (n := 4) (Nat.le_of_ble_eq_true rfl)
  rw [lg_entry_eq]
  generalize (lg_sl ([.ref kv, .ref kb]) ++ List.replicate (4 - (lg_sl ([.ref kv, .ref kb])).length) Slot.unset).toArray = ls at hl ⊢
  replace hl : lv_has ls 4 [(0, .ref kv), (1, .ref kb)] := hl
  refine lv_aload_n hx hb dX4_build_0 rfl (lv_at hl 0 rfl) ?_
  refine lv_aload_n hx hb dX4_build_1 rfl (lv_at hl 1 rfl) ?_
  refine va_getN (D := G.1) (ci := 0) (v := .int (nI w)) (C := RX0) (T := TX0) (N := 7) hx hb hts hin0 hown hK.1 hP 3 rfl rfl 0 (by decide) (va_Nw.use rfl (hK.2 (Cond.fieldLinkNest "BackLenses$Views" (22 : Nat) "BackLenses$Book" "wide" "I" "BackLenses") (List.mem_of_getElem? (i := 4) rfl))) (fun _ h9 => h9) rfl dX4_build_2 ?_
  refine va_put (D := G.1) (ci := 4) (v := .int (nI w)) (ty := .int) (C := RX4) (T := TX4) (N := 5) hx hb hts hin4 tyX4 tyX4_ok nmX4 hown hK.1 hP hD hS 0 rfl rfl 2 (by decide) (hts (.fieldLink RX4 28 "BackLenses$Views" "wide" "I") (List.mem_of_getElem? (i := 1) rfl)) (fun _ h9 => h9) rfl (by decide +kernel) rfl rfl (Nat.le_of_ble_eq_true rfl) dX4_build_5 (fun H locs hP hD hS => ?_)
  replace hP : xP G [oC kv 4 [.ref km, .ref kg, .int (nI w), .int (nI vh), .int sl], iA G km 176 mk, iA G kg 160 sg, oC kb 0 [.int (nI w), .int (nI h), .int (nI la), .ref ka, .ref kc, .ref kl, .ref kn], iA G ka 16 af, oC kc 2 [.ref kcn, .int (nI 10), .int (nI nc)], iA G kcn (3 * 10) fc] H := hP
  replace hD : va_D (va_A (w_X4_build G kv km kg vw vh sl mk sg kb ka kc kcn kl kn w h la af nc fc) ss.heap.size) [oC kv 4 [.ref km, .ref kg, .int (nI w), .int (nI vh), .int sl], iA G km 176 mk, iA G kg 160 sg, oC kb 0 [.int (nI w), .int (nI h), .int (nI la), .ref ka, .ref kc, .ref kl, .ref kn], iA G ka 16 af, oC kc 2 [.ref kcn, .int (nI 10), .int (nI nc)], iA G kcn (3 * 10) fc] := hD
  refine lv_aload_n hx hb dX4_build_8 rfl (lv_at hl 0 rfl) ?_
  refine lv_aload_n hx hb dX4_build_9 rfl (lv_at hl 1 rfl) ?_
  refine va_getN (D := G.1) (ci := 0) (v := .int (nI h)) (C := RX0) (T := TX0) (N := 7) hx hb hts hin0 hown hK.1 hP 3 rfl rfl 1 (by decide) (va_Nw.use rfl (hK.2 (Cond.fieldLinkNest "BackLenses$Views" (29 : Nat) "BackLenses$Book" "high" "I" "BackLenses") (List.mem_of_getElem? (i := 7) rfl))) (fun _ h9 => h9) rfl dX4_build_10 ?_
  refine va_put (D := G.1) (ci := 4) (v := .int (nI h)) (ty := .int) (C := RX4) (T := TX4) (N := 5) hx hb hts hin4 tyX4 tyX4_ok nmX4 hown hK.1 hP hD hS 0 rfl rfl 3 (by decide) (hts (.fieldLink RX4 32 "BackLenses$Views" "high" "I") (List.mem_of_getElem? (i := 2) rfl)) (fun _ h9 => h9) rfl (by decide +kernel) rfl rfl (Nat.le_of_ble_eq_true rfl) dX4_build_13 (fun H locs hP hD hS => ?_)
  replace hP : xP G [oC kv 4 [.ref km, .ref kg, .int (nI w), .int (nI h), .int sl], iA G km 176 mk, iA G kg 160 sg, oC kb 0 [.int (nI w), .int (nI h), .int (nI la), .ref ka, .ref kc, .ref kl, .ref kn], iA G ka 16 af, oC kc 2 [.ref kcn, .int (nI 10), .int (nI nc)], iA G kcn (3 * 10) fc] H := hP
  replace hD : va_D (va_A (w_X4_build G kv km kg vw vh sl mk sg kb ka kc kcn kl kn w h la af nc fc) ss.heap.size) [oC kv 4 [.ref km, .ref kg, .int (nI w), .int (nI h), .int sl], iA G km 176 mk, iA G kg 160 sg, oC kb 0 [.int (nI w), .int (nI h), .int (nI la), .ref ka, .ref kc, .ref kl, .ref kn], iA G ka 16 af, oC kc 2 [.ref kcn, .int (nI 10), .int (nI nc)], iA G kcn (3 * 10) fc] := hD
  refine lv_iconst (v := nI 0) hx hb dX4_build_16 (by decide) ?_
  refine lv_istore_n (lv' := [(2, .int (nI 0)), (0, .ref kv), (1, .ref kb)]) hx hb dX4_build_17 rfl hl (by decide) rfl (fun ls hl => ?_)
  have hL18 : ∀ k : Nat, ∀ (d : Nat) (mk2 : Nat → Int32) (sg2 : Nat → Int32) (ls : Array Slot) (H : Heap) (locs : List Loc), la + 1 - d = k → (d ≤ la + 1) → (∀ d2, d2 < d → (∀ c, c < 16 → mk2 (d2 * 16 + c) = mkS af nc fc c d2) ∧ ∀ x, x < w * h → sg2 (d2 * 16 + x) = sgF w h (fun c => mkS af nc fc c d2) x) → lv_has ls 4 [(0, .ref kv), (1, .ref kb), (2, .int (nI d))] → xP G [iA G ka 16 af, oC kb 0 [.int (nI w), .int (nI h), .int (nI la), .ref ka, .ref kc, .ref kl, .ref kn], oC kc 2 [.ref kcn, .int (nI 10), .int (nI nc)], iA G kcn (3 * 10) fc, iA G kg 160 sg2, iA G km 176 mk2, oC kv 4 [.ref km, .ref kg, .int (nI w), .int (nI h), .int sl]] H → va_D (va_A (w_X4_build G kv km kg vw vh sl mk sg kb ka kc kcn kl kn w h la af nc fc) ss.heap.size) [iA G ka 16 af, oC kb 0 [.int (nI w), .int (nI h), .int (nI la), .ref ka, .ref kc, .ref kl, .ref kn], oC kc 2 [.ref kcn, .int (nI 10), .int (nI nc)], iA G kcn (3 * 10) fc, iA G kg 160 sg2, iA G km 176 mk2, oC kv 4 [.ref km, .ref kg, .int (nI w), .int (nI h), .int sl]] → va_S (va_A (w_X4_build G kv km kg vw vh sl mk sg kb ka kc kcn kl kn w h la af nc fc) ss.heap.size) ss.heap H locs → W pp l ee ({ frames := 2, cells := 0, slots := 0, locals := 53 } : Room) ss mm ([.ref kv, .ref kb] : List Value).toArray below mt cd H locs 0 0 (MQ below (Q_X4_build G ss.heap.size kv km kg vw vh sl mk sg kb ka kc kcn kl kn w h la af nc fc) ([.ref kv, .ref kb] : List Value).toArray ss 0 0 (va_A (w_X4_build G kv km kg vw vh sl mk sg kb ka kc kcn kl kn w h la af nc fc) ss.heap.size)) (F0 mm 18 ls []) := by
    intro k
    induction k using Nat.strongRecOn with
    | _ k ih18 =>
    intro d mk2 sg2 ls H locs hm18 hd hfr hl hP hD hS
    refine lv_iload_n hx hb dX4_build_18 rfl (lv_at hl 2 rfl) ?_
    refine lv_aload_n hx hb dX4_build_19 rfl (lv_at hl 1 rfl) ?_
    refine va_getN (D := G.1) (ci := 0) (v := .int (nI la)) (C := RX0) (T := TX0) (N := 7) hx hb hts hin0 hown hK.1 hP 1 rfl rfl 2 (by decide) (va_Nw.use rfl (hK.2 (Cond.fieldLinkNest "BackLenses$Views" (33 : Nat) "BackLenses$Book" "last" "I" "BackLenses") (List.mem_of_getElem? (i := 10) rfl))) (fun _ h9 => h9) rfl dX4_build_20 ?_
    refine xn_icmp_gt (tgt := 79) hx hb (by omega) (by omega) dX4_build_23 rfl (fun b23 => ?_) (fun b23 => ?_)
    · skip
      refine lv_aload_n hx hb dX4_build_79 rfl (lv_at hl 0 rfl) ?_
      refine lv_iconst (v := nI 0) hx hb dX4_build_80 (by decide) ?_
      refine va_put (D := G.1) (ci := 4) (v := .int (nI 0)) (ty := .boolean) (C := RX4) (T := TX4) (N := 5) hx hb hts hin4 tyX4 tyX4_ok nmX4 hown hK.1 hP hD hS 6 rfl rfl 4 (by decide) (hts (.fieldLink RX4 18 "BackLenses$Views" "stale" "Z") (List.mem_of_getElem? (i := 4) rfl)) (fun _ h9 => h9) rfl (by decide +kernel) (by decide) (by decide) (Nat.le_of_ble_eq_true rfl) dX4_build_81 (fun H locs hP hD hS => ?_)
      replace hP : xP G [iA G ka 16 af, oC kb 0 [.int (nI w), .int (nI h), .int (nI la), .ref ka, .ref kc, .ref kl, .ref kn], oC kc 2 [.ref kcn, .int (nI 10), .int (nI nc)], iA G kcn (3 * 10) fc, iA G kg 160 sg2, iA G km 176 mk2, oC kv 4 [.ref km, .ref kg, .int (nI w), .int (nI h), .int (nI 0)]] H := hP
      replace hD : va_D (va_A (w_X4_build G kv km kg vw vh sl mk sg kb ka kc kcn kl kn w h la af nc fc) ss.heap.size) [iA G ka 16 af, oC kb 0 [.int (nI w), .int (nI h), .int (nI la), .ref ka, .ref kc, .ref kl, .ref kn], oC kc 2 [.ref kcn, .int (nI 10), .int (nI nc)], iA G kcn (3 * 10) fc, iA G kg 160 sg2, iA G km 176 mk2, oC kv 4 [.ref km, .ref kg, .int (nI w), .int (nI h), .int (nI 0)]] := hD
      have hP := hP.sub (ws' := [oC kv 4 [.ref km, .ref kg, .int (nI w), .int (nI h), .int (nI 0)], iA G km 176 mk2, iA G kg 160 sg2, oC kb 0 [.int (nI w), .int (nI h), .int (nI la), .ref ka, .ref kc, .ref kl, .ref kn], iA G ka 16 af, oC kc 2 [.ref kcn, .int (nI 10), .int (nI nc)], iA G kcn (3 * 10) fc]) [6, 5, 4, 1, 0, 2, 3] rfl
      have hD := hD.sub (ws' := [oC kv 4 [.ref km, .ref kg, .int (nI w), .int (nI h), .int (nI 0)], iA G km 176 mk2, iA G kg 160 sg2, oC kb 0 [.int (nI w), .int (nI h), .int (nI la), .ref ka, .ref kc, .ref kl, .ref kn], iA G ka 16 af, oC kc 2 [.ref kcn, .int (nI 10), .int (nI nc)], iA G kcn (3 * 10) fc]) [6, 5, 4, 1, 0, 2, 3] (by decide) rfl
      refine W.vret hx hb hr (fun t ht hW => ⟨⟨(mk2, sg2), rfl, ?_, by rw [ht]; exact hP, hD⟩, hS.F ht⟩) hS.2.2 dX4_build_84
      try dsimp only
      intro d2 q2; exact hfr d2 (by omega)
    · skip
      refine lv_aload_n hx hb dX4_build_26 rfl (lv_at hl 0 rfl) ?_
      refine lv_aload_n hx hb dX4_build_27 rfl (lv_at hl 1 rfl) ?_
      refine lv_iload_n hx hb dX4_build_28 rfl (lv_at hl 2 rfl) ?_
      refine xw_v (As := [.ref kb, .int (nI d)]) (rest := []) (wr := [iA G kg 160 sg2]) ⟨hx, hb, hml, hown, hts⟩ (c_X4_buildMarks l G H.size kv km kg w h sl mk2 kb ka kc kcn kl kn w h la af nc fc d (by first | assumption | omega) (by first | assumption | omega) (by first | assumption | omega) (by by_cases q1 : d = 0; exact Or.inl q1; exact Or.inr (fun c q2 => (hfr (d - 1) (by omega)).1 c q2))) (cwV 2 hts gX4_build_X4_buildMarks rfl rfl rfl (by decide +kernel) ⟨Nat.le_of_ble_eq_true rfl, Nat.le_of_ble_eq_true rfl⟩) hK hP hD hS hA [6, 5, 1, 0, 2, 3] [4] rfl rfl (by decide) (by decide) (by decide) rfl rfl rfl hl.1 rfl (Nat.le_of_ble_eq_true rfl) dX4_build_29 ⟨Nat.le_of_ble_eq_true rfl, Nat.le_of_ble_eq_true rfl⟩ (fun u H locs hp29 hP hD hS => ?_)
      obtain ⟨mk2_29, rfl⟩ : ∃ z, z = u := ⟨_, rfl⟩
      try dsimp only at hp29 hP hD
      have he29 := hp29
      replace hP : xP G [iA G kg 160 sg2, oC kv 4 [.ref km, .ref kg, .int (nI w), .int (nI h), .int sl], iA G km 176 mk2_29, oC kb 0 [.int (nI w), .int (nI h), .int (nI la), .ref ka, .ref kc, .ref kl, .ref kn], iA G ka 16 af, oC kc 2 [.ref kcn, .int (nI 10), .int (nI nc)], iA G kcn (3 * 10) fc] H := hP
      replace hD : va_D (va_A (w_X4_build G kv km kg vw vh sl mk sg kb ka kc kcn kl kn w h la af nc fc) ss.heap.size) [iA G kg 160 sg2, oC kv 4 [.ref km, .ref kg, .int (nI w), .int (nI h), .int sl], iA G km 176 mk2_29, oC kb 0 [.int (nI w), .int (nI h), .int (nI la), .ref ka, .ref kc, .ref kl, .ref kn], iA G ka 16 af, oC kc 2 [.ref kcn, .int (nI 10), .int (nI nc)], iA G kcn (3 * 10) fc] := hD
      refine lv_iconst (v := nI 0) hx hb dX4_build_32 (by decide) ?_
      refine lv_istore_n (lv' := [(3, .int (nI 0)), (0, .ref kv), (1, .ref kb), (2, .int (nI d))]) hx hb dX4_build_33 rfl hl (by decide) rfl (fun ls hl => ?_)
      have hL34 : ∀ k : Nat, ∀ (x : Nat) (sg3 : Nat → Int32) (ls : Array Slot) (H : Heap) (locs : List Loc), w * h - x = k → (x ≤ w * h) → (∀ d2, d2 < d → (∀ c, c < 16 → mk2_29 (d2 * 16 + c) = mkS af nc fc c d2) ∧ ∀ x, x < w * h → sg3 (d2 * 16 + x) = sgF w h (fun c => mkS af nc fc c d2) x) → (∀ x2, x2 < x → sg3 (d * 16 + x2) = sgF w h (fun c => mkS af nc fc c d) x2) → lv_has ls 4 [(0, .ref kv), (1, .ref kb), (2, .int (nI d)), (3, .int (nI x))] → xP G [iA G ka 16 af, oC kb 0 [.int (nI w), .int (nI h), .int (nI la), .ref ka, .ref kc, .ref kl, .ref kn], oC kc 2 [.ref kcn, .int (nI 10), .int (nI nc)], iA G kcn (3 * 10) fc, iA G kg 160 sg3, iA G km 176 mk2_29, oC kv 4 [.ref km, .ref kg, .int (nI w), .int (nI h), .int sl]] H → va_D (va_A (w_X4_build G kv km kg vw vh sl mk sg kb ka kc kcn kl kn w h la af nc fc) ss.heap.size) [iA G ka 16 af, oC kb 0 [.int (nI w), .int (nI h), .int (nI la), .ref ka, .ref kc, .ref kl, .ref kn], oC kc 2 [.ref kcn, .int (nI 10), .int (nI nc)], iA G kcn (3 * 10) fc, iA G kg 160 sg3, iA G km 176 mk2_29, oC kv 4 [.ref km, .ref kg, .int (nI w), .int (nI h), .int sl]] → va_S (va_A (w_X4_build G kv km kg vw vh sl mk sg kb ka kc kcn kl kn w h la af nc fc) ss.heap.size) ss.heap H locs → W pp l ee ({ frames := 2, cells := 0, slots := 0, locals := 53 } : Room) ss mm ([.ref kv, .ref kb] : List Value).toArray below mt cd H locs 0 0 (MQ below (Q_X4_build G ss.heap.size kv km kg vw vh sl mk sg kb ka kc kcn kl kn w h la af nc fc) ([.ref kv, .ref kb] : List Value).toArray ss 0 0 (va_A (w_X4_build G kv km kg vw vh sl mk sg kb ka kc kcn kl kn w h la af nc fc) ss.heap.size)) (F0 mm 34 ls []) := by
        intro k
        induction k using Nat.strongRecOn with
        | _ k ih34 =>
        intro x sg3 ls H locs hm34 hxi hfr2 hrow hl hP hD hS
        refine lv_iload_n hx hb dX4_build_34 rfl (lv_at hl 3 rfl) ?_
        refine lv_aload_n hx hb dX4_build_35 rfl (lv_at hl 0 rfl) ?_
        refine va_get (D := G.1) (ci := 4) (v := .int (nI w)) (C := RX4) (T := TX4) (N := 5) hx hb hts hin4 hown hK.1 hP 6 rfl rfl 2 (by decide) (hts (.fieldLink RX4 28 "BackLenses$Views" "wide" "I") (List.mem_of_getElem? (i := 1) rfl)) (fun _ h9 => h9) rfl dX4_build_36 ?_
        refine lv_aload_n hx hb dX4_build_39 rfl (lv_at hl 0 rfl) ?_
        refine va_get (D := G.1) (ci := 4) (v := .int (nI h)) (C := RX4) (T := TX4) (N := 5) hx hb hts hin4 hown hK.1 hP 6 rfl rfl 3 (by decide) (hts (.fieldLink RX4 32 "BackLenses$Views" "high" "I") (List.mem_of_getElem? (i := 2) rfl)) (fun _ h9 => h9) rfl dX4_build_40 ?_
        refine xn_imul hx hb dX4_build_43 ?_
        refine xn_icmp_ge (tgt := 73) hx hb (by omega) (by omega) dX4_build_44 rfl (fun b44 => ?_) (fun b44 => ?_)
        · skip
          refine lv_iinc (k := 2) (v := nI (d + 1)) (lv' := [(2, .int (nI (d + 1))), (0, .ref kv), (1, .ref kb), (3, .int (nI x))]) hx hb dX4_build_73 hl rfl (xn_inc d 1) (by decide) rfl (fun ls hl => ?_)
          refine lv_goto (tgt := 18) hx hb dX4_build_76 rfl ?_
          have hl := lv_sub hl (l' := [(0, .ref kv), (1, .ref kb), (2, .int (nI (d + 1)))]) [1, 2, 0] rfl
          exact ih18 (la + 1 - (d + 1)) (by omega) (d + 1) mk2_29 sg3 ls H locs rfl (by omega) (by intro d2 q2; by_cases q3 : d2 < d; exact hfr2 d2 q3; obtain rfl : d2 = d := (by omega); exact ⟨he29.2, fun x2 q4 => hrow x2 (by omega)⟩) hl hP hD hS
        · skip
          refine lv_aload_n hx hb dX4_build_47 rfl (lv_at hl 0 rfl) ?_
          refine va_get (D := G.1) (ci := 4) (v := .ref kg) (C := RX4) (T := TX4) (N := 5) hx hb hts hin4 hown hK.1 hP 6 rfl rfl 1 (by decide) (hts (.fieldLink RX4 15 "BackLenses$Views" "sights" "[I") (List.mem_of_getElem? (i := 3) rfl)) (fun _ h9 => h9) rfl dX4_build_48 ?_
          refine lv_iload_n hx hb dX4_build_51 rfl (lv_at hl 2 rfl) ?_
          refine lv_bipush (v := nI 16) hx hb dX4_build_52 (by decide) ?_
          refine xn_imul hx hb dX4_build_54 ?_
          refine lv_iload_n hx hb dX4_build_55 rfl (lv_at hl 3 rfl) ?_
          refine xn_iadd hx hb dX4_build_56 ?_
          refine lv_aload_n hx hb dX4_build_57 rfl (lv_at hl 0 rfl) ?_
          refine lv_iload_n hx hb dX4_build_58 rfl (lv_at hl 2 rfl) ?_
          refine lv_bipush (v := nI 16) hx hb dX4_build_59 (by decide) ?_
          refine xn_imul hx hb dX4_build_61 ?_
          refine lv_iload_n hx hb dX4_build_62 rfl (lv_at hl 3 rfl) ?_
          refine xr_i (As := [.int (nI (d * 16)), .int (nI x)]) (rest := [.int (nI ((d * 16) + x)), .ref kg]) ⟨hx, hb, hml, hown, hts⟩ (c_X4_sight l G kv km kg w h sl mk2_29 (d * 16) x (by first | assumption | omega) (by first | assumption | omega) (by first | assumption | omega) (by first | assumption | omega) (by first | assumption | omega) (by first | assumption | omega)) (cwV 2 hts gX4_build_X4_sight rfl rfl rfl (by decide +kernel) ⟨Nat.le_of_ble_eq_true rfl, Nat.le_of_ble_eq_true rfl⟩) hK hP hS [6, 5] rfl rfl rfl rfl hl.1 rfl (Nat.le_of_ble_eq_true rfl) dX4_build_63 ⟨Nat.zero_le _, Nat.zero_le _⟩ (fun r63 H locs hp63 hP hS => ?_)
          obtain rfl : r63 = sgF w h (fun c => mk2_29 ((d * 16) + c)) x := hp63
          refine xn_iast hx hb hK hP hD hS 4 rfl (by omega) (by omega) dX4_build_66 (fun H locs hP hD hS => ?_)
          replace hP : xP G [iA G ka 16 af, oC kb 0 [.int (nI w), .int (nI h), .int (nI la), .ref ka, .ref kc, .ref kl, .ref kn], oC kc 2 [.ref kcn, .int (nI 10), .int (nI nc)], iA G kcn (3 * 10) fc, iA G kg 160 (upd sg3 ((d * 16) + x) (sgF w h (fun c => mk2_29 ((d * 16) + c)) x)), iA G km 176 mk2_29, oC kv 4 [.ref km, .ref kg, .int (nI w), .int (nI h), .int sl]] H := hP
          replace hD : va_D (va_A (w_X4_build G kv km kg vw vh sl mk sg kb ka kc kcn kl kn w h la af nc fc) ss.heap.size) [iA G ka 16 af, oC kb 0 [.int (nI w), .int (nI h), .int (nI la), .ref ka, .ref kc, .ref kl, .ref kn], oC kc 2 [.ref kcn, .int (nI 10), .int (nI nc)], iA G kcn (3 * 10) fc, iA G kg 160 (upd sg3 ((d * 16) + x) (sgF w h (fun c => mk2_29 ((d * 16) + c)) x)), iA G km 176 mk2_29, oC kv 4 [.ref km, .ref kg, .int (nI w), .int (nI h), .int sl]] := hD
          refine lv_iinc (k := 3) (v := nI (x + 1)) (lv' := [(3, .int (nI (x + 1))), (0, .ref kv), (1, .ref kb), (2, .int (nI d))]) hx hb dX4_build_67 hl rfl (xn_inc x 1) (by decide) rfl (fun ls hl => ?_)
          refine lv_goto (tgt := 34) hx hb dX4_build_70 rfl ?_
          have hl := lv_sub hl (l' := [(0, .ref kv), (1, .ref kb), (2, .int (nI d)), (3, .int (nI (x + 1)))]) [1, 2, 3, 0] rfl
          exact ih34 (w * h - (x + 1)) (by omega) (x + 1) (upd sg3 ((d * 16) + x) (sgF w h (fun c => mk2_29 ((d * 16) + c)) x)) ls H locs rfl (by omega) (by intro d2 q2; exact ⟨(hfr2 d2 q2).1, fun x2 q3 => by unfold upd; rw [if_neg (by omega)]; exact (hfr2 d2 q2).2 x2 q3⟩) (by intro x2 q2; unfold upd; by_cases q3 : x2 = x; subst q3; rw [if_pos rfl]; exact sgF_congr (by omega) (by omega) (fun c q4 => he29.2 c (by omega)); rw [if_neg (by omega)]; exact hrow x2 (by omega)) hl hP hD hS
      have hl := lv_sub hl (l' := [(0, .ref kv), (1, .ref kb), (2, .int (nI d)), (3, .int (nI 0))]) [1, 2, 3, 0] rfl
      have hP := hP.sub (ws' := [iA G ka 16 af, oC kb 0 [.int (nI w), .int (nI h), .int (nI la), .ref ka, .ref kc, .ref kl, .ref kn], oC kc 2 [.ref kcn, .int (nI 10), .int (nI nc)], iA G kcn (3 * 10) fc, iA G kg 160 sg2, iA G km 176 mk2_29, oC kv 4 [.ref km, .ref kg, .int (nI w), .int (nI h), .int sl]]) [4, 3, 5, 6, 0, 2, 1] rfl
      have hD := hD.sub (ws' := [iA G ka 16 af, oC kb 0 [.int (nI w), .int (nI h), .int (nI la), .ref ka, .ref kc, .ref kl, .ref kn], oC kc 2 [.ref kcn, .int (nI 10), .int (nI nc)], iA G kcn (3 * 10) fc, iA G kg 160 sg2, iA G km 176 mk2_29, oC kv 4 [.ref km, .ref kg, .int (nI w), .int (nI h), .int sl]]) [4, 3, 5, 6, 0, 2, 1] (by decide) rfl
      exact hL34 (w * h - 0) 0 sg2 ls H locs rfl (by omega) (by intro d2 q2; exact ⟨fun c q3 => by rw [he29.1 _ (by omega)]; exact (hfr d2 q2).1 c q3, (hfr d2 q2).2⟩) (by intro x2 q2; exact absurd q2 (Nat.not_lt_zero _)) hl hP hD hS
  have hl := lv_sub hl (l' := [(0, .ref kv), (1, .ref kb), (2, .int (nI 0))]) [1, 2, 0] rfl
  have hP := hP.sub (ws' := [iA G ka 16 af, oC kb 0 [.int (nI w), .int (nI h), .int (nI la), .ref ka, .ref kc, .ref kl, .ref kn], oC kc 2 [.ref kcn, .int (nI 10), .int (nI nc)], iA G kcn (3 * 10) fc, iA G kg 160 sg, iA G km 176 mk, oC kv 4 [.ref km, .ref kg, .int (nI w), .int (nI h), .int sl]]) [4, 3, 5, 6, 2, 1, 0] rfl
  have hD := hD.sub (ws' := [iA G ka 16 af, oC kb 0 [.int (nI w), .int (nI h), .int (nI la), .ref ka, .ref kc, .ref kl, .ref kn], oC kc 2 [.ref kcn, .int (nI 10), .int (nI nc)], iA G kcn (3 * 10) fc, iA G kg 160 sg, iA G km 176 mk, oC kv 4 [.ref km, .ref kg, .int (nI w), .int (nI h), .int sl]]) [4, 3, 5, 6, 2, 1, 0] (by decide) rfl
  exact hL18 (la + 1 - 0) 0 mk sg ls H locs rfl (by omega) (by intro d2 q2; exact absurd q2 (Nat.not_lt_zero _)) hl hP hD hS

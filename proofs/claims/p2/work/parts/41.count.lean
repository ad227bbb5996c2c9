abbrev w_X5_read_b (G : XG) (kx kim kit kv kre ksh kwa kta : Nat) (tf rf : Int32) (kb : Nat) : va_W := [oC kx 5 [.ref kb, .ref kim, .ref kit, .ref kv, .ref kre, .int tf, .ref ksh, .int rf, .ref kwa, .ref kta]]
abbrev Q_X5_read_b (G : XG) (kx kim kit kv kre ksh kwa kta : Nat) (tf rf : Int32) (kb : Nat) (k lane f0 n : Int32) : Array Value → State → Outcome → State → Prop := (xRi (fun r => r = (-1)))
set_option maxHeartbeats 4000000 in
set_option maxRecDepth 100000 in
theorem c_X5_read_b (l : Launch) (G : XG) (kx kim kit kv kre ksh kwa kta : Nat) (tf rf : Int32) (kb : Nat) (k lane f0 n : Int32) (hbad : ¬ (inR k 4 ∧ inR lane 3 ∧ inR n 14)) : Met l yX5_read wsX5_read ({ frames := 1, cells := 0, slots := 0, locals := 20 } : Room) (va_Pc [.ref kx, .int k, .int lane, .int f0, .int n] (xRp G (w_X5_read_b G kx kim kit kv kre ksh kwa kta tf rf kb))) (Q_X5_read_b G kx kim kit kv kre ksh kwa kta tf rf kb k lane f0 n) 0 0 (fun _ => False) := by
  refine Met.ofW (cc := cX5_read) (maxL := 10) (ret := (some .int)) (by decide) rfl ?_
  intro pp ee ss mm aa below mt cd s₁ BB hml hv
  obtain ⟨rfl, hP, hK⟩ := hv
  have hx := BB.exec
  have hb := BB.bytes
  have hr := BB.returns
  have hts := atoms_spec (ws := wsX5_read) BB.pre
  have hown : ss.vm.findClass RX5 = some mm.cls := findClass_of_methodNamed BB.named
  have hlocks := BB.notSynchronized
  have hS : va_S (fun _ => False) ss.heap ss.heap [] := va_S.rf
  replace hP : xP G [oC kx 5 [.ref kb, .ref kim, .ref kit, .ref kv, .ref kre, .int tf, .ref ksh, .int rf, .ref kwa, .ref kta]] ss.heap := hP
  have hin0 : ∀ w ∈ u_ws RX0 TX0 7, w ∈ wsX5_read := fun w h => List.mem_cons_of_mem _ (List.mem_append_left _ (List.mem_append_left _ (List.mem_append_left _ (List.mem_append_right _ h))))
  have hin2 : ∀ w ∈ u_ws RX2 TX2 3, w ∈ wsX5_read := fun w h => List.mem_cons_of_mem _ (List.mem_append_left _ (List.mem_append_left _ (List.mem_append_right _ h)))
  have hin3 : ∀ w ∈ u_ws RX3 TX3 3, w ∈ wsX5_read := fun w h => List.mem_cons_of_mem _ (List.mem_append_right _ h)
  have hin4 : ∀ w ∈ u_ws RX4 TX4 5, w ∈ wsX5_read := fun w h => List.mem_cons_of_mem _ (List.mem_append_left _ (List.mem_append_right _ h))
  have hin5 : ∀ w ∈ u_ws RX5 TX5 10, w ∈ wsX5_read := fun w h => List.mem_cons_of_mem _ (List.mem_append_left _ (List.mem_append_left _ (List.mem_append_left _ (List.mem_append_left _ (List.mem_append_right _ h)))))
  have hl := lv_entry ([.ref kx, .int k, .int lane, .int f0, .int n]) (n := 10) (Nat.le_of_ble_eq_true rfl)
  rw [lg_entry_eq]
  generalize (lg_sl ([.ref kx, .int k, .int lane, .int f0, .int n]) ++ List.replicate (10 - (lg_sl ([.ref kx, .int k, .int lane, .int f0, .int n])).length) Slot.unset).toArray = ls at hl ⊢
  replace hl : lv_has ls 10 [(0, .ref kx), (1, .int k), (2, .int lane), (3, .int f0), (4, .int n)] := hl
  refine lv_iload_n hx hb dX5_read_0 rfl (lv_at hl 1 rfl) ?_
  refine xs_i (As := [.int k]) (rest := []) ⟨hx, hb, hml, hown, hts⟩ (c_X5_isSheet l G k ) (va_cwS 1 hts gX5_read_X5_isSheet rfl rfl rfl (by decide +kernel) ⟨Nat.le_of_ble_eq_true rfl, Nat.le_of_ble_eq_true rfl⟩) hP hS rfl hl.1 rfl (Nat.le_of_ble_eq_true rfl) dX5_read_1 ⟨Nat.zero_le _, Nat.zero_le _⟩ (fun r1 H locs hp1 hP hS => ?_)
  rw [show r1 = _ from hp1]
  refine xb_if_eq (tgt := 26) hx hb dX5_read_4 rfl (fun b4 => ?_) (fun b4 => ?_)
  · skip
    refine lv_iconst (v := (-1)) hx hb dX5_read_26 (by decide) ?_
    refine W.iret (v := (-1)) hx hb hr (fun t ht hW => ⟨⟨(-1), (), rfl, ?_, trivial⟩, hS.F ht⟩) hS.2.2 dX5_read_27
    rfl
  · skip
    refine lv_iload_n hx hb dX5_read_7 rfl (lv_at hl 2 rfl) ?_
    refine xs_i (As := [.int lane]) (rest := []) ⟨hx, hb, hml, hown, hts⟩ (c_X5_isLane l G lane ) (va_cwS 1 hts gX5_read_X5_isLane rfl rfl rfl (by decide +kernel) ⟨Nat.le_of_ble_eq_true rfl, Nat.le_of_ble_eq_true rfl⟩) hP hS rfl hl.1 rfl (Nat.le_of_ble_eq_true rfl) dX5_read_8 ⟨Nat.zero_le _, Nat.zero_le _⟩ (fun r8 H locs hp8 hP hS => ?_)
    rw [show r8 = _ from hp8]
    refine xb_if_eq (tgt := 26) hx hb dX5_read_11 rfl (fun b11 => ?_) (fun b11 => ?_)
    · skip
      refine lv_iconst (v := (-1)) hx hb dX5_read_26 (by decide) ?_
      refine W.iret (v := (-1)) hx hb hr (fun t ht hW => ⟨⟨(-1), (), rfl, ?_, trivial⟩, hS.F ht⟩) hS.2.2 dX5_read_27
      rfl
    · skip
      refine lv_iload hx hb dX5_read_14 (lv_at hl 4 rfl) ?_
      refine xi_if_lt (tgt := 26) hx hb dX5_read_16 rfl (fun b16 => ?_) (fun b16 => ?_)
      · skip
        refine lv_iconst (v := (-1)) hx hb dX5_read_26 (by decide) ?_
        refine W.iret (v := (-1)) hx hb hr (fun t ht hW => ⟨⟨(-1), (), rfl, ?_, trivial⟩, hS.F ht⟩) hS.2.2 dX5_read_27
        rfl
      · skip
        refine lv_iload hx hb dX5_read_19 (lv_at hl 4 rfl) ?_
        refine lv_bipush (v := nI 13) hx hb dX5_read_21 (by decide) ?_
        refine xm_icmp_le (tgt := 28) hx hb (by omega) dX5_read_23 rfl (fun b23 => ?_) (fun b23 => ?_)
        · skip
          exact absurd ⟨b4, b11, (show inR n 14 by unfold inR; omega)⟩ hbad
        · skip
          refine lv_iconst (v := (-1)) hx hb dX5_read_26 (by decide) ?_
          refine W.iret (v := (-1)) hx hb hr (fun t ht hW => ⟨⟨(-1), (), rfl, ?_, trivial⟩, hS.F ht⟩) hS.2.2 dX5_read_27
          rfl

abbrev w_X5_count_0 (G : XG) (kx kim kit kv kre ksh kwa kta : Nat) (tf rf : Int32) (kb ka kc kl kn knn : Nat) (w h la ns : Nat) : va_W := [oC kx 5 [.ref kb, .ref kim, .ref kit, .ref kv, .ref kre, .int tf, .ref ksh, .int rf, .ref kwa, .ref kta], oC kb 0 [.int (nI w), .int (nI h), .int (nI la), .ref ka, .ref kc, .ref kl, .ref kn], oC kn 2 [.ref knn, .int (nI 8), .int (nI ns)]]
abbrev Q_X5_count_0 (G : XG) (kx kim kit kv kre ksh kwa kta : Nat) (tf rf : Int32) (kb ka kc kl kn knn : Nat) (w h la ns : Nat) : Array Value → State → Outcome → State → Prop := (xRi (fun r => r = nI ns))
set_option maxHeartbeats 4000000 in
set_option maxRecDepth 100000 in
theorem c_X5_count_0 (l : Launch) (G : XG) (kx kim kit kv kre ksh kwa kta : Nat) (tf rf : Int32) (kb ka kc kl kn knn : Nat) (w h la ns : Nat)  : Met l yX5_count wsX5_count ({ frames := 0, cells := 0, slots := 0, locals := 0 } : Room) (va_Pc [.ref kx, .int (nI 0)] (xRp G (w_X5_count_0 G kx kim kit kv kre ksh kwa kta tf rf kb ka kc kl kn knn w h la ns))) (Q_X5_count_0 G kx kim kit kv kre ksh kwa kta tf rf kb ka kc kl kn knn w h la ns) 0 0 (fun _ => False) := by
  refine Met.ofW (cc := cX5_count) (maxL := 2) (ret := (some .int)) (by decide) rfl ?_
  intro pp ee ss mm aa below mt cd s₁ BB hml hv
  obtain ⟨rfl, hP, hK⟩ := hv
  have hx := BB.exec
  have hb := BB.bytes
  have hr := BB.returns
  have hts := atoms_spec (ws := wsX5_count) BB.pre
  have hown : ss.vm.findClass RX5 = some mm.cls := findClass_of_methodNamed BB.named
  have hlocks := BB.notSynchronized
  have hS : va_S (fun _ => False) ss.heap ss.heap [] := va_S.rf
  replace hP : xP G [oC kx 5 [.ref kb, .ref kim, .ref kit, .ref kv, .ref kre, .int tf, .ref ksh, .int rf, .ref kwa, .ref kta], oC kb 0 [.int (nI w), .int (nI h), .int (nI la), .ref ka, .ref kc, .ref kl, .ref kn], oC kn 2 [.ref knn, .int (nI 8), .int (nI ns)]] ss.heap := hP
  have hin0 : ∀ w ∈ u_ws RX0 TX0 7, w ∈ wsX5_count := fun w h => List.mem_cons_of_mem _ (List.mem_append_left _ (List.mem_append_left _ (List.mem_append_left _ (List.mem_append_left _ (List.mem_append_right _ h)))))
  have hin1 : ∀ w ∈ u_ws RX1 TX1 13, w ∈ wsX5_count := fun w h => List.mem_cons_of_mem _ (List.mem_append_left _ (List.mem_append_left _ (List.mem_append_right _ h)))
  have hin2 : ∀ w ∈ u_ws RX2 TX2 3, w ∈ wsX5_count := fun w h => List.mem_cons_of_mem _ (List.mem_append_left _ (List.mem_append_left _ (List.mem_append_left _ (List.mem_append_right _ h))))
  have hin3 : ∀ w ∈ u_ws RX3 TX3 3, w ∈ wsX5_count := fun w h => List.mem_cons_of_mem _ (List.mem_append_left _ (List.mem_append_right _ h))
  have hin4 : ∀ w ∈ u_ws RX4 TX4 5, w ∈ wsX5_count := fun w h => List.mem_cons_of_mem _ (List.mem_append_right _ h)
  have hin5 : ∀ w ∈ u_ws RX5 TX5 10, w ∈ wsX5_count := fun w h => List.mem_cons_of_mem _ (List.mem_append_left _ (List.mem_append_left _ (List.mem_append_left _ (List.mem_append_left _ (List.mem_append_left _ (List.mem_append_right _ h))))))
  have hl := lv_entry ([.ref kx, .int (nI 0)]) (n := 2) (Nat.le_of_ble_eq_true rfl)
  rw [lg_entry_eq]
  generalize (lg_sl ([.ref kx, .int (nI 0)]) ++ List.replicate (2 - (lg_sl ([.ref kx, .int (nI 0)])).length) Slot.unset).toArray = ls at hl ⊢
  replace hl : lv_has ls 2 [(0, .ref kx), (1, .int (nI 0))] := hl
  refine lv_iload_n hx hb dX5_count_0 rfl (lv_at hl 1 rfl) ?_
  refine lv_tableIn (off := 39) (tgt := 40) hx hb dX5_count_1 (by decide) (by decide) rfl rfl ?_
  refine lv_aload_n hx hb dX5_count_40 rfl (lv_at hl 0 rfl) ?_
  refine va_get (D := G.1) (ci := 5) (v := .ref kb) (C := RX5) (T := TX5) (N := 10) hx hb hts hin5 hown hK.1 hP 0 rfl rfl 0 (by decide) (hts (.fieldLink RX5 10 "BackLenses" "book" "LBackLenses$Book;") (List.mem_of_getElem? (i := 1) rfl)) (fun _ h9 => h9) rfl dX5_count_41 ?_
  refine va_getN (D := G.1) (ci := 0) (v := .ref kn) (C := RX0) (T := TX0) (N := 7) hx hb hts hin0 hown hK.1 hP 1 rfl rfl 6 (by decide) (va_Nw.use rfl (hK.2 (Cond.fieldLinkNest "BackLenses" (161 : Nat) "BackLenses$Book" "shown" "LBackLenses$Rows;" "BackLenses") (List.mem_of_getElem? (i := 21) rfl))) (fun _ h9 => h9) rfl dX5_count_44 ?_
  refine va_getN (D := G.1) (ci := 2) (v := .int (nI ns)) (C := RX2) (T := TX2) (N := 3) hx hb hts hin2 hown hK.1 hP 2 rfl rfl 2 (by decide) (va_Nw.use rfl (hK.2 (Cond.fieldLinkNest "BackLenses" (97 : Nat) "BackLenses$Rows" "size" "I" "BackLenses") (List.mem_of_getElem? (i := 3) rfl))) (fun _ h9 => h9) rfl dX5_count_47 ?_
  refine W.iret (v := nI ns) hx hb hr (fun t ht hW => ⟨⟨nI ns, (), rfl, ?_, trivial⟩, hS.F ht⟩) hS.2.2 dX5_count_50
  rfl

abbrev w_X5_count_1 (G : XG) (kx kim kit kv kre ksh kwa kta : Nat) (tf rf : Int32) (kb : Nat) (it : Nat → Int32) : va_W := [oC kx 5 [.ref kb, .ref kim, .ref kit, .ref kv, .ref kre, .int tf, .ref ksh, .int rf, .ref kwa, .ref kta], zA G kit 2 it]
abbrev Q_X5_count_1 (G : XG) (kx kim kit kv kre ksh kwa kta : Nat) (tf rf : Int32) (kb : Nat) (it : Nat → Int32) : Array Value → State → Outcome → State → Prop := (xRi (fun r => r = (if it 0 = 0 then nI 0 else nI 1) + (if it 1 = 0 then nI 0 else nI 1)))
set_option maxHeartbeats 4000000 in
set_option maxRecDepth 100000 in
theorem c_X5_count_1 (l : Launch) (G : XG) (kx kim kit kv kre ksh kwa kta : Nat) (tf rf : Int32) (kb : Nat) (it : Nat → Int32)  : Met l yX5_count wsX5_count ({ frames := 0, cells := 0, slots := 0, locals := 0 } : Room) (va_Pc [.ref kx, .int (nI 1)] (xRp G (w_X5_count_1 G kx kim kit kv kre ksh kwa kta tf rf kb it))) (Q_X5_count_1 G kx kim kit kv kre ksh kwa kta tf rf kb it) 0 0 (fun _ => False) := by
  refine Met.ofW (cc := cX5_count) (maxL := 2) (ret := (some .int)) (by decide) rfl ?_
  intro pp ee ss mm aa below mt cd s₁ BB hml hv
  obtain ⟨rfl, hP, hK⟩ := hv
  have hx := BB.exec
  have hb := BB.bytes
  have hr := BB.returns
  have hts := atoms_spec (ws := wsX5_count) BB.pre
  have hown : ss.vm.findClass RX5 = some mm.cls := findClass_of_methodNamed BB.named
  have hlocks := BB.notSynchronized
  have hS : va_S (fun _ => False) ss.heap ss.heap [] := va_S.rf
  replace hP : xP G [oC kx 5 [.ref kb, .ref kim, .ref kit, .ref kv, .ref kre, .int tf, .ref ksh, .int rf, .ref kwa, .ref kta], zA G kit 2 it] ss.heap := hP
  have hin0 : ∀ w ∈ u_ws RX0 TX0 7, w ∈ wsX5_count := fun w h => List.mem_cons_of_mem _ (List.mem_append_left _ (List.mem_append_left _ (List.mem_append_left _ (List.mem_append_left _ (List.mem_append_right _ h)))))
  have hin1 : ∀ w ∈ u_ws RX1 TX1 13, w ∈ wsX5_count := fun w h => List.mem_cons_of_mem _ (List.mem_append_left _ (List.mem_append_left _ (List.mem_append_right _ h)))
  have hin2 : ∀ w ∈ u_ws RX2 TX2 3, w ∈ wsX5_count := fun w h => List.mem_cons_of_mem _ (List.mem_append_left _ (List.mem_append_left _ (List.mem_append_left _ (List.mem_append_right _ h))))
  have hin3 : ∀ w ∈ u_ws RX3 TX3 3, w ∈ wsX5_count := fun w h => List.mem_cons_of_mem _ (List.mem_append_left _ (List.mem_append_right _ h))
  have hin4 : ∀ w ∈ u_ws RX4 TX4 5, w ∈ wsX5_count := fun w h => List.mem_cons_of_mem _ (List.mem_append_right _ h)
  have hin5 : ∀ w ∈ u_ws RX5 TX5 10, w ∈ wsX5_count := fun w h => List.mem_cons_of_mem _ (List.mem_append_left _ (List.mem_append_left _ (List.mem_append_left _ (List.mem_append_left _ (List.mem_append_left _ (List.mem_append_right _ h))))))
  have hl := lv_entry ([.ref kx, .int (nI 1)]) (n := 2) (Nat.le_of_ble_eq_true rfl)
  rw [lg_entry_eq]
  generalize (lg_sl ([.ref kx, .int (nI 1)]) ++ List.replicate (2 - (lg_sl ([.ref kx, .int (nI 1)])).length) Slot.unset).toArray = ls at hl ⊢
  replace hl : lv_has ls 2 [(0, .ref kx), (1, .int (nI 1))] := hl
  refine lv_iload_n hx hb dX5_count_0 rfl (lv_at hl 1 rfl) ?_
  refine lv_tableIn (off := 50) (tgt := 51) hx hb dX5_count_1 (by decide) (by decide) rfl rfl ?_
  refine lv_aload_n hx hb dX5_count_51 rfl (lv_at hl 0 rfl) ?_
  refine va_get (D := G.1) (ci := 5) (v := .ref kit) (C := RX5) (T := TX5) (N := 10) hx hb hts hin5 hown hK.1 hP 0 rfl rfl 2 (by decide) (hts (.fieldLink RX5 20 "BackLenses" "imageThere" "[Z") (List.mem_of_getElem? (i := 2) rfl)) (fun _ h9 => h9) rfl dX5_count_52 ?_
  refine lv_iconst (v := nI 0) hx hb dX5_count_55 (by decide) ?_
  refine xn_zald hx hb hK hP 1 rfl (by omega) (by omega) dX5_count_56 ?_
  refine lv_if_eq (tgt := 64) hx hb dX5_count_57 rfl (fun b57 => ?_) (fun b57 => ?_)
  · skip
    refine lv_iconst (v := nI 0) hx hb dX5_count_64 (by decide) ?_
    refine lv_aload_n hx hb dX5_count_65 rfl (lv_at hl 0 rfl) ?_
    refine va_get (D := G.1) (ci := 5) (v := .ref kit) (C := RX5) (T := TX5) (N := 10) hx hb hts hin5 hown hK.1 hP 0 rfl rfl 2 (by decide) (hts (.fieldLink RX5 20 "BackLenses" "imageThere" "[Z") (List.mem_of_getElem? (i := 2) rfl)) (fun _ h9 => h9) rfl dX5_count_66 ?_
    refine lv_iconst (v := nI 1) hx hb dX5_count_69 (by decide) ?_
    refine xn_zald hx hb hK hP 1 rfl (by omega) (by omega) dX5_count_70 ?_
    refine lv_if_eq (tgt := 78) hx hb dX5_count_71 rfl (fun b71 => ?_) (fun b71 => ?_)
    · skip
      refine lv_iconst (v := nI 0) hx hb dX5_count_78 (by decide) ?_
      refine xn_iadd hx hb dX5_count_79 ?_
      refine W.iret (v := nI (0 + 0)) hx hb hr (fun t ht hW => ⟨⟨nI (0 + 0), (), rfl, ?_, trivial⟩, hS.F ht⟩) hS.2.2 dX5_count_80
      (first | rw [if_pos b57] | rw [if_neg b57]); (first | rw [if_pos b71] | rw [if_neg b71]); rfl
    · skip
      refine lv_iconst (v := nI 1) hx hb dX5_count_74 (by decide) ?_
      refine lv_goto (tgt := 79) hx hb dX5_count_75 rfl ?_
      refine xn_iadd hx hb dX5_count_79 ?_
      refine W.iret (v := nI (0 + 1)) hx hb hr (fun t ht hW => ⟨⟨nI (0 + 1), (), rfl, ?_, trivial⟩, hS.F ht⟩) hS.2.2 dX5_count_80
      (first | rw [if_pos b57] | rw [if_neg b57]); (first | rw [if_pos b71] | rw [if_neg b71]); rfl
  · skip
    refine lv_iconst (v := nI 1) hx hb dX5_count_60 (by decide) ?_
    refine lv_goto (tgt := 65) hx hb dX5_count_61 rfl ?_
    refine lv_aload_n hx hb dX5_count_65 rfl (lv_at hl 0 rfl) ?_
    refine va_get (D := G.1) (ci := 5) (v := .ref kit) (C := RX5) (T := TX5) (N := 10) hx hb hts hin5 hown hK.1 hP 0 rfl rfl 2 (by decide) (hts (.fieldLink RX5 20 "BackLenses" "imageThere" "[Z") (List.mem_of_getElem? (i := 2) rfl)) (fun _ h9 => h9) rfl dX5_count_66 ?_
    refine lv_iconst (v := nI 1) hx hb dX5_count_69 (by decide) ?_
    refine xn_zald hx hb hK hP 1 rfl (by omega) (by omega) dX5_count_70 ?_
    refine lv_if_eq (tgt := 78) hx hb dX5_count_71 rfl (fun b71 => ?_) (fun b71 => ?_)
    · skip
      refine lv_iconst (v := nI 0) hx hb dX5_count_78 (by decide) ?_
      refine xn_iadd hx hb dX5_count_79 ?_
      refine W.iret (v := nI (1 + 0)) hx hb hr (fun t ht hW => ⟨⟨nI (1 + 0), (), rfl, ?_, trivial⟩, hS.F ht⟩) hS.2.2 dX5_count_80
      (first | rw [if_pos b57] | rw [if_neg b57]); (first | rw [if_pos b71] | rw [if_neg b71]); rfl
    · skip
      refine lv_iconst (v := nI 1) hx hb dX5_count_74 (by decide) ?_
      refine lv_goto (tgt := 79) hx hb dX5_count_75 rfl ?_
      refine xn_iadd hx hb dX5_count_79 ?_
      refine W.iret (v := nI (1 + 1)) hx hb hr (fun t ht hW => ⟨⟨nI (1 + 1), (), rfl, ?_, trivial⟩, hS.F ht⟩) hS.2.2 dX5_count_80
      (first | rw [if_pos b57] | rw [if_neg b57]); (first | rw [if_pos b71] | rw [if_neg b71]); rfl

abbrev w_X5_count_2 (G : XG) (kx kb kim kit kv ksh kwa kta : Nat) (tf rf : Int32) (kre : Nat) (kbt kby : Nat) (rl : Nat) (rv : Nat → Int32) : va_W := [oC kx 5 [.ref kb, .ref kim, .ref kit, .ref kv, .ref kre, .int tf, .ref ksh, .int rf, .ref kwa, .ref kta], oC kre 1 [.ref kbt, .ref kby, .int (nI rl), .int (rv 0), .int (rv 1), .int (rv 2), .int (rv 3), .int (rv 4), .int (rv 5), .int (rv 6), .int (rv 7), .int (rv 8), .int (rv 9)]]
abbrev Q_X5_count_2 (G : XG) (kx kb kim kit kv ksh kwa kta : Nat) (tf rf : Int32) (kre : Nat) (kbt kby : Nat) (rl : Nat) (rv : Nat → Int32) : Array Value → State → Outcome → State → Prop := (xRi (fun r => r = nI rl))
set_option maxHeartbeats 4000000 in
set_option maxRecDepth 100000 in
theorem c_X5_count_2 (l : Launch) (G : XG) (kx kb kim kit kv ksh kwa kta : Nat) (tf rf : Int32) (kre : Nat) (kbt kby : Nat) (rl : Nat) (rv : Nat → Int32)  : Met l yX5_count wsX5_count ({ frames := 0, cells := 0, slots := 0, locals := 0 } : Room) (va_Pc [.ref kx, .int (nI 2)] (xRp G (w_X5_count_2 G kx kb kim kit kv ksh kwa kta tf rf kre kbt kby rl rv))) (Q_X5_count_2 G kx kb kim kit kv ksh kwa kta tf rf kre kbt kby rl rv) 0 0 (fun _ => False) := by
  refine Met.ofW (cc := cX5_count) (maxL := 2) (ret := (some .int)) (by decide) rfl ?_
  intro pp ee ss mm aa below mt cd s₁ BB hml hv
  obtain ⟨rfl, hP, hK⟩ := hv
  have hx := BB.exec
  have hb := BB.bytes
  have hr := BB.returns
  have hts := atoms_spec (ws := wsX5_count) BB.pre
  have hown : ss.vm.findClass RX5 = some mm.cls := findClass_of_methodNamed BB.named
  have hlocks := BB.notSynchronized
  have hS : va_S (fun _ => False) ss.heap ss.heap [] := va_S.rf
  replace hP : xP G [oC kx 5 [.ref kb, .ref kim, .ref kit, .ref kv, .ref kre, .int tf, .ref ksh, .int rf, .ref kwa, .ref kta], oC kre 1 [.ref kbt, .ref kby, .int (nI rl), .int (rv 0), .int (rv 1), .int (rv 2), .int (rv 3), .int (rv 4), .int (rv 5), .int (rv 6), .int (rv 7), .int (rv 8), .int (rv 9)]] ss.heap := hP
  have hin0 : ∀ w ∈ u_ws RX0 TX0 7, w ∈ wsX5_count := fun w h => List.mem_cons_of_mem _ (List.mem_append_left _ (List.mem_append_left _ (List.mem_append_left _ (List.mem_append_left _ (List.mem_append_right _ h)))))
  have hin1 : ∀ w ∈ u_ws RX1 TX1 13, w ∈ wsX5_count := fun w h => List.mem_cons_of_mem _ (List.mem_append_left _ (List.mem_append_left _ (List.mem_append_right _ h)))
  have hin2 : ∀ w ∈ u_ws RX2 TX2 3, w ∈ wsX5_count := fun w h => List.mem_cons_of_mem _ (List.mem_append_left _ (List.mem_append_left _ (List.mem_append_left _ (List.mem_append_right _ h))))
  have hin3 : ∀ w ∈ u_ws RX3 TX3 3, w ∈ wsX5_count := fun w h => List.mem_cons_of_mem _ (List.mem_append_left _ (List.mem_append_right _ h))
  have hin4 : ∀ w ∈ u_ws RX4 TX4 5, w ∈ wsX5_count := fun w h => List.mem_cons_of_mem _ (List.mem_append_right _ h)
  have hin5 : ∀ w ∈ u_ws RX5 TX5 10, w ∈ wsX5_count := fun w h => List.mem_cons_of_mem _ (List.mem_append_left _ (List.mem_append_left _ (List.mem_append_left _ (List.mem_append_left _ (List.mem_append_left _ (List.mem_append_right _ h))))))
  have hl := lv_entry ([.ref kx, .int (nI 2)]) (n := 2) (Nat.le_of_ble_eq_true rfl)
  rw [lg_entry_eq]
  generalize (lg_sl ([.ref kx, .int (nI 2)]) ++ List.replicate (2 - (lg_sl ([.ref kx, .int (nI 2)])).length) Slot.unset).toArray = ls at hl ⊢
  replace hl : lv_has ls 2 [(0, .ref kx), (1, .int (nI 2))] := hl
  refine lv_iload_n hx hb dX5_count_0 rfl (lv_at hl 1 rfl) ?_
  refine lv_tableIn (off := 80) (tgt := 81) hx hb dX5_count_1 (by decide) (by decide) rfl rfl ?_
  refine lv_aload_n hx hb dX5_count_81 rfl (lv_at hl 0 rfl) ?_
  refine va_get (D := G.1) (ci := 5) (v := .ref kre) (C := RX5) (T := TX5) (N := 10) hx hb hts hin5 hown hK.1 hP 0 rfl rfl 4 (by decide) (hts (.fieldLink RX5 34 "BackLenses" "reader" "LBackLenses$Reader;") (List.mem_of_getElem? (i := 3) rfl)) (fun _ h9 => h9) rfl dX5_count_82 ?_
  refine va_getN (D := G.1) (ci := 1) (v := .int (nI rl)) (C := RX1) (T := TX1) (N := 13) hx hb hts hin1 hown hK.1 hP 1 rfl rfl 2 (by decide) (va_Nw.use rfl (hK.2 (Cond.fieldLinkNest "BackLenses" (240 : Nat) "BackLenses$Reader" "length" "I" "BackLenses") (List.mem_of_getElem? (i := 24) rfl))) (fun _ h9 => h9) rfl dX5_count_85 ?_
  refine W.iret (v := nI rl) hx hb hr (fun t ht hW => ⟨⟨nI rl, (), rfl, ?_, trivial⟩, hS.F ht⟩) hS.2.2 dX5_count_88
  rfl

abbrev w_X5_count_3 (G : XG) (kx kim kit kv kre ksh kwa kta : Nat) (tf rf : Int32) (kb : Nat) (gs : Nat → Option Nat) (ks ksc : Nat) (ln sz0 : Int32) : va_W := [oC kx 5 [.ref kb, .ref kim, .ref kit, .ref kv, .ref kre, .int tf, .ref ksh, .int rf, .ref kwa, .ref kta], sA G ksh 4 gs, oC ks 3 [.ref ksc, .int ln, .int sz0]]
abbrev Q_X5_count_3 (G : XG) (kx kim kit kv kre ksh kwa kta : Nat) (tf rf : Int32) (kb : Nat) (gs : Nat → Option Nat) (ks ksc : Nat) (ln sz0 : Int32) : Array Value → State → Outcome → State → Prop := (xRi (fun r => r = (if sz0 = (-1) then (-4) else sz0)))
set_option maxHeartbeats 4000000 in
set_option maxRecDepth 100000 in
theorem c_X5_count_3 (l : Launch) (G : XG) (kx kim kit kv kre ksh kwa kta : Nat) (tf rf : Int32) (kb : Nat) (gs : Nat → Option Nat) (ks ksc : Nat) (ln sz0 : Int32) (hgj : gs 0 = some ks) : Met l yX5_count wsX5_count ({ frames := 1, cells := 0, slots := 0, locals := 20 } : Room) (va_Pc [.ref kx, .int (nI 3)] (xRp G (w_X5_count_3 G kx kim kit kv kre ksh kwa kta tf rf kb gs ks ksc ln sz0))) (Q_X5_count_3 G kx kim kit kv kre ksh kwa kta tf rf kb gs ks ksc ln sz0) 0 0 (fun _ => False) := by
  refine Met.ofW (cc := cX5_count) (maxL := 2) (ret := (some .int)) (by decide) rfl ?_
  intro pp ee ss mm aa below mt cd s₁ BB hml hv
  obtain ⟨rfl, hP, hK⟩ := hv
  have hx := BB.exec
  have hb := BB.bytes
  have hr := BB.returns
  have hts := atoms_spec (ws := wsX5_count) BB.pre
  have hown : ss.vm.findClass RX5 = some mm.cls := findClass_of_methodNamed BB.named
  have hlocks := BB.notSynchronized
  have hS : va_S (fun _ => False) ss.heap ss.heap [] := va_S.rf
  replace hP : xP G [oC kx 5 [.ref kb, .ref kim, .ref kit, .ref kv, .ref kre, .int tf, .ref ksh, .int rf, .ref kwa, .ref kta], sA G ksh 4 gs, oC ks 3 [.ref ksc, .int ln, .int sz0]] ss.heap := hP
  have hin0 : ∀ w ∈ u_ws RX0 TX0 7, w ∈ wsX5_count := fun w h => List.mem_cons_of_mem _ (List.mem_append_left _ (List.mem_append_left _ (List.mem_append_left _ (List.mem_append_left _ (List.mem_append_right _ h)))))
  have hin1 : ∀ w ∈ u_ws RX1 TX1 13, w ∈ wsX5_count := fun w h => List.mem_cons_of_mem _ (List.mem_append_left _ (List.mem_append_left _ (List.mem_append_right _ h)))
  have hin2 : ∀ w ∈ u_ws RX2 TX2 3, w ∈ wsX5_count := fun w h => List.mem_cons_of_mem _ (List.mem_append_left _ (List.mem_append_left _ (List.mem_append_left _ (List.mem_append_right _ h))))
  have hin3 : ∀ w ∈ u_ws RX3 TX3 3, w ∈ wsX5_count := fun w h => List.mem_cons_of_mem _ (List.mem_append_left _ (List.mem_append_right _ h))
  have hin4 : ∀ w ∈ u_ws RX4 TX4 5, w ∈ wsX5_count := fun w h => List.mem_cons_of_mem _ (List.mem_append_right _ h)
  have hin5 : ∀ w ∈ u_ws RX5 TX5 10, w ∈ wsX5_count := fun w h => List.mem_cons_of_mem _ (List.mem_append_left _ (List.mem_append_left _ (List.mem_append_left _ (List.mem_append_left _ (List.mem_append_left _ (List.mem_append_right _ h))))))
  have hl := lv_entry ([.ref kx, .int (nI 3)]) (n := 2) (Nat.le_of_ble_eq_true rfl)
  rw [lg_entry_eq]
  generalize (lg_sl ([.ref kx, .int (nI 3)]) ++ List.replicate (2 - (lg_sl ([.ref kx, .int (nI 3)])).length) Slot.unset).toArray = ls at hl ⊢
  replace hl : lv_has ls 2 [(0, .ref kx), (1, .int (nI 3))] := hl
  refine lv_iload_n hx hb dX5_count_0 rfl (lv_at hl 1 rfl) ?_
  refine lv_tableIn (off := 88) (tgt := 89) hx hb dX5_count_1 (by decide) (by decide) rfl rfl ?_
  refine lv_aload_n hx hb dX5_count_89 rfl (lv_at hl 0 rfl) ?_
  refine va_get (D := G.1) (ci := 5) (v := .ref ksh) (C := RX5) (T := TX5) (N := 10) hx hb hts hin5 hown hK.1 hP 0 rfl rfl 6 (by decide) (hts (.fieldLink RX5 40 "BackLenses" "sheets" "[LBackLenses$Sheet;") (List.mem_of_getElem? (i := 4) rfl)) (fun _ h9 => h9) rfl dX5_count_90 ?_
  refine lv_iconst (v := nI 0) hx hb dX5_count_93 (by decide) ?_
  refine xn_aalds hx hb hK hP 1 rfl (by omega) (by omega) (show _ = some ks by assumption) dX5_count_94 ?_
  refine xr_i (As := []) (rest := []) ⟨hx, hb, hml, hown, hts⟩ (c_X3_isNothing l G ks ksc ln sz0 ) (cwV 0 hts gX5_count_X3_isNothing rfl rfl rfl (by decide +kernel) ⟨Nat.le_of_ble_eq_true rfl, Nat.le_of_ble_eq_true rfl⟩) hK hP hS [2] rfl rfl rfl rfl hl.1 rfl (Nat.le_of_ble_eq_true rfl) dX5_count_95 ⟨Nat.zero_le _, Nat.zero_le _⟩ (fun r95 H locs hp95 hP hS => ?_)
  rw [show r95 = _ from hp95]
  refine xb_if_eq (tgt := 106) hx hb dX5_count_98 rfl (fun b98 => ?_) (fun b98 => ?_)
  · skip
    refine lv_aload_n hx hb dX5_count_106 rfl (lv_at hl 0 rfl) ?_
    refine va_get (D := G.1) (ci := 5) (v := .ref ksh) (C := RX5) (T := TX5) (N := 10) hx hb hts hin5 hown hK.1 hP 0 rfl rfl 6 (by decide) (hts (.fieldLink RX5 40 "BackLenses" "sheets" "[LBackLenses$Sheet;") (List.mem_of_getElem? (i := 4) rfl)) (fun _ h9 => h9) rfl dX5_count_107 ?_
    refine lv_iconst (v := nI 0) hx hb dX5_count_110 (by decide) ?_
    refine xn_aalds hx hb hK hP 1 rfl (by omega) (by omega) (show _ = some ks by assumption) dX5_count_111 ?_
    refine va_getN (D := G.1) (ci := 3) (v := .int sz0) (C := RX3) (T := TX3) (N := 3) hx hb hts hin3 hown hK.1 hP 2 rfl rfl 2 (by decide) (va_Nw.use rfl (hK.2 (Cond.fieldLinkNest "BackLenses" (247 : Nat) "BackLenses$Sheet" "size" "I" "BackLenses") (List.mem_of_getElem? (i := 28) rfl))) (fun _ h9 => h9) rfl dX5_count_112 ?_
    refine W.iret (v := sz0) hx hb hr (fun t ht hW => ⟨⟨sz0, (), rfl, ?_, trivial⟩, hS.F ht⟩) hS.2.2 dX5_count_115
    first | exact (if_pos b98).symm | exact (if_neg b98).symm
  · skip
    refine lv_bipush (v := (-4)) hx hb dX5_count_101 (by decide) ?_
    refine lv_goto (tgt := 115) hx hb dX5_count_103 rfl ?_
    refine W.iret (v := (-4)) hx hb hr (fun t ht hW => ⟨⟨(-4), (), rfl, ?_, trivial⟩, hS.F ht⟩) hS.2.2 dX5_count_115
    first | exact (if_pos b98).symm | exact (if_neg b98).symm

abbrev w_X5_count_4 (G : XG) (kx kim kit kre ksh kwa kta : Nat) (tf rf : Int32) (kb ka kc kcn kl kn : Nat) (w h la : Nat) (af : Nat → Int32) (nc : Nat) (fc : Nat → Int32) (kv km kg : Nat) (vw vh : Nat) (sl : Int32) (mk sg : Nat → Int32) (knn : Nat) (ns : Nat) (fs : Nat → Int32) : va_W := [oC kx 5 [.ref kb, .ref kim, .ref kit, .ref kv, .ref kre, .int tf, .ref ksh, .int rf, .ref kwa, .ref kta], oC kb 0 [.int (nI w), .int (nI h), .int (nI la), .ref ka, .ref kc, .ref kl, .ref kn], iA G ka 16 af, oC kc 2 [.ref kcn, .int (nI 10), .int (nI nc)], iA G kcn (3 * 10) fc, oC kv 4 [.ref km, .ref kg, .int (nI vw), .int (nI vh), .int sl], iA G km 176 mk, iA G kg 160 sg, oC kn 2 [.ref knn, .int (nI 8), .int (nI ns)], iA G knn (3 * 8) fs]
abbrev Q_X5_count_4 (G : XG) (sz : Nat) (kx kim kit kre ksh kwa kta : Nat) (tf rf : Int32) (kb ka kc kcn kl kn : Nat) (w h la : Nat) (af : Nat → Int32) (nc : Nat) (fc : Nat → Int32) (kv km kg : Nat) (vw vh : Nat) (sl : Int32) (mk sg : Nat → Int32) (knn : Nat) (ns : Nat) (fs : Nat → Int32) : Array Value → State → Outcome → State → Prop := (va_Qi (fun (r : Int32) (u : (Nat → Int32) × (Nat → Int32) × Nat × Nat × Int32) => r = bcI (fitS w h la af nc fc fs ns) ∧ VOK w h la af nc fc u.1 u.2.1 u.2.2.1 u.2.2.2.1 u.2.2.2.2) (xWb G sz (w_X5_count_4 G kx kim kit kre ksh kwa kta tf rf kb ka kc kcn kl kn w h la af nc fc kv km kg vw vh sl mk sg knn ns fs) (fun u : (Nat → Int32) × (Nat → Int32) × Nat × Nat × Int32 => [oC kx 5 [.ref kb, .ref kim, .ref kit, .ref kv, .ref kre, .int tf, .ref ksh, .int rf, .ref kwa, .ref kta], oC kb 0 [.int (nI w), .int (nI h), .int (nI la), .ref ka, .ref kc, .ref kl, .ref kn], iA G ka 16 af, oC kc 2 [.ref kcn, .int (nI 10), .int (nI nc)], iA G kcn (3 * 10) fc, oC kv 4 [.ref km, .ref kg, .int (nI u.2.2.1), .int (nI u.2.2.2.1), .int u.2.2.2.2], iA G km 176 u.1, iA G kg 160 u.2.1, oC kn 2 [.ref knn, .int (nI 8), .int (nI ns)], iA G knn (3 * 8) fs])) (va_A (w_X5_count_4 G kx kim kit kre ksh kwa kta tf rf kb ka kc kcn kl kn w h la af nc fc kv km kg vw vh sl mk sg knn ns fs) sz))
set_option maxHeartbeats 4000000 in
set_option maxRecDepth 100000 in
theorem c_X5_count_4 (l : Launch) (G : XG) (sz : Nat) (kx kim kit kre ksh kwa kta : Nat) (tf rf : Int32) (kb ka kc kcn kl kn : Nat) (w h la : Nat) (af : Nat → Int32) (nc : Nat) (fc : Nat → Int32) (kv km kg : Nat) (vw vh : Nat) (sl : Int32) (mk sg : Nat → Int32) (knn : Nat) (ns : Nat) (fs : Nat → Int32) (hw : 1 ≤ w) (hwb : w ≤ 16) (hhb : h ≤ 16) (hwh : w * h ≤ 16) (hla : la ≤ 9) (hnc : nc ≤ 10) (hcell : ∀ i, i < nc → inR (fc (3 * i + 1)) 16) (hvok : VOK w h la af nc fc mk sg vw vh sl) (hns : ns ≤ 8) (hshown : ∀ i, i < ns → inR (fs (3 * i)) (w * h) ∧ inR (fs (3 * i + 1)) (w * h)) : Met l yX5_count wsX5_count ({ frames := 5, cells := 0, slots := 0, locals := 123 } : Room) (va_Pc [.ref kx, .int (nI 4)] (xWp G sz (w_X5_count_4 G kx kim kit kre ksh kwa kta tf rf kb ka kc kcn kl kn w h la af nc fc kv km kg vw vh sl mk sg knn ns fs))) (Q_X5_count_4 G sz kx kim kit kre ksh kwa kta tf rf kb ka kc kcn kl kn w h la af nc fc kv km kg vw vh sl mk sg knn ns fs) 0 0 (va_A (w_X5_count_4 G kx kim kit kre ksh kwa kta tf rf kb ka kc kcn kl kn w h la af nc fc kv km kg vw vh sl mk sg knn ns fs) sz) := by
  refine Met.ofW (cc := cX5_count) (maxL := 2) (ret := (some .int)) (by decide) rfl ?_
  intro pp ee ss mm aa below mt cd s₁ BB hml hv
  obtain ⟨rfl, hsz, hP, hK, hD0⟩ := hv
  have hx := BB.exec
  have hb := BB.bytes
  have hr := BB.returns
  have hts := atoms_spec (ws := wsX5_count) BB.pre
  have hown : ss.vm.findClass RX5 = some mm.cls := findClass_of_methodNamed BB.named
  have hlocks := BB.notSynchronized
  subst hsz
  have hD := hD0.self (sz := ss.heap.size)
  have hA : ∀ q : Nat, ss.heap.size ≤ q → va_A (w_X5_count_4 G kx kim kit kre ksh kwa kta tf rf kb ka kc kcn kl kn w h la af nc fc kv km kg vw vh sl mk sg knn ns fs) ss.heap.size q := fun q h => Or.inr h
  have hS : va_S (va_A (w_X5_count_4 G kx kim kit kre ksh kwa kta tf rf kb ka kc kcn kl kn w h la af nc fc kv km kg vw vh sl mk sg knn ns fs) ss.heap.size) ss.heap ss.heap [] := va_S.rf
  replace hD : va_D (va_A (w_X5_count_4 G kx kim kit kre ksh kwa kta tf rf kb ka kc kcn kl kn w h la af nc fc kv km kg vw vh sl mk sg knn ns fs) ss.heap.size) [oC kx 5 [.ref kb, .ref kim, .ref kit, .ref kv, .ref kre, .int tf, .ref ksh, .int rf, .ref kwa, .ref kta], oC kb 0 [.int (nI w), .int (nI h), .int (nI la), .ref ka, .ref kc, .ref kl, .ref kn], iA G ka 16 af, oC kc 2 [.ref kcn, .int (nI 10), .int (nI nc)], iA G kcn (3 * 10) fc, oC kv 4 [.ref km, .ref kg, .int (nI vw), .int (nI vh), .int sl], iA G km 176 mk, iA G kg 160 sg, oC kn 2 [.ref knn, .int (nI 8), .int (nI ns)], iA G knn (3 * 8) fs] := hD
  replace hP : xP G [oC kx 5 [.ref kb, .ref kim, .ref kit, .ref kv, .ref kre, .int tf, .ref ksh, .int rf, .ref kwa, .ref kta], oC kb 0 [.int (nI w), .int (nI h), .int (nI la), .ref ka, .ref kc, .ref kl, .ref kn], iA G ka 16 af, oC kc 2 [.ref kcn, .int (nI 10), .int (nI nc)], iA G kcn (3 * 10) fc, oC kv 4 [.ref km, .ref kg, .int (nI vw), .int (nI vh), .int sl], iA G km 176 mk, iA G kg 160 sg, oC kn 2 [.ref knn, .int (nI 8), .int (nI ns)], iA G knn (3 * 8) fs] ss.heap := hP
  have hin0 : ∀ w ∈ u_ws RX0 TX0 7, w ∈ wsX5_count := fun w h => List.mem_cons_of_mem _ (List.mem_append_left _ (List.mem_append_left _ (List.mem_append_left _ (List.mem_append_left _ (List.mem_append_right _ h)))))
  have hin1 : ∀ w ∈ u_ws RX1 TX1 13, w ∈ wsX5_count := fun w h => List.mem_cons_of_mem _ (List.mem_append_left _ (List.mem_append_left _ (List.mem_append_right _ h)))
  have hin2 : ∀ w ∈ u_ws RX2 TX2 3, w ∈ wsX5_count := fun w h => List.mem_cons_of_mem _ (List.mem_append_left _ (List.mem_append_left _ (List.mem_append_left _ (List.mem_append_right _ h))))
  have hin3 : ∀ w ∈ u_ws RX3 TX3 3, w ∈ wsX5_count := fun w h => List.mem_cons_of_mem _ (List.mem_append_left _ (List.mem_append_right _ h))
  have hin4 : ∀ w ∈ u_ws RX4 TX4 5, w ∈ wsX5_count := fun w h => List.mem_cons_of_mem _ (List.mem_append_right _ h)
  have hin5 : ∀ w ∈ u_ws RX5 TX5 10, w ∈ wsX5_count := fun w h => List.mem_cons_of_mem _ (List.mem_append_left _ (List.mem_append_left _ (List.mem_append_left _ (List.mem_append_left _ (List.mem_append_left _ (List.mem_append_right _ h))))))
  have hl := lv_entry ([.ref kx, .int (nI 4)]) (n := 2) (Nat.le_of_ble_eq_true rfl)
  rw [lg_entry_eq]
  generalize (lg_sl ([.ref kx, .int (nI 4)]) ++ List.replicate (2 - (lg_sl ([.ref kx, .int (nI 4)])).length) Slot.unset).toArray = ls at hl ⊢
  replace hl : lv_has ls 2 [(0, .ref kx), (1, .int (nI 4))] := hl
  refine lv_iload_n hx hb dX5_count_0 rfl (lv_at hl 1 rfl) ?_
  refine lv_tableIn (off := 115) (tgt := 116) hx hb dX5_count_1 (by decide) (by decide) rfl rfl ?_
  refine lv_aload_n hx hb dX5_count_116 rfl (lv_at hl 0 rfl) ?_
  refine lv_aload_n hx hb dX5_count_117 rfl (lv_at hl 0 rfl) ?_
  refine va_get (D := G.1) (ci := 5) (v := .ref kb) (C := RX5) (T := TX5) (N := 10) hx hb hts hin5 hown hK.1 hP 0 rfl rfl 0 (by decide) (hts (.fieldLink RX5 10 "BackLenses" "book" "LBackLenses$Book;") (List.mem_of_getElem? (i := 1) rfl)) (fun _ h9 => h9) rfl dX5_count_118 ?_
  refine va_getN (D := G.1) (ci := 0) (v := .ref kn) (C := RX0) (T := TX0) (N := 7) hx hb hts hin0 hown hK.1 hP 1 rfl rfl 6 (by decide) (va_Nw.use rfl (hK.2 (Cond.fieldLinkNest "BackLenses" (161 : Nat) "BackLenses$Book" "shown" "LBackLenses$Rows;" "BackLenses") (List.mem_of_getElem? (i := 21) rfl))) (fun _ h9 => h9) rfl dX5_count_121 ?_
  refine va_getN (D := G.1) (ci := 2) (v := .int (nI ns)) (C := RX2) (T := TX2) (N := 3) hx hb hts hin2 hown hK.1 hP 8 rfl rfl 2 (by decide) (va_Nw.use rfl (hK.2 (Cond.fieldLinkNest "BackLenses" (97 : Nat) "BackLenses$Rows" "size" "I" "BackLenses") (List.mem_of_getElem? (i := 3) rfl))) (fun _ h9 => h9) rfl dX5_count_124 ?_
  refine xw_i (As := [.int (nI ns)]) (rest := []) (wr := []) ⟨hx, hb, hml, hown, hts⟩ (c_X5_fitting l G ss.heap.size kx kim kit kre ksh kwa kta tf rf kb ka kc kcn kl kn w h la af nc fc kv km kg vw vh sl mk sg knn ns fs ns (by first | assumption | omega) (by first | assumption | omega) (by first | assumption | omega) (by first | assumption | omega) (by first | assumption | omega) (by first | assumption | omega) (by first | assumption | omega) (by first | assumption | omega) (by first | assumption | omega) (by first | assumption | omega) (by first | assumption | omega)) (cwV 1 hts gX5_count_X5_fitting rfl rfl rfl (by decide +kernel) ⟨Nat.le_of_ble_eq_true rfl, Nat.le_of_ble_eq_true rfl⟩) hK hP hD hS hA [0, 1, 2, 3, 4, 5, 6, 7, 8, 9] [] rfl rfl (by decide) (by decide) (by decide) rfl rfl rfl hl.1 rfl (Nat.le_of_ble_eq_true rfl) dX5_count_127 ⟨Nat.le_of_ble_eq_true rfl, Nat.le_of_ble_eq_true rfl⟩ (fun r127 u H locs hp127 hP hD hS => ?_)
  obtain ⟨mk2_127, sg2_127, vw2_127, vh2_127, sl2_127⟩ := u
  try dsimp only at hp127 hP hD
  obtain ⟨rfl, he127⟩ := hp127
  replace hP : xP G [oC kx 5 [.ref kb, .ref kim, .ref kit, .ref kv, .ref kre, .int tf, .ref ksh, .int rf, .ref kwa, .ref kta], oC kb 0 [.int (nI w), .int (nI h), .int (nI la), .ref ka, .ref kc, .ref kl, .ref kn], iA G ka 16 af, oC kc 2 [.ref kcn, .int (nI 10), .int (nI nc)], iA G kcn (3 * 10) fc, oC kv 4 [.ref km, .ref kg, .int (nI vw2_127), .int (nI vh2_127), .int sl2_127], iA G km 176 mk2_127, iA G kg 160 sg2_127, oC kn 2 [.ref knn, .int (nI 8), .int (nI ns)], iA G knn (3 * 8) fs] H := hP
  replace hD : va_D (va_A (w_X5_count_4 G kx kim kit kre ksh kwa kta tf rf kb ka kc kcn kl kn w h la af nc fc kv km kg vw vh sl mk sg knn ns fs) ss.heap.size) [oC kx 5 [.ref kb, .ref kim, .ref kit, .ref kv, .ref kre, .int tf, .ref ksh, .int rf, .ref kwa, .ref kta], oC kb 0 [.int (nI w), .int (nI h), .int (nI la), .ref ka, .ref kc, .ref kl, .ref kn], iA G ka 16 af, oC kc 2 [.ref kcn, .int (nI 10), .int (nI nc)], iA G kcn (3 * 10) fc, oC kv 4 [.ref km, .ref kg, .int (nI vw2_127), .int (nI vh2_127), .int sl2_127], iA G km 176 mk2_127, iA G kg 160 sg2_127, oC kn 2 [.ref knn, .int (nI 8), .int (nI ns)], iA G knn (3 * 8) fs] := hD
  refine xs_i (As := [.int (fitS w h la af nc fc fs ns)]) (rest := []) ⟨hx, hb, hml, hown, hts⟩ (c_J6_bitCount_0f7a4 l G (fitS w h la af nc fc fs ns) ) (va_cwS 1 hts gX5_count_J6_bitCount_0f7a4 rfl rfl rfl (by decide +kernel) ⟨Nat.le_of_ble_eq_true rfl, Nat.le_of_ble_eq_true rfl⟩) hP hS rfl hl.1 rfl (Nat.le_of_ble_eq_true rfl) dX5_count_130 ⟨Nat.zero_le _, Nat.zero_le _⟩ (fun r130 H locs hp130 hP hS => ?_)
  rw [show r130 = _ from hp130]
  have hP := hP.sub (ws' := [oC kx 5 [.ref kb, .ref kim, .ref kit, .ref kv, .ref kre, .int tf, .ref ksh, .int rf, .ref kwa, .ref kta], oC kb 0 [.int (nI w), .int (nI h), .int (nI la), .ref ka, .ref kc, .ref kl, .ref kn], iA G ka 16 af, oC kc 2 [.ref kcn, .int (nI 10), .int (nI nc)], iA G kcn (3 * 10) fc, oC kv 4 [.ref km, .ref kg, .int (nI vw2_127), .int (nI vh2_127), .int sl2_127], iA G km 176 mk2_127, iA G kg 160 sg2_127, oC kn 2 [.ref knn, .int (nI 8), .int (nI ns)], iA G knn (3 * 8) fs]) [0, 1, 2, 3, 4, 5, 6, 7, 8, 9] rfl
  have hD := hD.sub (ws' := [oC kx 5 [.ref kb, .ref kim, .ref kit, .ref kv, .ref kre, .int tf, .ref ksh, .int rf, .ref kwa, .ref kta], oC kb 0 [.int (nI w), .int (nI h), .int (nI la), .ref ka, .ref kc, .ref kl, .ref kn], iA G ka 16 af, oC kc 2 [.ref kcn, .int (nI 10), .int (nI nc)], iA G kcn (3 * 10) fc, oC kv 4 [.ref km, .ref kg, .int (nI vw2_127), .int (nI vh2_127), .int sl2_127], iA G km 176 mk2_127, iA G kg 160 sg2_127, oC kn 2 [.ref knn, .int (nI 8), .int (nI ns)], iA G knn (3 * 8) fs]) [0, 1, 2, 3, 4, 5, 6, 7, 8, 9] (by decide) rfl
  refine W.iret (v := bcI (fitS w h la af nc fc fs ns)) hx hb hr (fun t ht hW => ⟨⟨bcI (fitS w h la af nc fc fs ns), (mk2_127, sg2_127, vw2_127, vh2_127, sl2_127), rfl, ?_, by rw [ht]; exact hP, hD⟩, hS.F ht⟩) hS.2.2 dX5_count_133
  try dsimp only
  exact ⟨rfl, he127⟩

abbrev w_X5_count_5 (G : XG) (kx kim kit kre ksh kwa kta : Nat) (tf rf : Int32) (kb ka kc kcn kl kn : Nat) (w h la : Nat) (af : Nat → Int32) (nc : Nat) (fc : Nat → Int32) (kv km kg : Nat) (vw vh : Nat) (sl : Int32) (mk sg : Nat → Int32) : va_W := [oC kx 5 [.ref kb, .ref kim, .ref kit, .ref kv, .ref kre, .int tf, .ref ksh, .int rf, .ref kwa, .ref kta], oC kb 0 [.int (nI w), .int (nI h), .int (nI la), .ref ka, .ref kc, .ref kl, .ref kn], iA G ka 16 af, oC kc 2 [.ref kcn, .int (nI 10), .int (nI nc)], iA G kcn (3 * 10) fc, oC kv 4 [.ref km, .ref kg, .int (nI vw), .int (nI vh), .int sl], iA G km 176 mk, iA G kg 160 sg]
abbrev Q_X5_count_5 (G : XG) (sz : Nat) (kx kim kit kre ksh kwa kta : Nat) (tf rf : Int32) (kb ka kc kcn kl kn : Nat) (w h la : Nat) (af : Nat → Int32) (nc : Nat) (fc : Nat → Int32) (kv km kg : Nat) (vw vh : Nat) (sl : Int32) (mk sg : Nat → Int32) : Array Value → State → Outcome → State → Prop := (va_Qi (fun (r : Int32) (u : (Nat → Int32) × (Nat → Int32) × Nat × Nat × Int32) => r = nI (cntF (fun d => decide (¬ unS w h af nc fc d (d + 1) = 0)) la) ∧ VOK w h la af nc fc u.1 u.2.1 u.2.2.1 u.2.2.2.1 u.2.2.2.2) (xWb G sz (w_X5_count_5 G kx kim kit kre ksh kwa kta tf rf kb ka kc kcn kl kn w h la af nc fc kv km kg vw vh sl mk sg) (fun u : (Nat → Int32) × (Nat → Int32) × Nat × Nat × Int32 => [oC kx 5 [.ref kb, .ref kim, .ref kit, .ref kv, .ref kre, .int tf, .ref ksh, .int rf, .ref kwa, .ref kta], oC kb 0 [.int (nI w), .int (nI h), .int (nI la), .ref ka, .ref kc, .ref kl, .ref kn], iA G ka 16 af, oC kc 2 [.ref kcn, .int (nI 10), .int (nI nc)], iA G kcn (3 * 10) fc, oC kv 4 [.ref km, .ref kg, .int (nI u.2.2.1), .int (nI u.2.2.2.1), .int u.2.2.2.2], iA G km 176 u.1, iA G kg 160 u.2.1])) (va_A (w_X5_count_5 G kx kim kit kre ksh kwa kta tf rf kb ka kc kcn kl kn w h la af nc fc kv km kg vw vh sl mk sg) sz))
set_option maxHeartbeats 4000000 in
set_option maxRecDepth 100000 in
theorem c_X5_count_5 (l : Launch) (G : XG) (sz : Nat) (kx kim kit kre ksh kwa kta : Nat) (tf rf : Int32) (kb ka kc kcn kl kn : Nat) (w h la : Nat) (af : Nat → Int32) (nc : Nat) (fc : Nat → Int32) (kv km kg : Nat) (vw vh : Nat) (sl : Int32) (mk sg : Nat → Int32) (hw : 1 ≤ w) (hwb : w ≤ 16) (hhb : h ≤ 16) (hwh : w * h ≤ 16) (hla : la ≤ 9) (hnc : nc ≤ 10) (hcell : ∀ i, i < nc → inR (fc (3 * i + 1)) 16) (hvok : VOK w h la af nc fc mk sg vw vh sl) : Met l yX5_count wsX5_count ({ frames := 5, cells := 0, slots := 0, locals := 119 } : Room) (va_Pc [.ref kx, .int (nI 5)] (xWp G sz (w_X5_count_5 G kx kim kit kre ksh kwa kta tf rf kb ka kc kcn kl kn w h la af nc fc kv km kg vw vh sl mk sg))) (Q_X5_count_5 G sz kx kim kit kre ksh kwa kta tf rf kb ka kc kcn kl kn w h la af nc fc kv km kg vw vh sl mk sg) 0 0 (va_A (w_X5_count_5 G kx kim kit kre ksh kwa kta tf rf kb ka kc kcn kl kn w h la af nc fc kv km kg vw vh sl mk sg) sz) := by
  refine Met.ofW (cc := cX5_count) (maxL := 2) (ret := (some .int)) (by decide) rfl ?_
  intro pp ee ss mm aa below mt cd s₁ BB hml hv
  obtain ⟨rfl, hsz, hP, hK, hD0⟩ := hv
  have hx := BB.exec
  have hb := BB.bytes
  have hr := BB.returns
  have hts := atoms_spec (ws := wsX5_count) BB.pre
  have hown : ss.vm.findClass RX5 = some mm.cls := findClass_of_methodNamed BB.named
  have hlocks := BB.notSynchronized
  subst hsz
  have hD := hD0.self (sz := ss.heap.size)
  have hA : ∀ q : Nat, ss.heap.size ≤ q → va_A (w_X5_count_5 G kx kim kit kre ksh kwa kta tf rf kb ka kc kcn kl kn w h la af nc fc kv km kg vw vh sl mk sg) ss.heap.size q := fun q h => Or.inr h
  have hS : va_S (va_A (w_X5_count_5 G kx kim kit kre ksh kwa kta tf rf kb ka kc kcn kl kn w h la af nc fc kv km kg vw vh sl mk sg) ss.heap.size) ss.heap ss.heap [] := va_S.rf
  replace hD : va_D (va_A (w_X5_count_5 G kx kim kit kre ksh kwa kta tf rf kb ka kc kcn kl kn w h la af nc fc kv km kg vw vh sl mk sg) ss.heap.size) [oC kx 5 [.ref kb, .ref kim, .ref kit, .ref kv, .ref kre, .int tf, .ref ksh, .int rf, .ref kwa, .ref kta], oC kb 0 [.int (nI w), .int (nI h), .int (nI la), .ref ka, .ref kc, .ref kl, .ref kn], iA G ka 16 af, oC kc 2 [.ref kcn, .int (nI 10), .int (nI nc)], iA G kcn (3 * 10) fc, oC kv 4 [.ref km, .ref kg, .int (nI vw), .int (nI vh), .int sl], iA G km 176 mk, iA G kg 160 sg] := hD
  replace hP : xP G [oC kx 5 [.ref kb, .ref kim, .ref kit, .ref kv, .ref kre, .int tf, .ref ksh, .int rf, .ref kwa, .ref kta], oC kb 0 [.int (nI w), .int (nI h), .int (nI la), .ref ka, .ref kc, .ref kl, .ref kn], iA G ka 16 af, oC kc 2 [.ref kcn, .int (nI 10), .int (nI nc)], iA G kcn (3 * 10) fc, oC kv 4 [.ref km, .ref kg, .int (nI vw), .int (nI vh), .int sl], iA G km 176 mk, iA G kg 160 sg] ss.heap := hP
  have hin0 : ∀ w ∈ u_ws RX0 TX0 7, w ∈ wsX5_count := fun w h => List.mem_cons_of_mem _ (List.mem_append_left _ (List.mem_append_left _ (List.mem_append_left _ (List.mem_append_left _ (List.mem_append_right _ h)))))
  have hin1 : ∀ w ∈ u_ws RX1 TX1 13, w ∈ wsX5_count := fun w h => List.mem_cons_of_mem _ (List.mem_append_left _ (List.mem_append_left _ (List.mem_append_right _ h)))
  have hin2 : ∀ w ∈ u_ws RX2 TX2 3, w ∈ wsX5_count := fun w h => List.mem_cons_of_mem _ (List.mem_append_left _ (List.mem_append_left _ (List.mem_append_left _ (List.mem_append_right _ h))))
  have hin3 : ∀ w ∈ u_ws RX3 TX3 3, w ∈ wsX5_count := fun w h => List.mem_cons_of_mem _ (List.mem_append_left _ (List.mem_append_right _ h))
  have hin4 : ∀ w ∈ u_ws RX4 TX4 5, w ∈ wsX5_count := fun w h => List.mem_cons_of_mem _ (List.mem_append_right _ h)
  have hin5 : ∀ w ∈ u_ws RX5 TX5 10, w ∈ wsX5_count := fun w h => List.mem_cons_of_mem _ (List.mem_append_left _ (List.mem_append_left _ (List.mem_append_left _ (List.mem_append_left _ (List.mem_append_left _ (List.mem_append_right _ h))))))
  have hl := lv_entry ([.ref kx, .int (nI 5)]) (n := 2) (Nat.le_of_ble_eq_true rfl)
  rw [lg_entry_eq]
  generalize (lg_sl ([.ref kx, .int (nI 5)]) ++ List.replicate (2 - (lg_sl ([.ref kx, .int (nI 5)])).length) Slot.unset).toArray = ls at hl ⊢
  replace hl : lv_has ls 2 [(0, .ref kx), (1, .int (nI 5))] := hl
  refine lv_iload_n hx hb dX5_count_0 rfl (lv_at hl 1 rfl) ?_
  refine lv_tableIn (off := 133) (tgt := 134) hx hb dX5_count_1 (by decide) (by decide) rfl rfl ?_
  refine lv_aload_n hx hb dX5_count_134 rfl (lv_at hl 0 rfl) ?_
  refine xw_i (As := []) (rest := []) (wr := []) ⟨hx, hb, hml, hown, hts⟩ (c_X5_daysOfChange l G ss.heap.size kx kim kit kre ksh kwa kta tf rf kb ka kc kcn kl kn w h la af nc fc kv km kg vw vh sl mk sg (by first | assumption | omega) (by first | assumption | omega) (by first | assumption | omega) (by first | assumption | omega) (by first | assumption | omega) (by first | assumption | omega) (by first | assumption | omega) (by first | assumption | omega)) (cwV 0 hts gX5_count_X5_daysOfChange rfl rfl rfl (by decide +kernel) ⟨Nat.le_of_ble_eq_true rfl, Nat.le_of_ble_eq_true rfl⟩) hK hP hD hS hA [0, 1, 2, 3, 4, 5, 6, 7] [] rfl rfl (by decide) (by decide) (by decide) rfl rfl rfl hl.1 rfl (Nat.le_of_ble_eq_true rfl) dX5_count_135 ⟨Nat.le_of_ble_eq_true rfl, Nat.le_of_ble_eq_true rfl⟩ (fun r135 u H locs hp135 hP hD hS => ?_)
  obtain ⟨mk2_135, sg2_135, vw2_135, vh2_135, sl2_135⟩ := u
  try dsimp only at hp135 hP hD
  obtain ⟨rfl, he135⟩ := hp135
  replace hP : xP G [oC kx 5 [.ref kb, .ref kim, .ref kit, .ref kv, .ref kre, .int tf, .ref ksh, .int rf, .ref kwa, .ref kta], oC kb 0 [.int (nI w), .int (nI h), .int (nI la), .ref ka, .ref kc, .ref kl, .ref kn], iA G ka 16 af, oC kc 2 [.ref kcn, .int (nI 10), .int (nI nc)], iA G kcn (3 * 10) fc, oC kv 4 [.ref km, .ref kg, .int (nI vw2_135), .int (nI vh2_135), .int sl2_135], iA G km 176 mk2_135, iA G kg 160 sg2_135] H := hP
  replace hD : va_D (va_A (w_X5_count_5 G kx kim kit kre ksh kwa kta tf rf kb ka kc kcn kl kn w h la af nc fc kv km kg vw vh sl mk sg) ss.heap.size) [oC kx 5 [.ref kb, .ref kim, .ref kit, .ref kv, .ref kre, .int tf, .ref ksh, .int rf, .ref kwa, .ref kta], oC kb 0 [.int (nI w), .int (nI h), .int (nI la), .ref ka, .ref kc, .ref kl, .ref kn], iA G ka 16 af, oC kc 2 [.ref kcn, .int (nI 10), .int (nI nc)], iA G kcn (3 * 10) fc, oC kv 4 [.ref km, .ref kg, .int (nI vw2_135), .int (nI vh2_135), .int sl2_135], iA G km 176 mk2_135, iA G kg 160 sg2_135] := hD
  have hP := hP.sub (ws' := [oC kx 5 [.ref kb, .ref kim, .ref kit, .ref kv, .ref kre, .int tf, .ref ksh, .int rf, .ref kwa, .ref kta], oC kb 0 [.int (nI w), .int (nI h), .int (nI la), .ref ka, .ref kc, .ref kl, .ref kn], iA G ka 16 af, oC kc 2 [.ref kcn, .int (nI 10), .int (nI nc)], iA G kcn (3 * 10) fc, oC kv 4 [.ref km, .ref kg, .int (nI vw2_135), .int (nI vh2_135), .int sl2_135], iA G km 176 mk2_135, iA G kg 160 sg2_135]) [0, 1, 2, 3, 4, 5, 6, 7] rfl
  have hD := hD.sub (ws' := [oC kx 5 [.ref kb, .ref kim, .ref kit, .ref kv, .ref kre, .int tf, .ref ksh, .int rf, .ref kwa, .ref kta], oC kb 0 [.int (nI w), .int (nI h), .int (nI la), .ref ka, .ref kc, .ref kl, .ref kn], iA G ka 16 af, oC kc 2 [.ref kcn, .int (nI 10), .int (nI nc)], iA G kcn (3 * 10) fc, oC kv 4 [.ref km, .ref kg, .int (nI vw2_135), .int (nI vh2_135), .int sl2_135], iA G km 176 mk2_135, iA G kg 160 sg2_135]) [0, 1, 2, 3, 4, 5, 6, 7] (by decide) rfl
  refine W.iret (v := nI (cntF (fun d => decide (¬ unS w h af nc fc d (d + 1) = 0)) la)) hx hb hr (fun t ht hW => ⟨⟨nI (cntF (fun d => decide (¬ unS w h af nc fc d (d + 1) = 0)) la), (mk2_135, sg2_135, vw2_135, vh2_135, sl2_135), rfl, ?_, by rw [ht]; exact hP, hD⟩, hS.F ht⟩) hS.2.2 dX5_count_138
  try dsimp only
  exact ⟨rfl, he135⟩

abbrev w_X5_count_b (G : XG) (kx kim kit kv kre ksh kwa kta : Nat) (tf rf : Int32) (kb : Nat) : va_W := [oC kx 5 [.ref kb, .ref kim, .ref kit, .ref kv, .ref kre, .int tf, .ref ksh, .int rf, .ref kwa, .ref kta]]
abbrev Q_X5_count_b (G : XG) (kx kim kit kv kre ksh kwa kta : Nat) (tf rf : Int32) (kb : Nat) (a : Int32) : Array Value → State → Outcome → State → Prop := (xRi (fun r => r = (-1)))
set_option maxHeartbeats 4000000 in
set_option maxRecDepth 100000 in
theorem c_X5_count_b (l : Launch) (G : XG) (kx kim kit kv kre ksh kwa kta : Nat) (tf rf : Int32) (kb : Nat) (a : Int32) (hbad : ¬ inR a 6) : Met l yX5_count wsX5_count ({ frames := 0, cells := 0, slots := 0, locals := 0 } : Room) (va_Pc [.ref kx, .int a] (xRp G (w_X5_count_b G kx kim kit kv kre ksh kwa kta tf rf kb))) (Q_X5_count_b G kx kim kit kv kre ksh kwa kta tf rf kb a) 0 0 (fun _ => False) := by
  refine Met.ofW (cc := cX5_count) (maxL := 2) (ret := (some .int)) (by decide) rfl ?_
  intro pp ee ss mm aa below mt cd s₁ BB hml hv
  obtain ⟨rfl, hP, hK⟩ := hv
  have hx := BB.exec
  have hb := BB.bytes
  have hr := BB.returns
  have hts := atoms_spec (ws := wsX5_count) BB.pre
  have hown : ss.vm.findClass RX5 = some mm.cls := findClass_of_methodNamed BB.named
  have hlocks := BB.notSynchronized
  have hS : va_S (fun _ => False) ss.heap ss.heap [] := va_S.rf
  replace hP : xP G [oC kx 5 [.ref kb, .ref kim, .ref kit, .ref kv, .ref kre, .int tf, .ref ksh, .int rf, .ref kwa, .ref kta]] ss.heap := hP
  have hin0 : ∀ w ∈ u_ws RX0 TX0 7, w ∈ wsX5_count := fun w h => List.mem_cons_of_mem _ (List.mem_append_left _ (List.mem_append_left _ (List.mem_append_left _ (List.mem_append_left _ (List.mem_append_right _ h)))))
  have hin1 : ∀ w ∈ u_ws RX1 TX1 13, w ∈ wsX5_count := fun w h => List.mem_cons_of_mem _ (List.mem_append_left _ (List.mem_append_left _ (List.mem_append_right _ h)))
  have hin2 : ∀ w ∈ u_ws RX2 TX2 3, w ∈ wsX5_count := fun w h => List.mem_cons_of_mem _ (List.mem_append_left _ (List.mem_append_left _ (List.mem_append_left _ (List.mem_append_right _ h))))
  have hin3 : ∀ w ∈ u_ws RX3 TX3 3, w ∈ wsX5_count := fun w h => List.mem_cons_of_mem _ (List.mem_append_left _ (List.mem_append_right _ h))
  have hin4 : ∀ w ∈ u_ws RX4 TX4 5, w ∈ wsX5_count := fun w h => List.mem_cons_of_mem _ (List.mem_append_right _ h)
  have hin5 : ∀ w ∈ u_ws RX5 TX5 10, w ∈ wsX5_count := fun w h => List.mem_cons_of_mem _ (List.mem_append_left _ (List.mem_append_left _ (List.mem_append_left _ (List.mem_append_left _ (List.mem_append_left _ (List.mem_append_right _ h))))))
  have hl := lv_entry ([.ref kx, .int a]) (n := 2) (Nat.le_of_ble_eq_true rfl)
  rw [lg_entry_eq]
  generalize (lg_sl ([.ref kx, .int a]) ++ List.replicate (2 - (lg_sl ([.ref kx, .int a])).length) Slot.unset).toArray = ls at hl ⊢
  replace hl : lv_has ls 2 [(0, .ref kx), (1, .int a)] := hl
  refine lv_iload_n hx hb dX5_count_0 rfl (lv_at hl 1 rfl) ?_
  have hsw : ¬ inR a 6 := hbad
  refine lv_tableOut (tgt := 139) hx hb dX5_count_1 (by unfold inR at hsw; omega) rfl ?_
  refine lv_iconst (v := (-1)) hx hb dX5_count_139 (by decide) ?_
  refine W.iret (v := (-1)) hx hb hr (fun t ht hW => ⟨⟨(-1), (), rfl, ?_, trivial⟩, hS.F ht⟩) hS.2.2 dX5_count_140
  rfl

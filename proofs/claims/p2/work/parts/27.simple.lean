abbrev w_X5_fault (G : XG) (kx kim kit kre ksh kwa kta kv : Nat) (tf rf : Int32) (kb : Nat) : va_W := [oC kx 5 [.ref kb, .ref kim, .ref kit, .ref kv, .ref kre, .int tf, .ref ksh, .int rf, .ref kwa, .ref kta]]
abbrev Q_X5_fault (G : XG) (kx kim kit kre ksh kwa kta kv : Nat) (tf rf : Int32) (kb : Nat) : Array Value → State → Outcome → State → Prop := (xRi (fun r => r = tf))
set_option maxHeartbeats 4000000 in
set_option maxRecDepth 100000 in
theorem c_X5_fault (l : Launch) (G : XG) (kx kim kit kre ksh kwa kta kv : Nat) (tf rf : Int32) (kb : Nat)  : Met l yX5_fault wsX5_fault ({ frames := 0, cells := 0, slots := 0, locals := 0 } : Room) (va_Pc [.ref kx] (xRp G (w_X5_fault G kx kim kit kre ksh kwa kta kv tf rf kb))) (Q_X5_fault G kx kim kit kre ksh kwa kta kv tf rf kb) 0 0 (fun _ => False) := by
  refine Met.ofW (cc := cX5_fault) (maxL := 1) (ret := (some .int)) (by decide) rfl ?_
  intro pp ee ss mm aa below mt cd s₁ BB hml hv
  obtain ⟨rfl, hP, hK⟩ := hv
  have hx := BB.exec
  have hb := BB.bytes
  have hr := BB.returns
  have hts := atoms_spec (ws := wsX5_fault) BB.pre
  have hown : ss.vm.findClass RX5 = some mm.cls := findClass_of_methodNamed BB.named
  have hlocks := BB.notSynchronized
  have hS : va_S (fun _ => False) ss.heap ss.heap [] := va_S.rf
  replace hP : xP G [oC kx 5 [.ref kb, .ref kim, .ref kit, .ref kv, .ref kre, .int tf, .ref ksh, .int rf, .ref kwa, .ref kta]] ss.heap := hP
  have hin5 : ∀ w ∈ u_ws RX5 TX5 10, w ∈ wsX5_fault := fun w h => List.mem_cons_of_mem _ (List.mem_append_right _ h)
  have hl := lv_entry ([.ref kx]) (n := 1) (Nat.le_of_ble_eq_true rfl)
  rw [lg_entry_eq]
  generalize (lg_sl ([.ref kx]) ++ List.replicate (1 - (lg_sl ([.ref kx])).length) Slot.unset).toArray = ls at hl ⊢
  replace hl : lv_has ls 1 [(0, .ref kx)] := hl
  refine lv_aload_n hx hb dX5_fault_0 rfl (lv_at hl 0 rfl) ?_
  refine va_get (D := G.1) (ci := 5) (v := .int tf) (C := RX5) (T := TX5) (N := 10) hx hb hts hin5 hown hK.1 hP 0 rfl rfl 5 (by decide) (hts (.fieldLink RX5 63 "BackLenses" "textFault" "I") (List.mem_of_getElem? (i := 1) rfl)) (fun _ h9 => h9) rfl dX5_fault_1 ?_
  refine W.iret (v := tf) hx hb hr (fun t ht hW => ⟨⟨tf, (), rfl, ?_, trivial⟩, hS.F ht⟩) hS.2.2 dX5_fault_4
  rfl

abbrev w_X5_torn (G : XG) (kx kim kit kre ksh kwa kta kv : Nat) (tf rf : Int32) (kb : Nat) : va_W := [oC kx 5 [.ref kb, .ref kim, .ref kit, .ref kv, .ref kre, .int tf, .ref ksh, .int rf, .ref kwa, .ref kta]]
abbrev Q_X5_torn (G : XG) (kx kim kit kre ksh kwa kta kv : Nat) (tf rf : Int32) (kb : Nat) : Array Value → State → Outcome → State → Prop := (xRi (fun r => r = rf))
set_option maxHeartbeats 4000000 in
set_option maxRecDepth 100000 in
theorem c_X5_torn (l : Launch) (G : XG) (kx kim kit kre ksh kwa kta kv : Nat) (tf rf : Int32) (kb : Nat)  : Met l yX5_torn wsX5_torn ({ frames := 0, cells := 0, slots := 0, locals := 0 } : Room) (va_Pc [.ref kx] (xRp G (w_X5_torn G kx kim kit kre ksh kwa kta kv tf rf kb))) (Q_X5_torn G kx kim kit kre ksh kwa kta kv tf rf kb) 0 0 (fun _ => False) := by
  refine Met.ofW (cc := cX5_torn) (maxL := 1) (ret := (some .int)) (by decide) rfl ?_
  intro pp ee ss mm aa below mt cd s₁ BB hml hv
  obtain ⟨rfl, hP, hK⟩ := hv
  have hx := BB.exec
  have hb := BB.bytes
  have hr := BB.returns
  have hts := atoms_spec (ws := wsX5_torn) BB.pre
  have hown : ss.vm.findClass RX5 = some mm.cls := findClass_of_methodNamed BB.named
  have hlocks := BB.notSynchronized
  have hS : va_S (fun _ => False) ss.heap ss.heap [] := va_S.rf
  replace hP : xP G [oC kx 5 [.ref kb, .ref kim, .ref kit, .ref kv, .ref kre, .int tf, .ref ksh, .int rf, .ref kwa, .ref kta]] ss.heap := hP
  have hin5 : ∀ w ∈ u_ws RX5 TX5 10, w ∈ wsX5_torn := fun w h => List.mem_cons_of_mem _ (List.mem_append_right _ h)
  have hl := lv_entry ([.ref kx]) (n := 1) (Nat.le_of_ble_eq_true rfl)
  rw [lg_entry_eq]
  generalize (lg_sl ([.ref kx]) ++ List.replicate (1 - (lg_sl ([.ref kx])).length) Slot.unset).toArray = ls at hl ⊢
  replace hl : lv_has ls 1 [(0, .ref kx)] := hl
  refine lv_aload_n hx hb dX5_torn_0 rfl (lv_at hl 0 rfl) ?_
  refine va_get (D := G.1) (ci := 5) (v := .int rf) (C := RX5) (T := TX5) (N := 10) hx hb hts hin5 hown hK.1 hP 0 rfl rfl 7 (by decide) (hts (.fieldLink RX5 237 "BackLenses" "readFault" "I") (List.mem_of_getElem? (i := 1) rfl)) (fun _ h9 => h9) rfl dX5_torn_1 ?_
  refine W.iret (v := rf) hx hb hr (fun t ht hW => ⟨⟨rf, (), rfl, ?_, trivial⟩, hS.F ht⟩) hS.2.2 dX5_torn_4
  rfl

abbrev w_X5_rule (G : XG) (kx kim kit kre ksh kwa kta kv : Nat) (tf rf : Int32) (kb ka kc kl kn : Nat) (w h la : Nat) (kcn : Nat) (nc : Nat) (kln : Nat) (nl : Nat) : va_W := [oC kx 5 [.ref kb, .ref kim, .ref kit, .ref kv, .ref kre, .int tf, .ref ksh, .int rf, .ref kwa, .ref kta], oC kb 0 [.int (nI w), .int (nI h), .int (nI la), .ref ka, .ref kc, .ref kl, .ref kn], oC kc 2 [.ref kcn, .int (nI 10), .int (nI nc)], oC kl 2 [.ref kln, .int (nI 6), .int (nI nl)]]
abbrev Q_X5_rule (G : XG) (kx kim kit kre ksh kwa kta kv : Nat) (tf rf : Int32) (kb ka kc kl kn : Nat) (w h la : Nat) (kcn : Nat) (nc : Nat) (fc : Nat → Int32) (kln : Nat) (nl : Nat) (fl : Nat → Int32) (a : Int32) : Array Value → State → Outcome → State → Prop := (xRi (fun r => r = (if a = nI 0 then nI w else if a = nI 1 then nI h else if a = nI 2 then nI la else if a = nI 3 then nI nc else if a = nI 4 then nI nl else (-1))))
set_option maxHeartbeats 4000000 in
set_option maxRecDepth 100000 in
theorem c_X5_rule (l : Launch) (G : XG) (kx kim kit kre ksh kwa kta kv : Nat) (tf rf : Int32) (kb ka kc kl kn : Nat) (w h la : Nat) (kcn : Nat) (nc : Nat) (fc : Nat → Int32) (kln : Nat) (nl : Nat) (fl : Nat → Int32) (a : Int32)  : Met l yX5_rule wsX5_rule ({ frames := 0, cells := 0, slots := 0, locals := 0 } : Room) (va_Pc [.ref kx, .int a] (xRp G (w_X5_rule G kx kim kit kre ksh kwa kta kv tf rf kb ka kc kl kn w h la kcn nc kln nl))) (Q_X5_rule G kx kim kit kre ksh kwa kta kv tf rf kb ka kc kl kn w h la kcn nc fc kln nl fl a) 0 0 (fun _ => False) := by
  refine Met.ofW (cc := cX5_rule) (maxL := 2) (ret := (some .int)) (by decide) rfl ?_
  intro pp ee ss mm aa below mt cd s₁ BB hml hv
  obtain ⟨rfl, hP, hK⟩ := hv
  have hx := BB.exec
  have hb := BB.bytes
  have hr := BB.returns
  have hts := atoms_spec (ws := wsX5_rule) BB.pre
  have hown : ss.vm.findClass RX5 = some mm.cls := findClass_of_methodNamed BB.named
  have hlocks := BB.notSynchronized
  have hS : va_S (fun _ => False) ss.heap ss.heap [] := va_S.rf
  replace hP : xP G [oC kx 5 [.ref kb, .ref kim, .ref kit, .ref kv, .ref kre, .int tf, .ref ksh, .int rf, .ref kwa, .ref kta], oC kb 0 [.int (nI w), .int (nI h), .int (nI la), .ref ka, .ref kc, .ref kl, .ref kn], oC kc 2 [.ref kcn, .int (nI 10), .int (nI nc)], oC kl 2 [.ref kln, .int (nI 6), .int (nI nl)]] ss.heap := hP
  have hin0 : ∀ w ∈ u_ws RX0 TX0 7, w ∈ wsX5_rule := fun w h => List.mem_cons_of_mem _ (List.mem_append_left _ (List.mem_append_right _ h))
  have hin2 : ∀ w ∈ u_ws RX2 TX2 3, w ∈ wsX5_rule := fun w h => List.mem_cons_of_mem _ (List.mem_append_right _ h)
  have hin5 : ∀ w ∈ u_ws RX5 TX5 10, w ∈ wsX5_rule := fun w h => List.mem_cons_of_mem _ (List.mem_append_left _ (List.mem_append_left _ (List.mem_append_right _ h)))
  have hl := lv_entry ([.ref kx, .int a]) (n := 2) (Nat.le_of_ble_eq_true rfl)
  rw [lg_entry_eq]
  generalize (lg_sl ([.ref kx, .int a]) ++ List.replicate (2 - (lg_sl ([.ref kx, .int a])).length) Slot.unset).toArray = ls at hl ⊢
  replace hl : lv_has ls 2 [(0, .ref kx), (1, .int a)] := hl
  refine lv_iload_n hx hb dX5_rule_0 rfl (lv_at hl 1 rfl) ?_
  by_cases hsw : inR a 5
  · obtain ⟨jsw, hjsw, rfl⟩ := inR_nat hsw
    rcases (show jsw = 0 ∨ jsw = 1 ∨ jsw = 2 ∨ jsw = 3 ∨ jsw = 4 by omega) with rfl | rfl | rfl | rfl | rfl
    · skip
      refine lv_tableIn (off := 35) (tgt := 36) hx hb dX5_rule_1 (by decide) (by decide) rfl rfl ?_
      refine lv_aload_n hx hb dX5_rule_36 rfl (lv_at hl 0 rfl) ?_
      refine va_get (D := G.1) (ci := 5) (v := .ref kb) (C := RX5) (T := TX5) (N := 10) hx hb hts hin5 hown hK.1 hP 0 rfl rfl 0 (by decide) (hts (.fieldLink RX5 10 "BackLenses" "book" "LBackLenses$Book;") (List.mem_of_getElem? (i := 1) rfl)) (fun _ h9 => h9) rfl dX5_rule_37 ?_
      refine va_getN (D := G.1) (ci := 0) (v := .int (nI w)) (C := RX0) (T := TX0) (N := 7) hx hb hts hin0 hown hK.1 hP 1 rfl rfl 0 (by decide) (va_Nw.use rfl (hK.2 (Cond.fieldLinkNest "BackLenses" (84 : Nat) "BackLenses$Book" "wide" "I" "BackLenses") (List.mem_of_getElem? (i := 5) rfl))) (fun _ h9 => h9) rfl dX5_rule_40 ?_
      refine W.iret (v := nI w) hx hb hr (fun t ht hW => ⟨⟨nI w, (), rfl, ?_, trivial⟩, hS.F ht⟩) hS.2.2 dX5_rule_43
      first | rfl | (repeat rw [if_neg (fun q => hsw (by rw [q]; exact inR_nI (by decide) (by decide)))])
    · skip
      refine lv_tableIn (off := 43) (tgt := 44) hx hb dX5_rule_1 (by decide) (by decide) rfl rfl ?_
      refine lv_aload_n hx hb dX5_rule_44 rfl (lv_at hl 0 rfl) ?_
      refine va_get (D := G.1) (ci := 5) (v := .ref kb) (C := RX5) (T := TX5) (N := 10) hx hb hts hin5 hown hK.1 hP 0 rfl rfl 0 (by decide) (hts (.fieldLink RX5 10 "BackLenses" "book" "LBackLenses$Book;") (List.mem_of_getElem? (i := 1) rfl)) (fun _ h9 => h9) rfl dX5_rule_45 ?_
      refine va_getN (D := G.1) (ci := 0) (v := .int (nI h)) (C := RX0) (T := TX0) (N := 7) hx hb hts hin0 hown hK.1 hP 1 rfl rfl 1 (by decide) (va_Nw.use rfl (hK.2 (Cond.fieldLinkNest "BackLenses" (87 : Nat) "BackLenses$Book" "high" "I" "BackLenses") (List.mem_of_getElem? (i := 8) rfl))) (fun _ h9 => h9) rfl dX5_rule_48 ?_
      refine W.iret (v := nI h) hx hb hr (fun t ht hW => ⟨⟨nI h, (), rfl, ?_, trivial⟩, hS.F ht⟩) hS.2.2 dX5_rule_51
      first | rfl | (repeat rw [if_neg (fun q => hsw (by rw [q]; exact inR_nI (by decide) (by decide)))])
    · skip
      refine lv_tableIn (off := 51) (tgt := 52) hx hb dX5_rule_1 (by decide) (by decide) rfl rfl ?_
      refine lv_aload_n hx hb dX5_rule_52 rfl (lv_at hl 0 rfl) ?_
      refine va_get (D := G.1) (ci := 5) (v := .ref kb) (C := RX5) (T := TX5) (N := 10) hx hb hts hin5 hown hK.1 hP 0 rfl rfl 0 (by decide) (hts (.fieldLink RX5 10 "BackLenses" "book" "LBackLenses$Book;") (List.mem_of_getElem? (i := 1) rfl)) (fun _ h9 => h9) rfl dX5_rule_53 ?_
      refine va_getN (D := G.1) (ci := 0) (v := .int (nI la)) (C := RX0) (T := TX0) (N := 7) hx hb hts hin0 hown hK.1 hP 1 rfl rfl 2 (by decide) (va_Nw.use rfl (hK.2 (Cond.fieldLinkNest "BackLenses" (90 : Nat) "BackLenses$Book" "last" "I" "BackLenses") (List.mem_of_getElem? (i := 11) rfl))) (fun _ h9 => h9) rfl dX5_rule_56 ?_
      refine W.iret (v := nI la) hx hb hr (fun t ht hW => ⟨⟨nI la, (), rfl, ?_, trivial⟩, hS.F ht⟩) hS.2.2 dX5_rule_59
      first | rfl | (repeat rw [if_neg (fun q => hsw (by rw [q]; exact inR_nI (by decide) (by decide)))])
    · skip
      refine lv_tableIn (off := 59) (tgt := 60) hx hb dX5_rule_1 (by decide) (by decide) rfl rfl ?_
      refine lv_aload_n hx hb dX5_rule_60 rfl (lv_at hl 0 rfl) ?_
      refine va_get (D := G.1) (ci := 5) (v := .ref kb) (C := RX5) (T := TX5) (N := 10) hx hb hts hin5 hown hK.1 hP 0 rfl rfl 0 (by decide) (hts (.fieldLink RX5 10 "BackLenses" "book" "LBackLenses$Book;") (List.mem_of_getElem? (i := 1) rfl)) (fun _ h9 => h9) rfl dX5_rule_61 ?_
      refine va_getN (D := G.1) (ci := 0) (v := .ref kc) (C := RX0) (T := TX0) (N := 7) hx hb hts hin0 hown hK.1 hP 1 rfl rfl 4 (by decide) (va_Nw.use rfl (hK.2 (Cond.fieldLinkNest "BackLenses" (93 : Nat) "BackLenses$Book" "changes" "LBackLenses$Rows;" "BackLenses") (List.mem_of_getElem? (i := 18) rfl))) (fun _ h9 => h9) rfl dX5_rule_64 ?_
      refine va_getN (D := G.1) (ci := 2) (v := .int (nI nc)) (C := RX2) (T := TX2) (N := 3) hx hb hts hin2 hown hK.1 hP 2 rfl rfl 2 (by decide) (va_Nw.use rfl (hK.2 (Cond.fieldLinkNest "BackLenses" (97 : Nat) "BackLenses$Rows" "size" "I" "BackLenses") (List.mem_of_getElem? (i := 3) rfl))) (fun _ h9 => h9) rfl dX5_rule_67 ?_
      refine W.iret (v := nI nc) hx hb hr (fun t ht hW => ⟨⟨nI nc, (), rfl, ?_, trivial⟩, hS.F ht⟩) hS.2.2 dX5_rule_70
      first | rfl | (repeat rw [if_neg (fun q => hsw (by rw [q]; exact inR_nI (by decide) (by decide)))])
    · skip
      refine lv_tableIn (off := 70) (tgt := 71) hx hb dX5_rule_1 (by decide) (by decide) rfl rfl ?_
      refine lv_aload_n hx hb dX5_rule_71 rfl (lv_at hl 0 rfl) ?_
      refine va_get (D := G.1) (ci := 5) (v := .ref kb) (C := RX5) (T := TX5) (N := 10) hx hb hts hin5 hown hK.1 hP 0 rfl rfl 0 (by decide) (hts (.fieldLink RX5 10 "BackLenses" "book" "LBackLenses$Book;") (List.mem_of_getElem? (i := 1) rfl)) (fun _ h9 => h9) rfl dX5_rule_72 ?_
      refine va_getN (D := G.1) (ci := 0) (v := .ref kl) (C := RX0) (T := TX0) (N := 7) hx hb hts hin0 hown hK.1 hP 1 rfl rfl 5 (by decide) (va_Nw.use rfl (hK.2 (Cond.fieldLinkNest "BackLenses" (102 : Nat) "BackLenses$Book" "lenses" "LBackLenses$Rows;" "BackLenses") (List.mem_of_getElem? (i := 20) rfl))) (fun _ h9 => h9) rfl dX5_rule_75 ?_
      refine va_getN (D := G.1) (ci := 2) (v := .int (nI nl)) (C := RX2) (T := TX2) (N := 3) hx hb hts hin2 hown hK.1 hP 3 rfl rfl 2 (by decide) (va_Nw.use rfl (hK.2 (Cond.fieldLinkNest "BackLenses" (97 : Nat) "BackLenses$Rows" "size" "I" "BackLenses") (List.mem_of_getElem? (i := 3) rfl))) (fun _ h9 => h9) rfl dX5_rule_78 ?_
      refine W.iret (v := nI nl) hx hb hr (fun t ht hW => ⟨⟨nI nl, (), rfl, ?_, trivial⟩, hS.F ht⟩) hS.2.2 dX5_rule_81
      first | rfl | (repeat rw [if_neg (fun q => hsw (by rw [q]; exact inR_nI (by decide) (by decide)))])
  · refine lv_tableOut (tgt := 82) hx hb dX5_rule_1 (by unfold inR at hsw; omega) rfl ?_
    refine lv_iconst (v := (-1)) hx hb dX5_rule_82 (by decide) ?_
    refine W.iret (v := (-1)) hx hb hr (fun t ht hW => ⟨⟨(-1), (), rfl, ?_, trivial⟩, hS.F ht⟩) hS.2.2 dX5_rule_83
    first | rfl | (repeat rw [if_neg (fun q => hsw (by rw [q]; exact inR_nI (by decide) (by decide)))])

abbrev w_X5_change (G : XG) (kx kim kit kre ksh kwa kta kv : Nat) (tf rf : Int32) (kb ka kc kl kn : Nat) (w h la : Nat) (kcn : Nat) (nc : Nat) (fc : Nat → Int32) : va_W := [oC kx 5 [.ref kb, .ref kim, .ref kit, .ref kv, .ref kre, .int tf, .ref ksh, .int rf, .ref kwa, .ref kta], oC kb 0 [.int (nI w), .int (nI h), .int (nI la), .ref ka, .ref kc, .ref kl, .ref kn], oC kc 2 [.ref kcn, .int (nI 10), .int (nI nc)], iA G kcn (3 * 10) fc]
abbrev Q_X5_change (G : XG) (kx kim kit kre ksh kwa kta kv : Nat) (tf rf : Int32) (kb ka kc kl kn : Nat) (w h la : Nat) (kcn : Nat) (nc : Nat) (fc : Nat → Int32) (i a : Int32) : Array Value → State → Outcome → State → Prop := (xRi (fun r => r = (if inR i nc ∧ inR a 3 then fc (3 * tn i + tn a) else (-1))))
set_option maxHeartbeats 4000000 in
set_option maxRecDepth 100000 in
theorem c_X5_change (l : Launch) (G : XG) (kx kim kit kre ksh kwa kta kv : Nat) (tf rf : Int32) (kb ka kc kl kn : Nat) (w h la : Nat) (kcn : Nat) (nc : Nat) (fc : Nat → Int32) (i a : Int32) (hnc : nc ≤ 10) : Met l yX5_change wsX5_change ({ frames := 1, cells := 0, slots := 0, locals := 22 } : Room) (va_Pc [.ref kx, .int i, .int a] (xRp G (w_X5_change G kx kim kit kre ksh kwa kta kv tf rf kb ka kc kl kn w h la kcn nc fc))) (Q_X5_change G kx kim kit kre ksh kwa kta kv tf rf kb ka kc kl kn w h la kcn nc fc i a) 0 0 (fun _ => False) := by
  refine Met.ofW (cc := cX5_change) (maxL := 3) (ret := (some .int)) (by decide) rfl ?_
  intro pp ee ss mm aa below mt cd s₁ BB hml hv
  obtain ⟨rfl, hP, hK⟩ := hv
  have hx := BB.exec
  have hb := BB.bytes
  have hr := BB.returns
  have hts := atoms_spec (ws := wsX5_change) BB.pre
  have hown : ss.vm.findClass RX5 = some mm.cls := findClass_of_methodNamed BB.named
  have hlocks := BB.notSynchronized
  have hS : va_S (fun _ => False) ss.heap ss.heap [] := va_S.rf
  replace hP : xP G [oC kx 5 [.ref kb, .ref kim, .ref kit, .ref kv, .ref kre, .int tf, .ref ksh, .int rf, .ref kwa, .ref kta], oC kb 0 [.int (nI w), .int (nI h), .int (nI la), .ref ka, .ref kc, .ref kl, .ref kn], oC kc 2 [.ref kcn, .int (nI 10), .int (nI nc)], iA G kcn (3 * 10) fc] ss.heap := hP
  have hin0 : ∀ w ∈ u_ws RX0 TX0 7, w ∈ wsX5_change := fun w h => List.mem_cons_of_mem _ (List.mem_append_left _ (List.mem_append_right _ h))
  have hin2 : ∀ w ∈ u_ws RX2 TX2 3, w ∈ wsX5_change := fun w h => List.mem_cons_of_mem _ (List.mem_append_right _ h)
  have hin5 : ∀ w ∈ u_ws RX5 TX5 10, w ∈ wsX5_change := fun w h => List.mem_cons_of_mem _ (List.mem_append_left _ (List.mem_append_left _ (List.mem_append_right _ h)))
  have hl := lv_entry ([.ref kx, .int i, .int a]) (n := 3) (Nat.le_of_ble_eq_true rfl)
  rw [lg_entry_eq]
  generalize (lg_sl ([.ref kx, .int i, .int a]) ++ List.replicate (3 - (lg_sl ([.ref kx, .int i, .int a])).length) Slot.unset).toArray = ls at hl ⊢
  replace hl : lv_has ls 3 [(0, .ref kx), (1, .int i), (2, .int a)] := hl
  refine lv_aload_n hx hb dX5_change_0 rfl (lv_at hl 0 rfl) ?_
  refine va_get (D := G.1) (ci := 5) (v := .ref kb) (C := RX5) (T := TX5) (N := 10) hx hb hts hin5 hown hK.1 hP 0 rfl rfl 0 (by decide) (hts (.fieldLink RX5 10 "BackLenses" "book" "LBackLenses$Book;") (List.mem_of_getElem? (i := 1) rfl)) (fun _ h9 => h9) rfl dX5_change_1 ?_
  refine va_getN (D := G.1) (ci := 0) (v := .ref kc) (C := RX0) (T := TX0) (N := 7) hx hb hts hin0 hown hK.1 hP 1 rfl rfl 4 (by decide) (va_Nw.use rfl (hK.2 (Cond.fieldLinkNest "BackLenses" (93 : Nat) "BackLenses$Book" "changes" "LBackLenses$Rows;" "BackLenses") (List.mem_of_getElem? (i := 18) rfl))) (fun _ h9 => h9) rfl dX5_change_4 ?_
  refine lv_iload_n hx hb dX5_change_7 rfl (lv_at hl 1 rfl) ?_
  refine xr_i (As := [.int i]) (rest := []) ⟨hx, hb, hml, hown, hts⟩ (c_X2_has l G kc kcn 10 nc i (by first | assumption | omega)) (cwV 1 hts gX5_change_X2_has rfl rfl rfl (by decide +kernel) ⟨Nat.le_of_ble_eq_true rfl, Nat.le_of_ble_eq_true rfl⟩) hK hP hS [2] rfl rfl rfl rfl hl.1 rfl (Nat.le_of_ble_eq_true rfl) dX5_change_8 ⟨Nat.zero_le _, Nat.zero_le _⟩ (fun r8 H locs hp8 hP hS => ?_)
  obtain rfl : r8 = xb (inR i nc) := hp8
  refine xb_if_eq (tgt := 23) hx hb dX5_change_11 rfl (fun b11 => ?_) (fun b11 => ?_)
  · skip
    refine lv_iconst (v := (-1)) hx hb dX5_change_23 (by decide) ?_
    refine W.iret (v := (-1)) hx hb hr (fun t ht hW => ⟨⟨(-1), (), rfl, ?_, trivial⟩, hS.F ht⟩) hS.2.2 dX5_change_24
    first | exact (if_neg (fun q => b11 q.1)).symm | exact (if_neg (fun q => (show ¬ inR a 3 by unfold inR; omega) q.2)).symm | (rw [if_pos ⟨inR_nI hi0 (by omega), inR_nI ha0 (by omega)⟩, tn_nI (by omega), tn_nI (by omega)])
  · skip
    refine lv_iload_n hx hb dX5_change_14 rfl (lv_at hl 2 rfl) ?_
    refine xi_if_lt (tgt := 23) hx hb dX5_change_15 rfl (fun b15 => ?_) (fun b15 => ?_)
    · skip
      refine lv_iconst (v := (-1)) hx hb dX5_change_23 (by decide) ?_
      refine W.iret (v := (-1)) hx hb hr (fun t ht hW => ⟨⟨(-1), (), rfl, ?_, trivial⟩, hS.F ht⟩) hS.2.2 dX5_change_24
      first | exact (if_neg (fun q => b11 q.1)).symm | exact (if_neg (fun q => (show ¬ inR a 3 by unfold inR; omega) q.2)).symm | (rw [if_pos ⟨inR_nI hi0 (by omega), inR_nI ha0 (by omega)⟩, tn_nI (by omega), tn_nI (by omega)])
    · skip
      refine lv_iload_n hx hb dX5_change_18 rfl (lv_at hl 2 rfl) ?_
      refine lv_iconst (v := nI 2) hx hb dX5_change_19 (by decide) ?_
      refine xm_icmp_le (tgt := 25) hx hb (by omega) dX5_change_20 rfl (fun b20 => ?_) (fun b20 => ?_)
      · skip
        have b21 : inR a 3 := (by unfold inR; omega)
        obtain ⟨i0, hi0, rfl⟩ := inR_nat b11
        obtain ⟨a0, ha0, rfl⟩ := inR_nat b21
        refine lv_aload_n hx hb dX5_change_25 rfl (lv_at hl 0 rfl) ?_
        refine va_get (D := G.1) (ci := 5) (v := .ref kb) (C := RX5) (T := TX5) (N := 10) hx hb hts hin5 hown hK.1 hP 0 rfl rfl 0 (by decide) (hts (.fieldLink RX5 10 "BackLenses" "book" "LBackLenses$Book;") (List.mem_of_getElem? (i := 1) rfl)) (fun _ h9 => h9) rfl dX5_change_26 ?_
        refine va_getN (D := G.1) (ci := 0) (v := .ref kc) (C := RX0) (T := TX0) (N := 7) hx hb hts hin0 hown hK.1 hP 1 rfl rfl 4 (by decide) (va_Nw.use rfl (hK.2 (Cond.fieldLinkNest "BackLenses" (93 : Nat) "BackLenses$Book" "changes" "LBackLenses$Rows;" "BackLenses") (List.mem_of_getElem? (i := 18) rfl))) (fun _ h9 => h9) rfl dX5_change_29 ?_
        refine lv_iload_n hx hb dX5_change_32 rfl (lv_at hl 1 rfl) ?_
        refine lv_iload_n hx hb dX5_change_33 rfl (lv_at hl 2 rfl) ?_
        refine xr_i (As := [.int (nI i0), .int (nI a0)]) (rest := []) ⟨hx, hb, hml, hown, hts⟩ (c_X2_number l G kc kcn 10 nc fc i0 a0 (by first | assumption | omega) (by first | assumption | omega)) (cwV 2 hts gX5_change_X2_number rfl rfl rfl (by decide +kernel) ⟨Nat.le_of_ble_eq_true rfl, Nat.le_of_ble_eq_true rfl⟩) hK hP hS [2, 3] rfl rfl rfl rfl hl.1 rfl (Nat.le_of_ble_eq_true rfl) dX5_change_34 ⟨Nat.zero_le _, Nat.zero_le _⟩ (fun r34 H locs hp34 hP hS => ?_)
        obtain rfl : r34 = fc (3 * i0 + a0) := hp34
        refine W.iret (v := fc (3 * i0 + a0)) hx hb hr (fun t ht hW => ⟨⟨fc (3 * i0 + a0), (), rfl, ?_, trivial⟩, hS.F ht⟩) hS.2.2 dX5_change_37
        first | exact (if_neg (fun q => b11 q.1)).symm | exact (if_neg (fun q => (show ¬ inR a 3 by unfold inR; omega) q.2)).symm | (rw [if_pos ⟨inR_nI hi0 (by omega), inR_nI ha0 (by omega)⟩, tn_nI (by omega), tn_nI (by omega)])
      · skip
        refine lv_iconst (v := (-1)) hx hb dX5_change_23 (by decide) ?_
        refine W.iret (v := (-1)) hx hb hr (fun t ht hW => ⟨⟨(-1), (), rfl, ?_, trivial⟩, hS.F ht⟩) hS.2.2 dX5_change_24
        first | exact (if_neg (fun q => b11 q.1)).symm | exact (if_neg (fun q => (show ¬ inR a 3 by unfold inR; omega) q.2)).symm | (rw [if_pos ⟨inR_nI hi0 (by omega), inR_nI ha0 (by omega)⟩, tn_nI (by omega), tn_nI (by omega)])

abbrev w_X5_lens (G : XG) (kx kim kit kre ksh kwa kta kv : Nat) (tf rf : Int32) (kb ka kc kl kn : Nat) (w h la : Nat) (kln : Nat) (nl : Nat) (fl : Nat → Int32) : va_W := [oC kx 5 [.ref kb, .ref kim, .ref kit, .ref kv, .ref kre, .int tf, .ref ksh, .int rf, .ref kwa, .ref kta], oC kb 0 [.int (nI w), .int (nI h), .int (nI la), .ref ka, .ref kc, .ref kl, .ref kn], oC kl 2 [.ref kln, .int (nI 6), .int (nI nl)], iA G kln (3 * 6) fl]
abbrev Q_X5_lens (G : XG) (kx kim kit kre ksh kwa kta kv : Nat) (tf rf : Int32) (kb ka kc kl kn : Nat) (w h la : Nat) (kln : Nat) (nl : Nat) (fl : Nat → Int32) (i a : Int32) : Array Value → State → Outcome → State → Prop := (xRi (fun r => r = (if inR i nl ∧ inR a 2 then fl (3 * tn i + tn a) else (-1))))
set_option maxHeartbeats 4000000 in
set_option maxRecDepth 100000 in
theorem c_X5_lens (l : Launch) (G : XG) (kx kim kit kre ksh kwa kta kv : Nat) (tf rf : Int32) (kb ka kc kl kn : Nat) (w h la : Nat) (kln : Nat) (nl : Nat) (fl : Nat → Int32) (i a : Int32) (hnl : nl ≤ 6) : Met l yX5_lens wsX5_lens ({ frames := 1, cells := 0, slots := 0, locals := 22 } : Room) (va_Pc [.ref kx, .int i, .int a] (xRp G (w_X5_lens G kx kim kit kre ksh kwa kta kv tf rf kb ka kc kl kn w h la kln nl fl))) (Q_X5_lens G kx kim kit kre ksh kwa kta kv tf rf kb ka kc kl kn w h la kln nl fl i a) 0 0 (fun _ => False) := by
  refine Met.ofW (cc := cX5_lens) (maxL := 3) (ret := (some .int)) (by decide) rfl ?_
  intro pp ee ss mm aa below mt cd s₁ BB hml hv
  obtain ⟨rfl, hP, hK⟩ := hv
  have hx := BB.exec
  have hb := BB.bytes
  have hr := BB.returns
  have hts := atoms_spec (ws := wsX5_lens) BB.pre
  have hown : ss.vm.findClass RX5 = some mm.cls := findClass_of_methodNamed BB.named
  have hlocks := BB.notSynchronized
  have hS : va_S (fun _ => False) ss.heap ss.heap [] := va_S.rf
  replace hP : xP G [oC kx 5 [.ref kb, .ref kim, .ref kit, .ref kv, .ref kre, .int tf, .ref ksh, .int rf, .ref kwa, .ref kta], oC kb 0 [.int (nI w), .int (nI h), .int (nI la), .ref ka, .ref kc, .ref kl, .ref kn], oC kl 2 [.ref kln, .int (nI 6), .int (nI nl)], iA G kln (3 * 6) fl] ss.heap := hP
  have hin0 : ∀ w ∈ u_ws RX0 TX0 7, w ∈ wsX5_lens := fun w h => List.mem_cons_of_mem _ (List.mem_append_left _ (List.mem_append_right _ h))
  have hin2 : ∀ w ∈ u_ws RX2 TX2 3, w ∈ wsX5_lens := fun w h => List.mem_cons_of_mem _ (List.mem_append_right _ h)
  have hin5 : ∀ w ∈ u_ws RX5 TX5 10, w ∈ wsX5_lens := fun w h => List.mem_cons_of_mem _ (List.mem_append_left _ (List.mem_append_left _ (List.mem_append_right _ h)))
  have hl := lv_entry ([.ref kx, .int i, .int a]) (n := 3) (Nat.le_of_ble_eq_true rfl)
  rw [lg_entry_eq]
  generalize (lg_sl ([.ref kx, .int i, .int a]) ++ List.replicate (3 - (lg_sl ([.ref kx, .int i, .int a])).length) Slot.unset).toArray = ls at hl ⊢
  replace hl : lv_has ls 3 [(0, .ref kx), (1, .int i), (2, .int a)] := hl
  refine lv_aload_n hx hb dX5_lens_0 rfl (lv_at hl 0 rfl) ?_
  refine va_get (D := G.1) (ci := 5) (v := .ref kb) (C := RX5) (T := TX5) (N := 10) hx hb hts hin5 hown hK.1 hP 0 rfl rfl 0 (by decide) (hts (.fieldLink RX5 10 "BackLenses" "book" "LBackLenses$Book;") (List.mem_of_getElem? (i := 1) rfl)) (fun _ h9 => h9) rfl dX5_lens_1 ?_
  refine va_getN (D := G.1) (ci := 0) (v := .ref kl) (C := RX0) (T := TX0) (N := 7) hx hb hts hin0 hown hK.1 hP 1 rfl rfl 5 (by decide) (va_Nw.use rfl (hK.2 (Cond.fieldLinkNest "BackLenses" (102 : Nat) "BackLenses$Book" "lenses" "LBackLenses$Rows;" "BackLenses") (List.mem_of_getElem? (i := 20) rfl))) (fun _ h9 => h9) rfl dX5_lens_4 ?_
  refine lv_iload_n hx hb dX5_lens_7 rfl (lv_at hl 1 rfl) ?_
  refine xr_i (As := [.int i]) (rest := []) ⟨hx, hb, hml, hown, hts⟩ (c_X2_has l G kl kln 6 nl i (by first | assumption | omega)) (cwV 1 hts gX5_lens_X2_has rfl rfl rfl (by decide +kernel) ⟨Nat.le_of_ble_eq_true rfl, Nat.le_of_ble_eq_true rfl⟩) hK hP hS [2] rfl rfl rfl rfl hl.1 rfl (Nat.le_of_ble_eq_true rfl) dX5_lens_8 ⟨Nat.zero_le _, Nat.zero_le _⟩ (fun r8 H locs hp8 hP hS => ?_)
  obtain rfl : r8 = xb (inR i nl) := hp8
  refine xb_if_eq (tgt := 21) hx hb dX5_lens_11 rfl (fun b11 => ?_) (fun b11 => ?_)
  · skip
    refine lv_iconst (v := (-1)) hx hb dX5_lens_21 (by decide) ?_
    refine W.iret (v := (-1)) hx hb hr (fun t ht hW => ⟨⟨(-1), (), rfl, ?_, trivial⟩, hS.F ht⟩) hS.2.2 dX5_lens_22
    first | exact (if_neg (fun q => b11 q.1)).symm | exact (if_neg (fun q => b18 q.2)).symm | (rw [if_pos ⟨inR_nI hi0 (by omega), inR_nI ha0 (by omega)⟩, tn_nI (by omega), tn_nI (by omega)])
  · skip
    refine lv_iload_n hx hb dX5_lens_14 rfl (lv_at hl 2 rfl) ?_
    refine xs_i (As := [.int a]) (rest := []) ⟨hx, hb, hml, hown, hts⟩ (c_X5_isChoice l G a ) (va_cwS 1 hts gX5_lens_X5_isChoice rfl rfl rfl (by decide +kernel) ⟨Nat.le_of_ble_eq_true rfl, Nat.le_of_ble_eq_true rfl⟩) hP hS rfl hl.1 rfl (Nat.le_of_ble_eq_true rfl) dX5_lens_15 ⟨Nat.zero_le _, Nat.zero_le _⟩ (fun r15 H locs hp15 hP hS => ?_)
    obtain rfl : r15 = xb (inR a 2) := hp15
    refine xb_if_ne (tgt := 23) hx hb dX5_lens_18 rfl (fun b18 => ?_) (fun b18 => ?_)
    · skip
      obtain ⟨i0, hi0, rfl⟩ := inR_nat b11
      obtain ⟨a0, ha0, rfl⟩ := inR_nat b18
      refine lv_aload_n hx hb dX5_lens_23 rfl (lv_at hl 0 rfl) ?_
      refine va_get (D := G.1) (ci := 5) (v := .ref kb) (C := RX5) (T := TX5) (N := 10) hx hb hts hin5 hown hK.1 hP 0 rfl rfl 0 (by decide) (hts (.fieldLink RX5 10 "BackLenses" "book" "LBackLenses$Book;") (List.mem_of_getElem? (i := 1) rfl)) (fun _ h9 => h9) rfl dX5_lens_24 ?_
      refine va_getN (D := G.1) (ci := 0) (v := .ref kl) (C := RX0) (T := TX0) (N := 7) hx hb hts hin0 hown hK.1 hP 1 rfl rfl 5 (by decide) (va_Nw.use rfl (hK.2 (Cond.fieldLinkNest "BackLenses" (102 : Nat) "BackLenses$Book" "lenses" "LBackLenses$Rows;" "BackLenses") (List.mem_of_getElem? (i := 20) rfl))) (fun _ h9 => h9) rfl dX5_lens_27 ?_
      refine lv_iload_n hx hb dX5_lens_30 rfl (lv_at hl 1 rfl) ?_
      refine lv_iload_n hx hb dX5_lens_31 rfl (lv_at hl 2 rfl) ?_
      refine xr_i (As := [.int (nI i0), .int (nI a0)]) (rest := []) ⟨hx, hb, hml, hown, hts⟩ (c_X2_number l G kl kln 6 nl fl i0 a0 (by first | assumption | omega) (by first | assumption | omega)) (cwV 2 hts gX5_lens_X2_number rfl rfl rfl (by decide +kernel) ⟨Nat.le_of_ble_eq_true rfl, Nat.le_of_ble_eq_true rfl⟩) hK hP hS [2, 3] rfl rfl rfl rfl hl.1 rfl (Nat.le_of_ble_eq_true rfl) dX5_lens_32 ⟨Nat.zero_le _, Nat.zero_le _⟩ (fun r32 H locs hp32 hP hS => ?_)
      obtain rfl : r32 = fl (3 * i0 + a0) := hp32
      refine W.iret (v := fl (3 * i0 + a0)) hx hb hr (fun t ht hW => ⟨⟨fl (3 * i0 + a0), (), rfl, ?_, trivial⟩, hS.F ht⟩) hS.2.2 dX5_lens_35
      first | exact (if_neg (fun q => b11 q.1)).symm | exact (if_neg (fun q => b18 q.2)).symm | (rw [if_pos ⟨inR_nI hi0 (by omega), inR_nI ha0 (by omega)⟩, tn_nI (by omega), tn_nI (by omega)])
    · skip
      refine lv_iconst (v := (-1)) hx hb dX5_lens_21 (by decide) ?_
      refine W.iret (v := (-1)) hx hb hr (fun t ht hW => ⟨⟨(-1), (), rfl, ?_, trivial⟩, hS.F ht⟩) hS.2.2 dX5_lens_22
      first | exact (if_neg (fun q => b11 q.1)).symm | exact (if_neg (fun q => b18 q.2)).symm | (rw [if_pos ⟨inR_nI hi0 (by omega), inR_nI ha0 (by omega)⟩, tn_nI (by omega), tn_nI (by omega)])

abbrev w_X5_first (G : XG) (kx kim kit kre ksh kwa kta kv : Nat) (tf rf : Int32) (kb ka kc kl kn : Nat) (w h la : Nat) (af : Nat → Int32) (km kg : Nat) (vw vh : Nat) (sl : Int32) : va_W := [oC kx 5 [.ref kb, .ref kim, .ref kit, .ref kv, .ref kre, .int tf, .ref ksh, .int rf, .ref kwa, .ref kta], oC kb 0 [.int (nI w), .int (nI h), .int (nI la), .ref ka, .ref kc, .ref kl, .ref kn], iA G ka 16 af, oC kv 4 [.ref km, .ref kg, .int (nI vw), .int (nI vh), .int sl]]
abbrev Q_X5_first (G : XG) (sz : Nat) (kx kim kit kre ksh kwa kta kv : Nat) (tf rf : Int32) (kb ka kc kl kn : Nat) (w h la : Nat) (af : Nat → Int32) (km kg : Nat) (vw vh : Nat) (sl : Int32) (c m : Int32) : Array Value → State → Outcome → State → Prop := (va_Qi (fun (r : Int32) (u : (Nat → Int32) × Int32) => r = (if (inR c (w * h) ∧ inR m 6) then af (tn c) else (-1)) ∧ u.1 = (if (inR c (w * h) ∧ inR m 6) then upd af (tn c) m else af) ∧ u.2 = (if (inR c (w * h) ∧ inR m 6) then nI 1 else sl)) (xWb G sz (w_X5_first G kx kim kit kre ksh kwa kta kv tf rf kb ka kc kl kn w h la af km kg vw vh sl) (fun u : (Nat → Int32) × Int32 => [oC kx 5 [.ref kb, .ref kim, .ref kit, .ref kv, .ref kre, .int tf, .ref ksh, .int rf, .ref kwa, .ref kta], oC kb 0 [.int (nI w), .int (nI h), .int (nI la), .ref ka, .ref kc, .ref kl, .ref kn], iA G ka 16 u.1, oC kv 4 [.ref km, .ref kg, .int (nI vw), .int (nI vh), .int u.2]])) (va_A (w_X5_first G kx kim kit kre ksh kwa kta kv tf rf kb ka kc kl kn w h la af km kg vw vh sl) sz))
set_option maxHeartbeats 4000000 in
set_option maxRecDepth 100000 in
theorem c_X5_first (l : Launch) (G : XG) (sz : Nat) (kx kim kit kre ksh kwa kta kv : Nat) (tf rf : Int32) (kb ka kc kl kn : Nat) (w h la : Nat) (af : Nat → Int32) (km kg : Nat) (vw vh : Nat) (sl : Int32) (c m : Int32) (hwh : w * h ≤ 16) : Met l yX5_first wsX5_first ({ frames := 1, cells := 0, slots := 0, locals := 21 } : Room) (va_Pc [.ref kx, .int c, .int m] (xWp G sz (w_X5_first G kx kim kit kre ksh kwa kta kv tf rf kb ka kc kl kn w h la af km kg vw vh sl))) (Q_X5_first G sz kx kim kit kre ksh kwa kta kv tf rf kb ka kc kl kn w h la af km kg vw vh sl c m) 0 0 (va_A (w_X5_first G kx kim kit kre ksh kwa kta kv tf rf kb ka kc kl kn w h la af km kg vw vh sl) sz) := by
  refine Met.ofW (cc := cX5_first) (maxL := 4) (ret := (some .int)) (by decide) rfl ?_
  intro pp ee ss mm aa below mt cd s₁ BB hml hv
  obtain ⟨rfl, hsz, hP, hK, hD0⟩ := hv
  have hx := BB.exec
  have hb := BB.bytes
  have hr := BB.returns
  have hts := atoms_spec (ws := wsX5_first) BB.pre
  have hown : ss.vm.findClass RX5 = some mm.cls := findClass_of_methodNamed BB.named
  have hlocks := BB.notSynchronized
  subst hsz
  have hD := hD0.self (sz := ss.heap.size)
  have hA : ∀ q : Nat, ss.heap.size ≤ q → va_A (w_X5_first G kx kim kit kre ksh kwa kta kv tf rf kb ka kc kl kn w h la af km kg vw vh sl) ss.heap.size q := fun q h => Or.inr h
  have hS : va_S (va_A (w_X5_first G kx kim kit kre ksh kwa kta kv tf rf kb ka kc kl kn w h la af km kg vw vh sl) ss.heap.size) ss.heap ss.heap [] := va_S.rf
  replace hD : va_D (va_A (w_X5_first G kx kim kit kre ksh kwa kta kv tf rf kb ka kc kl kn w h la af km kg vw vh sl) ss.heap.size) [oC kx 5 [.ref kb, .ref kim, .ref kit, .ref kv, .ref kre, .int tf, .ref ksh, .int rf, .ref kwa, .ref kta], oC kb 0 [.int (nI w), .int (nI h), .int (nI la), .ref ka, .ref kc, .ref kl, .ref kn], iA G ka 16 af, oC kv 4 [.ref km, .ref kg, .int (nI vw), .int (nI vh), .int sl]] := hD
  replace hP : xP G [oC kx 5 [.ref kb, .ref kim, .ref kit, .ref kv, .ref kre, .int tf, .ref ksh, .int rf, .ref kwa, .ref kta], oC kb 0 [.int (nI w), .int (nI h), .int (nI la), .ref ka, .ref kc, .ref kl, .ref kn], iA G ka 16 af, oC kv 4 [.ref km, .ref kg, .int (nI vw), .int (nI vh), .int sl]] ss.heap := hP
  have hin0 : ∀ w ∈ u_ws RX0 TX0 7, w ∈ wsX5_first := fun w h => List.mem_cons_of_mem _ (List.mem_append_left _ (List.mem_append_right _ h))
  have hin4 : ∀ w ∈ u_ws RX4 TX4 5, w ∈ wsX5_first := fun w h => List.mem_cons_of_mem _ (List.mem_append_right _ h)
  have hin5 : ∀ w ∈ u_ws RX5 TX5 10, w ∈ wsX5_first := fun w h => List.mem_cons_of_mem _ (List.mem_append_left _ (List.mem_append_left _ (List.mem_append_right _ h)))
  have hl := lv_entry ([.ref kx, .int c, .int m]) (n := 4) (Nat.le_of_ble_eq_true rfl)
  rw [lg_entry_eq]
  generalize (lg_sl ([.ref kx, .int c, .int m]) ++ List.replicate (4 - (lg_sl ([.ref kx, .int c, .int m])).length) Slot.unset).toArray = ls at hl ⊢
  replace hl : lv_has ls 4 [(0, .ref kx), (1, .int c), (2, .int m)] := hl
  refine lv_aload_n hx hb dX5_first_0 rfl (lv_at hl 0 rfl) ?_
  refine va_get (D := G.1) (ci := 5) (v := .ref kb) (C := RX5) (T := TX5) (N := 10) hx hb hts hin5 hown hK.1 hP 0 rfl rfl 0 (by decide) (hts (.fieldLink RX5 10 "BackLenses" "book" "LBackLenses$Book;") (List.mem_of_getElem? (i := 1) rfl)) (fun _ h9 => h9) rfl dX5_first_1 ?_
  refine lv_iload_n hx hb dX5_first_4 rfl (lv_at hl 1 rfl) ?_
  refine xr_i (As := [.int c]) (rest := []) ⟨hx, hb, hml, hown, hts⟩ (c_X0_hasCell l G kb ka kc kl kn w h la c (by first | assumption | omega)) (cwV 1 hts gX5_first_X0_hasCell rfl rfl rfl (by decide +kernel) ⟨Nat.le_of_ble_eq_true rfl, Nat.le_of_ble_eq_true rfl⟩) hK hP hS [1] rfl rfl rfl rfl hl.1 rfl (Nat.le_of_ble_eq_true rfl) dX5_first_5 ⟨Nat.zero_le _, Nat.zero_le _⟩ (fun r5 H locs hp5 hP hS => ?_)
  obtain rfl : r5 = xb (inR c (w * h)) := hp5
  refine xb_if_eq (tgt := 18) hx hb dX5_first_8 rfl (fun b8 => ?_) (fun b8 => ?_)
  · skip
    refine lv_iconst (v := (-1)) hx hb dX5_first_18 (by decide) ?_
    have hP := hP.sub (ws' := [oC kx 5 [.ref kb, .ref kim, .ref kit, .ref kv, .ref kre, .int tf, .ref ksh, .int rf, .ref kwa, .ref kta], oC kb 0 [.int (nI w), .int (nI h), .int (nI la), .ref ka, .ref kc, .ref kl, .ref kn], iA G ka 16 af, oC kv 4 [.ref km, .ref kg, .int (nI vw), .int (nI vh), .int sl]]) [0, 1, 2, 3] rfl
    have hD := hD.sub (ws' := [oC kx 5 [.ref kb, .ref kim, .ref kit, .ref kv, .ref kre, .int tf, .ref ksh, .int rf, .ref kwa, .ref kta], oC kb 0 [.int (nI w), .int (nI h), .int (nI la), .ref ka, .ref kc, .ref kl, .ref kn], iA G ka 16 af, oC kv 4 [.ref km, .ref kg, .int (nI vw), .int (nI vh), .int sl]]) [0, 1, 2, 3] (by decide) rfl
    refine W.iret (v := (-1)) hx hb hr (fun t ht hW => ⟨⟨(-1), (af, sl), rfl, ?_, by rw [ht]; exact hP, hD⟩, hS.F ht⟩) hS.2.2 dX5_first_19
    try dsimp only
    first | exact ⟨(if_neg (fun q => b8 q.1)).symm, (if_neg (fun q => b8 q.1)).symm, (if_neg (fun q => b8 q.1)).symm⟩ | exact ⟨(if_neg (fun q => b15 q.2)).symm, (if_neg (fun q => b15 q.2)).symm, (if_neg (fun q => b15 q.2)).symm⟩ | (rw [if_pos ⟨inR_nI hc0 (by omega), b15⟩, if_pos ⟨inR_nI hc0 (by omega), b15⟩, if_pos ⟨inR_nI hc0 (by omega), b15⟩, tn_nI (by omega)]; exact ⟨rfl, rfl, rfl⟩)
  · skip
    refine lv_iload_n hx hb dX5_first_11 rfl (lv_at hl 2 rfl) ?_
    refine xs_i (As := [.int m]) (rest := []) ⟨hx, hb, hml, hown, hts⟩ (c_X5_isMark l G m ) (va_cwS 1 hts gX5_first_X5_isMark rfl rfl rfl (by decide +kernel) ⟨Nat.le_of_ble_eq_true rfl, Nat.le_of_ble_eq_true rfl⟩) hP hS rfl hl.1 rfl (Nat.le_of_ble_eq_true rfl) dX5_first_12 ⟨Nat.zero_le _, Nat.zero_le _⟩ (fun r12 H locs hp12 hP hS => ?_)
    obtain rfl : r12 = xb (inR m 6) := hp12
    refine xb_if_ne (tgt := 20) hx hb dX5_first_15 rfl (fun b15 => ?_) (fun b15 => ?_)
    · skip
      obtain ⟨c0, hc0, rfl⟩ := inR_nat b8
      refine lv_aload_n hx hb dX5_first_20 rfl (lv_at hl 0 rfl) ?_
      refine va_get (D := G.1) (ci := 5) (v := .ref kb) (C := RX5) (T := TX5) (N := 10) hx hb hts hin5 hown hK.1 hP 0 rfl rfl 0 (by decide) (hts (.fieldLink RX5 10 "BackLenses" "book" "LBackLenses$Book;") (List.mem_of_getElem? (i := 1) rfl)) (fun _ h9 => h9) rfl dX5_first_21 ?_
      refine va_getN (D := G.1) (ci := 0) (v := .ref ka) (C := RX0) (T := TX0) (N := 7) hx hb hts hin0 hown hK.1 hP 1 rfl rfl 3 (by decide) (va_Nw.use rfl (hK.2 (Cond.fieldLinkNest "BackLenses" (132 : Nat) "BackLenses$Book" "atFirst" "[I" "BackLenses") (List.mem_of_getElem? (i := 14) rfl))) (fun _ h9 => h9) rfl dX5_first_24 ?_
      refine lv_iload_n hx hb dX5_first_27 rfl (lv_at hl 1 rfl) ?_
      refine xn_iald hx hb hK hP 2 rfl (by omega) (by omega) dX5_first_28 ?_
      refine lv_istore_n (lv' := [(3, .int (af c0)), (0, .ref kx), (1, .int (nI c0)), (2, .int m)]) hx hb dX5_first_29 rfl hl (by decide) rfl (fun ls hl => ?_)
      refine lv_aload_n hx hb dX5_first_30 rfl (lv_at hl 1 rfl) ?_
      refine va_get (D := G.1) (ci := 5) (v := .ref kb) (C := RX5) (T := TX5) (N := 10) hx hb hts hin5 hown hK.1 hP 0 rfl rfl 0 (by decide) (hts (.fieldLink RX5 10 "BackLenses" "book" "LBackLenses$Book;") (List.mem_of_getElem? (i := 1) rfl)) (fun _ h9 => h9) rfl dX5_first_31 ?_
      refine va_getN (D := G.1) (ci := 0) (v := .ref ka) (C := RX0) (T := TX0) (N := 7) hx hb hts hin0 hown hK.1 hP 1 rfl rfl 3 (by decide) (va_Nw.use rfl (hK.2 (Cond.fieldLinkNest "BackLenses" (132 : Nat) "BackLenses$Book" "atFirst" "[I" "BackLenses") (List.mem_of_getElem? (i := 14) rfl))) (fun _ h9 => h9) rfl dX5_first_34 ?_
      refine lv_iload_n hx hb dX5_first_37 rfl (lv_at hl 2 rfl) ?_
      refine lv_iload_n hx hb dX5_first_38 rfl (lv_at hl 3 rfl) ?_
      refine xn_iast hx hb hK hP hD hS 2 rfl (by omega) (by omega) dX5_first_39 (fun H locs hP hD hS => ?_)
      replace hP : xP G [oC kx 5 [.ref kb, .ref kim, .ref kit, .ref kv, .ref kre, .int tf, .ref ksh, .int rf, .ref kwa, .ref kta], oC kb 0 [.int (nI w), .int (nI h), .int (nI la), .ref ka, .ref kc, .ref kl, .ref kn], iA G ka 16 (upd af c0 m), oC kv 4 [.ref km, .ref kg, .int (nI vw), .int (nI vh), .int sl]] H := hP
      replace hD : va_D (va_A (w_X5_first G kx kim kit kre ksh kwa kta kv tf rf kb ka kc kl kn w h la af km kg vw vh sl) ss.heap.size) [oC kx 5 [.ref kb, .ref kim, .ref kit, .ref kv, .ref kre, .int tf, .ref ksh, .int rf, .ref kwa, .ref kta], oC kb 0 [.int (nI w), .int (nI h), .int (nI la), .ref ka, .ref kc, .ref kl, .ref kn], iA G ka 16 (upd af c0 m), oC kv 4 [.ref km, .ref kg, .int (nI vw), .int (nI vh), .int sl]] := hD
      refine lv_aload_n hx hb dX5_first_40 rfl (lv_at hl 1 rfl) ?_
      refine va_get (D := G.1) (ci := 5) (v := .ref kv) (C := RX5) (T := TX5) (N := 10) hx hb hts hin5 hown hK.1 hP 0 rfl rfl 3 (by decide) (hts (.fieldLink RX5 27 "BackLenses" "views" "LBackLenses$Views;") (List.mem_of_getElem? (i := 2) rfl)) (fun _ h9 => h9) rfl dX5_first_41 ?_
      refine lv_iconst (v := nI 1) hx hb dX5_first_44 (by decide) ?_
      refine va_putN (D := G.1) (ci := 4) (v := .int (nI 1)) (ty := .boolean) (C := RX4) (T := TX4) (N := 5) hx hb hts hin4 tyX4 tyX4_ok nmX4 hown hK.1 hP hD hS 3 rfl rfl 4 (by decide) (va_Nw.use rfl (hK.2 (Cond.fieldLinkNest "BackLenses" (77 : Nat) "BackLenses$Views" "stale" "Z" "BackLenses") (List.mem_of_getElem? (i := 22) rfl))) (fun _ h9 => h9) rfl (by decide +kernel) (by decide) (by decide) (Nat.le_of_ble_eq_true rfl) dX5_first_45 (fun H locs hP hD hS => ?_)
      replace hP : xP G [oC kx 5 [.ref kb, .ref kim, .ref kit, .ref kv, .ref kre, .int tf, .ref ksh, .int rf, .ref kwa, .ref kta], oC kb 0 [.int (nI w), .int (nI h), .int (nI la), .ref ka, .ref kc, .ref kl, .ref kn], iA G ka 16 (upd af c0 m), oC kv 4 [.ref km, .ref kg, .int (nI vw), .int (nI vh), .int (nI 1)]] H := hP
      replace hD : va_D (va_A (w_X5_first G kx kim kit kre ksh kwa kta kv tf rf kb ka kc kl kn w h la af km kg vw vh sl) ss.heap.size) [oC kx 5 [.ref kb, .ref kim, .ref kit, .ref kv, .ref kre, .int tf, .ref ksh, .int rf, .ref kwa, .ref kta], oC kb 0 [.int (nI w), .int (nI h), .int (nI la), .ref ka, .ref kc, .ref kl, .ref kn], iA G ka 16 (upd af c0 m), oC kv 4 [.ref km, .ref kg, .int (nI vw), .int (nI vh), .int (nI 1)]] := hD
      refine lv_iload_n hx hb dX5_first_48 rfl (lv_at hl 0 rfl) ?_
      have hP := hP.sub (ws' := [oC kx 5 [.ref kb, .ref kim, .ref kit, .ref kv, .ref kre, .int tf, .ref ksh, .int rf, .ref kwa, .ref kta], oC kb 0 [.int (nI w), .int (nI h), .int (nI la), .ref ka, .ref kc, .ref kl, .ref kn], iA G ka 16 (upd af c0 m), oC kv 4 [.ref km, .ref kg, .int (nI vw), .int (nI vh), .int (nI 1)]]) [0, 1, 2, 3] rfl
      have hD := hD.sub (ws' := [oC kx 5 [.ref kb, .ref kim, .ref kit, .ref kv, .ref kre, .int tf, .ref ksh, .int rf, .ref kwa, .ref kta], oC kb 0 [.int (nI w), .int (nI h), .int (nI la), .ref ka, .ref kc, .ref kl, .ref kn], iA G ka 16 (upd af c0 m), oC kv 4 [.ref km, .ref kg, .int (nI vw), .int (nI vh), .int (nI 1)]]) [0, 1, 2, 3] (by decide) rfl
      refine W.iret (v := af c0) hx hb hr (fun t ht hW => ⟨⟨af c0, (upd af c0 m, nI 1), rfl, ?_, by rw [ht]; exact hP, hD⟩, hS.F ht⟩) hS.2.2 dX5_first_49
      try dsimp only
      first | exact ⟨(if_neg (fun q => b8 q.1)).symm, (if_neg (fun q => b8 q.1)).symm, (if_neg (fun q => b8 q.1)).symm⟩ | exact ⟨(if_neg (fun q => b15 q.2)).symm, (if_neg (fun q => b15 q.2)).symm, (if_neg (fun q => b15 q.2)).symm⟩ | (rw [if_pos ⟨inR_nI hc0 (by omega), b15⟩, if_pos ⟨inR_nI hc0 (by omega), b15⟩, if_pos ⟨inR_nI hc0 (by omega), b15⟩, tn_nI (by omega)]; exact ⟨rfl, rfl, rfl⟩)
    · skip
      refine lv_iconst (v := (-1)) hx hb dX5_first_18 (by decide) ?_
      have hP := hP.sub (ws' := [oC kx 5 [.ref kb, .ref kim, .ref kit, .ref kv, .ref kre, .int tf, .ref ksh, .int rf, .ref kwa, .ref kta], oC kb 0 [.int (nI w), .int (nI h), .int (nI la), .ref ka, .ref kc, .ref kl, .ref kn], iA G ka 16 af, oC kv 4 [.ref km, .ref kg, .int (nI vw), .int (nI vh), .int sl]]) [0, 1, 2, 3] rfl
      have hD := hD.sub (ws' := [oC kx 5 [.ref kb, .ref kim, .ref kit, .ref kv, .ref kre, .int tf, .ref ksh, .int rf, .ref kwa, .ref kta], oC kb 0 [.int (nI w), .int (nI h), .int (nI la), .ref ka, .ref kc, .ref kl, .ref kn], iA G ka 16 af, oC kv 4 [.ref km, .ref kg, .int (nI vw), .int (nI vh), .int sl]]) [0, 1, 2, 3] (by decide) rfl
      refine W.iret (v := (-1)) hx hb hr (fun t ht hW => ⟨⟨(-1), (af, sl), rfl, ?_, by rw [ht]; exact hP, hD⟩, hS.F ht⟩) hS.2.2 dX5_first_19
      try dsimp only
      first | exact ⟨(if_neg (fun q => b8 q.1)).symm, (if_neg (fun q => b8 q.1)).symm, (if_neg (fun q => b8 q.1)).symm⟩ | exact ⟨(if_neg (fun q => b15 q.2)).symm, (if_neg (fun q => b15 q.2)).symm, (if_neg (fun q => b15 q.2)).symm⟩ | (rw [if_pos ⟨inR_nI hc0 (by omega), b15⟩, if_pos ⟨inR_nI hc0 (by omega), b15⟩, if_pos ⟨inR_nI hc0 (by omega), b15⟩, tn_nI (by omega)]; exact ⟨rfl, rfl, rfl⟩)

abbrev w_X5_turn (G : XG) (kx kim kit kre ksh kwa kta kv : Nat) (tf rf : Int32) (kb ka kc kl kn : Nat) (w h la : Nat) (kcn : Nat) (nc : Nat) (fc : Nat → Int32) (km kg : Nat) (vw vh : Nat) (sl : Int32) : va_W := [oC kx 5 [.ref kb, .ref kim, .ref kit, .ref kv, .ref kre, .int tf, .ref ksh, .int rf, .ref kwa, .ref kta], oC kb 0 [.int (nI w), .int (nI h), .int (nI la), .ref ka, .ref kc, .ref kl, .ref kn], oC kc 2 [.ref kcn, .int (nI 10), .int (nI nc)], iA G kcn (3 * 10) fc, oC kv 4 [.ref km, .ref kg, .int (nI vw), .int (nI vh), .int sl]]
abbrev Q_X5_turn (G : XG) (sz : Nat) (kx kim kit kre ksh kwa kta kv : Nat) (tf rf : Int32) (kb ka kc kl kn : Nat) (w h la : Nat) (kcn : Nat) (nc : Nat) (fc : Nat → Int32) (km kg : Nat) (vw vh : Nat) (sl : Int32) (d c m : Int32) : Array Value → State → Outcome → State → Prop := (va_Qi (fun (r : Int32) (u : Nat × (Nat → Int32)) => r = (if inR d (la + 1) ∧ inR c (w * h) ∧ inR m 6 then (if nc < 10 then nI (nc + 1) else (-3)) else (-1)) ∧ u.1 = (if (inR d (la + 1) ∧ inR c (w * h) ∧ inR m 6 ∧ nc < 10) then nc + 1 else nc) ∧ u.2 = (if (inR d (la + 1) ∧ inR c (w * h) ∧ inR m 6 ∧ nc < 10) then upd (upd (upd fc (3 * nc) d) (3 * nc + 1) c) (3 * nc + 2) m else fc)) (xWb G sz (w_X5_turn G kx kim kit kre ksh kwa kta kv tf rf kb ka kc kl kn w h la kcn nc fc km kg vw vh sl) (fun u : Nat × (Nat → Int32) => [oC kx 5 [.ref kb, .ref kim, .ref kit, .ref kv, .ref kre, .int tf, .ref ksh, .int rf, .ref kwa, .ref kta], oC kb 0 [.int (nI w), .int (nI h), .int (nI la), .ref ka, .ref kc, .ref kl, .ref kn], oC kc 2 [.ref kcn, .int (nI 10), .int (nI u.1)], iA G kcn (3 * 10) u.2, oC kv 4 [.ref km, .ref kg, .int (nI vw), .int (nI vh), .int (nI 1)]])) (va_A (w_X5_turn G kx kim kit kre ksh kwa kta kv tf rf kb ka kc kl kn w h la kcn nc fc km kg vw vh sl) sz))
set_option maxHeartbeats 4000000 in
set_option maxRecDepth 100000 in
theorem c_X5_turn (l : Launch) (G : XG) (sz : Nat) (kx kim kit kre ksh kwa kta kv : Nat) (tf rf : Int32) (kb ka kc kl kn : Nat) (w h la : Nat) (kcn : Nat) (nc : Nat) (fc : Nat → Int32) (km kg : Nat) (vw vh : Nat) (sl : Int32) (d c m : Int32) (hwh : w * h ≤ 16) (hla : la ≤ 9) (hnc : nc ≤ 10) : Met l yX5_turn wsX5_turn ({ frames := 2, cells := 0, slots := 0, locals := 46 } : Room) (va_Pc [.ref kx, .int d, .int c, .int m] (xWp G sz (w_X5_turn G kx kim kit kre ksh kwa kta kv tf rf kb ka kc kl kn w h la kcn nc fc km kg vw vh sl))) (Q_X5_turn G sz kx kim kit kre ksh kwa kta kv tf rf kb ka kc kl kn w h la kcn nc fc km kg vw vh sl d c m) 0 0 (va_A (w_X5_turn G kx kim kit kre ksh kwa kta kv tf rf kb ka kc kl kn w h la kcn nc fc km kg vw vh sl) sz) := by
  refine Met.ofW (cc := cX5_turn) (maxL := 5) (ret := (some .int)) (by decide) rfl ?_
  intro pp ee ss mm aa below mt cd s₁ BB hml hv
  obtain ⟨rfl, hsz, hP, hK, hD0⟩ := hv
  have hx := BB.exec
  have hb := BB.bytes
  have hr := BB.returns
  have hts := atoms_spec (ws := wsX5_turn) BB.pre
  have hown : ss.vm.findClass RX5 = some mm.cls := findClass_of_methodNamed BB.named
  have hlocks := BB.notSynchronized
  subst hsz
  have hD := hD0.self (sz := ss.heap.size)
  have hA : ∀ q : Nat, ss.heap.size ≤ q → va_A (w_X5_turn G kx kim kit kre ksh kwa kta kv tf rf kb ka kc kl kn w h la kcn nc fc km kg vw vh sl) ss.heap.size q := fun q h => Or.inr h
  have hS : va_S (va_A (w_X5_turn G kx kim kit kre ksh kwa kta kv tf rf kb ka kc kl kn w h la kcn nc fc km kg vw vh sl) ss.heap.size) ss.heap ss.heap [] := va_S.rf
  replace hD : va_D (va_A (w_X5_turn G kx kim kit kre ksh kwa kta kv tf rf kb ka kc kl kn w h la kcn nc fc km kg vw vh sl) ss.heap.size) [oC kx 5 [.ref kb, .ref kim, .ref kit, .ref kv, .ref kre, .int tf, .ref ksh, .int rf, .ref kwa, .ref kta], oC kb 0 [.int (nI w), .int (nI h), .int (nI la), .ref ka, .ref kc, .ref kl, .ref kn], oC kc 2 [.ref kcn, .int (nI 10), .int (nI nc)], iA G kcn (3 * 10) fc, oC kv 4 [.ref km, .ref kg, .int (nI vw), .int (nI vh), .int sl]] := hD
  replace hP : xP G [oC kx 5 [.ref kb, .ref kim, .ref kit, .ref kv, .ref kre, .int tf, .ref ksh, .int rf, .ref kwa, .ref kta], oC kb 0 [.int (nI w), .int (nI h), .int (nI la), .ref ka, .ref kc, .ref kl, .ref kn], oC kc 2 [.ref kcn, .int (nI 10), .int (nI nc)], iA G kcn (3 * 10) fc, oC kv 4 [.ref km, .ref kg, .int (nI vw), .int (nI vh), .int sl]] ss.heap := hP
  have hin0 : ∀ w ∈ u_ws RX0 TX0 7, w ∈ wsX5_turn := fun w h => List.mem_cons_of_mem _ (List.mem_append_left _ (List.mem_append_right _ h))
  have hin2 : ∀ w ∈ u_ws RX2 TX2 3, w ∈ wsX5_turn := fun w h => List.mem_cons_of_mem _ (List.mem_append_right _ h)
  have hin4 : ∀ w ∈ u_ws RX4 TX4 5, w ∈ wsX5_turn := fun w h => List.mem_cons_of_mem _ (List.mem_append_left _ (List.mem_append_left _ (List.mem_append_right _ h)))
  have hin5 : ∀ w ∈ u_ws RX5 TX5 10, w ∈ wsX5_turn := fun w h => List.mem_cons_of_mem _ (List.mem_append_left _ (List.mem_append_left _ (List.mem_append_left _ (List.mem_append_right _ h))))
  have hl := lv_entry ([.ref kx, .int d, .int c, .int m]) (n := 5) (Nat.le_of_ble_eq_true rfl)
  rw [lg_entry_eq]
  generalize (lg_sl ([.ref kx, .int d, .int c, .int m]) ++ List.replicate (5 - (lg_sl ([.ref kx, .int d, .int c, .int m])).length) Slot.unset).toArray = ls at hl ⊢
  replace hl : lv_has ls 5 [(0, .ref kx), (1, .int d), (2, .int c), (3, .int m)] := hl
  refine lv_aload_n hx hb dX5_turn_0 rfl (lv_at hl 0 rfl) ?_
  refine va_get (D := G.1) (ci := 5) (v := .ref kb) (C := RX5) (T := TX5) (N := 10) hx hb hts hin5 hown hK.1 hP 0 rfl rfl 0 (by decide) (hts (.fieldLink RX5 10 "BackLenses" "book" "LBackLenses$Book;") (List.mem_of_getElem? (i := 1) rfl)) (fun _ h9 => h9) rfl dX5_turn_1 ?_
  refine lv_iload_n hx hb dX5_turn_4 rfl (lv_at hl 1 rfl) ?_
  refine lv_iload_n hx hb dX5_turn_5 rfl (lv_at hl 2 rfl) ?_
  refine lv_iload_n hx hb dX5_turn_6 rfl (lv_at hl 3 rfl) ?_
  refine xw_i (As := [.int d, .int c, .int m]) (rest := []) (wr := [oC kx 5 [.ref kb, .ref kim, .ref kit, .ref kv, .ref kre, .int tf, .ref ksh, .int rf, .ref kwa, .ref kta], oC kv 4 [.ref km, .ref kg, .int (nI vw), .int (nI vh), .int sl]]) ⟨hx, hb, hml, hown, hts⟩ (c_X0_takeChange l G ss.heap.size kb ka kc kcn kl kn w h la nc fc d c m (by first | assumption | omega) (by first | assumption | omega) (by first | assumption | omega)) (cwV 3 hts gX5_turn_X0_takeChange rfl rfl rfl (by decide +kernel) ⟨Nat.le_of_ble_eq_true rfl, Nat.le_of_ble_eq_true rfl⟩) hK hP hD hS hA [1, 2, 3] [0, 4] rfl rfl (by decide) (by decide) (by decide) rfl rfl rfl hl.1 rfl (Nat.le_of_ble_eq_true rfl) dX5_turn_7 ⟨Nat.le_of_ble_eq_true rfl, Nat.le_of_ble_eq_true rfl⟩ (fun r7 u H locs hp7 hP hD hS => ?_)
  obtain ⟨u0_7, u1_7⟩ := u
  try dsimp only at hp7 hP hD
  obtain ⟨rfl, rfl, rfl⟩ := hp7
  replace hP : xP G [oC kx 5 [.ref kb, .ref kim, .ref kit, .ref kv, .ref kre, .int tf, .ref ksh, .int rf, .ref kwa, .ref kta], oC kv 4 [.ref km, .ref kg, .int (nI vw), .int (nI vh), .int sl], oC kb 0 [.int (nI w), .int (nI h), .int (nI la), .ref ka, .ref kc, .ref kl, .ref kn], oC kc 2 [.ref kcn, .int (nI 10), .int (nI (if (inR d (la + 1) ∧ inR c (w * h) ∧ inR m 6 ∧ nc < 10) then nc + 1 else nc))], iA G kcn (3 * 10) (if (inR d (la + 1) ∧ inR c (w * h) ∧ inR m 6 ∧ nc < 10) then upd (upd (upd fc (3 * nc) d) (3 * nc + 1) c) (3 * nc + 2) m else fc)] H := hP
  replace hD : va_D (va_A (w_X5_turn G kx kim kit kre ksh kwa kta kv tf rf kb ka kc kl kn w h la kcn nc fc km kg vw vh sl) ss.heap.size) [oC kx 5 [.ref kb, .ref kim, .ref kit, .ref kv, .ref kre, .int tf, .ref ksh, .int rf, .ref kwa, .ref kta], oC kv 4 [.ref km, .ref kg, .int (nI vw), .int (nI vh), .int sl], oC kb 0 [.int (nI w), .int (nI h), .int (nI la), .ref ka, .ref kc, .ref kl, .ref kn], oC kc 2 [.ref kcn, .int (nI 10), .int (nI (if (inR d (la + 1) ∧ inR c (w * h) ∧ inR m 6 ∧ nc < 10) then nc + 1 else nc))], iA G kcn (3 * 10) (if (inR d (la + 1) ∧ inR c (w * h) ∧ inR m 6 ∧ nc < 10) then upd (upd (upd fc (3 * nc) d) (3 * nc + 1) c) (3 * nc + 2) m else fc)] := hD
  refine lv_istore (lv' := [(4, .int (if inR d (la + 1) ∧ inR c (w * h) ∧ inR m 6 then (if nc < 10 then nI (nc + 1) else (-3)) else (-1))), (0, .ref kx), (1, .int d), (2, .int c), (3, .int m)]) hx hb dX5_turn_10 hl (by decide) rfl (fun ls hl => ?_)
  refine lv_aload_n hx hb dX5_turn_12 rfl (lv_at hl 1 rfl) ?_
  refine va_get (D := G.1) (ci := 5) (v := .ref kv) (C := RX5) (T := TX5) (N := 10) hx hb hts hin5 hown hK.1 hP 0 rfl rfl 3 (by decide) (hts (.fieldLink RX5 27 "BackLenses" "views" "LBackLenses$Views;") (List.mem_of_getElem? (i := 2) rfl)) (fun _ h9 => h9) rfl dX5_turn_13 ?_
  refine lv_iconst (v := nI 1) hx hb dX5_turn_16 (by decide) ?_
  refine va_putN (D := G.1) (ci := 4) (v := .int (nI 1)) (ty := .boolean) (C := RX4) (T := TX4) (N := 5) hx hb hts hin4 tyX4 tyX4_ok nmX4 hown hK.1 hP hD hS 1 rfl rfl 4 (by decide) (va_Nw.use rfl (hK.2 (Cond.fieldLinkNest "BackLenses" (77 : Nat) "BackLenses$Views" "stale" "Z" "BackLenses") (List.mem_of_getElem? (i := 22) rfl))) (fun _ h9 => h9) rfl (by decide +kernel) (by decide) (by decide) (Nat.le_of_ble_eq_true rfl) dX5_turn_17 (fun H locs hP hD hS => ?_)
  replace hP : xP G [oC kx 5 [.ref kb, .ref kim, .ref kit, .ref kv, .ref kre, .int tf, .ref ksh, .int rf, .ref kwa, .ref kta], oC kv 4 [.ref km, .ref kg, .int (nI vw), .int (nI vh), .int (nI 1)], oC kb 0 [.int (nI w), .int (nI h), .int (nI la), .ref ka, .ref kc, .ref kl, .ref kn], oC kc 2 [.ref kcn, .int (nI 10), .int (nI (if (inR d (la + 1) ∧ inR c (w * h) ∧ inR m 6 ∧ nc < 10) then nc + 1 else nc))], iA G kcn (3 * 10) (if (inR d (la + 1) ∧ inR c (w * h) ∧ inR m 6 ∧ nc < 10) then upd (upd (upd fc (3 * nc) d) (3 * nc + 1) c) (3 * nc + 2) m else fc)] H := hP
  replace hD : va_D (va_A (w_X5_turn G kx kim kit kre ksh kwa kta kv tf rf kb ka kc kl kn w h la kcn nc fc km kg vw vh sl) ss.heap.size) [oC kx 5 [.ref kb, .ref kim, .ref kit, .ref kv, .ref kre, .int tf, .ref ksh, .int rf, .ref kwa, .ref kta], oC kv 4 [.ref km, .ref kg, .int (nI vw), .int (nI vh), .int (nI 1)], oC kb 0 [.int (nI w), .int (nI h), .int (nI la), .ref ka, .ref kc, .ref kl, .ref kn], oC kc 2 [.ref kcn, .int (nI 10), .int (nI (if (inR d (la + 1) ∧ inR c (w * h) ∧ inR m 6 ∧ nc < 10) then nc + 1 else nc))], iA G kcn (3 * 10) (if (inR d (la + 1) ∧ inR c (w * h) ∧ inR m 6 ∧ nc < 10) then upd (upd (upd fc (3 * nc) d) (3 * nc + 1) c) (3 * nc + 2) m else fc)] := hD
  refine lv_iload hx hb dX5_turn_20 (lv_at hl 0 rfl) ?_
  have hP := hP.sub (ws' := [oC kx 5 [.ref kb, .ref kim, .ref kit, .ref kv, .ref kre, .int tf, .ref ksh, .int rf, .ref kwa, .ref kta], oC kb 0 [.int (nI w), .int (nI h), .int (nI la), .ref ka, .ref kc, .ref kl, .ref kn], oC kc 2 [.ref kcn, .int (nI 10), .int (nI (if (inR d (la + 1) ∧ inR c (w * h) ∧ inR m 6 ∧ nc < 10) then nc + 1 else nc))], iA G kcn (3 * 10) (if (inR d (la + 1) ∧ inR c (w * h) ∧ inR m 6 ∧ nc < 10) then upd (upd (upd fc (3 * nc) d) (3 * nc + 1) c) (3 * nc + 2) m else fc), oC kv 4 [.ref km, .ref kg, .int (nI vw), .int (nI vh), .int (nI 1)]]) [0, 2, 3, 4, 1] rfl
  have hD := hD.sub (ws' := [oC kx 5 [.ref kb, .ref kim, .ref kit, .ref kv, .ref kre, .int tf, .ref ksh, .int rf, .ref kwa, .ref kta], oC kb 0 [.int (nI w), .int (nI h), .int (nI la), .ref ka, .ref kc, .ref kl, .ref kn], oC kc 2 [.ref kcn, .int (nI 10), .int (nI (if (inR d (la + 1) ∧ inR c (w * h) ∧ inR m 6 ∧ nc < 10) then nc + 1 else nc))], iA G kcn (3 * 10) (if (inR d (la + 1) ∧ inR c (w * h) ∧ inR m 6 ∧ nc < 10) then upd (upd (upd fc (3 * nc) d) (3 * nc + 1) c) (3 * nc + 2) m else fc), oC kv 4 [.ref km, .ref kg, .int (nI vw), .int (nI vh), .int (nI 1)]]) [0, 2, 3, 4, 1] (by decide) rfl
  refine W.iret (v := (if inR d (la + 1) ∧ inR c (w * h) ∧ inR m 6 then (if nc < 10 then nI (nc + 1) else (-3)) else (-1))) hx hb hr (fun t ht hW => ⟨⟨(if inR d (la + 1) ∧ inR c (w * h) ∧ inR m 6 then (if nc < 10 then nI (nc + 1) else (-3)) else (-1)), ((if (inR d (la + 1) ∧ inR c (w * h) ∧ inR m 6 ∧ nc < 10) then nc + 1 else nc), (if (inR d (la + 1) ∧ inR c (w * h) ∧ inR m 6 ∧ nc < 10) then upd (upd (upd fc (3 * nc) d) (3 * nc + 1) c) (3 * nc + 2) m else fc)), rfl, ?_, by rw [ht]; exact hP, hD⟩, hS.F ht⟩) hS.2.2 dX5_turn_22
  try dsimp only
  exact ⟨rfl, rfl, rfl⟩

abbrev w_X5_forget (G : XG) (kx kim kit kre ksh kwa kta kv : Nat) (tf rf : Int32) (kb ka kc kl kn : Nat) (w h la : Nat) (knn : Nat) (ns : Nat) : va_W := [oC kx 5 [.ref kb, .ref kim, .ref kit, .ref kv, .ref kre, .int tf, .ref ksh, .int rf, .ref kwa, .ref kta], oC kb 0 [.int (nI w), .int (nI h), .int (nI la), .ref ka, .ref kc, .ref kl, .ref kn], oC kn 2 [.ref knn, .int (nI 8), .int (nI ns)]]
abbrev Q_X5_forget (G : XG) (sz : Nat) (kx kim kit kre ksh kwa kta kv : Nat) (tf rf : Int32) (kb ka kc kl kn : Nat) (w h la : Nat) (knn : Nat) (ns : Nat) (v : Int32) : Array Value → State → Outcome → State → Prop := (va_Qi (fun (r : Int32) (u : Nat) => r = (if inR v (ns + 1) then nI ns else (-1)) ∧ u = (if inR v (ns + 1) then v.toInt.toNat else ns)) (xWb G sz (w_X5_forget G kx kim kit kre ksh kwa kta kv tf rf kb ka kc kl kn w h la knn ns) (fun u : Nat => [oC kx 5 [.ref kb, .ref kim, .ref kit, .ref kv, .ref kre, .int tf, .ref ksh, .int rf, .ref kwa, .ref kta], oC kb 0 [.int (nI w), .int (nI h), .int (nI la), .ref ka, .ref kc, .ref kl, .ref kn], oC kn 2 [.ref knn, .int (nI 8), .int (nI u)]])) (va_A (w_X5_forget G kx kim kit kre ksh kwa kta kv tf rf kb ka kc kl kn w h la knn ns) sz))
set_option maxHeartbeats 4000000 in
set_option maxRecDepth 100000 in
theorem c_X5_forget (l : Launch) (G : XG) (sz : Nat) (kx kim kit kre ksh kwa kta kv : Nat) (tf rf : Int32) (kb ka kc kl kn : Nat) (w h la : Nat) (knn : Nat) (ns : Nat) (v : Int32) (hns : ns ≤ 8) : Met l yX5_forget wsX5_forget ({ frames := 1, cells := 0, slots := 0, locals := 22 } : Room) (va_Pc [.ref kx, .int v] (xWp G sz (w_X5_forget G kx kim kit kre ksh kwa kta kv tf rf kb ka kc kl kn w h la knn ns))) (Q_X5_forget G sz kx kim kit kre ksh kwa kta kv tf rf kb ka kc kl kn w h la knn ns v) 0 0 (va_A (w_X5_forget G kx kim kit kre ksh kwa kta kv tf rf kb ka kc kl kn w h la knn ns) sz) := by
  refine Met.ofW (cc := cX5_forget) (maxL := 2) (ret := (some .int)) (by decide) rfl ?_
  intro pp ee ss mm aa below mt cd s₁ BB hml hv
  obtain ⟨rfl, hsz, hP, hK, hD0⟩ := hv
  have hx := BB.exec
  have hb := BB.bytes
  have hr := BB.returns
  have hts := atoms_spec (ws := wsX5_forget) BB.pre
  have hown : ss.vm.findClass RX5 = some mm.cls := findClass_of_methodNamed BB.named
  have hlocks := BB.notSynchronized
  subst hsz
  have hD := hD0.self (sz := ss.heap.size)
  have hA : ∀ q : Nat, ss.heap.size ≤ q → va_A (w_X5_forget G kx kim kit kre ksh kwa kta kv tf rf kb ka kc kl kn w h la knn ns) ss.heap.size q := fun q h => Or.inr h
  have hS : va_S (va_A (w_X5_forget G kx kim kit kre ksh kwa kta kv tf rf kb ka kc kl kn w h la knn ns) ss.heap.size) ss.heap ss.heap [] := va_S.rf
  replace hD : va_D (va_A (w_X5_forget G kx kim kit kre ksh kwa kta kv tf rf kb ka kc kl kn w h la knn ns) ss.heap.size) [oC kx 5 [.ref kb, .ref kim, .ref kit, .ref kv, .ref kre, .int tf, .ref ksh, .int rf, .ref kwa, .ref kta], oC kb 0 [.int (nI w), .int (nI h), .int (nI la), .ref ka, .ref kc, .ref kl, .ref kn], oC kn 2 [.ref knn, .int (nI 8), .int (nI ns)]] := hD
  replace hP : xP G [oC kx 5 [.ref kb, .ref kim, .ref kit, .ref kv, .ref kre, .int tf, .ref ksh, .int rf, .ref kwa, .ref kta], oC kb 0 [.int (nI w), .int (nI h), .int (nI la), .ref ka, .ref kc, .ref kl, .ref kn], oC kn 2 [.ref knn, .int (nI 8), .int (nI ns)]] ss.heap := hP
  have hin0 : ∀ w ∈ u_ws RX0 TX0 7, w ∈ wsX5_forget := fun w h => List.mem_cons_of_mem _ (List.mem_append_left _ (List.mem_append_right _ h))
  have hin2 : ∀ w ∈ u_ws RX2 TX2 3, w ∈ wsX5_forget := fun w h => List.mem_cons_of_mem _ (List.mem_append_right _ h)
  have hin5 : ∀ w ∈ u_ws RX5 TX5 10, w ∈ wsX5_forget := fun w h => List.mem_cons_of_mem _ (List.mem_append_left _ (List.mem_append_left _ (List.mem_append_right _ h)))
  have hl := lv_entry ([.ref kx, .int v]) (n := 2) (Nat.le_of_ble_eq_true rfl)
  rw [lg_entry_eq]
  generalize (lg_sl ([.ref kx, .int v]) ++ List.replicate (2 - (lg_sl ([.ref kx, .int v])).length) Slot.unset).toArray = ls at hl ⊢
  replace hl : lv_has ls 2 [(0, .ref kx), (1, .int v)] := hl
  refine lv_aload_n hx hb dX5_forget_0 rfl (lv_at hl 0 rfl) ?_
  refine va_get (D := G.1) (ci := 5) (v := .ref kb) (C := RX5) (T := TX5) (N := 10) hx hb hts hin5 hown hK.1 hP 0 rfl rfl 0 (by decide) (hts (.fieldLink RX5 10 "BackLenses" "book" "LBackLenses$Book;") (List.mem_of_getElem? (i := 1) rfl)) (fun _ h9 => h9) rfl dX5_forget_1 ?_
  refine va_getN (D := G.1) (ci := 0) (v := .ref kn) (C := RX0) (T := TX0) (N := 7) hx hb hts hin0 hown hK.1 hP 1 rfl rfl 6 (by decide) (va_Nw.use rfl (hK.2 (Cond.fieldLinkNest "BackLenses" (161 : Nat) "BackLenses$Book" "shown" "LBackLenses$Rows;" "BackLenses") (List.mem_of_getElem? (i := 21) rfl))) (fun _ h9 => h9) rfl dX5_forget_4 ?_
  refine lv_iload_n hx hb dX5_forget_7 rfl (lv_at hl 1 rfl) ?_
  refine xw_i (As := [.int v]) (rest := []) (wr := [oC kx 5 [.ref kb, .ref kim, .ref kit, .ref kv, .ref kre, .int tf, .ref ksh, .int rf, .ref kwa, .ref kta], oC kb 0 [.int (nI w), .int (nI h), .int (nI la), .ref ka, .ref kc, .ref kl, .ref kn]]) ⟨hx, hb, hml, hown, hts⟩ (c_X2_shorten l G ss.heap.size kn knn 8 ns v (by first | assumption | omega)) (cwV 1 hts gX5_forget_X2_shorten rfl rfl rfl (by decide +kernel) ⟨Nat.le_of_ble_eq_true rfl, Nat.le_of_ble_eq_true rfl⟩) hK hP hD hS hA [2] [0, 1] rfl rfl (by decide) (by decide) (by decide) rfl rfl rfl hl.1 rfl (Nat.le_of_ble_eq_true rfl) dX5_forget_8 ⟨Nat.le_of_ble_eq_true rfl, Nat.le_of_ble_eq_true rfl⟩ (fun r8 u H locs hp8 hP hD hS => ?_)
  obtain ⟨u0_8, rfl⟩ : ∃ z, z = u := ⟨_, rfl⟩
  try dsimp only at hp8 hP hD
  obtain ⟨rfl, rfl⟩ := hp8
  replace hP : xP G [oC kx 5 [.ref kb, .ref kim, .ref kit, .ref kv, .ref kre, .int tf, .ref ksh, .int rf, .ref kwa, .ref kta], oC kb 0 [.int (nI w), .int (nI h), .int (nI la), .ref ka, .ref kc, .ref kl, .ref kn], oC kn 2 [.ref knn, .int (nI 8), .int (nI (if inR v (ns + 1) then v.toInt.toNat else ns))]] H := hP
  replace hD : va_D (va_A (w_X5_forget G kx kim kit kre ksh kwa kta kv tf rf kb ka kc kl kn w h la knn ns) ss.heap.size) [oC kx 5 [.ref kb, .ref kim, .ref kit, .ref kv, .ref kre, .int tf, .ref ksh, .int rf, .ref kwa, .ref kta], oC kb 0 [.int (nI w), .int (nI h), .int (nI la), .ref ka, .ref kc, .ref kl, .ref kn], oC kn 2 [.ref knn, .int (nI 8), .int (nI (if inR v (ns + 1) then v.toInt.toNat else ns))]] := hD
  have hP := hP.sub (ws' := [oC kx 5 [.ref kb, .ref kim, .ref kit, .ref kv, .ref kre, .int tf, .ref ksh, .int rf, .ref kwa, .ref kta], oC kb 0 [.int (nI w), .int (nI h), .int (nI la), .ref ka, .ref kc, .ref kl, .ref kn], oC kn 2 [.ref knn, .int (nI 8), .int (nI (if inR v (ns + 1) then v.toInt.toNat else ns))]]) [0, 1, 2] rfl
  have hD := hD.sub (ws' := [oC kx 5 [.ref kb, .ref kim, .ref kit, .ref kv, .ref kre, .int tf, .ref ksh, .int rf, .ref kwa, .ref kta], oC kb 0 [.int (nI w), .int (nI h), .int (nI la), .ref ka, .ref kc, .ref kl, .ref kn], oC kn 2 [.ref knn, .int (nI 8), .int (nI (if inR v (ns + 1) then v.toInt.toNat else ns))]]) [0, 1, 2] (by decide) rfl
  refine W.iret (v := (if inR v (ns + 1) then nI ns else (-1))) hx hb hr (fun t ht hW => ⟨⟨(if inR v (ns + 1) then nI ns else (-1)), ((if inR v (ns + 1) then v.toInt.toNat else ns)), rfl, ?_, by rw [ht]; exact hP, hD⟩, hS.F ht⟩) hS.2.2 dX5_forget_11
  exact ⟨rfl, rfl⟩

abbrev w_X5_cut (G : XG) (kx kim kit kre ksh kwa kta kv : Nat) (tf rf : Int32) (kb ka kc kl kn : Nat) (w h la : Nat) (kcn : Nat) (nc : Nat) (kln : Nat) (nl : Nat) (km kg : Nat) (vw vh : Nat) (sl : Int32) : va_W := [oC kx 5 [.ref kb, .ref kim, .ref kit, .ref kv, .ref kre, .int tf, .ref ksh, .int rf, .ref kwa, .ref kta], oC kb 0 [.int (nI w), .int (nI h), .int (nI la), .ref ka, .ref kc, .ref kl, .ref kn], oC kc 2 [.ref kcn, .int (nI 10), .int (nI nc)], oC kl 2 [.ref kln, .int (nI 6), .int (nI nl)], oC kv 4 [.ref km, .ref kg, .int (nI vw), .int (nI vh), .int sl]]
abbrev Q_X5_cut (G : XG) (sz : Nat) (kx kim kit kre ksh kwa kta kv : Nat) (tf rf : Int32) (kb ka kc kl kn : Nat) (w h la : Nat) (kcn : Nat) (nc : Nat) (kln : Nat) (nl : Nat) (km kg : Nat) (vw vh : Nat) (sl : Int32) (a v : Int32) : Array Value → State → Outcome → State → Prop := (va_Qi (fun (r : Int32) (u : Nat × Nat × Int32) => r = (if a = 0 then (if inR v (nc + 1) then nI nc else (-1)) else if a = nI 1 then (if inR v (nl + 1) then nI nl else (-1)) else (-1)) ∧ u.1 = (if a = 0 then (if inR v (nc + 1) then v.toInt.toNat else nc) else nc) ∧ u.2.1 = (if a = nI 1 then (if inR v (nl + 1) then v.toInt.toNat else nl) else nl) ∧ u.2.2 = (if inR a 2 then nI 1 else sl)) (xWb G sz (w_X5_cut G kx kim kit kre ksh kwa kta kv tf rf kb ka kc kl kn w h la kcn nc kln nl km kg vw vh sl) (fun u : Nat × Nat × Int32 => [oC kx 5 [.ref kb, .ref kim, .ref kit, .ref kv, .ref kre, .int tf, .ref ksh, .int rf, .ref kwa, .ref kta], oC kb 0 [.int (nI w), .int (nI h), .int (nI la), .ref ka, .ref kc, .ref kl, .ref kn], oC kc 2 [.ref kcn, .int (nI 10), .int (nI u.1)], oC kl 2 [.ref kln, .int (nI 6), .int (nI u.2.1)], oC kv 4 [.ref km, .ref kg, .int (nI vw), .int (nI vh), .int u.2.2]])) (va_A (w_X5_cut G kx kim kit kre ksh kwa kta kv tf rf kb ka kc kl kn w h la kcn nc kln nl km kg vw vh sl) sz))
set_option maxHeartbeats 4000000 in
set_option maxRecDepth 100000 in
theorem c_X5_cut (l : Launch) (G : XG) (sz : Nat) (kx kim kit kre ksh kwa kta kv : Nat) (tf rf : Int32) (kb ka kc kl kn : Nat) (w h la : Nat) (kcn : Nat) (nc : Nat) (kln : Nat) (nl : Nat) (km kg : Nat) (vw vh : Nat) (sl : Int32) (a v : Int32) (hnc : nc ≤ 10) (hnl : nl ≤ 6) : Met l yX5_cut wsX5_cut ({ frames := 1, cells := 0, slots := 0, locals := 22 } : Room) (va_Pc [.ref kx, .int a, .int v] (xWp G sz (w_X5_cut G kx kim kit kre ksh kwa kta kv tf rf kb ka kc kl kn w h la kcn nc kln nl km kg vw vh sl))) (Q_X5_cut G sz kx kim kit kre ksh kwa kta kv tf rf kb ka kc kl kn w h la kcn nc kln nl km kg vw vh sl a v) 0 0 (va_A (w_X5_cut G kx kim kit kre ksh kwa kta kv tf rf kb ka kc kl kn w h la kcn nc kln nl km kg vw vh sl) sz) := by
  refine Met.ofW (cc := cX5_cut) (maxL := 4) (ret := (some .int)) (by decide) rfl ?_
  intro pp ee ss mm aa below mt cd s₁ BB hml hv
  obtain ⟨rfl, hsz, hP, hK, hD0⟩ := hv
  have hx := BB.exec
  have hb := BB.bytes
  have hr := BB.returns
  have hts := atoms_spec (ws := wsX5_cut) BB.pre
  have hown : ss.vm.findClass RX5 = some mm.cls := findClass_of_methodNamed BB.named
  have hlocks := BB.notSynchronized
  subst hsz
  have hD := hD0.self (sz := ss.heap.size)
  have hA : ∀ q : Nat, ss.heap.size ≤ q → va_A (w_X5_cut G kx kim kit kre ksh kwa kta kv tf rf kb ka kc kl kn w h la kcn nc kln nl km kg vw vh sl) ss.heap.size q := fun q h => Or.inr h
  have hS : va_S (va_A (w_X5_cut G kx kim kit kre ksh kwa kta kv tf rf kb ka kc kl kn w h la kcn nc kln nl km kg vw vh sl) ss.heap.size) ss.heap ss.heap [] := va_S.rf
  replace hD : va_D (va_A (w_X5_cut G kx kim kit kre ksh kwa kta kv tf rf kb ka kc kl kn w h la kcn nc kln nl km kg vw vh sl) ss.heap.size) [oC kx 5 [.ref kb, .ref kim, .ref kit, .ref kv, .ref kre, .int tf, .ref ksh, .int rf, .ref kwa, .ref kta], oC kb 0 [.int (nI w), .int (nI h), .int (nI la), .ref ka, .ref kc, .ref kl, .ref kn], oC kc 2 [.ref kcn, .int (nI 10), .int (nI nc)], oC kl 2 [.ref kln, .int (nI 6), .int (nI nl)], oC kv 4 [.ref km, .ref kg, .int (nI vw), .int (nI vh), .int sl]] := hD
  replace hP : xP G [oC kx 5 [.ref kb, .ref kim, .ref kit, .ref kv, .ref kre, .int tf, .ref ksh, .int rf, .ref kwa, .ref kta], oC kb 0 [.int (nI w), .int (nI h), .int (nI la), .ref ka, .ref kc, .ref kl, .ref kn], oC kc 2 [.ref kcn, .int (nI 10), .int (nI nc)], oC kl 2 [.ref kln, .int (nI 6), .int (nI nl)], oC kv 4 [.ref km, .ref kg, .int (nI vw), .int (nI vh), .int sl]] ss.heap := hP
  have hin0 : ∀ w ∈ u_ws RX0 TX0 7, w ∈ wsX5_cut := fun w h => List.mem_cons_of_mem _ (List.mem_append_left _ (List.mem_append_left _ (List.mem_append_right _ h)))
  have hin2 : ∀ w ∈ u_ws RX2 TX2 3, w ∈ wsX5_cut := fun w h => List.mem_cons_of_mem _ (List.mem_append_right _ h)
  have hin4 : ∀ w ∈ u_ws RX4 TX4 5, w ∈ wsX5_cut := fun w h => List.mem_cons_of_mem _ (List.mem_append_left _ (List.mem_append_right _ h))
  have hin5 : ∀ w ∈ u_ws RX5 TX5 10, w ∈ wsX5_cut := fun w h => List.mem_cons_of_mem _ (List.mem_append_left _ (List.mem_append_left _ (List.mem_append_left _ (List.mem_append_right _ h))))
  have hl := lv_entry ([.ref kx, .int a, .int v]) (n := 4) (Nat.le_of_ble_eq_true rfl)
  rw [lg_entry_eq]
  generalize (lg_sl ([.ref kx, .int a, .int v]) ++ List.replicate (4 - (lg_sl ([.ref kx, .int a, .int v])).length) Slot.unset).toArray = ls at hl ⊢
  replace hl : lv_has ls 4 [(0, .ref kx), (1, .int a), (2, .int v)] := hl
  refine lv_iload_n hx hb dX5_cut_0 rfl (lv_at hl 1 rfl) ?_
  refine xs_i (As := [.int a]) (rest := []) ⟨hx, hb, hml, hown, hts⟩ (c_X5_isChoice l G a ) (va_cwS 1 hts gX5_cut_X5_isChoice rfl rfl rfl (by decide +kernel) ⟨Nat.le_of_ble_eq_true rfl, Nat.le_of_ble_eq_true rfl⟩) hP hS rfl hl.1 rfl (Nat.le_of_ble_eq_true rfl) dX5_cut_1 ⟨Nat.zero_le _, Nat.zero_le _⟩ (fun r1 H locs hp1 hP hS => ?_)
  obtain rfl : r1 = xb (inR a 2) := hp1
  refine xb_if_ne (tgt := 9) hx hb dX5_cut_4 rfl (fun b4 => ?_) (fun b4 => ?_)
  · skip
    refine lv_iload_n hx hb dX5_cut_9 rfl (lv_at hl 1 rfl) ?_
    refine lv_if_ne (tgt := 23) hx hb dX5_cut_10 rfl (fun b10 => ?_) (fun b10 => ?_)
    · skip
      refine lv_aload_n hx hb dX5_cut_23 rfl (lv_at hl 0 rfl) ?_
      refine va_get (D := G.1) (ci := 5) (v := .ref kb) (C := RX5) (T := TX5) (N := 10) hx hb hts hin5 hown hK.1 hP 0 rfl rfl 0 (by decide) (hts (.fieldLink RX5 10 "BackLenses" "book" "LBackLenses$Book;") (List.mem_of_getElem? (i := 1) rfl)) (fun _ h9 => h9) rfl dX5_cut_24 ?_
      refine va_getN (D := G.1) (ci := 0) (v := .ref kl) (C := RX0) (T := TX0) (N := 7) hx hb hts hin0 hown hK.1 hP 1 rfl rfl 5 (by decide) (va_Nw.use rfl (hK.2 (Cond.fieldLinkNest "BackLenses" (102 : Nat) "BackLenses$Book" "lenses" "LBackLenses$Rows;" "BackLenses") (List.mem_of_getElem? (i := 20) rfl))) (fun _ h9 => h9) rfl dX5_cut_27 ?_
      refine lv_astore_n (lv' := [(3, .ref kl), (0, .ref kx), (1, .int a), (2, .int v)]) hx hb dX5_cut_30 rfl hl (by decide) rfl (fun ls hl => ?_)
      refine lv_aload_n hx hb dX5_cut_31 rfl (lv_at hl 1 rfl) ?_
      refine va_get (D := G.1) (ci := 5) (v := .ref kv) (C := RX5) (T := TX5) (N := 10) hx hb hts hin5 hown hK.1 hP 0 rfl rfl 3 (by decide) (hts (.fieldLink RX5 27 "BackLenses" "views" "LBackLenses$Views;") (List.mem_of_getElem? (i := 2) rfl)) (fun _ h9 => h9) rfl dX5_cut_32 ?_
      refine lv_iconst (v := nI 1) hx hb dX5_cut_35 (by decide) ?_
      refine va_putN (D := G.1) (ci := 4) (v := .int (nI 1)) (ty := .boolean) (C := RX4) (T := TX4) (N := 5) hx hb hts hin4 tyX4 tyX4_ok nmX4 hown hK.1 hP hD hS 4 rfl rfl 4 (by decide) (va_Nw.use rfl (hK.2 (Cond.fieldLinkNest "BackLenses" (77 : Nat) "BackLenses$Views" "stale" "Z" "BackLenses") (List.mem_of_getElem? (i := 22) rfl))) (fun _ h9 => h9) rfl (by decide +kernel) (by decide) (by decide) (Nat.le_of_ble_eq_true rfl) dX5_cut_36 (fun H locs hP hD hS => ?_)
      replace hP : xP G [oC kx 5 [.ref kb, .ref kim, .ref kit, .ref kv, .ref kre, .int tf, .ref ksh, .int rf, .ref kwa, .ref kta], oC kb 0 [.int (nI w), .int (nI h), .int (nI la), .ref ka, .ref kc, .ref kl, .ref kn], oC kc 2 [.ref kcn, .int (nI 10), .int (nI nc)], oC kl 2 [.ref kln, .int (nI 6), .int (nI nl)], oC kv 4 [.ref km, .ref kg, .int (nI vw), .int (nI vh), .int (nI 1)]] H := hP
      replace hD : va_D (va_A (w_X5_cut G kx kim kit kre ksh kwa kta kv tf rf kb ka kc kl kn w h la kcn nc kln nl km kg vw vh sl) ss.heap.size) [oC kx 5 [.ref kb, .ref kim, .ref kit, .ref kv, .ref kre, .int tf, .ref ksh, .int rf, .ref kwa, .ref kta], oC kb 0 [.int (nI w), .int (nI h), .int (nI la), .ref ka, .ref kc, .ref kl, .ref kn], oC kc 2 [.ref kcn, .int (nI 10), .int (nI nc)], oC kl 2 [.ref kln, .int (nI 6), .int (nI nl)], oC kv 4 [.ref km, .ref kg, .int (nI vw), .int (nI vh), .int (nI 1)]] := hD
      refine lv_aload_n hx hb dX5_cut_39 rfl (lv_at hl 0 rfl) ?_
      refine lv_iload_n hx hb dX5_cut_40 rfl (lv_at hl 3 rfl) ?_
      refine xw_i (As := [.int v]) (rest := []) (wr := [oC kx 5 [.ref kb, .ref kim, .ref kit, .ref kv, .ref kre, .int tf, .ref ksh, .int rf, .ref kwa, .ref kta], oC kb 0 [.int (nI w), .int (nI h), .int (nI la), .ref ka, .ref kc, .ref kl, .ref kn], oC kc 2 [.ref kcn, .int (nI 10), .int (nI nc)], oC kv 4 [.ref km, .ref kg, .int (nI vw), .int (nI vh), .int (nI 1)]]) ⟨hx, hb, hml, hown, hts⟩ (c_X2_shorten l G H.size kl kln 6 nl v (by first | assumption | omega)) (cwV 1 hts gX5_cut_X2_shorten rfl rfl rfl (by decide +kernel) ⟨Nat.le_of_ble_eq_true rfl, Nat.le_of_ble_eq_true rfl⟩) hK hP hD hS hA [3] [0, 1, 2, 4] rfl rfl (by decide) (by decide) (by decide) rfl rfl rfl hl.1 rfl (Nat.le_of_ble_eq_true rfl) dX5_cut_41 ⟨Nat.le_of_ble_eq_true rfl, Nat.le_of_ble_eq_true rfl⟩ (fun r41 u H locs hp41 hP hD hS => ?_)
      obtain ⟨u0_41, rfl⟩ : ∃ z, z = u := ⟨_, rfl⟩
      try dsimp only at hp41 hP hD
      obtain ⟨rfl, rfl⟩ := hp41
      replace hP : xP G [oC kx 5 [.ref kb, .ref kim, .ref kit, .ref kv, .ref kre, .int tf, .ref ksh, .int rf, .ref kwa, .ref kta], oC kb 0 [.int (nI w), .int (nI h), .int (nI la), .ref ka, .ref kc, .ref kl, .ref kn], oC kc 2 [.ref kcn, .int (nI 10), .int (nI nc)], oC kv 4 [.ref km, .ref kg, .int (nI vw), .int (nI vh), .int (nI 1)], oC kl 2 [.ref kln, .int (nI 6), .int (nI (if inR v (nl + 1) then v.toInt.toNat else nl))]] H := hP
      replace hD : va_D (va_A (w_X5_cut G kx kim kit kre ksh kwa kta kv tf rf kb ka kc kl kn w h la kcn nc kln nl km kg vw vh sl) ss.heap.size) [oC kx 5 [.ref kb, .ref kim, .ref kit, .ref kv, .ref kre, .int tf, .ref ksh, .int rf, .ref kwa, .ref kta], oC kb 0 [.int (nI w), .int (nI h), .int (nI la), .ref ka, .ref kc, .ref kl, .ref kn], oC kc 2 [.ref kcn, .int (nI 10), .int (nI nc)], oC kv 4 [.ref km, .ref kg, .int (nI vw), .int (nI vh), .int (nI 1)], oC kl 2 [.ref kln, .int (nI 6), .int (nI (if inR v (nl + 1) then v.toInt.toNat else nl))]] := hD
      have hP := hP.sub (ws' := [oC kx 5 [.ref kb, .ref kim, .ref kit, .ref kv, .ref kre, .int tf, .ref ksh, .int rf, .ref kwa, .ref kta], oC kb 0 [.int (nI w), .int (nI h), .int (nI la), .ref ka, .ref kc, .ref kl, .ref kn], oC kc 2 [.ref kcn, .int (nI 10), .int (nI nc)], oC kl 2 [.ref kln, .int (nI 6), .int (nI (if inR v (nl + 1) then v.toInt.toNat else nl))], oC kv 4 [.ref km, .ref kg, .int (nI vw), .int (nI vh), .int (nI 1)]]) [0, 1, 2, 4, 3] rfl
      have hD := hD.sub (ws' := [oC kx 5 [.ref kb, .ref kim, .ref kit, .ref kv, .ref kre, .int tf, .ref ksh, .int rf, .ref kwa, .ref kta], oC kb 0 [.int (nI w), .int (nI h), .int (nI la), .ref ka, .ref kc, .ref kl, .ref kn], oC kc 2 [.ref kcn, .int (nI 10), .int (nI nc)], oC kl 2 [.ref kln, .int (nI 6), .int (nI (if inR v (nl + 1) then v.toInt.toNat else nl))], oC kv 4 [.ref km, .ref kg, .int (nI vw), .int (nI vh), .int (nI 1)]]) [0, 1, 2, 4, 3] (by decide) rfl
      refine W.iret (v := (if inR v (nl + 1) then nI nl else (-1))) hx hb hr (fun t ht hW => ⟨⟨(if inR v (nl + 1) then nI nl else (-1)), (nc, (if inR v (nl + 1) then v.toInt.toNat else nl), nI 1), rfl, ?_, by rw [ht]; exact hP, hD⟩, hS.F ht⟩) hS.2.2 dX5_cut_44
      try dsimp only
      first | (rw [if_neg (fun q => b4 (inR_2.mpr (Or.inl q))), if_neg (fun q => b4 (inR_2.mpr (Or.inr q))), if_neg (fun q => b4 (inR_2.mpr (Or.inl q))), if_neg (fun q => b4 (inR_2.mpr (Or.inr q))), if_neg b4]; exact ⟨rfl, rfl, rfl, rfl⟩) | (subst b10; exact ⟨rfl, rfl, rfl, rfl⟩) | (obtain rfl : a = nI 1 := (inR_2.mp b4).resolve_left b10; exact ⟨rfl, rfl, rfl, rfl⟩)
    · skip
      refine lv_aload_n hx hb dX5_cut_13 rfl (lv_at hl 0 rfl) ?_
      refine va_get (D := G.1) (ci := 5) (v := .ref kb) (C := RX5) (T := TX5) (N := 10) hx hb hts hin5 hown hK.1 hP 0 rfl rfl 0 (by decide) (hts (.fieldLink RX5 10 "BackLenses" "book" "LBackLenses$Book;") (List.mem_of_getElem? (i := 1) rfl)) (fun _ h9 => h9) rfl dX5_cut_14 ?_
      refine va_getN (D := G.1) (ci := 0) (v := .ref kc) (C := RX0) (T := TX0) (N := 7) hx hb hts hin0 hown hK.1 hP 1 rfl rfl 4 (by decide) (va_Nw.use rfl (hK.2 (Cond.fieldLinkNest "BackLenses" (93 : Nat) "BackLenses$Book" "changes" "LBackLenses$Rows;" "BackLenses") (List.mem_of_getElem? (i := 18) rfl))) (fun _ h9 => h9) rfl dX5_cut_17 ?_
      refine lv_goto (tgt := 30) hx hb dX5_cut_20 rfl ?_
      refine lv_astore_n (lv' := [(3, .ref kc), (0, .ref kx), (1, .int a), (2, .int v)]) hx hb dX5_cut_30 rfl hl (by decide) rfl (fun ls hl => ?_)
      refine lv_aload_n hx hb dX5_cut_31 rfl (lv_at hl 1 rfl) ?_
      refine va_get (D := G.1) (ci := 5) (v := .ref kv) (C := RX5) (T := TX5) (N := 10) hx hb hts hin5 hown hK.1 hP 0 rfl rfl 3 (by decide) (hts (.fieldLink RX5 27 "BackLenses" "views" "LBackLenses$Views;") (List.mem_of_getElem? (i := 2) rfl)) (fun _ h9 => h9) rfl dX5_cut_32 ?_
      refine lv_iconst (v := nI 1) hx hb dX5_cut_35 (by decide) ?_
      refine va_putN (D := G.1) (ci := 4) (v := .int (nI 1)) (ty := .boolean) (C := RX4) (T := TX4) (N := 5) hx hb hts hin4 tyX4 tyX4_ok nmX4 hown hK.1 hP hD hS 4 rfl rfl 4 (by decide) (va_Nw.use rfl (hK.2 (Cond.fieldLinkNest "BackLenses" (77 : Nat) "BackLenses$Views" "stale" "Z" "BackLenses") (List.mem_of_getElem? (i := 22) rfl))) (fun _ h9 => h9) rfl (by decide +kernel) (by decide) (by decide) (Nat.le_of_ble_eq_true rfl) dX5_cut_36 (fun H locs hP hD hS => ?_)
      replace hP : xP G [oC kx 5 [.ref kb, .ref kim, .ref kit, .ref kv, .ref kre, .int tf, .ref ksh, .int rf, .ref kwa, .ref kta], oC kb 0 [.int (nI w), .int (nI h), .int (nI la), .ref ka, .ref kc, .ref kl, .ref kn], oC kc 2 [.ref kcn, .int (nI 10), .int (nI nc)], oC kl 2 [.ref kln, .int (nI 6), .int (nI nl)], oC kv 4 [.ref km, .ref kg, .int (nI vw), .int (nI vh), .int (nI 1)]] H := hP
      replace hD : va_D (va_A (w_X5_cut G kx kim kit kre ksh kwa kta kv tf rf kb ka kc kl kn w h la kcn nc kln nl km kg vw vh sl) ss.heap.size) [oC kx 5 [.ref kb, .ref kim, .ref kit, .ref kv, .ref kre, .int tf, .ref ksh, .int rf, .ref kwa, .ref kta], oC kb 0 [.int (nI w), .int (nI h), .int (nI la), .ref ka, .ref kc, .ref kl, .ref kn], oC kc 2 [.ref kcn, .int (nI 10), .int (nI nc)], oC kl 2 [.ref kln, .int (nI 6), .int (nI nl)], oC kv 4 [.ref km, .ref kg, .int (nI vw), .int (nI vh), .int (nI 1)]] := hD
      refine lv_aload_n hx hb dX5_cut_39 rfl (lv_at hl 0 rfl) ?_
      refine lv_iload_n hx hb dX5_cut_40 rfl (lv_at hl 3 rfl) ?_
      refine xw_i (As := [.int v]) (rest := []) (wr := [oC kx 5 [.ref kb, .ref kim, .ref kit, .ref kv, .ref kre, .int tf, .ref ksh, .int rf, .ref kwa, .ref kta], oC kb 0 [.int (nI w), .int (nI h), .int (nI la), .ref ka, .ref kc, .ref kl, .ref kn], oC kl 2 [.ref kln, .int (nI 6), .int (nI nl)], oC kv 4 [.ref km, .ref kg, .int (nI vw), .int (nI vh), .int (nI 1)]]) ⟨hx, hb, hml, hown, hts⟩ (c_X2_shorten l G H.size kc kcn 10 nc v (by first | assumption | omega)) (cwV 1 hts gX5_cut_X2_shorten rfl rfl rfl (by decide +kernel) ⟨Nat.le_of_ble_eq_true rfl, Nat.le_of_ble_eq_true rfl⟩) hK hP hD hS hA [2] [0, 1, 3, 4] rfl rfl (by decide) (by decide) (by decide) rfl rfl rfl hl.1 rfl (Nat.le_of_ble_eq_true rfl) dX5_cut_41 ⟨Nat.le_of_ble_eq_true rfl, Nat.le_of_ble_eq_true rfl⟩ (fun r41 u H locs hp41 hP hD hS => ?_)
      obtain ⟨u0_41, rfl⟩ : ∃ z, z = u := ⟨_, rfl⟩
      try dsimp only at hp41 hP hD
      obtain ⟨rfl, rfl⟩ := hp41
      replace hP : xP G [oC kx 5 [.ref kb, .ref kim, .ref kit, .ref kv, .ref kre, .int tf, .ref ksh, .int rf, .ref kwa, .ref kta], oC kb 0 [.int (nI w), .int (nI h), .int (nI la), .ref ka, .ref kc, .ref kl, .ref kn], oC kl 2 [.ref kln, .int (nI 6), .int (nI nl)], oC kv 4 [.ref km, .ref kg, .int (nI vw), .int (nI vh), .int (nI 1)], oC kc 2 [.ref kcn, .int (nI 10), .int (nI (if inR v (nc + 1) then v.toInt.toNat else nc))]] H := hP
      replace hD : va_D (va_A (w_X5_cut G kx kim kit kre ksh kwa kta kv tf rf kb ka kc kl kn w h la kcn nc kln nl km kg vw vh sl) ss.heap.size) [oC kx 5 [.ref kb, .ref kim, .ref kit, .ref kv, .ref kre, .int tf, .ref ksh, .int rf, .ref kwa, .ref kta], oC kb 0 [.int (nI w), .int (nI h), .int (nI la), .ref ka, .ref kc, .ref kl, .ref kn], oC kl 2 [.ref kln, .int (nI 6), .int (nI nl)], oC kv 4 [.ref km, .ref kg, .int (nI vw), .int (nI vh), .int (nI 1)], oC kc 2 [.ref kcn, .int (nI 10), .int (nI (if inR v (nc + 1) then v.toInt.toNat else nc))]] := hD
      have hP := hP.sub (ws' := [oC kx 5 [.ref kb, .ref kim, .ref kit, .ref kv, .ref kre, .int tf, .ref ksh, .int rf, .ref kwa, .ref kta], oC kb 0 [.int (nI w), .int (nI h), .int (nI la), .ref ka, .ref kc, .ref kl, .ref kn], oC kc 2 [.ref kcn, .int (nI 10), .int (nI (if inR v (nc + 1) then v.toInt.toNat else nc))], oC kl 2 [.ref kln, .int (nI 6), .int (nI nl)], oC kv 4 [.ref km, .ref kg, .int (nI vw), .int (nI vh), .int (nI 1)]]) [0, 1, 4, 2, 3] rfl
      have hD := hD.sub (ws' := [oC kx 5 [.ref kb, .ref kim, .ref kit, .ref kv, .ref kre, .int tf, .ref ksh, .int rf, .ref kwa, .ref kta], oC kb 0 [.int (nI w), .int (nI h), .int (nI la), .ref ka, .ref kc, .ref kl, .ref kn], oC kc 2 [.ref kcn, .int (nI 10), .int (nI (if inR v (nc + 1) then v.toInt.toNat else nc))], oC kl 2 [.ref kln, .int (nI 6), .int (nI nl)], oC kv 4 [.ref km, .ref kg, .int (nI vw), .int (nI vh), .int (nI 1)]]) [0, 1, 4, 2, 3] (by decide) rfl
      refine W.iret (v := (if inR v (nc + 1) then nI nc else (-1))) hx hb hr (fun t ht hW => ⟨⟨(if inR v (nc + 1) then nI nc else (-1)), ((if inR v (nc + 1) then v.toInt.toNat else nc), nl, nI 1), rfl, ?_, by rw [ht]; exact hP, hD⟩, hS.F ht⟩) hS.2.2 dX5_cut_44
      try dsimp only
      first | (rw [if_neg (fun q => b4 (inR_2.mpr (Or.inl q))), if_neg (fun q => b4 (inR_2.mpr (Or.inr q))), if_neg (fun q => b4 (inR_2.mpr (Or.inl q))), if_neg (fun q => b4 (inR_2.mpr (Or.inr q))), if_neg b4]; exact ⟨rfl, rfl, rfl, rfl⟩) | (subst b10; exact ⟨rfl, rfl, rfl, rfl⟩) | (obtain rfl : a = nI 1 := (inR_2.mp b4).resolve_left b10; exact ⟨rfl, rfl, rfl, rfl⟩)
  · skip
    refine lv_iconst (v := (-1)) hx hb dX5_cut_7 (by decide) ?_
    have hP := hP.sub (ws' := [oC kx 5 [.ref kb, .ref kim, .ref kit, .ref kv, .ref kre, .int tf, .ref ksh, .int rf, .ref kwa, .ref kta], oC kb 0 [.int (nI w), .int (nI h), .int (nI la), .ref ka, .ref kc, .ref kl, .ref kn], oC kc 2 [.ref kcn, .int (nI 10), .int (nI nc)], oC kl 2 [.ref kln, .int (nI 6), .int (nI nl)], oC kv 4 [.ref km, .ref kg, .int (nI vw), .int (nI vh), .int sl]]) [0, 1, 2, 3, 4] rfl
    have hD := hD.sub (ws' := [oC kx 5 [.ref kb, .ref kim, .ref kit, .ref kv, .ref kre, .int tf, .ref ksh, .int rf, .ref kwa, .ref kta], oC kb 0 [.int (nI w), .int (nI h), .int (nI la), .ref ka, .ref kc, .ref kl, .ref kn], oC kc 2 [.ref kcn, .int (nI 10), .int (nI nc)], oC kl 2 [.ref kln, .int (nI 6), .int (nI nl)], oC kv 4 [.ref km, .ref kg, .int (nI vw), .int (nI vh), .int sl]]) [0, 1, 2, 3, 4] (by decide) rfl
    refine W.iret (v := (-1)) hx hb hr (fun t ht hW => ⟨⟨(-1), (nc, nl, sl), rfl, ?_, by rw [ht]; exact hP, hD⟩, hS.F ht⟩) hS.2.2 dX5_cut_8
    try dsimp only
    first | (rw [if_neg (fun q => b4 (inR_2.mpr (Or.inl q))), if_neg (fun q => b4 (inR_2.mpr (Or.inr q))), if_neg (fun q => b4 (inR_2.mpr (Or.inl q))), if_neg (fun q => b4 (inR_2.mpr (Or.inr q))), if_neg b4]; exact ⟨rfl, rfl, rfl, rfl⟩) | (subst b10; exact ⟨rfl, rfl, rfl, rfl⟩) | (obtain rfl : a = nI 1 := (inR_2.mp b4).resolve_left b10; exact ⟨rfl, rfl, rfl, rfl⟩)

section
abbrev w_X5_fault (G : XG) (kx kim kit kre ksh kwa kta kv : Nat) (tf rf : Int32) (kb : Nat) : va_W := [oC kx 5 [.ref kb, .ref kim, .ref kit, .ref kv, .ref kre, .int tf, .ref ksh, .int rf, .ref kwa, .ref kta]]
abbrev Q_X5_fault (G : XG) (kx kim kit kre ksh kwa kta kv : Nat) (tf rf : Int32) (kb : Nat) : Array Value → State → Outcome → State → Prop := (xRi (fun r => r = tf))
set_option maxHeartbeats 4000000 in
set_option maxRecDepth 100000 in
theorem c_X5_fault (l : Launch) (G : XG) (kx kim kit kre ksh kwa kta kv : Nat) (tf rf : Int32) (kb : Nat)  : Met l yX5_fault wsX5_fault ({ frames := 0, cells := 0, slots := 0, locals := 0 } : Room) (va_Pc [.ref kx] (xRp G (w_X5_fault G kx kim kit kre ksh kwa kta kv tf rf kb))) (Q_X5_fault G kx kim kit kre ksh kwa kta kv tf rf kb) 0 0 (fun _ => False) := by
  refine Met.ofW (cc := cX5_fault) (maxL := 1) (ret := (some .int)) (by decide) rfl ?_
  intro pp ee ss mm aa below mt cd s₁ BB hml hv
  obtain ⟨rfl, hP, hK⟩ := hv
  have hx := BB.exec
  have hb := BB.bytes
  have hr := BB.returns
  have hts := atoms_spec (ws := wsX5_fault) BB.pre
  have hown : ss.vm.findClass RX5 = some mm.cls := findClass_of_methodNamed BB.named
  have hlocks := BB.notSynchronized
  have hS : va_S (fun _ => False) ss.heap ss.heap [] := va_S.rf
  replace hP : xP G [oC kx 5 [.ref kb, .ref kim, .ref kit, .ref kv, .ref kre, .int tf, .ref ksh, .int rf, .ref kwa, .ref kta]] ss.heap := hP
  have hin5 : ∀ w ∈ u_ws RX5 TX5 10, w ∈ wsX5_fault := fun w h => List.mem_cons_of_mem _ (List.mem_append_right _ h)
  have hl := lv_entry ([.ref kx]) (n := 1) (Nat.le_of_ble_eq_true rfl)
  rw [lg_entry_eq]
  generalize (lg_sl ([.ref kx]) ++ List.replicate (1 - (lg_sl ([.ref kx])).length) Slot.unset).toArray = ls at hl ⊢
  replace hl : lv_has ls 1 [(0, .ref kx)] := hl
  refine lv_aload_n hx hb dX5_fault_0 rfl (lv_at hl 0 rfl) ?_
  refine va_get (D := G.1) (ci := 5) (v := .int tf) (C := RX5) (T := TX5) (N := 10) hx hb hts hin5 hown hK.1 hP 0 rfl rfl 5 (by decide) (hts (.fieldLink RX5 63 "BackLenses" "textFault" "I") (List.mem_of_getElem? (i := 1) rfl)) (fun _ h9 => h9) rfl dX5_fault_1 ?_
  refine W.iret (v := tf) hx hb hr (fun t ht hW => ⟨⟨tf, (), rfl, ?_, trivial⟩, hS.F ht⟩) hS.2.2 dX5_fault_4
  rfl

abbrev w_X5_torn (G : XG) (kx kim kit kre ksh kwa kta kv : Nat) (tf rf : Int32) (kb : Nat) : va_W := [oC kx 5 [.ref kb, .ref kim, .ref kit, .ref kv, .ref kre, .int tf, .ref ksh, .int rf, .ref kwa, .ref kta]]
abbrev Q_X5_torn (G : XG) (kx kim kit kre ksh kwa kta kv : Nat) (tf rf : Int32) (kb : Nat) : Array Value → State → Outcome → State → Prop := (xRi (fun r => r = rf))
set_option maxHeartbeats 4000000 in
set_option maxRecDepth 100000 in
theorem c_X5_torn (l : Launch) (G : XG) (kx kim kit kre ksh kwa kta kv : Nat) (tf rf : Int32) (kb : Nat)  : Met l yX5_torn wsX5_torn ({ frames := 0, cells := 0, slots := 0, locals := 0 } : Room) (va_Pc [.ref kx] (xRp G (w_X5_torn G kx kim kit kre ksh kwa kta kv tf rf kb))) (Q_X5_torn G kx kim kit kre ksh kwa kta kv tf rf kb) 0 0 (fun _ => False) := by
  refine Met.ofW (cc := cX5_torn) (maxL := 1) (ret := (some .int)) (by decide) rfl ?_
  intro pp ee ss mm aa below mt cd s₁ BB hml hv
  obtain ⟨rfl, hP, hK⟩ := hv
  have hx := BB.exec
  have hb := BB.bytes
  have hr := BB.returns
  have hts := atoms_spec (ws := wsX5_torn) BB.pre
  have hown : ss.vm.findClass RX5 = some mm.cls := findClass_of_methodNamed BB.named
  have hlocks := BB.notSynchronized
  have hS : va_S (fun _ => False) ss.heap ss.heap [] := va_S.rf
  replace hP : xP G [oC kx 5 [.ref kb, .ref kim, .ref kit, .ref kv, .ref kre, .int tf, .ref ksh, .int rf, .ref kwa, .ref kta]] ss.heap := hP
  have hin5 : ∀ w ∈ u_ws RX5 TX5 10, w ∈ wsX5_torn := fun w h => List.mem_cons_of_mem _ (List.mem_append_right _ h)
  have hl := lv_entry ([.ref kx]) (n := 1) (Nat.le_of_ble_eq_true rfl)
  rw [lg_entry_eq]
  generalize (lg_sl ([.ref kx]) ++ List.replicate (1 - (lg_sl ([.ref kx])).length) Slot.unset).toArray = ls at hl ⊢
  replace hl : lv_has ls 1 [(0, .ref kx)] := hl
  refine lv_aload_n hx hb dX5_torn_0 rfl (lv_at hl 0 rfl) ?_
  refine va_get (D := G.1) (ci := 5) (v := .int rf) (C := RX5) (T := TX5) (N := 10) hx hb hts hin5 hown hK.1 hP 0 rfl rfl 7 (by decide) (hts (.fieldLink RX5 237 "BackLenses" "readFault" "I") (List.mem_of_getElem? (i := 1) rfl)) (fun _ h9 => h9) rfl dX5_torn_1 ?_
  refine W.iret (v := rf) hx hb hr (fun t ht hW => ⟨⟨rf, (), rfl, ?_, trivial⟩, hS.F ht⟩) hS.2.2 dX5_torn_4
  rfl

abbrev w_X5_rule (G : XG) (kx kim kit kre ksh kwa kta kv : Nat) (tf rf : Int32) (kb ka kc kl kn : Nat) (w h la : Nat) (kcn : Nat) (nc : Nat) (kln : Nat) (nl : Nat) : va_W := [oC kx 5 [.ref kb, .ref kim, .ref kit, .ref kv, .ref kre, .int tf, .ref ksh, .int rf, .ref kwa, .ref kta], oC kb 0 [.int (nI w), .int (nI h), .int (nI la), .ref ka, .ref kc, .ref kl, .ref kn], oC kc 2 [.ref kcn, .int (nI 10), .int (nI nc)], oC kl 2 [.ref kln, .int (nI 6), .int (nI nl)]]
abbrev Q_X5_rule (G : XG) (kx kim kit kre ksh kwa kta kv : Nat) (tf rf : Int32) (kb ka kc kl kn : Nat) (w h la : Nat) (kcn : Nat) (nc : Nat) (fc : Nat → Int32) (kln : Nat) (nl : Nat) (fl : Nat → Int32) (a : Int32) : Array Value → State → Outcome → State → Prop := (xRi (fun r => r = (if a = nI 0 then nI w else if a = nI 1 then nI h else if a = nI 2 then nI la else if a = nI 3 then nI nc else if a = nI 4 then nI nl else (-1))))
set_option maxHeartbeats 4000000 in
set_option maxRecDepth 100000 in
theorem c_X5_rule (l : Launch) (G : XG) (kx kim kit kre ksh kwa kta kv : Nat) (tf rf : Int32) (kb ka kc kl kn : Nat) (w h la : Nat) (kcn : Nat) (nc : Nat) (fc : Nat → Int32) (kln : Nat) (nl : Nat) (fl : Nat → Int32) (a : Int32)  : Met l yX5_rule wsX5_rule ({ frames := 0, cells := 0, slots := 0, locals := 0 } : Room) (va_Pc [.ref kx, .int a] (xRp G (w_X5_rule G kx kim kit kre ksh kwa kta kv tf rf kb ka kc kl kn w h la kcn nc kln nl))) (Q_X5_rule G kx kim kit kre ksh kwa kta kv tf rf kb ka kc kl kn w h la kcn nc fc kln nl fl a) 0 0 (fun _ => False) := by
  refine Met.ofW (cc := cX5_rule) (maxL := 2) (ret := (some .int)) (by decide) rfl ?_
  intro pp ee ss mm aa below mt cd s₁ BB hml hv
  obtain ⟨rfl, hP, hK⟩ := hv
  have hx := BB.exec
  have hb := BB.bytes
  have hr := BB.returns
  have hts := atoms_spec (ws := wsX5_rule) BB.pre
  have hown : ss.vm.findClass RX5 = some mm.cls := findClass_of_methodNamed BB.named
  have hlocks := BB.notSynchronized
  have hS : va_S (fun _ => False) ss.heap ss.heap [] := va_S.rf
  replace hP : xP G [oC kx 5 [.ref kb, .ref kim, .ref kit, .ref kv, .ref kre, .int tf, .ref ksh, .int rf, .ref kwa, .ref kta], oC kb 0 [.int (nI w), .int (nI h), .int (nI la), .ref ka, .ref kc, .ref kl, .ref kn], oC kc 2 [.ref kcn, .int (nI 10), .int (nI nc)], oC kl 2 [.ref kln, .int (nI 6), .int (nI nl)]] ss.heap := hP
  have hin0 : ∀ w ∈ u_ws RX0 TX0 7, w ∈ wsX5_rule := fun w h => List.mem_cons_of_mem _ (List.mem_append_left _ (List.mem_append_right _ h))
  have hin2 : ∀ w ∈ u_ws RX2 TX2 3, w ∈ wsX5_rule := fun w h => List.mem_cons_of_mem _ (List.mem_append_right _ h)
  have hin5 : ∀ w ∈ u_ws RX5 TX5 10, w ∈ wsX5_rule := fun w h => List.mem_cons_of_mem _ (List.mem_append_left _ (List.mem_append_left _ (List.mem_append_right _ h)))
  have hl := lv_entry ([.ref kx, .int a]) (n := 2) (Nat.le_of_ble_eq_true rfl)
  rw [lg_entry_eq]
  generalize (lg_sl ([.ref kx, .int a]) ++ List.replicate (2 - (lg_sl ([.ref kx, .int a])).length) Slot.unset).toArray = ls at hl ⊢
  replace hl : lv_has ls 2 [(0, .ref kx), (1, .int a)] := hl
  refine lv_iload_n hx hb dX5_rule_0 rfl (lv_at hl 1 rfl) ?_
  by_cases hsw : inR a 5
  · obtain ⟨jsw, hjsw, rfl⟩ := inR_nat hsw
    rcases (show jsw = 0 ∨ jsw = 1 ∨ jsw = 2 ∨ jsw = 3 ∨ jsw = 4 by omega) with rfl | rfl | rfl | rfl | rfl
    · skip
      refine lv_tableIn (off := 35) (tgt := 36) hx hb dX5_rule_1 (by decide) (by decide) rfl rfl ?_
      refine lv_aload_n hx hb dX5_rule_36 rfl (lv_at hl 0 rfl) ?_
      refine va_get (D := G.1) (ci := 5) (v := .ref kb) (C := RX5) (T := TX5) (N := 10) hx hb hts hin5 hown hK.1 hP 0 rfl rfl 0 (by decide) (hts (.fieldLink RX5 10 "BackLenses" "book" "LBackLenses$Book;") (List.mem_of_getElem? (i := 1) rfl)) (fun _ h9 => h9) rfl dX5_rule_37 ?_
      refine va_getN (D := G.1) (ci := 0) (v := .int (nI w)) (C := RX0) (T := TX0) (N := 7) hx hb hts hin0 hown hK.1 hP 1 rfl rfl 0 (by decide) (va_Nw.use rfl (hK.2 (Cond.fieldLinkNest "BackLenses" (84 : Nat) "BackLenses$Book" "wide" "I" "BackLenses") (List.mem_of_getElem? (i := 5) rfl))) (fun _ h9 => h9) rfl dX5_rule_40 ?_
      refine W.iret (v := nI w) hx hb hr (fun t ht hW => ⟨⟨nI w, (), rfl, ?_, trivial⟩, hS.F ht⟩) hS.2.2 dX5_rule_43
      first | rfl | (repeat rw [if_neg (fun q => hsw (by rw [q]; exact inR_nI (by decide) (by decide)))])
    · skip
      refine lv_tableIn (off := 43) (tgt := 44) hx hb dX5_rule_1 (by decide) (by decide) rfl rfl ?_
      refine lv_aload_n hx hb dX5_rule_44 rfl (lv_at hl 0 rfl) ?_
      refine va_get (D := G.1) (ci := 5) (v := .ref kb) (C := RX5) (T := TX5) (N := 10) hx hb hts hin5 hown hK.1 hP 0 rfl rfl 0 (by decide) (hts (.fieldLink RX5 10 "BackLenses" "book" "LBackLenses$Book;") (List.mem_of_getElem? (i := 1) rfl)) (fun _ h9 => h9) rfl dX5_rule_45 ?_
      refine va_getN (D := G.1) (ci := 0) (v := .int (nI h)) (C := RX0) (T := TX0) (N := 7) hx hb hts hin0 hown hK.1 hP 1 rfl rfl 1 (by decide) (va_Nw.use rfl (hK.2 (Cond.fieldLinkNest "BackLenses" (87 : Nat) "BackLenses$Book" "high" "I" "BackLenses") (List.mem_of_getElem? (i := 8) rfl))) (fun _ h9 => h9) rfl dX5_rule_48 ?_
      refine W.iret (v := nI h) hx hb hr (fun t ht hW => ⟨⟨nI h, (), rfl, ?_, trivial⟩, hS.F ht⟩) hS.2.2 dX5_rule_51
      first | rfl | (repeat rw [if_neg (fun q => hsw (by rw [q]; exact inR_nI (by decide) (by decide)))])
    · skip
      refine lv_tableIn (off := 51) (tgt := 52) hx hb dX5_rule_1 (by decide) (by decide) rfl rfl ?_
      refine lv_aload_n hx hb dX5_rule_52 rfl (lv_at hl 0 rfl) ?_
      refine va_get (D := G.1) (ci := 5) (v := .ref kb) (C := RX5) (T := TX5) (N := 10) hx hb hts hin5 hown hK.1 hP 0 rfl rfl 0 (by decide) (hts (.fieldLink RX5 10 "BackLenses" "book" "LBackLenses$Book;") (List.mem_of_getElem? (i := 1) rfl)) (fun _ h9 => h9) rfl dX5_rule_53 ?_
      refine va_getN (D := G.1) (ci := 0) (v := .int (nI la)) (C := RX0) (T := TX0) (N := 7) hx hb hts hin0 hown hK.1 hP 1 rfl rfl 2 (by decide) (va_Nw.use rfl (hK.2 (Cond.fieldLinkNest "BackLenses" (90 : Nat) "BackLenses$Book" "last" "I" "BackLenses") (List.mem_of_getElem? (i := 11) rfl))) (fun _ h9 => h9) rfl dX5_rule_56 ?_
      refine W.iret (v := nI la) hx hb hr (fun t ht hW => ⟨⟨nI la, (), rfl, ?_, trivial⟩, hS.F ht⟩) hS.2.2 dX5_rule_59
      first | rfl | (repeat rw [if_neg (fun q => hsw (by rw [q]; exact inR_nI (by decide) (by decide)))])
    · skip
      refine lv_tableIn (off := 59) (tgt := 60) hx hb dX5_rule_1 (by decide) (by decide) rfl rfl ?_
      refine lv_aload_n hx hb dX5_rule_60 rfl (lv_at hl 0 rfl) ?_
      refine va_get (D := G.1) (ci := 5) (v := .ref kb) (C := RX5) (T := TX5) (N := 10) hx hb hts hin5 hown hK.1 hP 0 rfl rfl 0 (by decide) (hts (.fieldLink RX5 10 "BackLenses" "book" "LBackLenses$Book;") (List.mem_of_getElem? (i := 1) rfl)) (fun _ h9 => h9) rfl dX5_rule_61 ?_
      refine va_getN (D := G.1) (ci := 0) (v := .ref kc) (C := RX0) (T := TX0) (N := 7) hx hb hts hin0 hown hK.1 hP 1 rfl rfl 4 (by decide) (va_Nw.use rfl (hK.2 (Cond.fieldLinkNest "BackLenses" (93 : Nat) "BackLenses$Book" "changes" "LBackLenses$Rows;" "BackLenses") (List.mem_of_getElem? (i := 18) rfl))) (fun _ h9 => h9) rfl dX5_rule_64 ?_
      refine va_getN (D := G.1) (ci := 2) (v := .int (nI nc)) (C := RX2) (T := TX2) (N := 3) hx hb hts hin2 hown hK.1 hP 2 rfl rfl 2 (by decide) (va_Nw.use rfl (hK.2 (Cond.fieldLinkNest "BackLenses" (97 : Nat) "BackLenses$Rows" "size" "I" "BackLenses") (List.mem_of_getElem? (i := 3) rfl))) (fun _ h9 => h9) rfl dX5_rule_67 ?_
      refine W.iret (v := nI nc) hx hb hr (fun t ht hW => ⟨⟨nI nc, (), rfl, ?_, trivial⟩, hS.F ht⟩) hS.2.2 dX5_rule_70
      first | rfl | (repeat rw [if_neg (fun q => hsw (by rw [q]; exact inR_nI (by decide) (by decide)))])
    · skip
      refine lv_tableIn (off := 70) (tgt := 71) hx hb dX5_rule_1 (by decide) (by decide) rfl rfl ?_
      refine lv_aload_n hx hb dX5_rule_71 rfl (lv_at hl 0 rfl) ?_
      refine va_get (D := G.1) (ci := 5) (v := .ref kb) (C := RX5) (T := TX5) (N := 10) hx hb hts hin5 hown hK.1 hP 0 rfl rfl 0 (by decide) (hts (.fieldLink RX5 10 "BackLenses" "book" "LBackLenses$Book;") (List.mem_of_getElem? (i := 1) rfl)) (fun _ h9 => h9) rfl dX5_rule_72 ?_
      refine va_getN (D := G.1) (ci := 0) (v := .ref kl) (C := RX0) (T := TX0) (N := 7) hx hb hts hin0 hown hK.1 hP 1 rfl rfl 5 (by decide) (va_Nw.use rfl (hK.2 (Cond.fieldLinkNest "BackLenses" (102 : Nat) "BackLenses$Book" "lenses" "LBackLenses$Rows;" "BackLenses") (List.mem_of_getElem? (i := 20) rfl))) (fun _ h9 => h9) rfl dX5_rule_75 ?_
      refine va_getN (D := G.1) (ci := 2) (v := .int (nI nl)) (C := RX2) (T := TX2) (N := 3) hx hb hts hin2 hown hK.1 hP 3 rfl rfl 2 (by decide) (va_Nw.use rfl (hK.2 (Cond.fieldLinkNest "BackLenses" (97 : Nat) "BackLenses$Rows" "size" "I" "BackLenses") (List.mem_of_getElem? (i := 3) rfl))) (fun _ h9 => h9) rfl dX5_rule_78 ?_
      refine W.iret (v := nI nl) hx hb hr (fun t ht hW => ⟨⟨nI nl, (), rfl, ?_, trivial⟩, hS.F ht⟩) hS.2.2 dX5_rule_81
      first | rfl | (repeat rw [if_neg (fun q => hsw (by rw [q]; exact inR_nI (by decide) (by decide)))])
  · refine lv_tableOut (tgt := 82) hx hb dX5_rule_1 (by unfold inR at hsw; omega) rfl ?_
    refine lv_iconst (v := (-1)) hx hb dX5_rule_82 (by decide) ?_
    refine W.iret (v := (-1)) hx hb hr (fun t ht hW => ⟨⟨(-1), (), rfl, ?_, trivial⟩, hS.F ht⟩) hS.2.2 dX5_rule_83
    first | rfl | (repeat rw [if_neg (fun q => hsw (by rw [q]; exact inR_nI (by decide) (by decide)))])

abbrev w_X5_change (G : XG) (kx kim kit kre ksh kwa kta kv : Nat) (tf rf : Int32) (kb ka kc kl kn : Nat) (w h la : Nat) (kcn : Nat) (nc : Nat) (fc : Nat → Int32) : va_W := [oC kx 5 [.ref kb, .ref kim, .ref kit, .ref kv, .ref kre, .int tf, .ref ksh, .int rf, .ref kwa, .ref kta], oC kb 0 [.int (nI w), .int (nI h), .int (nI la), .ref ka, .ref kc, .ref kl, .ref kn], oC kc 2 [.ref kcn, .int (nI 10), .int (nI nc)], iA G kcn (3 * 10) fc]
abbrev Q_X5_change (G : XG) (kx kim kit kre ksh kwa kta kv : Nat) (tf rf : Int32) (kb ka kc kl kn : Nat) (w h la : Nat) (kcn : Nat) (nc : Nat) (fc : Nat → Int32) (i a : Int32) : Array Value → State → Outcome → State → Prop := (xRi (fun r => r = (if inR i nc ∧ inR a 3 then fc (3 * tn i + tn a) else (-1))))
set_option maxHeartbeats 4000000 in
set_option maxRecDepth 100000 in
theorem c_X5_change (l : Launch) (G : XG) (kx kim kit kre ksh kwa kta kv : Nat) (tf rf : Int32) (kb ka kc kl kn : Nat) (w h la : Nat) (kcn : Nat) (nc : Nat) (fc : Nat → Int32) (i a : Int32) (hnc : nc ≤ 10) : Met l yX5_change wsX5_change ({ frames := 1, cells := 0, slots := 0, locals := 22 } : Room) (va_Pc [.ref kx, .int i, .int a] (xRp G (w_X5_change G kx kim kit kre ksh kwa kta kv tf rf kb ka kc kl kn w h la kcn nc fc))) (Q_X5_change G kx kim kit kre ksh kwa kta kv tf rf kb ka kc kl kn w h la kcn nc fc i a) 0 0 (fun _ => False) := by
  refine Met.ofW (cc := cX5_change) (maxL := 3) (ret := (some .int)) (by decide) rfl ?_
  intro pp ee ss mm aa below mt cd s₁ BB hml hv
  obtain ⟨rfl, hP, hK⟩ := hv
  have hx := BB.exec
  have hb := BB.bytes
  have hr := BB.returns
  have hts := atoms_spec (ws := wsX5_change) BB.pre
  have hown : ss.vm.findClass RX5 = some mm.cls := findClass_of_methodNamed BB.named
  have hlocks := BB.notSynchronized
  have hS : va_S (fun _ => False) ss.heap ss.heap [] := va_S.rf
  replace hP : xP G [oC kx 5 [.ref kb, .ref kim, .ref kit, .ref kv, .ref kre, .int tf, .ref ksh, .int rf, .ref kwa, .ref kta], oC kb 0 [.int (nI w), .int (nI h), .int (nI la), .ref ka, .ref kc, .ref kl, .ref kn], oC kc 2 [.ref kcn, .int (nI 10), .int (nI nc)], iA G kcn (3 * 10) fc] ss.heap := hP
  have hin0 : ∀ w ∈ u_ws RX0 TX0 7, w ∈ wsX5_change := fun w h => List.mem_cons_of_mem _ (List.mem_append_left _ (List.mem_append_right _ h))
  have hin2 : ∀ w ∈ u_ws RX2 TX2 3, w ∈ wsX5_change := fun w h => List.mem_cons_of_mem _ (List.mem_append_right _ h)
  have hin5 : ∀ w ∈ u_ws RX5 TX5 10, w ∈ wsX5_change := fun w h => List.mem_cons_of_mem _ (List.mem_append_left _ (List.mem_append_left _ (List.mem_append_right _ h)))
  have hl := lv_entry ([.ref kx, .int i, .int a]) (n := 3) (Nat.le_of_ble_eq_true rfl)
  rw [lg_entry_eq]
  generalize (lg_sl ([.ref kx, .int i, .int a]) ++ List.replicate (3 - (lg_sl ([.ref kx, .int i, .int a])).length) Slot.unset).toArray = ls at hl ⊢
  replace hl : lv_has ls 3 [(0, .ref kx), (1, .int i), (2, .int a)] := hl
  refine lv_aload_n hx hb dX5_change_0 rfl (lv_at hl 0 rfl) ?_
  refine va_get (D := G.1) (ci := 5) (v := .ref kb) (C := RX5) (T := TX5) (N := 10) hx hb hts hin5 hown hK.1 hP 0 rfl rfl 0 (by decide) (hts (.fieldLink RX5 10 "BackLenses" "book" "LBackLenses$Book;") (List.mem_of_getElem? (i := 1) rfl)) (fun _ h9 => h9) rfl dX5_change_1 ?_
  refine va_getN (D := G.1) (ci := 0) (v := .ref kc) (C := RX0) (T := TX0) (N := 7) hx hb hts hin0 hown hK.1 hP 1 rfl rfl 4 (by decide) (va_Nw.use rfl (hK.2 (Cond.fieldLinkNest "BackLenses" (93 : Nat) "BackLenses$Book" "changes" "LBackLenses$Rows;" "BackLenses") (List.mem_of_getElem? (i := 18) rfl))) (fun _ h9 => h9) rfl dX5_change_4 ?_
  refine lv_iload_n hx hb dX5_change_7 rfl (lv_at hl 1 rfl) ?_
  refine xr_i (As := [.int i]) (rest := []) ⟨hx, hb, hml, hown, hts⟩ (c_X2_has l G kc kcn 10 nc i (by first | assumption | omega)) (cwV 1 hts gX5_change_X2_has rfl rfl rfl (by decide +kernel) ⟨Nat.le_of_ble_eq_true rfl, Nat.le_of_ble_eq_true rfl⟩) hK hP hS [2] rfl rfl rfl rfl hl.1 rfl (Nat.le_of_ble_eq_true rfl) dX5_change_8 ⟨Nat.zero_le _, Nat.zero_le _⟩ (fun r8 H locs hp8 hP hS => ?_)
  obtain rfl : r8 = xb (inR i nc) := hp8
  refine xb_if_eq (tgt := 23) hx hb dX5_change_11 rfl (fun b11 => ?_) (fun b11 => ?_)
  · skip
    refine lv_iconst (v := (-1)) hx hb dX5_change_23 (by decide) ?_
    refine W.iret (v := (-1)) hx hb hr (fun t ht hW => ⟨⟨(-1), (), rfl, ?_, trivial⟩, hS.F ht⟩) hS.2.2 dX5_change_24
    first | exact (if_neg (fun q => b11 q.1)).symm | exact (if_neg (fun q => (show ¬ inR a 3 by unfold inR; omega) q.2)).symm | (rw [if_pos ⟨inR_nI hi0 (by omega), inR_nI ha0 (by omega)⟩, tn_nI (by omega), tn_nI (by omega)])
  · skip
    refine lv_iload_n hx hb dX5_change_14 rfl (lv_at hl 2 rfl) ?_
    refine xi_if_lt (tgt := 23) hx hb dX5_change_15 rfl (fun b15 => ?_) (fun b15 => ?_)
    · skip
      refine lv_iconst (v := (-1)) hx hb dX5_change_23 (by decide) ?_
      refine W.iret (v := (-1)) hx hb hr (fun t ht hW => ⟨⟨(-1), (), rfl, ?_, trivial⟩, hS.F ht⟩) hS.2.2 dX5_change_24
      first | exact (if_neg (fun q => b11 q.1)).symm | exact (if_neg (fun q => (show ¬ inR a 3 by unfold inR; omega) q.2)).symm | (rw [if_pos ⟨inR_nI hi0 (by omega), inR_nI ha0 (by omega)⟩, tn_nI (by omega), tn_nI (by omega)])
    · skip
      refine lv_iload_n hx hb dX5_change_18 rfl (lv_at hl 2 rfl) ?_
      refine lv_iconst (v := nI 2) hx hb dX5_change_19 (by decide) ?_
      refine xm_icmp_le (tgt := 25) hx hb (by omega) dX5_change_20 rfl (fun b20 => ?_) (fun b20 => ?_)
      · skip
        have b21 : inR a 3 := (by unfold inR; omega)
        obtain ⟨i0, hi0, rfl⟩ := inR_nat b11
        obtain ⟨a0, ha0, rfl⟩ := inR_nat b21
        refine lv_aload_n hx hb dX5_change_25 rfl (lv_at hl 0 rfl) ?_
        refine va_get (D := G.1) (ci := 5) (v := .ref kb) (C := RX5) (T := TX5) (N := 10) hx hb hts hin5 hown hK.1 hP 0 rfl rfl 0 (by decide) (hts (.fieldLink RX5 10 "BackLenses" "book" "LBackLenses$Book;") (List.mem_of_getElem? (i := 1) rfl)) (fun _ h9 => h9) rfl dX5_change_26 ?_
        refine va_getN (D := G.1) (ci := 0) (v := .ref kc) (C := RX0) (T := TX0) (N := 7) hx hb hts hin0 hown hK.1 hP 1 rfl rfl 4 (by decide) (va_Nw.use rfl (hK.2 (Cond.fieldLinkNest "BackLenses" (93 : Nat) "BackLenses$Book" "changes" "LBackLenses$Rows;" "BackLenses") (List.mem_of_getElem? (i := 18) rfl))) (fun _ h9 => h9) rfl dX5_change_29 ?_
        refine lv_iload_n hx hb dX5_change_32 rfl (lv_at hl 1 rfl) ?_
        refine lv_iload_n hx hb dX5_change_33 rfl (lv_at hl 2 rfl) ?_
        refine xr_i (As := [.int (nI i0), .int (nI a0)]) (rest := []) ⟨hx, hb, hml, hown, hts⟩ (c_X2_number l G kc kcn 10 nc fc i0 a0 (by first | assumption | omega) (by first | assumption | omega)) (cwV 2 hts gX5_change_X2_number rfl rfl rfl (by decide +kernel) ⟨Nat.le_of_ble_eq_true rfl, Nat.le_of_ble_eq_true rfl⟩) hK hP hS [2, 3] rfl rfl rfl rfl hl.1 rfl (Nat.le_of_ble_eq_true rfl) dX5_change_34 ⟨Nat.zero_le _, Nat.zero_le _⟩ (fun r34 H locs hp34 hP hS => ?_)
        obtain rfl : r34 = fc (3 * i0 + a0) := hp34
        refine W.iret (v := fc (3 * i0 + a0)) hx hb hr (fun t ht hW => ⟨⟨fc (3 * i0 + a0), (), rfl, ?_, trivial⟩, hS.F ht⟩) hS.2.2 dX5_change_37
        first | exact (if_neg (fun q => b11 q.1)).symm | exact (if_neg (fun q => (show ¬ inR a 3 by unfold inR; omega) q.2)).symm | (rw [if_pos ⟨inR_nI hi0 (by omega), inR_nI ha0 (by omega)⟩, tn_nI (by omega), tn_nI (by omega)])
      · skip
        refine lv_iconst (v := (-1)) hx hb dX5_change_23 (by decide) ?_
        refine W.iret (v := (-1)) hx hb hr (fun t ht hW => ⟨⟨(-1), (), rfl, ?_, trivial⟩, hS.F ht⟩) hS.2.2 dX5_change_24
        first | exact (if_neg (fun q => b11 q.1)).symm | exact (if_neg (fun q => (show ¬ inR a 3 by unfold inR; omega) q.2)).symm | (rw [if_pos ⟨inR_nI hi0 (by omega), inR_nI ha0 (by omega)⟩, tn_nI (by omega), tn_nI (by omega)])

abbrev w_X5_lens (G : XG) (kx kim kit kre ksh kwa kta kv : Nat) (tf rf : Int32) (kb ka kc kl kn : Nat) (w h la : Nat) (kln : Nat) (nl : Nat) (fl : Nat → Int32) : va_W := [oC kx 5 [.ref kb, .ref kim, .ref kit, .ref kv, .ref kre, .int tf, .ref ksh, .int rf, .ref kwa, .ref kta], oC kb 0 [.int (nI w), .int (nI h), .int (nI la), .ref ka, .ref kc, .ref kl, .ref kn], oC kl 2 [.ref kln, .int (nI 6), .int (nI nl)], iA G kln (3 * 6) fl]
abbrev Q_X5_lens (G : XG) (kx kim kit kre ksh kwa kta kv : Nat) (tf rf : Int32) (kb ka kc kl kn : Nat) (w h la : Nat) (kln : Nat) (nl : Nat) (fl : Nat → Int32) (i a : Int32) : Array Value → State → Outcome → State → Prop := (xRi (fun r => r = (if inR i nl ∧ inR a 2 then fl (3 * tn i + tn a) else (-1))))
set_option maxHeartbeats 4000000 in
set_option maxRecDepth 100000 in
theorem c_X5_lens (l : Launch) (G : XG) (kx kim kit kre ksh kwa kta kv : Nat) (tf rf : Int32) (kb ka kc kl kn : Nat) (w h la : Nat) (kln : Nat) (nl : Nat) (fl : Nat → Int32) (i a : Int32) (hnl : nl ≤ 6) : Met l yX5_lens wsX5_lens ({ frames := 1, cells := 0, slots := 0, locals := 22 } : Room) (va_Pc [.ref kx, .int i, .int a] (xRp G (w_X5_lens G kx kim kit kre ksh kwa kta kv tf rf kb ka kc kl kn w h la kln nl fl))) (Q_X5_lens G kx kim kit kre ksh kwa kta kv tf rf kb ka kc kl kn w h la kln nl fl i a) 0 0 (fun _ => False) := by
  refine Met.ofW (cc := cX5_lens) (maxL := 3) (ret := (some .int)) (by decide) rfl ?_
  intro pp ee ss mm aa below mt cd s₁ BB hml hv
  obtain ⟨rfl, hP, hK⟩ := hv
  have hx := BB.exec
  have hb := BB.bytes
  have hr := BB.returns
  have hts := atoms_spec (ws := wsX5_lens) BB.pre
  have hown : ss.vm.findClass RX5 = some mm.cls := findClass_of_methodNamed BB.named
  have hlocks := BB.notSynchronized
  have hS : va_S (fun _ => False) ss.heap ss.heap [] := va_S.rf
  replace hP : xP G [oC kx 5 [.ref kb, .ref kim, .ref kit, .ref kv, .ref kre, .int tf, .ref ksh, .int rf, .ref kwa, .ref kta], oC kb 0 [.int (nI w), .int (nI h), .int (nI la), .ref ka, .ref kc, .ref kl, .ref kn], oC kl 2 [.ref kln, .int (nI 6), .int (nI nl)], iA G kln (3 * 6) fl] ss.heap := hP
  have hin0 : ∀ w ∈ u_ws RX0 TX0 7, w ∈ wsX5_lens := fun w h => List.mem_cons_of_mem _ (List.mem_append_left _ (List.mem_append_right _ h))
  have hin2 : ∀ w ∈ u_ws RX2 TX2 3, w ∈ wsX5_lens := fun w h => List.mem_cons_of_mem _ (List.mem_append_right _ h)
  have hin5 : ∀ w ∈ u_ws RX5 TX5 10, w ∈ wsX5_lens := fun w h => List.mem_cons_of_mem _ (List.mem_append_left _ (List.mem_append_left _ (List.mem_append_right _ h)))
  have hl := lv_entry ([.ref kx, .int i, .int a]) (n := 3) (Nat.le_of_ble_eq_true rfl)
  rw [lg_entry_eq]
  generalize (lg_sl ([.ref kx, .int i, .int a]) ++ List.replicate (3 - (lg_sl ([.ref kx, .int i, .int a])).length) Slot.unset).toArray = ls at hl ⊢
  replace hl : lv_has ls 3 [(0, .ref kx), (1, .int i), (2, .int a)] := hl
  refine lv_aload_n hx hb dX5_lens_0 rfl (lv_at hl 0 rfl) ?_
  refine va_get (D := G.1) (ci := 5) (v := .ref kb) (C := RX5) (T := TX5) (N := 10) hx hb hts hin5 hown hK.1 hP 0 rfl rfl 0 (by decide) (hts (.fieldLink RX5 10 "BackLenses" "book" "LBackLenses$Book;") (List.mem_of_getElem? (i := 1) rfl)) (fun _ h9 => h9) rfl dX5_lens_1 ?_
  refine va_getN (D := G.1) (ci := 0) (v := .ref kl) (C := RX0) (T := TX0) (N := 7) hx hb hts hin0 hown hK.1 hP 1 rfl rfl 5 (by decide) (va_Nw.use rfl (hK.2 (Cond.fieldLinkNest "BackLenses" (102 : Nat) "BackLenses$Book" "lenses" "LBackLenses$Rows;" "BackLenses") (List.mem_of_getElem? (i := 20) rfl))) (fun _ h9 => h9) rfl dX5_lens_4 ?_
  refine lv_iload_n hx hb dX5_lens_7 rfl (lv_at hl 1 rfl) ?_
  refine xr_i (As := [.int i]) (rest := []) ⟨hx, hb, hml, hown, hts⟩ (c_X2_has l G kl kln 6 nl i (by first | assumption | omega)) (cwV 1 hts gX5_lens_X2_has rfl rfl rfl (by decide +kernel) ⟨Nat.le_of_ble_eq_true rfl, Nat.le_of_ble_eq_true rfl⟩) hK hP hS [2] rfl rfl rfl rfl hl.1 rfl (Nat.le_of_ble_eq_true rfl) dX5_lens_8 ⟨Nat.zero_le _, Nat.zero_le _⟩ (fun r8 H locs hp8 hP hS => ?_)
  obtain rfl : r8 = xb (inR i nl) := hp8
  refine xb_if_eq (tgt := 21) hx hb dX5_lens_11 rfl (fun b11 => ?_) (fun b11 => ?_)
  · skip
    refine lv_iconst (v := (-1)) hx hb dX5_lens_21 (by decide) ?_
    refine W.iret (v := (-1)) hx hb hr (fun t ht hW => ⟨⟨(-1), (), rfl, ?_, trivial⟩, hS.F ht⟩) hS.2.2 dX5_lens_22
    first | exact (if_neg (fun q => b11 q.1)).symm | exact (if_neg (fun q => b18 q.2)).symm | (rw [if_pos ⟨inR_nI hi0 (by omega), inR_nI ha0 (by omega)⟩, tn_nI (by omega), tn_nI (by omega)])
  · skip
    refine lv_iload_n hx hb dX5_lens_14 rfl (lv_at hl 2 rfl) ?_
    refine xs_i (As := [.int a]) (rest := []) ⟨hx, hb, hml, hown, hts⟩ (c_X5_isChoice l G a ) (va_cwS 1 hts gX5_lens_X5_isChoice rfl rfl rfl (by decide +kernel) ⟨Nat.le_of_ble_eq_true rfl, Nat.le_of_ble_eq_true rfl⟩) hP hS rfl hl.1 rfl (Nat.le_of_ble_eq_true rfl) dX5_lens_15 ⟨Nat.zero_le _, Nat.zero_le _⟩ (fun r15 H locs hp15 hP hS => ?_)
    obtain rfl : r15 = xb (inR a 2) := hp15
    refine xb_if_ne (tgt := 23) hx hb dX5_lens_18 rfl (fun b18 => ?_) (fun b18 => ?_)
    · skip
      obtain ⟨i0, hi0, rfl⟩ := inR_nat b11
      obtain ⟨a0, ha0, rfl⟩ := inR_nat b18
      refine lv_aload_n hx hb dX5_lens_23 rfl (lv_at hl 0 rfl) ?_
      refine va_get (D := G.1) (ci := 5) (v := .ref kb) (C := RX5) (T := TX5) (N := 10) hx hb hts hin5 hown hK.1 hP 0 rfl rfl 0 (by decide) (hts (.fieldLink RX5 10 "BackLenses" "book" "LBackLenses$Book;") (List.mem_of_getElem? (i := 1) rfl)) (fun _ h9 => h9) rfl dX5_lens_24 ?_
      refine va_getN (D := G.1) (ci := 0) (v := .ref kl) (C := RX0) (T := TX0) (N := 7) hx hb hts hin0 hown hK.1 hP 1 rfl rfl 5 (by decide) (va_Nw.use rfl (hK.2 (Cond.fieldLinkNest "BackLenses" (102 : Nat) "BackLenses$Book" "lenses" "LBackLenses$Rows;" "BackLenses") (List.mem_of_getElem? (i := 20) rfl))) (fun _ h9 => h9) rfl dX5_lens_27 ?_
      refine lv_iload_n hx hb dX5_lens_30 rfl (lv_at hl 1 rfl) ?_
      refine lv_iload_n hx hb dX5_lens_31 rfl (lv_at hl 2 rfl) ?_
      refine xr_i (As := [.int (nI i0), .int (nI a0)]) (rest := []) ⟨hx, hb, hml, hown, hts⟩ (c_X2_number l G kl kln 6 nl fl i0 a0 (by first | assumption | omega) (by first | assumption | omega)) (cwV 2 hts gX5_lens_X2_number rfl rfl rfl (by decide +kernel) ⟨Nat.le_of_ble_eq_true rfl, Nat.le_of_ble_eq_true rfl⟩) hK hP hS [2, 3] rfl rfl rfl rfl hl.1 rfl (Nat.le_of_ble_eq_true rfl) dX5_lens_32 ⟨Nat.zero_le _, Nat.zero_le _⟩ (fun r32 H locs hp32 hP hS => ?_)
      obtain rfl : r32 = fl (3 * i0 + a0) := hp32
      refine W.iret (v := fl (3 * i0 + a0)) hx hb hr (fun t ht hW => ⟨⟨fl (3 * i0 + a0), (), rfl, ?_, trivial⟩, hS.F ht⟩) hS.2.2 dX5_lens_35
      first | exact (if_neg (fun q => b11 q.1)).symm | exact (if_neg (fun q => b18 q.2)).symm | (rw [if_pos ⟨inR_nI hi0 (by omega), inR_nI ha0 (by omega)⟩, tn_nI (by omega), tn_nI (by omega)])
    · skip
      refine lv_iconst (v := (-1)) hx hb dX5_lens_21 (by decide) ?_
      refine W.iret (v := (-1)) hx hb hr (fun t ht hW => ⟨⟨(-1), (), rfl, ?_, trivial⟩, hS.F ht⟩) hS.2.2 dX5_lens_22
      first | exact (if_neg (fun q => b11 q.1)).symm | exact (if_neg (fun q => b18 q.2)).symm | (rw [if_pos ⟨inR_nI hi0 (by omega), inR_nI ha0 (by omega)⟩, tn_nI (by omega), tn_nI (by omega)])

abbrev w_X5_first (G : XG) (kx kim kit kre ksh kwa kta kv : Nat) (tf rf : Int32) (kb ka kc kl kn : Nat) (w h la : Nat) (af : Nat → Int32) (km kg : Nat) (vw vh : Nat) (sl : Int32) : va_W := [oC kx 5 [.ref kb, .ref kim, .ref kit, .ref kv, .ref kre, .int tf, .ref ksh, .int rf, .ref kwa, .ref kta], oC kb 0 [.int (nI w), .int (nI h), .int (nI la), .ref ka, .ref kc, .ref kl, .ref kn], iA G ka 16 af, oC kv 4 [.ref km, .ref kg, .int (nI vw), .int (nI vh), .int sl]]
abbrev Q_X5_first (G : XG) (sz : Nat) (kx kim kit kre ksh kwa kta kv : Nat) (tf rf : Int32) (kb ka kc kl kn : Nat) (w h la : Nat) (af : Nat → Int32) (km kg : Nat) (vw vh : Nat) (sl : Int32) (c m : Int32) : Array Value → State → Outcome → State → Prop := (va_Qi (fun (r : Int32) (u : (Nat → Int32) × Int32) => r = (if (inR c (w * h) ∧ inR m 6) then af (tn c) else (-1)) ∧ u.1 = (if (inR c (w * h) ∧ inR m 6) then upd af (tn c) m else af) ∧ u.2 = (if (inR c (w * h) ∧ inR m 6) then nI 1 else sl)) (xWb G sz (w_X5_first G kx kim kit kre ksh kwa kta kv tf rf kb ka kc kl kn w h la af km kg vw vh sl) (fun u : (Nat → Int32) × Int32 => [oC kx 5 [.ref kb, .ref kim, .ref kit, .ref kv, .ref kre, .int tf, .ref ksh, .int rf, .ref kwa, .ref kta], oC kb 0 [.int (nI w), .int (nI h), .int (nI la), .ref ka, .ref kc, .ref kl, .ref kn], iA G ka 16 u.1, oC kv 4 [.ref km, .ref kg, .int (nI vw), .int (nI vh), .int u.2]])) (va_A (w_X5_first G kx kim kit kre ksh kwa kta kv tf rf kb ka kc kl kn w h la af km kg vw vh sl) sz))
set_option maxHeartbeats 4000000 in
set_option maxRecDepth 100000 in
theorem c_X5_first (l : Launch) (G : XG) (sz : Nat) (kx kim kit kre ksh kwa kta kv : Nat) (tf rf : Int32) (kb ka kc kl kn : Nat) (w h la : Nat) (af : Nat → Int32) (km kg : Nat) (vw vh : Nat) (sl : Int32) (c m : Int32) (hwh : w * h ≤ 16) : Met l yX5_first wsX5_first ({ frames := 1, cells := 0, slots := 0, locals := 21 } : Room) (va_Pc [.ref kx, .int c, .int m] (xWp G sz (w_X5_first G kx kim kit kre ksh kwa kta kv tf rf kb ka kc kl kn w h la af km kg vw vh sl))) (Q_X5_first G sz kx kim kit kre ksh kwa kta kv tf rf kb ka kc kl kn w h la af km kg vw vh sl c m) 0 0 (va_A (w_X5_first G kx kim kit kre ksh kwa kta kv tf rf kb ka kc kl kn w h la af km kg vw vh sl) sz) := by
  refine Met.ofW (cc := cX5_first) (maxL := 4) (ret := (some .int)) (by decide) rfl ?_
  intro pp ee ss mm aa below mt cd s₁ BB hml hv
  obtain ⟨rfl, hsz, hP, hK, hD0⟩ := hv
  have hx := BB.exec
  have hb := BB.bytes
  have hr := BB.returns
  have hts := atoms_spec (ws := wsX5_first) BB.pre
  have hown : ss.vm.findClass RX5 = some mm.cls := findClass_of_methodNamed BB.named
  have hlocks := BB.notSynchronized
  subst hsz
  have hD := hD0.self (sz := ss.heap.size)
  have hA : ∀ q : Nat, ss.heap.size ≤ q → va_A (w_X5_first G kx kim kit kre ksh kwa kta kv tf rf kb ka kc kl kn w h la af km kg vw vh sl) ss.heap.size q := fun q h => Or.inr h
  have hS : va_S (va_A (w_X5_first G kx kim kit kre ksh kwa kta kv tf rf kb ka kc kl kn w h la af km kg vw vh sl) ss.heap.size) ss.heap ss.heap [] := va_S.rf
  replace hD : va_D (va_A (w_X5_first G kx kim kit kre ksh kwa kta kv tf rf kb ka kc kl kn w h la af km kg vw vh sl) ss.heap.size) [oC kx 5 [.ref kb, .ref kim, .ref kit, .ref kv, .ref kre, .int tf, .ref ksh, .int rf, .ref kwa, .ref kta], oC kb 0 [.int (nI w), .int (nI h), .int (nI la), .ref ka, .ref kc, .ref kl, .ref kn], iA G ka 16 af, oC kv 4 [.ref km, .ref kg, .int (nI vw), .int (nI vh), .int sl]] := hD
  replace hP : xP G [oC kx 5 [.ref kb, .ref kim, .ref kit, .ref kv, .ref kre, .int tf, .ref ksh, .int rf, .ref kwa, .ref kta], oC kb 0 [.int (nI w), .int (nI h), .int (nI la), .ref ka, .ref kc, .ref kl, .ref kn], iA G ka 16 af, oC kv 4 [.ref km, .ref kg, .int (nI vw), .int (nI vh), .int sl]] ss.heap := hP
  have hin0 : ∀ w ∈ u_ws RX0 TX0 7, w ∈ wsX5_first := fun w h => List.mem_cons_of_mem _ (List.mem_append_left _ (List.mem_append_right _ h))
  have hin4 : ∀ w ∈ u_ws RX4 TX4 5, w ∈ wsX5_first := fun w h => List.mem_cons_of_mem _ (List.mem_append_right _ h)
  have hin5 : ∀ w ∈ u_ws RX5 TX5 10, w ∈ wsX5_first := fun w h => List.mem_cons_of_mem _ (List.mem_append_left _ (List.mem_append_left _ (List.mem_append_right _ h)))
  have hl := lv_entry ([.ref kx, .int c, .int m]) (n := 4) (Nat.le_of_ble_eq_true rfl)
  rw [lg_entry_eq]
  generalize (lg_sl ([.ref kx, .int c, .int m]) ++ List.replicate (4 - (lg_sl ([.ref kx, .int c, .int m])).length) Slot.unset).toArray = ls at hl ⊢
  replace hl : lv_has ls 4 [(0, .ref kx), (1, .int c), (2, .int m)] := hl
  refine lv_aload_n hx hb dX5_first_0 rfl (lv_at hl 0 rfl) ?_
  refine va_get (D := G.1) (ci := 5) (v := .ref kb) (C := RX5) (T := TX5) (N := 10) hx hb hts hin5 hown hK.1 hP 0 rfl rfl 0 (by decide) (hts (.fieldLink RX5 10 "BackLenses" "book" "LBackLenses$Book;") (List.mem_of_getElem? (i := 1) rfl)) (fun _ h9 => h9) rfl dX5_first_1 ?_
  refine lv_iload_n hx hb dX5_first_4 rfl (lv_at hl 1 rfl) ?_
  refine xr_i (As := [.int c]) (rest := []) ⟨hx, hb, hml, hown, hts⟩ (c_X0_hasCell l G kb ka kc kl kn w h la c (by first | assumption | omega)) (cwV 1 hts gX5_first_X0_hasCell rfl rfl rfl (by decide +kernel) ⟨Nat.le_of_ble_eq_true rfl, Nat.le_of_ble_eq_true rfl⟩) hK hP hS [1] rfl rfl rfl rfl hl.1 rfl (Nat.le_of_ble_eq_true rfl) dX5_first_5 ⟨Nat.zero_le _, Nat.zero_le _⟩ (fun r5 H locs hp5 hP hS => ?_)
  obtain rfl : r5 = xb (inR c (w * h)) := hp5
  refine xb_if_eq (tgt := 18) hx hb dX5_first_8 rfl (fun b8 => ?_) (fun b8 => ?_)
  · skip
    refine lv_iconst (v := (-1)) hx hb dX5_first_18 (by decide) ?_
    have hP := hP.sub (ws' := [oC kx 5 [.ref kb, .ref kim, .ref kit, .ref kv, .ref kre, .int tf, .ref ksh, .int rf, .ref kwa, .ref kta], oC kb 0 [.int (nI w), .int (nI h), .int (nI la), .ref ka, .ref kc, .ref kl, .ref kn], iA G ka 16 af, oC kv 4 [.ref km, .ref kg, .int (nI vw), .int (nI vh), .int sl]]) [0, 1, 2, 3] rfl
    have hD := hD.sub (ws' := [oC kx 5 [.ref kb, .ref kim, .ref kit, .ref kv, .ref kre, .int tf, .ref ksh, .int rf, .ref kwa, .ref kta], oC kb 0 [.int (nI w), .int (nI h), .int (nI la), .ref ka, .ref kc, .ref kl, .ref kn], iA G ka 16 af, oC kv 4 [.ref km, .ref kg, .int (nI vw), .int (nI vh), .int sl]]) [0, 1, 2, 3] (by decide) rfl
    refine W.iret (v := (-1)) hx hb hr (fun t ht hW => ⟨⟨(-1), (af, sl), rfl, ?_, by rw [ht]; exact hP, hD⟩, hS.F ht⟩) hS.2.2 dX5_first_19
    try dsimp only
    first | exact ⟨(if_neg (fun q => b8 q.1)).symm, (if_neg (fun q => b8 q.1)).symm, (if_neg (fun q => b8 q.1)).symm⟩ | exact ⟨(if_neg (fun q => b15 q.2)).symm, (if_neg (fun q => b15 q.2)).symm, (if_neg (fun q => b15 q.2)).symm⟩ | (rw [if_pos ⟨inR_nI hc0 (by omega), b15⟩, if_pos ⟨inR_nI hc0 (by omega), b15⟩, if_pos ⟨inR_nI hc0 (by omega), b15⟩, tn_nI (by omega)]; exact ⟨rfl, rfl, rfl⟩)
  · skip
    refine lv_iload_n hx hb dX5_first_11 rfl (lv_at hl 2 rfl) ?_
    refine xs_i (As := [.int m]) (rest := []) ⟨hx, hb, hml, hown, hts⟩ (c_X5_isMark l G m ) (va_cwS 1 hts gX5_first_X5_isMark rfl rfl rfl (by decide +kernel) ⟨Nat.le_of_ble_eq_true rfl, Nat.le_of_ble_eq_true rfl⟩) hP hS rfl hl.1 rfl (Nat.le_of_ble_eq_true rfl) dX5_first_12 ⟨Nat.zero_le _, Nat.zero_le _⟩ (fun r12 H locs hp12 hP hS => ?_)
    obtain rfl : r12 = xb (inR m 6) := hp12
    refine xb_if_ne (tgt := 20) hx hb dX5_first_15 rfl (fun b15 => ?_) (fun b15 => ?_)
    · skip
      obtain ⟨c0, hc0, rfl⟩ := inR_nat b8
      refine lv_aload_n hx hb dX5_first_20 rfl (lv_at hl 0 rfl) ?_
      refine va_get (D := G.1) (ci := 5) (v := .ref kb) (C := RX5) (T := TX5) (N := 10) hx hb hts hin5 hown hK.1 hP 0 rfl rfl 0 (by decide) (hts (.fieldLink RX5 10 "BackLenses" "book" "LBackLenses$Book;") (List.mem_of_getElem? (i := 1) rfl)) (fun _ h9 => h9) rfl dX5_first_21 ?_
      refine va_getN (D := G.1) (ci := 0) (v := .ref ka) (C := RX0) (T := TX0) (N := 7) hx hb hts hin0 hown hK.1 hP 1 rfl rfl 3 (by decide) (va_Nw.use rfl (hK.2 (Cond.fieldLinkNest "BackLenses" (132 : Nat) "BackLenses$Book" "atFirst" "[I" "BackLenses") (List.mem_of_getElem? (i := 14) rfl))) (fun _ h9 => h9) rfl dX5_first_24 ?_
      refine lv_iload_n hx hb dX5_first_27 rfl (lv_at hl 1 rfl) ?_
      refine xn_iald hx hb hK hP 2 rfl (by omega) (by omega) dX5_first_28 ?_
      refine lv_istore_n (lv' := [(3, .int (af c0)), (0, .ref kx), (1, .int (nI c0)), (2, .int m)]) hx hb dX5_first_29 rfl hl (by decide) rfl (fun ls hl => ?_)
      refine lv_aload_n hx hb dX5_first_30 rfl (lv_at hl 1 rfl) ?_
      refine va_get (D := G.1) (ci := 5) (v := .ref kb) (C := RX5) (T := TX5) (N := 10) hx hb hts hin5 hown hK.1 hP 0 rfl rfl 0 (by decide) (hts (.fieldLink RX5 10 "BackLenses" "book" "LBackLenses$Book;") (List.mem_of_getElem? (i := 1) rfl)) (fun _ h9 => h9) rfl dX5_first_31 ?_
      refine va_getN (D := G.1) (ci := 0) (v := .ref ka) (C := RX0) (T := TX0) (N := 7) hx hb hts hin0 hown hK.1 hP 1 rfl rfl 3 (by decide) (va_Nw.use rfl (hK.2 (Cond.fieldLinkNest "BackLenses" (132 : Nat) "BackLenses$Book" "atFirst" "[I" "BackLenses") (List.mem_of_getElem? (i := 14) rfl))) (fun _ h9 => h9) rfl dX5_first_34 ?_
      refine lv_iload_n hx hb dX5_first_37 rfl (lv_at hl 2 rfl) ?_
      refine lv_iload_n hx hb dX5_first_38 rfl (lv_at hl 3 rfl) ?_
      refine xn_iast hx hb hK hP hD hS 2 rfl (by omega) (by omega) dX5_first_39 (fun H locs hP hD hS => ?_)
      replace hP : xP G [oC kx 5 [.ref kb, .ref kim, .ref kit, .ref kv, .ref kre, .int tf, .ref ksh, .int rf, .ref kwa, .ref kta], oC kb 0 [.int (nI w), .int (nI h), .int (nI la), .ref ka, .ref kc, .ref kl, .ref kn], iA G ka 16 (upd af c0 m), oC kv 4 [.ref km, .ref kg, .int (nI vw), .int (nI vh), .int sl]] H := hP
      replace hD : va_D (va_A (w_X5_first G kx kim kit kre ksh kwa kta kv tf rf kb ka kc kl kn w h la af km kg vw vh sl) ss.heap.size) [oC kx 5 [.ref kb, .ref kim, .ref kit, .ref kv, .ref kre, .int tf, .ref ksh, .int rf, .ref kwa, .ref kta], oC kb 0 [.int (nI w), .int (nI h), .int (nI la), .ref ka, .ref kc, .ref kl, .ref kn], iA G ka 16 (upd af c0 m), oC kv 4 [.ref km, .ref kg, .int (nI vw), .int (nI vh), .int sl]] := hD
      refine lv_aload_n hx hb dX5_first_40 rfl (lv_at hl 1 rfl) ?_
      refine va_get (D := G.1) (ci := 5) (v := .ref kv) (C := RX5) (T := TX5) (N := 10) hx hb hts hin5 hown hK.1 hP 0 rfl rfl 3 (by decide) (hts (.fieldLink RX5 27 "BackLenses" "views" "LBackLenses$Views;") (List.mem_of_getElem? (i := 2) rfl)) (fun _ h9 => h9) rfl dX5_first_41 ?_
      refine lv_iconst (v := nI 1) hx hb dX5_first_44 (by decide) ?_
      refine va_putN (D := G.1) (ci := 4) (v := .int (nI 1)) (ty := .boolean) (C := RX4) (T := TX4) (N := 5) hx hb hts hin4 tyX4 tyX4_ok nmX4 hown hK.1 hP hD hS 3 rfl rfl 4 (by decide) (va_Nw.use rfl (hK.2 (Cond.fieldLinkNest "BackLenses" (77 : Nat) "BackLenses$Views" "stale" "Z" "BackLenses") (List.mem_of_getElem? (i := 22) rfl))) (fun _ h9 => h9) rfl (by decide +kernel) (by decide) (by decide) (Nat.le_of_ble_eq_true rfl) dX5_first_45 (fun H locs hP hD hS => ?_)
      replace hP : xP G [oC kx 5 [.ref kb, .ref kim, .ref kit, .ref kv, .ref kre, .int tf, .ref ksh, .int rf, .ref kwa, .ref kta], oC kb 0 [.int (nI w), .int (nI h), .int (nI la), .ref ka, .ref kc, .ref kl, .ref kn], iA G ka 16 (upd af c0 m), oC kv 4 [.ref km, .ref kg, .int (nI vw), .int (nI vh), .int (nI 1)]] H := hP
      replace hD : va_D (va_A (w_X5_first G kx kim kit kre ksh kwa kta kv tf rf kb ka kc kl kn w h la af km kg vw vh sl) ss.heap.size) [oC kx 5 [.ref kb, .ref kim, .ref kit, .ref kv, .ref kre, .int tf, .ref ksh, .int rf, .ref kwa, .ref kta], oC kb 0 [.int (nI w), .int (nI h), .int (nI la), .ref ka, .ref kc, .ref kl, .ref kn], iA G ka 16 (upd af c0 m), oC kv 4 [.ref km, .ref kg, .int (nI vw), .int (nI vh), .int (nI 1)]] := hD
      refine lv_iload_n hx hb dX5_first_48 rfl (lv_at hl 0 rfl) ?_
      have hP := hP.sub (ws' := [oC kx 5 [.ref kb, .ref kim, .ref kit, .ref kv, .ref kre, .int tf, .ref ksh, .int rf, .ref kwa, .ref kta], oC kb 0 [.int (nI w), .int (nI h), .int (nI la), .ref ka, .ref kc, .ref kl, .ref kn], iA G ka 16 (upd af c0 m), oC kv 4 [.ref km, .ref kg, .int (nI vw), .int (nI vh), .int (nI 1)]]) [0, 1, 2, 3] rfl
      have hD := hD.sub (ws' := [oC kx 5 [.ref kb, .ref kim, .ref kit, .ref kv, .ref kre, .int tf, .ref ksh, .int rf, .ref kwa, .ref kta], oC kb 0 [.int (nI w), .int (nI h), .int (nI la), .ref ka, .ref kc, .ref kl, .ref kn], iA G ka 16 (upd af c0 m), oC kv 4 [.ref km, .ref kg, .int (nI vw), .int (nI vh), .int (nI 1)]]) [0, 1, 2, 3] (by decide) rfl
      refine W.iret (v := af c0) hx hb hr (fun t ht hW => ⟨⟨af c0, (upd af c0 m, nI 1), rfl, ?_, by rw [ht]; exact hP, hD⟩, hS.F ht⟩) hS.2.2 dX5_first_49
      try dsimp only
      first | exact ⟨(if_neg (fun q => b8 q.1)).symm, (if_neg (fun q => b8 q.1)).symm, (if_neg (fun q => b8 q.1)).symm⟩ | exact ⟨(if_neg (fun q => b15 q.2)).symm, (if_neg (fun q => b15 q.2)).symm, (if_neg (fun q => b15 q.2)).symm⟩ | (rw [if_pos ⟨inR_nI hc0 (by omega), b15⟩, if_pos ⟨inR_nI hc0 (by omega), b15⟩, if_pos ⟨inR_nI hc0 (by omega), b15⟩, tn_nI (by omega)]; exact ⟨rfl, rfl, rfl⟩)
    · skip
      refine lv_iconst (v := (-1)) hx hb dX5_first_18 (by decide) ?_
      have hP := hP.sub (ws' := [oC kx 5 [.ref kb, .ref kim, .ref kit, .ref kv, .ref kre, .int tf, .ref ksh, .int rf, .ref kwa, .ref kta], oC kb 0 [.int (nI w), .int (nI h), .int (nI la), .ref ka, .ref kc, .ref kl, .ref kn], iA G ka 16 af, oC kv 4 [.ref km, .ref kg, .int (nI vw), .int (nI vh), .int sl]]) [0, 1, 2, 3] rfl
      have hD := hD.sub (ws' := [oC kx 5 [.ref kb, .ref kim, .ref kit, .ref kv, .ref kre, .int tf, .ref ksh, .int rf, .ref kwa, .ref kta], oC kb 0 [.int (nI w), .int (nI h), .int (nI la), .ref ka, .ref kc, .ref kl, .ref kn], iA G ka 16 af, oC kv 4 [.ref km, .ref kg, .int (nI vw), .int (nI vh), .int sl]]) [0, 1, 2, 3] (by decide) rfl
      refine W.iret (v := (-1)) hx hb hr (fun t ht hW => ⟨⟨(-1), (af, sl), rfl, ?_, by rw [ht]; exact hP, hD⟩, hS.F ht⟩) hS.2.2 dX5_first_19
      try dsimp only
      first | exact ⟨(if_neg (fun q => b8 q.1)).symm, (if_neg (fun q => b8 q.1)).symm, (if_neg (fun q => b8 q.1)).symm⟩ | exact ⟨(if_neg (fun q => b15 q.2)).symm, (if_neg (fun q => b15 q.2)).symm, (if_neg (fun q => b15 q.2)).symm⟩ | (rw [if_pos ⟨inR_nI hc0 (by omega), b15⟩, if_pos ⟨inR_nI hc0 (by omega), b15⟩, if_pos ⟨inR_nI hc0 (by omega), b15⟩, tn_nI (by omega)]; exact ⟨rfl, rfl, rfl⟩)

abbrev w_X5_turn (G : XG) (kx kim kit kre ksh kwa kta kv : Nat) (tf rf : Int32) (kb ka kc kl kn : Nat) (w h la : Nat) (kcn : Nat) (nc : Nat) (fc : Nat → Int32) (km kg : Nat) (vw vh : Nat) (sl : Int32) : va_W := [oC kx 5 [.ref kb, .ref kim, .ref kit, .ref kv, .ref kre, .int tf, .ref ksh, .int rf, .ref kwa, .ref kta], oC kb 0 [.int (nI w), .int (nI h), .int (nI la), .ref ka, .ref kc, .ref kl, .ref kn], oC kc 2 [.ref kcn, .int (nI 10), .int (nI nc)], iA G kcn (3 * 10) fc, oC kv 4 [.ref km, .ref kg, .int (nI vw), .int (nI vh), .int sl]]
abbrev Q_X5_turn (G : XG) (sz : Nat) (kx kim kit kre ksh kwa kta kv : Nat) (tf rf : Int32) (kb ka kc kl kn : Nat) (w h la : Nat) (kcn : Nat) (nc : Nat) (fc : Nat → Int32) (km kg : Nat) (vw vh : Nat) (sl : Int32) (d c m : Int32) : Array Value → State → Outcome → State → Prop := (va_Qi (fun (r : Int32) (u : Nat × (Nat → Int32)) => r = (if inR d (la + 1) ∧ inR c (w * h) ∧ inR m 6 then (if nc < 10 then nI (nc + 1) else (-3)) else (-1)) ∧ u.1 = (if (inR d (la + 1) ∧ inR c (w * h) ∧ inR m 6 ∧ nc < 10) then nc + 1 else nc) ∧ u.2 = (if (inR d (la + 1) ∧ inR c (w * h) ∧ inR m 6 ∧ nc < 10) then upd (upd (upd fc (3 * nc) d) (3 * nc + 1) c) (3 * nc + 2) m else fc)) (xWb G sz (w_X5_turn G kx kim kit kre ksh kwa kta kv tf rf kb ka kc kl kn w h la kcn nc fc km kg vw vh sl) (fun u : Nat × (Nat → Int32) => [oC kx 5 [.ref kb, .ref kim, .ref kit, .ref kv, .ref kre, .int tf, .ref ksh, .int rf, .ref kwa, .ref kta], oC kb 0 [.int (nI w), .int (nI h), .int (nI la), .ref ka, .ref kc, .ref kl, .ref kn], oC kc 2 [.ref kcn, .int (nI 10), .int (nI u.1)], iA G kcn (3 * 10) u.2, oC kv 4 [.ref km, .ref kg, .int (nI vw), .int (nI vh), .int (nI 1)]])) (va_A (w_X5_turn G kx kim kit kre ksh kwa kta kv tf rf kb ka kc kl kn w h la kcn nc fc km kg vw vh sl) sz))
set_option maxHeartbeats 4000000 in
set_option maxRecDepth 100000 in
theorem c_X5_turn (l : Launch) (G : XG) (sz : Nat) (kx kim kit kre ksh kwa kta kv : Nat) (tf rf : Int32) (kb ka kc kl kn : Nat) (w h la : Nat) (kcn : Nat) (nc : Nat) (fc : Nat → Int32) (km kg : Nat) (vw vh : Nat) (sl : Int32) (d c m : Int32) (hwh : w * h ≤ 16) (hla : la ≤ 9) (hnc : nc ≤ 10) : Met l yX5_turn wsX5_turn ({ frames := 2, cells := 0, slots := 0, locals := 46 } : Room) (va_Pc [.ref kx, .int d, .int c, .int m] (xWp G sz (w_X5_turn G kx kim kit kre ksh kwa kta kv tf rf kb ka kc kl kn w h la kcn nc fc km kg vw vh sl))) (Q_X5_turn G sz kx kim kit kre ksh kwa kta kv tf rf kb ka kc kl kn w h la kcn nc fc km kg vw vh sl d c m) 0 0 (va_A (w_X5_turn G kx kim kit kre ksh kwa kta kv tf rf kb ka kc kl kn w h la kcn nc fc km kg vw vh sl) sz) := by
  refine Met.ofW (cc := cX5_turn) (maxL := 5) (ret := (some .int)) (by decide) rfl ?_
  intro pp ee ss mm aa below mt cd s₁ BB hml hv
  obtain ⟨rfl, hsz, hP, hK, hD0⟩ := hv
  have hx := BB.exec
  have hb := BB.bytes
  have hr := BB.returns
  have hts := atoms_spec (ws := wsX5_turn) BB.pre
  have hown : ss.vm.findClass RX5 = some mm.cls := findClass_of_methodNamed BB.named
  have hlocks := BB.notSynchronized
  subst hsz
  have hD := hD0.self (sz := ss.heap.size)
  have hA : ∀ q : Nat, ss.heap.size ≤ q → va_A (w_X5_turn G kx kim kit kre ksh kwa kta kv tf rf kb ka kc kl kn w h la kcn nc fc km kg vw vh sl) ss.heap.size q := fun q h => Or.inr h
  have hS : va_S (va_A (w_X5_turn G kx kim kit kre ksh kwa kta kv tf rf kb ka kc kl kn w h la kcn nc fc km kg vw vh sl) ss.heap.size) ss.heap ss.heap [] := va_S.rf
  replace hD : va_D (va_A (w_X5_turn G kx kim kit kre ksh kwa kta kv tf rf kb ka kc kl kn w h la kcn nc fc km kg vw vh sl) ss.heap.size) [oC kx 5 [.ref kb, .ref kim, .ref kit, .ref kv, .ref kre, .int tf, .ref ksh, .int rf, .ref kwa, .ref kta], oC kb 0 [.int (nI w), .int (nI h), .int (nI la), .ref ka, .ref kc, .ref kl, .ref kn], oC kc 2 [.ref kcn, .int (nI 10), .int (nI nc)], iA G kcn (3 * 10) fc, oC kv 4 [.ref km, .ref kg, .int (nI vw), .int (nI vh), .int sl]] := hD
  replace hP : xP G [oC kx 5 [.ref kb, .ref kim, .ref kit, .ref kv, .ref kre, .int tf, .ref ksh, .int rf, .ref kwa, .ref kta], oC kb 0 [.int (nI w), .int (nI h), .int (nI la), .ref ka, .ref kc, .ref kl, .ref kn], oC kc 2 [.ref kcn, .int (nI 10), .int (nI nc)], iA G kcn (3 * 10) fc, oC kv 4 [.ref km, .ref kg, .int (nI vw), .int (nI vh), .int sl]] ss.heap := hP
  have hin0 : ∀ w ∈ u_ws RX0 TX0 7, w ∈ wsX5_turn := fun w h => List.mem_cons_of_mem _ (List.mem_append_left _ (List.mem_append_right _ h))
  have hin2 : ∀ w ∈ u_ws RX2 TX2 3, w ∈ wsX5_turn := fun w h => List.mem_cons_of_mem _ (List.mem_append_right _ h)
  have hin4 : ∀ w ∈ u_ws RX4 TX4 5, w ∈ wsX5_turn := fun w h => List.mem_cons_of_mem _ (List.mem_append_left _ (List.mem_append_left _ (List.mem_append_right _ h)))
  have hin5 : ∀ w ∈ u_ws RX5 TX5 10, w ∈ wsX5_turn := fun w h => List.mem_cons_of_mem _ (List.mem_append_left _ (List.mem_append_left _ (List.mem_append_left _ (List.mem_append_right _ h))))
  have hl := lv_entry ([.ref kx, .int d, .int c, .int m]) (n := 5) (Nat.le_of_ble_eq_true rfl)
  rw [lg_entry_eq]
  generalize (lg_sl ([.ref kx, .int d, .int c, .int m]) ++ List.replicate (5 - (lg_sl ([.ref kx, .int d, .int c, .int m])).length) Slot.unset).toArray = ls at hl ⊢
  replace hl : lv_has ls 5 [(0, .ref kx), (1, .int d), (2, .int c), (3, .int m)] := hl
  refine lv_aload_n hx hb dX5_turn_0 rfl (lv_at hl 0 rfl) ?_
  refine va_get (D := G.1) (ci := 5) (v := .ref kb) (C := RX5) (T := TX5) (N := 10) hx hb hts hin5 hown hK.1 hP 0 rfl rfl 0 (by decide) (hts (.fieldLink RX5 10 "BackLenses" "book" "LBackLenses$Book;") (List.mem_of_getElem? (i := 1) rfl)) (fun _ h9 => h9) rfl dX5_turn_1 ?_
  refine lv_iload_n hx hb dX5_turn_4 rfl (lv_at hl 1 rfl) ?_
  refine lv_iload_n hx hb dX5_turn_5 rfl (lv_at hl 2 rfl) ?_
  refine lv_iload_n hx hb dX5_turn_6 rfl (lv_at hl 3 rfl) ?_
  refine xw_i (As := [.int d, .int c, .int m]) (rest := []) (wr := [oC kx 5 [.ref kb, .ref kim, .ref kit, .ref kv, .ref kre, .int tf, .ref ksh, .int rf, .ref kwa, .ref kta], oC kv 4 [.ref km, .ref kg, .int (nI vw), .int (nI vh), .int sl]]) ⟨hx, hb, hml, hown, hts⟩ (c_X0_takeChange l G ss.heap.size kb ka kc kcn kl kn w h la nc fc d c m (by first | assumption | omega) (by first | assumption | omega) (by first | assumption | omega)) (cwV 3 hts gX5_turn_X0_takeChange rfl rfl rfl (by decide +kernel) ⟨Nat.le_of_ble_eq_true rfl, Nat.le_of_ble_eq_true rfl⟩) hK hP hD hS hA [1, 2, 3] [0, 4] rfl rfl (by decide) (by decide) (by decide) rfl rfl rfl hl.1 rfl (Nat.le_of_ble_eq_true rfl) dX5_turn_7 ⟨Nat.le_of_ble_eq_true rfl, Nat.le_of_ble_eq_true rfl⟩ (fun r7 u H locs hp7 hP hD hS => ?_)
  obtain ⟨u0_7, u1_7⟩ := u
  try dsimp only at hp7 hP hD
  obtain ⟨rfl, rfl, rfl⟩ := hp7
  replace hP : xP G [oC kx 5 [.ref kb, .ref kim, .ref kit, .ref kv, .ref kre, .int tf, .ref ksh, .int rf, .ref kwa, .ref kta], oC kv 4 [.ref km, .ref kg, .int (nI vw), .int (nI vh), .int sl], oC kb 0 [.int (nI w), .int (nI h), .int (nI la), .ref ka, .ref kc, .ref kl, .ref kn], oC kc 2 [.ref kcn, .int (nI 10), .int (nI (if (inR d (la + 1) ∧ inR c (w * h) ∧ inR m 6 ∧ nc < 10) then nc + 1 else nc))], iA G kcn (3 * 10) (if (inR d (la + 1) ∧ inR c (w * h) ∧ inR m 6 ∧ nc < 10) then upd (upd (upd fc (3 * nc) d) (3 * nc + 1) c) (3 * nc + 2) m else fc)] H := hP
  replace hD : va_D (va_A (w_X5_turn G kx kim kit kre ksh kwa kta kv tf rf kb ka kc kl kn w h la kcn nc fc km kg vw vh sl) ss.heap.size) [oC kx 5 [.ref kb, .ref kim, .ref kit, .ref kv, .ref kre, .int tf, .ref ksh, .int rf, .ref kwa, .ref kta], oC kv 4 [.ref km, .ref kg, .int (nI vw), .int (nI vh), .int sl], oC kb 0 [.int (nI w), .int (nI h), .int (nI la), .ref ka, .ref kc, .ref kl, .ref kn], oC kc 2 [.ref kcn, .int (nI 10), .int (nI (if (inR d (la + 1) ∧ inR c (w * h) ∧ inR m 6 ∧ nc < 10) then nc + 1 else nc))], iA G kcn (3 * 10) (if (inR d (la + 1) ∧ inR c (w * h) ∧ inR m 6 ∧ nc < 10) then upd (upd (upd fc (3 * nc) d) (3 * nc + 1) c) (3 * nc + 2) m else fc)] := hD
  refine lv_istore (lv' := [(4, .int (if inR d (la + 1) ∧ inR c (w * h) ∧ inR m 6 then (if nc < 10 then nI (nc + 1) else (-3)) else (-1))), (0, .ref kx), (1, .int d), (2, .int c), (3, .int m)]) hx hb dX5_turn_10 hl (by decide) rfl (fun ls hl => ?_)
  refine lv_aload_n hx hb dX5_turn_12 rfl (lv_at hl 1 rfl) ?_
  refine va_get (D := G.1) (ci := 5) (v := .ref kv) (C := RX5) (T := TX5) (N := 10) hx hb hts hin5 hown hK.1 hP 0 rfl rfl 3 (by decide) (hts (.fieldLink RX5 27 "BackLenses" "views" "LBackLenses$Views;") (List.mem_of_getElem? (i := 2) rfl)) (fun _ h9 => h9) rfl dX5_turn_13 ?_
  refine lv_iconst (v := nI 1) hx hb dX5_turn_16 (by decide) ?_
  refine va_putN (D := G.1) (ci := 4) (v := .int (nI 1)) (ty := .boolean) (C := RX4) (T := TX4) (N := 5) hx hb hts hin4 tyX4 tyX4_ok nmX4 hown hK.1 hP hD hS 1 rfl rfl 4 (by decide) (va_Nw.use rfl (hK.2 (Cond.fieldLinkNest "BackLenses" (77 : Nat) "BackLenses$Views" "stale" "Z" "BackLenses") (List.mem_of_getElem? (i := 22) rfl))) (fun _ h9 => h9) rfl (by decide +kernel) (by decide) (by decide) (Nat.le_of_ble_eq_true rfl) dX5_turn_17 (fun H locs hP hD hS => ?_)
  replace hP : xP G [oC kx 5 [.ref kb, .ref kim, .ref kit, .ref kv, .ref kre, .int tf, .ref ksh, .int rf, .ref kwa, .ref kta], oC kv 4 [.ref km, .ref kg, .int (nI vw), .int (nI vh), .int (nI 1)], oC kb 0 [.int (nI w), .int (nI h), .int (nI la), .ref ka, .ref kc, .ref kl, .ref kn], oC kc 2 [.ref kcn, .int (nI 10), .int (nI (if (inR d (la + 1) ∧ inR c (w * h) ∧ inR m 6 ∧ nc < 10) then nc + 1 else nc))], iA G kcn (3 * 10) (if (inR d (la + 1) ∧ inR c (w * h) ∧ inR m 6 ∧ nc < 10) then upd (upd (upd fc (3 * nc) d) (3 * nc + 1) c) (3 * nc + 2) m else fc)] H := hP
  replace hD : va_D (va_A (w_X5_turn G kx kim kit kre ksh kwa kta kv tf rf kb ka kc kl kn w h la kcn nc fc km kg vw vh sl) ss.heap.size) [oC kx 5 [.ref kb, .ref kim, .ref kit, .ref kv, .ref kre, .int tf, .ref ksh, .int rf, .ref kwa, .ref kta], oC kv 4 [.ref km, .ref kg, .int (nI vw), .int (nI vh), .int (nI 1)], oC kb 0 [.int (nI w), .int (nI h), .int (nI la), .ref ka, .ref kc, .ref kl, .ref kn], oC kc 2 [.ref kcn, .int (nI 10), .int (nI (if (inR d (la + 1) ∧ inR c (w * h) ∧ inR m 6 ∧ nc < 10) then nc + 1 else nc))], iA G kcn (3 * 10) (if (inR d (la + 1) ∧ inR c (w * h) ∧ inR m 6 ∧ nc < 10) then upd (upd (upd fc (3 * nc) d) (3 * nc + 1) c) (3 * nc + 2) m else fc)] := hD
  refine lv_iload hx hb dX5_turn_20 (lv_at hl 0 rfl) ?_
  have hP := hP.sub (ws' := [oC kx 5 [.ref kb, .ref kim, .ref kit, .ref kv, .ref kre, .int tf, .ref ksh, .int rf, .ref kwa, .ref kta], oC kb 0 [.int (nI w), .int (nI h), .int (nI la), .ref ka, .ref kc, .ref kl, .ref kn], oC kc 2 [.ref kcn, .int (nI 10), .int (nI (if (inR d (la + 1) ∧ inR c (w * h) ∧ inR m 6 ∧ nc < 10) then nc + 1 else nc))], iA G kcn (3 * 10) (if (inR d (la + 1) ∧ inR c (w * h) ∧ inR m 6 ∧ nc < 10) then upd (upd (upd fc (3 * nc) d) (3 * nc + 1) c) (3 * nc + 2) m else fc), oC kv 4 [.ref km, .ref kg, .int (nI vw), .int (nI vh), .int (nI 1)]]) [0, 2, 3, 4, 1] rfl
  have hD := hD.sub (ws' := [oC kx 5 [.ref kb, .ref kim, .ref kit, .ref kv, .ref kre, .int tf, .ref ksh, .int rf, .ref kwa, .ref kta], oC kb 0 [.int (nI w), .int (nI h), .int (nI la), .ref ka, .ref kc, .ref kl, .ref kn], oC kc 2 [.ref kcn, .int (nI 10), .int (nI (if (inR d (la + 1) ∧ inR c (w * h) ∧ inR m 6 ∧ nc < 10) then nc + 1 else nc))], iA G kcn (3 * 10) (if (inR d (la + 1) ∧ inR c (w * h) ∧ inR m 6 ∧ nc < 10) then upd (upd (upd fc (3 * nc) d) (3 * nc + 1) c) (3 * nc + 2) m else fc), oC kv 4 [.ref km, .ref kg, .int (nI vw), .int (nI vh), .int (nI 1)]]) [0, 2, 3, 4, 1] (by decide) rfl
  refine W.iret (v := (if inR d (la + 1) ∧ inR c (w * h) ∧ inR m 6 then (if nc < 10 then nI (nc + 1) else (-3)) else (-1))) hx hb hr (fun t ht hW => ⟨⟨(if inR d (la + 1) ∧ inR c (w * h) ∧ inR m 6 then (if nc < 10 then nI (nc + 1) else (-3)) else (-1)), ((if (inR d (la + 1) ∧ inR c (w * h) ∧ inR m 6 ∧ nc < 10) then nc + 1 else nc), (if (inR d (la + 1) ∧ inR c (w * h) ∧ inR m 6 ∧ nc < 10) then upd (upd (upd fc (3 * nc) d) (3 * nc + 1) c) (3 * nc + 2) m else fc)), rfl, ?_, by rw [ht]; exact hP, hD⟩, hS.F ht⟩) hS.2.2 dX5_turn_22
  try dsimp only
  exact ⟨rfl, rfl, rfl⟩

abbrev w_X5_forget (G : XG) (kx kim kit kre ksh kwa kta kv : Nat) (tf rf : Int32) (kb ka kc kl kn : Nat) (w h la : Nat) (knn : Nat) (ns : Nat) : va_W := [oC kx 5 [.ref kb, .ref kim, .ref kit, .ref kv, .ref kre, .int tf, .ref ksh, .int rf, .ref kwa, .ref kta], oC kb 0 [.int (nI w), .int (nI h), .int (nI la), .ref ka, .ref kc, .ref kl, .ref kn], oC kn 2 [.ref knn, .int (nI 8), .int (nI ns)]]
abbrev Q_X5_forget (G : XG) (sz : Nat) (kx kim kit kre ksh kwa kta kv : Nat) (tf rf : Int32) (kb ka kc kl kn : Nat) (w h la : Nat) (knn : Nat) (ns : Nat) (v : Int32) : Array Value → State → Outcome → State → Prop := (va_Qi (fun (r : Int32) (u : Nat) => r = (if inR v (ns + 1) then nI ns else (-1)) ∧ u = (if inR v (ns + 1) then v.toInt.toNat else ns)) (xWb G sz (w_X5_forget G kx kim kit kre ksh kwa kta kv tf rf kb ka kc kl kn w h la knn ns) (fun u : Nat => [oC kx 5 [.ref kb, .ref kim, .ref kit, .ref kv, .ref kre, .int tf, .ref ksh, .int rf, .ref kwa, .ref kta], oC kb 0 [.int (nI w), .int (nI h), .int (nI la), .ref ka, .ref kc, .ref kl, .ref kn], oC kn 2 [.ref knn, .int (nI 8), .int (nI u)]])) (va_A (w_X5_forget G kx kim kit kre ksh kwa kta kv tf rf kb ka kc kl kn w h la knn ns) sz))
set_option maxHeartbeats 4000000 in
set_option maxRecDepth 100000 in
theorem c_X5_forget (l : Launch) (G : XG) (sz : Nat) (kx kim kit kre ksh kwa kta kv : Nat) (tf rf : Int32) (kb ka kc kl kn : Nat) (w h la : Nat) (knn : Nat) (ns : Nat) (v : Int32) (hns : ns ≤ 8) : Met l yX5_forget wsX5_forget ({ frames := 1, cells := 0, slots := 0, locals := 22 } : Room) (va_Pc [.ref kx, .int v] (xWp G sz (w_X5_forget G kx kim kit kre ksh kwa kta kv tf rf kb ka kc kl kn w h la knn ns))) (Q_X5_forget G sz kx kim kit kre ksh kwa kta kv tf rf kb ka kc kl kn w h la knn ns v) 0 0 (va_A (w_X5_forget G kx kim kit kre ksh kwa kta kv tf rf kb ka kc kl kn w h la knn ns) sz) := by
  refine Met.ofW (cc := cX5_forget) (maxL := 2) (ret := (some .int)) (by decide) rfl ?_
  intro pp ee ss mm aa below mt cd s₁ BB hml hv
  obtain ⟨rfl, hsz, hP, hK, hD0⟩ := hv
  have hx := BB.exec
  have hb := BB.bytes
  have hr := BB.returns
  have hts := atoms_spec (ws := wsX5_forget) BB.pre
  have hown : ss.vm.findClass RX5 = some mm.cls := findClass_of_methodNamed BB.named
  have hlocks := BB.notSynchronized
  subst hsz
  have hD := hD0.self (sz := ss.heap.size)
  have hA : ∀ q : Nat, ss.heap.size ≤ q → va_A (w_X5_forget G kx kim kit kre ksh kwa kta kv tf rf kb ka kc kl kn w h la knn ns) ss.heap.size q := fun q h => Or.inr h
  have hS : va_S (va_A (w_X5_forget G kx kim kit kre ksh kwa kta kv tf rf kb ka kc kl kn w h la knn ns) ss.heap.size) ss.heap ss.heap [] := va_S.rf
  replace hD : va_D (va_A (w_X5_forget G kx kim kit kre ksh kwa kta kv tf rf kb ka kc kl kn w h la knn ns) ss.heap.size) [oC kx 5 [.ref kb, .ref kim, .ref kit, .ref kv, .ref kre, .int tf, .ref ksh, .int rf, .ref kwa, .ref kta], oC kb 0 [.int (nI w), .int (nI h), .int (nI la), .ref ka, .ref kc, .ref kl, .ref kn], oC kn 2 [.ref knn, .int (nI 8), .int (nI ns)]] := hD
  replace hP : xP G [oC kx 5 [.ref kb, .ref kim, .ref kit, .ref kv, .ref kre, .int tf, .ref ksh, .int rf, .ref kwa, .ref kta], oC kb 0 [.int (nI w), .int (nI h), .int (nI la), .ref ka, .ref kc, .ref kl, .ref kn], oC kn 2 [.ref knn, .int (nI 8), .int (nI ns)]] ss.heap := hP
  have hin0 : ∀ w ∈ u_ws RX0 TX0 7, w ∈ wsX5_forget := fun w h => List.mem_cons_of_mem _ (List.mem_append_left _ (List.mem_append_right _ h))
  have hin2 : ∀ w ∈ u_ws RX2 TX2 3, w ∈ wsX5_forget := fun w h => List.mem_cons_of_mem _ (List.mem_append_right _ h)
  have hin5 : ∀ w ∈ u_ws RX5 TX5 10, w ∈ wsX5_forget := fun w h => List.mem_cons_of_mem _ (List.mem_append_left _ (List.mem_append_left _ (List.mem_append_right _ h)))
  have hl := lv_entry ([.ref kx, .int v]) (n := 2) (Nat.le_of_ble_eq_true rfl)
  rw [lg_entry_eq]
  generalize (lg_sl ([.ref kx, .int v]) ++ List.replicate (2 - (lg_sl ([.ref kx, .int v])).length) Slot.unset).toArray = ls at hl ⊢
  replace hl : lv_has ls 2 [(0, .ref kx), (1, .int v)] := hl
  refine lv_aload_n hx hb dX5_forget_0 rfl (lv_at hl 0 rfl) ?_
  refine va_get (D := G.1) (ci := 5) (v := .ref kb) (C := RX5) (T := TX5) (N := 10) hx hb hts hin5 hown hK.1 hP 0 rfl rfl 0 (by decide) (hts (.fieldLink RX5 10 "BackLenses" "book" "LBackLenses$Book;") (List.mem_of_getElem? (i := 1) rfl)) (fun _ h9 => h9) rfl dX5_forget_1 ?_
  refine va_getN (D := G.1) (ci := 0) (v := .ref kn) (C := RX0) (T := TX0) (N := 7) hx hb hts hin0 hown hK.1 hP 1 rfl rfl 6 (by decide) (va_Nw.use rfl (hK.2 (Cond.fieldLinkNest "BackLenses" (161 : Nat) "BackLenses$Book" "shown" "LBackLenses$Rows;" "BackLenses") (List.mem_of_getElem? (i := 21) rfl))) (fun _ h9 => h9) rfl dX5_forget_4 ?_
  refine lv_iload_n hx hb dX5_forget_7 rfl (lv_at hl 1 rfl) ?_
  refine xw_i (As := [.int v]) (rest := []) (wr := [oC kx 5 [.ref kb, .ref kim, .ref kit, .ref kv, .ref kre, .int tf, .ref ksh, .int rf, .ref kwa, .ref kta], oC kb 0 [.int (nI w), .int (nI h), .int (nI la), .ref ka, .ref kc, .ref kl, .ref kn]]) ⟨hx, hb, hml, hown, hts⟩ (c_X2_shorten l G ss.heap.size kn knn 8 ns v (by first | assumption | omega)) (cwV 1 hts gX5_forget_X2_shorten rfl rfl rfl (by decide +kernel) ⟨Nat.le_of_ble_eq_true rfl, Nat.le_of_ble_eq_true rfl⟩) hK hP hD hS hA [2] [0, 1] rfl rfl (by decide) (by decide) (by decide) rfl rfl rfl hl.1 rfl (Nat.le_of_ble_eq_true rfl) dX5_forget_8 ⟨Nat.le_of_ble_eq_true rfl, Nat.le_of_ble_eq_true rfl⟩ (fun r8 u H locs hp8 hP hD hS => ?_)
  obtain ⟨u0_8, rfl⟩ : ∃ z, z = u := ⟨_, rfl⟩
  try dsimp only at hp8 hP hD
  obtain ⟨rfl, rfl⟩ := hp8
  replace hP : xP G [oC kx 5 [.ref kb, .ref kim, .ref kit, .ref kv, .ref kre, .int tf, .ref ksh, .int rf, .ref kwa, .ref kta], oC kb 0 [.int (nI w), .int (nI h), .int (nI la), .ref ka, .ref kc, .ref kl, .ref kn], oC kn 2 [.ref knn, .int (nI 8), .int (nI (if inR v (ns + 1) then v.toInt.toNat else ns))]] H := hP
  replace hD : va_D (va_A (w_X5_forget G kx kim kit kre ksh kwa kta kv tf rf kb ka kc kl kn w h la knn ns) ss.heap.size) [oC kx 5 [.ref kb, .ref kim, .ref kit, .ref kv, .ref kre, .int tf, .ref ksh, .int rf, .ref kwa, .ref kta], oC kb 0 [.int (nI w), .int (nI h), .int (nI la), .ref ka, .ref kc, .ref kl, .ref kn], oC kn 2 [.ref knn, .int (nI 8), .int (nI (if inR v (ns + 1) then v.toInt.toNat else ns))]] := hD
  have hP := hP.sub (ws' := [oC kx 5 [.ref kb, .ref kim, .ref kit, .ref kv, .ref kre, .int tf, .ref ksh, .int rf, .ref kwa, .ref kta], oC kb 0 [.int (nI w), .int (nI h), .int (nI la), .ref ka, .ref kc, .ref kl, .ref kn], oC kn 2 [.ref knn, .int (nI 8), .int (nI (if inR v (ns + 1) then v.toInt.toNat else ns))]]) [0, 1, 2] rfl
  have hD := hD.sub (ws' := [oC kx 5 [.ref kb, .ref kim, .ref kit, .ref kv, .ref kre, .int tf, .ref ksh, .int rf, .ref kwa, .ref kta], oC kb 0 [.int (nI w), .int (nI h), .int (nI la), .ref ka, .ref kc, .ref kl, .ref kn], oC kn 2 [.ref knn, .int (nI 8), .int (nI (if inR v (ns + 1) then v.toInt.toNat else ns))]]) [0, 1, 2] (by decide) rfl
  refine W.iret (v := (if inR v (ns + 1) then nI ns else (-1))) hx hb hr (fun t ht hW => ⟨⟨(if inR v (ns + 1) then nI ns else (-1)), ((if inR v (ns + 1) then v.toInt.toNat else ns)), rfl, ?_, by rw [ht]; exact hP, hD⟩, hS.F ht⟩) hS.2.2 dX5_forget_11
  exact ⟨rfl, rfl⟩

abbrev w_X5_cut (G : XG) (kx kim kit kre ksh kwa kta kv : Nat) (tf rf : Int32) (kb ka kc kl kn : Nat) (w h la : Nat) (kcn : Nat) (nc : Nat) (kln : Nat) (nl : Nat) (km kg : Nat) (vw vh : Nat) (sl : Int32) : va_W := [oC kx 5 [.ref kb, .ref kim, .ref kit, .ref kv, .ref kre, .int tf, .ref ksh, .int rf, .ref kwa, .ref kta], oC kb 0 [.int (nI w), .int (nI h), .int (nI la), .ref ka, .ref kc, .ref kl, .ref kn], oC kc 2 [.ref kcn, .int (nI 10), .int (nI nc)], oC kl 2 [.ref kln, .int (nI 6), .int (nI nl)], oC kv 4 [.ref km, .ref kg, .int (nI vw), .int (nI vh), .int sl]]
abbrev Q_X5_cut (G : XG) (sz : Nat) (kx kim kit kre ksh kwa kta kv : Nat) (tf rf : Int32) (kb ka kc kl kn : Nat) (w h la : Nat) (kcn : Nat) (nc : Nat) (kln : Nat) (nl : Nat) (km kg : Nat) (vw vh : Nat) (sl : Int32) (a v : Int32) : Array Value → State → Outcome → State → Prop := (va_Qi (fun (r : Int32) (u : Nat × Nat × Int32) => r = (if a = 0 then (if inR v (nc + 1) then nI nc else (-1)) else if a = nI 1 then (if inR v (nl + 1) then nI nl else (-1)) else (-1)) ∧ u.1 = (if a = 0 then (if inR v (nc + 1) then v.toInt.toNat else nc) else nc) ∧ u.2.1 = (if a = nI 1 then (if inR v (nl + 1) then v.toInt.toNat else nl) else nl) ∧ u.2.2 = (if inR a 2 then nI 1 else sl)) (xWb G sz (w_X5_cut G kx kim kit kre ksh kwa kta kv tf rf kb ka kc kl kn w h la kcn nc kln nl km kg vw vh sl) (fun u : Nat × Nat × Int32 => [oC kx 5 [.ref kb, .ref kim, .ref kit, .ref kv, .ref kre, .int tf, .ref ksh, .int rf, .ref kwa, .ref kta], oC kb 0 [.int (nI w), .int (nI h), .int (nI la), .ref ka, .ref kc, .ref kl, .ref kn], oC kc 2 [.ref kcn, .int (nI 10), .int (nI u.1)], oC kl 2 [.ref kln, .int (nI 6), .int (nI u.2.1)], oC kv 4 [.ref km, .ref kg, .int (nI vw), .int (nI vh), .int u.2.2]])) (va_A (w_X5_cut G kx kim kit kre ksh kwa kta kv tf rf kb ka kc kl kn w h la kcn nc kln nl km kg vw vh sl) sz))
set_option maxHeartbeats 4000000 in
set_option maxRecDepth 100000 in
theorem c_X5_cut (l : Launch) (G : XG) (sz : Nat) (kx kim kit kre ksh kwa kta kv : Nat) (tf rf : Int32) (kb ka kc kl kn : Nat) (w h la : Nat) (kcn : Nat) (nc : Nat) (kln : Nat) (nl : Nat) (km kg : Nat) (vw vh : Nat) (sl : Int32) (a v : Int32) (hnc : nc ≤ 10) (hnl : nl ≤ 6) : Met l yX5_cut wsX5_cut ({ frames := 1, cells := 0, slots := 0, locals := 22 } : Room) (va_Pc [.ref kx, .int a, .int v] (xWp G sz (w_X5_cut G kx kim kit kre ksh kwa kta kv tf rf kb ka kc kl kn w h la kcn nc kln nl km kg vw vh sl))) (Q_X5_cut G sz kx kim kit kre ksh kwa kta kv tf rf kb ka kc kl kn w h la kcn nc kln nl km kg vw vh sl a v) 0 0 (va_A (w_X5_cut G kx kim kit kre ksh kwa kta kv tf rf kb ka kc kl kn w h la kcn nc kln nl km kg vw vh sl) sz) := by
  refine Met.ofW (cc := cX5_cut) (maxL := 4) (ret := (some .int)) (by decide) rfl ?_
  intro pp ee ss mm aa below mt cd s₁ BB hml hv
  obtain ⟨rfl, hsz, hP, hK, hD0⟩ := hv
  have hx := BB.exec
  have hb := BB.bytes
  have hr := BB.returns
  have hts := atoms_spec (ws := wsX5_cut) BB.pre
  have hown : ss.vm.findClass RX5 = some mm.cls := findClass_of_methodNamed BB.named
  have hlocks := BB.notSynchronized
  subst hsz
  have hD := hD0.self (sz := ss.heap.size)
  have hA : ∀ q : Nat, ss.heap.size ≤ q → va_A (w_X5_cut G kx kim kit kre ksh kwa kta kv tf rf kb ka kc kl kn w h la kcn nc kln nl km kg vw vh sl) ss.heap.size q := fun q h => Or.inr h
  have hS : va_S (va_A (w_X5_cut G kx kim kit kre ksh kwa kta kv tf rf kb ka kc kl kn w h la kcn nc kln nl km kg vw vh sl) ss.heap.size) ss.heap ss.heap [] := va_S.rf
  replace hD : va_D (va_A (w_X5_cut G kx kim kit kre ksh kwa kta kv tf rf kb ka kc kl kn w h la kcn nc kln nl km kg vw vh sl) ss.heap.size) [oC kx 5 [.ref kb, .ref kim, .ref kit, .ref kv, .ref kre, .int tf, .ref ksh, .int rf, .ref kwa, .ref kta], oC kb 0 [.int (nI w), .int (nI h), .int (nI la), .ref ka, .ref kc, .ref kl, .ref kn], oC kc 2 [.ref kcn, .int (nI 10), .int (nI nc)], oC kl 2 [.ref kln, .int (nI 6), .int (nI nl)], oC kv 4 [.ref km, .ref kg, .int (nI vw), .int (nI vh), .int sl]] := hD
  replace hP : xP G [oC kx 5 [.ref kb, .ref kim, .ref kit, .ref kv, .ref kre, .int tf, .ref ksh, .int rf, .ref kwa, .ref kta], oC kb 0 [.int (nI w), .int (nI h), .int (nI la), .ref ka, .ref kc, .ref kl, .ref kn], oC kc 2 [.ref kcn, .int (nI 10), .int (nI nc)], oC kl 2 [.ref kln, .int (nI 6), .int (nI nl)], oC kv 4 [.ref km, .ref kg, .int (nI vw), .int (nI vh), .int sl]] ss.heap := hP
  have hin0 : ∀ w ∈ u_ws RX0 TX0 7, w ∈ wsX5_cut := fun w h => List.mem_cons_of_mem _ (List.mem_append_left _ (List.mem_append_left _ (List.mem_append_right _ h)))
  have hin2 : ∀ w ∈ u_ws RX2 TX2 3, w ∈ wsX5_cut := fun w h => List.mem_cons_of_mem _ (List.mem_append_right _ h)
  have hin4 : ∀ w ∈ u_ws RX4 TX4 5, w ∈ wsX5_cut := fun w h => List.mem_cons_of_mem _ (List.mem_append_left _ (List.mem_append_right _ h))
  have hin5 : ∀ w ∈ u_ws RX5 TX5 10, w ∈ wsX5_cut := fun w h => List.mem_cons_of_mem _ (List.mem_append_left _ (List.mem_append_left _ (List.mem_append_left _ (List.mem_append_right _ h))))
  have hl := lv_entry ([.ref kx, .int a, .int v]) (n := 4) (Nat.le_of_ble_eq_true rfl)
  rw [lg_entry_eq]
  generalize (lg_sl ([.ref kx, .int a, .int v]) ++ List.replicate (4 - (lg_sl ([.ref kx, .int a, .int v])).length) Slot.unset).toArray = ls at hl ⊢
  replace hl : lv_has ls 4 [(0, .ref kx), (1, .int a), (2, .int v)] := hl
  refine lv_iload_n hx hb dX5_cut_0 rfl (lv_at hl 1 rfl) ?_
  refine xs_i (As := [.int a]) (rest := []) ⟨hx, hb, hml, hown, hts⟩ (c_X5_isChoice l G a ) (va_cwS 1 hts gX5_cut_X5_isChoice rfl rfl rfl (by decide +kernel) ⟨Nat.le_of_ble_eq_true rfl, Nat.le_of_ble_eq_true rfl⟩) hP hS rfl hl.1 rfl (Nat.le_of_ble_eq_true rfl) dX5_cut_1 ⟨Nat.zero_le _, Nat.zero_le _⟩ (fun r1 H locs hp1 hP hS => ?_)
  obtain rfl : r1 = xb (inR a 2) := hp1
  refine xb_if_ne (tgt := 9) hx hb dX5_cut_4 rfl (fun b4 => ?_) (fun b4 => ?_)
  · skip
    refine lv_iload_n hx hb dX5_cut_9 rfl (lv_at hl 1 rfl) ?_
    refine lv_if_ne (tgt := 23) hx hb dX5_cut_10 rfl (fun b10 => ?_) (fun b10 => ?_)
    · skip
      refine lv_aload_n hx hb dX5_cut_23 rfl (lv_at hl 0 rfl) ?_
      refine va_get (D := G.1) (ci := 5) (v := .ref kb) (C := RX5) (T := TX5) (N := 10) hx hb hts hin5 hown hK.1 hP 0 rfl rfl 0 (by decide) (hts (.fieldLink RX5 10 "BackLenses" "book" "LBackLenses$Book;") (List.mem_of_getElem? (i := 1) rfl)) (fun _ h9 => h9) rfl dX5_cut_24 ?_
      refine va_getN (D := G.1) (ci := 0) (v := .ref kl) (C := RX0) (T := TX0) (N := 7) hx hb hts hin0 hown hK.1 hP 1 rfl rfl 5 (by decide) (va_Nw.use rfl (hK.2 (Cond.fieldLinkNest "BackLenses" (102 : Nat) "BackLenses$Book" "lenses" "LBackLenses$Rows;" "BackLenses") (List.mem_of_getElem? (i := 20) rfl))) (fun _ h9 => h9) rfl dX5_cut_27 ?_
      refine lv_astore_n (lv' := [(3, .ref kl), (0, .ref kx), (1, .int a), (2, .int v)]) hx hb dX5_cut_30 rfl hl (by decide) rfl (fun ls hl => ?_)
      refine lv_aload_n hx hb dX5_cut_31 rfl (lv_at hl 1 rfl) ?_
      refine va_get (D := G.1) (ci := 5) (v := .ref kv) (C := RX5) (T := TX5) (N := 10) hx hb hts hin5 hown hK.1 hP 0 rfl rfl 3 (by decide) (hts (.fieldLink RX5 27 "BackLenses" "views" "LBackLenses$Views;") (List.mem_of_getElem? (i := 2) rfl)) (fun _ h9 => h9) rfl dX5_cut_32 ?_
      refine lv_iconst (v := nI 1) hx hb dX5_cut_35 (by decide) ?_
      refine va_putN (D := G.1) (ci := 4) (v := .int (nI 1)) (ty := .boolean) (C := RX4) (T := TX4) (N := 5) hx hb hts hin4 tyX4 tyX4_ok nmX4 hown hK.1 hP hD hS 4 rfl rfl 4 (by decide) (va_Nw.use rfl (hK.2 (Cond.fieldLinkNest "BackLenses" (77 : Nat) "BackLenses$Views" "stale" "Z" "BackLenses") (List.mem_of_getElem? (i := 22) rfl))) (fun _ h9 => h9) rfl (by decide +kernel) (by decide) (by decide) (Nat.le_of_ble_eq_true rfl) dX5_cut_36 (fun H locs hP hD hS => ?_)
      replace hP : xP G [oC kx 5 [.ref kb, .ref kim, .ref kit, .ref kv, .ref kre, .int tf, .ref ksh, .int rf, .ref kwa, .ref kta], oC kb 0 [.int (nI w), .int (nI h), .int (nI la), .ref ka, .ref kc, .ref kl, .ref kn], oC kc 2 [.ref kcn, .int (nI 10), .int (nI nc)], oC kl 2 [.ref kln, .int (nI 6), .int (nI nl)], oC kv 4 [.ref km, .ref kg, .int (nI vw), .int (nI vh), .int (nI 1)]] H := hP
      replace hD : va_D (va_A (w_X5_cut G kx kim kit kre ksh kwa kta kv tf rf kb ka kc kl kn w h la kcn nc kln nl km kg vw vh sl) ss.heap.size) [oC kx 5 [.ref kb, .ref kim, .ref kit, .ref kv, .ref kre, .int tf, .ref ksh, .int rf, .ref kwa, .ref kta], oC kb 0 [.int (nI w), .int (nI h), .int (nI la), .ref ka, .ref kc, .ref kl, .ref kn], oC kc 2 [.ref kcn, .int (nI 10), .int (nI nc)], oC kl 2 [.ref kln, .int (nI 6), .int (nI nl)], oC kv 4 [.ref km, .ref kg, .int (nI vw), .int (nI vh), .int (nI 1)]] := hD
      refine lv_aload_n hx hb dX5_cut_39 rfl (lv_at hl 0 rfl) ?_
      refine lv_iload_n hx hb dX5_cut_40 rfl (lv_at hl 3 rfl) ?_
      refine xw_i (As := [.int v]) (rest := []) (wr := [oC kx 5 [.ref kb, .ref kim, .ref kit, .ref kv, .ref kre, .int tf, .ref ksh, .int rf, .ref kwa, .ref kta], oC kb 0 [.int (nI w), .int (nI h), .int (nI la), .ref ka, .ref kc, .ref kl, .ref kn], oC kc 2 [.ref kcn, .int (nI 10), .int (nI nc)], oC kv 4 [.ref km, .ref kg, .int (nI vw), .int (nI vh), .int (nI 1)]]) ⟨hx, hb, hml, hown, hts⟩ (c_X2_shorten l G H.size kl kln 6 nl v (by first | assumption | omega)) (cwV 1 hts gX5_cut_X2_shorten rfl rfl rfl (by decide +kernel) ⟨Nat.le_of_ble_eq_true rfl, Nat.le_of_ble_eq_true rfl⟩) hK hP hD hS hA [3] [0, 1, 2, 4] rfl rfl (by decide) (by decide) (by decide) rfl rfl rfl hl.1 rfl (Nat.le_of_ble_eq_true rfl) dX5_cut_41 ⟨Nat.le_of_ble_eq_true rfl, Nat.le_of_ble_eq_true rfl⟩ (fun r41 u H locs hp41 hP hD hS => ?_)
      obtain ⟨u0_41, rfl⟩ : ∃ z, z = u := ⟨_, rfl⟩
      try dsimp only at hp41 hP hD
      obtain ⟨rfl, rfl⟩ := hp41
      replace hP : xP G [oC kx 5 [.ref kb, .ref kim, .ref kit, .ref kv, .ref kre, .int tf, .ref ksh, .int rf, .ref kwa, .ref kta], oC kb 0 [.int (nI w), .int (nI h), .int (nI la), .ref ka, .ref kc, .ref kl, .ref kn], oC kc 2 [.ref kcn, .int (nI 10), .int (nI nc)], oC kv 4 [.ref km, .ref kg, .int (nI vw), .int (nI vh), .int (nI 1)], oC kl 2 [.ref kln, .int (nI 6), .int (nI (if inR v (nl + 1) then v.toInt.toNat else nl))]] H := hP
      replace hD : va_D (va_A (w_X5_cut G kx kim kit kre ksh kwa kta kv tf rf kb ka kc kl kn w h la kcn nc kln nl km kg vw vh sl) ss.heap.size) [oC kx 5 [.ref kb, .ref kim, .ref kit, .ref kv, .ref kre, .int tf, .ref ksh, .int rf, .ref kwa, .ref kta], oC kb 0 [.int (nI w), .int (nI h), .int (nI la), .ref ka, .ref kc, .ref kl, .ref kn], oC kc 2 [.ref kcn, .int (nI 10), .int (nI nc)], oC kv 4 [.ref km, .ref kg, .int (nI vw), .int (nI vh), .int (nI 1)], oC kl 2 [.ref kln, .int (nI 6), .int (nI (if inR v (nl + 1) then v.toInt.toNat else nl))]] := hD
      have hP := hP.sub (ws' := [oC kx 5 [.ref kb, .ref kim, .ref kit, .ref kv, .ref kre, .int tf, .ref ksh, .int rf, .ref kwa, .ref kta], oC kb 0 [.int (nI w), .int (nI h), .int (nI la), .ref ka, .ref kc, .ref kl, .ref kn], oC kc 2 [.ref kcn, .int (nI 10), .int (nI nc)], oC kl 2 [.ref kln, .int (nI 6), .int (nI (if inR v (nl + 1) then v.toInt.toNat else nl))], oC kv 4 [.ref km, .ref kg, .int (nI vw), .int (nI vh), .int (nI 1)]]) [0, 1, 2, 4, 3] rfl
      have hD := hD.sub (ws' := [oC kx 5 [.ref kb, .ref kim, .ref kit, .ref kv, .ref kre, .int tf, .ref ksh, .int rf, .ref kwa, .ref kta], oC kb 0 [.int (nI w), .int (nI h), .int (nI la), .ref ka, .ref kc, .ref kl, .ref kn], oC kc 2 [.ref kcn, .int (nI 10), .int (nI nc)], oC kl 2 [.ref kln, .int (nI 6), .int (nI (if inR v (nl + 1) then v.toInt.toNat else nl))], oC kv 4 [.ref km, .ref kg, .int (nI vw), .int (nI vh), .int (nI 1)]]) [0, 1, 2, 4, 3] (by decide) rfl
      refine W.iret (v := (if inR v (nl + 1) then nI nl else (-1))) hx hb hr (fun t ht hW => ⟨⟨(if inR v (nl + 1) then nI nl else (-1)), (nc, (if inR v (nl + 1) then v.toInt.toNat else nl), nI 1), rfl, ?_, by rw [ht]; exact hP, hD⟩, hS.F ht⟩) hS.2.2 dX5_cut_44
      try dsimp only
      first | (rw [if_neg (fun q => b4 (inR_2.mpr (Or.inl q))), if_neg (fun q => b4 (inR_2.mpr (Or.inr q))), if_neg (fun q => b4 (inR_2.mpr (Or.inl q))), if_neg (fun q => b4 (inR_2.mpr (Or.inr q))), if_neg b4]; exact ⟨rfl, rfl, rfl, rfl⟩) | (subst b10; exact ⟨rfl, rfl, rfl, rfl⟩) | (obtain rfl : a = nI 1 := (inR_2.mp b4).resolve_left b10; exact ⟨rfl, rfl, rfl, rfl⟩)
    · skip
      refine lv_aload_n hx hb dX5_cut_13 rfl (lv_at hl 0 rfl) ?_
      refine va_get (D := G.1) (ci := 5) (v := .ref kb) (C := RX5) (T := TX5) (N := 10) hx hb hts hin5 hown hK.1 hP 0 rfl rfl 0 (by decide) (hts (.fieldLink RX5 10 "BackLenses" "book" "LBackLenses$Book;") (List.mem_of_getElem? (i := 1) rfl)) (fun _ h9 => h9) rfl dX5_cut_14 ?_
      refine va_getN (D := G.1) (ci := 0) (v := .ref kc) (C := RX0) (T := TX0) (N := 7) hx hb hts hin0 hown hK.1 hP 1 rfl rfl 4 (by decide) (va_Nw.use rfl (hK.2 (Cond.fieldLinkNest "BackLenses" (93 : Nat) "BackLenses$Book" "changes" "LBackLenses$Rows;" "BackLenses") (List.mem_of_getElem? (i := 18) rfl))) (fun _ h9 => h9) rfl dX5_cut_17 ?_
      refine lv_goto (tgt := 30) hx hb dX5_cut_20 rfl ?_
      refine lv_astore_n (lv' := [(3, .ref kc), (0, .ref kx), (1, .int a), (2, .int v)]) hx hb dX5_cut_30 rfl hl (by decide) rfl (fun ls hl => ?_)
      refine lv_aload_n hx hb dX5_cut_31 rfl (lv_at hl 1 rfl) ?_
      refine va_get (D := G.1) (ci := 5) (v := .ref kv) (C := RX5) (T := TX5) (N := 10) hx hb hts hin5 hown hK.1 hP 0 rfl rfl 3 (by decide) (hts (.fieldLink RX5 27 "BackLenses" "views" "LBackLenses$Views;") (List.mem_of_getElem? (i := 2) rfl)) (fun _ h9 => h9) rfl dX5_cut_32 ?_
      refine lv_iconst (v := nI 1) hx hb dX5_cut_35 (by decide) ?_
      refine va_putN (D := G.1) (ci := 4) (v := .int (nI 1)) (ty := .boolean) (C := RX4) (T := TX4) (N := 5) hx hb hts hin4 tyX4 tyX4_ok nmX4 hown hK.1 hP hD hS 4 rfl rfl 4 (by decide) (va_Nw.use rfl (hK.2 (Cond.fieldLinkNest "BackLenses" (77 : Nat) "BackLenses$Views" "stale" "Z" "BackLenses") (List.mem_of_getElem? (i := 22) rfl))) (fun _ h9 => h9) rfl (by decide +kernel) (by decide) (by decide) (Nat.le_of_ble_eq_true rfl) dX5_cut_36 (fun H locs hP hD hS => ?_)
      replace hP : xP G [oC kx 5 [.ref kb, .ref kim, .ref kit, .ref kv, .ref kre, .int tf, .ref ksh, .int rf, .ref kwa, .ref kta], oC kb 0 [.int (nI w), .int (nI h), .int (nI la), .ref ka, .ref kc, .ref kl, .ref kn], oC kc 2 [.ref kcn, .int (nI 10), .int (nI nc)], oC kl 2 [.ref kln, .int (nI 6), .int (nI nl)], oC kv 4 [.ref km, .ref kg, .int (nI vw), .int (nI vh), .int (nI 1)]] H := hP
      replace hD : va_D (va_A (w_X5_cut G kx kim kit kre ksh kwa kta kv tf rf kb ka kc kl kn w h la kcn nc kln nl km kg vw vh sl) ss.heap.size) [oC kx 5 [.ref kb, .ref kim, .ref kit, .ref kv, .ref kre, .int tf, .ref ksh, .int rf, .ref kwa, .ref kta], oC kb 0 [.int (nI w), .int (nI h), .int (nI la), .ref ka, .ref kc, .ref kl, .ref kn], oC kc 2 [.ref kcn, .int (nI 10), .int (nI nc)], oC kl 2 [.ref kln, .int (nI 6), .int (nI nl)], oC kv 4 [.ref km, .ref kg, .int (nI vw), .int (nI vh), .int (nI 1)]] := hD
      refine lv_aload_n hx hb dX5_cut_39 rfl (lv_at hl 0 rfl) ?_
      refine lv_iload_n hx hb dX5_cut_40 rfl (lv_at hl 3 rfl) ?_
      refine xw_i (As := [.int v]) (rest := []) (wr := [oC kx 5 [.ref kb, .ref kim, .ref kit, .ref kv, .ref kre, .int tf, .ref ksh, .int rf, .ref kwa, .ref kta], oC kb 0 [.int (nI w), .int (nI h), .int (nI la), .ref ka, .ref kc, .ref kl, .ref kn], oC kl 2 [.ref kln, .int (nI 6), .int (nI nl)], oC kv 4 [.ref km, .ref kg, .int (nI vw), .int (nI vh), .int (nI 1)]]) ⟨hx, hb, hml, hown, hts⟩ (c_X2_shorten l G H.size kc kcn 10 nc v (by first | assumption | omega)) (cwV 1 hts gX5_cut_X2_shorten rfl rfl rfl (by decide +kernel) ⟨Nat.le_of_ble_eq_true rfl, Nat.le_of_ble_eq_true rfl⟩) hK hP hD hS hA [2] [0, 1, 3, 4] rfl rfl (by decide) (by decide) (by decide) rfl rfl rfl hl.1 rfl (Nat.le_of_ble_eq_true rfl) dX5_cut_41 ⟨Nat.le_of_ble_eq_true rfl, Nat.le_of_ble_eq_true rfl⟩ (fun r41 u H locs hp41 hP hD hS => ?_)
      obtain ⟨u0_41, rfl⟩ : ∃ z, z = u := ⟨_, rfl⟩
      try dsimp only at hp41 hP hD
      obtain ⟨rfl, rfl⟩ := hp41
      replace hP : xP G [oC kx 5 [.ref kb, .ref kim, .ref kit, .ref kv, .ref kre, .int tf, .ref ksh, .int rf, .ref kwa, .ref kta], oC kb 0 [.int (nI w), .int (nI h), .int (nI la), .ref ka, .ref kc, .ref kl, .ref kn], oC kl 2 [.ref kln, .int (nI 6), .int (nI nl)], oC kv 4 [.ref km, .ref kg, .int (nI vw), .int (nI vh), .int (nI 1)], oC kc 2 [.ref kcn, .int (nI 10), .int (nI (if inR v (nc + 1) then v.toInt.toNat else nc))]] H := hP
      replace hD : va_D (va_A (w_X5_cut G kx kim kit kre ksh kwa kta kv tf rf kb ka kc kl kn w h la kcn nc kln nl km kg vw vh sl) ss.heap.size) [oC kx 5 [.ref kb, .ref kim, .ref kit, .ref kv, .ref kre, .int tf, .ref ksh, .int rf, .ref kwa, .ref kta], oC kb 0 [.int (nI w), .int (nI h), .int (nI la), .ref ka, .ref kc, .ref kl, .ref kn], oC kl 2 [.ref kln, .int (nI 6), .int (nI nl)], oC kv 4 [.ref km, .ref kg, .int (nI vw), .int (nI vh), .int (nI 1)], oC kc 2 [.ref kcn, .int (nI 10), .int (nI (if inR v (nc + 1) then v.toInt.toNat else nc))]] := hD
      have hP := hP.sub (ws' := [oC kx 5 [.ref kb, .ref kim, .ref kit, .ref kv, .ref kre, .int tf, .ref ksh, .int rf, .ref kwa, .ref kta], oC kb 0 [.int (nI w), .int (nI h), .int (nI la), .ref ka, .ref kc, .ref kl, .ref kn], oC kc 2 [.ref kcn, .int (nI 10), .int (nI (if inR v (nc + 1) then v.toInt.toNat else nc))], oC kl 2 [.ref kln, .int (nI 6), .int (nI nl)], oC kv 4 [.ref km, .ref kg, .int (nI vw), .int (nI vh), .int (nI 1)]]) [0, 1, 4, 2, 3] rfl
      have hD := hD.sub (ws' := [oC kx 5 [.ref kb, .ref kim, .ref kit, .ref kv, .ref kre, .int tf, .ref ksh, .int rf, .ref kwa, .ref kta], oC kb 0 [.int (nI w), .int (nI h), .int (nI la), .ref ka, .ref kc, .ref kl, .ref kn], oC kc 2 [.ref kcn, .int (nI 10), .int (nI (if inR v (nc + 1) then v.toInt.toNat else nc))], oC kl 2 [.ref kln, .int (nI 6), .int (nI nl)], oC kv 4 [.ref km, .ref kg, .int (nI vw), .int (nI vh), .int (nI 1)]]) [0, 1, 4, 2, 3] (by decide) rfl
      refine W.iret (v := (if inR v (nc + 1) then nI nc else (-1))) hx hb hr (fun t ht hW => ⟨⟨(if inR v (nc + 1) then nI nc else (-1)), ((if inR v (nc + 1) then v.toInt.toNat else nc), nl, nI 1), rfl, ?_, by rw [ht]; exact hP, hD⟩, hS.F ht⟩) hS.2.2 dX5_cut_44
      try dsimp only
      first | (rw [if_neg (fun q => b4 (inR_2.mpr (Or.inl q))), if_neg (fun q => b4 (inR_2.mpr (Or.inr q))), if_neg (fun q => b4 (inR_2.mpr (Or.inl q))), if_neg (fun q => b4 (inR_2.mpr (Or.inr q))), if_neg b4]; exact ⟨rfl, rfl, rfl, rfl⟩) | (subst b10; exact ⟨rfl, rfl, rfl, rfl⟩) | (obtain rfl : a = nI 1 := (inR_2.mp b4).resolve_left b10; exact ⟨rfl, rfl, rfl, rfl⟩)
  · skip
    refine lv_iconst (v := (-1)) hx hb dX5_cut_7 (by decide) ?_
    have hP := hP.sub (ws' := [oC kx 5 [.ref kb, .ref kim, .ref kit, .ref kv, .ref kre, .int tf, .ref ksh, .int rf, .ref kwa, .ref kta], oC kb 0 [.int (nI w), .int (nI h), .int (nI la), .ref ka, .ref kc, .ref kl, .ref kn], oC kc 2 [.ref kcn, .int (nI 10), .int (nI nc)], oC kl 2 [.ref kln, .int (nI 6), .int (nI nl)], oC kv 4 [.ref km, .ref kg, .int (nI vw), .int (nI vh), .int sl]]) [0, 1, 2, 3, 4] rfl
    have hD := hD.sub (ws' := [oC kx 5 [.ref kb, .ref kim, .ref kit, .ref kv, .ref kre, .int tf, .ref ksh, .int rf, .ref kwa, .ref kta], oC kb 0 [.int (nI w), .int (nI h), .int (nI la), .ref ka, .ref kc, .ref kl, .ref kn], oC kc 2 [.ref kcn, .int (nI 10), .int (nI nc)], oC kl 2 [.ref kln, .int (nI 6), .int (nI nl)], oC kv 4 [.ref km, .ref kg, .int (nI vw), .int (nI vh), .int sl]]) [0, 1, 2, 3, 4] (by decide) rfl
    refine W.iret (v := (-1)) hx hb hr (fun t ht hW => ⟨⟨(-1), (nc, nl, sl), rfl, ?_, by rw [ht]; exact hP, hD⟩, hS.F ht⟩) hS.2.2 dX5_cut_8
    try dsimp only
    first | (rw [if_neg (fun q => b4 (inR_2.mpr (Or.inl q))), if_neg (fun q => b4 (inR_2.mpr (Or.inr q))), if_neg (fun q => b4 (inR_2.mpr (Or.inl q))), if_neg (fun q => b4 (inR_2.mpr (Or.inr q))), if_neg b4]; exact ⟨rfl, rfl, rfl, rfl⟩) | (subst b10; exact ⟨rfl, rfl, rfl, rfl⟩) | (obtain rfl : a = nI 1 := (inR_2.mp b4).resolve_left b10; exact ⟨rfl, rfl, rfl, rfl⟩)
end
section
abbrev w_X5_shownBy (G : XG) (kx kim kit kre ksh kwa kta : Nat) (tf rf : Int32) (kb ka kc kcn kl kn : Nat) (w h la : Nat) (af : Nat → Int32) (nc : Nat) (fc : Nat → Int32) (kv km kg : Nat) (vw vh : Nat) (sl : Int32) (mk sg : Nat → Int32) (kln : Nat) (nl : Nat) (fl : Nat → Int32) : va_W := [oC kx 5 [.ref kb, .ref kim, .ref kit, .ref kv, .ref kre, .int tf, .ref ksh, .int rf, .ref kwa, .ref kta], oC kb 0 [.int (nI w), .int (nI h), .int (nI la), .ref ka, .ref kc, .ref kl, .ref kn], iA G ka 16 af, oC kc 2 [.ref kcn, .int (nI 10), .int (nI nc)], iA G kcn (3 * 10) fc, oC kv 4 [.ref km, .ref kg, .int (nI vw), .int (nI vh), .int sl], iA G km 176 mk, iA G kg 160 sg, oC kl 2 [.ref kln, .int (nI 6), .int (nI nl)], iA G kln (3 * 6) fl]
abbrev Q_X5_shownBy (G : XG) (sz : Nat) (kx kim kit kre ksh kwa kta : Nat) (tf rf : Int32) (kb ka kc kcn kl kn : Nat) (w h la : Nat) (af : Nat → Int32) (nc : Nat) (fc : Nat → Int32) (kv km kg : Nat) (vw vh : Nat) (sl : Int32) (mk sg : Nat → Int32) (kln : Nat) (nl : Nat) (fl : Nat → Int32) (l1 x : Nat) : Array Value → State → Outcome → State → Prop := (va_Qi (fun (r : Int32) (u : (Nat → Int32) × (Nat → Int32) × Nat × Nat × Int32) => r = shS w h af nc fc fl l1 x ∧ VOK w h la af nc fc u.1 u.2.1 u.2.2.1 u.2.2.2.1 u.2.2.2.2) (xWb G sz (w_X5_shownBy G kx kim kit kre ksh kwa kta tf rf kb ka kc kcn kl kn w h la af nc fc kv km kg vw vh sl mk sg kln nl fl) (fun u : (Nat → Int32) × (Nat → Int32) × Nat × Nat × Int32 => [oC kx 5 [.ref kb, .ref kim, .ref kit, .ref kv, .ref kre, .int tf, .ref ksh, .int rf, .ref kwa, .ref kta], oC kb 0 [.int (nI w), .int (nI h), .int (nI la), .ref ka, .ref kc, .ref kl, .ref kn], iA G ka 16 af, oC kc 2 [.ref kcn, .int (nI 10), .int (nI nc)], iA G kcn (3 * 10) fc, oC kv 4 [.ref km, .ref kg, .int (nI u.2.2.1), .int (nI u.2.2.2.1), .int u.2.2.2.2], iA G km 176 u.1, iA G kg 160 u.2.1, oC kl 2 [.ref kln, .int (nI 6), .int (nI nl)], iA G kln (3 * 6) fl])) (va_A (w_X5_shownBy G kx kim kit kre ksh kwa kta tf rf kb ka kc kcn kl kn w h la af nc fc kv km kg vw vh sl mk sg kln nl fl) sz))
set_option maxHeartbeats 4000000 in
set_option maxRecDepth 100000 in
theorem c_X5_shownBy (l : Launch) (G : XG) (sz : Nat) (kx kim kit kre ksh kwa kta : Nat) (tf rf : Int32) (kb ka kc kcn kl kn : Nat) (w h la : Nat) (af : Nat → Int32) (nc : Nat) (fc : Nat → Int32) (kv km kg : Nat) (vw vh : Nat) (sl : Int32) (mk sg : Nat → Int32) (kln : Nat) (nl : Nat) (fl : Nat → Int32) (l1 x : Nat) (hw : 1 ≤ w) (hwb : w ≤ 16) (hhb : h ≤ 16) (hwh : w * h ≤ 16) (hla : la ≤ 9) (hnc : nc ≤ 10) (hcell : ∀ i, i < nc → inR (fc (3 * i + 1)) 16) (hvok : VOK w h la af nc fc mk sg vw vh sl) (hnl : nl ≤ 6) (hlens : ∀ i, i < nl → inR (fl (3 * i)) (la + 1)) (hl1 : l1 < nl) (hxx : x < w * h) : Met l yX5_shownBy wsX5_shownBy ({ frames := 4, cells := 0, slots := 0, locals := 96 } : Room) (va_Pc [.ref kx, .int (nI l1), .int (nI x)] (xWp G sz (w_X5_shownBy G kx kim kit kre ksh kwa kta tf rf kb ka kc kcn kl kn w h la af nc fc kv km kg vw vh sl mk sg kln nl fl))) (Q_X5_shownBy G sz kx kim kit kre ksh kwa kta tf rf kb ka kc kcn kl kn w h la af nc fc kv km kg vw vh sl mk sg kln nl fl l1 x) 0 0 (va_A (w_X5_shownBy G kx kim kit kre ksh kwa kta tf rf kb ka kc kcn kl kn w h la af nc fc kv km kg vw vh sl mk sg kln nl fl) sz) := by
  refine Met.ofW (cc := cX5_shownBy) (maxL := 3) (ret := (some .int)) (by decide) rfl ?_
  intro pp ee ss mm aa below mt cd s₁ BB hml hv
  obtain ⟨rfl, hsz, hP, hK, hD0⟩ := hv
  have hx := BB.exec
  have hb := BB.bytes
  have hr := BB.returns
  have hts := atoms_spec (ws := wsX5_shownBy) BB.pre
  have hown : ss.vm.findClass RX5 = some mm.cls := findClass_of_methodNamed BB.named
  have hlocks := BB.notSynchronized
  subst hsz
  have hD := hD0.self (sz := ss.heap.size)
  have hA : ∀ q : Nat, ss.heap.size ≤ q → va_A (w_X5_shownBy G kx kim kit kre ksh kwa kta tf rf kb ka kc kcn kl kn w h la af nc fc kv km kg vw vh sl mk sg kln nl fl) ss.heap.size q := fun q h => Or.inr h
  have hS : va_S (va_A (w_X5_shownBy G kx kim kit kre ksh kwa kta tf rf kb ka kc kcn kl kn w h la af nc fc kv km kg vw vh sl mk sg kln nl fl) ss.heap.size) ss.heap ss.heap [] := va_S.rf
  replace hD : va_D (va_A (w_X5_shownBy G kx kim kit kre ksh kwa kta tf rf kb ka kc kcn kl kn w h la af nc fc kv km kg vw vh sl mk sg kln nl fl) ss.heap.size) [oC kx 5 [.ref kb, .ref kim, .ref kit, .ref kv, .ref kre, .int tf, .ref ksh, .int rf, .ref kwa, .ref kta], oC kb 0 [.int (nI w), .int (nI h), .int (nI la), .ref ka, .ref kc, .ref kl, .ref kn], iA G ka 16 af, oC kc 2 [.ref kcn, .int (nI 10), .int (nI nc)], iA G kcn (3 * 10) fc, oC kv 4 [.ref km, .ref kg, .int (nI vw), .int (nI vh), .int sl], iA G km 176 mk, iA G kg 160 sg, oC kl 2 [.ref kln, .int (nI 6), .int (nI nl)], iA G kln (3 * 6) fl] := hD
  replace hP : xP G [oC kx 5 [.ref kb, .ref kim, .ref kit, .ref kv, .ref kre, .int tf, .ref ksh, .int rf, .ref kwa, .ref kta], oC kb 0 [.int (nI w), .int (nI h), .int (nI la), .ref ka, .ref kc, .ref kl, .ref kn], iA G ka 16 af, oC kc 2 [.ref kcn, .int (nI 10), .int (nI nc)], iA G kcn (3 * 10) fc, oC kv 4 [.ref km, .ref kg, .int (nI vw), .int (nI vh), .int sl], iA G km 176 mk, iA G kg 160 sg, oC kl 2 [.ref kln, .int (nI 6), .int (nI nl)], iA G kln (3 * 6) fl] ss.heap := hP
  have hin0 : ∀ w ∈ u_ws RX0 TX0 7, w ∈ wsX5_shownBy := fun w h => List.mem_cons_of_mem _ (List.mem_append_left _ (List.mem_append_left _ (List.mem_append_right _ h)))
  have hin2 : ∀ w ∈ u_ws RX2 TX2 3, w ∈ wsX5_shownBy := fun w h => List.mem_cons_of_mem _ (List.mem_append_right _ h)
  have hin4 : ∀ w ∈ u_ws RX4 TX4 5, w ∈ wsX5_shownBy := fun w h => List.mem_cons_of_mem _ (List.mem_append_left _ (List.mem_append_right _ h))
  have hin5 : ∀ w ∈ u_ws RX5 TX5 10, w ∈ wsX5_shownBy := fun w h => List.mem_cons_of_mem _ (List.mem_append_left _ (List.mem_append_left _ (List.mem_append_left _ (List.mem_append_right _ h))))
  have hl := lv_entry ([.ref kx, .int (nI l1), .int (nI x)]) (n := 3) (Nat.le_of_ble_eq_true rfl)
  rw [lg_entry_eq]
  generalize (lg_sl ([.ref kx, .int (nI l1), .int (nI x)]) ++ List.replicate (3 - (lg_sl ([.ref kx, .int (nI l1), .int (nI x)])).length) Slot.unset).toArray = ls at hl ⊢
  replace hl : lv_has ls 3 [(0, .ref kx), (1, .int (nI l1)), (2, .int (nI x))] := hl
  refine lv_aload_n hx hb dX5_shownBy_0 rfl (lv_at hl 0 rfl) ?_
  refine xw_r (As := []) (rest := []) (wr := [oC kl 2 [.ref kln, .int (nI 6), .int (nI nl)], iA G kln (3 * 6) fl]) ⟨hx, hb, hml, hown, hts⟩ (c_X5_freshViews l G ss.heap.size kx kim kit kre ksh kwa kta tf rf kb ka kc kcn kl kn w h la af nc fc kv km kg vw vh sl mk sg (by first | assumption | omega) (by first | assumption | omega) (by first | assumption | omega) (by first | assumption | omega) (by first | assumption | omega) (by first | assumption | omega) (by first | assumption | omega) (by first | assumption | omega)) (cwV 0 hts gX5_shownBy_X5_freshViews rfl rfl rfl (by decide +kernel) ⟨Nat.le_of_ble_eq_true rfl, Nat.le_of_ble_eq_true rfl⟩) hK hP hD hS hA [0, 1, 2, 3, 4, 5, 6, 7] [8, 9] rfl rfl (by decide) (by decide) (by decide) rfl rfl rfl hl.1 rfl (Nat.le_of_ble_eq_true rfl) dX5_shownBy_1 ⟨Nat.le_of_ble_eq_true rfl, Nat.le_of_ble_eq_true rfl⟩ (fun u H locs hp1 hP hD hS => ?_)
  obtain ⟨mk2_1, sg2_1⟩ := u
  try dsimp only at hp1 hP hD
  have he1 := hp1
  replace hP : xP G [oC kl 2 [.ref kln, .int (nI 6), .int (nI nl)], iA G kln (3 * 6) fl, oC kx 5 [.ref kb, .ref kim, .ref kit, .ref kv, .ref kre, .int tf, .ref ksh, .int rf, .ref kwa, .ref kta], oC kb 0 [.int (nI w), .int (nI h), .int (nI la), .ref ka, .ref kc, .ref kl, .ref kn], iA G ka 16 af, oC kc 2 [.ref kcn, .int (nI 10), .int (nI nc)], iA G kcn (3 * 10) fc, oC kv 4 [.ref km, .ref kg, .int (nI w), .int (nI h), .int (nI 0)], iA G km 176 mk2_1, iA G kg 160 sg2_1] H := hP
  replace hD : va_D (va_A (w_X5_shownBy G kx kim kit kre ksh kwa kta tf rf kb ka kc kcn kl kn w h la af nc fc kv km kg vw vh sl mk sg kln nl fl) ss.heap.size) [oC kl 2 [.ref kln, .int (nI 6), .int (nI nl)], iA G kln (3 * 6) fl, oC kx 5 [.ref kb, .ref kim, .ref kit, .ref kv, .ref kre, .int tf, .ref ksh, .int rf, .ref kwa, .ref kta], oC kb 0 [.int (nI w), .int (nI h), .int (nI la), .ref ka, .ref kc, .ref kl, .ref kn], iA G ka 16 af, oC kc 2 [.ref kcn, .int (nI 10), .int (nI nc)], iA G kcn (3 * 10) fc, oC kv 4 [.ref km, .ref kg, .int (nI w), .int (nI h), .int (nI 0)], iA G km 176 mk2_1, iA G kg 160 sg2_1] := hD
  refine lv_iload_n hx hb dX5_shownBy_4 rfl (lv_at hl 2 rfl) ?_
  refine lv_aload_n hx hb dX5_shownBy_5 rfl (lv_at hl 0 rfl) ?_
  refine va_get (D := G.1) (ci := 5) (v := .ref kb) (C := RX5) (T := TX5) (N := 10) hx hb hts hin5 hown hK.1 hP 2 rfl rfl 0 (by decide) (hts (.fieldLink RX5 10 "BackLenses" "book" "LBackLenses$Book;") (List.mem_of_getElem? (i := 1) rfl)) (fun _ h9 => h9) rfl dX5_shownBy_6 ?_
  refine va_getN (D := G.1) (ci := 0) (v := .ref kl) (C := RX0) (T := TX0) (N := 7) hx hb hts hin0 hown hK.1 hP 3 rfl rfl 5 (by decide) (va_Nw.use rfl (hK.2 (Cond.fieldLinkNest "BackLenses" (102 : Nat) "BackLenses$Book" "lenses" "LBackLenses$Rows;" "BackLenses") (List.mem_of_getElem? (i := 20) rfl))) (fun _ h9 => h9) rfl dX5_shownBy_9 ?_
  refine lv_iload_n hx hb dX5_shownBy_12 rfl (lv_at hl 1 rfl) ?_
  refine lv_iconst (v := nI 0) hx hb dX5_shownBy_13 (by decide) ?_
  refine xr_i (As := [.int (nI l1), .int (nI 0)]) (rest := [.int (nI x), .ref kv]) ⟨hx, hb, hml, hown, hts⟩ (c_X2_number l G kl kln 6 nl fl l1 0 (by first | assumption | omega) (by first | assumption | omega)) (cwV 2 hts gX5_shownBy_X2_number rfl rfl rfl (by decide +kernel) ⟨Nat.le_of_ble_eq_true rfl, Nat.le_of_ble_eq_true rfl⟩) hK hP hS [0, 1] rfl rfl rfl rfl hl.1 rfl (Nat.le_of_ble_eq_true rfl) dX5_shownBy_14 ⟨Nat.zero_le _, Nat.zero_le _⟩ (fun r14 H locs hp14 hP hS => ?_)
  obtain rfl : r14 = fl (3 * l1 + 0) := hp14
  obtain ⟨d0, hd0, ed0⟩ := inR_nat (hlens l1 (by omega))
  refine xn_top ed0 ?_
  refine xr_i (As := [.int (nI x), .int (nI d0)]) (rest := []) ⟨hx, hb, hml, hown, hts⟩ (c_X4_sightOf l G kv km kg w h (nI 0) sg2_1 x d0 (by first | assumption | omega)) (cwV 2 hts gX5_shownBy_X4_sightOf rfl rfl rfl (by decide +kernel) ⟨Nat.le_of_ble_eq_true rfl, Nat.le_of_ble_eq_true rfl⟩) hK hP hS [7, 9] rfl rfl rfl rfl hl.1 rfl (Nat.le_of_ble_eq_true rfl) dX5_shownBy_17 ⟨Nat.zero_le _, Nat.zero_le _⟩ (fun r17 H locs hp17 hP hS => ?_)
  obtain rfl : r17 = sg2_1 (d0 * 16 + x) := hp17
  refine lv_aload_n hx hb dX5_shownBy_20 rfl (lv_at hl 0 rfl) ?_
  refine va_get (D := G.1) (ci := 5) (v := .ref kb) (C := RX5) (T := TX5) (N := 10) hx hb hts hin5 hown hK.1 hP 2 rfl rfl 0 (by decide) (hts (.fieldLink RX5 10 "BackLenses" "book" "LBackLenses$Book;") (List.mem_of_getElem? (i := 1) rfl)) (fun _ h9 => h9) rfl dX5_shownBy_21 ?_
  refine va_getN (D := G.1) (ci := 0) (v := .ref kl) (C := RX0) (T := TX0) (N := 7) hx hb hts hin0 hown hK.1 hP 3 rfl rfl 5 (by decide) (va_Nw.use rfl (hK.2 (Cond.fieldLinkNest "BackLenses" (102 : Nat) "BackLenses$Book" "lenses" "LBackLenses$Rows;" "BackLenses") (List.mem_of_getElem? (i := 20) rfl))) (fun _ h9 => h9) rfl dX5_shownBy_24 ?_
  refine lv_iload_n hx hb dX5_shownBy_27 rfl (lv_at hl 1 rfl) ?_
  refine lv_iconst (v := nI 1) hx hb dX5_shownBy_28 (by decide) ?_
  refine xr_i (As := [.int (nI l1), .int (nI 1)]) (rest := [.int (sg2_1 (d0 * 16 + x))]) ⟨hx, hb, hml, hown, hts⟩ (c_X2_number l G kl kln 6 nl fl l1 1 (by first | assumption | omega) (by first | assumption | omega)) (cwV 2 hts gX5_shownBy_X2_number rfl rfl rfl (by decide +kernel) ⟨Nat.le_of_ble_eq_true rfl, Nat.le_of_ble_eq_true rfl⟩) hK hP hS [0, 1] rfl rfl rfl rfl hl.1 rfl (Nat.le_of_ble_eq_true rfl) dX5_shownBy_29 ⟨Nat.zero_le _, Nat.zero_le _⟩ (fun r29 H locs hp29 hP hS => ?_)
  obtain rfl : r29 = fl (3 * l1 + 1) := hp29
  refine lv_iconst (v := (-1)) hx hb dX5_shownBy_32 (by decide) ?_
  refine lv_ixor hx hb dX5_shownBy_33 ?_
  refine lv_iand hx hb dX5_shownBy_34 ?_
  have hP := hP.sub (ws' := [oC kx 5 [.ref kb, .ref kim, .ref kit, .ref kv, .ref kre, .int tf, .ref ksh, .int rf, .ref kwa, .ref kta], oC kb 0 [.int (nI w), .int (nI h), .int (nI la), .ref ka, .ref kc, .ref kl, .ref kn], iA G ka 16 af, oC kc 2 [.ref kcn, .int (nI 10), .int (nI nc)], iA G kcn (3 * 10) fc, oC kv 4 [.ref km, .ref kg, .int (nI w), .int (nI h), .int (nI 0)], iA G km 176 mk2_1, iA G kg 160 sg2_1, oC kl 2 [.ref kln, .int (nI 6), .int (nI nl)], iA G kln (3 * 6) fl]) [2, 3, 4, 5, 6, 7, 8, 9, 0, 1] rfl
  have hD := hD.sub (ws' := [oC kx 5 [.ref kb, .ref kim, .ref kit, .ref kv, .ref kre, .int tf, .ref ksh, .int rf, .ref kwa, .ref kta], oC kb 0 [.int (nI w), .int (nI h), .int (nI la), .ref ka, .ref kc, .ref kl, .ref kn], iA G ka 16 af, oC kc 2 [.ref kcn, .int (nI 10), .int (nI nc)], iA G kcn (3 * 10) fc, oC kv 4 [.ref km, .ref kg, .int (nI w), .int (nI h), .int (nI 0)], iA G km 176 mk2_1, iA G kg 160 sg2_1, oC kl 2 [.ref kln, .int (nI 6), .int (nI nl)], iA G kln (3 * 6) fl]) [2, 3, 4, 5, 6, 7, 8, 9, 0, 1] (by decide) rfl
  refine W.iret (v := (sg2_1 (d0 * 16 + x)) &&& ((fl (3 * l1 + 1)) ^^^ (-1))) hx hb hr (fun t ht hW => ⟨⟨(sg2_1 (d0 * 16 + x)) &&& ((fl (3 * l1 + 1)) ^^^ (-1)), (mk2_1, sg2_1, w, h, nI 0), rfl, ?_, by rw [ht]; exact hP, hD⟩, hS.F ht⟩) hS.2.2 dX5_shownBy_35
  try dsimp only
  refine ⟨?_, VOK_fr he1⟩; rw [(he1 d0 (by omega)).2 x (by omega)]; unfold shS; rw [ed0, tn_nI (by omega)]

abbrev w_X5_fitting (G : XG) (kx kim kit kre ksh kwa kta : Nat) (tf rf : Int32) (kb ka kc kcn kl kn : Nat) (w h la : Nat) (af : Nat → Int32) (nc : Nat) (fc : Nat → Int32) (kv km kg : Nat) (vw vh : Nat) (sl : Int32) (mk sg : Nat → Int32) (knn : Nat) (ns : Nat) (fs : Nat → Int32) : va_W := [oC kx 5 [.ref kb, .ref kim, .ref kit, .ref kv, .ref kre, .int tf, .ref ksh, .int rf, .ref kwa, .ref kta], oC kb 0 [.int (nI w), .int (nI h), .int (nI la), .ref ka, .ref kc, .ref kl, .ref kn], iA G ka 16 af, oC kc 2 [.ref kcn, .int (nI 10), .int (nI nc)], iA G kcn (3 * 10) fc, oC kv 4 [.ref km, .ref kg, .int (nI vw), .int (nI vh), .int sl], iA G km 176 mk, iA G kg 160 sg, oC kn 2 [.ref knn, .int (nI 8), .int (nI ns)], iA G knn (3 * 8) fs]
abbrev Q_X5_fitting (G : XG) (sz : Nat) (kx kim kit kre ksh kwa kta : Nat) (tf rf : Int32) (kb ka kc kcn kl kn : Nat) (w h la : Nat) (af : Nat → Int32) (nc : Nat) (fc : Nat → Int32) (kv km kg : Nat) (vw vh : Nat) (sl : Int32) (mk sg : Nat → Int32) (knn : Nat) (ns : Nat) (fs : Nat → Int32) (n : Nat) : Array Value → State → Outcome → State → Prop := (va_Qi (fun (r : Int32) (u : (Nat → Int32) × (Nat → Int32) × Nat × Nat × Int32) => r = fitS w h la af nc fc fs n ∧ VOK w h la af nc fc u.1 u.2.1 u.2.2.1 u.2.2.2.1 u.2.2.2.2) (xWb G sz (w_X5_fitting G kx kim kit kre ksh kwa kta tf rf kb ka kc kcn kl kn w h la af nc fc kv km kg vw vh sl mk sg knn ns fs) (fun u : (Nat → Int32) × (Nat → Int32) × Nat × Nat × Int32 => [oC kx 5 [.ref kb, .ref kim, .ref kit, .ref kv, .ref kre, .int tf, .ref ksh, .int rf, .ref kwa, .ref kta], oC kb 0 [.int (nI w), .int (nI h), .int (nI la), .ref ka, .ref kc, .ref kl, .ref kn], iA G ka 16 af, oC kc 2 [.ref kcn, .int (nI 10), .int (nI nc)], iA G kcn (3 * 10) fc, oC kv 4 [.ref km, .ref kg, .int (nI u.2.2.1), .int (nI u.2.2.2.1), .int u.2.2.2.2], iA G km 176 u.1, iA G kg 160 u.2.1, oC kn 2 [.ref knn, .int (nI 8), .int (nI ns)], iA G knn (3 * 8) fs])) (va_A (w_X5_fitting G kx kim kit kre ksh kwa kta tf rf kb ka kc kcn kl kn w h la af nc fc kv km kg vw vh sl mk sg knn ns fs) sz))
set_option maxHeartbeats 4000000 in
set_option maxRecDepth 100000 in
theorem c_X5_fitting (l : Launch) (G : XG) (sz : Nat) (kx kim kit kre ksh kwa kta : Nat) (tf rf : Int32) (kb ka kc kcn kl kn : Nat) (w h la : Nat) (af : Nat → Int32) (nc : Nat) (fc : Nat → Int32) (kv km kg : Nat) (vw vh : Nat) (sl : Int32) (mk sg : Nat → Int32) (knn : Nat) (ns : Nat) (fs : Nat → Int32) (n : Nat) (hw : 1 ≤ w) (hwb : w ≤ 16) (hhb : h ≤ 16) (hwh : w * h ≤ 16) (hla : la ≤ 9) (hnc : nc ≤ 10) (hcell : ∀ i, i < nc → inR (fc (3 * i + 1)) 16) (hvok : VOK w h la af nc fc mk sg vw vh sl) (hns : ns ≤ 8) (hshown : ∀ i, i < ns → inR (fs (3 * i)) (w * h) ∧ inR (fs (3 * i + 1)) (w * h)) (hnn : n ≤ ns) : Met l yX5_fitting wsX5_fitting ({ frames := 4, cells := 0, slots := 0, locals := 96 } : Room) (va_Pc [.ref kx, .int (nI n)] (xWp G sz (w_X5_fitting G kx kim kit kre ksh kwa kta tf rf kb ka kc kcn kl kn w h la af nc fc kv km kg vw vh sl mk sg knn ns fs))) (Q_X5_fitting G sz kx kim kit kre ksh kwa kta tf rf kb ka kc kcn kl kn w h la af nc fc kv km kg vw vh sl mk sg knn ns fs n) 0 0 (va_A (w_X5_fitting G kx kim kit kre ksh kwa kta tf rf kb ka kc kcn kl kn w h la af nc fc kv km kg vw vh sl mk sg knn ns fs) sz) := by
  refine Met.ofW (cc := cX5_fitting) (maxL := 8) (ret := (some .int)) (by decide) rfl ?_
  intro pp ee ss mm aa below mt cd s₁ BB hml hv
  obtain ⟨rfl, hsz, hP, hK, hD0⟩ := hv
  have hx := BB.exec
  have hb := BB.bytes
  have hr := BB.returns
  have hts := atoms_spec (ws := wsX5_fitting) BB.pre
  have hown : ss.vm.findClass RX5 = some mm.cls := findClass_of_methodNamed BB.named
  have hlocks := BB.notSynchronized
  subst hsz
  have hD := hD0.self (sz := ss.heap.size)
  have hA : ∀ q : Nat, ss.heap.size ≤ q → va_A (w_X5_fitting G kx kim kit kre ksh kwa kta tf rf kb ka kc kcn kl kn w h la af nc fc kv km kg vw vh sl mk sg knn ns fs) ss.heap.size q := fun q h => Or.inr h
  have hS : va_S (va_A (w_X5_fitting G kx kim kit kre ksh kwa kta tf rf kb ka kc kcn kl kn w h la af nc fc kv km kg vw vh sl mk sg knn ns fs) ss.heap.size) ss.heap ss.heap [] := va_S.rf
  replace hD : va_D (va_A (w_X5_fitting G kx kim kit kre ksh kwa kta tf rf kb ka kc kcn kl kn w h la af nc fc kv km kg vw vh sl mk sg knn ns fs) ss.heap.size) [oC kx 5 [.ref kb, .ref kim, .ref kit, .ref kv, .ref kre, .int tf, .ref ksh, .int rf, .ref kwa, .ref kta], oC kb 0 [.int (nI w), .int (nI h), .int (nI la), .ref ka, .ref kc, .ref kl, .ref kn], iA G ka 16 af, oC kc 2 [.ref kcn, .int (nI 10), .int (nI nc)], iA G kcn (3 * 10) fc, oC kv 4 [.ref km, .ref kg, .int (nI vw), .int (nI vh), .int sl], iA G km 176 mk, iA G kg 160 sg, oC kn 2 [.ref knn, .int (nI 8), .int (nI ns)], iA G knn (3 * 8) fs] := hD
  replace hP : xP G [oC kx 5 [.ref kb, .ref kim, .ref kit, .ref kv, .ref kre, .int tf, .ref ksh, .int rf, .ref kwa, .ref kta], oC kb 0 [.int (nI w), .int (nI h), .int (nI la), .ref ka, .ref kc, .ref kl, .ref kn], iA G ka 16 af, oC kc 2 [.ref kcn, .int (nI 10), .int (nI nc)], iA G kcn (3 * 10) fc, oC kv 4 [.ref km, .ref kg, .int (nI vw), .int (nI vh), .int sl], iA G km 176 mk, iA G kg 160 sg, oC kn 2 [.ref knn, .int (nI 8), .int (nI ns)], iA G knn (3 * 8) fs] ss.heap := hP
  have hin0 : ∀ w ∈ u_ws RX0 TX0 7, w ∈ wsX5_fitting := fun w h => List.mem_cons_of_mem _ (List.mem_append_left _ (List.mem_append_left _ (List.mem_append_right _ h)))
  have hin2 : ∀ w ∈ u_ws RX2 TX2 3, w ∈ wsX5_fitting := fun w h => List.mem_cons_of_mem _ (List.mem_append_right _ h)
  have hin4 : ∀ w ∈ u_ws RX4 TX4 5, w ∈ wsX5_fitting := fun w h => List.mem_cons_of_mem _ (List.mem_append_left _ (List.mem_append_right _ h))
  have hin5 : ∀ w ∈ u_ws RX5 TX5 10, w ∈ wsX5_fitting := fun w h => List.mem_cons_of_mem _ (List.mem_append_left _ (List.mem_append_left _ (List.mem_append_left _ (List.mem_append_right _ h))))
  have hl := lv_entry ([.ref kx, .int (nI n)]) (n := 8) (Nat.le_of_ble_eq_true rfl)
  rw [lg_entry_eq]
  generalize (lg_sl ([.ref kx, .int (nI n)]) ++ List.replicate (8 - (lg_sl ([.ref kx, .int (nI n)])).length) Slot.unset).toArray = ls at hl ⊢
  replace hl : lv_has ls 8 [(0, .ref kx), (1, .int (nI n))] := hl
  refine lv_aload_n hx hb dX5_fitting_0 rfl (lv_at hl 0 rfl) ?_
  refine xw_r (As := []) (rest := []) (wr := [oC kn 2 [.ref knn, .int (nI 8), .int (nI ns)], iA G knn (3 * 8) fs]) ⟨hx, hb, hml, hown, hts⟩ (c_X5_freshViews l G ss.heap.size kx kim kit kre ksh kwa kta tf rf kb ka kc kcn kl kn w h la af nc fc kv km kg vw vh sl mk sg (by first | assumption | omega) (by first | assumption | omega) (by first | assumption | omega) (by first | assumption | omega) (by first | assumption | omega) (by first | assumption | omega) (by first | assumption | omega) (by first | assumption | omega)) (cwV 0 hts gX5_fitting_X5_freshViews rfl rfl rfl (by decide +kernel) ⟨Nat.le_of_ble_eq_true rfl, Nat.le_of_ble_eq_true rfl⟩) hK hP hD hS hA [0, 1, 2, 3, 4, 5, 6, 7] [8, 9] rfl rfl (by decide) (by decide) (by decide) rfl rfl rfl hl.1 rfl (Nat.le_of_ble_eq_true rfl) dX5_fitting_1 ⟨Nat.le_of_ble_eq_true rfl, Nat.le_of_ble_eq_true rfl⟩ (fun u H locs hp1 hP hD hS => ?_)
  obtain ⟨mk2_1, sg2_1⟩ := u
  try dsimp only at hp1 hP hD
  have he1 := hp1
  replace hP : xP G [oC kn 2 [.ref knn, .int (nI 8), .int (nI ns)], iA G knn (3 * 8) fs, oC kx 5 [.ref kb, .ref kim, .ref kit, .ref kv, .ref kre, .int tf, .ref ksh, .int rf, .ref kwa, .ref kta], oC kb 0 [.int (nI w), .int (nI h), .int (nI la), .ref ka, .ref kc, .ref kl, .ref kn], iA G ka 16 af, oC kc 2 [.ref kcn, .int (nI 10), .int (nI nc)], iA G kcn (3 * 10) fc, oC kv 4 [.ref km, .ref kg, .int (nI w), .int (nI h), .int (nI 0)], iA G km 176 mk2_1, iA G kg 160 sg2_1] H := hP
  replace hD : va_D (va_A (w_X5_fitting G kx kim kit kre ksh kwa kta tf rf kb ka kc kcn kl kn w h la af nc fc kv km kg vw vh sl mk sg knn ns fs) ss.heap.size) [oC kn 2 [.ref knn, .int (nI 8), .int (nI ns)], iA G knn (3 * 8) fs, oC kx 5 [.ref kb, .ref kim, .ref kit, .ref kv, .ref kre, .int tf, .ref ksh, .int rf, .ref kwa, .ref kta], oC kb 0 [.int (nI w), .int (nI h), .int (nI la), .ref ka, .ref kc, .ref kl, .ref kn], iA G ka 16 af, oC kc 2 [.ref kcn, .int (nI 10), .int (nI nc)], iA G kcn (3 * 10) fc, oC kv 4 [.ref km, .ref kg, .int (nI w), .int (nI h), .int (nI 0)], iA G km 176 mk2_1, iA G kg 160 sg2_1] := hD
  refine lv_astore_n (lv' := [(2, .ref kv), (0, .ref kx), (1, .int (nI n))]) hx hb dX5_fitting_4 rfl hl (by decide) rfl (fun ls hl => ?_)
  refine lv_iconst (v := nI 0) hx hb dX5_fitting_5 (by decide) ?_
  refine lv_istore_n (lv' := [(3, .int (nI 0)), (2, .ref kv), (0, .ref kx), (1, .int (nI n))]) hx hb dX5_fitting_6 rfl hl (by decide) rfl (fun ls hl => ?_)
  refine lv_iconst (v := nI 0) hx hb dX5_fitting_7 (by decide) ?_
  refine lv_istore (lv' := [(4, .int (nI 0)), (3, .int (nI 0)), (2, .ref kv), (0, .ref kx), (1, .int (nI n))]) hx hb dX5_fitting_8 hl (by decide) rfl (fun ls hl => ?_)
  have hL10 : ∀ k : Nat, ∀ (d : Nat) (bits : Int32) (ls : Array Slot) (H : Heap) (locs : List Loc), la + 1 - d = k → (d ≤ la + 1) → (bits = xbits (fun d => allF (fitP w h af nc fc fs d) n) d) → lv_has ls 8 [(0, .ref kx), (1, .int (nI n)), (2, .ref kv), (3, .int bits), (4, .int (nI d))] → xP G [iA G ka 16 af, oC kb 0 [.int (nI w), .int (nI h), .int (nI la), .ref ka, .ref kc, .ref kl, .ref kn], oC kc 2 [.ref kcn, .int (nI 10), .int (nI nc)], iA G kcn (3 * 10) fc, iA G kg 160 sg2_1, iA G km 176 mk2_1, oC kn 2 [.ref knn, .int (nI 8), .int (nI ns)], iA G knn (3 * 8) fs, oC kv 4 [.ref km, .ref kg, .int (nI w), .int (nI h), .int (nI 0)], oC kx 5 [.ref kb, .ref kim, .ref kit, .ref kv, .ref kre, .int tf, .ref ksh, .int rf, .ref kwa, .ref kta]] H → va_D (va_A (w_X5_fitting G kx kim kit kre ksh kwa kta tf rf kb ka kc kcn kl kn w h la af nc fc kv km kg vw vh sl mk sg knn ns fs) ss.heap.size) [iA G ka 16 af, oC kb 0 [.int (nI w), .int (nI h), .int (nI la), .ref ka, .ref kc, .ref kl, .ref kn], oC kc 2 [.ref kcn, .int (nI 10), .int (nI nc)], iA G kcn (3 * 10) fc, iA G kg 160 sg2_1, iA G km 176 mk2_1, oC kn 2 [.ref knn, .int (nI 8), .int (nI ns)], iA G knn (3 * 8) fs, oC kv 4 [.ref km, .ref kg, .int (nI w), .int (nI h), .int (nI 0)], oC kx 5 [.ref kb, .ref kim, .ref kit, .ref kv, .ref kre, .int tf, .ref ksh, .int rf, .ref kwa, .ref kta]] → va_S (va_A (w_X5_fitting G kx kim kit kre ksh kwa kta tf rf kb ka kc kcn kl kn w h la af nc fc kv km kg vw vh sl mk sg knn ns fs) ss.heap.size) ss.heap H locs → W pp l ee ({ frames := 4, cells := 0, slots := 0, locals := 96 } : Room) ss mm ([.ref kx, .int (nI n)] : List Value).toArray below mt cd H locs 0 0 (MQ below (Q_X5_fitting G ss.heap.size kx kim kit kre ksh kwa kta tf rf kb ka kc kcn kl kn w h la af nc fc kv km kg vw vh sl mk sg knn ns fs n) ([.ref kx, .int (nI n)] : List Value).toArray ss 0 0 (va_A (w_X5_fitting G kx kim kit kre ksh kwa kta tf rf kb ka kc kcn kl kn w h la af nc fc kv km kg vw vh sl mk sg knn ns fs) ss.heap.size)) (F0 mm 10 ls []) := by
    intro k
    induction k using Nat.strongRecOn with
    | _ k ih10 =>
    intro d bits ls H locs hm10 hd hbits hl hP hD hS
    refine lv_iload hx hb dX5_fitting_10 (lv_at hl 4 rfl) ?_
    refine lv_aload_n hx hb dX5_fitting_12 rfl (lv_at hl 0 rfl) ?_
    refine va_get (D := G.1) (ci := 5) (v := .ref kb) (C := RX5) (T := TX5) (N := 10) hx hb hts hin5 hown hK.1 hP 9 rfl rfl 0 (by decide) (hts (.fieldLink RX5 10 "BackLenses" "book" "LBackLenses$Book;") (List.mem_of_getElem? (i := 1) rfl)) (fun _ h9 => h9) rfl dX5_fitting_13 ?_
    refine va_getN (D := G.1) (ci := 0) (v := .int (nI la)) (C := RX0) (T := TX0) (N := 7) hx hb hts hin0 hown hK.1 hP 1 rfl rfl 2 (by decide) (va_Nw.use rfl (hK.2 (Cond.fieldLinkNest "BackLenses" (90 : Nat) "BackLenses$Book" "last" "I" "BackLenses") (List.mem_of_getElem? (i := 11) rfl))) (fun _ h9 => h9) rfl dX5_fitting_16 ?_
    refine xn_icmp_gt (tgt := 122) hx hb (by omega) (by omega) dX5_fitting_19 rfl (fun b19 => ?_) (fun b19 => ?_)
    · skip
      refine lv_iload_n hx hb dX5_fitting_122 rfl (lv_at hl 3 rfl) ?_
      have hP := hP.sub (ws' := [oC kx 5 [.ref kb, .ref kim, .ref kit, .ref kv, .ref kre, .int tf, .ref ksh, .int rf, .ref kwa, .ref kta], oC kb 0 [.int (nI w), .int (nI h), .int (nI la), .ref ka, .ref kc, .ref kl, .ref kn], iA G ka 16 af, oC kc 2 [.ref kcn, .int (nI 10), .int (nI nc)], iA G kcn (3 * 10) fc, oC kv 4 [.ref km, .ref kg, .int (nI w), .int (nI h), .int (nI 0)], iA G km 176 mk2_1, iA G kg 160 sg2_1, oC kn 2 [.ref knn, .int (nI 8), .int (nI ns)], iA G knn (3 * 8) fs]) [9, 1, 0, 2, 3, 8, 5, 4, 6, 7] rfl
      have hD := hD.sub (ws' := [oC kx 5 [.ref kb, .ref kim, .ref kit, .ref kv, .ref kre, .int tf, .ref ksh, .int rf, .ref kwa, .ref kta], oC kb 0 [.int (nI w), .int (nI h), .int (nI la), .ref ka, .ref kc, .ref kl, .ref kn], iA G ka 16 af, oC kc 2 [.ref kcn, .int (nI 10), .int (nI nc)], iA G kcn (3 * 10) fc, oC kv 4 [.ref km, .ref kg, .int (nI w), .int (nI h), .int (nI 0)], iA G km 176 mk2_1, iA G kg 160 sg2_1, oC kn 2 [.ref knn, .int (nI 8), .int (nI ns)], iA G knn (3 * 8) fs]) [9, 1, 0, 2, 3, 8, 5, 4, 6, 7] (by decide) rfl
      refine W.iret (v := bits) hx hb hr (fun t ht hW => ⟨⟨bits, (mk2_1, sg2_1, w, h, nI 0), rfl, ?_, by rw [ht]; exact hP, hD⟩, hS.F ht⟩) hS.2.2 dX5_fitting_123
      try dsimp only
      refine ⟨?_, VOK_fr he1⟩; rw [hbits, show d = la + 1 by omega]
    · skip
      refine lv_iconst (v := nI 1) hx hb dX5_fitting_22 (by decide) ?_
      refine lv_istore (lv' := [(5, .int (nI 1)), (0, .ref kx), (1, .int (nI n)), (2, .ref kv), (3, .int bits), (4, .int (nI d))]) hx hb dX5_fitting_23 hl (by decide) rfl (fun ls hl => ?_)
      refine lv_iconst (v := nI 0) hx hb dX5_fitting_25 (by decide) ?_
      refine lv_istore (lv' := [(6, .int (nI 0)), (5, .int (nI 1)), (0, .ref kx), (1, .int (nI n)), (2, .ref kv), (3, .int bits), (4, .int (nI d))]) hx hb dX5_fitting_26 hl (by decide) rfl (fun ls hl => ?_)
      have hL28 : ∀ k : Nat, ∀ (i : Nat) (ft : Int32) (ls : Array Slot) (H : Heap) (locs : List Loc), n - i = k → (i ≤ n) → (ft = xb (allF (fitP w h af nc fc fs d) i = true)) → lv_has ls 8 [(0, .ref kx), (1, .int (nI n)), (2, .ref kv), (3, .int bits), (4, .int (nI d)), (5, .int ft), (6, .int (nI i))] → xP G [iA G ka 16 af, oC kb 0 [.int (nI w), .int (nI h), .int (nI la), .ref ka, .ref kc, .ref kl, .ref kn], oC kc 2 [.ref kcn, .int (nI 10), .int (nI nc)], iA G kcn (3 * 10) fc, iA G kg 160 sg2_1, iA G km 176 mk2_1, oC kn 2 [.ref knn, .int (nI 8), .int (nI ns)], iA G knn (3 * 8) fs, oC kv 4 [.ref km, .ref kg, .int (nI w), .int (nI h), .int (nI 0)], oC kx 5 [.ref kb, .ref kim, .ref kit, .ref kv, .ref kre, .int tf, .ref ksh, .int rf, .ref kwa, .ref kta]] H → va_D (va_A (w_X5_fitting G kx kim kit kre ksh kwa kta tf rf kb ka kc kcn kl kn w h la af nc fc kv km kg vw vh sl mk sg knn ns fs) ss.heap.size) [iA G ka 16 af, oC kb 0 [.int (nI w), .int (nI h), .int (nI la), .ref ka, .ref kc, .ref kl, .ref kn], oC kc 2 [.ref kcn, .int (nI 10), .int (nI nc)], iA G kcn (3 * 10) fc, iA G kg 160 sg2_1, iA G km 176 mk2_1, oC kn 2 [.ref knn, .int (nI 8), .int (nI ns)], iA G knn (3 * 8) fs, oC kv 4 [.ref km, .ref kg, .int (nI w), .int (nI h), .int (nI 0)], oC kx 5 [.ref kb, .ref kim, .ref kit, .ref kv, .ref kre, .int tf, .ref ksh, .int rf, .ref kwa, .ref kta]] → va_S (va_A (w_X5_fitting G kx kim kit kre ksh kwa kta tf rf kb ka kc kcn kl kn w h la af nc fc kv km kg vw vh sl mk sg knn ns fs) ss.heap.size) ss.heap H locs → W pp l ee ({ frames := 4, cells := 0, slots := 0, locals := 96 } : Room) ss mm ([.ref kx, .int (nI n)] : List Value).toArray below mt cd H locs 0 0 (MQ below (Q_X5_fitting G ss.heap.size kx kim kit kre ksh kwa kta tf rf kb ka kc kcn kl kn w h la af nc fc kv km kg vw vh sl mk sg knn ns fs n) ([.ref kx, .int (nI n)] : List Value).toArray ss 0 0 (va_A (w_X5_fitting G kx kim kit kre ksh kwa kta tf rf kb ka kc kcn kl kn w h la af nc fc kv km kg vw vh sl mk sg knn ns fs) ss.heap.size)) (F0 mm 28 ls []) := by
        intro k
        induction k using Nat.strongRecOn with
        | _ k ih28 =>
        intro i ft ls H locs hm28 hi hft hl hP hD hS
        refine lv_iload hx hb dX5_fitting_28 (lv_at hl 6 rfl) ?_
        refine lv_iload_n hx hb dX5_fitting_30 rfl (lv_at hl 1 rfl) ?_
        refine xn_icmp_ge (tgt := 104) hx hb (by omega) (by omega) dX5_fitting_31 rfl (fun b31 => ?_) (fun b31 => ?_)
        · skip
          refine lv_iload hx hb dX5_fitting_104 (lv_at hl 5 rfl) ?_
          refine lv_if_eq (tgt := 116) hx hb dX5_fitting_106 rfl (fun b106 => ?_) (fun b106 => ?_)
          · skip
            have hno : allF (fitP w h af nc fc fs d) n = false := (by first | exact hno | (rw [hft, show i = n by omega] at b106; exact Bool.eq_false_iff.mpr (xb_0.mp b106)))
            refine lv_iinc (k := 4) (v := nI (d + 1)) (lv' := [(4, .int (nI (d + 1))), (0, .ref kx), (1, .int (nI n)), (2, .ref kv), (3, .int bits), (5, .int ft), (6, .int (nI i))]) hx hb dX5_fitting_116 hl rfl (xn_inc d 1) (by decide) rfl (fun ls hl => ?_)
            refine lv_goto (tgt := 10) hx hb dX5_fitting_119 rfl ?_
            have hl := lv_sub hl (l' := [(0, .ref kx), (1, .int (nI n)), (2, .ref kv), (3, .int bits), (4, .int (nI (d + 1)))]) [1, 2, 3, 4, 0] rfl
            exact ih10 (la + 1 - (d + 1)) (by omega) (d + 1) bits ls H locs rfl (by omega) (by first | exact xbits_N hno hbits | exact xbits_T hyes hbits) hl hP hD hS
          · skip
            have hyes : allF (fitP w h af nc fc fs d) n = true := (by first | exact absurd b36 b106 | (rw [hft, show i = n by omega] at b106; exact Decidable.not_not.mp (fun q => b106 (xb_0.mpr q))))
            refine lv_iload_n hx hb dX5_fitting_109 rfl (lv_at hl 3 rfl) ?_
            refine lv_iconst (v := nI 1) hx hb dX5_fitting_110 (by decide) ?_
            refine lv_iload hx hb dX5_fitting_111 (lv_at hl 4 rfl) ?_
            refine lv_ishl hx hb dX5_fitting_113 ?_
            refine lv_ior hx hb dX5_fitting_114 ?_
            refine lv_istore_n (lv' := [(3, .int (bits ||| ((nI 1) <<< ((nI d) &&& 31)))), (0, .ref kx), (1, .int (nI n)), (2, .ref kv), (4, .int (nI d)), (5, .int ft), (6, .int (nI i))]) hx hb dX5_fitting_115 rfl hl (by decide) rfl (fun ls hl => ?_)
            refine lv_iinc (k := 4) (v := nI (d + 1)) (lv' := [(4, .int (nI (d + 1))), (3, .int (bits ||| ((nI 1) <<< ((nI d) &&& 31)))), (0, .ref kx), (1, .int (nI n)), (2, .ref kv), (5, .int ft), (6, .int (nI i))]) hx hb dX5_fitting_116 hl rfl (xn_inc d 1) (by decide) rfl (fun ls hl => ?_)
            refine lv_goto (tgt := 10) hx hb dX5_fitting_119 rfl ?_
            have hl := lv_sub hl (l' := [(0, .ref kx), (1, .int (nI n)), (2, .ref kv), (3, .int (bits ||| ((nI 1) <<< ((nI d) &&& 31)))), (4, .int (nI (d + 1)))]) [2, 3, 4, 1, 0] rfl
            exact ih10 (la + 1 - (d + 1)) (by omega) (d + 1) (bits ||| ((nI 1) <<< ((nI d) &&& 31))) ls H locs rfl (by omega) (by first | exact xbits_N hno hbits | exact xbits_T hyes hbits) hl hP hD hS
        · skip
          refine lv_iload hx hb dX5_fitting_34 (lv_at hl 5 rfl) ?_
          refine lv_if_eq (tgt := 104) hx hb dX5_fitting_36 rfl (fun b36 => ?_) (fun b36 => ?_)
          · skip
            have hno : allF (fitP w h af nc fc fs d) n = false := (by rw [hft] at b36; exact allF_false (i := i) (by omega) (Bool.eq_false_iff.mpr (xb_0.mp b36)))
            refine lv_iload hx hb dX5_fitting_104 (lv_at hl 5 rfl) ?_
            refine lv_if_eq (tgt := 116) hx hb dX5_fitting_106 rfl (fun b106 => ?_) (fun b106 => ?_)
            · skip
              have hno : allF (fitP w h af nc fc fs d) n = false := (by first | exact hno | (rw [hft, show i = n by omega] at b106; exact Bool.eq_false_iff.mpr (xb_0.mp b106)))
              refine lv_iinc (k := 4) (v := nI (d + 1)) (lv' := [(4, .int (nI (d + 1))), (0, .ref kx), (1, .int (nI n)), (2, .ref kv), (3, .int bits), (5, .int ft), (6, .int (nI i))]) hx hb dX5_fitting_116 hl rfl (xn_inc d 1) (by decide) rfl (fun ls hl => ?_)
              refine lv_goto (tgt := 10) hx hb dX5_fitting_119 rfl ?_
              have hl := lv_sub hl (l' := [(0, .ref kx), (1, .int (nI n)), (2, .ref kv), (3, .int bits), (4, .int (nI (d + 1)))]) [1, 2, 3, 4, 0] rfl
              exact ih10 (la + 1 - (d + 1)) (by omega) (d + 1) bits ls H locs rfl (by omega) (by first | exact xbits_N hno hbits | exact xbits_T hyes hbits) hl hP hD hS
            · skip
              have hyes : allF (fitP w h af nc fc fs d) n = true := (by first | exact absurd b36 b106 | (rw [hft, show i = n by omega] at b106; exact Decidable.not_not.mp (fun q => b106 (xb_0.mpr q))))
              refine lv_iload_n hx hb dX5_fitting_109 rfl (lv_at hl 3 rfl) ?_
              refine lv_iconst (v := nI 1) hx hb dX5_fitting_110 (by decide) ?_
              refine lv_iload hx hb dX5_fitting_111 (lv_at hl 4 rfl) ?_
              refine lv_ishl hx hb dX5_fitting_113 ?_
              refine lv_ior hx hb dX5_fitting_114 ?_
              refine lv_istore_n (lv' := [(3, .int (bits ||| ((nI 1) <<< ((nI d) &&& 31)))), (0, .ref kx), (1, .int (nI n)), (2, .ref kv), (4, .int (nI d)), (5, .int ft), (6, .int (nI i))]) hx hb dX5_fitting_115 rfl hl (by decide) rfl (fun ls hl => ?_)
              refine lv_iinc (k := 4) (v := nI (d + 1)) (lv' := [(4, .int (nI (d + 1))), (3, .int (bits ||| ((nI 1) <<< ((nI d) &&& 31)))), (0, .ref kx), (1, .int (nI n)), (2, .ref kv), (5, .int ft), (6, .int (nI i))]) hx hb dX5_fitting_116 hl rfl (xn_inc d 1) (by decide) rfl (fun ls hl => ?_)
              refine lv_goto (tgt := 10) hx hb dX5_fitting_119 rfl ?_
              have hl := lv_sub hl (l' := [(0, .ref kx), (1, .int (nI n)), (2, .ref kv), (3, .int (bits ||| ((nI 1) <<< ((nI d) &&& 31)))), (4, .int (nI (d + 1)))]) [2, 3, 4, 1, 0] rfl
              exact ih10 (la + 1 - (d + 1)) (by omega) (d + 1) (bits ||| ((nI 1) <<< ((nI d) &&& 31))) ls H locs rfl (by omega) (by first | exact xbits_N hno hbits | exact xbits_T hyes hbits) hl hP hD hS
          · skip
            have hfi : allF (fitP w h af nc fc fs d) i = true := (by rw [hft] at b36; exact Decidable.not_not.mp (fun q => b36 (xb_0.mpr q)))
            refine lv_aload_n hx hb dX5_fitting_39 rfl (lv_at hl 2 rfl) ?_
            refine lv_aload_n hx hb dX5_fitting_40 rfl (lv_at hl 0 rfl) ?_
            refine va_get (D := G.1) (ci := 5) (v := .ref kb) (C := RX5) (T := TX5) (N := 10) hx hb hts hin5 hown hK.1 hP 9 rfl rfl 0 (by decide) (hts (.fieldLink RX5 10 "BackLenses" "book" "LBackLenses$Book;") (List.mem_of_getElem? (i := 1) rfl)) (fun _ h9 => h9) rfl dX5_fitting_41 ?_
            refine va_getN (D := G.1) (ci := 0) (v := .ref kn) (C := RX0) (T := TX0) (N := 7) hx hb hts hin0 hown hK.1 hP 1 rfl rfl 6 (by decide) (va_Nw.use rfl (hK.2 (Cond.fieldLinkNest "BackLenses" (161 : Nat) "BackLenses$Book" "shown" "LBackLenses$Rows;" "BackLenses") (List.mem_of_getElem? (i := 21) rfl))) (fun _ h9 => h9) rfl dX5_fitting_44 ?_
            refine lv_iload hx hb dX5_fitting_47 (lv_at hl 6 rfl) ?_
            refine lv_iconst (v := nI 0) hx hb dX5_fitting_49 (by decide) ?_
            refine xr_i (As := [.int (nI i), .int (nI 0)]) (rest := [.ref kv]) ⟨hx, hb, hml, hown, hts⟩ (c_X2_number l G kn knn 8 ns fs i 0 (by first | assumption | omega) (by first | assumption | omega)) (cwV 2 hts gX5_fitting_X2_number rfl rfl rfl (by decide +kernel) ⟨Nat.le_of_ble_eq_true rfl, Nat.le_of_ble_eq_true rfl⟩) hK hP hS [6, 7] rfl rfl rfl rfl hl.1 rfl (Nat.le_of_ble_eq_true rfl) dX5_fitting_50 ⟨Nat.zero_le _, Nat.zero_le _⟩ (fun r50 H locs hp50 hP hS => ?_)
            obtain rfl : r50 = fs (3 * i + 0) := hp50
            obtain ⟨x0, hx0, ex0⟩ := inR_nat (hshown i (by omega)).1
            refine xn_top ex0 ?_
            refine lv_aload_n hx hb dX5_fitting_53 rfl (lv_at hl 0 rfl) ?_
            refine va_get (D := G.1) (ci := 5) (v := .ref kb) (C := RX5) (T := TX5) (N := 10) hx hb hts hin5 hown hK.1 hP 9 rfl rfl 0 (by decide) (hts (.fieldLink RX5 10 "BackLenses" "book" "LBackLenses$Book;") (List.mem_of_getElem? (i := 1) rfl)) (fun _ h9 => h9) rfl dX5_fitting_54 ?_
            refine va_getN (D := G.1) (ci := 0) (v := .ref kn) (C := RX0) (T := TX0) (N := 7) hx hb hts hin0 hown hK.1 hP 1 rfl rfl 6 (by decide) (va_Nw.use rfl (hK.2 (Cond.fieldLinkNest "BackLenses" (161 : Nat) "BackLenses$Book" "shown" "LBackLenses$Rows;" "BackLenses") (List.mem_of_getElem? (i := 21) rfl))) (fun _ h9 => h9) rfl dX5_fitting_57 ?_
            refine lv_iload hx hb dX5_fitting_60 (lv_at hl 6 rfl) ?_
            refine lv_iconst (v := nI 1) hx hb dX5_fitting_62 (by decide) ?_
            refine xr_i (As := [.int (nI i), .int (nI 1)]) (rest := [.int (nI x0), .ref kv]) ⟨hx, hb, hml, hown, hts⟩ (c_X2_number l G kn knn 8 ns fs i 1 (by first | assumption | omega) (by first | assumption | omega)) (cwV 2 hts gX5_fitting_X2_number rfl rfl rfl (by decide +kernel) ⟨Nat.le_of_ble_eq_true rfl, Nat.le_of_ble_eq_true rfl⟩) hK hP hS [6, 7] rfl rfl rfl rfl hl.1 rfl (Nat.le_of_ble_eq_true rfl) dX5_fitting_63 ⟨Nat.zero_le _, Nat.zero_le _⟩ (fun r63 H locs hp63 hP hS => ?_)
            obtain rfl : r63 = fs (3 * i + 1) := hp63
            obtain ⟨c0, hc0, ec0⟩ := inR_nat (hshown i (by omega)).2
            refine xn_top ec0 ?_
            refine lv_iload hx hb dX5_fitting_66 (lv_at hl 4 rfl) ?_
            refine xr_i (As := [.int (nI x0), .int (nI c0), .int (nI d)]) (rest := []) ⟨hx, hb, hml, hown, hts⟩ (c_X4_answerOf l G kv km kg w h (nI 0) mk2_1 sg2_1 x0 c0 d (by first | assumption | omega) (by first | assumption | omega) (by first | assumption | omega)) (cwV 3 hts gX5_fitting_X4_answerOf rfl rfl rfl (by decide +kernel) ⟨Nat.le_of_ble_eq_true rfl, Nat.le_of_ble_eq_true rfl⟩) hK hP hS [8, 5, 4] rfl rfl rfl rfl hl.1 rfl (Nat.le_of_ble_eq_true rfl) dX5_fitting_68 ⟨Nat.zero_le _, Nat.zero_le _⟩ (fun r68 H locs hp68 hP hS => ?_)
            obtain rfl : r68 = (if (sg2_1 (d * 16 + x0) >>> (nI c0 &&& 31)) &&& nI 1 = 0 then (-4) else mk2_1 (d * 16 + c0)) := hp68
            refine lv_istore (lv' := [(7, .int (if (sg2_1 (d * 16 + x0) >>> (nI c0 &&& 31)) &&& nI 1 = 0 then (-4) else mk2_1 (d * 16 + c0))), (0, .ref kx), (1, .int (nI n)), (2, .ref kv), (3, .int bits), (4, .int (nI d)), (5, .int ft), (6, .int (nI i))]) hx hb dX5_fitting_71 hl (by decide) rfl (fun ls hl => ?_)
            refine lv_iload hx hb dX5_fitting_73 (lv_at hl 0 rfl) ?_
            refine lv_aload_n hx hb dX5_fitting_75 rfl (lv_at hl 1 rfl) ?_
            refine va_get (D := G.1) (ci := 5) (v := .ref kb) (C := RX5) (T := TX5) (N := 10) hx hb hts hin5 hown hK.1 hP 9 rfl rfl 0 (by decide) (hts (.fieldLink RX5 10 "BackLenses" "book" "LBackLenses$Book;") (List.mem_of_getElem? (i := 1) rfl)) (fun _ h9 => h9) rfl dX5_fitting_76 ?_
            refine va_getN (D := G.1) (ci := 0) (v := .ref kn) (C := RX0) (T := TX0) (N := 7) hx hb hts hin0 hown hK.1 hP 1 rfl rfl 6 (by decide) (va_Nw.use rfl (hK.2 (Cond.fieldLinkNest "BackLenses" (161 : Nat) "BackLenses$Book" "shown" "LBackLenses$Rows;" "BackLenses") (List.mem_of_getElem? (i := 21) rfl))) (fun _ h9 => h9) rfl dX5_fitting_79 ?_
            refine lv_iload hx hb dX5_fitting_82 (lv_at hl 7 rfl) ?_
            refine lv_iconst (v := nI 2) hx hb dX5_fitting_84 (by decide) ?_
            refine xr_i (As := [.int (nI i), .int (nI 2)]) (rest := [.int (if (sg2_1 (d * 16 + x0) >>> (nI c0 &&& 31)) &&& nI 1 = 0 then (-4) else mk2_1 (d * 16 + c0))]) ⟨hx, hb, hml, hown, hts⟩ (c_X2_number l G kn knn 8 ns fs i 2 (by first | assumption | omega) (by first | assumption | omega)) (cwV 2 hts gX5_fitting_X2_number rfl rfl rfl (by decide +kernel) ⟨Nat.le_of_ble_eq_true rfl, Nat.le_of_ble_eq_true rfl⟩) hK hP hS [6, 7] rfl rfl rfl rfl hl.1 rfl (Nat.le_of_ble_eq_true rfl) dX5_fitting_85 ⟨Nat.zero_le _, Nat.zero_le _⟩ (fun r85 H locs hp85 hP hS => ?_)
            obtain rfl : r85 = fs (3 * i + 2) := hp85
            refine lv_icmp_ne (tgt := 95) hx hb dX5_fitting_88 rfl (fun b88 => ?_) (fun b88 => ?_)
            · skip
              refine lv_iconst (v := nI 0) hx hb dX5_fitting_95 (by decide) ?_
              refine lv_istore (lv' := [(5, .int (nI 0)), (7, .int (if (sg2_1 (d * 16 + x0) >>> (nI c0 &&& 31)) &&& nI 1 = 0 then (-4) else mk2_1 (d * 16 + c0))), (0, .ref kx), (1, .int (nI n)), (2, .ref kv), (3, .int bits), (4, .int (nI d)), (6, .int (nI i))]) hx hb dX5_fitting_96 hl (by decide) rfl (fun ls hl => ?_)
              refine lv_iinc (k := 7) (v := nI (i + 1)) (lv' := [(6, .int (nI (i + 1))), (5, .int (nI 0)), (7, .int (if (sg2_1 (d * 16 + x0) >>> (nI c0 &&& 31)) &&& nI 1 = 0 then (-4) else mk2_1 (d * 16 + c0))), (0, .ref kx), (1, .int (nI n)), (2, .ref kv), (3, .int bits), (4, .int (nI d))]) hx hb dX5_fitting_98 hl rfl (xn_inc i 1) (by decide) rfl (fun ls hl => ?_)
              refine lv_goto (tgt := 28) hx hb dX5_fitting_101 rfl ?_
              have hl := lv_sub hl (l' := [(0, .ref kx), (1, .int (nI n)), (2, .ref kv), (3, .int bits), (4, .int (nI d)), (5, .int (nI 0)), (6, .int (nI (i + 1)))]) [3, 4, 5, 6, 7, 1, 0] rfl
              exact ih28 (n - (i + 1)) (by omega) (i + 1) (nI 0) ls H locs rfl (by omega) (by first | exact (xb_t (by rw [allF, hfi, Bool.true_and]; exact decide_eq_true (by rw [ex0, ec0, tn_nI (by omega), tn_nI (by omega), ← FR_ans he1 (by omega) (by omega) (by omega)]; exact b88))).symm | exact (xb_f (fun q => by rw [allF, hfi, Bool.true_and] at q; have q2 := of_decide_eq_true q; rw [ex0, ec0, tn_nI (by omega), tn_nI (by omega), ← FR_ans he1 (by omega) (by omega) (by omega)] at q2; exact b88 q2)).symm) hl hP hD hS
            · skip
              refine lv_iconst (v := nI 1) hx hb dX5_fitting_91 (by decide) ?_
              refine lv_goto (tgt := 96) hx hb dX5_fitting_92 rfl ?_
              refine lv_istore (lv' := [(5, .int (nI 1)), (7, .int (if (sg2_1 (d * 16 + x0) >>> (nI c0 &&& 31)) &&& nI 1 = 0 then (-4) else mk2_1 (d * 16 + c0))), (0, .ref kx), (1, .int (nI n)), (2, .ref kv), (3, .int bits), (4, .int (nI d)), (6, .int (nI i))]) hx hb dX5_fitting_96 hl (by decide) rfl (fun ls hl => ?_)
              refine lv_iinc (k := 7) (v := nI (i + 1)) (lv' := [(6, .int (nI (i + 1))), (5, .int (nI 1)), (7, .int (if (sg2_1 (d * 16 + x0) >>> (nI c0 &&& 31)) &&& nI 1 = 0 then (-4) else mk2_1 (d * 16 + c0))), (0, .ref kx), (1, .int (nI n)), (2, .ref kv), (3, .int bits), (4, .int (nI d))]) hx hb dX5_fitting_98 hl rfl (xn_inc i 1) (by decide) rfl (fun ls hl => ?_)
              refine lv_goto (tgt := 28) hx hb dX5_fitting_101 rfl ?_
              have hl := lv_sub hl (l' := [(0, .ref kx), (1, .int (nI n)), (2, .ref kv), (3, .int bits), (4, .int (nI d)), (5, .int (nI 1)), (6, .int (nI (i + 1)))]) [3, 4, 5, 6, 7, 1, 0] rfl
              exact ih28 (n - (i + 1)) (by omega) (i + 1) (nI 1) ls H locs rfl (by omega) (by first | exact (xb_t (by rw [allF, hfi, Bool.true_and]; exact decide_eq_true (by rw [ex0, ec0, tn_nI (by omega), tn_nI (by omega), ← FR_ans he1 (by omega) (by omega) (by omega)]; exact b88))).symm | exact (xb_f (fun q => by rw [allF, hfi, Bool.true_and] at q; have q2 := of_decide_eq_true q; rw [ex0, ec0, tn_nI (by omega), tn_nI (by omega), ← FR_ans he1 (by omega) (by omega) (by omega)] at q2; exact b88 q2)).symm) hl hP hD hS
      have hl := lv_sub hl (l' := [(0, .ref kx), (1, .int (nI n)), (2, .ref kv), (3, .int bits), (4, .int (nI d)), (5, .int (nI 1)), (6, .int (nI 0))]) [2, 3, 4, 5, 6, 1, 0] rfl
      exact hL28 (n - 0) 0 (nI 1) ls H locs rfl (by omega) (by exact (xb_t rfl).symm) hl hP hD hS
  have hl := lv_sub hl (l' := [(0, .ref kx), (1, .int (nI n)), (2, .ref kv), (3, .int (nI 0)), (4, .int (nI 0))]) [3, 4, 2, 1, 0] rfl
  have hP := hP.sub (ws' := [iA G ka 16 af, oC kb 0 [.int (nI w), .int (nI h), .int (nI la), .ref ka, .ref kc, .ref kl, .ref kn], oC kc 2 [.ref kcn, .int (nI 10), .int (nI nc)], iA G kcn (3 * 10) fc, iA G kg 160 sg2_1, iA G km 176 mk2_1, oC kn 2 [.ref knn, .int (nI 8), .int (nI ns)], iA G knn (3 * 8) fs, oC kv 4 [.ref km, .ref kg, .int (nI w), .int (nI h), .int (nI 0)], oC kx 5 [.ref kb, .ref kim, .ref kit, .ref kv, .ref kre, .int tf, .ref ksh, .int rf, .ref kwa, .ref kta]]) [4, 3, 5, 6, 9, 8, 0, 1, 7, 2] rfl
  have hD := hD.sub (ws' := [iA G ka 16 af, oC kb 0 [.int (nI w), .int (nI h), .int (nI la), .ref ka, .ref kc, .ref kl, .ref kn], oC kc 2 [.ref kcn, .int (nI 10), .int (nI nc)], iA G kcn (3 * 10) fc, iA G kg 160 sg2_1, iA G km 176 mk2_1, oC kn 2 [.ref knn, .int (nI 8), .int (nI ns)], iA G knn (3 * 8) fs, oC kv 4 [.ref km, .ref kg, .int (nI w), .int (nI h), .int (nI 0)], oC kx 5 [.ref kb, .ref kim, .ref kit, .ref kv, .ref kre, .int tf, .ref ksh, .int rf, .ref kwa, .ref kta]]) [4, 3, 5, 6, 9, 8, 0, 1, 7, 2] (by decide) rfl
  exact hL10 (la + 1 - 0) 0 (nI 0) ls H locs rfl (by omega) (by rfl) hl hP hD hS

abbrev w_X5_days (G : XG) (kx kim kit kre ksh kwa kta : Nat) (tf rf : Int32) (kb ka kc kcn kl kn : Nat) (w h la : Nat) (af : Nat → Int32) (nc : Nat) (fc : Nat → Int32) (kv km kg : Nat) (vw vh : Nat) (sl : Int32) (mk sg : Nat → Int32) (knn : Nat) (ns : Nat) (fs : Nat → Int32) : va_W := [oC kx 5 [.ref kb, .ref kim, .ref kit, .ref kv, .ref kre, .int tf, .ref ksh, .int rf, .ref kwa, .ref kta], oC kb 0 [.int (nI w), .int (nI h), .int (nI la), .ref ka, .ref kc, .ref kl, .ref kn], iA G ka 16 af, oC kc 2 [.ref kcn, .int (nI 10), .int (nI nc)], iA G kcn (3 * 10) fc, oC kv 4 [.ref km, .ref kg, .int (nI vw), .int (nI vh), .int sl], iA G km 176 mk, iA G kg 160 sg, oC kn 2 [.ref knn, .int (nI 8), .int (nI ns)], iA G knn (3 * 8) fs]
abbrev Q_X5_days (G : XG) (sz : Nat) (kx kim kit kre ksh kwa kta : Nat) (tf rf : Int32) (kb ka kc kcn kl kn : Nat) (w h la : Nat) (af : Nat → Int32) (nc : Nat) (fc : Nat → Int32) (kv km kg : Nat) (vw vh : Nat) (sl : Int32) (mk sg : Nat → Int32) (knn : Nat) (ns : Nat) (fs : Nat → Int32) : Array Value → State → Outcome → State → Prop := (va_Qi (fun (r : Int32) (u : (Nat → Int32) × (Nat → Int32) × Nat × Nat × Int32) => r = fitS w h la af nc fc fs ns ∧ VOK w h la af nc fc u.1 u.2.1 u.2.2.1 u.2.2.2.1 u.2.2.2.2) (xWb G sz (w_X5_days G kx kim kit kre ksh kwa kta tf rf kb ka kc kcn kl kn w h la af nc fc kv km kg vw vh sl mk sg knn ns fs) (fun u : (Nat → Int32) × (Nat → Int32) × Nat × Nat × Int32 => [oC kx 5 [.ref kb, .ref kim, .ref kit, .ref kv, .ref kre, .int tf, .ref ksh, .int rf, .ref kwa, .ref kta], oC kb 0 [.int (nI w), .int (nI h), .int (nI la), .ref ka, .ref kc, .ref kl, .ref kn], iA G ka 16 af, oC kc 2 [.ref kcn, .int (nI 10), .int (nI nc)], iA G kcn (3 * 10) fc, oC kv 4 [.ref km, .ref kg, .int (nI u.2.2.1), .int (nI u.2.2.2.1), .int u.2.2.2.2], iA G km 176 u.1, iA G kg 160 u.2.1, oC kn 2 [.ref knn, .int (nI 8), .int (nI ns)], iA G knn (3 * 8) fs])) (va_A (w_X5_days G kx kim kit kre ksh kwa kta tf rf kb ka kc kcn kl kn w h la af nc fc kv km kg vw vh sl mk sg knn ns fs) sz))
set_option maxHeartbeats 4000000 in
set_option maxRecDepth 100000 in
theorem c_X5_days (l : Launch) (G : XG) (sz : Nat) (kx kim kit kre ksh kwa kta : Nat) (tf rf : Int32) (kb ka kc kcn kl kn : Nat) (w h la : Nat) (af : Nat → Int32) (nc : Nat) (fc : Nat → Int32) (kv km kg : Nat) (vw vh : Nat) (sl : Int32) (mk sg : Nat → Int32) (knn : Nat) (ns : Nat) (fs : Nat → Int32) (hw : 1 ≤ w) (hwb : w ≤ 16) (hhb : h ≤ 16) (hwh : w * h ≤ 16) (hla : la ≤ 9) (hnc : nc ≤ 10) (hcell : ∀ i, i < nc → inR (fc (3 * i + 1)) 16) (hvok : VOK w h la af nc fc mk sg vw vh sl) (hns : ns ≤ 8) (hshown : ∀ i, i < ns → inR (fs (3 * i)) (w * h) ∧ inR (fs (3 * i + 1)) (w * h)) : Met l yX5_days wsX5_days ({ frames := 5, cells := 0, slots := 0, locals := 123 } : Room) (va_Pc [.ref kx] (xWp G sz (w_X5_days G kx kim kit kre ksh kwa kta tf rf kb ka kc kcn kl kn w h la af nc fc kv km kg vw vh sl mk sg knn ns fs))) (Q_X5_days G sz kx kim kit kre ksh kwa kta tf rf kb ka kc kcn kl kn w h la af nc fc kv km kg vw vh sl mk sg knn ns fs) 0 0 (va_A (w_X5_days G kx kim kit kre ksh kwa kta tf rf kb ka kc kcn kl kn w h la af nc fc kv km kg vw vh sl mk sg knn ns fs) sz) := by
  refine Met.ofW (cc := cX5_days) (maxL := 1) (ret := (some .int)) (by decide) rfl ?_
  intro pp ee ss mm aa below mt cd s₁ BB hml hv
  obtain ⟨rfl, hsz, hP, hK, hD0⟩ := hv
  have hx := BB.exec
  have hb := BB.bytes
  have hr := BB.returns
  have hts := atoms_spec (ws := wsX5_days) BB.pre
  have hown : ss.vm.findClass RX5 = some mm.cls := findClass_of_methodNamed BB.named
  have hlocks := BB.notSynchronized
  subst hsz
  have hD := hD0.self (sz := ss.heap.size)
  have hA : ∀ q : Nat, ss.heap.size ≤ q → va_A (w_X5_days G kx kim kit kre ksh kwa kta tf rf kb ka kc kcn kl kn w h la af nc fc kv km kg vw vh sl mk sg knn ns fs) ss.heap.size q := fun q h => Or.inr h
  have hS : va_S (va_A (w_X5_days G kx kim kit kre ksh kwa kta tf rf kb ka kc kcn kl kn w h la af nc fc kv km kg vw vh sl mk sg knn ns fs) ss.heap.size) ss.heap ss.heap [] := va_S.rf
  replace hD : va_D (va_A (w_X5_days G kx kim kit kre ksh kwa kta tf rf kb ka kc kcn kl kn w h la af nc fc kv km kg vw vh sl mk sg knn ns fs) ss.heap.size) [oC kx 5 [.ref kb, .ref kim, .ref kit, .ref kv, .ref kre, .int tf, .ref ksh, .int rf, .ref kwa, .ref kta], oC kb 0 [.int (nI w), .int (nI h), .int (nI la), .ref ka, .ref kc, .ref kl, .ref kn], iA G ka 16 af, oC kc 2 [.ref kcn, .int (nI 10), .int (nI nc)], iA G kcn (3 * 10) fc, oC kv 4 [.ref km, .ref kg, .int (nI vw), .int (nI vh), .int sl], iA G km 176 mk, iA G kg 160 sg, oC kn 2 [.ref knn, .int (nI 8), .int (nI ns)], iA G knn (3 * 8) fs] := hD
  replace hP : xP G [oC kx 5 [.ref kb, .ref kim, .ref kit, .ref kv, .ref kre, .int tf, .ref ksh, .int rf, .ref kwa, .ref kta], oC kb 0 [.int (nI w), .int (nI h), .int (nI la), .ref ka, .ref kc, .ref kl, .ref kn], iA G ka 16 af, oC kc 2 [.ref kcn, .int (nI 10), .int (nI nc)], iA G kcn (3 * 10) fc, oC kv 4 [.ref km, .ref kg, .int (nI vw), .int (nI vh), .int sl], iA G km 176 mk, iA G kg 160 sg, oC kn 2 [.ref knn, .int (nI 8), .int (nI ns)], iA G knn (3 * 8) fs] ss.heap := hP
  have hin0 : ∀ w ∈ u_ws RX0 TX0 7, w ∈ wsX5_days := fun w h => List.mem_cons_of_mem _ (List.mem_append_left _ (List.mem_append_left _ (List.mem_append_right _ h)))
  have hin2 : ∀ w ∈ u_ws RX2 TX2 3, w ∈ wsX5_days := fun w h => List.mem_cons_of_mem _ (List.mem_append_left _ (List.mem_append_right _ h))
  have hin4 : ∀ w ∈ u_ws RX4 TX4 5, w ∈ wsX5_days := fun w h => List.mem_cons_of_mem _ (List.mem_append_right _ h)
  have hin5 : ∀ w ∈ u_ws RX5 TX5 10, w ∈ wsX5_days := fun w h => List.mem_cons_of_mem _ (List.mem_append_left _ (List.mem_append_left _ (List.mem_append_left _ (List.mem_append_right _ h))))
  have hl := lv_entry ([.ref kx]) (n := 1) (Nat.le_of_ble_eq_true rfl)
  rw [lg_entry_eq]
  generalize (lg_sl ([.ref kx]) ++ List.replicate (1 - (lg_sl ([.ref kx])).length) Slot.unset).toArray = ls at hl ⊢
  replace hl : lv_has ls 1 [(0, .ref kx)] := hl
  refine lv_aload_n hx hb dX5_days_0 rfl (lv_at hl 0 rfl) ?_
  refine lv_aload_n hx hb dX5_days_1 rfl (lv_at hl 0 rfl) ?_
  refine va_get (D := G.1) (ci := 5) (v := .ref kb) (C := RX5) (T := TX5) (N := 10) hx hb hts hin5 hown hK.1 hP 0 rfl rfl 0 (by decide) (hts (.fieldLink RX5 10 "BackLenses" "book" "LBackLenses$Book;") (List.mem_of_getElem? (i := 1) rfl)) (fun _ h9 => h9) rfl dX5_days_2 ?_
  refine va_getN (D := G.1) (ci := 0) (v := .ref kn) (C := RX0) (T := TX0) (N := 7) hx hb hts hin0 hown hK.1 hP 1 rfl rfl 6 (by decide) (va_Nw.use rfl (hK.2 (Cond.fieldLinkNest "BackLenses" (161 : Nat) "BackLenses$Book" "shown" "LBackLenses$Rows;" "BackLenses") (List.mem_of_getElem? (i := 21) rfl))) (fun _ h9 => h9) rfl dX5_days_5 ?_
  refine va_getN (D := G.1) (ci := 2) (v := .int (nI ns)) (C := RX2) (T := TX2) (N := 3) hx hb hts hin2 hown hK.1 hP 8 rfl rfl 2 (by decide) (va_Nw.use rfl (hK.2 (Cond.fieldLinkNest "BackLenses" (97 : Nat) "BackLenses$Rows" "size" "I" "BackLenses") (List.mem_of_getElem? (i := 3) rfl))) (fun _ h9 => h9) rfl dX5_days_8 ?_
  refine xw_i (As := [.int (nI ns)]) (rest := []) (wr := []) ⟨hx, hb, hml, hown, hts⟩ (c_X5_fitting l G ss.heap.size kx kim kit kre ksh kwa kta tf rf kb ka kc kcn kl kn w h la af nc fc kv km kg vw vh sl mk sg knn ns fs ns (by first | assumption | omega) (by first | assumption | omega) (by first | assumption | omega) (by first | assumption | omega) (by first | assumption | omega) (by first | assumption | omega) (by first | assumption | omega) (by first | assumption | omega) (by first | assumption | omega) (by first | assumption | omega) (by first | assumption | omega)) (cwV 1 hts gX5_days_X5_fitting rfl rfl rfl (by decide +kernel) ⟨Nat.le_of_ble_eq_true rfl, Nat.le_of_ble_eq_true rfl⟩) hK hP hD hS hA [0, 1, 2, 3, 4, 5, 6, 7, 8, 9] [] rfl rfl (by decide) (by decide) (by decide) rfl rfl rfl hl.1 rfl (Nat.le_of_ble_eq_true rfl) dX5_days_11 ⟨Nat.le_of_ble_eq_true rfl, Nat.le_of_ble_eq_true rfl⟩ (fun r11 u H locs hp11 hP hD hS => ?_)
  obtain ⟨mk2_11, sg2_11, vw2_11, vh2_11, sl2_11⟩ := u
  try dsimp only at hp11 hP hD
  obtain ⟨rfl, he11⟩ := hp11
  replace hP : xP G [oC kx 5 [.ref kb, .ref kim, .ref kit, .ref kv, .ref kre, .int tf, .ref ksh, .int rf, .ref kwa, .ref kta], oC kb 0 [.int (nI w), .int (nI h), .int (nI la), .ref ka, .ref kc, .ref kl, .ref kn], iA G ka 16 af, oC kc 2 [.ref kcn, .int (nI 10), .int (nI nc)], iA G kcn (3 * 10) fc, oC kv 4 [.ref km, .ref kg, .int (nI vw2_11), .int (nI vh2_11), .int sl2_11], iA G km 176 mk2_11, iA G kg 160 sg2_11, oC kn 2 [.ref knn, .int (nI 8), .int (nI ns)], iA G knn (3 * 8) fs] H := hP
  replace hD : va_D (va_A (w_X5_days G kx kim kit kre ksh kwa kta tf rf kb ka kc kcn kl kn w h la af nc fc kv km kg vw vh sl mk sg knn ns fs) ss.heap.size) [oC kx 5 [.ref kb, .ref kim, .ref kit, .ref kv, .ref kre, .int tf, .ref ksh, .int rf, .ref kwa, .ref kta], oC kb 0 [.int (nI w), .int (nI h), .int (nI la), .ref ka, .ref kc, .ref kl, .ref kn], iA G ka 16 af, oC kc 2 [.ref kcn, .int (nI 10), .int (nI nc)], iA G kcn (3 * 10) fc, oC kv 4 [.ref km, .ref kg, .int (nI vw2_11), .int (nI vh2_11), .int sl2_11], iA G km 176 mk2_11, iA G kg 160 sg2_11, oC kn 2 [.ref knn, .int (nI 8), .int (nI ns)], iA G knn (3 * 8) fs] := hD
  have hP := hP.sub (ws' := [oC kx 5 [.ref kb, .ref kim, .ref kit, .ref kv, .ref kre, .int tf, .ref ksh, .int rf, .ref kwa, .ref kta], oC kb 0 [.int (nI w), .int (nI h), .int (nI la), .ref ka, .ref kc, .ref kl, .ref kn], iA G ka 16 af, oC kc 2 [.ref kcn, .int (nI 10), .int (nI nc)], iA G kcn (3 * 10) fc, oC kv 4 [.ref km, .ref kg, .int (nI vw2_11), .int (nI vh2_11), .int sl2_11], iA G km 176 mk2_11, iA G kg 160 sg2_11, oC kn 2 [.ref knn, .int (nI 8), .int (nI ns)], iA G knn (3 * 8) fs]) [0, 1, 2, 3, 4, 5, 6, 7, 8, 9] rfl
  have hD := hD.sub (ws' := [oC kx 5 [.ref kb, .ref kim, .ref kit, .ref kv, .ref kre, .int tf, .ref ksh, .int rf, .ref kwa, .ref kta], oC kb 0 [.int (nI w), .int (nI h), .int (nI la), .ref ka, .ref kc, .ref kl, .ref kn], iA G ka 16 af, oC kc 2 [.ref kcn, .int (nI 10), .int (nI nc)], iA G kcn (3 * 10) fc, oC kv 4 [.ref km, .ref kg, .int (nI vw2_11), .int (nI vh2_11), .int sl2_11], iA G km 176 mk2_11, iA G kg 160 sg2_11, oC kn 2 [.ref knn, .int (nI 8), .int (nI ns)], iA G knn (3 * 8) fs]) [0, 1, 2, 3, 4, 5, 6, 7, 8, 9] (by decide) rfl
  refine W.iret (v := fitS w h la af nc fc fs ns) hx hb hr (fun t ht hW => ⟨⟨fitS w h la af nc fc fs ns, (mk2_11, sg2_11, vw2_11, vh2_11, sl2_11), rfl, ?_, by rw [ht]; exact hP, hD⟩, hS.F ht⟩) hS.2.2 dX5_days_14
  try dsimp only
  exact ⟨rfl, he11⟩

abbrev w_X5_again (G : XG) (kx kim kit kre ksh kwa kta : Nat) (tf rf : Int32) (kb ka kc kcn kl kn : Nat) (w h la : Nat) (af : Nat → Int32) (nc : Nat) (fc : Nat → Int32) (kv km kg : Nat) (vw vh : Nat) (sl : Int32) (mk sg : Nat → Int32) : va_W := [oC kx 5 [.ref kb, .ref kim, .ref kit, .ref kv, .ref kre, .int tf, .ref ksh, .int rf, .ref kwa, .ref kta], oC kb 0 [.int (nI w), .int (nI h), .int (nI la), .ref ka, .ref kc, .ref kl, .ref kn], iA G ka 16 af, oC kc 2 [.ref kcn, .int (nI 10), .int (nI nc)], iA G kcn (3 * 10) fc, oC kv 4 [.ref km, .ref kg, .int (nI vw), .int (nI vh), .int sl], iA G km 176 mk, iA G kg 160 sg]
abbrev Q_X5_again (G : XG) (sz : Nat) (kx kim kit kre ksh kwa kta : Nat) (tf rf : Int32) (kb ka kc kcn kl kn : Nat) (w h la : Nat) (af : Nat → Int32) (nc : Nat) (fc : Nat → Int32) (kv km kg : Nat) (vw vh : Nat) (sl : Int32) (mk sg : Nat → Int32) : Array Value → State → Outcome → State → Prop := (va_Qi (fun (r : Int32) (u : (Nat → Int32) × (Nat → Int32) × Nat × Nat × Int32) => r = xbits (fun d => anyF (fun e => decide (unS w h af nc fc e d = 0)) d) (la + 1) ∧ VOK w h la af nc fc u.1 u.2.1 u.2.2.1 u.2.2.2.1 u.2.2.2.2) (xWb G sz (w_X5_again G kx kim kit kre ksh kwa kta tf rf kb ka kc kcn kl kn w h la af nc fc kv km kg vw vh sl mk sg) (fun u : (Nat → Int32) × (Nat → Int32) × Nat × Nat × Int32 => [oC kx 5 [.ref kb, .ref kim, .ref kit, .ref kv, .ref kre, .int tf, .ref ksh, .int rf, .ref kwa, .ref kta], oC kb 0 [.int (nI w), .int (nI h), .int (nI la), .ref ka, .ref kc, .ref kl, .ref kn], iA G ka 16 af, oC kc 2 [.ref kcn, .int (nI 10), .int (nI nc)], iA G kcn (3 * 10) fc, oC kv 4 [.ref km, .ref kg, .int (nI u.2.2.1), .int (nI u.2.2.2.1), .int u.2.2.2.2], iA G km 176 u.1, iA G kg 160 u.2.1])) (va_A (w_X5_again G kx kim kit kre ksh kwa kta tf rf kb ka kc kcn kl kn w h la af nc fc kv km kg vw vh sl mk sg) sz))
set_option maxHeartbeats 4000000 in
set_option maxRecDepth 100000 in
theorem c_X5_again (l : Launch) (G : XG) (sz : Nat) (kx kim kit kre ksh kwa kta : Nat) (tf rf : Int32) (kb ka kc kcn kl kn : Nat) (w h la : Nat) (af : Nat → Int32) (nc : Nat) (fc : Nat → Int32) (kv km kg : Nat) (vw vh : Nat) (sl : Int32) (mk sg : Nat → Int32) (hw : 1 ≤ w) (hwb : w ≤ 16) (hhb : h ≤ 16) (hwh : w * h ≤ 16) (hla : la ≤ 9) (hnc : nc ≤ 10) (hcell : ∀ i, i < nc → inR (fc (3 * i + 1)) 16) (hvok : VOK w h la af nc fc mk sg vw vh sl) : Met l yX5_again wsX5_again ({ frames := 4, cells := 0, slots := 0, locals := 96 } : Room) (va_Pc [.ref kx] (xWp G sz (w_X5_again G kx kim kit kre ksh kwa kta tf rf kb ka kc kcn kl kn w h la af nc fc kv km kg vw vh sl mk sg))) (Q_X5_again G sz kx kim kit kre ksh kwa kta tf rf kb ka kc kcn kl kn w h la af nc fc kv km kg vw vh sl mk sg) 0 0 (va_A (w_X5_again G kx kim kit kre ksh kwa kta tf rf kb ka kc kcn kl kn w h la af nc fc kv km kg vw vh sl mk sg) sz) := by
  refine Met.ofW (cc := cX5_again) (maxL := 5) (ret := (some .int)) (by decide) rfl ?_
  intro pp ee ss mm aa below mt cd s₁ BB hml hv
  obtain ⟨rfl, hsz, hP, hK, hD0⟩ := hv
  have hx := BB.exec
  have hb := BB.bytes
  have hr := BB.returns
  have hts := atoms_spec (ws := wsX5_again) BB.pre
  have hown : ss.vm.findClass RX5 = some mm.cls := findClass_of_methodNamed BB.named
  have hlocks := BB.notSynchronized
  subst hsz
  have hD := hD0.self (sz := ss.heap.size)
  have hA : ∀ q : Nat, ss.heap.size ≤ q → va_A (w_X5_again G kx kim kit kre ksh kwa kta tf rf kb ka kc kcn kl kn w h la af nc fc kv km kg vw vh sl mk sg) ss.heap.size q := fun q h => Or.inr h
  have hS : va_S (va_A (w_X5_again G kx kim kit kre ksh kwa kta tf rf kb ka kc kcn kl kn w h la af nc fc kv km kg vw vh sl mk sg) ss.heap.size) ss.heap ss.heap [] := va_S.rf
  replace hD : va_D (va_A (w_X5_again G kx kim kit kre ksh kwa kta tf rf kb ka kc kcn kl kn w h la af nc fc kv km kg vw vh sl mk sg) ss.heap.size) [oC kx 5 [.ref kb, .ref kim, .ref kit, .ref kv, .ref kre, .int tf, .ref ksh, .int rf, .ref kwa, .ref kta], oC kb 0 [.int (nI w), .int (nI h), .int (nI la), .ref ka, .ref kc, .ref kl, .ref kn], iA G ka 16 af, oC kc 2 [.ref kcn, .int (nI 10), .int (nI nc)], iA G kcn (3 * 10) fc, oC kv 4 [.ref km, .ref kg, .int (nI vw), .int (nI vh), .int sl], iA G km 176 mk, iA G kg 160 sg] := hD
  replace hP : xP G [oC kx 5 [.ref kb, .ref kim, .ref kit, .ref kv, .ref kre, .int tf, .ref ksh, .int rf, .ref kwa, .ref kta], oC kb 0 [.int (nI w), .int (nI h), .int (nI la), .ref ka, .ref kc, .ref kl, .ref kn], iA G ka 16 af, oC kc 2 [.ref kcn, .int (nI 10), .int (nI nc)], iA G kcn (3 * 10) fc, oC kv 4 [.ref km, .ref kg, .int (nI vw), .int (nI vh), .int sl], iA G km 176 mk, iA G kg 160 sg] ss.heap := hP
  have hin0 : ∀ w ∈ u_ws RX0 TX0 7, w ∈ wsX5_again := fun w h => List.mem_cons_of_mem _ (List.mem_append_left _ (List.mem_append_left _ (List.mem_append_right _ h)))
  have hin2 : ∀ w ∈ u_ws RX2 TX2 3, w ∈ wsX5_again := fun w h => List.mem_cons_of_mem _ (List.mem_append_right _ h)
  have hin4 : ∀ w ∈ u_ws RX4 TX4 5, w ∈ wsX5_again := fun w h => List.mem_cons_of_mem _ (List.mem_append_left _ (List.mem_append_right _ h))
  have hin5 : ∀ w ∈ u_ws RX5 TX5 10, w ∈ wsX5_again := fun w h => List.mem_cons_of_mem _ (List.mem_append_left _ (List.mem_append_left _ (List.mem_append_left _ (List.mem_append_right _ h))))
  have hl := lv_entry ([.ref kx]) (n := 5) (Nat.le_of_ble_eq_true rfl)
  rw [lg_entry_eq]
  generalize (lg_sl ([.ref kx]) ++ List.replicate (5 - (lg_sl ([.ref kx])).length) Slot.unset).toArray = ls at hl ⊢
  replace hl : lv_has ls 5 [(0, .ref kx)] := hl
  refine lv_aload_n hx hb dX5_again_0 rfl (lv_at hl 0 rfl) ?_
  refine xw_r (As := []) (rest := []) (wr := []) ⟨hx, hb, hml, hown, hts⟩ (c_X5_freshViews l G ss.heap.size kx kim kit kre ksh kwa kta tf rf kb ka kc kcn kl kn w h la af nc fc kv km kg vw vh sl mk sg (by first | assumption | omega) (by first | assumption | omega) (by first | assumption | omega) (by first | assumption | omega) (by first | assumption | omega) (by first | assumption | omega) (by first | assumption | omega) (by first | assumption | omega)) (cwV 0 hts gX5_again_X5_freshViews rfl rfl rfl (by decide +kernel) ⟨Nat.le_of_ble_eq_true rfl, Nat.le_of_ble_eq_true rfl⟩) hK hP hD hS hA [0, 1, 2, 3, 4, 5, 6, 7] [] rfl rfl (by decide) (by decide) (by decide) rfl rfl rfl hl.1 rfl (Nat.le_of_ble_eq_true rfl) dX5_again_1 ⟨Nat.le_of_ble_eq_true rfl, Nat.le_of_ble_eq_true rfl⟩ (fun u H locs hp1 hP hD hS => ?_)
  obtain ⟨mk2_1, sg2_1⟩ := u
  try dsimp only at hp1 hP hD
  have he1 := hp1
  replace hP : xP G [oC kx 5 [.ref kb, .ref kim, .ref kit, .ref kv, .ref kre, .int tf, .ref ksh, .int rf, .ref kwa, .ref kta], oC kb 0 [.int (nI w), .int (nI h), .int (nI la), .ref ka, .ref kc, .ref kl, .ref kn], iA G ka 16 af, oC kc 2 [.ref kcn, .int (nI 10), .int (nI nc)], iA G kcn (3 * 10) fc, oC kv 4 [.ref km, .ref kg, .int (nI w), .int (nI h), .int (nI 0)], iA G km 176 mk2_1, iA G kg 160 sg2_1] H := hP
  replace hD : va_D (va_A (w_X5_again G kx kim kit kre ksh kwa kta tf rf kb ka kc kcn kl kn w h la af nc fc kv km kg vw vh sl mk sg) ss.heap.size) [oC kx 5 [.ref kb, .ref kim, .ref kit, .ref kv, .ref kre, .int tf, .ref ksh, .int rf, .ref kwa, .ref kta], oC kb 0 [.int (nI w), .int (nI h), .int (nI la), .ref ka, .ref kc, .ref kl, .ref kn], iA G ka 16 af, oC kc 2 [.ref kcn, .int (nI 10), .int (nI nc)], iA G kcn (3 * 10) fc, oC kv 4 [.ref km, .ref kg, .int (nI w), .int (nI h), .int (nI 0)], iA G km 176 mk2_1, iA G kg 160 sg2_1] := hD
  refine lv_astore_n (lv' := [(1, .ref kv), (0, .ref kx)]) hx hb dX5_again_4 rfl hl (by decide) rfl (fun ls hl => ?_)
  refine lv_iconst (v := nI 0) hx hb dX5_again_5 (by decide) ?_
  refine lv_istore_n (lv' := [(2, .int (nI 0)), (1, .ref kv), (0, .ref kx)]) hx hb dX5_again_6 rfl hl (by decide) rfl (fun ls hl => ?_)
  refine lv_iconst (v := nI 1) hx hb dX5_again_7 (by decide) ?_
  refine lv_istore_n (lv' := [(3, .int (nI 1)), (2, .int (nI 0)), (1, .ref kv), (0, .ref kx)]) hx hb dX5_again_8 rfl hl (by decide) rfl (fun ls hl => ?_)
  have hL9 : ∀ k : Nat, ∀ (d : Nat) (bits : Int32) (ls : Array Slot) (H : Heap) (locs : List Loc), la + 1 - d = k → (1 ≤ d) → (d ≤ la + 1 ∨ d = 1) → (bits = xbits (fun d => anyF (fun e => decide (unS w h af nc fc e d = 0)) d) d) → lv_has ls 5 [(0, .ref kx), (1, .ref kv), (2, .int bits), (3, .int (nI d))] → xP G [iA G ka 16 af, oC kb 0 [.int (nI w), .int (nI h), .int (nI la), .ref ka, .ref kc, .ref kl, .ref kn], oC kc 2 [.ref kcn, .int (nI 10), .int (nI nc)], iA G kcn (3 * 10) fc, iA G kg 160 sg2_1, iA G km 176 mk2_1, oC kv 4 [.ref km, .ref kg, .int (nI w), .int (nI h), .int (nI 0)], oC kx 5 [.ref kb, .ref kim, .ref kit, .ref kv, .ref kre, .int tf, .ref ksh, .int rf, .ref kwa, .ref kta]] H → va_D (va_A (w_X5_again G kx kim kit kre ksh kwa kta tf rf kb ka kc kcn kl kn w h la af nc fc kv km kg vw vh sl mk sg) ss.heap.size) [iA G ka 16 af, oC kb 0 [.int (nI w), .int (nI h), .int (nI la), .ref ka, .ref kc, .ref kl, .ref kn], oC kc 2 [.ref kcn, .int (nI 10), .int (nI nc)], iA G kcn (3 * 10) fc, iA G kg 160 sg2_1, iA G km 176 mk2_1, oC kv 4 [.ref km, .ref kg, .int (nI w), .int (nI h), .int (nI 0)], oC kx 5 [.ref kb, .ref kim, .ref kit, .ref kv, .ref kre, .int tf, .ref ksh, .int rf, .ref kwa, .ref kta]] → va_S (va_A (w_X5_again G kx kim kit kre ksh kwa kta tf rf kb ka kc kcn kl kn w h la af nc fc kv km kg vw vh sl mk sg) ss.heap.size) ss.heap H locs → W pp l ee ({ frames := 4, cells := 0, slots := 0, locals := 96 } : Room) ss mm ([.ref kx] : List Value).toArray below mt cd H locs 0 0 (MQ below (Q_X5_again G ss.heap.size kx kim kit kre ksh kwa kta tf rf kb ka kc kcn kl kn w h la af nc fc kv km kg vw vh sl mk sg) ([.ref kx] : List Value).toArray ss 0 0 (va_A (w_X5_again G kx kim kit kre ksh kwa kta tf rf kb ka kc kcn kl kn w h la af nc fc kv km kg vw vh sl mk sg) ss.heap.size)) (F0 mm 9 ls []) := by
    intro k
    induction k using Nat.strongRecOn with
    | _ k ih9 =>
    intro d bits ls H locs hm9 h1d hd hbits hl hP hD hS
    refine lv_iload_n hx hb dX5_again_9 rfl (lv_at hl 3 rfl) ?_
    refine lv_aload_n hx hb dX5_again_10 rfl (lv_at hl 0 rfl) ?_
    refine va_get (D := G.1) (ci := 5) (v := .ref kb) (C := RX5) (T := TX5) (N := 10) hx hb hts hin5 hown hK.1 hP 7 rfl rfl 0 (by decide) (hts (.fieldLink RX5 10 "BackLenses" "book" "LBackLenses$Book;") (List.mem_of_getElem? (i := 1) rfl)) (fun _ h9 => h9) rfl dX5_again_11 ?_
    refine va_getN (D := G.1) (ci := 0) (v := .int (nI la)) (C := RX0) (T := TX0) (N := 7) hx hb hts hin0 hown hK.1 hP 1 rfl rfl 2 (by decide) (va_Nw.use rfl (hK.2 (Cond.fieldLinkNest "BackLenses" (90 : Nat) "BackLenses$Book" "last" "I" "BackLenses") (List.mem_of_getElem? (i := 11) rfl))) (fun _ h9 => h9) rfl dX5_again_14 ?_
    refine xn_icmp_gt (tgt := 60) hx hb (by omega) (by omega) dX5_again_17 rfl (fun b17 => ?_) (fun b17 => ?_)
    · skip
      refine lv_iload_n hx hb dX5_again_60 rfl (lv_at hl 2 rfl) ?_
      have hP := hP.sub (ws' := [oC kx 5 [.ref kb, .ref kim, .ref kit, .ref kv, .ref kre, .int tf, .ref ksh, .int rf, .ref kwa, .ref kta], oC kb 0 [.int (nI w), .int (nI h), .int (nI la), .ref ka, .ref kc, .ref kl, .ref kn], iA G ka 16 af, oC kc 2 [.ref kcn, .int (nI 10), .int (nI nc)], iA G kcn (3 * 10) fc, oC kv 4 [.ref km, .ref kg, .int (nI w), .int (nI h), .int (nI 0)], iA G km 176 mk2_1, iA G kg 160 sg2_1]) [7, 1, 0, 2, 3, 6, 5, 4] rfl
      have hD := hD.sub (ws' := [oC kx 5 [.ref kb, .ref kim, .ref kit, .ref kv, .ref kre, .int tf, .ref ksh, .int rf, .ref kwa, .ref kta], oC kb 0 [.int (nI w), .int (nI h), .int (nI la), .ref ka, .ref kc, .ref kl, .ref kn], iA G ka 16 af, oC kc 2 [.ref kcn, .int (nI 10), .int (nI nc)], iA G kcn (3 * 10) fc, oC kv 4 [.ref km, .ref kg, .int (nI w), .int (nI h), .int (nI 0)], iA G km 176 mk2_1, iA G kg 160 sg2_1]) [7, 1, 0, 2, 3, 6, 5, 4] (by decide) rfl
      refine W.iret (v := bits) hx hb hr (fun t ht hW => ⟨⟨bits, (mk2_1, sg2_1, w, h, nI 0), rfl, ?_, by rw [ht]; exact hP, hD⟩, hS.F ht⟩) hS.2.2 dX5_again_61
      try dsimp only
      refine ⟨?_, VOK_fr he1⟩; rcases hd with hd | hd; (rw [hbits, show d = la + 1 by omega]); (rw [hbits, show d = la + 1 by omega])
    · skip
      refine lv_iconst (v := nI 0) hx hb dX5_again_20 (by decide) ?_
      refine lv_istore (lv' := [(4, .int (nI 0)), (0, .ref kx), (1, .ref kv), (2, .int bits), (3, .int (nI d))]) hx hb dX5_again_21 hl (by decide) rfl (fun ls hl => ?_)
      have hL23 : ∀ k : Nat, ∀ (e : Nat) (ls : Array Slot) (H : Heap) (locs : List Loc), d - e = k → (e ≤ d) → (anyF (fun e => decide (unS w h af nc fc e d = 0)) e = false) → lv_has ls 5 [(0, .ref kx), (1, .ref kv), (2, .int bits), (3, .int (nI d)), (4, .int (nI e))] → xP G [iA G ka 16 af, oC kb 0 [.int (nI w), .int (nI h), .int (nI la), .ref ka, .ref kc, .ref kl, .ref kn], oC kc 2 [.ref kcn, .int (nI 10), .int (nI nc)], iA G kcn (3 * 10) fc, iA G kg 160 sg2_1, iA G km 176 mk2_1, oC kv 4 [.ref km, .ref kg, .int (nI w), .int (nI h), .int (nI 0)], oC kx 5 [.ref kb, .ref kim, .ref kit, .ref kv, .ref kre, .int tf, .ref ksh, .int rf, .ref kwa, .ref kta]] H → va_D (va_A (w_X5_again G kx kim kit kre ksh kwa kta tf rf kb ka kc kcn kl kn w h la af nc fc kv km kg vw vh sl mk sg) ss.heap.size) [iA G ka 16 af, oC kb 0 [.int (nI w), .int (nI h), .int (nI la), .ref ka, .ref kc, .ref kl, .ref kn], oC kc 2 [.ref kcn, .int (nI 10), .int (nI nc)], iA G kcn (3 * 10) fc, iA G kg 160 sg2_1, iA G km 176 mk2_1, oC kv 4 [.ref km, .ref kg, .int (nI w), .int (nI h), .int (nI 0)], oC kx 5 [.ref kb, .ref kim, .ref kit, .ref kv, .ref kre, .int tf, .ref ksh, .int rf, .ref kwa, .ref kta]] → va_S (va_A (w_X5_again G kx kim kit kre ksh kwa kta tf rf kb ka kc kcn kl kn w h la af nc fc kv km kg vw vh sl mk sg) ss.heap.size) ss.heap H locs → W pp l ee ({ frames := 4, cells := 0, slots := 0, locals := 96 } : Room) ss mm ([.ref kx] : List Value).toArray below mt cd H locs 0 0 (MQ below (Q_X5_again G ss.heap.size kx kim kit kre ksh kwa kta tf rf kb ka kc kcn kl kn w h la af nc fc kv km kg vw vh sl mk sg) ([.ref kx] : List Value).toArray ss 0 0 (va_A (w_X5_again G kx kim kit kre ksh kwa kta tf rf kb ka kc kcn kl kn w h la af nc fc kv km kg vw vh sl mk sg) ss.heap.size)) (F0 mm 23 ls []) := by
        intro k
        induction k using Nat.strongRecOn with
        | _ k ih23 =>
        intro e ls H locs hm23 hei hne hl hP hD hS
        refine lv_iload hx hb dX5_again_23 (lv_at hl 4 rfl) ?_
        refine lv_iload_n hx hb dX5_again_25 rfl (lv_at hl 3 rfl) ?_
        refine xn_icmp_ge (tgt := 54) hx hb (by omega) (by omega) dX5_again_26 rfl (fun b26 => ?_) (fun b26 => ?_)
        · skip
          refine lv_iinc (k := 3) (v := nI (d + 1)) (lv' := [(3, .int (nI (d + 1))), (0, .ref kx), (1, .ref kv), (2, .int bits), (4, .int (nI e))]) hx hb dX5_again_54 hl rfl (xn_inc d 1) (by decide) rfl (fun ls hl => ?_)
          refine lv_goto (tgt := 9) hx hb dX5_again_57 rfl ?_
          have hl := lv_sub hl (l' := [(0, .ref kx), (1, .ref kv), (2, .int bits), (3, .int (nI (d + 1)))]) [1, 2, 3, 0] rfl
          exact ih9 (la + 1 - (d + 1)) (by omega) (d + 1) bits ls H locs rfl (by omega) (by omega) (by first | exact xbits_T hyes hbits | exact xbits_N (by rw [show e = d by omega] at hne; exact hne) hbits) hl hP hD hS
        · skip
          refine lv_aload_n hx hb dX5_again_29 rfl (lv_at hl 1 rfl) ?_
          refine lv_iload hx hb dX5_again_30 (lv_at hl 4 rfl) ?_
          refine lv_iload_n hx hb dX5_again_32 rfl (lv_at hl 3 rfl) ?_
          refine xr_i (As := [.int (nI e), .int (nI d)]) (rest := []) ⟨hx, hb, hml, hown, hts⟩ (c_X4_unlike l G kv km kg w h (nI 0) mk2_1 e d (by first | assumption | omega) (by first | assumption | omega) (by first | assumption | omega)) (cwV 2 hts gX5_again_X4_unlike rfl rfl rfl (by decide +kernel) ⟨Nat.le_of_ble_eq_true rfl, Nat.le_of_ble_eq_true rfl⟩) hK hP hS [6, 5] rfl rfl rfl rfl hl.1 rfl (Nat.le_of_ble_eq_true rfl) dX5_again_33 ⟨Nat.zero_le _, Nat.zero_le _⟩ (fun r33 H locs hp33 hP hS => ?_)
          obtain rfl : r33 = xbits (fun c => !decide (mk2_1 (e * 16 + c) = mk2_1 (d * 16 + c))) (w * h) := hp33
          refine xn_top (FR_unl he1 hwh (by omega) (by omega)) ?_
          refine lv_if_ne (tgt := 48) hx hb dX5_again_36 rfl (fun b36 => ?_) (fun b36 => ?_)
          · skip
            refine lv_iinc (k := 4) (v := nI (e + 1)) (lv' := [(4, .int (nI (e + 1))), (0, .ref kx), (1, .ref kv), (2, .int bits), (3, .int (nI d))]) hx hb dX5_again_48 hl rfl (xn_inc e 1) (by decide) rfl (fun ls hl => ?_)
            refine lv_goto (tgt := 23) hx hb dX5_again_51 rfl ?_
            have hl := lv_sub hl (l' := [(0, .ref kx), (1, .ref kv), (2, .int bits), (3, .int (nI d)), (4, .int (nI (e + 1)))]) [1, 2, 3, 4, 0] rfl
            exact ih23 (d - (e + 1)) (by omega) (e + 1) ls H locs rfl (by omega) (by rw [anyF, hne, Bool.false_or]; exact decide_eq_false b36) hl hP hD hS
          · skip
            have hyes : anyF (fun e => decide (unS w h af nc fc e d = 0)) d = true := anyF_true (i := e) (by omega) (decide_eq_true b36)
            refine lv_iload_n hx hb dX5_again_39 rfl (lv_at hl 2 rfl) ?_
            refine lv_iconst (v := nI 1) hx hb dX5_again_40 (by decide) ?_
            refine lv_iload_n hx hb dX5_again_41 rfl (lv_at hl 3 rfl) ?_
            refine lv_ishl hx hb dX5_again_42 ?_
            refine lv_ior hx hb dX5_again_43 ?_
            refine lv_istore_n (lv' := [(2, .int (bits ||| ((nI 1) <<< ((nI d) &&& 31)))), (0, .ref kx), (1, .ref kv), (3, .int (nI d)), (4, .int (nI e))]) hx hb dX5_again_44 rfl hl (by decide) rfl (fun ls hl => ?_)
            refine lv_goto (tgt := 54) hx hb dX5_again_45 rfl ?_
            refine lv_iinc (k := 3) (v := nI (d + 1)) (lv' := [(3, .int (nI (d + 1))), (2, .int (bits ||| ((nI 1) <<< ((nI d) &&& 31)))), (0, .ref kx), (1, .ref kv), (4, .int (nI e))]) hx hb dX5_again_54 hl rfl (xn_inc d 1) (by decide) rfl (fun ls hl => ?_)
            refine lv_goto (tgt := 9) hx hb dX5_again_57 rfl ?_
            have hl := lv_sub hl (l' := [(0, .ref kx), (1, .ref kv), (2, .int (bits ||| ((nI 1) <<< ((nI d) &&& 31)))), (3, .int (nI (d + 1)))]) [2, 3, 1, 0] rfl
            exact ih9 (la + 1 - (d + 1)) (by omega) (d + 1) (bits ||| ((nI 1) <<< ((nI d) &&& 31))) ls H locs rfl (by omega) (by omega) (by first | exact xbits_T hyes hbits | exact xbits_N (by rw [show e = d by omega] at hne; exact hne) hbits) hl hP hD hS
      have hl := lv_sub hl (l' := [(0, .ref kx), (1, .ref kv), (2, .int bits), (3, .int (nI d)), (4, .int (nI 0))]) [1, 2, 3, 4, 0] rfl
      exact hL23 (d - 0) 0 ls H locs rfl (by omega) (by rfl) hl hP hD hS
  have hl := lv_sub hl (l' := [(0, .ref kx), (1, .ref kv), (2, .int (nI 0)), (3, .int (nI 1))]) [3, 2, 1, 0] rfl
  have hP := hP.sub (ws' := [iA G ka 16 af, oC kb 0 [.int (nI w), .int (nI h), .int (nI la), .ref ka, .ref kc, .ref kl, .ref kn], oC kc 2 [.ref kcn, .int (nI 10), .int (nI nc)], iA G kcn (3 * 10) fc, iA G kg 160 sg2_1, iA G km 176 mk2_1, oC kv 4 [.ref km, .ref kg, .int (nI w), .int (nI h), .int (nI 0)], oC kx 5 [.ref kb, .ref kim, .ref kit, .ref kv, .ref kre, .int tf, .ref ksh, .int rf, .ref kwa, .ref kta]]) [2, 1, 3, 4, 7, 6, 5, 0] rfl
  have hD := hD.sub (ws' := [iA G ka 16 af, oC kb 0 [.int (nI w), .int (nI h), .int (nI la), .ref ka, .ref kc, .ref kl, .ref kn], oC kc 2 [.ref kcn, .int (nI 10), .int (nI nc)], iA G kcn (3 * 10) fc, iA G kg 160 sg2_1, iA G km 176 mk2_1, oC kv 4 [.ref km, .ref kg, .int (nI w), .int (nI h), .int (nI 0)], oC kx 5 [.ref kb, .ref kim, .ref kit, .ref kv, .ref kre, .int tf, .ref ksh, .int rf, .ref kwa, .ref kta]]) [2, 1, 3, 4, 7, 6, 5, 0] (by decide) rfl
  exact hL9 (la + 1 - 1) 1 (nI 0) ls H locs rfl (by omega) (by omega) (by rfl) hl hP hD hS

abbrev w_X5_daysOfChange (G : XG) (kx kim kit kre ksh kwa kta : Nat) (tf rf : Int32) (kb ka kc kcn kl kn : Nat) (w h la : Nat) (af : Nat → Int32) (nc : Nat) (fc : Nat → Int32) (kv km kg : Nat) (vw vh : Nat) (sl : Int32) (mk sg : Nat → Int32) : va_W := [oC kx 5 [.ref kb, .ref kim, .ref kit, .ref kv, .ref kre, .int tf, .ref ksh, .int rf, .ref kwa, .ref kta], oC kb 0 [.int (nI w), .int (nI h), .int (nI la), .ref ka, .ref kc, .ref kl, .ref kn], iA G ka 16 af, oC kc 2 [.ref kcn, .int (nI 10), .int (nI nc)], iA G kcn (3 * 10) fc, oC kv 4 [.ref km, .ref kg, .int (nI vw), .int (nI vh), .int sl], iA G km 176 mk, iA G kg 160 sg]
abbrev Q_X5_daysOfChange (G : XG) (sz : Nat) (kx kim kit kre ksh kwa kta : Nat) (tf rf : Int32) (kb ka kc kcn kl kn : Nat) (w h la : Nat) (af : Nat → Int32) (nc : Nat) (fc : Nat → Int32) (kv km kg : Nat) (vw vh : Nat) (sl : Int32) (mk sg : Nat → Int32) : Array Value → State → Outcome → State → Prop := (va_Qi (fun (r : Int32) (u : (Nat → Int32) × (Nat → Int32) × Nat × Nat × Int32) => r = nI (cntF (fun d => decide (¬ unS w h af nc fc d (d + 1) = 0)) la) ∧ VOK w h la af nc fc u.1 u.2.1 u.2.2.1 u.2.2.2.1 u.2.2.2.2) (xWb G sz (w_X5_daysOfChange G kx kim kit kre ksh kwa kta tf rf kb ka kc kcn kl kn w h la af nc fc kv km kg vw vh sl mk sg) (fun u : (Nat → Int32) × (Nat → Int32) × Nat × Nat × Int32 => [oC kx 5 [.ref kb, .ref kim, .ref kit, .ref kv, .ref kre, .int tf, .ref ksh, .int rf, .ref kwa, .ref kta], oC kb 0 [.int (nI w), .int (nI h), .int (nI la), .ref ka, .ref kc, .ref kl, .ref kn], iA G ka 16 af, oC kc 2 [.ref kcn, .int (nI 10), .int (nI nc)], iA G kcn (3 * 10) fc, oC kv 4 [.ref km, .ref kg, .int (nI u.2.2.1), .int (nI u.2.2.2.1), .int u.2.2.2.2], iA G km 176 u.1, iA G kg 160 u.2.1])) (va_A (w_X5_daysOfChange G kx kim kit kre ksh kwa kta tf rf kb ka kc kcn kl kn w h la af nc fc kv km kg vw vh sl mk sg) sz))
set_option maxHeartbeats 4000000 in
set_option maxRecDepth 100000 in
theorem c_X5_daysOfChange (l : Launch) (G : XG) (sz : Nat) (kx kim kit kre ksh kwa kta : Nat) (tf rf : Int32) (kb ka kc kcn kl kn : Nat) (w h la : Nat) (af : Nat → Int32) (nc : Nat) (fc : Nat → Int32) (kv km kg : Nat) (vw vh : Nat) (sl : Int32) (mk sg : Nat → Int32) (hw : 1 ≤ w) (hwb : w ≤ 16) (hhb : h ≤ 16) (hwh : w * h ≤ 16) (hla : la ≤ 9) (hnc : nc ≤ 10) (hcell : ∀ i, i < nc → inR (fc (3 * i + 1)) 16) (hvok : VOK w h la af nc fc mk sg vw vh sl) : Met l yX5_daysOfChange wsX5_daysOfChange ({ frames := 4, cells := 0, slots := 0, locals := 96 } : Room) (va_Pc [.ref kx] (xWp G sz (w_X5_daysOfChange G kx kim kit kre ksh kwa kta tf rf kb ka kc kcn kl kn w h la af nc fc kv km kg vw vh sl mk sg))) (Q_X5_daysOfChange G sz kx kim kit kre ksh kwa kta tf rf kb ka kc kcn kl kn w h la af nc fc kv km kg vw vh sl mk sg) 0 0 (va_A (w_X5_daysOfChange G kx kim kit kre ksh kwa kta tf rf kb ka kc kcn kl kn w h la af nc fc kv km kg vw vh sl mk sg) sz) := by
  refine Met.ofW (cc := cX5_daysOfChange) (maxL := 4) (ret := (some .int)) (by decide) rfl ?_
  intro pp ee ss mm aa below mt cd s₁ BB hml hv
  obtain ⟨rfl, hsz, hP, hK, hD0⟩ := hv
  have hx := BB.exec
  have hb := BB.bytes
  have hr := BB.returns
  have hts := atoms_spec (ws := wsX5_daysOfChange) BB.pre
  have hown : ss.vm.findClass RX5 = some mm.cls := findClass_of_methodNamed BB.named
  have hlocks := BB.notSynchronized
  subst hsz
  have hD := hD0.self (sz := ss.heap.size)
  have hA : ∀ q : Nat, ss.heap.size ≤ q → va_A (w_X5_daysOfChange G kx kim kit kre ksh kwa kta tf rf kb ka kc kcn kl kn w h la af nc fc kv km kg vw vh sl mk sg) ss.heap.size q := fun q h => Or.inr h
  have hS : va_S (va_A (w_X5_daysOfChange G kx kim kit kre ksh kwa kta tf rf kb ka kc kcn kl kn w h la af nc fc kv km kg vw vh sl mk sg) ss.heap.size) ss.heap ss.heap [] := va_S.rf
  replace hD : va_D (va_A (w_X5_daysOfChange G kx kim kit kre ksh kwa kta tf rf kb ka kc kcn kl kn w h la af nc fc kv km kg vw vh sl mk sg) ss.heap.size) [oC kx 5 [.ref kb, .ref kim, .ref kit, .ref kv, .ref kre, .int tf, .ref ksh, .int rf, .ref kwa, .ref kta], oC kb 0 [.int (nI w), .int (nI h), .int (nI la), .ref ka, .ref kc, .ref kl, .ref kn], iA G ka 16 af, oC kc 2 [.ref kcn, .int (nI 10), .int (nI nc)], iA G kcn (3 * 10) fc, oC kv 4 [.ref km, .ref kg, .int (nI vw), .int (nI vh), .int sl], iA G km 176 mk, iA G kg 160 sg] := hD
  replace hP : xP G [oC kx 5 [.ref kb, .ref kim, .ref kit, .ref kv, .ref kre, .int tf, .ref ksh, .int rf, .ref kwa, .ref kta], oC kb 0 [.int (nI w), .int (nI h), .int (nI la), .ref ka, .ref kc, .ref kl, .ref kn], iA G ka 16 af, oC kc 2 [.ref kcn, .int (nI 10), .int (nI nc)], iA G kcn (3 * 10) fc, oC kv 4 [.ref km, .ref kg, .int (nI vw), .int (nI vh), .int sl], iA G km 176 mk, iA G kg 160 sg] ss.heap := hP
  have hin0 : ∀ w ∈ u_ws RX0 TX0 7, w ∈ wsX5_daysOfChange := fun w h => List.mem_cons_of_mem _ (List.mem_append_left _ (List.mem_append_left _ (List.mem_append_right _ h)))
  have hin2 : ∀ w ∈ u_ws RX2 TX2 3, w ∈ wsX5_daysOfChange := fun w h => List.mem_cons_of_mem _ (List.mem_append_right _ h)
  have hin4 : ∀ w ∈ u_ws RX4 TX4 5, w ∈ wsX5_daysOfChange := fun w h => List.mem_cons_of_mem _ (List.mem_append_left _ (List.mem_append_right _ h))
  have hin5 : ∀ w ∈ u_ws RX5 TX5 10, w ∈ wsX5_daysOfChange := fun w h => List.mem_cons_of_mem _ (List.mem_append_left _ (List.mem_append_left _ (List.mem_append_left _ (List.mem_append_right _ h))))
  have hl := lv_entry ([.ref kx]) (n := 4) (Nat.le_of_ble_eq_true rfl)
  rw [lg_entry_eq]
  generalize (lg_sl ([.ref kx]) ++ List.replicate (4 - (lg_sl ([.ref kx])).length) Slot.unset).toArray = ls at hl ⊢
  replace hl : lv_has ls 4 [(0, .ref kx)] := hl
  refine lv_aload_n hx hb dX5_daysOfChange_0 rfl (lv_at hl 0 rfl) ?_
  refine xw_r (As := []) (rest := []) (wr := []) ⟨hx, hb, hml, hown, hts⟩ (c_X5_freshViews l G ss.heap.size kx kim kit kre ksh kwa kta tf rf kb ka kc kcn kl kn w h la af nc fc kv km kg vw vh sl mk sg (by first | assumption | omega) (by first | assumption | omega) (by first | assumption | omega) (by first | assumption | omega) (by first | assumption | omega) (by first | assumption | omega) (by first | assumption | omega) (by first | assumption | omega)) (cwV 0 hts gX5_daysOfChange_X5_freshViews rfl rfl rfl (by decide +kernel) ⟨Nat.le_of_ble_eq_true rfl, Nat.le_of_ble_eq_true rfl⟩) hK hP hD hS hA [0, 1, 2, 3, 4, 5, 6, 7] [] rfl rfl (by decide) (by decide) (by decide) rfl rfl rfl hl.1 rfl (Nat.le_of_ble_eq_true rfl) dX5_daysOfChange_1 ⟨Nat.le_of_ble_eq_true rfl, Nat.le_of_ble_eq_true rfl⟩ (fun u H locs hp1 hP hD hS => ?_)
  obtain ⟨mk2_1, sg2_1⟩ := u
  try dsimp only at hp1 hP hD
  have he1 := hp1
  replace hP : xP G [oC kx 5 [.ref kb, .ref kim, .ref kit, .ref kv, .ref kre, .int tf, .ref ksh, .int rf, .ref kwa, .ref kta], oC kb 0 [.int (nI w), .int (nI h), .int (nI la), .ref ka, .ref kc, .ref kl, .ref kn], iA G ka 16 af, oC kc 2 [.ref kcn, .int (nI 10), .int (nI nc)], iA G kcn (3 * 10) fc, oC kv 4 [.ref km, .ref kg, .int (nI w), .int (nI h), .int (nI 0)], iA G km 176 mk2_1, iA G kg 160 sg2_1] H := hP
  replace hD : va_D (va_A (w_X5_daysOfChange G kx kim kit kre ksh kwa kta tf rf kb ka kc kcn kl kn w h la af nc fc kv km kg vw vh sl mk sg) ss.heap.size) [oC kx 5 [.ref kb, .ref kim, .ref kit, .ref kv, .ref kre, .int tf, .ref ksh, .int rf, .ref kwa, .ref kta], oC kb 0 [.int (nI w), .int (nI h), .int (nI la), .ref ka, .ref kc, .ref kl, .ref kn], iA G ka 16 af, oC kc 2 [.ref kcn, .int (nI 10), .int (nI nc)], iA G kcn (3 * 10) fc, oC kv 4 [.ref km, .ref kg, .int (nI w), .int (nI h), .int (nI 0)], iA G km 176 mk2_1, iA G kg 160 sg2_1] := hD
  refine lv_astore_n (lv' := [(1, .ref kv), (0, .ref kx)]) hx hb dX5_daysOfChange_4 rfl hl (by decide) rfl (fun ls hl => ?_)
  refine lv_iconst (v := nI 0) hx hb dX5_daysOfChange_5 (by decide) ?_
  refine lv_istore_n (lv' := [(2, .int (nI 0)), (1, .ref kv), (0, .ref kx)]) hx hb dX5_daysOfChange_6 rfl hl (by decide) rfl (fun ls hl => ?_)
  refine lv_iconst (v := nI 1) hx hb dX5_daysOfChange_7 (by decide) ?_
  refine lv_istore_n (lv' := [(3, .int (nI 1)), (2, .int (nI 0)), (1, .ref kv), (0, .ref kx)]) hx hb dX5_daysOfChange_8 rfl hl (by decide) rfl (fun ls hl => ?_)
  have hL9 : ∀ k : Nat, ∀ (d : Nat) (n : Nat) (ls : Array Slot) (H : Heap) (locs : List Loc), la - d = k → (d ≤ la) → (n = cntF (fun d => decide (¬ unS w h af nc fc d (d + 1) = 0)) d) → lv_has ls 4 [(0, .ref kx), (1, .ref kv), (2, .int (nI n)), (3, .int (nI (d + 1)))] → xP G [iA G ka 16 af, oC kb 0 [.int (nI w), .int (nI h), .int (nI la), .ref ka, .ref kc, .ref kl, .ref kn], oC kc 2 [.ref kcn, .int (nI 10), .int (nI nc)], iA G kcn (3 * 10) fc, iA G kg 160 sg2_1, iA G km 176 mk2_1, oC kv 4 [.ref km, .ref kg, .int (nI w), .int (nI h), .int (nI 0)], oC kx 5 [.ref kb, .ref kim, .ref kit, .ref kv, .ref kre, .int tf, .ref ksh, .int rf, .ref kwa, .ref kta]] H → va_D (va_A (w_X5_daysOfChange G kx kim kit kre ksh kwa kta tf rf kb ka kc kcn kl kn w h la af nc fc kv km kg vw vh sl mk sg) ss.heap.size) [iA G ka 16 af, oC kb 0 [.int (nI w), .int (nI h), .int (nI la), .ref ka, .ref kc, .ref kl, .ref kn], oC kc 2 [.ref kcn, .int (nI 10), .int (nI nc)], iA G kcn (3 * 10) fc, iA G kg 160 sg2_1, iA G km 176 mk2_1, oC kv 4 [.ref km, .ref kg, .int (nI w), .int (nI h), .int (nI 0)], oC kx 5 [.ref kb, .ref kim, .ref kit, .ref kv, .ref kre, .int tf, .ref ksh, .int rf, .ref kwa, .ref kta]] → va_S (va_A (w_X5_daysOfChange G kx kim kit kre ksh kwa kta tf rf kb ka kc kcn kl kn w h la af nc fc kv km kg vw vh sl mk sg) ss.heap.size) ss.heap H locs → W pp l ee ({ frames := 4, cells := 0, slots := 0, locals := 96 } : Room) ss mm ([.ref kx] : List Value).toArray below mt cd H locs 0 0 (MQ below (Q_X5_daysOfChange G ss.heap.size kx kim kit kre ksh kwa kta tf rf kb ka kc kcn kl kn w h la af nc fc kv km kg vw vh sl mk sg) ([.ref kx] : List Value).toArray ss 0 0 (va_A (w_X5_daysOfChange G kx kim kit kre ksh kwa kta tf rf kb ka kc kcn kl kn w h la af nc fc kv km kg vw vh sl mk sg) ss.heap.size)) (F0 mm 9 ls []) := by
    intro k
    induction k using Nat.strongRecOn with
    | _ k ih9 =>
    intro d n ls H locs hm9 hd hn hl hP hD hS
    refine lv_iload_n hx hb dX5_daysOfChange_9 rfl (lv_at hl 3 rfl) ?_
    refine lv_aload_n hx hb dX5_daysOfChange_10 rfl (lv_at hl 0 rfl) ?_
    refine va_get (D := G.1) (ci := 5) (v := .ref kb) (C := RX5) (T := TX5) (N := 10) hx hb hts hin5 hown hK.1 hP 7 rfl rfl 0 (by decide) (hts (.fieldLink RX5 10 "BackLenses" "book" "LBackLenses$Book;") (List.mem_of_getElem? (i := 1) rfl)) (fun _ h9 => h9) rfl dX5_daysOfChange_11 ?_
    refine va_getN (D := G.1) (ci := 0) (v := .int (nI la)) (C := RX0) (T := TX0) (N := 7) hx hb hts hin0 hown hK.1 hP 1 rfl rfl 2 (by decide) (va_Nw.use rfl (hK.2 (Cond.fieldLinkNest "BackLenses" (90 : Nat) "BackLenses$Book" "last" "I" "BackLenses") (List.mem_of_getElem? (i := 11) rfl))) (fun _ h9 => h9) rfl dX5_daysOfChange_14 ?_
    refine xn_icmp_gt (tgt := 40) hx hb (by omega) (by omega) dX5_daysOfChange_17 rfl (fun b17 => ?_) (fun b17 => ?_)
    · skip
      refine lv_iload_n hx hb dX5_daysOfChange_40 rfl (lv_at hl 2 rfl) ?_
      have hP := hP.sub (ws' := [oC kx 5 [.ref kb, .ref kim, .ref kit, .ref kv, .ref kre, .int tf, .ref ksh, .int rf, .ref kwa, .ref kta], oC kb 0 [.int (nI w), .int (nI h), .int (nI la), .ref ka, .ref kc, .ref kl, .ref kn], iA G ka 16 af, oC kc 2 [.ref kcn, .int (nI 10), .int (nI nc)], iA G kcn (3 * 10) fc, oC kv 4 [.ref km, .ref kg, .int (nI w), .int (nI h), .int (nI 0)], iA G km 176 mk2_1, iA G kg 160 sg2_1]) [7, 1, 0, 2, 3, 6, 5, 4] rfl
      have hD := hD.sub (ws' := [oC kx 5 [.ref kb, .ref kim, .ref kit, .ref kv, .ref kre, .int tf, .ref ksh, .int rf, .ref kwa, .ref kta], oC kb 0 [.int (nI w), .int (nI h), .int (nI la), .ref ka, .ref kc, .ref kl, .ref kn], iA G ka 16 af, oC kc 2 [.ref kcn, .int (nI 10), .int (nI nc)], iA G kcn (3 * 10) fc, oC kv 4 [.ref km, .ref kg, .int (nI w), .int (nI h), .int (nI 0)], iA G km 176 mk2_1, iA G kg 160 sg2_1]) [7, 1, 0, 2, 3, 6, 5, 4] (by decide) rfl
      refine W.iret (v := nI n) hx hb hr (fun t ht hW => ⟨⟨nI n, (mk2_1, sg2_1, w, h, nI 0), rfl, ?_, by rw [ht]; exact hP, hD⟩, hS.F ht⟩) hS.2.2 dX5_daysOfChange_41
      try dsimp only
      refine ⟨?_, VOK_fr he1⟩; rw [hn, show d = la by omega]
    · skip
      refine lv_aload_n hx hb dX5_daysOfChange_20 rfl (lv_at hl 1 rfl) ?_
      refine lv_iload_n hx hb dX5_daysOfChange_21 rfl (lv_at hl 3 rfl) ?_
      refine lv_iconst (v := nI 1) hx hb dX5_daysOfChange_22 (by decide) ?_
      refine xn_isub hx hb (by omega) dX5_daysOfChange_23 ?_
      refine lv_iload_n hx hb dX5_daysOfChange_24 rfl (lv_at hl 3 rfl) ?_
      refine xr_i (As := [.int (nI ((d + 1) - 1)), .int (nI (d + 1))]) (rest := []) ⟨hx, hb, hml, hown, hts⟩ (c_X4_unlike l G kv km kg w h (nI 0) mk2_1 ((d + 1) - 1) (d + 1) (by first | assumption | omega) (by first | assumption | omega) (by first | assumption | omega)) (cwV 2 hts gX5_daysOfChange_X4_unlike rfl rfl rfl (by decide +kernel) ⟨Nat.le_of_ble_eq_true rfl, Nat.le_of_ble_eq_true rfl⟩) hK hP hS [6, 5] rfl rfl rfl rfl hl.1 rfl (Nat.le_of_ble_eq_true rfl) dX5_daysOfChange_25 ⟨Nat.zero_le _, Nat.zero_le _⟩ (fun r25 H locs hp25 hP hS => ?_)
      obtain rfl : r25 = xbits (fun c => !decide (mk2_1 (((d + 1) - 1) * 16 + c) = mk2_1 ((d + 1) * 16 + c))) (w * h) := hp25
      refine xn_top (FR_unl he1 hwh (by omega) (by omega)) ?_
      refine lv_if_eq (tgt := 34) hx hb dX5_daysOfChange_28 rfl (fun b28 => ?_) (fun b28 => ?_)
      · skip
        refine lv_iinc (k := 3) (v := nI (d + 1 + 1)) (lv' := [(3, .int (nI (d + 1 + 1))), (0, .ref kx), (1, .ref kv), (2, .int (nI n))]) hx hb dX5_daysOfChange_34 hl rfl (xn_inc (d + 1) 1) (by decide) rfl (fun ls hl => ?_)
        refine lv_goto (tgt := 9) hx hb dX5_daysOfChange_37 rfl ?_
        have hl := lv_sub hl (l' := [(0, .ref kx), (1, .ref kv), (2, .int (nI n)), (3, .int (nI (d + 1 + 1)))]) [1, 2, 3, 0] rfl
        exact ih9 (la - (d + 1)) (by omega) (d + 1) n ls H locs rfl (by omega) (by first | exact cntF_T (decide_eq_true b28) hn | exact cntF_N (decide_eq_false (fun q => q b28)) hn) hl hP hD hS
      · skip
        refine lv_iinc (k := 2) (v := nI (n + 1)) (lv' := [(2, .int (nI (n + 1))), (0, .ref kx), (1, .ref kv), (3, .int (nI (d + 1)))]) hx hb dX5_daysOfChange_31 hl rfl (xn_inc n 1) (by decide) rfl (fun ls hl => ?_)
        refine lv_iinc (k := 3) (v := nI (d + 1 + 1)) (lv' := [(3, .int (nI (d + 1 + 1))), (2, .int (nI (n + 1))), (0, .ref kx), (1, .ref kv)]) hx hb dX5_daysOfChange_34 hl rfl (xn_inc (d + 1) 1) (by decide) rfl (fun ls hl => ?_)
        refine lv_goto (tgt := 9) hx hb dX5_daysOfChange_37 rfl ?_
        have hl := lv_sub hl (l' := [(0, .ref kx), (1, .ref kv), (2, .int (nI (n + 1))), (3, .int (nI (d + 1 + 1)))]) [2, 3, 1, 0] rfl
        exact ih9 (la - (d + 1)) (by omega) (d + 1) (n + 1) ls H locs rfl (by omega) (by first | exact cntF_T (decide_eq_true b28) hn | exact cntF_N (decide_eq_false (fun q => q b28)) hn) hl hP hD hS
  have hl := lv_sub hl (l' := [(0, .ref kx), (1, .ref kv), (2, .int (nI 0)), (3, .int (nI 1))]) [3, 2, 1, 0] rfl
  have hP := hP.sub (ws' := [iA G ka 16 af, oC kb 0 [.int (nI w), .int (nI h), .int (nI la), .ref ka, .ref kc, .ref kl, .ref kn], oC kc 2 [.ref kcn, .int (nI 10), .int (nI nc)], iA G kcn (3 * 10) fc, iA G kg 160 sg2_1, iA G km 176 mk2_1, oC kv 4 [.ref km, .ref kg, .int (nI w), .int (nI h), .int (nI 0)], oC kx 5 [.ref kb, .ref kim, .ref kit, .ref kv, .ref kre, .int tf, .ref ksh, .int rf, .ref kwa, .ref kta]]) [2, 1, 3, 4, 7, 6, 5, 0] rfl
  have hD := hD.sub (ws' := [iA G ka 16 af, oC kb 0 [.int (nI w), .int (nI h), .int (nI la), .ref ka, .ref kc, .ref kl, .ref kn], oC kc 2 [.ref kcn, .int (nI 10), .int (nI nc)], iA G kcn (3 * 10) fc, iA G kg 160 sg2_1, iA G km 176 mk2_1, oC kv 4 [.ref km, .ref kg, .int (nI w), .int (nI h), .int (nI 0)], oC kx 5 [.ref kb, .ref kim, .ref kit, .ref kv, .ref kre, .int tf, .ref ksh, .int rf, .ref kwa, .ref kta]]) [2, 1, 3, 4, 7, 6, 5, 0] (by decide) rfl
  exact hL9 (la - 0) 0 0 ls H locs rfl (by omega) (by rfl) hl hP hD hS
end
section
/-- Integer.bitCount, as it is written -/
def bcI (i : Int32) : Int32 :=
  let a := i - (xu i (nI 1) &&& nI 1431655765)
  let b := (a &&& nI 858993459) + (xu a (nI 2) &&& nI 858993459)
  let c := (b + xu b (nI 4)) &&& nI 252645135
  let d := c + xu c (nI 8)
  let e := d + xu d (nI 16)
  e &&& nI 63
/-- the next set of the same size, as it is written -/
def nxS (s : Int32) : Int32 :=
  let low := s &&& -s
  let raised := s + low
  raised ||| xu (xu (s ^^^ raised) (nI 2)) (bcI (low - nI 1))
theorem xs_pow {c : Nat} (h : c ≤ 16) : nI 1 <<< (nI c &&& 31) = nI (2 ^ c) ∧ 2 ^ c ≤ 65536 ∧ 1 ≤ 2 ^ c := by
  have : ∀ k, k ≤ 16 → nI 1 <<< (nI k &&& 31) = nI (2 ^ k) ∧ 2 ^ k ≤ 65536 ∧ 1 ≤ 2 ^ k := by decide
  exact this c h
def lsIn (P : Int32 → Bool) (lim : Nat) : Nat → Int32 → Option Int32
  | 0, _ => none
  | k + 1, s => if s.toInt < (lim : Int) then (if P s then some s else lsIn P lim k (nxS s)) else none
def lsOut (P : Int32 → Bool) (lim : Nat) : Nat → Nat → Int32
  | 0, _ => nI (lim - 1)
  | k + 1, sz => match lsIn P lim lim (nI (2 ^ sz - 1)) with
    | some s => s
    | none => lsOut P lim k (sz + 1)
/-- the set that serves: by size, then by number -/
def lsS (P : Int32 → Bool) (cells : Nat) : Int32 := if P 0 then nI 0 else lsOut P (2 ^ cells) cells 1
end
section
abbrev w_X5_lie (G : XG) (kx kim kit kre ksh kwa kta : Nat) (tf rf : Int32) (kb ka kc kcn kl kn : Nat) (w h la : Nat) (af : Nat → Int32) (nc : Nat) (fc : Nat → Int32) (kv km kg : Nat) (vw vh : Nat) (sl : Int32) (mk sg : Nat → Int32) (knn : Nat) (ns : Nat) (fs : Nat → Int32) : va_W := [oC kx 5 [.ref kb, .ref kim, .ref kit, .ref kv, .ref kre, .int tf, .ref ksh, .int rf, .ref kwa, .ref kta], oC kb 0 [.int (nI w), .int (nI h), .int (nI la), .ref ka, .ref kc, .ref kl, .ref kn], iA G ka 16 af, oC kc 2 [.ref kcn, .int (nI 10), .int (nI nc)], iA G kcn (3 * 10) fc, oC kv 4 [.ref km, .ref kg, .int (nI vw), .int (nI vh), .int sl], iA G km 176 mk, iA G kg 160 sg, oC kn 2 [.ref knn, .int (nI 8), .int (nI ns)], iA G knn (3 * 8) fs]
abbrev Q_X5_lie (G : XG) (sz : Nat) (kx kim kit kre ksh kwa kta : Nat) (tf rf : Int32) (kb ka kc kcn kl kn : Nat) (w h la : Nat) (af : Nat → Int32) (nc : Nat) (fc : Nat → Int32) (kv km kg : Nat) (vw vh : Nat) (sl : Int32) (mk sg : Nat → Int32) (knn : Nat) (ns : Nat) (fs : Nat → Int32) : Array Value → State → Outcome → State → Prop := (va_Qi (fun (r : Int32) (u : (Nat → Int32) × (Nat → Int32) × Nat × Nat × Int32) => r = firstF (fun i => decide (fitS w h la af nc fc fs (i + 1) = 0)) ns 0 ∧ VOK w h la af nc fc u.1 u.2.1 u.2.2.1 u.2.2.2.1 u.2.2.2.2) (xWb G sz (w_X5_lie G kx kim kit kre ksh kwa kta tf rf kb ka kc kcn kl kn w h la af nc fc kv km kg vw vh sl mk sg knn ns fs) (fun u : (Nat → Int32) × (Nat → Int32) × Nat × Nat × Int32 => [oC kx 5 [.ref kb, .ref kim, .ref kit, .ref kv, .ref kre, .int tf, .ref ksh, .int rf, .ref kwa, .ref kta], oC kb 0 [.int (nI w), .int (nI h), .int (nI la), .ref ka, .ref kc, .ref kl, .ref kn], iA G ka 16 af, oC kc 2 [.ref kcn, .int (nI 10), .int (nI nc)], iA G kcn (3 * 10) fc, oC kv 4 [.ref km, .ref kg, .int (nI u.2.2.1), .int (nI u.2.2.2.1), .int u.2.2.2.2], iA G km 176 u.1, iA G kg 160 u.2.1, oC kn 2 [.ref knn, .int (nI 8), .int (nI ns)], iA G knn (3 * 8) fs])) (va_A (w_X5_lie G kx kim kit kre ksh kwa kta tf rf kb ka kc kcn kl kn w h la af nc fc kv km kg vw vh sl mk sg knn ns fs) sz))
set_option maxHeartbeats 4000000 in
set_option maxRecDepth 100000 in
theorem c_X5_lie (l : Launch) (G : XG) (sz : Nat) (kx kim kit kre ksh kwa kta : Nat) (tf rf : Int32) (kb ka kc kcn kl kn : Nat) (w h la : Nat) (af : Nat → Int32) (nc : Nat) (fc : Nat → Int32) (kv km kg : Nat) (vw vh : Nat) (sl : Int32) (mk sg : Nat → Int32) (knn : Nat) (ns : Nat) (fs : Nat → Int32) (hw : 1 ≤ w) (hwb : w ≤ 16) (hhb : h ≤ 16) (hwh : w * h ≤ 16) (hla : la ≤ 9) (hnc : nc ≤ 10) (hcell : ∀ i, i < nc → inR (fc (3 * i + 1)) 16) (hvok : VOK w h la af nc fc mk sg vw vh sl) (hns : ns ≤ 8) (hshown : ∀ i, i < ns → inR (fs (3 * i)) (w * h) ∧ inR (fs (3 * i + 1)) (w * h)) : Met l yX5_lie wsX5_lie ({ frames := 5, cells := 0, slots := 0, locals := 123 } : Room) (va_Pc [.ref kx] (xWp G sz (w_X5_lie G kx kim kit kre ksh kwa kta tf rf kb ka kc kcn kl kn w h la af nc fc kv km kg vw vh sl mk sg knn ns fs))) (Q_X5_lie G sz kx kim kit kre ksh kwa kta tf rf kb ka kc kcn kl kn w h la af nc fc kv km kg vw vh sl mk sg knn ns fs) 0 0 (va_A (w_X5_lie G kx kim kit kre ksh kwa kta tf rf kb ka kc kcn kl kn w h la af nc fc kv km kg vw vh sl mk sg knn ns fs) sz) := by
  refine Met.ofW (cc := cX5_lie) (maxL := 2) (ret := (some .int)) (by decide) rfl ?_
  intro pp ee ss mm aa below mt cd s₁ BB hml hv
  obtain ⟨rfl, hsz, hP, hK, hD0⟩ := hv
  have hx := BB.exec
  have hb := BB.bytes
  have hr := BB.returns
  have hts := atoms_spec (ws := wsX5_lie) BB.pre
  have hown : ss.vm.findClass RX5 = some mm.cls := findClass_of_methodNamed BB.named
  have hlocks := BB.notSynchronized
  subst hsz
  have hD := hD0.self (sz := ss.heap.size)
  have hA : ∀ q : Nat, ss.heap.size ≤ q → va_A (w_X5_lie G kx kim kit kre ksh kwa kta tf rf kb ka kc kcn kl kn w h la af nc fc kv km kg vw vh sl mk sg knn ns fs) ss.heap.size q := fun q h => Or.inr h
  have hS : va_S (va_A (w_X5_lie G kx kim kit kre ksh kwa kta tf rf kb ka kc kcn kl kn w h la af nc fc kv km kg vw vh sl mk sg knn ns fs) ss.heap.size) ss.heap ss.heap [] := va_S.rf
  replace hD : va_D (va_A (w_X5_lie G kx kim kit kre ksh kwa kta tf rf kb ka kc kcn kl kn w h la af nc fc kv km kg vw vh sl mk sg knn ns fs) ss.heap.size) [oC kx 5 [.ref kb, .ref kim, .ref kit, .ref kv, .ref kre, .int tf, .ref ksh, .int rf, .ref kwa, .ref kta], oC kb 0 [.int (nI w), .int (nI h), .int (nI la), .ref ka, .ref kc, .ref kl, .ref kn], iA G ka 16 af, oC kc 2 [.ref kcn, .int (nI 10), .int (nI nc)], iA G kcn (3 * 10) fc, oC kv 4 [.ref km, .ref kg, .int (nI vw), .int (nI vh), .int sl], iA G km 176 mk, iA G kg 160 sg, oC kn 2 [.ref knn, .int (nI 8), .int (nI ns)], iA G knn (3 * 8) fs] := hD
  replace hP : xP G [oC kx 5 [.ref kb, .ref kim, .ref kit, .ref kv, .ref kre, .int tf, .ref ksh, .int rf, .ref kwa, .ref kta], oC kb 0 [.int (nI w), .int (nI h), .int (nI la), .ref ka, .ref kc, .ref kl, .ref kn], iA G ka 16 af, oC kc 2 [.ref kcn, .int (nI 10), .int (nI nc)], iA G kcn (3 * 10) fc, oC kv 4 [.ref km, .ref kg, .int (nI vw), .int (nI vh), .int sl], iA G km 176 mk, iA G kg 160 sg, oC kn 2 [.ref knn, .int (nI 8), .int (nI ns)], iA G knn (3 * 8) fs] ss.heap := hP
  have hin0 : ∀ w ∈ u_ws RX0 TX0 7, w ∈ wsX5_lie := fun w h => List.mem_cons_of_mem _ (List.mem_append_left _ (List.mem_append_left _ (List.mem_append_right _ h)))
  have hin2 : ∀ w ∈ u_ws RX2 TX2 3, w ∈ wsX5_lie := fun w h => List.mem_cons_of_mem _ (List.mem_append_left _ (List.mem_append_right _ h))
  have hin4 : ∀ w ∈ u_ws RX4 TX4 5, w ∈ wsX5_lie := fun w h => List.mem_cons_of_mem _ (List.mem_append_right _ h)
  have hin5 : ∀ w ∈ u_ws RX5 TX5 10, w ∈ wsX5_lie := fun w h => List.mem_cons_of_mem _ (List.mem_append_left _ (List.mem_append_left _ (List.mem_append_left _ (List.mem_append_right _ h))))
  have hl := lv_entry ([.ref kx]) (n := 2) (Nat.le_of_ble_eq_true rfl)
  rw [lg_entry_eq]
  generalize (lg_sl ([.ref kx]) ++ List.replicate (2 - (lg_sl ([.ref kx])).length) Slot.unset).toArray = ls at hl ⊢
  replace hl : lv_has ls 2 [(0, .ref kx)] := hl
  refine lv_iconst (v := nI 0) hx hb dX5_lie_0 (by decide) ?_
  refine lv_istore_n (lv' := [(1, .int (nI 0)), (0, .ref kx)]) hx hb dX5_lie_1 rfl hl (by decide) rfl (fun ls hl => ?_)
  have hL2 : ∀ k : Nat, ∀ (i : Nat) (mk3 : Nat → Int32) (sg3 : Nat → Int32) (vw3 : Nat) (vh3 : Nat) (sl3 : Int32) (ls : Array Slot) (H : Heap) (locs : List Loc), ns - i = k → (i ≤ ns) → (firstF (fun i => decide (fitS w h la af nc fc fs (i + 1) = 0)) ns 0 = firstF (fun i => decide (fitS w h la af nc fc fs (i + 1) = 0)) (ns - i) i) → (VOK w h la af nc fc mk3 sg3 vw3 vh3 sl3) → lv_has ls 2 [(0, .ref kx), (1, .int (nI i))] → xP G [iA G ka 16 af, oC kb 0 [.int (nI w), .int (nI h), .int (nI la), .ref ka, .ref kc, .ref kl, .ref kn], oC kc 2 [.ref kcn, .int (nI 10), .int (nI nc)], iA G kcn (3 * 10) fc, iA G kg 160 sg3, iA G km 176 mk3, oC kn 2 [.ref knn, .int (nI 8), .int (nI ns)], iA G knn (3 * 8) fs, oC kv 4 [.ref km, .ref kg, .int (nI vw3), .int (nI vh3), .int sl3], oC kx 5 [.ref kb, .ref kim, .ref kit, .ref kv, .ref kre, .int tf, .ref ksh, .int rf, .ref kwa, .ref kta]] H → va_D (va_A (w_X5_lie G kx kim kit kre ksh kwa kta tf rf kb ka kc kcn kl kn w h la af nc fc kv km kg vw vh sl mk sg knn ns fs) ss.heap.size) [iA G ka 16 af, oC kb 0 [.int (nI w), .int (nI h), .int (nI la), .ref ka, .ref kc, .ref kl, .ref kn], oC kc 2 [.ref kcn, .int (nI 10), .int (nI nc)], iA G kcn (3 * 10) fc, iA G kg 160 sg3, iA G km 176 mk3, oC kn 2 [.ref knn, .int (nI 8), .int (nI ns)], iA G knn (3 * 8) fs, oC kv 4 [.ref km, .ref kg, .int (nI vw3), .int (nI vh3), .int sl3], oC kx 5 [.ref kb, .ref kim, .ref kit, .ref kv, .ref kre, .int tf, .ref ksh, .int rf, .ref kwa, .ref kta]] → va_S (va_A (w_X5_lie G kx kim kit kre ksh kwa kta tf rf kb ka kc kcn kl kn w h la af nc fc kv km kg vw vh sl mk sg knn ns fs) ss.heap.size) ss.heap H locs → W pp l ee ({ frames := 5, cells := 0, slots := 0, locals := 123 } : Room) ss mm ([.ref kx] : List Value).toArray below mt cd H locs 0 0 (MQ below (Q_X5_lie G ss.heap.size kx kim kit kre ksh kwa kta tf rf kb ka kc kcn kl kn w h la af nc fc kv km kg vw vh sl mk sg knn ns fs) ([.ref kx] : List Value).toArray ss 0 0 (va_A (w_X5_lie G kx kim kit kre ksh kwa kta tf rf kb ka kc kcn kl kn w h la af nc fc kv km kg vw vh sl mk sg knn ns fs) ss.heap.size)) (F0 mm 2 ls []) := by
    intro k
    induction k using Nat.strongRecOn with
    | _ k ih2 =>
    intro i mk3 sg3 vw3 vh3 sl3 ls H locs hm2 hi hf hv3 hl hP hD hS
    refine lv_iload_n hx hb dX5_lie_2 rfl (lv_at hl 1 rfl) ?_
    refine lv_aload_n hx hb dX5_lie_3 rfl (lv_at hl 0 rfl) ?_
    refine va_get (D := G.1) (ci := 5) (v := .ref kb) (C := RX5) (T := TX5) (N := 10) hx hb hts hin5 hown hK.1 hP 9 rfl rfl 0 (by decide) (hts (.fieldLink RX5 10 "BackLenses" "book" "LBackLenses$Book;") (List.mem_of_getElem? (i := 1) rfl)) (fun _ h9 => h9) rfl dX5_lie_4 ?_
    refine va_getN (D := G.1) (ci := 0) (v := .ref kn) (C := RX0) (T := TX0) (N := 7) hx hb hts hin0 hown hK.1 hP 1 rfl rfl 6 (by decide) (va_Nw.use rfl (hK.2 (Cond.fieldLinkNest "BackLenses" (161 : Nat) "BackLenses$Book" "shown" "LBackLenses$Rows;" "BackLenses") (List.mem_of_getElem? (i := 21) rfl))) (fun _ h9 => h9) rfl dX5_lie_7 ?_
    refine va_getN (D := G.1) (ci := 2) (v := .int (nI ns)) (C := RX2) (T := TX2) (N := 3) hx hb hts hin2 hown hK.1 hP 6 rfl rfl 2 (by decide) (va_Nw.use rfl (hK.2 (Cond.fieldLinkNest "BackLenses" (97 : Nat) "BackLenses$Rows" "size" "I" "BackLenses") (List.mem_of_getElem? (i := 3) rfl))) (fun _ h9 => h9) rfl dX5_lie_10 ?_
    refine xn_icmp_ge (tgt := 34) hx hb (by omega) (by omega) dX5_lie_13 rfl (fun b13 => ?_) (fun b13 => ?_)
    · skip
      refine lv_bipush (v := (-4)) hx hb dX5_lie_34 (by decide) ?_
      have hP := hP.sub (ws' := [oC kx 5 [.ref kb, .ref kim, .ref kit, .ref kv, .ref kre, .int tf, .ref ksh, .int rf, .ref kwa, .ref kta], oC kb 0 [.int (nI w), .int (nI h), .int (nI la), .ref ka, .ref kc, .ref kl, .ref kn], iA G ka 16 af, oC kc 2 [.ref kcn, .int (nI 10), .int (nI nc)], iA G kcn (3 * 10) fc, oC kv 4 [.ref km, .ref kg, .int (nI vw3), .int (nI vh3), .int sl3], iA G km 176 mk3, iA G kg 160 sg3, oC kn 2 [.ref knn, .int (nI 8), .int (nI ns)], iA G knn (3 * 8) fs]) [9, 1, 0, 2, 3, 8, 5, 4, 6, 7] rfl
      have hD := hD.sub (ws' := [oC kx 5 [.ref kb, .ref kim, .ref kit, .ref kv, .ref kre, .int tf, .ref ksh, .int rf, .ref kwa, .ref kta], oC kb 0 [.int (nI w), .int (nI h), .int (nI la), .ref ka, .ref kc, .ref kl, .ref kn], iA G ka 16 af, oC kc 2 [.ref kcn, .int (nI 10), .int (nI nc)], iA G kcn (3 * 10) fc, oC kv 4 [.ref km, .ref kg, .int (nI vw3), .int (nI vh3), .int sl3], iA G km 176 mk3, iA G kg 160 sg3, oC kn 2 [.ref knn, .int (nI 8), .int (nI ns)], iA G knn (3 * 8) fs]) [9, 1, 0, 2, 3, 8, 5, 4, 6, 7] (by decide) rfl
      refine W.iret (v := (-4)) hx hb hr (fun t ht hW => ⟨⟨(-4), (mk3, sg3, vw3, vh3, sl3), rfl, ?_, by rw [ht]; exact hP, hD⟩, hS.F ht⟩) hS.2.2 dX5_lie_36
      try dsimp only
      first | exact ⟨(by rw [hf, show ns - i = 0 by omega, firstF]), hv3⟩ | exact ⟨(by rw [hf, show ns - i = (ns - (i + 1)) + 1 by omega, firstF, if_pos (decide_eq_true b23)]), he20⟩
    · skip
      refine lv_aload_n hx hb dX5_lie_16 rfl (lv_at hl 0 rfl) ?_
      refine lv_iload_n hx hb dX5_lie_17 rfl (lv_at hl 1 rfl) ?_
      refine lv_iconst (v := nI 1) hx hb dX5_lie_18 (by decide) ?_
      refine xn_iadd hx hb dX5_lie_19 ?_
      refine xw_i (As := [.int (nI (i + 1))]) (rest := []) (wr := []) ⟨hx, hb, hml, hown, hts⟩ (c_X5_fitting l G H.size kx kim kit kre ksh kwa kta tf rf kb ka kc kcn kl kn w h la af nc fc kv km kg vw3 vh3 sl3 mk3 sg3 knn ns fs (i + 1) (by first | assumption | omega) (by first | assumption | omega) (by first | assumption | omega) (by first | assumption | omega) (by first | assumption | omega) (by first | assumption | omega) (by first | assumption | omega) (by first | assumption | omega) (by first | assumption | omega) (by first | assumption | omega) (by first | assumption | omega)) (cwV 1 hts gX5_lie_X5_fitting rfl rfl rfl (by decide +kernel) ⟨Nat.le_of_ble_eq_true rfl, Nat.le_of_ble_eq_true rfl⟩) hK hP hD hS hA [9, 1, 0, 2, 3, 8, 5, 4, 6, 7] [] rfl rfl (by decide) (by decide) (by decide) rfl rfl rfl hl.1 rfl (Nat.le_of_ble_eq_true rfl) dX5_lie_20 ⟨Nat.le_of_ble_eq_true rfl, Nat.le_of_ble_eq_true rfl⟩ (fun r20 u H locs hp20 hP hD hS => ?_)
      obtain ⟨mk2_20, sg2_20, vw2_20, vh2_20, sl2_20⟩ := u
      try dsimp only at hp20 hP hD
      obtain ⟨rfl, he20⟩ := hp20
      replace hP : xP G [oC kx 5 [.ref kb, .ref kim, .ref kit, .ref kv, .ref kre, .int tf, .ref ksh, .int rf, .ref kwa, .ref kta], oC kb 0 [.int (nI w), .int (nI h), .int (nI la), .ref ka, .ref kc, .ref kl, .ref kn], iA G ka 16 af, oC kc 2 [.ref kcn, .int (nI 10), .int (nI nc)], iA G kcn (3 * 10) fc, oC kv 4 [.ref km, .ref kg, .int (nI vw2_20), .int (nI vh2_20), .int sl2_20], iA G km 176 mk2_20, iA G kg 160 sg2_20, oC kn 2 [.ref knn, .int (nI 8), .int (nI ns)], iA G knn (3 * 8) fs] H := hP
      replace hD : va_D (va_A (w_X5_lie G kx kim kit kre ksh kwa kta tf rf kb ka kc kcn kl kn w h la af nc fc kv km kg vw vh sl mk sg knn ns fs) ss.heap.size) [oC kx 5 [.ref kb, .ref kim, .ref kit, .ref kv, .ref kre, .int tf, .ref ksh, .int rf, .ref kwa, .ref kta], oC kb 0 [.int (nI w), .int (nI h), .int (nI la), .ref ka, .ref kc, .ref kl, .ref kn], iA G ka 16 af, oC kc 2 [.ref kcn, .int (nI 10), .int (nI nc)], iA G kcn (3 * 10) fc, oC kv 4 [.ref km, .ref kg, .int (nI vw2_20), .int (nI vh2_20), .int sl2_20], iA G km 176 mk2_20, iA G kg 160 sg2_20, oC kn 2 [.ref knn, .int (nI 8), .int (nI ns)], iA G knn (3 * 8) fs] := hD
      refine lv_if_ne (tgt := 28) hx hb dX5_lie_23 rfl (fun b23 => ?_) (fun b23 => ?_)
      · skip
        refine lv_iinc (k := 1) (v := nI (i + 1)) (lv' := [(1, .int (nI (i + 1))), (0, .ref kx)]) hx hb dX5_lie_28 hl rfl (xn_inc i 1) (by decide) rfl (fun ls hl => ?_)
        refine lv_goto (tgt := 2) hx hb dX5_lie_31 rfl ?_
        have hl := lv_sub hl (l' := [(0, .ref kx), (1, .int (nI (i + 1)))]) [1, 0] rfl
        have hP := hP.sub (ws' := [iA G ka 16 af, oC kb 0 [.int (nI w), .int (nI h), .int (nI la), .ref ka, .ref kc, .ref kl, .ref kn], oC kc 2 [.ref kcn, .int (nI 10), .int (nI nc)], iA G kcn (3 * 10) fc, iA G kg 160 sg2_20, iA G km 176 mk2_20, oC kn 2 [.ref knn, .int (nI 8), .int (nI ns)], iA G knn (3 * 8) fs, oC kv 4 [.ref km, .ref kg, .int (nI vw2_20), .int (nI vh2_20), .int sl2_20], oC kx 5 [.ref kb, .ref kim, .ref kit, .ref kv, .ref kre, .int tf, .ref ksh, .int rf, .ref kwa, .ref kta]]) [2, 1, 3, 4, 7, 6, 8, 9, 5, 0] rfl
        have hD := hD.sub (ws' := [iA G ka 16 af, oC kb 0 [.int (nI w), .int (nI h), .int (nI la), .ref ka, .ref kc, .ref kl, .ref kn], oC kc 2 [.ref kcn, .int (nI 10), .int (nI nc)], iA G kcn (3 * 10) fc, iA G kg 160 sg2_20, iA G km 176 mk2_20, oC kn 2 [.ref knn, .int (nI 8), .int (nI ns)], iA G knn (3 * 8) fs, oC kv 4 [.ref km, .ref kg, .int (nI vw2_20), .int (nI vh2_20), .int sl2_20], oC kx 5 [.ref kb, .ref kim, .ref kit, .ref kv, .ref kre, .int tf, .ref ksh, .int rf, .ref kwa, .ref kta]]) [2, 1, 3, 4, 7, 6, 8, 9, 5, 0] (by decide) rfl
        exact ih2 (ns - (i + 1)) (by omega) (i + 1) mk2_20 sg2_20 vw2_20 vh2_20 sl2_20 ls H locs rfl (by omega) (by rw [hf, show ns - i = (ns - (i + 1)) + 1 by omega, firstF, if_neg (by rw [decide_eq_false b23]; decide)]) (by assumption) hl hP hD hS
      · skip
        refine lv_iload_n hx hb dX5_lie_26 rfl (lv_at hl 1 rfl) ?_
        have hP := hP.sub (ws' := [oC kx 5 [.ref kb, .ref kim, .ref kit, .ref kv, .ref kre, .int tf, .ref ksh, .int rf, .ref kwa, .ref kta], oC kb 0 [.int (nI w), .int (nI h), .int (nI la), .ref ka, .ref kc, .ref kl, .ref kn], iA G ka 16 af, oC kc 2 [.ref kcn, .int (nI 10), .int (nI nc)], iA G kcn (3 * 10) fc, oC kv 4 [.ref km, .ref kg, .int (nI vw2_20), .int (nI vh2_20), .int sl2_20], iA G km 176 mk2_20, iA G kg 160 sg2_20, oC kn 2 [.ref knn, .int (nI 8), .int (nI ns)], iA G knn (3 * 8) fs]) [0, 1, 2, 3, 4, 5, 6, 7, 8, 9] rfl
        have hD := hD.sub (ws' := [oC kx 5 [.ref kb, .ref kim, .ref kit, .ref kv, .ref kre, .int tf, .ref ksh, .int rf, .ref kwa, .ref kta], oC kb 0 [.int (nI w), .int (nI h), .int (nI la), .ref ka, .ref kc, .ref kl, .ref kn], iA G ka 16 af, oC kc 2 [.ref kcn, .int (nI 10), .int (nI nc)], iA G kcn (3 * 10) fc, oC kv 4 [.ref km, .ref kg, .int (nI vw2_20), .int (nI vh2_20), .int sl2_20], iA G km 176 mk2_20, iA G kg 160 sg2_20, oC kn 2 [.ref knn, .int (nI 8), .int (nI ns)], iA G knn (3 * 8) fs]) [0, 1, 2, 3, 4, 5, 6, 7, 8, 9] (by decide) rfl
        refine W.iret (v := nI i) hx hb hr (fun t ht hW => ⟨⟨nI i, (mk2_20, sg2_20, vw2_20, vh2_20, sl2_20), rfl, ?_, by rw [ht]; exact hP, hD⟩, hS.F ht⟩) hS.2.2 dX5_lie_27
        try dsimp only
        first | exact ⟨(by rw [hf, show ns - i = 0 by omega, firstF]), hv3⟩ | exact ⟨(by rw [hf, show ns - i = (ns - (i + 1)) + 1 by omega, firstF, if_pos (decide_eq_true b23)]), he20⟩
  have hl := lv_sub hl (l' := [(0, .ref kx), (1, .int (nI 0))]) [1, 0] rfl
  have hP := hP.sub (ws' := [iA G ka 16 af, oC kb 0 [.int (nI w), .int (nI h), .int (nI la), .ref ka, .ref kc, .ref kl, .ref kn], oC kc 2 [.ref kcn, .int (nI 10), .int (nI nc)], iA G kcn (3 * 10) fc, iA G kg 160 sg, iA G km 176 mk, oC kn 2 [.ref knn, .int (nI 8), .int (nI ns)], iA G knn (3 * 8) fs, oC kv 4 [.ref km, .ref kg, .int (nI vw), .int (nI vh), .int sl], oC kx 5 [.ref kb, .ref kim, .ref kit, .ref kv, .ref kre, .int tf, .ref ksh, .int rf, .ref kwa, .ref kta]]) [2, 1, 3, 4, 7, 6, 8, 9, 5, 0] rfl
  have hD := hD.sub (ws' := [iA G ka 16 af, oC kb 0 [.int (nI w), .int (nI h), .int (nI la), .ref ka, .ref kc, .ref kl, .ref kn], oC kc 2 [.ref kcn, .int (nI 10), .int (nI nc)], iA G kcn (3 * 10) fc, iA G kg 160 sg, iA G km 176 mk, oC kn 2 [.ref knn, .int (nI 8), .int (nI ns)], iA G knn (3 * 8) fs, oC kv 4 [.ref km, .ref kg, .int (nI vw), .int (nI vh), .int sl], oC kx 5 [.ref kb, .ref kim, .ref kit, .ref kv, .ref kre, .int tf, .ref ksh, .int rf, .ref kwa, .ref kta]]) [2, 1, 3, 4, 7, 6, 8, 9, 5, 0] (by decide) rfl
  exact hL2 (ns - 0) 0 mk sg vw vh sl ls ss.heap [] rfl (by omega) (by rfl) (by assumption) hl hP hD hS

abbrev w_X5_could (G : XG) (kx kim kit kre ksh kwa kta : Nat) (tf rf : Int32) (kb ka kc kcn kl kn : Nat) (w h la : Nat) (af : Nat → Int32) (nc : Nat) (fc : Nat → Int32) (kv km kg : Nat) (vw vh : Nat) (sl : Int32) (mk sg : Nat → Int32) (knn : Nat) (ns : Nat) (fs : Nat → Int32) (kln : Nat) (nl : Nat) (fl : Nat → Int32) : va_W := [oC kx 5 [.ref kb, .ref kim, .ref kit, .ref kv, .ref kre, .int tf, .ref ksh, .int rf, .ref kwa, .ref kta], oC kb 0 [.int (nI w), .int (nI h), .int (nI la), .ref ka, .ref kc, .ref kl, .ref kn], iA G ka 16 af, oC kc 2 [.ref kcn, .int (nI 10), .int (nI nc)], iA G kcn (3 * 10) fc, oC kv 4 [.ref km, .ref kg, .int (nI vw), .int (nI vh), .int sl], iA G km 176 mk, iA G kg 160 sg, oC kn 2 [.ref knn, .int (nI 8), .int (nI ns)], iA G knn (3 * 8) fs, oC kl 2 [.ref kln, .int (nI 6), .int (nI nl)], iA G kln (3 * 6) fl]
abbrev Q_X5_could (G : XG) (sz : Nat) (kx kim kit kre ksh kwa kta : Nat) (tf rf : Int32) (kb ka kc kcn kl kn : Nat) (w h la : Nat) (af : Nat → Int32) (nc : Nat) (fc : Nat → Int32) (kv km kg : Nat) (vw vh : Nat) (sl : Int32) (mk sg : Nat → Int32) (knn : Nat) (ns : Nat) (fs : Nat → Int32) (kln : Nat) (nl : Nat) (fl : Nat → Int32) : Array Value → State → Outcome → State → Prop := (va_Qi (fun (r : Int32) (u : (Nat → Int32) × (Nat → Int32) × Nat × Nat × Int32) => r = xbits (fun l => !decide ((fitS w h la af nc fc fs ns >>> (fl (3 * l) &&& 31)) &&& nI 1 = 0)) nl ∧ VOK w h la af nc fc u.1 u.2.1 u.2.2.1 u.2.2.2.1 u.2.2.2.2) (xWb G sz (w_X5_could G kx kim kit kre ksh kwa kta tf rf kb ka kc kcn kl kn w h la af nc fc kv km kg vw vh sl mk sg knn ns fs kln nl fl) (fun u : (Nat → Int32) × (Nat → Int32) × Nat × Nat × Int32 => [oC kx 5 [.ref kb, .ref kim, .ref kit, .ref kv, .ref kre, .int tf, .ref ksh, .int rf, .ref kwa, .ref kta], oC kb 0 [.int (nI w), .int (nI h), .int (nI la), .ref ka, .ref kc, .ref kl, .ref kn], iA G ka 16 af, oC kc 2 [.ref kcn, .int (nI 10), .int (nI nc)], iA G kcn (3 * 10) fc, oC kv 4 [.ref km, .ref kg, .int (nI u.2.2.1), .int (nI u.2.2.2.1), .int u.2.2.2.2], iA G km 176 u.1, iA G kg 160 u.2.1, oC kn 2 [.ref knn, .int (nI 8), .int (nI ns)], iA G knn (3 * 8) fs, oC kl 2 [.ref kln, .int (nI 6), .int (nI nl)], iA G kln (3 * 6) fl])) (va_A (w_X5_could G kx kim kit kre ksh kwa kta tf rf kb ka kc kcn kl kn w h la af nc fc kv km kg vw vh sl mk sg knn ns fs kln nl fl) sz))
set_option maxHeartbeats 4000000 in
set_option maxRecDepth 100000 in
theorem c_X5_could (l : Launch) (G : XG) (sz : Nat) (kx kim kit kre ksh kwa kta : Nat) (tf rf : Int32) (kb ka kc kcn kl kn : Nat) (w h la : Nat) (af : Nat → Int32) (nc : Nat) (fc : Nat → Int32) (kv km kg : Nat) (vw vh : Nat) (sl : Int32) (mk sg : Nat → Int32) (knn : Nat) (ns : Nat) (fs : Nat → Int32) (kln : Nat) (nl : Nat) (fl : Nat → Int32) (hw : 1 ≤ w) (hwb : w ≤ 16) (hhb : h ≤ 16) (hwh : w * h ≤ 16) (hla : la ≤ 9) (hnc : nc ≤ 10) (hcell : ∀ i, i < nc → inR (fc (3 * i + 1)) 16) (hvok : VOK w h la af nc fc mk sg vw vh sl) (hns : ns ≤ 8) (hshown : ∀ i, i < ns → inR (fs (3 * i)) (w * h) ∧ inR (fs (3 * i + 1)) (w * h)) (hnl : nl ≤ 6) : Met l yX5_could wsX5_could ({ frames := 5, cells := 0, slots := 0, locals := 123 } : Room) (va_Pc [.ref kx] (xWp G sz (w_X5_could G kx kim kit kre ksh kwa kta tf rf kb ka kc kcn kl kn w h la af nc fc kv km kg vw vh sl mk sg knn ns fs kln nl fl))) (Q_X5_could G sz kx kim kit kre ksh kwa kta tf rf kb ka kc kcn kl kn w h la af nc fc kv km kg vw vh sl mk sg knn ns fs kln nl fl) 0 0 (va_A (w_X5_could G kx kim kit kre ksh kwa kta tf rf kb ka kc kcn kl kn w h la af nc fc kv km kg vw vh sl mk sg knn ns fs kln nl fl) sz) := by
  refine Met.ofW (cc := cX5_could) (maxL := 4) (ret := (some .int)) (by decide) rfl ?_
  intro pp ee ss mm aa below mt cd s₁ BB hml hv
  obtain ⟨rfl, hsz, hP, hK, hD0⟩ := hv
  have hx := BB.exec
  have hb := BB.bytes
  have hr := BB.returns
  have hts := atoms_spec (ws := wsX5_could) BB.pre
  have hown : ss.vm.findClass RX5 = some mm.cls := findClass_of_methodNamed BB.named
  have hlocks := BB.notSynchronized
  subst hsz
  have hD := hD0.self (sz := ss.heap.size)
  have hA : ∀ q : Nat, ss.heap.size ≤ q → va_A (w_X5_could G kx kim kit kre ksh kwa kta tf rf kb ka kc kcn kl kn w h la af nc fc kv km kg vw vh sl mk sg knn ns fs kln nl fl) ss.heap.size q := fun q h => Or.inr h
  have hS : va_S (va_A (w_X5_could G kx kim kit kre ksh kwa kta tf rf kb ka kc kcn kl kn w h la af nc fc kv km kg vw vh sl mk sg knn ns fs kln nl fl) ss.heap.size) ss.heap ss.heap [] := va_S.rf
  replace hD : va_D (va_A (w_X5_could G kx kim kit kre ksh kwa kta tf rf kb ka kc kcn kl kn w h la af nc fc kv km kg vw vh sl mk sg knn ns fs kln nl fl) ss.heap.size) [oC kx 5 [.ref kb, .ref kim, .ref kit, .ref kv, .ref kre, .int tf, .ref ksh, .int rf, .ref kwa, .ref kta], oC kb 0 [.int (nI w), .int (nI h), .int (nI la), .ref ka, .ref kc, .ref kl, .ref kn], iA G ka 16 af, oC kc 2 [.ref kcn, .int (nI 10), .int (nI nc)], iA G kcn (3 * 10) fc, oC kv 4 [.ref km, .ref kg, .int (nI vw), .int (nI vh), .int sl], iA G km 176 mk, iA G kg 160 sg, oC kn 2 [.ref knn, .int (nI 8), .int (nI ns)], iA G knn (3 * 8) fs, oC kl 2 [.ref kln, .int (nI 6), .int (nI nl)], iA G kln (3 * 6) fl] := hD
  replace hP : xP G [oC kx 5 [.ref kb, .ref kim, .ref kit, .ref kv, .ref kre, .int tf, .ref ksh, .int rf, .ref kwa, .ref kta], oC kb 0 [.int (nI w), .int (nI h), .int (nI la), .ref ka, .ref kc, .ref kl, .ref kn], iA G ka 16 af, oC kc 2 [.ref kcn, .int (nI 10), .int (nI nc)], iA G kcn (3 * 10) fc, oC kv 4 [.ref km, .ref kg, .int (nI vw), .int (nI vh), .int sl], iA G km 176 mk, iA G kg 160 sg, oC kn 2 [.ref knn, .int (nI 8), .int (nI ns)], iA G knn (3 * 8) fs, oC kl 2 [.ref kln, .int (nI 6), .int (nI nl)], iA G kln (3 * 6) fl] ss.heap := hP
  have hin0 : ∀ w ∈ u_ws RX0 TX0 7, w ∈ wsX5_could := fun w h => List.mem_cons_of_mem _ (List.mem_append_left _ (List.mem_append_left _ (List.mem_append_right _ h)))
  have hin2 : ∀ w ∈ u_ws RX2 TX2 3, w ∈ wsX5_could := fun w h => List.mem_cons_of_mem _ (List.mem_append_left _ (List.mem_append_right _ h))
  have hin4 : ∀ w ∈ u_ws RX4 TX4 5, w ∈ wsX5_could := fun w h => List.mem_cons_of_mem _ (List.mem_append_right _ h)
  have hin5 : ∀ w ∈ u_ws RX5 TX5 10, w ∈ wsX5_could := fun w h => List.mem_cons_of_mem _ (List.mem_append_left _ (List.mem_append_left _ (List.mem_append_left _ (List.mem_append_right _ h))))
  have hl := lv_entry ([.ref kx]) (n := 4) (Nat.le_of_ble_eq_true rfl)
  rw [lg_entry_eq]
  generalize (lg_sl ([.ref kx]) ++ List.replicate (4 - (lg_sl ([.ref kx])).length) Slot.unset).toArray = ls at hl ⊢
  replace hl : lv_has ls 4 [(0, .ref kx)] := hl
  refine lv_aload_n hx hb dX5_could_0 rfl (lv_at hl 0 rfl) ?_
  refine lv_aload_n hx hb dX5_could_1 rfl (lv_at hl 0 rfl) ?_
  refine va_get (D := G.1) (ci := 5) (v := .ref kb) (C := RX5) (T := TX5) (N := 10) hx hb hts hin5 hown hK.1 hP 0 rfl rfl 0 (by decide) (hts (.fieldLink RX5 10 "BackLenses" "book" "LBackLenses$Book;") (List.mem_of_getElem? (i := 1) rfl)) (fun _ h9 => h9) rfl dX5_could_2 ?_
  refine va_getN (D := G.1) (ci := 0) (v := .ref kn) (C := RX0) (T := TX0) (N := 7) hx hb hts hin0 hown hK.1 hP 1 rfl rfl 6 (by decide) (va_Nw.use rfl (hK.2 (Cond.fieldLinkNest "BackLenses" (161 : Nat) "BackLenses$Book" "shown" "LBackLenses$Rows;" "BackLenses") (List.mem_of_getElem? (i := 21) rfl))) (fun _ h9 => h9) rfl dX5_could_5 ?_
  refine va_getN (D := G.1) (ci := 2) (v := .int (nI ns)) (C := RX2) (T := TX2) (N := 3) hx hb hts hin2 hown hK.1 hP 8 rfl rfl 2 (by decide) (va_Nw.use rfl (hK.2 (Cond.fieldLinkNest "BackLenses" (97 : Nat) "BackLenses$Rows" "size" "I" "BackLenses") (List.mem_of_getElem? (i := 3) rfl))) (fun _ h9 => h9) rfl dX5_could_8 ?_
  refine xw_i (As := [.int (nI ns)]) (rest := []) (wr := [oC kl 2 [.ref kln, .int (nI 6), .int (nI nl)], iA G kln (3 * 6) fl]) ⟨hx, hb, hml, hown, hts⟩ (c_X5_fitting l G ss.heap.size kx kim kit kre ksh kwa kta tf rf kb ka kc kcn kl kn w h la af nc fc kv km kg vw vh sl mk sg knn ns fs ns (by first | assumption | omega) (by first | assumption | omega) (by first | assumption | omega) (by first | assumption | omega) (by first | assumption | omega) (by first | assumption | omega) (by first | assumption | omega) (by first | assumption | omega) (by first | assumption | omega) (by first | assumption | omega) (by first | assumption | omega)) (cwV 1 hts gX5_could_X5_fitting rfl rfl rfl (by decide +kernel) ⟨Nat.le_of_ble_eq_true rfl, Nat.le_of_ble_eq_true rfl⟩) hK hP hD hS hA [0, 1, 2, 3, 4, 5, 6, 7, 8, 9] [10, 11] rfl rfl (by decide) (by decide) (by decide) rfl rfl rfl hl.1 rfl (Nat.le_of_ble_eq_true rfl) dX5_could_11 ⟨Nat.le_of_ble_eq_true rfl, Nat.le_of_ble_eq_true rfl⟩ (fun r11 u H locs hp11 hP hD hS => ?_)
  obtain ⟨mk2_11, sg2_11, vw2_11, vh2_11, sl2_11⟩ := u
  try dsimp only at hp11 hP hD
  obtain ⟨rfl, he11⟩ := hp11
  replace hP : xP G [oC kl 2 [.ref kln, .int (nI 6), .int (nI nl)], iA G kln (3 * 6) fl, oC kx 5 [.ref kb, .ref kim, .ref kit, .ref kv, .ref kre, .int tf, .ref ksh, .int rf, .ref kwa, .ref kta], oC kb 0 [.int (nI w), .int (nI h), .int (nI la), .ref ka, .ref kc, .ref kl, .ref kn], iA G ka 16 af, oC kc 2 [.ref kcn, .int (nI 10), .int (nI nc)], iA G kcn (3 * 10) fc, oC kv 4 [.ref km, .ref kg, .int (nI vw2_11), .int (nI vh2_11), .int sl2_11], iA G km 176 mk2_11, iA G kg 160 sg2_11, oC kn 2 [.ref knn, .int (nI 8), .int (nI ns)], iA G knn (3 * 8) fs] H := hP
  replace hD : va_D (va_A (w_X5_could G kx kim kit kre ksh kwa kta tf rf kb ka kc kcn kl kn w h la af nc fc kv km kg vw vh sl mk sg knn ns fs kln nl fl) ss.heap.size) [oC kl 2 [.ref kln, .int (nI 6), .int (nI nl)], iA G kln (3 * 6) fl, oC kx 5 [.ref kb, .ref kim, .ref kit, .ref kv, .ref kre, .int tf, .ref ksh, .int rf, .ref kwa, .ref kta], oC kb 0 [.int (nI w), .int (nI h), .int (nI la), .ref ka, .ref kc, .ref kl, .ref kn], iA G ka 16 af, oC kc 2 [.ref kcn, .int (nI 10), .int (nI nc)], iA G kcn (3 * 10) fc, oC kv 4 [.ref km, .ref kg, .int (nI vw2_11), .int (nI vh2_11), .int sl2_11], iA G km 176 mk2_11, iA G kg 160 sg2_11, oC kn 2 [.ref knn, .int (nI 8), .int (nI ns)], iA G knn (3 * 8) fs] := hD
  refine lv_istore_n (lv' := [(1, .int (fitS w h la af nc fc fs ns)), (0, .ref kx)]) hx hb dX5_could_14 rfl hl (by decide) rfl (fun ls hl => ?_)
  refine lv_iconst (v := nI 0) hx hb dX5_could_15 (by decide) ?_
  refine lv_istore_n (lv' := [(2, .int (nI 0)), (1, .int (fitS w h la af nc fc fs ns)), (0, .ref kx)]) hx hb dX5_could_16 rfl hl (by decide) rfl (fun ls hl => ?_)
  refine lv_iconst (v := nI 0) hx hb dX5_could_17 (by decide) ?_
  refine lv_istore_n (lv' := [(3, .int (nI 0)), (2, .int (nI 0)), (1, .int (fitS w h la af nc fc fs ns)), (0, .ref kx)]) hx hb dX5_could_18 rfl hl (by decide) rfl (fun ls hl => ?_)
  have hL19 : ∀ k : Nat, ∀ (i : Nat) (bits : Int32) (ls : Array Slot) (H : Heap) (locs : List Loc), nl - i = k → (i ≤ nl) → (bits = xbits (fun l => !decide ((fitS w h la af nc fc fs ns >>> (fl (3 * l) &&& 31)) &&& nI 1 = 0)) i) → lv_has ls 4 [(0, .ref kx), (1, .int (fitS w h la af nc fc fs ns)), (2, .int bits), (3, .int (nI i))] → xP G [iA G ka 16 af, oC kb 0 [.int (nI w), .int (nI h), .int (nI la), .ref ka, .ref kc, .ref kl, .ref kn], oC kc 2 [.ref kcn, .int (nI 10), .int (nI nc)], iA G kcn (3 * 10) fc, iA G kg 160 sg2_11, oC kl 2 [.ref kln, .int (nI 6), .int (nI nl)], iA G kln (3 * 6) fl, iA G km 176 mk2_11, oC kn 2 [.ref knn, .int (nI 8), .int (nI ns)], iA G knn (3 * 8) fs, oC kv 4 [.ref km, .ref kg, .int (nI vw2_11), .int (nI vh2_11), .int sl2_11], oC kx 5 [.ref kb, .ref kim, .ref kit, .ref kv, .ref kre, .int tf, .ref ksh, .int rf, .ref kwa, .ref kta]] H → va_D (va_A (w_X5_could G kx kim kit kre ksh kwa kta tf rf kb ka kc kcn kl kn w h la af nc fc kv km kg vw vh sl mk sg knn ns fs kln nl fl) ss.heap.size) [iA G ka 16 af, oC kb 0 [.int (nI w), .int (nI h), .int (nI la), .ref ka, .ref kc, .ref kl, .ref kn], oC kc 2 [.ref kcn, .int (nI 10), .int (nI nc)], iA G kcn (3 * 10) fc, iA G kg 160 sg2_11, oC kl 2 [.ref kln, .int (nI 6), .int (nI nl)], iA G kln (3 * 6) fl, iA G km 176 mk2_11, oC kn 2 [.ref knn, .int (nI 8), .int (nI ns)], iA G knn (3 * 8) fs, oC kv 4 [.ref km, .ref kg, .int (nI vw2_11), .int (nI vh2_11), .int sl2_11], oC kx 5 [.ref kb, .ref kim, .ref kit, .ref kv, .ref kre, .int tf, .ref ksh, .int rf, .ref kwa, .ref kta]] → va_S (va_A (w_X5_could G kx kim kit kre ksh kwa kta tf rf kb ka kc kcn kl kn w h la af nc fc kv km kg vw vh sl mk sg knn ns fs kln nl fl) ss.heap.size) ss.heap H locs → W pp l ee ({ frames := 5, cells := 0, slots := 0, locals := 123 } : Room) ss mm ([.ref kx] : List Value).toArray below mt cd H locs 0 0 (MQ below (Q_X5_could G ss.heap.size kx kim kit kre ksh kwa kta tf rf kb ka kc kcn kl kn w h la af nc fc kv km kg vw vh sl mk sg knn ns fs kln nl fl) ([.ref kx] : List Value).toArray ss 0 0 (va_A (w_X5_could G kx kim kit kre ksh kwa kta tf rf kb ka kc kcn kl kn w h la af nc fc kv km kg vw vh sl mk sg knn ns fs kln nl fl) ss.heap.size)) (F0 mm 19 ls []) := by
    intro k
    induction k using Nat.strongRecOn with
    | _ k ih19 =>
    intro i bits ls H locs hm19 hi hbits hl hP hD hS
    refine lv_iload_n hx hb dX5_could_19 rfl (lv_at hl 3 rfl) ?_
    refine lv_aload_n hx hb dX5_could_20 rfl (lv_at hl 0 rfl) ?_
    refine va_get (D := G.1) (ci := 5) (v := .ref kb) (C := RX5) (T := TX5) (N := 10) hx hb hts hin5 hown hK.1 hP 11 rfl rfl 0 (by decide) (hts (.fieldLink RX5 10 "BackLenses" "book" "LBackLenses$Book;") (List.mem_of_getElem? (i := 1) rfl)) (fun _ h9 => h9) rfl dX5_could_21 ?_
    refine va_getN (D := G.1) (ci := 0) (v := .ref kl) (C := RX0) (T := TX0) (N := 7) hx hb hts hin0 hown hK.1 hP 1 rfl rfl 5 (by decide) (va_Nw.use rfl (hK.2 (Cond.fieldLinkNest "BackLenses" (102 : Nat) "BackLenses$Book" "lenses" "LBackLenses$Rows;" "BackLenses") (List.mem_of_getElem? (i := 20) rfl))) (fun _ h9 => h9) rfl dX5_could_24 ?_
    refine va_getN (D := G.1) (ci := 2) (v := .int (nI nl)) (C := RX2) (T := TX2) (N := 3) hx hb hts hin2 hown hK.1 hP 5 rfl rfl 2 (by decide) (va_Nw.use rfl (hK.2 (Cond.fieldLinkNest "BackLenses" (97 : Nat) "BackLenses$Rows" "size" "I" "BackLenses") (List.mem_of_getElem? (i := 3) rfl))) (fun _ h9 => h9) rfl dX5_could_27 ?_
    refine xn_icmp_ge (tgt := 64) hx hb (by omega) (by omega) dX5_could_30 rfl (fun b30 => ?_) (fun b30 => ?_)
    · skip
      refine lv_iload_n hx hb dX5_could_64 rfl (lv_at hl 2 rfl) ?_
      have hP := hP.sub (ws' := [oC kx 5 [.ref kb, .ref kim, .ref kit, .ref kv, .ref kre, .int tf, .ref ksh, .int rf, .ref kwa, .ref kta], oC kb 0 [.int (nI w), .int (nI h), .int (nI la), .ref ka, .ref kc, .ref kl, .ref kn], iA G ka 16 af, oC kc 2 [.ref kcn, .int (nI 10), .int (nI nc)], iA G kcn (3 * 10) fc, oC kv 4 [.ref km, .ref kg, .int (nI vw2_11), .int (nI vh2_11), .int sl2_11], iA G km 176 mk2_11, iA G kg 160 sg2_11, oC kn 2 [.ref knn, .int (nI 8), .int (nI ns)], iA G knn (3 * 8) fs, oC kl 2 [.ref kln, .int (nI 6), .int (nI nl)], iA G kln (3 * 6) fl]) [11, 1, 0, 2, 3, 10, 7, 4, 8, 9, 5, 6] rfl
      have hD := hD.sub (ws' := [oC kx 5 [.ref kb, .ref kim, .ref kit, .ref kv, .ref kre, .int tf, .ref ksh, .int rf, .ref kwa, .ref kta], oC kb 0 [.int (nI w), .int (nI h), .int (nI la), .ref ka, .ref kc, .ref kl, .ref kn], iA G ka 16 af, oC kc 2 [.ref kcn, .int (nI 10), .int (nI nc)], iA G kcn (3 * 10) fc, oC kv 4 [.ref km, .ref kg, .int (nI vw2_11), .int (nI vh2_11), .int sl2_11], iA G km 176 mk2_11, iA G kg 160 sg2_11, oC kn 2 [.ref knn, .int (nI 8), .int (nI ns)], iA G knn (3 * 8) fs, oC kl 2 [.ref kln, .int (nI 6), .int (nI nl)], iA G kln (3 * 6) fl]) [11, 1, 0, 2, 3, 10, 7, 4, 8, 9, 5, 6] (by decide) rfl
      refine W.iret (v := bits) hx hb hr (fun t ht hW => ⟨⟨bits, (mk2_11, sg2_11, vw2_11, vh2_11, sl2_11), rfl, ?_, by rw [ht]; exact hP, hD⟩, hS.F ht⟩) hS.2.2 dX5_could_65
      try dsimp only
      exact ⟨by rw [hbits, show i = nl by omega], he11⟩
    · skip
      refine lv_iload_n hx hb dX5_could_33 rfl (lv_at hl 1 rfl) ?_
      refine lv_aload_n hx hb dX5_could_34 rfl (lv_at hl 0 rfl) ?_
      refine va_get (D := G.1) (ci := 5) (v := .ref kb) (C := RX5) (T := TX5) (N := 10) hx hb hts hin5 hown hK.1 hP 11 rfl rfl 0 (by decide) (hts (.fieldLink RX5 10 "BackLenses" "book" "LBackLenses$Book;") (List.mem_of_getElem? (i := 1) rfl)) (fun _ h9 => h9) rfl dX5_could_35 ?_
      refine va_getN (D := G.1) (ci := 0) (v := .ref kl) (C := RX0) (T := TX0) (N := 7) hx hb hts hin0 hown hK.1 hP 1 rfl rfl 5 (by decide) (va_Nw.use rfl (hK.2 (Cond.fieldLinkNest "BackLenses" (102 : Nat) "BackLenses$Book" "lenses" "LBackLenses$Rows;" "BackLenses") (List.mem_of_getElem? (i := 20) rfl))) (fun _ h9 => h9) rfl dX5_could_38 ?_
      refine lv_iload_n hx hb dX5_could_41 rfl (lv_at hl 3 rfl) ?_
      refine lv_iconst (v := nI 0) hx hb dX5_could_42 (by decide) ?_
      refine xr_i (As := [.int (nI i), .int (nI 0)]) (rest := [.int (fitS w h la af nc fc fs ns)]) ⟨hx, hb, hml, hown, hts⟩ (c_X2_number l G kl kln 6 nl fl i 0 (by first | assumption | omega) (by first | assumption | omega)) (cwV 2 hts gX5_could_X2_number rfl rfl rfl (by decide +kernel) ⟨Nat.le_of_ble_eq_true rfl, Nat.le_of_ble_eq_true rfl⟩) hK hP hS [5, 6] rfl rfl rfl rfl hl.1 rfl (Nat.le_of_ble_eq_true rfl) dX5_could_43 ⟨Nat.zero_le _, Nat.zero_le _⟩ (fun r43 H locs hp43 hP hS => ?_)
      obtain rfl : r43 = fl (3 * i + 0) := hp43
      refine lv_ishr hx hb dX5_could_46 ?_
      refine lv_iconst (v := nI 1) hx hb dX5_could_47 (by decide) ?_
      refine lv_iand hx hb dX5_could_48 ?_
      refine lv_if_eq (tgt := 58) hx hb dX5_could_49 rfl (fun b49 => ?_) (fun b49 => ?_)
      · skip
        refine lv_iinc (k := 3) (v := nI (i + 1)) (lv' := [(3, .int (nI (i + 1))), (0, .ref kx), (1, .int (fitS w h la af nc fc fs ns)), (2, .int bits)]) hx hb dX5_could_58 hl rfl (xn_inc i 1) (by decide) rfl (fun ls hl => ?_)
        refine lv_goto (tgt := 19) hx hb dX5_could_61 rfl ?_
        have hl := lv_sub hl (l' := [(0, .ref kx), (1, .int (fitS w h la af nc fc fs ns)), (2, .int bits), (3, .int (nI (i + 1)))]) [1, 2, 3, 0] rfl
        exact ih19 (nl - (i + 1)) (by omega) (i + 1) bits ls H locs rfl (by omega) (by first | exact xbits_T (by simp only [Nat.add_zero] at b49; simp only [decide_eq_false b49]; decide) hbits | exact xbits_N (by simp only [Nat.add_zero] at b49; simp only [decide_eq_true b49]; decide) hbits) hl hP hD hS
      · skip
        refine lv_iload_n hx hb dX5_could_52 rfl (lv_at hl 2 rfl) ?_
        refine lv_iconst (v := nI 1) hx hb dX5_could_53 (by decide) ?_
        refine lv_iload_n hx hb dX5_could_54 rfl (lv_at hl 3 rfl) ?_
        refine lv_ishl hx hb dX5_could_55 ?_
        refine lv_ior hx hb dX5_could_56 ?_
        refine lv_istore_n (lv' := [(2, .int (bits ||| ((nI 1) <<< ((nI i) &&& 31)))), (0, .ref kx), (1, .int (fitS w h la af nc fc fs ns)), (3, .int (nI i))]) hx hb dX5_could_57 rfl hl (by decide) rfl (fun ls hl => ?_)
        refine lv_iinc (k := 3) (v := nI (i + 1)) (lv' := [(3, .int (nI (i + 1))), (2, .int (bits ||| ((nI 1) <<< ((nI i) &&& 31)))), (0, .ref kx), (1, .int (fitS w h la af nc fc fs ns))]) hx hb dX5_could_58 hl rfl (xn_inc i 1) (by decide) rfl (fun ls hl => ?_)
        refine lv_goto (tgt := 19) hx hb dX5_could_61 rfl ?_
        have hl := lv_sub hl (l' := [(0, .ref kx), (1, .int (fitS w h la af nc fc fs ns)), (2, .int (bits ||| ((nI 1) <<< ((nI i) &&& 31)))), (3, .int (nI (i + 1)))]) [2, 3, 1, 0] rfl
        exact ih19 (nl - (i + 1)) (by omega) (i + 1) (bits ||| ((nI 1) <<< ((nI i) &&& 31))) ls H locs rfl (by omega) (by first | exact xbits_T (by simp only [Nat.add_zero] at b49; simp only [decide_eq_false b49]; decide) hbits | exact xbits_N (by simp only [Nat.add_zero] at b49; simp only [decide_eq_true b49]; decide) hbits) hl hP hD hS
  have hl := lv_sub hl (l' := [(0, .ref kx), (1, .int (fitS w h la af nc fc fs ns)), (2, .int (nI 0)), (3, .int (nI 0))]) [3, 2, 1, 0] rfl
  have hP := hP.sub (ws' := [iA G ka 16 af, oC kb 0 [.int (nI w), .int (nI h), .int (nI la), .ref ka, .ref kc, .ref kl, .ref kn], oC kc 2 [.ref kcn, .int (nI 10), .int (nI nc)], iA G kcn (3 * 10) fc, iA G kg 160 sg2_11, oC kl 2 [.ref kln, .int (nI 6), .int (nI nl)], iA G kln (3 * 6) fl, iA G km 176 mk2_11, oC kn 2 [.ref knn, .int (nI 8), .int (nI ns)], iA G knn (3 * 8) fs, oC kv 4 [.ref km, .ref kg, .int (nI vw2_11), .int (nI vh2_11), .int sl2_11], oC kx 5 [.ref kb, .ref kim, .ref kit, .ref kv, .ref kre, .int tf, .ref ksh, .int rf, .ref kwa, .ref kta]]) [4, 3, 5, 6, 9, 0, 1, 8, 10, 11, 7, 2] rfl
  have hD := hD.sub (ws' := [iA G ka 16 af, oC kb 0 [.int (nI w), .int (nI h), .int (nI la), .ref ka, .ref kc, .ref kl, .ref kn], oC kc 2 [.ref kcn, .int (nI 10), .int (nI nc)], iA G kcn (3 * 10) fc, iA G kg 160 sg2_11, oC kl 2 [.ref kln, .int (nI 6), .int (nI nl)], iA G kln (3 * 6) fl, iA G km 176 mk2_11, oC kn 2 [.ref knn, .int (nI 8), .int (nI ns)], iA G knn (3 * 8) fs, oC kv 4 [.ref km, .ref kg, .int (nI vw2_11), .int (nI vh2_11), .int sl2_11], oC kx 5 [.ref kb, .ref kim, .ref kit, .ref kv, .ref kre, .int tf, .ref ksh, .int rf, .ref kwa, .ref kta]]) [4, 3, 5, 6, 9, 0, 1, 8, 10, 11, 7, 2] (by decide) rfl
  exact hL19 (nl - 0) 0 (nI 0) ls H locs rfl (by omega) (by rfl) hl hP hD hS

abbrev w_X5_hide (G : XG) (kx kim kit kre ksh kwa kta : Nat) (tf rf : Int32) (kb ka kc kcn kl kn : Nat) (w h la : Nat) (af : Nat → Int32) (nc : Nat) (fc : Nat → Int32) (kv km kg : Nat) (vw vh : Nat) (sl : Int32) (mk sg : Nat → Int32) (kln : Nat) (nl : Nat) (fl : Nat → Int32) : va_W := [oC kx 5 [.ref kb, .ref kim, .ref kit, .ref kv, .ref kre, .int tf, .ref ksh, .int rf, .ref kwa, .ref kta], oC kb 0 [.int (nI w), .int (nI h), .int (nI la), .ref ka, .ref kc, .ref kl, .ref kn], iA G ka 16 af, oC kc 2 [.ref kcn, .int (nI 10), .int (nI nc)], iA G kcn (3 * 10) fc, oC kv 4 [.ref km, .ref kg, .int (nI vw), .int (nI vh), .int sl], iA G km 176 mk, iA G kg 160 sg, oC kl 2 [.ref kln, .int (nI 6), .int (nI nl)], iA G kln (3 * 6) fl]
abbrev Q_X5_hide (G : XG) (sz : Nat) (kx kim kit kre ksh kwa kta : Nat) (tf rf : Int32) (kb ka kc kcn kl kn : Nat) (w h la : Nat) (af : Nat → Int32) (nc : Nat) (fc : Nat → Int32) (kv km kg : Nat) (vw vh : Nat) (sl : Int32) (mk sg : Nat → Int32) (kln : Nat) (nl : Nat) (fl : Nat → Int32) (x : Int32) : Array Value → State → Outcome → State → Prop := (va_Qi (fun (r : Int32) (u : (Nat → Int32) × (Nat → Int32) × Nat × Nat × Int32) => r = (if inR x (w * h) then (if nl = 0 then (-2) else (orF (fun l => sgS w h af nc fc (tn x) (tn (fl (3 * l)))) nl ^^^ (-1)) &&& (nI 1 <<< (nI (w * h) &&& 31) - nI 1)) else (-1)) ∧ VOK w h la af nc fc u.1 u.2.1 u.2.2.1 u.2.2.2.1 u.2.2.2.2) (xWb G sz (w_X5_hide G kx kim kit kre ksh kwa kta tf rf kb ka kc kcn kl kn w h la af nc fc kv km kg vw vh sl mk sg kln nl fl) (fun u : (Nat → Int32) × (Nat → Int32) × Nat × Nat × Int32 => [oC kx 5 [.ref kb, .ref kim, .ref kit, .ref kv, .ref kre, .int tf, .ref ksh, .int rf, .ref kwa, .ref kta], oC kb 0 [.int (nI w), .int (nI h), .int (nI la), .ref ka, .ref kc, .ref kl, .ref kn], iA G ka 16 af, oC kc 2 [.ref kcn, .int (nI 10), .int (nI nc)], iA G kcn (3 * 10) fc, oC kv 4 [.ref km, .ref kg, .int (nI u.2.2.1), .int (nI u.2.2.2.1), .int u.2.2.2.2], iA G km 176 u.1, iA G kg 160 u.2.1, oC kl 2 [.ref kln, .int (nI 6), .int (nI nl)], iA G kln (3 * 6) fl])) (va_A (w_X5_hide G kx kim kit kre ksh kwa kta tf rf kb ka kc kcn kl kn w h la af nc fc kv km kg vw vh sl mk sg kln nl fl) sz))
set_option maxHeartbeats 4000000 in
set_option maxRecDepth 100000 in
theorem c_X5_hide (l : Launch) (G : XG) (sz : Nat) (kx kim kit kre ksh kwa kta : Nat) (tf rf : Int32) (kb ka kc kcn kl kn : Nat) (w h la : Nat) (af : Nat → Int32) (nc : Nat) (fc : Nat → Int32) (kv km kg : Nat) (vw vh : Nat) (sl : Int32) (mk sg : Nat → Int32) (kln : Nat) (nl : Nat) (fl : Nat → Int32) (x : Int32) (hw : 1 ≤ w) (hwb : w ≤ 16) (hhb : h ≤ 16) (hwh : w * h ≤ 16) (hla : la ≤ 9) (hnc : nc ≤ 10) (hcell : ∀ i, i < nc → inR (fc (3 * i + 1)) 16) (hvok : VOK w h la af nc fc mk sg vw vh sl) (hnl : nl ≤ 6) (hlens : ∀ i, i < nl → inR (fl (3 * i)) (la + 1)) : Met l yX5_hide wsX5_hide ({ frames := 4, cells := 0, slots := 0, locals := 96 } : Room) (va_Pc [.ref kx, .int x] (xWp G sz (w_X5_hide G kx kim kit kre ksh kwa kta tf rf kb ka kc kcn kl kn w h la af nc fc kv km kg vw vh sl mk sg kln nl fl))) (Q_X5_hide G sz kx kim kit kre ksh kwa kta tf rf kb ka kc kcn kl kn w h la af nc fc kv km kg vw vh sl mk sg kln nl fl x) 0 0 (va_A (w_X5_hide G kx kim kit kre ksh kwa kta tf rf kb ka kc kcn kl kn w h la af nc fc kv km kg vw vh sl mk sg kln nl fl) sz) := by
  refine Met.ofW (cc := cX5_hide) (maxL := 5) (ret := (some .int)) (by decide) rfl ?_
  intro pp ee ss mm aa below mt cd s₁ BB hml hv
  obtain ⟨rfl, hsz, hP, hK, hD0⟩ := hv
  have hx := BB.exec
  have hb := BB.bytes
  have hr := BB.returns
  have hts := atoms_spec (ws := wsX5_hide) BB.pre
  have hown : ss.vm.findClass RX5 = some mm.cls := findClass_of_methodNamed BB.named
  have hlocks := BB.notSynchronized
  subst hsz
  have hD := hD0.self (sz := ss.heap.size)
  have hA : ∀ q : Nat, ss.heap.size ≤ q → va_A (w_X5_hide G kx kim kit kre ksh kwa kta tf rf kb ka kc kcn kl kn w h la af nc fc kv km kg vw vh sl mk sg kln nl fl) ss.heap.size q := fun q h => Or.inr h
  have hS : va_S (va_A (w_X5_hide G kx kim kit kre ksh kwa kta tf rf kb ka kc kcn kl kn w h la af nc fc kv km kg vw vh sl mk sg kln nl fl) ss.heap.size) ss.heap ss.heap [] := va_S.rf
  replace hD : va_D (va_A (w_X5_hide G kx kim kit kre ksh kwa kta tf rf kb ka kc kcn kl kn w h la af nc fc kv km kg vw vh sl mk sg kln nl fl) ss.heap.size) [oC kx 5 [.ref kb, .ref kim, .ref kit, .ref kv, .ref kre, .int tf, .ref ksh, .int rf, .ref kwa, .ref kta], oC kb 0 [.int (nI w), .int (nI h), .int (nI la), .ref ka, .ref kc, .ref kl, .ref kn], iA G ka 16 af, oC kc 2 [.ref kcn, .int (nI 10), .int (nI nc)], iA G kcn (3 * 10) fc, oC kv 4 [.ref km, .ref kg, .int (nI vw), .int (nI vh), .int sl], iA G km 176 mk, iA G kg 160 sg, oC kl 2 [.ref kln, .int (nI 6), .int (nI nl)], iA G kln (3 * 6) fl] := hD
  replace hP : xP G [oC kx 5 [.ref kb, .ref kim, .ref kit, .ref kv, .ref kre, .int tf, .ref ksh, .int rf, .ref kwa, .ref kta], oC kb 0 [.int (nI w), .int (nI h), .int (nI la), .ref ka, .ref kc, .ref kl, .ref kn], iA G ka 16 af, oC kc 2 [.ref kcn, .int (nI 10), .int (nI nc)], iA G kcn (3 * 10) fc, oC kv 4 [.ref km, .ref kg, .int (nI vw), .int (nI vh), .int sl], iA G km 176 mk, iA G kg 160 sg, oC kl 2 [.ref kln, .int (nI 6), .int (nI nl)], iA G kln (3 * 6) fl] ss.heap := hP
  have hin0 : ∀ w ∈ u_ws RX0 TX0 7, w ∈ wsX5_hide := fun w h => List.mem_cons_of_mem _ (List.mem_append_left _ (List.mem_append_left _ (List.mem_append_right _ h)))
  have hin2 : ∀ w ∈ u_ws RX2 TX2 3, w ∈ wsX5_hide := fun w h => List.mem_cons_of_mem _ (List.mem_append_left _ (List.mem_append_right _ h))
  have hin4 : ∀ w ∈ u_ws RX4 TX4 5, w ∈ wsX5_hide := fun w h => List.mem_cons_of_mem _ (List.mem_append_right _ h)
  have hin5 : ∀ w ∈ u_ws RX5 TX5 10, w ∈ wsX5_hide := fun w h => List.mem_cons_of_mem _ (List.mem_append_left _ (List.mem_append_left _ (List.mem_append_left _ (List.mem_append_right _ h))))
  have hl := lv_entry ([.ref kx, .int x]) (n := 5) (Nat.le_of_ble_eq_true rfl)
  rw [lg_entry_eq]
  generalize (lg_sl ([.ref kx, .int x]) ++ List.replicate (5 - (lg_sl ([.ref kx, .int x])).length) Slot.unset).toArray = ls at hl ⊢
  replace hl : lv_has ls 5 [(0, .ref kx), (1, .int x)] := hl
  refine lv_aload_n hx hb dX5_hide_0 rfl (lv_at hl 0 rfl) ?_
  refine va_get (D := G.1) (ci := 5) (v := .ref kb) (C := RX5) (T := TX5) (N := 10) hx hb hts hin5 hown hK.1 hP 0 rfl rfl 0 (by decide) (hts (.fieldLink RX5 10 "BackLenses" "book" "LBackLenses$Book;") (List.mem_of_getElem? (i := 1) rfl)) (fun _ h9 => h9) rfl dX5_hide_1 ?_
  refine lv_iload_n hx hb dX5_hide_4 rfl (lv_at hl 1 rfl) ?_
  refine xr_i (As := [.int x]) (rest := []) ⟨hx, hb, hml, hown, hts⟩ (c_X0_hasCell l G kb ka kc kl kn w h la x (by first | assumption | omega)) (cwV 1 hts gX5_hide_X0_hasCell rfl rfl rfl (by decide +kernel) ⟨Nat.le_of_ble_eq_true rfl, Nat.le_of_ble_eq_true rfl⟩) hK hP hS [1] rfl rfl rfl rfl hl.1 rfl (Nat.le_of_ble_eq_true rfl) dX5_hide_5 ⟨Nat.zero_le _, Nat.zero_le _⟩ (fun r5 H locs hp5 hP hS => ?_)
  obtain rfl : r5 = xb (inR x (w * h)) := hp5
  refine xb_if_ne (tgt := 13) hx hb dX5_hide_8 rfl (fun b8 => ?_) (fun b8 => ?_)
  · skip
    obtain ⟨x0, hx0, rfl⟩ := inR_nat b8
    refine lv_aload_n hx hb dX5_hide_13 rfl (lv_at hl 0 rfl) ?_
    refine va_get (D := G.1) (ci := 5) (v := .ref kb) (C := RX5) (T := TX5) (N := 10) hx hb hts hin5 hown hK.1 hP 0 rfl rfl 0 (by decide) (hts (.fieldLink RX5 10 "BackLenses" "book" "LBackLenses$Book;") (List.mem_of_getElem? (i := 1) rfl)) (fun _ h9 => h9) rfl dX5_hide_14 ?_
    refine va_getN (D := G.1) (ci := 0) (v := .ref kl) (C := RX0) (T := TX0) (N := 7) hx hb hts hin0 hown hK.1 hP 1 rfl rfl 5 (by decide) (va_Nw.use rfl (hK.2 (Cond.fieldLinkNest "BackLenses" (102 : Nat) "BackLenses$Book" "lenses" "LBackLenses$Rows;" "BackLenses") (List.mem_of_getElem? (i := 20) rfl))) (fun _ h9 => h9) rfl dX5_hide_17 ?_
    refine va_getN (D := G.1) (ci := 2) (v := .int (nI nl)) (C := RX2) (T := TX2) (N := 3) hx hb hts hin2 hown hK.1 hP 8 rfl rfl 2 (by decide) (va_Nw.use rfl (hK.2 (Cond.fieldLinkNest "BackLenses" (97 : Nat) "BackLenses$Rows" "size" "I" "BackLenses") (List.mem_of_getElem? (i := 3) rfl))) (fun _ h9 => h9) rfl dX5_hide_20 ?_
    refine xn_if_ne (tgt := 29) hx hb (by omega) dX5_hide_23 rfl (fun b23 => ?_) (fun b23 => ?_)
    · skip
      refine lv_aload_n hx hb dX5_hide_29 rfl (lv_at hl 0 rfl) ?_
      refine xw_r (As := []) (rest := []) (wr := [oC kl 2 [.ref kln, .int (nI 6), .int (nI nl)], iA G kln (3 * 6) fl]) ⟨hx, hb, hml, hown, hts⟩ (c_X5_freshViews l G H.size kx kim kit kre ksh kwa kta tf rf kb ka kc kcn kl kn w h la af nc fc kv km kg vw vh sl mk sg (by first | assumption | omega) (by first | assumption | omega) (by first | assumption | omega) (by first | assumption | omega) (by first | assumption | omega) (by first | assumption | omega) (by first | assumption | omega) (by first | assumption | omega)) (cwV 0 hts gX5_hide_X5_freshViews rfl rfl rfl (by decide +kernel) ⟨Nat.le_of_ble_eq_true rfl, Nat.le_of_ble_eq_true rfl⟩) hK hP hD hS hA [0, 1, 2, 3, 4, 5, 6, 7] [8, 9] rfl rfl (by decide) (by decide) (by decide) rfl rfl rfl hl.1 rfl (Nat.le_of_ble_eq_true rfl) dX5_hide_30 ⟨Nat.le_of_ble_eq_true rfl, Nat.le_of_ble_eq_true rfl⟩ (fun u H locs hp30 hP hD hS => ?_)
      obtain ⟨mk2_30, sg2_30⟩ := u
      try dsimp only at hp30 hP hD
      have he30 := hp30
      replace hP : xP G [oC kl 2 [.ref kln, .int (nI 6), .int (nI nl)], iA G kln (3 * 6) fl, oC kx 5 [.ref kb, .ref kim, .ref kit, .ref kv, .ref kre, .int tf, .ref ksh, .int rf, .ref kwa, .ref kta], oC kb 0 [.int (nI w), .int (nI h), .int (nI la), .ref ka, .ref kc, .ref kl, .ref kn], iA G ka 16 af, oC kc 2 [.ref kcn, .int (nI 10), .int (nI nc)], iA G kcn (3 * 10) fc, oC kv 4 [.ref km, .ref kg, .int (nI w), .int (nI h), .int (nI 0)], iA G km 176 mk2_30, iA G kg 160 sg2_30] H := hP
      replace hD : va_D (va_A (w_X5_hide G kx kim kit kre ksh kwa kta tf rf kb ka kc kcn kl kn w h la af nc fc kv km kg vw vh sl mk sg kln nl fl) ss.heap.size) [oC kl 2 [.ref kln, .int (nI 6), .int (nI nl)], iA G kln (3 * 6) fl, oC kx 5 [.ref kb, .ref kim, .ref kit, .ref kv, .ref kre, .int tf, .ref ksh, .int rf, .ref kwa, .ref kta], oC kb 0 [.int (nI w), .int (nI h), .int (nI la), .ref ka, .ref kc, .ref kl, .ref kn], iA G ka 16 af, oC kc 2 [.ref kcn, .int (nI 10), .int (nI nc)], iA G kcn (3 * 10) fc, oC kv 4 [.ref km, .ref kg, .int (nI w), .int (nI h), .int (nI 0)], iA G km 176 mk2_30, iA G kg 160 sg2_30] := hD
      refine lv_astore_n (lv' := [(2, .ref kv), (0, .ref kx), (1, .int (nI x0))]) hx hb dX5_hide_33 rfl hl (by decide) rfl (fun ls hl => ?_)
      refine lv_iconst (v := nI 0) hx hb dX5_hide_34 (by decide) ?_
      refine lv_istore_n (lv' := [(3, .int (nI 0)), (2, .ref kv), (0, .ref kx), (1, .int (nI x0))]) hx hb dX5_hide_35 rfl hl (by decide) rfl (fun ls hl => ?_)
      refine lv_iconst (v := nI 0) hx hb dX5_hide_36 (by decide) ?_
      refine lv_istore (lv' := [(4, .int (nI 0)), (3, .int (nI 0)), (2, .ref kv), (0, .ref kx), (1, .int (nI x0))]) hx hb dX5_hide_37 hl (by decide) rfl (fun ls hl => ?_)
      have hL39 : ∀ k : Nat, ∀ (i : Nat) (bits : Int32) (ls : Array Slot) (H : Heap) (locs : List Loc), nl - i = k → (i ≤ nl) → (bits = orF (fun l => sgS w h af nc fc x0 (tn (fl (3 * l)))) i) → lv_has ls 5 [(0, .ref kx), (1, .int (nI x0)), (2, .ref kv), (3, .int bits), (4, .int (nI i))] → xP G [iA G ka 16 af, oC kb 0 [.int (nI w), .int (nI h), .int (nI la), .ref ka, .ref kc, .ref kl, .ref kn], oC kc 2 [.ref kcn, .int (nI 10), .int (nI nc)], iA G kcn (3 * 10) fc, iA G kg 160 sg2_30, oC kl 2 [.ref kln, .int (nI 6), .int (nI nl)], iA G kln (3 * 6) fl, iA G km 176 mk2_30, oC kv 4 [.ref km, .ref kg, .int (nI w), .int (nI h), .int (nI 0)], oC kx 5 [.ref kb, .ref kim, .ref kit, .ref kv, .ref kre, .int tf, .ref ksh, .int rf, .ref kwa, .ref kta]] H → va_D (va_A (w_X5_hide G kx kim kit kre ksh kwa kta tf rf kb ka kc kcn kl kn w h la af nc fc kv km kg vw vh sl mk sg kln nl fl) ss.heap.size) [iA G ka 16 af, oC kb 0 [.int (nI w), .int (nI h), .int (nI la), .ref ka, .ref kc, .ref kl, .ref kn], oC kc 2 [.ref kcn, .int (nI 10), .int (nI nc)], iA G kcn (3 * 10) fc, iA G kg 160 sg2_30, oC kl 2 [.ref kln, .int (nI 6), .int (nI nl)], iA G kln (3 * 6) fl, iA G km 176 mk2_30, oC kv 4 [.ref km, .ref kg, .int (nI w), .int (nI h), .int (nI 0)], oC kx 5 [.ref kb, .ref kim, .ref kit, .ref kv, .ref kre, .int tf, .ref ksh, .int rf, .ref kwa, .ref kta]] → va_S (va_A (w_X5_hide G kx kim kit kre ksh kwa kta tf rf kb ka kc kcn kl kn w h la af nc fc kv km kg vw vh sl mk sg kln nl fl) ss.heap.size) ss.heap H locs → W pp l ee ({ frames := 4, cells := 0, slots := 0, locals := 96 } : Room) ss mm ([.ref kx, .int (nI x0)] : List Value).toArray below mt cd H locs 0 0 (MQ below (Q_X5_hide G ss.heap.size kx kim kit kre ksh kwa kta tf rf kb ka kc kcn kl kn w h la af nc fc kv km kg vw vh sl mk sg kln nl fl (nI x0)) ([.ref kx, .int (nI x0)] : List Value).toArray ss 0 0 (va_A (w_X5_hide G kx kim kit kre ksh kwa kta tf rf kb ka kc kcn kl kn w h la af nc fc kv km kg vw vh sl mk sg kln nl fl) ss.heap.size)) (F0 mm 39 ls []) := by
        intro k
        induction k using Nat.strongRecOn with
        | _ k ih39 =>
        intro i bits ls H locs hm39 hi hbits hl hP hD hS
        refine lv_iload hx hb dX5_hide_39 (lv_at hl 4 rfl) ?_
        refine lv_aload_n hx hb dX5_hide_41 rfl (lv_at hl 0 rfl) ?_
        refine va_get (D := G.1) (ci := 5) (v := .ref kb) (C := RX5) (T := TX5) (N := 10) hx hb hts hin5 hown hK.1 hP 9 rfl rfl 0 (by decide) (hts (.fieldLink RX5 10 "BackLenses" "book" "LBackLenses$Book;") (List.mem_of_getElem? (i := 1) rfl)) (fun _ h9 => h9) rfl dX5_hide_42 ?_
        refine va_getN (D := G.1) (ci := 0) (v := .ref kl) (C := RX0) (T := TX0) (N := 7) hx hb hts hin0 hown hK.1 hP 1 rfl rfl 5 (by decide) (va_Nw.use rfl (hK.2 (Cond.fieldLinkNest "BackLenses" (102 : Nat) "BackLenses$Book" "lenses" "LBackLenses$Rows;" "BackLenses") (List.mem_of_getElem? (i := 20) rfl))) (fun _ h9 => h9) rfl dX5_hide_45 ?_
        refine va_getN (D := G.1) (ci := 2) (v := .int (nI nl)) (C := RX2) (T := TX2) (N := 3) hx hb hts hin2 hown hK.1 hP 5 rfl rfl 2 (by decide) (va_Nw.use rfl (hK.2 (Cond.fieldLinkNest "BackLenses" (97 : Nat) "BackLenses$Rows" "size" "I" "BackLenses") (List.mem_of_getElem? (i := 3) rfl))) (fun _ h9 => h9) rfl dX5_hide_48 ?_
        refine xn_icmp_ge (tgt := 81) hx hb (by omega) (by omega) dX5_hide_51 rfl (fun b51 => ?_) (fun b51 => ?_)
        · skip
          refine lv_iload_n hx hb dX5_hide_81 rfl (lv_at hl 3 rfl) ?_
          refine lv_iconst (v := (-1)) hx hb dX5_hide_82 (by decide) ?_
          refine lv_ixor hx hb dX5_hide_83 ?_
          refine lv_iconst (v := nI 1) hx hb dX5_hide_84 (by decide) ?_
          refine lv_aload_n hx hb dX5_hide_85 rfl (lv_at hl 0 rfl) ?_
          refine va_get (D := G.1) (ci := 5) (v := .ref kb) (C := RX5) (T := TX5) (N := 10) hx hb hts hin5 hown hK.1 hP 9 rfl rfl 0 (by decide) (hts (.fieldLink RX5 10 "BackLenses" "book" "LBackLenses$Book;") (List.mem_of_getElem? (i := 1) rfl)) (fun _ h9 => h9) rfl dX5_hide_86 ?_
          refine xr_i (As := []) (rest := [.int (nI 1), .int (bits ^^^ (-1))]) ⟨hx, hb, hml, hown, hts⟩ (c_X0_cells l G kb ka kc kl kn w h la ) (cwV 0 hts gX5_hide_X0_cells rfl rfl rfl (by decide +kernel) ⟨Nat.le_of_ble_eq_true rfl, Nat.le_of_ble_eq_true rfl⟩) hK hP hS [1] rfl rfl rfl rfl hl.1 rfl (Nat.le_of_ble_eq_true rfl) dX5_hide_89 ⟨Nat.zero_le _, Nat.zero_le _⟩ (fun r89 H locs hp89 hP hS => ?_)
          obtain rfl : r89 = nI (w * h) := hp89
          refine lv_ishl hx hb dX5_hide_92 ?_
          refine lv_iconst (v := nI 1) hx hb dX5_hide_93 (by decide) ?_
          refine lv_isub hx hb dX5_hide_94 ?_
          refine lv_iand hx hb dX5_hide_95 ?_
          have hP := hP.sub (ws' := [oC kx 5 [.ref kb, .ref kim, .ref kit, .ref kv, .ref kre, .int tf, .ref ksh, .int rf, .ref kwa, .ref kta], oC kb 0 [.int (nI w), .int (nI h), .int (nI la), .ref ka, .ref kc, .ref kl, .ref kn], iA G ka 16 af, oC kc 2 [.ref kcn, .int (nI 10), .int (nI nc)], iA G kcn (3 * 10) fc, oC kv 4 [.ref km, .ref kg, .int (nI w), .int (nI h), .int (nI 0)], iA G km 176 mk2_30, iA G kg 160 sg2_30, oC kl 2 [.ref kln, .int (nI 6), .int (nI nl)], iA G kln (3 * 6) fl]) [9, 1, 0, 2, 3, 8, 7, 4, 5, 6] rfl
          have hD := hD.sub (ws' := [oC kx 5 [.ref kb, .ref kim, .ref kit, .ref kv, .ref kre, .int tf, .ref ksh, .int rf, .ref kwa, .ref kta], oC kb 0 [.int (nI w), .int (nI h), .int (nI la), .ref ka, .ref kc, .ref kl, .ref kn], iA G ka 16 af, oC kc 2 [.ref kcn, .int (nI 10), .int (nI nc)], iA G kcn (3 * 10) fc, oC kv 4 [.ref km, .ref kg, .int (nI w), .int (nI h), .int (nI 0)], iA G km 176 mk2_30, iA G kg 160 sg2_30, oC kl 2 [.ref kln, .int (nI 6), .int (nI nl)], iA G kln (3 * 6) fl]) [9, 1, 0, 2, 3, 8, 7, 4, 5, 6] (by decide) rfl
          refine W.iret (v := (bits ^^^ (-1)) &&& (((nI 1) <<< ((nI (w * h)) &&& 31)) - (nI 1))) hx hb hr (fun t ht hW => ⟨⟨(bits ^^^ (-1)) &&& (((nI 1) <<< ((nI (w * h)) &&& 31)) - (nI 1)), (mk2_30, sg2_30, w, h, nI 0), rfl, ?_, by rw [ht]; exact hP, hD⟩, hS.F ht⟩) hS.2.2 dX5_hide_96
          try dsimp only
          first | exact ⟨(if_neg b8).symm, hvok⟩ | exact ⟨by rw [if_pos (inR_nI hx0 (by omega)), if_pos b23], hvok⟩ | (refine ⟨?_, VOK_fr he30⟩; rw [if_pos (inR_nI hx0 (by omega)), if_neg b23, tn_nI (by omega), hbits, show i = nl by omega])
        · skip
          refine lv_iload_n hx hb dX5_hide_54 rfl (lv_at hl 3 rfl) ?_
          refine lv_aload_n hx hb dX5_hide_55 rfl (lv_at hl 2 rfl) ?_
          refine lv_iload_n hx hb dX5_hide_56 rfl (lv_at hl 1 rfl) ?_
          refine lv_aload_n hx hb dX5_hide_57 rfl (lv_at hl 0 rfl) ?_
          refine va_get (D := G.1) (ci := 5) (v := .ref kb) (C := RX5) (T := TX5) (N := 10) hx hb hts hin5 hown hK.1 hP 9 rfl rfl 0 (by decide) (hts (.fieldLink RX5 10 "BackLenses" "book" "LBackLenses$Book;") (List.mem_of_getElem? (i := 1) rfl)) (fun _ h9 => h9) rfl dX5_hide_58 ?_
          refine va_getN (D := G.1) (ci := 0) (v := .ref kl) (C := RX0) (T := TX0) (N := 7) hx hb hts hin0 hown hK.1 hP 1 rfl rfl 5 (by decide) (va_Nw.use rfl (hK.2 (Cond.fieldLinkNest "BackLenses" (102 : Nat) "BackLenses$Book" "lenses" "LBackLenses$Rows;" "BackLenses") (List.mem_of_getElem? (i := 20) rfl))) (fun _ h9 => h9) rfl dX5_hide_61 ?_
          refine lv_iload hx hb dX5_hide_64 (lv_at hl 4 rfl) ?_
          refine lv_iconst (v := nI 0) hx hb dX5_hide_66 (by decide) ?_
          refine xr_i (As := [.int (nI i), .int (nI 0)]) (rest := [.int (nI x0), .ref kv, .int bits]) ⟨hx, hb, hml, hown, hts⟩ (c_X2_number l G kl kln 6 nl fl i 0 (by first | assumption | omega) (by first | assumption | omega)) (cwV 2 hts gX5_hide_X2_number rfl rfl rfl (by decide +kernel) ⟨Nat.le_of_ble_eq_true rfl, Nat.le_of_ble_eq_true rfl⟩) hK hP hS [5, 6] rfl rfl rfl rfl hl.1 rfl (Nat.le_of_ble_eq_true rfl) dX5_hide_67 ⟨Nat.zero_le _, Nat.zero_le _⟩ (fun r67 H locs hp67 hP hS => ?_)
          obtain rfl : r67 = fl (3 * i + 0) := hp67
          obtain ⟨d0, hd0, ed0⟩ := inR_nat (hlens i (by omega))
          refine xn_top ed0 ?_
          refine xr_i (As := [.int (nI x0), .int (nI d0)]) (rest := [.int bits]) ⟨hx, hb, hml, hown, hts⟩ (c_X4_sightOf l G kv km kg w h (nI 0) sg2_30 x0 d0 (by first | assumption | omega)) (cwV 2 hts gX5_hide_X4_sightOf rfl rfl rfl (by decide +kernel) ⟨Nat.le_of_ble_eq_true rfl, Nat.le_of_ble_eq_true rfl⟩) hK hP hS [8, 4] rfl rfl rfl rfl hl.1 rfl (Nat.le_of_ble_eq_true rfl) dX5_hide_70 ⟨Nat.zero_le _, Nat.zero_le _⟩ (fun r70 H locs hp70 hP hS => ?_)
          obtain rfl : r70 = sg2_30 (d0 * 16 + x0) := hp70
          refine lv_ior hx hb dX5_hide_73 ?_
          refine lv_istore_n (lv' := [(3, .int (bits ||| (sg2_30 (d0 * 16 + x0)))), (0, .ref kx), (1, .int (nI x0)), (2, .ref kv), (4, .int (nI i))]) hx hb dX5_hide_74 rfl hl (by decide) rfl (fun ls hl => ?_)
          refine lv_iinc (k := 4) (v := nI (i + 1)) (lv' := [(4, .int (nI (i + 1))), (3, .int (bits ||| (sg2_30 (d0 * 16 + x0)))), (0, .ref kx), (1, .int (nI x0)), (2, .ref kv)]) hx hb dX5_hide_75 hl rfl (xn_inc i 1) (by decide) rfl (fun ls hl => ?_)
          refine lv_goto (tgt := 39) hx hb dX5_hide_78 rfl ?_
          have hl := lv_sub hl (l' := [(0, .ref kx), (1, .int (nI x0)), (2, .ref kv), (3, .int (bits ||| (sg2_30 (d0 * 16 + x0)))), (4, .int (nI (i + 1)))]) [2, 3, 4, 1, 0] rfl
          exact ih39 (nl - (i + 1)) (by omega) (i + 1) (bits ||| (sg2_30 (d0 * 16 + x0))) ls H locs rfl (by omega) (by rw [(he30 d0 (by omega)).2 x0 (by omega), orF, ed0, tn_nI (by omega), ← hbits]) hl hP hD hS
      have hl := lv_sub hl (l' := [(0, .ref kx), (1, .int (nI x0)), (2, .ref kv), (3, .int (nI 0)), (4, .int (nI 0))]) [3, 4, 2, 1, 0] rfl
      have hP := hP.sub (ws' := [iA G ka 16 af, oC kb 0 [.int (nI w), .int (nI h), .int (nI la), .ref ka, .ref kc, .ref kl, .ref kn], oC kc 2 [.ref kcn, .int (nI 10), .int (nI nc)], iA G kcn (3 * 10) fc, iA G kg 160 sg2_30, oC kl 2 [.ref kln, .int (nI 6), .int (nI nl)], iA G kln (3 * 6) fl, iA G km 176 mk2_30, oC kv 4 [.ref km, .ref kg, .int (nI w), .int (nI h), .int (nI 0)], oC kx 5 [.ref kb, .ref kim, .ref kit, .ref kv, .ref kre, .int tf, .ref ksh, .int rf, .ref kwa, .ref kta]]) [4, 3, 5, 6, 9, 0, 1, 8, 7, 2] rfl
      have hD := hD.sub (ws' := [iA G ka 16 af, oC kb 0 [.int (nI w), .int (nI h), .int (nI la), .ref ka, .ref kc, .ref kl, .ref kn], oC kc 2 [.ref kcn, .int (nI 10), .int (nI nc)], iA G kcn (3 * 10) fc, iA G kg 160 sg2_30, oC kl 2 [.ref kln, .int (nI 6), .int (nI nl)], iA G kln (3 * 6) fl, iA G km 176 mk2_30, oC kv 4 [.ref km, .ref kg, .int (nI w), .int (nI h), .int (nI 0)], oC kx 5 [.ref kb, .ref kim, .ref kit, .ref kv, .ref kre, .int tf, .ref ksh, .int rf, .ref kwa, .ref kta]]) [4, 3, 5, 6, 9, 0, 1, 8, 7, 2] (by decide) rfl
      exact hL39 (nl - 0) 0 (nI 0) ls H locs rfl (by omega) (by rfl) hl hP hD hS
    · skip
      refine lv_bipush (v := (-2)) hx hb dX5_hide_26 (by decide) ?_
      have hP := hP.sub (ws' := [oC kx 5 [.ref kb, .ref kim, .ref kit, .ref kv, .ref kre, .int tf, .ref ksh, .int rf, .ref kwa, .ref kta], oC kb 0 [.int (nI w), .int (nI h), .int (nI la), .ref ka, .ref kc, .ref kl, .ref kn], iA G ka 16 af, oC kc 2 [.ref kcn, .int (nI 10), .int (nI nc)], iA G kcn (3 * 10) fc, oC kv 4 [.ref km, .ref kg, .int (nI vw), .int (nI vh), .int sl], iA G km 176 mk, iA G kg 160 sg, oC kl 2 [.ref kln, .int (nI 6), .int (nI nl)], iA G kln (3 * 6) fl]) [0, 1, 2, 3, 4, 5, 6, 7, 8, 9] rfl
      have hD := hD.sub (ws' := [oC kx 5 [.ref kb, .ref kim, .ref kit, .ref kv, .ref kre, .int tf, .ref ksh, .int rf, .ref kwa, .ref kta], oC kb 0 [.int (nI w), .int (nI h), .int (nI la), .ref ka, .ref kc, .ref kl, .ref kn], iA G ka 16 af, oC kc 2 [.ref kcn, .int (nI 10), .int (nI nc)], iA G kcn (3 * 10) fc, oC kv 4 [.ref km, .ref kg, .int (nI vw), .int (nI vh), .int sl], iA G km 176 mk, iA G kg 160 sg, oC kl 2 [.ref kln, .int (nI 6), .int (nI nl)], iA G kln (3 * 6) fl]) [0, 1, 2, 3, 4, 5, 6, 7, 8, 9] (by decide) rfl
      refine W.iret (v := (-2)) hx hb hr (fun t ht hW => ⟨⟨(-2), (mk, sg, vw, vh, sl), rfl, ?_, by rw [ht]; exact hP, hD⟩, hS.F ht⟩) hS.2.2 dX5_hide_28
      try dsimp only
      first | exact ⟨(if_neg b8).symm, hvok⟩ | exact ⟨by rw [if_pos (inR_nI hx0 (by omega)), if_pos b23], hvok⟩ | (refine ⟨?_, VOK_fr he30⟩; rw [if_pos (inR_nI hx0 (by omega)), if_neg b23, tn_nI (by omega), hbits, show i = nl by omega])
  · skip
    refine lv_iconst (v := (-1)) hx hb dX5_hide_11 (by decide) ?_
    have hP := hP.sub (ws' := [oC kx 5 [.ref kb, .ref kim, .ref kit, .ref kv, .ref kre, .int tf, .ref ksh, .int rf, .ref kwa, .ref kta], oC kb 0 [.int (nI w), .int (nI h), .int (nI la), .ref ka, .ref kc, .ref kl, .ref kn], iA G ka 16 af, oC kc 2 [.ref kcn, .int (nI 10), .int (nI nc)], iA G kcn (3 * 10) fc, oC kv 4 [.ref km, .ref kg, .int (nI vw), .int (nI vh), .int sl], iA G km 176 mk, iA G kg 160 sg, oC kl 2 [.ref kln, .int (nI 6), .int (nI nl)], iA G kln (3 * 6) fl]) [0, 1, 2, 3, 4, 5, 6, 7, 8, 9] rfl
    have hD := hD.sub (ws' := [oC kx 5 [.ref kb, .ref kim, .ref kit, .ref kv, .ref kre, .int tf, .ref ksh, .int rf, .ref kwa, .ref kta], oC kb 0 [.int (nI w), .int (nI h), .int (nI la), .ref ka, .ref kc, .ref kl, .ref kn], iA G ka 16 af, oC kc 2 [.ref kcn, .int (nI 10), .int (nI nc)], iA G kcn (3 * 10) fc, oC kv 4 [.ref km, .ref kg, .int (nI vw), .int (nI vh), .int sl], iA G km 176 mk, iA G kg 160 sg, oC kl 2 [.ref kln, .int (nI 6), .int (nI nl)], iA G kln (3 * 6) fl]) [0, 1, 2, 3, 4, 5, 6, 7, 8, 9] (by decide) rfl
    refine W.iret (v := (-1)) hx hb hr (fun t ht hW => ⟨⟨(-1), (mk, sg, vw, vh, sl), rfl, ?_, by rw [ht]; exact hP, hD⟩, hS.F ht⟩) hS.2.2 dX5_hide_12
    try dsimp only
    first | exact ⟨(if_neg b8).symm, hvok⟩ | exact ⟨by rw [if_pos (inR_nI hx0 (by omega)), if_pos b23], hvok⟩ | (refine ⟨?_, VOK_fr he30⟩; rw [if_pos (inR_nI hx0 (by omega)), if_neg b23, tn_nI (by omega), hbits, show i = nl by omega])

abbrev Q_J6_bitCount_0f7a4 (G : XG) (i : Int32) : Array Value → State → Outcome → State → Prop := (xRi (fun r => r = bcI i))
set_option maxHeartbeats 4000000 in
set_option maxRecDepth 100000 in
theorem c_J6_bitCount_0f7a4 (l : Launch) (G : XG) (i : Int32)  : Met l yJ6_bitCount_0f7a4 wsJ6_bitCount_0f7a4 ({ frames := 0, cells := 0, slots := 0, locals := 0 } : Room) (va_Pc [.int i] (fun _ => True)) (Q_J6_bitCount_0f7a4 G i) 0 0 (fun _ => False) := by
  refine Met.ofW (cc := cJ6_bitCount_0f7a4) (maxL := 1) (ret := (some .int)) (by decide) rfl ?_
  intro pp ee ss mm aa below mt cd s₁ BB hml hv
  obtain ⟨rfl, -⟩ := hv
  have hx := BB.exec
  have hb := BB.bytes
  have hr := BB.returns
  have hts := atoms_spec (ws := wsJ6_bitCount_0f7a4) BB.pre
  have hown : ss.vm.findClass RJ6 = some mm.cls := findClass_of_methodNamed BB.named
  have hlocks := BB.notSynchronized
  have hS : va_S (fun _ => False) ss.heap ss.heap [] := va_S.rf
  have hP : xP (G) [] ss.heap := fun k q h => by cases h
  have hl := lv_entry ([.int i]) (n := 1) (Nat.le_of_ble_eq_true rfl)
  rw [lg_entry_eq]
  generalize (lg_sl ([.int i]) ++ List.replicate (1 - (lg_sl ([.int i])).length) Slot.unset).toArray = ls at hl ⊢
  replace hl : lv_has ls 1 [(0, .int i)] := hl
  refine lv_iload_n hx hb dJ6_bitCount_0f7a4_0 rfl (lv_at hl 0 rfl) ?_
  refine lv_iload_n hx hb dJ6_bitCount_0f7a4_1 rfl (lv_at hl 0 rfl) ?_
  refine lv_iconst (v := nI 1) hx hb dJ6_bitCount_0f7a4_2 (by decide) ?_
  refine lv_iushr (v := xu i (nI 1)) hx hb dJ6_bitCount_0f7a4_3 rfl ?_
  refine lv_ldcw (v := nI 1431655765) hx hb hown (hts (.constant RJ6 265 (nI 1431655765)) (List.mem_of_getElem? (i := 1) rfl)) dJ6_bitCount_0f7a4_4 ?_
  refine lv_iand hx hb dJ6_bitCount_0f7a4_7 ?_
  refine lv_isub hx hb dJ6_bitCount_0f7a4_8 ?_
  refine lv_istore_n (lv' := [(0, .int (i - ((xu i (nI 1)) &&& (nI 1431655765))))]) hx hb dJ6_bitCount_0f7a4_9 rfl hl (by decide) rfl (fun ls hl => ?_)
  refine lv_iload_n hx hb dJ6_bitCount_0f7a4_10 rfl (lv_at hl 0 rfl) ?_
  refine lv_ldcw (v := nI 858993459) hx hb hown (hts (.constant RJ6 266 (nI 858993459)) (List.mem_of_getElem? (i := 2) rfl)) dJ6_bitCount_0f7a4_11 ?_
  refine lv_iand hx hb dJ6_bitCount_0f7a4_14 ?_
  refine lv_iload_n hx hb dJ6_bitCount_0f7a4_15 rfl (lv_at hl 0 rfl) ?_
  refine lv_iconst (v := nI 2) hx hb dJ6_bitCount_0f7a4_16 (by decide) ?_
  refine lv_iushr (v := xu (i - ((xu i (nI 1)) &&& (nI 1431655765))) (nI 2)) hx hb dJ6_bitCount_0f7a4_17 rfl ?_
  refine lv_ldcw (v := nI 858993459) hx hb hown (hts (.constant RJ6 266 (nI 858993459)) (List.mem_of_getElem? (i := 2) rfl)) dJ6_bitCount_0f7a4_18 ?_
  refine lv_iand hx hb dJ6_bitCount_0f7a4_21 ?_
  refine lv_iadd hx hb dJ6_bitCount_0f7a4_22 ?_
  refine lv_istore_n (lv' := [(0, .int (((i - ((xu i (nI 1)) &&& (nI 1431655765))) &&& (nI 858993459)) + ((xu (i - ((xu i (nI 1)) &&& (nI 1431655765))) (nI 2)) &&& (nI 858993459))))]) hx hb dJ6_bitCount_0f7a4_23 rfl hl (by decide) rfl (fun ls hl => ?_)
  refine lv_iload_n hx hb dJ6_bitCount_0f7a4_24 rfl (lv_at hl 0 rfl) ?_
  refine lv_iload_n hx hb dJ6_bitCount_0f7a4_25 rfl (lv_at hl 0 rfl) ?_
  refine lv_iconst (v := nI 4) hx hb dJ6_bitCount_0f7a4_26 (by decide) ?_
  refine lv_iushr (v := xu (((i - ((xu i (nI 1)) &&& (nI 1431655765))) &&& (nI 858993459)) + ((xu (i - ((xu i (nI 1)) &&& (nI 1431655765))) (nI 2)) &&& (nI 858993459))) (nI 4)) hx hb dJ6_bitCount_0f7a4_27 rfl ?_
  refine lv_iadd hx hb dJ6_bitCount_0f7a4_28 ?_
  refine lv_ldcw (v := nI 252645135) hx hb hown (hts (.constant RJ6 267 (nI 252645135)) (List.mem_of_getElem? (i := 3) rfl)) dJ6_bitCount_0f7a4_29 ?_
  refine lv_iand hx hb dJ6_bitCount_0f7a4_32 ?_
  refine lv_istore_n (lv' := [(0, .int (((((i - ((xu i (nI 1)) &&& (nI 1431655765))) &&& (nI 858993459)) + ((xu (i - ((xu i (nI 1)) &&& (nI 1431655765))) (nI 2)) &&& (nI 858993459))) + (xu (((i - ((xu i (nI 1)) &&& (nI 1431655765))) &&& (nI 858993459)) + ((xu (i - ((xu i (nI 1)) &&& (nI 1431655765))) (nI 2)) &&& (nI 858993459))) (nI 4))) &&& (nI 252645135)))]) hx hb dJ6_bitCount_0f7a4_33 rfl hl (by decide) rfl (fun ls hl => ?_)
  refine lv_iload_n hx hb dJ6_bitCount_0f7a4_34 rfl (lv_at hl 0 rfl) ?_
  refine lv_iload_n hx hb dJ6_bitCount_0f7a4_35 rfl (lv_at hl 0 rfl) ?_
  refine lv_bipush (v := nI 8) hx hb dJ6_bitCount_0f7a4_36 (by decide) ?_
  refine lv_iushr (v := xu (((((i - ((xu i (nI 1)) &&& (nI 1431655765))) &&& (nI 858993459)) + ((xu (i - ((xu i (nI 1)) &&& (nI 1431655765))) (nI 2)) &&& (nI 858993459))) + (xu (((i - ((xu i (nI 1)) &&& (nI 1431655765))) &&& (nI 858993459)) + ((xu (i - ((xu i (nI 1)) &&& (nI 1431655765))) (nI 2)) &&& (nI 858993459))) (nI 4))) &&& (nI 252645135)) (nI 8)) hx hb dJ6_bitCount_0f7a4_38 rfl ?_
  refine lv_iadd hx hb dJ6_bitCount_0f7a4_39 ?_
  refine lv_istore_n (lv' := [(0, .int ((((((i - ((xu i (nI 1)) &&& (nI 1431655765))) &&& (nI 858993459)) + ((xu (i - ((xu i (nI 1)) &&& (nI 1431655765))) (nI 2)) &&& (nI 858993459))) + (xu (((i - ((xu i (nI 1)) &&& (nI 1431655765))) &&& (nI 858993459)) + ((xu (i - ((xu i (nI 1)) &&& (nI 1431655765))) (nI 2)) &&& (nI 858993459))) (nI 4))) &&& (nI 252645135)) + (xu (((((i - ((xu i (nI 1)) &&& (nI 1431655765))) &&& (nI 858993459)) + ((xu (i - ((xu i (nI 1)) &&& (nI 1431655765))) (nI 2)) &&& (nI 858993459))) + (xu (((i - ((xu i (nI 1)) &&& (nI 1431655765))) &&& (nI 858993459)) + ((xu (i - ((xu i (nI 1)) &&& (nI 1431655765))) (nI 2)) &&& (nI 858993459))) (nI 4))) &&& (nI 252645135)) (nI 8))))]) hx hb dJ6_bitCount_0f7a4_40 rfl hl (by decide) rfl (fun ls hl => ?_)
  refine lv_iload_n hx hb dJ6_bitCount_0f7a4_41 rfl (lv_at hl 0 rfl) ?_
  refine lv_iload_n hx hb dJ6_bitCount_0f7a4_42 rfl (lv_at hl 0 rfl) ?_
  refine lv_bipush (v := nI 16) hx hb dJ6_bitCount_0f7a4_43 (by decide) ?_
  refine lv_iushr (v := xu ((((((i - ((xu i (nI 1)) &&& (nI 1431655765))) &&& (nI 858993459)) + ((xu (i - ((xu i (nI 1)) &&& (nI 1431655765))) (nI 2)) &&& (nI 858993459))) + (xu (((i - ((xu i (nI 1)) &&& (nI 1431655765))) &&& (nI 858993459)) + ((xu (i - ((xu i (nI 1)) &&& (nI 1431655765))) (nI 2)) &&& (nI 858993459))) (nI 4))) &&& (nI 252645135)) + (xu (((((i - ((xu i (nI 1)) &&& (nI 1431655765))) &&& (nI 858993459)) + ((xu (i - ((xu i (nI 1)) &&& (nI 1431655765))) (nI 2)) &&& (nI 858993459))) + (xu (((i - ((xu i (nI 1)) &&& (nI 1431655765))) &&& (nI 858993459)) + ((xu (i - ((xu i (nI 1)) &&& (nI 1431655765))) (nI 2)) &&& (nI 858993459))) (nI 4))) &&& (nI 252645135)) (nI 8))) (nI 16)) hx hb dJ6_bitCount_0f7a4_45 rfl ?_
  refine lv_iadd hx hb dJ6_bitCount_0f7a4_46 ?_
  refine lv_istore_n (lv' := [(0, .int (((((((i - ((xu i (nI 1)) &&& (nI 1431655765))) &&& (nI 858993459)) + ((xu (i - ((xu i (nI 1)) &&& (nI 1431655765))) (nI 2)) &&& (nI 858993459))) + (xu (((i - ((xu i (nI 1)) &&& (nI 1431655765))) &&& (nI 858993459)) + ((xu (i - ((xu i (nI 1)) &&& (nI 1431655765))) (nI 2)) &&& (nI 858993459))) (nI 4))) &&& (nI 252645135)) + (xu (((((i - ((xu i (nI 1)) &&& (nI 1431655765))) &&& (nI 858993459)) + ((xu (i - ((xu i (nI 1)) &&& (nI 1431655765))) (nI 2)) &&& (nI 858993459))) + (xu (((i - ((xu i (nI 1)) &&& (nI 1431655765))) &&& (nI 858993459)) + ((xu (i - ((xu i (nI 1)) &&& (nI 1431655765))) (nI 2)) &&& (nI 858993459))) (nI 4))) &&& (nI 252645135)) (nI 8))) + (xu ((((((i - ((xu i (nI 1)) &&& (nI 1431655765))) &&& (nI 858993459)) + ((xu (i - ((xu i (nI 1)) &&& (nI 1431655765))) (nI 2)) &&& (nI 858993459))) + (xu (((i - ((xu i (nI 1)) &&& (nI 1431655765))) &&& (nI 858993459)) + ((xu (i - ((xu i (nI 1)) &&& (nI 1431655765))) (nI 2)) &&& (nI 858993459))) (nI 4))) &&& (nI 252645135)) + (xu (((((i - ((xu i (nI 1)) &&& (nI 1431655765))) &&& (nI 858993459)) + ((xu (i - ((xu i (nI 1)) &&& (nI 1431655765))) (nI 2)) &&& (nI 858993459))) + (xu (((i - ((xu i (nI 1)) &&& (nI 1431655765))) &&& (nI 858993459)) + ((xu (i - ((xu i (nI 1)) &&& (nI 1431655765))) (nI 2)) &&& (nI 858993459))) (nI 4))) &&& (nI 252645135)) (nI 8))) (nI 16))))]) hx hb dJ6_bitCount_0f7a4_47 rfl hl (by decide) rfl (fun ls hl => ?_)
  refine lv_iload_n hx hb dJ6_bitCount_0f7a4_48 rfl (lv_at hl 0 rfl) ?_
  refine lv_bipush (v := nI 63) hx hb dJ6_bitCount_0f7a4_49 (by decide) ?_
  refine lv_iand hx hb dJ6_bitCount_0f7a4_51 ?_
  refine W.iret (v := (((((((i - ((xu i (nI 1)) &&& (nI 1431655765))) &&& (nI 858993459)) + ((xu (i - ((xu i (nI 1)) &&& (nI 1431655765))) (nI 2)) &&& (nI 858993459))) + (xu (((i - ((xu i (nI 1)) &&& (nI 1431655765))) &&& (nI 858993459)) + ((xu (i - ((xu i (nI 1)) &&& (nI 1431655765))) (nI 2)) &&& (nI 858993459))) (nI 4))) &&& (nI 252645135)) + (xu (((((i - ((xu i (nI 1)) &&& (nI 1431655765))) &&& (nI 858993459)) + ((xu (i - ((xu i (nI 1)) &&& (nI 1431655765))) (nI 2)) &&& (nI 858993459))) + (xu (((i - ((xu i (nI 1)) &&& (nI 1431655765))) &&& (nI 858993459)) + ((xu (i - ((xu i (nI 1)) &&& (nI 1431655765))) (nI 2)) &&& (nI 858993459))) (nI 4))) &&& (nI 252645135)) (nI 8))) + (xu ((((((i - ((xu i (nI 1)) &&& (nI 1431655765))) &&& (nI 858993459)) + ((xu (i - ((xu i (nI 1)) &&& (nI 1431655765))) (nI 2)) &&& (nI 858993459))) + (xu (((i - ((xu i (nI 1)) &&& (nI 1431655765))) &&& (nI 858993459)) + ((xu (i - ((xu i (nI 1)) &&& (nI 1431655765))) (nI 2)) &&& (nI 858993459))) (nI 4))) &&& (nI 252645135)) + (xu (((((i - ((xu i (nI 1)) &&& (nI 1431655765))) &&& (nI 858993459)) + ((xu (i - ((xu i (nI 1)) &&& (nI 1431655765))) (nI 2)) &&& (nI 858993459))) + (xu (((i - ((xu i (nI 1)) &&& (nI 1431655765))) &&& (nI 858993459)) + ((xu (i - ((xu i (nI 1)) &&& (nI 1431655765))) (nI 2)) &&& (nI 858993459))) (nI 4))) &&& (nI 252645135)) (nI 8))) (nI 16))) &&& (nI 63)) hx hb hr (fun t ht hW => ⟨⟨(((((((i - ((xu i (nI 1)) &&& (nI 1431655765))) &&& (nI 858993459)) + ((xu (i - ((xu i (nI 1)) &&& (nI 1431655765))) (nI 2)) &&& (nI 858993459))) + (xu (((i - ((xu i (nI 1)) &&& (nI 1431655765))) &&& (nI 858993459)) + ((xu (i - ((xu i (nI 1)) &&& (nI 1431655765))) (nI 2)) &&& (nI 858993459))) (nI 4))) &&& (nI 252645135)) + (xu (((((i - ((xu i (nI 1)) &&& (nI 1431655765))) &&& (nI 858993459)) + ((xu (i - ((xu i (nI 1)) &&& (nI 1431655765))) (nI 2)) &&& (nI 858993459))) + (xu (((i - ((xu i (nI 1)) &&& (nI 1431655765))) &&& (nI 858993459)) + ((xu (i - ((xu i (nI 1)) &&& (nI 1431655765))) (nI 2)) &&& (nI 858993459))) (nI 4))) &&& (nI 252645135)) (nI 8))) + (xu ((((((i - ((xu i (nI 1)) &&& (nI 1431655765))) &&& (nI 858993459)) + ((xu (i - ((xu i (nI 1)) &&& (nI 1431655765))) (nI 2)) &&& (nI 858993459))) + (xu (((i - ((xu i (nI 1)) &&& (nI 1431655765))) &&& (nI 858993459)) + ((xu (i - ((xu i (nI 1)) &&& (nI 1431655765))) (nI 2)) &&& (nI 858993459))) (nI 4))) &&& (nI 252645135)) + (xu (((((i - ((xu i (nI 1)) &&& (nI 1431655765))) &&& (nI 858993459)) + ((xu (i - ((xu i (nI 1)) &&& (nI 1431655765))) (nI 2)) &&& (nI 858993459))) + (xu (((i - ((xu i (nI 1)) &&& (nI 1431655765))) &&& (nI 858993459)) + ((xu (i - ((xu i (nI 1)) &&& (nI 1431655765))) (nI 2)) &&& (nI 858993459))) (nI 4))) &&& (nI 252645135)) (nI 8))) (nI 16))) &&& (nI 63), (), rfl, ?_, trivial⟩, hS.F ht⟩) hS.2.2 dJ6_bitCount_0f7a4_52
  rfl

abbrev Q_X5_nextOfSameSize (G : XG) (i : Int32) : Array Value → State → Outcome → State → Prop := (xRi (fun r => r = nxS i))
set_option maxHeartbeats 4000000 in
set_option maxRecDepth 100000 in
theorem c_X5_nextOfSameSize (l : Launch) (G : XG) (i : Int32)  : Met l yX5_nextOfSameSize wsX5_nextOfSameSize ({ frames := 1, cells := 0, slots := 0, locals := 20 } : Room) (va_Pc [.int i] (fun _ => True)) (Q_X5_nextOfSameSize G i) 0 0 (fun _ => False) := by
  refine Met.ofW (cc := cX5_nextOfSameSize) (maxL := 4) (ret := (some .int)) (by decide) rfl ?_
  intro pp ee ss mm aa below mt cd s₁ BB hml hv
  obtain ⟨rfl, -⟩ := hv
  have hx := BB.exec
  have hb := BB.bytes
  have hr := BB.returns
  have hts := atoms_spec (ws := wsX5_nextOfSameSize) BB.pre
  have hown : ss.vm.findClass RX5 = some mm.cls := findClass_of_methodNamed BB.named
  have hlocks := BB.notSynchronized
  have hS : va_S (fun _ => False) ss.heap ss.heap [] := va_S.rf
  have hP : xP (G) [] ss.heap := fun k q h => by cases h
  have hl := lv_entry ([.int i]) (n := 4) (Nat.le_of_ble_eq_true rfl)
  rw [lg_entry_eq]
  generalize (lg_sl ([.int i]) ++ List.replicate (4 - (lg_sl ([.int i])).length) Slot.unset).toArray = ls at hl ⊢
  replace hl : lv_has ls 4 [(0, .int i)] := hl
  refine lv_iload_n hx hb dX5_nextOfSameSize_0 rfl (lv_at hl 0 rfl) ?_
  refine lv_iload_n hx hb dX5_nextOfSameSize_1 rfl (lv_at hl 0 rfl) ?_
  refine lv_ineg hx hb dX5_nextOfSameSize_2 ?_
  refine lv_iand hx hb dX5_nextOfSameSize_3 ?_
  refine lv_istore_n (lv' := [(1, .int (i &&& (-i))), (0, .int i)]) hx hb dX5_nextOfSameSize_4 rfl hl (by decide) rfl (fun ls hl => ?_)
  refine lv_iload_n hx hb dX5_nextOfSameSize_5 rfl (lv_at hl 1 rfl) ?_
  refine lv_iload_n hx hb dX5_nextOfSameSize_6 rfl (lv_at hl 0 rfl) ?_
  refine lv_iadd hx hb dX5_nextOfSameSize_7 ?_
  refine lv_istore_n (lv' := [(2, .int (i + (i &&& (-i)))), (1, .int (i &&& (-i))), (0, .int i)]) hx hb dX5_nextOfSameSize_8 rfl hl (by decide) rfl (fun ls hl => ?_)
  refine lv_iload_n hx hb dX5_nextOfSameSize_9 rfl (lv_at hl 1 rfl) ?_
  refine lv_iconst (v := nI 1) hx hb dX5_nextOfSameSize_10 (by decide) ?_
  refine lv_isub hx hb dX5_nextOfSameSize_11 ?_
  refine xs_i (As := [.int ((i &&& (-i)) - (nI 1))]) (rest := []) ⟨hx, hb, hml, hown, hts⟩ (c_J6_bitCount_0f7a4 l G ((i &&& (-i)) - (nI 1)) ) (va_cwS 1 hts gX5_nextOfSameSize_J6_bitCount_0f7a4 rfl rfl rfl (by decide +kernel) ⟨Nat.le_of_ble_eq_true rfl, Nat.le_of_ble_eq_true rfl⟩) hP hS rfl hl.1 rfl (Nat.le_of_ble_eq_true rfl) dX5_nextOfSameSize_12 ⟨Nat.zero_le _, Nat.zero_le _⟩ (fun r12 H locs hp12 hP hS => ?_)
  obtain rfl : r12 = bcI ((i &&& (-i)) - (nI 1)) := hp12
  refine lv_istore_n (lv' := [(3, .int (bcI ((i &&& (-i)) - (nI 1)))), (2, .int (i + (i &&& (-i)))), (1, .int (i &&& (-i))), (0, .int i)]) hx hb dX5_nextOfSameSize_15 rfl hl (by decide) rfl (fun ls hl => ?_)
  refine lv_iload_n hx hb dX5_nextOfSameSize_16 rfl (lv_at hl 1 rfl) ?_
  refine lv_iload_n hx hb dX5_nextOfSameSize_17 rfl (lv_at hl 3 rfl) ?_
  refine lv_iload_n hx hb dX5_nextOfSameSize_18 rfl (lv_at hl 1 rfl) ?_
  refine lv_ixor hx hb dX5_nextOfSameSize_19 ?_
  refine lv_iconst (v := nI 2) hx hb dX5_nextOfSameSize_20 (by decide) ?_
  refine lv_iushr (v := xu (i ^^^ (i + (i &&& (-i)))) (nI 2)) hx hb dX5_nextOfSameSize_21 rfl ?_
  refine lv_iload_n hx hb dX5_nextOfSameSize_22 rfl (lv_at hl 0 rfl) ?_
  refine lv_iushr (v := xu (xu (i ^^^ (i + (i &&& (-i)))) (nI 2)) (bcI ((i &&& (-i)) - (nI 1)))) hx hb dX5_nextOfSameSize_23 rfl ?_
  refine lv_ior hx hb dX5_nextOfSameSize_24 ?_
  refine W.iret (v := (i + (i &&& (-i))) ||| (xu (xu (i ^^^ (i + (i &&& (-i)))) (nI 2)) (bcI ((i &&& (-i)) - (nI 1))))) hx hb hr (fun t ht hW => ⟨⟨(i + (i &&& (-i))) ||| (xu (xu (i ^^^ (i + (i &&& (-i)))) (nI 2)) (bcI ((i &&& (-i)) - (nI 1)))), (), rfl, ?_, trivial⟩, hS.F ht⟩) hS.2.2 dX5_nextOfSameSize_25
  rfl

abbrev Q_X5_nextSeed (G : XG) (i : Int32) : Array Value → State → Outcome → State → Prop := (xRi (fun r => r = i * nI 1103515245 + nI 12345))
set_option maxHeartbeats 4000000 in
set_option maxRecDepth 100000 in
theorem c_X5_nextSeed (l : Launch) (G : XG) (i : Int32)  : Met l yX5_nextSeed wsX5_nextSeed ({ frames := 0, cells := 0, slots := 0, locals := 0 } : Room) (va_Pc [.int i] (fun _ => True)) (Q_X5_nextSeed G i) 0 0 (fun _ => False) := by
  refine Met.ofW (cc := cX5_nextSeed) (maxL := 1) (ret := (some .int)) (by decide) rfl ?_
  intro pp ee ss mm aa below mt cd s₁ BB hml hv
  obtain ⟨rfl, -⟩ := hv
  have hx := BB.exec
  have hb := BB.bytes
  have hr := BB.returns
  have hts := atoms_spec (ws := wsX5_nextSeed) BB.pre
  have hown : ss.vm.findClass RX5 = some mm.cls := findClass_of_methodNamed BB.named
  have hlocks := BB.notSynchronized
  have hS : va_S (fun _ => False) ss.heap ss.heap [] := va_S.rf
  have hP : xP (G) [] ss.heap := fun k q h => by cases h
  have hl := lv_entry ([.int i]) (n := 1) (Nat.le_of_ble_eq_true rfl)
  rw [lg_entry_eq]
  generalize (lg_sl ([.int i]) ++ List.replicate (1 - (lg_sl ([.int i])).length) Slot.unset).toArray = ls at hl ⊢
  replace hl : lv_has ls 1 [(0, .int i)] := hl
  refine lv_iload_n hx hb dX5_nextSeed_0 rfl (lv_at hl 0 rfl) ?_
  refine lv_ldcw (v := nI 1103515245) hx hb hown (hts (.constant RX5 277 (nI 1103515245)) (List.mem_of_getElem? (i := 1) rfl)) dX5_nextSeed_1 ?_
  refine lv_imul hx hb dX5_nextSeed_4 ?_
  refine lv_sipush (v := nI 12345) hx hb dX5_nextSeed_5 (by decide) ?_
  refine lv_iadd hx hb dX5_nextSeed_8 ?_
  refine W.iret (v := (i * (nI 1103515245)) + (nI 12345)) hx hb hr (fun t ht hW => ⟨⟨(i * (nI 1103515245)) + (nI 12345), (), rfl, ?_, trivial⟩, hS.F ht⟩) hS.2.2 dX5_nextSeed_9
  rfl

abbrev w_X5_meetsWants (G : XG) (kx kb kim kit kv kre ksh kwa kta : Nat) (tf rf : Int32) (wf : Nat → Int32) : va_W := [oC kx 5 [.ref kb, .ref kim, .ref kit, .ref kv, .ref kre, .int tf, .ref ksh, .int rf, .ref kwa, .ref kta], iA G kwa 45 wf]
abbrev Q_X5_meetsWants (G : XG) (kx kb kim kit kv kre ksh kwa kta : Nat) (tf rf : Int32) (wf : Nat → Int32) (set : Int32) (n : Nat) : Array Value → State → Outcome → State → Prop := (xRi (fun r => r = xb (allF (fun i => !decide (wf i &&& set = 0)) n = true)))
set_option maxHeartbeats 4000000 in
set_option maxRecDepth 100000 in
theorem c_X5_meetsWants (l : Launch) (G : XG) (kx kb kim kit kv kre ksh kwa kta : Nat) (tf rf : Int32) (wf : Nat → Int32) (set : Int32) (n : Nat) (hn : n ≤ 45) : Met l yX5_meetsWants wsX5_meetsWants ({ frames := 0, cells := 0, slots := 0, locals := 0 } : Room) (va_Pc [.ref kx, .int set, .int (nI n)] (xRp G (w_X5_meetsWants G kx kb kim kit kv kre ksh kwa kta tf rf wf))) (Q_X5_meetsWants G kx kb kim kit kv kre ksh kwa kta tf rf wf set n) 0 0 (fun _ => False) := by
  refine Met.ofW (cc := cX5_meetsWants) (maxL := 4) (ret := (some .boolean)) (by decide) rfl ?_
  intro pp ee ss mm aa below mt cd s₁ BB hml hv
  obtain ⟨rfl, hP, hK⟩ := hv
  have hx := BB.exec
  have hb := BB.bytes
  have hr := BB.returns
  have hts := atoms_spec (ws := wsX5_meetsWants) BB.pre
  have hown : ss.vm.findClass RX5 = some mm.cls := findClass_of_methodNamed BB.named
  have hlocks := BB.notSynchronized
  have hS : va_S (fun _ => False) ss.heap ss.heap [] := va_S.rf
  replace hP : xP G [oC kx 5 [.ref kb, .ref kim, .ref kit, .ref kv, .ref kre, .int tf, .ref ksh, .int rf, .ref kwa, .ref kta], iA G kwa 45 wf] ss.heap := hP
  have hin5 : ∀ w ∈ u_ws RX5 TX5 10, w ∈ wsX5_meetsWants := fun w h => List.mem_cons_of_mem _ (List.mem_append_right _ h)
  have hl := lv_entry ([.ref kx, .int set, .int (nI n)]) (n := 4) (Nat.le_of_ble_eq_true rfl)
  rw [lg_entry_eq]
  generalize (lg_sl ([.ref kx, .int set, .int (nI n)]) ++ List.replicate (4 - (lg_sl ([.ref kx, .int set, .int (nI n)])).length) Slot.unset).toArray = ls at hl ⊢
  replace hl : lv_has ls 4 [(0, .ref kx), (1, .int set), (2, .int (nI n))] := hl
  refine lv_iconst (v := nI 0) hx hb dX5_meetsWants_0 (by decide) ?_
  refine lv_istore_n (lv' := [(3, .int (nI 0)), (0, .ref kx), (1, .int set), (2, .int (nI n))]) hx hb dX5_meetsWants_1 rfl hl (by decide) rfl (fun ls hl => ?_)
  have hL2 : ∀ k : Nat, ∀ (i : Nat) (ls : Array Slot) (H : Heap) (locs : List Loc), n - i = k → (i ≤ n) → (allF (fun i => !decide (wf i &&& set = 0)) i = true) → lv_has ls 4 [(0, .ref kx), (1, .int set), (2, .int (nI n)), (3, .int (nI i))] → xP G [iA G kwa 45 wf, oC kx 5 [.ref kb, .ref kim, .ref kit, .ref kv, .ref kre, .int tf, .ref ksh, .int rf, .ref kwa, .ref kta]] H → va_S (fun _ => False) ss.heap H locs → W pp l ee ({ frames := 0, cells := 0, slots := 0, locals := 0 } : Room) ss mm ([.ref kx, .int set, .int (nI n)] : List Value).toArray below mt cd H locs 0 0 (MQ below (Q_X5_meetsWants G kx kb kim kit kv kre ksh kwa kta tf rf wf set n) ([.ref kx, .int set, .int (nI n)] : List Value).toArray ss 0 0 (fun _ => False)) (F0 mm 2 ls []) := by
    intro k
    induction k using Nat.strongRecOn with
    | _ k ih2 =>
    intro i ls H locs hm2 hi hall hl hP hS
    refine lv_iload_n hx hb dX5_meetsWants_2 rfl (lv_at hl 3 rfl) ?_
    refine lv_iload_n hx hb dX5_meetsWants_3 rfl (lv_at hl 2 rfl) ?_
    refine xn_icmp_ge (tgt := 26) hx hb (by omega) (by omega) dX5_meetsWants_4 rfl (fun b4 => ?_) (fun b4 => ?_)
    · skip
      refine lv_iconst (v := nI 1) hx hb dX5_meetsWants_26 (by decide) ?_
      refine W.zret (v := nI 1) (ty := .boolean) hx hb hr (by decide) (fun t ht hW => ⟨⟨nI 1, (), rfl, ?_, trivial⟩, hS.F ht⟩) hS.2.2 dX5_meetsWants_27
      first | exact (xb_t (by rw [show n = i by omega]; exact hall)).symm | exact (xb_f (fun q => by rw [allF_false (i := i + 1) (by omega) (by rw [allF, decide_eq_true b15, Bool.not_true, Bool.and_false])] at q; cases q)).symm
    · skip
      refine lv_aload_n hx hb dX5_meetsWants_7 rfl (lv_at hl 0 rfl) ?_
      refine va_get (D := G.1) (ci := 5) (v := .ref kwa) (C := RX5) (T := TX5) (N := 10) hx hb hts hin5 hown hK.1 hP 1 rfl rfl 8 (by decide) (hts (.fieldLink RX5 45 "BackLenses" "wants" "[I") (List.mem_of_getElem? (i := 1) rfl)) (fun _ h9 => h9) rfl dX5_meetsWants_8 ?_
      refine lv_iload_n hx hb dX5_meetsWants_11 rfl (lv_at hl 3 rfl) ?_
      refine xn_iald hx hb hK hP 0 rfl (by omega) (by omega) dX5_meetsWants_12 ?_
      refine lv_iload_n hx hb dX5_meetsWants_13 rfl (lv_at hl 1 rfl) ?_
      refine lv_iand hx hb dX5_meetsWants_14 ?_
      refine lv_if_ne (tgt := 20) hx hb dX5_meetsWants_15 rfl (fun b15 => ?_) (fun b15 => ?_)
      · skip
        refine lv_iinc (k := 3) (v := nI (i + 1)) (lv' := [(3, .int (nI (i + 1))), (0, .ref kx), (1, .int set), (2, .int (nI n))]) hx hb dX5_meetsWants_20 hl rfl (xn_inc i 1) (by decide) rfl (fun ls hl => ?_)
        refine lv_goto (tgt := 2) hx hb dX5_meetsWants_23 rfl ?_
        have hl := lv_sub hl (l' := [(0, .ref kx), (1, .int set), (2, .int (nI n)), (3, .int (nI (i + 1)))]) [1, 2, 3, 0] rfl
        exact ih2 (n - (i + 1)) (by omega) (i + 1) ls H locs rfl (by omega) (by rw [allF, hall, decide_eq_false b15]; rfl) hl hP hS
      · skip
        refine lv_iconst (v := nI 0) hx hb dX5_meetsWants_18 (by decide) ?_
        refine W.zret (v := nI 0) (ty := .boolean) hx hb hr (by decide) (fun t ht hW => ⟨⟨nI 0, (), rfl, ?_, trivial⟩, hS.F ht⟩) hS.2.2 dX5_meetsWants_19
        first | exact (xb_t (by rw [show n = i by omega]; exact hall)).symm | exact (xb_f (fun q => by rw [allF_false (i := i + 1) (by omega) (by rw [allF, decide_eq_true b15, Bool.not_true, Bool.and_false])] at q; cases q)).symm
  have hl := lv_sub hl (l' := [(0, .ref kx), (1, .int set), (2, .int (nI n)), (3, .int (nI 0))]) [1, 2, 3, 0] rfl
  have hP := hP.sub (ws' := [iA G kwa 45 wf, oC kx 5 [.ref kb, .ref kim, .ref kit, .ref kv, .ref kre, .int tf, .ref ksh, .int rf, .ref kwa, .ref kta]]) [1, 0] rfl
  exact hL2 (n - 0) 0 ls ss.heap [] rfl (by omega) (by rfl) hl hP hS

abbrev w_X5_leastSet (G : XG) (kx kb kim kit kv kre ksh kwa kta : Nat) (tf rf : Int32) (wf : Nat → Int32) : va_W := [oC kx 5 [.ref kb, .ref kim, .ref kit, .ref kv, .ref kre, .int tf, .ref ksh, .int rf, .ref kwa, .ref kta], iA G kwa 45 wf]
abbrev Q_X5_leastSet (G : XG) (kx kb kim kit kv kre ksh kwa kta : Nat) (tf rf : Int32) (wf : Nat → Int32) (n cc : Nat) : Array Value → State → Outcome → State → Prop := (xRi (fun r => r = lsS (fun s => allF (fun i => !decide (wf i &&& s = 0)) n) cc))
set_option maxHeartbeats 4000000 in
set_option maxRecDepth 100000 in
theorem c_X5_leastSet (l : Launch) (G : XG) (kx kb kim kit kv kre ksh kwa kta : Nat) (tf rf : Int32) (wf : Nat → Int32) (n cc : Nat) (hn : n ≤ 45) (hc : cc ≤ 16) : Met l yX5_leastSet wsX5_leastSet ({ frames := 2, cells := 0, slots := 0, locals := 43 } : Room) (va_Pc [.ref kx, .int (nI n), .int (nI cc)] (xRp G (w_X5_leastSet G kx kb kim kit kv kre ksh kwa kta tf rf wf))) (Q_X5_leastSet G kx kb kim kit kv kre ksh kwa kta tf rf wf n cc) 0 0 (fun _ => False) := by
  refine Met.ofW (cc := cX5_leastSet) (maxL := 7) (ret := (some .int)) (by decide) rfl ?_
  intro pp ee ss mm aa below mt cd s₁ BB hml hv
  obtain ⟨rfl, hP, hK⟩ := hv
  have hx := BB.exec
  have hb := BB.bytes
  have hr := BB.returns
  have hts := atoms_spec (ws := wsX5_leastSet) BB.pre
  have hown : ss.vm.findClass RX5 = some mm.cls := findClass_of_methodNamed BB.named
  have hlocks := BB.notSynchronized
  have hS : va_S (fun _ => False) ss.heap ss.heap [] := va_S.rf
  replace hP : xP G [oC kx 5 [.ref kb, .ref kim, .ref kit, .ref kv, .ref kre, .int tf, .ref ksh, .int rf, .ref kwa, .ref kta], iA G kwa 45 wf] ss.heap := hP
  have hin5 : ∀ w ∈ u_ws RX5 TX5 10, w ∈ wsX5_leastSet := fun w h => List.mem_cons_of_mem _ (List.mem_append_right _ h)
  have hl := lv_entry ([.ref kx, .int (nI n), .int (nI cc)]) (n := 7) (Nat.le_of_ble_eq_true rfl)
  rw [lg_entry_eq]
  generalize (lg_sl ([.ref kx, .int (nI n), .int (nI cc)]) ++ List.replicate (7 - (lg_sl ([.ref kx, .int (nI n), .int (nI cc)])).length) Slot.unset).toArray = ls at hl ⊢
  replace hl : lv_has ls 7 [(0, .ref kx), (1, .int (nI n)), (2, .int (nI cc))] := hl
  refine lv_iload_n hx hb dX5_leastSet_0 rfl (lv_at hl 1 rfl) ?_
  refine xn_if_ne (tgt := 6) hx hb (by omega) dX5_leastSet_1 rfl (fun b1 => ?_) (fun b1 => ?_)
  · skip
    refine lv_iconst (v := nI 1) hx hb dX5_leastSet_6 (by decide) ?_
    refine lv_iload_n hx hb dX5_leastSet_7 rfl (lv_at hl 2 rfl) ?_
    refine lv_ishl hx hb dX5_leastSet_8 ?_
    obtain ⟨hp1, hp2, hp3⟩ := xs_pow hc
    refine xn_top hp1 ?_
    have hl0 : lsS (fun s => allF (fun i => !decide (wf i &&& s = 0)) n) cc = lsOut (fun s => allF (fun i => !decide (wf i &&& s = 0)) n) (2 ^ cc) cc 1 := (by unfold lsS; rw [if_neg]; intro q; have q2 : allF (fun i => !decide (wf i &&& 0 = 0)) n = true := q; rw [allF_false (i := 1) (by omega) (by simp [allF])] at q2; cases q2)
    refine lv_istore_n (lv' := [(3, .int (nI (2 ^ cc))), (0, .ref kx), (1, .int (nI n)), (2, .int (nI cc))]) hx hb dX5_leastSet_9 rfl hl (by decide) rfl (fun ls hl => ?_)
    refine lv_iconst (v := nI 1) hx hb dX5_leastSet_10 (by decide) ?_
    refine lv_istore (lv' := [(4, .int (nI 1)), (3, .int (nI (2 ^ cc))), (0, .ref kx), (1, .int (nI n)), (2, .int (nI cc))]) hx hb dX5_leastSet_11 hl (by decide) rfl (fun ls hl => ?_)
    have hL13 : ∀ k : Nat, ∀ (size : Nat) (ls : Array Slot) (H : Heap) (locs : List Loc), cc + 1 - size = k → (1 ≤ size) → (size ≤ cc + 1) → (lsS (fun s => allF (fun i => !decide (wf i &&& s = 0)) n) cc = lsOut (fun s => allF (fun i => !decide (wf i &&& s = 0)) n) (2 ^ cc) (cc + 1 - size) size) → lv_has ls 7 [(0, .ref kx), (1, .int (nI n)), (2, .int (nI cc)), (3, .int (nI (2 ^ cc))), (4, .int (nI size))] → xP G [iA G kwa 45 wf, oC kx 5 [.ref kb, .ref kim, .ref kit, .ref kv, .ref kre, .int tf, .ref ksh, .int rf, .ref kwa, .ref kta]] H → va_S (fun _ => False) ss.heap H locs → W pp l ee ({ frames := 2, cells := 0, slots := 0, locals := 43 } : Room) ss mm ([.ref kx, .int (nI n), .int (nI cc)] : List Value).toArray below mt cd H locs 0 0 (MQ below (Q_X5_leastSet G kx kb kim kit kv kre ksh kwa kta tf rf wf n cc) ([.ref kx, .int (nI n), .int (nI cc)] : List Value).toArray ss 0 0 (fun _ => False)) (F0 mm 13 ls []) := by
      intro k
      induction k using Nat.strongRecOn with
      | _ k ih13 =>
      intro size ls H locs hm13 h1s hsz hls hl hP hS
      refine lv_iload hx hb dX5_leastSet_13 (lv_at hl 4 rfl) ?_
      refine lv_iload_n hx hb dX5_leastSet_15 rfl (lv_at hl 2 rfl) ?_
      refine xn_icmp_gt (tgt := 74) hx hb (by omega) (by omega) dX5_leastSet_16 rfl (fun b16 => ?_) (fun b16 => ?_)
      · skip
        refine lv_iload_n hx hb dX5_leastSet_74 rfl (lv_at hl 3 rfl) ?_
        refine lv_iconst (v := nI 1) hx hb dX5_leastSet_75 (by decide) ?_
        refine xn_isub hx hb (by omega) dX5_leastSet_76 ?_
        refine W.iret (v := nI ((2 ^ cc) - 1)) hx hb hr (fun t ht hW => ⟨⟨nI ((2 ^ cc) - 1), (), rfl, ?_, trivial⟩, hS.F ht⟩) hS.2.2 dX5_leastSet_77
        first | (rw [hls, show cc + 1 - size = 0 by omega, lsOut]) | (rw [hls, show cc + 1 - size = (cc + 1 - (size + 1)) + 1 by omega, lsOut, hin, show 2 ^ cc - tt = (2 ^ cc - (tt + 1)) + 1 by omega, lsIn, if_pos (by omega), if_pos b49]) | (unfold lsS; rw [if_pos (by rw [b1]; rfl)])
      · skip
        refine lv_iconst (v := nI 1) hx hb dX5_leastSet_19 (by decide) ?_
        refine lv_iload hx hb dX5_leastSet_20 (lv_at hl 4 rfl) ?_
        refine lv_ishl hx hb dX5_leastSet_22 ?_
        obtain ⟨hq1, hq2, hq3⟩ := xs_pow (c := size) (by omega)
        refine xn_top hq1 ?_
        refine lv_iconst (v := nI 1) hx hb dX5_leastSet_23 (by decide) ?_
        refine xn_isub hx hb (by omega) dX5_leastSet_24 ?_
        refine lv_istore (lv' := [(5, .int (nI ((2 ^ size) - 1))), (0, .ref kx), (1, .int (nI n)), (2, .int (nI cc)), (3, .int (nI (2 ^ cc))), (4, .int (nI size))]) hx hb dX5_leastSet_25 hl (by decide) rfl (fun ls hl => ?_)
        refine lv_iconst (v := nI 0) hx hb dX5_leastSet_27 (by decide) ?_
        refine lv_istore (lv' := [(6, .int (nI 0)), (5, .int (nI ((2 ^ size) - 1))), (0, .ref kx), (1, .int (nI n)), (2, .int (nI cc)), (3, .int (nI (2 ^ cc))), (4, .int (nI size))]) hx hb dX5_leastSet_28 hl (by decide) rfl (fun ls hl => ?_)
        have hL30 : ∀ k : Nat, ∀ (tt : Nat) (set : Int32) (ls : Array Slot) (H : Heap) (locs : List Loc), 2 ^ cc - tt = k → (tt ≤ 2 ^ cc) → (lsIn (fun s => allF (fun i => !decide (wf i &&& s = 0)) n) (2 ^ cc) (2 ^ cc) (nI (2 ^ size - 1)) = lsIn (fun s => allF (fun i => !decide (wf i &&& s = 0)) n) (2 ^ cc) (2 ^ cc - tt) set) → lv_has ls 7 [(0, .ref kx), (1, .int (nI n)), (2, .int (nI cc)), (3, .int (nI (2 ^ cc))), (4, .int (nI size)), (5, .int set), (6, .int (nI tt))] → xP G [iA G kwa 45 wf, oC kx 5 [.ref kb, .ref kim, .ref kit, .ref kv, .ref kre, .int tf, .ref ksh, .int rf, .ref kwa, .ref kta]] H → va_S (fun _ => False) ss.heap H locs → W pp l ee ({ frames := 2, cells := 0, slots := 0, locals := 43 } : Room) ss mm ([.ref kx, .int (nI n), .int (nI cc)] : List Value).toArray below mt cd H locs 0 0 (MQ below (Q_X5_leastSet G kx kb kim kit kv kre ksh kwa kta tf rf wf n cc) ([.ref kx, .int (nI n), .int (nI cc)] : List Value).toArray ss 0 0 (fun _ => False)) (F0 mm 30 ls []) := by
          intro k
          induction k using Nat.strongRecOn with
          | _ k ih30 =>
          intro tt set ls H locs hm30 htt hin hl hP hS
          refine lv_iload hx hb dX5_leastSet_30 (lv_at hl 6 rfl) ?_
          refine lv_iload_n hx hb dX5_leastSet_32 rfl (lv_at hl 3 rfl) ?_
          refine xn_icmp_ge (tgt := 68) hx hb (by omega) (by omega) dX5_leastSet_33 rfl (fun b33 => ?_) (fun b33 => ?_)
          · skip
            refine lv_iinc (k := 4) (v := nI (size + 1)) (lv' := [(4, .int (nI (size + 1))), (0, .ref kx), (1, .int (nI n)), (2, .int (nI cc)), (3, .int (nI (2 ^ cc))), (5, .int set), (6, .int (nI tt))]) hx hb dX5_leastSet_68 hl rfl (xn_inc size 1) (by decide) rfl (fun ls hl => ?_)
            refine lv_goto (tgt := 13) hx hb dX5_leastSet_71 rfl ?_
            have hl := lv_sub hl (l' := [(0, .ref kx), (1, .int (nI n)), (2, .int (nI cc)), (3, .int (nI (2 ^ cc))), (4, .int (nI (size + 1)))]) [1, 2, 3, 4, 0] rfl
            exact ih13 (cc + 1 - (size + 1)) (by omega) (size + 1) ls H locs rfl (by omega) (by omega) (by rw [hls, show cc + 1 - size = (cc + 1 - (size + 1)) + 1 by omega, lsOut, hin, show lsIn (fun s => allF (fun i => !decide (wf i &&& s = 0)) n) (2 ^ cc) (2 ^ cc - tt) set = none from (by by_cases hz : 2 ^ cc ≤ tt; (rw [show 2 ^ cc - tt = 0 by omega]; rfl); (rw [show 2 ^ cc - tt = (2 ^ cc - (tt + 1)) + 1 by omega, lsIn]; exact if_neg (by omega)))]) hl hP hS
          · skip
            refine lv_iload hx hb dX5_leastSet_36 (lv_at hl 5 rfl) ?_
            refine lv_iload_n hx hb dX5_leastSet_38 rfl (lv_at hl 3 rfl) ?_
            refine xm_icmp_ge (tgt := 68) hx hb (by omega) dX5_leastSet_39 rfl (fun b39 => ?_) (fun b39 => ?_)
            · skip
              refine lv_iinc (k := 4) (v := nI (size + 1)) (lv' := [(4, .int (nI (size + 1))), (0, .ref kx), (1, .int (nI n)), (2, .int (nI cc)), (3, .int (nI (2 ^ cc))), (5, .int set), (6, .int (nI tt))]) hx hb dX5_leastSet_68 hl rfl (xn_inc size 1) (by decide) rfl (fun ls hl => ?_)
              refine lv_goto (tgt := 13) hx hb dX5_leastSet_71 rfl ?_
              have hl := lv_sub hl (l' := [(0, .ref kx), (1, .int (nI n)), (2, .int (nI cc)), (3, .int (nI (2 ^ cc))), (4, .int (nI (size + 1)))]) [1, 2, 3, 4, 0] rfl
              exact ih13 (cc + 1 - (size + 1)) (by omega) (size + 1) ls H locs rfl (by omega) (by omega) (by rw [hls, show cc + 1 - size = (cc + 1 - (size + 1)) + 1 by omega, lsOut, hin, show lsIn (fun s => allF (fun i => !decide (wf i &&& s = 0)) n) (2 ^ cc) (2 ^ cc - tt) set = none from (by by_cases hz : 2 ^ cc ≤ tt; (rw [show 2 ^ cc - tt = 0 by omega]; rfl); (rw [show 2 ^ cc - tt = (2 ^ cc - (tt + 1)) + 1 by omega, lsIn]; exact if_neg (by omega)))]) hl hP hS
            · skip
              refine lv_aload_n hx hb dX5_leastSet_42 rfl (lv_at hl 0 rfl) ?_
              refine lv_iload hx hb dX5_leastSet_43 (lv_at hl 5 rfl) ?_
              refine lv_iload_n hx hb dX5_leastSet_45 rfl (lv_at hl 1 rfl) ?_
              refine xr_i (As := [.int set, .int (nI n)]) (rest := []) ⟨hx, hb, hml, hown, hts⟩ (c_X5_meetsWants l G kx kb kim kit kv kre ksh kwa kta tf rf wf set n (by first | assumption | omega)) (cwV 2 hts gX5_leastSet_X5_meetsWants rfl rfl rfl (by decide +kernel) ⟨Nat.le_of_ble_eq_true rfl, Nat.le_of_ble_eq_true rfl⟩) hK hP hS [1, 0] rfl rfl rfl rfl hl.1 rfl (Nat.le_of_ble_eq_true rfl) dX5_leastSet_46 ⟨Nat.zero_le _, Nat.zero_le _⟩ (fun r46 H locs hp46 hP hS => ?_)
              obtain rfl : r46 = xb (allF (fun i => !decide (wf i &&& set = 0)) n = true) := hp46
              refine xb_if_eq (tgt := 55) hx hb dX5_leastSet_49 rfl (fun b49 => ?_) (fun b49 => ?_)
              · skip
                refine lv_iload hx hb dX5_leastSet_55 (lv_at hl 5 rfl) ?_
                refine xs_i (As := [.int set]) (rest := []) ⟨hx, hb, hml, hown, hts⟩ (c_X5_nextOfSameSize l G set ) (va_cwS 1 hts gX5_leastSet_X5_nextOfSameSize rfl rfl rfl (by decide +kernel) ⟨Nat.le_of_ble_eq_true rfl, Nat.le_of_ble_eq_true rfl⟩) hP hS rfl hl.1 rfl (Nat.le_of_ble_eq_true rfl) dX5_leastSet_57 ⟨Nat.zero_le _, Nat.zero_le _⟩ (fun r57 H locs hp57 hP hS => ?_)
                obtain rfl : r57 = nxS set := hp57
                refine lv_istore (lv' := [(5, .int (nxS set)), (0, .ref kx), (1, .int (nI n)), (2, .int (nI cc)), (3, .int (nI (2 ^ cc))), (4, .int (nI size)), (6, .int (nI tt))]) hx hb dX5_leastSet_60 hl (by decide) rfl (fun ls hl => ?_)
                refine lv_iinc (k := 6) (v := nI (tt + 1)) (lv' := [(6, .int (nI (tt + 1))), (5, .int (nxS set)), (0, .ref kx), (1, .int (nI n)), (2, .int (nI cc)), (3, .int (nI (2 ^ cc))), (4, .int (nI size))]) hx hb dX5_leastSet_62 hl rfl (xn_inc tt 1) (by decide) rfl (fun ls hl => ?_)
                refine lv_goto (tgt := 30) hx hb dX5_leastSet_65 rfl ?_
                have hl := lv_sub hl (l' := [(0, .ref kx), (1, .int (nI n)), (2, .int (nI cc)), (3, .int (nI (2 ^ cc))), (4, .int (nI size)), (5, .int (nxS set)), (6, .int (nI (tt + 1)))]) [2, 3, 4, 5, 6, 1, 0] rfl
                exact ih30 (2 ^ cc - (tt + 1)) (by omega) (tt + 1) (nxS set) ls H locs rfl (by omega) (by rw [hin, show 2 ^ cc - tt = (2 ^ cc - (tt + 1)) + 1 by omega, lsIn, if_pos (by omega), if_neg b49]) hl hP hS
              · skip
                refine lv_iload hx hb dX5_leastSet_52 (lv_at hl 5 rfl) ?_
                refine W.iret (v := set) hx hb hr (fun t ht hW => ⟨⟨set, (), rfl, ?_, trivial⟩, hS.F ht⟩) hS.2.2 dX5_leastSet_54
                first | (rw [hls, show cc + 1 - size = 0 by omega, lsOut]) | (rw [hls, show cc + 1 - size = (cc + 1 - (size + 1)) + 1 by omega, lsOut, hin, show 2 ^ cc - tt = (2 ^ cc - (tt + 1)) + 1 by omega, lsIn, if_pos (by omega), if_pos b49]) | (unfold lsS; rw [if_pos (by rw [b1]; rfl)])
        have hl := lv_sub hl (l' := [(0, .ref kx), (1, .int (nI n)), (2, .int (nI cc)), (3, .int (nI (2 ^ cc))), (4, .int (nI size)), (5, .int (nI ((2 ^ size) - 1))), (6, .int (nI 0))]) [2, 3, 4, 5, 6, 1, 0] rfl
        exact hL30 (2 ^ cc - 0) 0 (nI ((2 ^ size) - 1)) ls H locs rfl (by omega) (by rfl) hl hP hS
    have hl := lv_sub hl (l' := [(0, .ref kx), (1, .int (nI n)), (2, .int (nI cc)), (3, .int (nI (2 ^ cc))), (4, .int (nI 1))]) [2, 3, 4, 1, 0] rfl
    have hP := hP.sub (ws' := [iA G kwa 45 wf, oC kx 5 [.ref kb, .ref kim, .ref kit, .ref kv, .ref kre, .int tf, .ref ksh, .int rf, .ref kwa, .ref kta]]) [1, 0] rfl
    exact hL13 (cc + 1 - 1) 1 ls ss.heap [] rfl (by omega) (by omega) (by rw [hl0]; rfl) hl hP hS
  · skip
    refine lv_iconst (v := nI 0) hx hb dX5_leastSet_4 (by decide) ?_
    refine W.iret (v := nI 0) hx hb hr (fun t ht hW => ⟨⟨nI 0, (), rfl, ?_, trivial⟩, hS.F ht⟩) hS.2.2 dX5_leastSet_5
    first | (rw [hls, show cc + 1 - size = 0 by omega, lsOut]) | (rw [hls, show cc + 1 - size = (cc + 1 - (size + 1)) + 1 by omega, lsOut, hin, show 2 ^ cc - tt = (2 ^ cc - (tt + 1)) + 1 by omega, lsIn, if_pos (by omega), if_pos b49]) | (unfold lsS; rw [if_pos (by rw [b1]; rfl)])
end
section
section XL
variable {p : Program} {l : Launch} {e : Env} {R : Room} {s : State} {m : MethodId} {args : Array Value} {below : List Frame} {meth : Method} {c : Code} {H : Heap} {locs : List Loc} {cells slots : Nat} {Q : State → Prop}
variable {cc : ByteArray} {pc : Nat} {ls : Array Slot} {rest st0 : List Value} {G : XG} {ws wc wr : va_W} {A : Nat → Prop} {H0 : Heap}
variable {y : MethodName} {bytes : ByteArray} {maxL nL mc ms n index : Nat} {ret : Option FieldType} {wy : List Cond} {rm : Room} {Ts : List Cond} {own C : String} {b : Addr} {As : List Value}
theorem xw_l {S' : Type} {post : Int64 → S' → Prop} {w1 : S' → va_W} (S : CallFix p m c cc nL s args Ts own) (hM : Met l y wy rm (va_Pc (.ref b :: As) (xWp G H.size wc)) (va_Ql post (xWb G H.size wc w1) (va_A wc H.size)) mc ms (va_A wc H.size)) (cw : CallW R s args own C index y bytes maxL ret wy rm mc ms n) (hK : xK G s) (hP : xP G ws H) (hD : va_D A ws) (hS : va_S A H0 H locs) (hA : ∀ q : Nat, H0.size ≤ q → A q) (isC isR : List Nat) (hC : isC.map (fun i => ws[i]?) = wc.map some) (hR : isR.map (fun i => ws[i]?) = wr.map some) (hnC : va_nd isC = true) (hnR : va_nd isR = true) (hdis : ∀ i ∈ isR, i ∉ isC) {ci N : Nat} {fs : List Value} {T : u_T} (he : wc[0]? = some (oC b ci fs)) (hc : vwCl[ci]? = some (C, T, N)) (hn : As.length = n) (hl : ls.size = nL) (hst : st0 = As.reverse ++ .ref b :: rest) (hw : (rest.map fun v => v.category).sum ≤ 8) (hdg : decode cc pc = .ok (.invokevirtual index, 3)) (hf : cells + mc ≤ R.cells ∧ slots + ms ≤ R.slots) (kk : ∀ (r : Int64) (u : S') (H1 : Heap) (locs1 : List Loc), post r u → xP G (wr ++ w1 u) H1 → va_D A (wr ++ w1 u) → va_S A H0 H1 locs1 → W p l e R s m args below meth c H1 locs1 (cells + mc) (slots + ms) Q (F0 m (pc + 3) ls (.long r :: rest))) : W p l e R s m args below meth c H locs (cells) (slots) Q (F0 m pc ls st0) := by
  have hDc : va_D A wc := va_D.sub hD isC hnC hC
  have hPc : xP G wc H := xP_sub hP isC hC
  have hFc := va_free (wc := wc) hD hS hA isC hC
  refine va_calll (va_runV (As := As) (rest := rest) (b := b) S hM cw ⟨xWp_blind, va_recv hK.1 hPc hc he, fun U hU hW => ⟨rfl, by rw [hU], by rw [hU]; exact hPc, xK_warm hW hK, hDc.weaken (fun _ _ _ _ => trivial)⟩⟩ rfl hn hl hst (lv_room hw) hdg hf) hS (fun q _ h => hFc q h) hFc (fun r u t H1 locs1 ht hvm hp hB hz hk hS1 => ?_)
  have hP1 : xP G (w1 u) H1 := by rw [← ht]; exact hB.1
  obtain ⟨hP2, hD2⟩ := va_join (wr := wr) (w1 := w1 u) hP hD isC isR hC hR hnR hdis hk hFc hP1 hB.2
  exact kk r u H1 locs1 hp hP2 hD2 hS1
end XL
/-- Euclid, at most so many steps -/
def gcL : Nat → Int64 → Int64 → Int64
  | 0, d, _ => d
  | k + 1, d, r => if r = lN 0 then d else gcL k r (d - d / r * r)
def frS (top below : Int64) (what : Int32) : Int64 := if gcL 100 below top = lN 0 then (-1) else (if what = 0 then top else below) / gcL 100 below top
/-- the product over the lenses: v for those that show, ten for the others -/
def abF (v : Int32) (n : Nat) : Nat → Int64
  | 0 => lN 1
  | i + 1 => abF v n i * (if i < n then v.toInt64 else lN 10)
theorem and1 (y : Int32) : y &&& nI 1 = nI 0 ∨ y &&& nI 1 = nI 1 := by
  obtain ⟨j, hj, he⟩ := pk_andE y (m := nI 1) 1 (by decide)
  rw [he]
  rcases (show j = 0 ∨ j = 1 by omega) with rfl | rfl
  · exact Or.inl rfl
  · exact Or.inr rfl
/-- is bit c of y set -/
abbrev bitB (y : Int32) (c : Nat) : Bool := !decide ((y >>> (nI c &&& 31)) &&& nI 1 = 0)
theorem cnt_and {p : Nat → Bool} {i : Nat} {y : Int32} (h : p i = !decide (y &&& nI 1 = 0)) : nI (cntF p i) + (y &&& nI 1) = nI (cntF p (i + 1)) := by
  rcases and1 y with q | q
  · rw [q] at h ⊢
    rw [cntF, h, if_neg (by decide), nI_add]
    rfl
  · rw [q] at h ⊢
    rw [cntF, h, if_pos (by decide), nI_add]
/-- a drawn number before the remainder -/
def drw (s : Int32) : Nat := (xu s (nI 16)).toBitVec.toNat % 2 ^ 15
theorem drw_and (s : Int32) : xu s (nI 16) &&& nI 32767 = nI (drw s) := pk_and _ 15 (by decide)
theorem drw_lt (s : Int32) : drw s < 32768 := Nat.mod_lt _ (by decide)
def nxD (s : Int32) : Int32 := s * nI 1103515245 + nI 12345
/-- a row of marks behind k drawn changes -/
def drF (cells : Nat) : Nat → Int32 → (Nat → Int32) → Nat → Int32
  | 0, _, row => row
  | k + 1, s, row => drF cells k (nxD (nxD s)) (upd row (drw (nxD s) % cells) (nI (drw (nxD (nxD s)) % 6)))
/-- how many days are told alike, by the slot -/
def tlF (sl : Nat → Nat) (fb : Nat → Bool) : Nat → Nat → Nat
  | 0, _ => 0
  | d + 1, k => if fb d = true ∧ k = sl d then tlF sl fb d k + 1 else tlF sl fb d k
def woF (sl : Nat → Nat) (fb : Nat → Bool) : Nat → Nat
  | 0 => 0
  | d + 1 => if fb d then (if woF sl fb d < tlF sl fb d (sl d) + 1 then tlF sl fb d (sl d) + 1 else woF sl fb d) else woF sl fb d
theorem tlF_le (sl : Nat → Nat) (fb : Nat → Bool) : ∀ d k, tlF sl fb d k ≤ d
  | 0, _ => Nat.le_refl _
  | d + 1, k => by have := tlF_le sl fb d k; unfold tlF; split <;> omega
theorem woF_le (sl : Nat → Nat) (fb : Nat → Bool) : ∀ d, woF sl fb d ≤ d
  | 0 => Nat.le_refl _
  | d + 1 => by have := woF_le sl fb d; have := tlF_le sl fb d (sl d); unfold woF; split; (split <;> omega); omega
/-- the slot of an answer -/
abbrev slA (a : Int32) : Nat := if a = (-4) then 6 else tn a
abbrev woS (w h la : Nat) (af : Nat → Int32) (nc : Nat) (fc : Nat → Int32) (x c : Nat) (fits : Int32) : Nat := woF (fun d => slA (anS w h af nc fc x c d)) (fun d => bitB fits d) (la + 1)
/-- the least answer of a sweep: what is found, where -/
def lkC (wo : Nat → Nat) (at0 : Nat) : Nat → Int32 × Int32 → Int32 × Int32
  | 0, s => s
  | c + 1, s => if (wo c : Int) < (lkC wo at0 c s).1.toInt then (nI (wo c), nI (16 * at0 + c)) else lkC wo at0 c s
def lkX (wo : Nat → Nat → Nat) (n : Nat) : Nat → Int32 × Int32 → Int32 × Int32
  | 0, s => s
  | x + 1, s => lkC (wo x) x n (lkX wo n x s)
end
section
abbrev Q_X5_fractionPart (G : XG) (top bel : Int64) (a : Int32) : Array Value → State → Outcome → State → Prop := (xRl (fun r => r = frS top bel a))
set_option maxHeartbeats 4000000 in
set_option maxRecDepth 100000 in
theorem c_X5_fractionPart (l : Launch) (G : XG) (top bel : Int64) (a : Int32)  : Met l yX5_fractionPart wsX5_fractionPart ({ frames := 0, cells := 0, slots := 0, locals := 0 } : Room) (va_Pc [.long top, .long bel, .int a] (fun _ => True)) (Q_X5_fractionPart G top bel a) 0 0 (fun _ => False) := by
  refine Met.ofW (cc := cX5_fractionPart) (maxL := 12) (ret := (some .long)) (by decide) rfl ?_
  intro pp ee ss mm aa below mt cd s₁ BB hml hv
  obtain ⟨rfl, -⟩ := hv
  have hx := BB.exec
  have hb := BB.bytes
  have hr := BB.returns
  have hts := atoms_spec (ws := wsX5_fractionPart) BB.pre
  have hown : ss.vm.findClass RX5 = some mm.cls := findClass_of_methodNamed BB.named
  have hlocks := BB.notSynchronized
  have hS : va_S (fun _ => False) ss.heap ss.heap [] := va_S.rf
  have hP : xP (G) [] ss.heap := fun k q h => by cases h
  have hl := lv_entry ([.long top, .long bel, .int a]) (n := 12) (Nat.le_of_ble_eq_true rfl)
  rw [lg_entry_eq]
  generalize (lg_sl ([.long top, .long bel, .int a]) ++ List.replicate (12 - (lg_sl ([.long top, .long bel, .int a])).length) Slot.unset).toArray = ls at hl ⊢
  replace hl : lv_has ls 12 [(0, .long top), (2, .long bel), (4, .int a)] := hl
  refine lv_lload_n hx hb dX5_fractionPart_0 rfl (lv_at hl 1 rfl) ?_
  refine lv_lstore (lv' := [(5, .long bel), (0, .long top), (2, .long bel), (4, .int a)]) hx hb dX5_fractionPart_1 hl (by decide) rfl (fun ls hl => ?_)
  refine lv_lload_n hx hb dX5_fractionPart_3 rfl (lv_at hl 1 rfl) ?_
  refine lv_lstore (lv' := [(7, .long top), (5, .long bel), (0, .long top), (2, .long bel), (4, .int a)]) hx hb dX5_fractionPart_4 hl (by decide) rfl (fun ls hl => ?_)
  refine lv_iconst (v := nI 0) hx hb dX5_fractionPart_6 (by decide) ?_
  refine lv_istore (lv' := [(9, .int (nI 0)), (7, .long top), (5, .long bel), (0, .long top), (2, .long bel), (4, .int a)]) hx hb dX5_fractionPart_7 hl (by decide) rfl (fun ls hl => ?_)
  have hL44 : ∀ (dv : Int64) (ls : Array Slot) (H : Heap) (locs : List Loc), (gcL 100 bel top = dv) → lv_has ls 12 [(0, .long top), (2, .long bel), (4, .int a), (5, .long dv)] → xP G [] H → va_S (fun _ => False) ss.heap H locs → W pp l ee ({ frames := 0, cells := 0, slots := 0, locals := 0 } : Room) ss mm ([.long top, .long bel, .int a] : List Value).toArray below mt cd H locs 0 0 (MQ below (Q_X5_fractionPart G top bel a) ([.long top, .long bel, .int a] : List Value).toArray ss 0 0 (fun _ => False)) (F0 mm 44 ls []) := by
    intro dv ls H locs hg hl hP hS
    refine lv_lload hx hb dX5_fractionPart_44 (lv_at hl 3 rfl) ?_
    refine lv_lconst (v := lN 0) hx hb dX5_fractionPart_46 (by decide) ?_
    refine W.lcmp hx hb dX5_fractionPart_47 ?_
    refine xl_if_ne (tgt := 55) hx hb dX5_fractionPart_48 rfl (fun b48 => ?_) (fun b48 => ?_)
    · skip
      refine lv_iload hx hb dX5_fractionPart_55 (lv_at hl 2 rfl) ?_
      refine lv_if_ne (tgt := 64) hx hb dX5_fractionPart_57 rfl (fun b57 => ?_) (fun b57 => ?_)
      · skip
        refine lv_lload_n hx hb dX5_fractionPart_64 rfl (lv_at hl 1 rfl) ?_
        refine lv_lload hx hb dX5_fractionPart_65 (lv_at hl 3 rfl) ?_
        refine lv_ldiv hx hb dX5_fractionPart_67 (by exact b48) ?_
        refine W.lret (v := bel / dv) hx hb hr (fun t ht hW => ⟨⟨bel / dv, (), rfl, ?_, trivial⟩, hS.F ht⟩) hS.2.2 dX5_fractionPart_68
        unfold frS; rw [hg]; first | exact (if_pos b48).symm | (rw [if_neg b48]; first | rw [if_pos b57] | rw [if_neg b57])
      · skip
        refine lv_lload_n hx hb dX5_fractionPart_60 rfl (lv_at hl 0 rfl) ?_
        refine lv_goto (tgt := 65) hx hb dX5_fractionPart_61 rfl ?_
        refine lv_lload hx hb dX5_fractionPart_65 (lv_at hl 3 rfl) ?_
        refine lv_ldiv hx hb dX5_fractionPart_67 (by exact b48) ?_
        refine W.lret (v := top / dv) hx hb hr (fun t ht hW => ⟨⟨top / dv, (), rfl, ?_, trivial⟩, hS.F ht⟩) hS.2.2 dX5_fractionPart_68
        unfold frS; rw [hg]; first | exact (if_pos b48).symm | (rw [if_neg b48]; first | rw [if_pos b57] | rw [if_neg b57])
    · skip
      refine lv_ldc2 (v := (-1)) hx hb hown (hts (.constantLong RX5 175 ((-1))) (List.mem_of_getElem? (i := 1) rfl)) dX5_fractionPart_51 ?_
      refine W.lret (v := (-1)) hx hb hr (fun t ht hW => ⟨⟨(-1), (), rfl, ?_, trivial⟩, hS.F ht⟩) hS.2.2 dX5_fractionPart_54
      unfold frS; rw [hg]; first | exact (if_pos b48).symm | (rw [if_neg b48]; first | rw [if_pos b57] | rw [if_neg b57])
  have hL9 : ∀ k : Nat, ∀ (i : Nat) (dv : Int64) (rs : Int64) (ls : Array Slot) (H : Heap) (locs : List Loc), 100 - i = k → (i ≤ 100) → (gcL 100 bel top = gcL (100 - i) dv rs) → lv_has ls 12 [(0, .long top), (2, .long bel), (4, .int a), (5, .long dv), (7, .long rs), (9, .int (nI i))] → xP G [] H → va_S (fun _ => False) ss.heap H locs → W pp l ee ({ frames := 0, cells := 0, slots := 0, locals := 0 } : Room) ss mm ([.long top, .long bel, .int a] : List Value).toArray below mt cd H locs 0 0 (MQ below (Q_X5_fractionPart G top bel a) ([.long top, .long bel, .int a] : List Value).toArray ss 0 0 (fun _ => False)) (F0 mm 9 ls []) := by
    intro k
    induction k using Nat.strongRecOn with
    | _ k ih9 =>
    intro i dv rs ls H locs hm9 hi hg hl hP hS
    refine lv_iload hx hb dX5_fractionPart_9 (lv_at hl 5 rfl) ?_
    refine lv_bipush (v := nI 100) hx hb dX5_fractionPart_11 (by decide) ?_
    refine xn_icmp_ge (tgt := 44) hx hb (by omega) (by omega) dX5_fractionPart_13 rfl (fun b13 => ?_) (fun b13 => ?_)
    · skip
      have hl := lv_sub hl (l' := [(0, .long top), (2, .long bel), (4, .int a), (5, .long dv)]) [0, 1, 2, 3] rfl
      exact hL44 dv ls H locs (by first | (rw [hg, show 100 - i = 0 by omega, gcL]) | (rw [hg, show 100 - i = (100 - (i + 1)) + 1 by omega, gcL, if_pos b20])) hl hP hS
    · skip
      refine lv_lload hx hb dX5_fractionPart_16 (lv_at hl 4 rfl) ?_
      refine lv_lconst (v := lN 0) hx hb dX5_fractionPart_18 (by decide) ?_
      refine W.lcmp hx hb dX5_fractionPart_19 ?_
      refine xl_if_eq (tgt := 44) hx hb dX5_fractionPart_20 rfl (fun b20 => ?_) (fun b20 => ?_)
      · skip
        have hl := lv_sub hl (l' := [(0, .long top), (2, .long bel), (4, .int a), (5, .long dv)]) [0, 1, 2, 3] rfl
        exact hL44 dv ls H locs (by first | (rw [hg, show 100 - i = 0 by omega, gcL]) | (rw [hg, show 100 - i = (100 - (i + 1)) + 1 by omega, gcL, if_pos b20])) hl hP hS
      · skip
        refine lv_lload hx hb dX5_fractionPart_23 (lv_at hl 3 rfl) ?_
        refine lv_lload hx hb dX5_fractionPart_25 (lv_at hl 4 rfl) ?_
        refine lv_lrem hx hb dX5_fractionPart_27 (by exact b20) ?_
        refine lv_lstore (lv' := [(10, .long (dv - dv / rs * rs)), (0, .long top), (2, .long bel), (4, .int a), (5, .long dv), (7, .long rs), (9, .int (nI i))]) hx hb dX5_fractionPart_28 hl (by decide) rfl (fun ls hl => ?_)
        refine lv_lload hx hb dX5_fractionPart_30 (lv_at hl 5 rfl) ?_
        refine lv_lstore (lv' := [(5, .long rs), (10, .long (dv - dv / rs * rs)), (0, .long top), (2, .long bel), (4, .int a), (7, .long rs), (9, .int (nI i))]) hx hb dX5_fractionPart_32 hl (by decide) rfl (fun ls hl => ?_)
        refine lv_lload hx hb dX5_fractionPart_34 (lv_at hl 1 rfl) ?_
        refine lv_lstore (lv' := [(7, .long (dv - dv / rs * rs)), (5, .long rs), (10, .long (dv - dv / rs * rs)), (0, .long top), (2, .long bel), (4, .int a), (9, .int (nI i))]) hx hb dX5_fractionPart_36 hl (by decide) rfl (fun ls hl => ?_)
        refine lv_iinc (k := 6) (v := nI (i + 1)) (lv' := [(9, .int (nI (i + 1))), (7, .long (dv - dv / rs * rs)), (5, .long rs), (10, .long (dv - dv / rs * rs)), (0, .long top), (2, .long bel), (4, .int a)]) hx hb dX5_fractionPart_38 hl rfl (xn_inc i 1) (by decide) rfl (fun ls hl => ?_)
        refine lv_goto (tgt := 9) hx hb dX5_fractionPart_41 rfl ?_
        have hl := lv_sub hl (l' := [(0, .long top), (2, .long bel), (4, .int a), (5, .long rs), (7, .long (dv - dv / rs * rs)), (9, .int (nI (i + 1)))]) [4, 5, 6, 2, 1, 0] rfl
        exact ih9 (100 - (i + 1)) (by omega) (i + 1) rs (dv - dv / rs * rs) ls H locs rfl (by omega) (by rw [hg, show 100 - i = (100 - (i + 1)) + 1 by omega, gcL, if_neg b20]) hl hP hS
  have hl := lv_sub hl (l' := [(0, .long top), (2, .long bel), (4, .int a), (5, .long bel), (7, .long top), (9, .int (nI 0))]) [3, 4, 5, 2, 1, 0] rfl
  exact hL9 (100 - 0) 0 bel top ls ss.heap [] rfl (by omega) (by rfl) hl hP hS

abbrev Q_X5_drawn (G : XG) (i : Int32) (n : Nat) : Array Value → State → Outcome → State → Prop := (xRi (fun r => r = nI (drw i % n)))
set_option maxHeartbeats 4000000 in
set_option maxRecDepth 100000 in
theorem c_X5_drawn (l : Launch) (G : XG) (i : Int32) (n : Nat) (hn : 1 ≤ n) (hn2 : n ≤ 16) : Met l yX5_drawn wsX5_drawn ({ frames := 0, cells := 0, slots := 0, locals := 0 } : Room) (va_Pc [.int i, .int (nI n)] (fun _ => True)) (Q_X5_drawn G i n) 0 0 (fun _ => False) := by
  refine Met.ofW (cc := cX5_drawn) (maxL := 2) (ret := (some .int)) (by decide) rfl ?_
  intro pp ee ss mm aa below mt cd s₁ BB hml hv
  obtain ⟨rfl, -⟩ := hv
  have hx := BB.exec
  have hb := BB.bytes
  have hr := BB.returns
  have hts := atoms_spec (ws := wsX5_drawn) BB.pre
  have hown : ss.vm.findClass RX5 = some mm.cls := findClass_of_methodNamed BB.named
  have hlocks := BB.notSynchronized
  have hS : va_S (fun _ => False) ss.heap ss.heap [] := va_S.rf
  have hP : xP (G) [] ss.heap := fun k q h => by cases h
  have hl := lv_entry ([.int i, .int (nI n)]) (n := 2) (Nat.le_of_ble_eq_true rfl)
  rw [lg_entry_eq]
  generalize (lg_sl ([.int i, .int (nI n)]) ++ List.replicate (2 - (lg_sl ([.int i, .int (nI n)])).length) Slot.unset).toArray = ls at hl ⊢
  replace hl : lv_has ls 2 [(0, .int i), (1, .int (nI n))] := hl
  refine lv_iload_n hx hb dX5_drawn_0 rfl (lv_at hl 1 rfl) ?_
  refine xn_if_le (tgt := 17) hx hb (by omega) dX5_drawn_1 rfl (fun b1 => absurd b1 (by omega)) (fun _ => ?_)
  refine lv_iload_n hx hb dX5_drawn_4 rfl (lv_at hl 0 rfl) ?_
  refine lv_bipush (v := nI 16) hx hb dX5_drawn_5 (by decide) ?_
  refine lv_iushr (v := xu i (nI 16)) hx hb dX5_drawn_7 rfl ?_
  refine lv_sipush (v := nI 32767) hx hb dX5_drawn_8 (by decide) ?_
  refine lv_iand hx hb dX5_drawn_11 ?_
  refine xn_top (drw_and i) ?_
  have hdl := drw_lt i
  refine lv_iload_n hx hb dX5_drawn_12 rfl (lv_at hl 1 rfl) ?_
  refine xn_irem hx hb (by omega) (by omega) (by omega) dX5_drawn_13 ?_
  refine lv_goto (tgt := 18) hx hb dX5_drawn_14 rfl ?_
  refine W.iret (v := nI ((drw i) % n)) hx hb hr (fun t ht hW => ⟨⟨nI ((drw i) % n), (), rfl, ?_, trivial⟩, hS.F ht⟩) hS.2.2 dX5_drawn_18
  rfl

abbrev w_X5_partsShown (G : XG) (kx kim kit kre ksh kwa kta : Nat) (tf rf : Int32) (kb ka kc kcn kl kn : Nat) (w h la : Nat) (af : Nat → Int32) (nc : Nat) (fc : Nat → Int32) (kv km kg : Nat) (vw vh : Nat) (sl : Int32) (mk sg : Nat → Int32) (kln : Nat) (nl : Nat) (fl : Nat → Int32) : va_W := [oC kx 5 [.ref kb, .ref kim, .ref kit, .ref kv, .ref kre, .int tf, .ref ksh, .int rf, .ref kwa, .ref kta], oC kb 0 [.int (nI w), .int (nI h), .int (nI la), .ref ka, .ref kc, .ref kl, .ref kn], iA G ka 16 af, oC kc 2 [.ref kcn, .int (nI 10), .int (nI nc)], iA G kcn (3 * 10) fc, oC kv 4 [.ref km, .ref kg, .int (nI vw), .int (nI vh), .int sl], iA G km 176 mk, iA G kg 160 sg, oC kl 2 [.ref kln, .int (nI 6), .int (nI nl)], iA G kln (3 * 6) fl]
abbrev Q_X5_partsShown (G : XG) (sz : Nat) (kx kim kit kre ksh kwa kta : Nat) (tf rf : Int32) (kb ka kc kcn kl kn : Nat) (w h la : Nat) (af : Nat → Int32) (nc : Nat) (fc : Nat → Int32) (kv km kg : Nat) (vw vh : Nat) (sl : Int32) (mk sg : Nat → Int32) (kln : Nat) (nl : Nat) (fl : Nat → Int32) (v : Int32) (x c : Nat) : Array Value → State → Outcome → State → Prop := (va_Ql (fun (r : Int64) (u : (Nat → Int32) × (Nat → Int32) × Nat × Nat × Int32) => r = lN 1000000 - abF v (cntF (fun l => bitB (shS w h af nc fc fl l x) c) nl) 6 ∧ VOK w h la af nc fc u.1 u.2.1 u.2.2.1 u.2.2.2.1 u.2.2.2.2) (xWb G sz (w_X5_partsShown G kx kim kit kre ksh kwa kta tf rf kb ka kc kcn kl kn w h la af nc fc kv km kg vw vh sl mk sg kln nl fl) (fun u : (Nat → Int32) × (Nat → Int32) × Nat × Nat × Int32 => [oC kx 5 [.ref kb, .ref kim, .ref kit, .ref kv, .ref kre, .int tf, .ref ksh, .int rf, .ref kwa, .ref kta], oC kb 0 [.int (nI w), .int (nI h), .int (nI la), .ref ka, .ref kc, .ref kl, .ref kn], iA G ka 16 af, oC kc 2 [.ref kcn, .int (nI 10), .int (nI nc)], iA G kcn (3 * 10) fc, oC kv 4 [.ref km, .ref kg, .int (nI u.2.2.1), .int (nI u.2.2.2.1), .int u.2.2.2.2], iA G km 176 u.1, iA G kg 160 u.2.1, oC kl 2 [.ref kln, .int (nI 6), .int (nI nl)], iA G kln (3 * 6) fl])) (va_A (w_X5_partsShown G kx kim kit kre ksh kwa kta tf rf kb ka kc kcn kl kn w h la af nc fc kv km kg vw vh sl mk sg kln nl fl) sz))
set_option maxHeartbeats 4000000 in
set_option maxRecDepth 100000 in
theorem c_X5_partsShown (l : Launch) (G : XG) (sz : Nat) (kx kim kit kre ksh kwa kta : Nat) (tf rf : Int32) (kb ka kc kcn kl kn : Nat) (w h la : Nat) (af : Nat → Int32) (nc : Nat) (fc : Nat → Int32) (kv km kg : Nat) (vw vh : Nat) (sl : Int32) (mk sg : Nat → Int32) (kln : Nat) (nl : Nat) (fl : Nat → Int32) (v : Int32) (x c : Nat) (hw : 1 ≤ w) (hwb : w ≤ 16) (hhb : h ≤ 16) (hwh : w * h ≤ 16) (hla : la ≤ 9) (hnc : nc ≤ 10) (hcell : ∀ i, i < nc → inR (fc (3 * i + 1)) 16) (hvok : VOK w h la af nc fc mk sg vw vh sl) (hnl : nl ≤ 6) (hlens : ∀ i, i < nl → inR (fl (3 * i)) (la + 1)) (hxx : x < w * h) (hcc : c < w * h) : Met l yX5_partsShown wsX5_partsShown ({ frames := 5, cells := 0, slots := 0, locals := 118 } : Room) (va_Pc [.ref kx, .int v, .int (nI x), .int (nI c)] (xWp G sz (w_X5_partsShown G kx kim kit kre ksh kwa kta tf rf kb ka kc kcn kl kn w h la af nc fc kv km kg vw vh sl mk sg kln nl fl))) (Q_X5_partsShown G sz kx kim kit kre ksh kwa kta tf rf kb ka kc kcn kl kn w h la af nc fc kv km kg vw vh sl mk sg kln nl fl v x c) 0 0 (va_A (w_X5_partsShown G kx kim kit kre ksh kwa kta tf rf kb ka kc kcn kl kn w h la af nc fc kv km kg vw vh sl mk sg kln nl fl) sz) := by
  refine Met.ofW (cc := cX5_partsShown) (maxL := 8) (ret := (some .long)) (by decide) rfl ?_
  intro pp ee ss mm aa below mt cd s₁ BB hml hv
  obtain ⟨rfl, hsz, hP, hK, hD0⟩ := hv
  have hx := BB.exec
  have hb := BB.bytes
  have hr := BB.returns
  have hts := atoms_spec (ws := wsX5_partsShown) BB.pre
  have hown : ss.vm.findClass RX5 = some mm.cls := findClass_of_methodNamed BB.named
  have hlocks := BB.notSynchronized
  subst hsz
  have hD := hD0.self (sz := ss.heap.size)
  have hA : ∀ q : Nat, ss.heap.size ≤ q → va_A (w_X5_partsShown G kx kim kit kre ksh kwa kta tf rf kb ka kc kcn kl kn w h la af nc fc kv km kg vw vh sl mk sg kln nl fl) ss.heap.size q := fun q h => Or.inr h
  have hS : va_S (va_A (w_X5_partsShown G kx kim kit kre ksh kwa kta tf rf kb ka kc kcn kl kn w h la af nc fc kv km kg vw vh sl mk sg kln nl fl) ss.heap.size) ss.heap ss.heap [] := va_S.rf
  replace hD : va_D (va_A (w_X5_partsShown G kx kim kit kre ksh kwa kta tf rf kb ka kc kcn kl kn w h la af nc fc kv km kg vw vh sl mk sg kln nl fl) ss.heap.size) [oC kx 5 [.ref kb, .ref kim, .ref kit, .ref kv, .ref kre, .int tf, .ref ksh, .int rf, .ref kwa, .ref kta], oC kb 0 [.int (nI w), .int (nI h), .int (nI la), .ref ka, .ref kc, .ref kl, .ref kn], iA G ka 16 af, oC kc 2 [.ref kcn, .int (nI 10), .int (nI nc)], iA G kcn (3 * 10) fc, oC kv 4 [.ref km, .ref kg, .int (nI vw), .int (nI vh), .int sl], iA G km 176 mk, iA G kg 160 sg, oC kl 2 [.ref kln, .int (nI 6), .int (nI nl)], iA G kln (3 * 6) fl] := hD
  replace hP : xP G [oC kx 5 [.ref kb, .ref kim, .ref kit, .ref kv, .ref kre, .int tf, .ref ksh, .int rf, .ref kwa, .ref kta], oC kb 0 [.int (nI w), .int (nI h), .int (nI la), .ref ka, .ref kc, .ref kl, .ref kn], iA G ka 16 af, oC kc 2 [.ref kcn, .int (nI 10), .int (nI nc)], iA G kcn (3 * 10) fc, oC kv 4 [.ref km, .ref kg, .int (nI vw), .int (nI vh), .int sl], iA G km 176 mk, iA G kg 160 sg, oC kl 2 [.ref kln, .int (nI 6), .int (nI nl)], iA G kln (3 * 6) fl] ss.heap := hP
  have hin0 : ∀ w ∈ u_ws RX0 TX0 7, w ∈ wsX5_partsShown := fun w h => List.mem_cons_of_mem _ (List.mem_append_left _ (List.mem_append_left _ (List.mem_append_right _ h)))
  have hin2 : ∀ w ∈ u_ws RX2 TX2 3, w ∈ wsX5_partsShown := fun w h => List.mem_cons_of_mem _ (List.mem_append_left _ (List.mem_append_right _ h))
  have hin4 : ∀ w ∈ u_ws RX4 TX4 5, w ∈ wsX5_partsShown := fun w h => List.mem_cons_of_mem _ (List.mem_append_right _ h)
  have hin5 : ∀ w ∈ u_ws RX5 TX5 10, w ∈ wsX5_partsShown := fun w h => List.mem_cons_of_mem _ (List.mem_append_left _ (List.mem_append_left _ (List.mem_append_left _ (List.mem_append_right _ h))))
  have hl := lv_entry ([.ref kx, .int v, .int (nI x), .int (nI c)]) (n := 8) (Nat.le_of_ble_eq_true rfl)
  rw [lg_entry_eq]
  generalize (lg_sl ([.ref kx, .int v, .int (nI x), .int (nI c)]) ++ List.replicate (8 - (lg_sl ([.ref kx, .int v, .int (nI x), .int (nI c)])).length) Slot.unset).toArray = ls at hl ⊢
  replace hl : lv_has ls 8 [(0, .ref kx), (1, .int v), (2, .int (nI x)), (3, .int (nI c))] := hl
  refine lv_iconst (v := nI 0) hx hb dX5_partsShown_0 (by decide) ?_
  refine lv_istore (lv' := [(4, .int (nI 0)), (0, .ref kx), (1, .int v), (2, .int (nI x)), (3, .int (nI c))]) hx hb dX5_partsShown_1 hl (by decide) rfl (fun ls hl => ?_)
  refine lv_iconst (v := nI 0) hx hb dX5_partsShown_3 (by decide) ?_
  refine lv_istore (lv' := [(5, .int (nI 0)), (4, .int (nI 0)), (0, .ref kx), (1, .int v), (2, .int (nI x)), (3, .int (nI c))]) hx hb dX5_partsShown_4 hl (by decide) rfl (fun ls hl => ?_)
  have hL6 : ∀ k : Nat, ∀ (i : Nat) (sh : Int32) (mk3 : Nat → Int32) (sg3 : Nat → Int32) (vw3 : Nat) (vh3 : Nat) (sl3 : Int32) (ls : Array Slot) (H : Heap) (locs : List Loc), nl - i = k → (i ≤ nl) → (sh = nI (cntF (fun l => bitB (shS w h af nc fc fl l x) c) i)) → (VOK w h la af nc fc mk3 sg3 vw3 vh3 sl3) → lv_has ls 8 [(0, .ref kx), (1, .int v), (2, .int (nI x)), (3, .int (nI c)), (4, .int sh), (5, .int (nI i))] → xP G [iA G ka 16 af, oC kb 0 [.int (nI w), .int (nI h), .int (nI la), .ref ka, .ref kc, .ref kl, .ref kn], oC kc 2 [.ref kcn, .int (nI 10), .int (nI nc)], iA G kcn (3 * 10) fc, iA G kg 160 sg3, oC kl 2 [.ref kln, .int (nI 6), .int (nI nl)], iA G kln (3 * 6) fl, iA G km 176 mk3, oC kv 4 [.ref km, .ref kg, .int (nI vw3), .int (nI vh3), .int sl3], oC kx 5 [.ref kb, .ref kim, .ref kit, .ref kv, .ref kre, .int tf, .ref ksh, .int rf, .ref kwa, .ref kta]] H → va_D (va_A (w_X5_partsShown G kx kim kit kre ksh kwa kta tf rf kb ka kc kcn kl kn w h la af nc fc kv km kg vw vh sl mk sg kln nl fl) ss.heap.size) [iA G ka 16 af, oC kb 0 [.int (nI w), .int (nI h), .int (nI la), .ref ka, .ref kc, .ref kl, .ref kn], oC kc 2 [.ref kcn, .int (nI 10), .int (nI nc)], iA G kcn (3 * 10) fc, iA G kg 160 sg3, oC kl 2 [.ref kln, .int (nI 6), .int (nI nl)], iA G kln (3 * 6) fl, iA G km 176 mk3, oC kv 4 [.ref km, .ref kg, .int (nI vw3), .int (nI vh3), .int sl3], oC kx 5 [.ref kb, .ref kim, .ref kit, .ref kv, .ref kre, .int tf, .ref ksh, .int rf, .ref kwa, .ref kta]] → va_S (va_A (w_X5_partsShown G kx kim kit kre ksh kwa kta tf rf kb ka kc kcn kl kn w h la af nc fc kv km kg vw vh sl mk sg kln nl fl) ss.heap.size) ss.heap H locs → W pp l ee ({ frames := 5, cells := 0, slots := 0, locals := 118 } : Room) ss mm ([.ref kx, .int v, .int (nI x), .int (nI c)] : List Value).toArray below mt cd H locs 0 0 (MQ below (Q_X5_partsShown G ss.heap.size kx kim kit kre ksh kwa kta tf rf kb ka kc kcn kl kn w h la af nc fc kv km kg vw vh sl mk sg kln nl fl v x c) ([.ref kx, .int v, .int (nI x), .int (nI c)] : List Value).toArray ss 0 0 (va_A (w_X5_partsShown G kx kim kit kre ksh kwa kta tf rf kb ka kc kcn kl kn w h la af nc fc kv km kg vw vh sl mk sg kln nl fl) ss.heap.size)) (F0 mm 6 ls []) := by
    intro k
    induction k using Nat.strongRecOn with
    | _ k ih6 =>
    intro i sh mk3 sg3 vw3 vh3 sl3 ls H locs hm6 hi hsh hv3 hl hP hD hS
    refine lv_iload hx hb dX5_partsShown_6 (lv_at hl 5 rfl) ?_
    refine lv_aload_n hx hb dX5_partsShown_8 rfl (lv_at hl 0 rfl) ?_
    refine va_get (D := G.1) (ci := 5) (v := .ref kb) (C := RX5) (T := TX5) (N := 10) hx hb hts hin5 hown hK.1 hP 9 rfl rfl 0 (by decide) (hts (.fieldLink RX5 10 "BackLenses" "book" "LBackLenses$Book;") (List.mem_of_getElem? (i := 1) rfl)) (fun _ h9 => h9) rfl dX5_partsShown_9 ?_
    refine va_getN (D := G.1) (ci := 0) (v := .ref kl) (C := RX0) (T := TX0) (N := 7) hx hb hts hin0 hown hK.1 hP 1 rfl rfl 5 (by decide) (va_Nw.use rfl (hK.2 (Cond.fieldLinkNest "BackLenses" (102 : Nat) "BackLenses$Book" "lenses" "LBackLenses$Rows;" "BackLenses") (List.mem_of_getElem? (i := 20) rfl))) (fun _ h9 => h9) rfl dX5_partsShown_12 ?_
    refine va_getN (D := G.1) (ci := 2) (v := .int (nI nl)) (C := RX2) (T := TX2) (N := 3) hx hb hts hin2 hown hK.1 hP 5 rfl rfl 2 (by decide) (va_Nw.use rfl (hK.2 (Cond.fieldLinkNest "BackLenses" (97 : Nat) "BackLenses$Rows" "size" "I" "BackLenses") (List.mem_of_getElem? (i := 3) rfl))) (fun _ h9 => h9) rfl dX5_partsShown_15 ?_
    refine xn_icmp_ge (tgt := 43) hx hb (by omega) (by omega) dX5_partsShown_18 rfl (fun b18 => ?_) (fun b18 => ?_)
    · skip
      have hcl := cntF_le (fun l => bitB (shS w h af nc fc fl l x) c) nl
      obtain rfl : nl = i := (by omega)
      obtain rfl := hsh
      refine lv_lconst (v := lN 1) hx hb dX5_partsShown_43 (by decide) ?_
      refine lv_lstore (lv' := [(5, .long (lN 1)), (0, .ref kx), (1, .int v), (2, .int (nI x)), (3, .int (nI c)), (4, .int (nI (cntF (fun l => bitB (shS w h af nc fc fl l x) c) nl)))]) hx hb dX5_partsShown_44 hl (by decide) rfl (fun ls hl => ?_)
      refine lv_iconst (v := nI 0) hx hb dX5_partsShown_46 (by decide) ?_
      refine lv_istore (lv' := [(7, .int (nI 0)), (5, .long (lN 1)), (0, .ref kx), (1, .int v), (2, .int (nI x)), (3, .int (nI c)), (4, .int (nI (cntF (fun l => bitB (shS w h af nc fc fl l x) c) nl)))]) hx hb dX5_partsShown_47 hl (by decide) rfl (fun ls hl => ?_)
      have hL49 : ∀ k : Nat, ∀ (j : Nat) (pr : Int64) (ls : Array Slot) (H : Heap) (locs : List Loc), 6 - j = k → (j ≤ 6) → (pr = abF v (cntF (fun l => bitB (shS w h af nc fc fl l x) c) nl) j) → lv_has ls 8 [(0, .ref kx), (1, .int v), (2, .int (nI x)), (3, .int (nI c)), (4, .int (nI (cntF (fun l => bitB (shS w h af nc fc fl l x) c) nl))), (5, .long pr), (7, .int (nI j))] → xP G [iA G ka 16 af, oC kb 0 [.int (nI w), .int (nI h), .int (nI la), .ref ka, .ref kc, .ref kl, .ref kn], oC kc 2 [.ref kcn, .int (nI 10), .int (nI nc)], iA G kcn (3 * 10) fc, iA G kg 160 sg3, oC kl 2 [.ref kln, .int (nI 6), .int (nI nl)], iA G kln (3 * 6) fl, iA G km 176 mk3, oC kv 4 [.ref km, .ref kg, .int (nI vw3), .int (nI vh3), .int sl3], oC kx 5 [.ref kb, .ref kim, .ref kit, .ref kv, .ref kre, .int tf, .ref ksh, .int rf, .ref kwa, .ref kta]] H → va_D (va_A (w_X5_partsShown G kx kim kit kre ksh kwa kta tf rf kb ka kc kcn kl kn w h la af nc fc kv km kg vw vh sl mk sg kln nl fl) ss.heap.size) [iA G ka 16 af, oC kb 0 [.int (nI w), .int (nI h), .int (nI la), .ref ka, .ref kc, .ref kl, .ref kn], oC kc 2 [.ref kcn, .int (nI 10), .int (nI nc)], iA G kcn (3 * 10) fc, iA G kg 160 sg3, oC kl 2 [.ref kln, .int (nI 6), .int (nI nl)], iA G kln (3 * 6) fl, iA G km 176 mk3, oC kv 4 [.ref km, .ref kg, .int (nI vw3), .int (nI vh3), .int sl3], oC kx 5 [.ref kb, .ref kim, .ref kit, .ref kv, .ref kre, .int tf, .ref ksh, .int rf, .ref kwa, .ref kta]] → va_S (va_A (w_X5_partsShown G kx kim kit kre ksh kwa kta tf rf kb ka kc kcn kl kn w h la af nc fc kv km kg vw vh sl mk sg kln nl fl) ss.heap.size) ss.heap H locs → W pp l ee ({ frames := 5, cells := 0, slots := 0, locals := 118 } : Room) ss mm ([.ref kx, .int v, .int (nI x), .int (nI c)] : List Value).toArray below mt cd H locs 0 0 (MQ below (Q_X5_partsShown G ss.heap.size kx kim kit kre ksh kwa kta tf rf kb ka kc kcn kl kn w h la af nc fc kv km kg vw vh sl mk sg kln nl fl v x c) ([.ref kx, .int v, .int (nI x), .int (nI c)] : List Value).toArray ss 0 0 (va_A (w_X5_partsShown G kx kim kit kre ksh kwa kta tf rf kb ka kc kcn kl kn w h la af nc fc kv km kg vw vh sl mk sg kln nl fl) ss.heap.size)) (F0 mm 49 ls []) := by
        intro k
        induction k using Nat.strongRecOn with
        | _ k ih49 =>
        intro j pr ls H locs hm49 hj hpr hl hP hD hS
        refine lv_iload hx hb dX5_partsShown_49 (lv_at hl 6 rfl) ?_
        refine lv_bipush (v := nI 6) hx hb dX5_partsShown_51 (by decide) ?_
        refine xn_icmp_ge (tgt := 82) hx hb (by omega) (by omega) dX5_partsShown_53 rfl (fun b53 => ?_) (fun b53 => ?_)
        · skip
          refine lv_ldc2 (v := lN 1000000) hx hb hown (hts (.constantLong RX5 196 (lN 1000000)) (List.mem_of_getElem? (i := 3) rfl)) dX5_partsShown_82 ?_
          refine lv_lload hx hb dX5_partsShown_85 (lv_at hl 5 rfl) ?_
          refine lv_lsub hx hb dX5_partsShown_87 ?_
          have hP := hP.sub (ws' := [oC kx 5 [.ref kb, .ref kim, .ref kit, .ref kv, .ref kre, .int tf, .ref ksh, .int rf, .ref kwa, .ref kta], oC kb 0 [.int (nI w), .int (nI h), .int (nI la), .ref ka, .ref kc, .ref kl, .ref kn], iA G ka 16 af, oC kc 2 [.ref kcn, .int (nI 10), .int (nI nc)], iA G kcn (3 * 10) fc, oC kv 4 [.ref km, .ref kg, .int (nI vw3), .int (nI vh3), .int sl3], iA G km 176 mk3, iA G kg 160 sg3, oC kl 2 [.ref kln, .int (nI 6), .int (nI nl)], iA G kln (3 * 6) fl]) [9, 1, 0, 2, 3, 8, 7, 4, 5, 6] rfl
          have hD := hD.sub (ws' := [oC kx 5 [.ref kb, .ref kim, .ref kit, .ref kv, .ref kre, .int tf, .ref ksh, .int rf, .ref kwa, .ref kta], oC kb 0 [.int (nI w), .int (nI h), .int (nI la), .ref ka, .ref kc, .ref kl, .ref kn], iA G ka 16 af, oC kc 2 [.ref kcn, .int (nI 10), .int (nI nc)], iA G kcn (3 * 10) fc, oC kv 4 [.ref km, .ref kg, .int (nI vw3), .int (nI vh3), .int sl3], iA G km 176 mk3, iA G kg 160 sg3, oC kl 2 [.ref kln, .int (nI 6), .int (nI nl)], iA G kln (3 * 6) fl]) [9, 1, 0, 2, 3, 8, 7, 4, 5, 6] (by decide) rfl
          refine W.lret (v := (lN 1000000) - pr) hx hb hr (fun t ht hW => ⟨⟨(lN 1000000) - pr, (mk3, sg3, vw3, vh3, sl3), rfl, ?_, by rw [ht]; exact hP, hD⟩, hS.F ht⟩) hS.2.2 dX5_partsShown_88
          try dsimp only
          exact ⟨by rw [hpr, show j = 6 by omega], hv3⟩
        · skip
          refine lv_lload hx hb dX5_partsShown_56 (lv_at hl 5 rfl) ?_
          refine lv_iload hx hb dX5_partsShown_58 (lv_at hl 6 rfl) ?_
          refine lv_iload hx hb dX5_partsShown_60 (lv_at hl 4 rfl) ?_
          refine xn_icmp_ge (tgt := 70) hx hb (by omega) (by omega) dX5_partsShown_62 rfl (fun b62 => ?_) (fun b62 => ?_)
          · skip
            refine lv_ldc2 (v := lN 10) hx hb hown (hts (.constantLong RX5 275 (lN 10)) (List.mem_of_getElem? (i := 2) rfl)) dX5_partsShown_70 ?_
            refine lv_lmul hx hb dX5_partsShown_73 ?_
            refine lv_lstore (lv' := [(5, .long (pr * (lN 10))), (0, .ref kx), (1, .int v), (2, .int (nI x)), (3, .int (nI c)), (4, .int (nI (cntF (fun l => bitB (shS w h af nc fc fl l x) c) nl))), (7, .int (nI j))]) hx hb dX5_partsShown_74 hl (by decide) rfl (fun ls hl => ?_)
            refine lv_iinc (k := 6) (v := nI (j + 1)) (lv' := [(7, .int (nI (j + 1))), (5, .long (pr * (lN 10))), (0, .ref kx), (1, .int v), (2, .int (nI x)), (3, .int (nI c)), (4, .int (nI (cntF (fun l => bitB (shS w h af nc fc fl l x) c) nl)))]) hx hb dX5_partsShown_76 hl rfl (xn_inc j 1) (by decide) rfl (fun ls hl => ?_)
            refine lv_goto (tgt := 49) hx hb dX5_partsShown_79 rfl ?_
            have hl := lv_sub hl (l' := [(0, .ref kx), (1, .int v), (2, .int (nI x)), (3, .int (nI c)), (4, .int (nI (cntF (fun l => bitB (shS w h af nc fc fl l x) c) nl))), (5, .long (pr * (lN 10))), (7, .int (nI (j + 1)))]) [2, 3, 4, 5, 6, 1, 0] rfl
            exact ih49 (6 - (j + 1)) (by omega) (j + 1) (pr * (lN 10)) ls H locs rfl (by omega) (by first | rw [hpr, abF, if_pos (by omega)] | rw [hpr, abF, if_neg (by omega)]) hl hP hD hS
          · skip
            refine lv_iload_n hx hb dX5_partsShown_65 rfl (lv_at hl 1 rfl) ?_
            refine xi_i2l hx hb dX5_partsShown_66 ?_
            refine lv_goto (tgt := 73) hx hb dX5_partsShown_67 rfl ?_
            refine lv_lmul hx hb dX5_partsShown_73 ?_
            refine lv_lstore (lv' := [(5, .long (pr * v.toInt64)), (0, .ref kx), (1, .int v), (2, .int (nI x)), (3, .int (nI c)), (4, .int (nI (cntF (fun l => bitB (shS w h af nc fc fl l x) c) nl))), (7, .int (nI j))]) hx hb dX5_partsShown_74 hl (by decide) rfl (fun ls hl => ?_)
            refine lv_iinc (k := 6) (v := nI (j + 1)) (lv' := [(7, .int (nI (j + 1))), (5, .long (pr * v.toInt64)), (0, .ref kx), (1, .int v), (2, .int (nI x)), (3, .int (nI c)), (4, .int (nI (cntF (fun l => bitB (shS w h af nc fc fl l x) c) nl)))]) hx hb dX5_partsShown_76 hl rfl (xn_inc j 1) (by decide) rfl (fun ls hl => ?_)
            refine lv_goto (tgt := 49) hx hb dX5_partsShown_79 rfl ?_
            have hl := lv_sub hl (l' := [(0, .ref kx), (1, .int v), (2, .int (nI x)), (3, .int (nI c)), (4, .int (nI (cntF (fun l => bitB (shS w h af nc fc fl l x) c) nl))), (5, .long (pr * v.toInt64)), (7, .int (nI (j + 1)))]) [2, 3, 4, 5, 6, 1, 0] rfl
            exact ih49 (6 - (j + 1)) (by omega) (j + 1) (pr * v.toInt64) ls H locs rfl (by omega) (by first | rw [hpr, abF, if_pos (by omega)] | rw [hpr, abF, if_neg (by omega)]) hl hP hD hS
      have hl := lv_sub hl (l' := [(0, .ref kx), (1, .int v), (2, .int (nI x)), (3, .int (nI c)), (4, .int (nI (cntF (fun l => bitB (shS w h af nc fc fl l x) c) nl))), (5, .long (lN 1)), (7, .int (nI 0))]) [2, 3, 4, 5, 6, 1, 0] rfl
      exact hL49 (6 - 0) 0 (lN 1) ls H locs rfl (by omega) (by rfl) hl hP hD hS
    · skip
      refine lv_iload hx hb dX5_partsShown_21 (lv_at hl 4 rfl) ?_
      refine lv_aload_n hx hb dX5_partsShown_23 rfl (lv_at hl 0 rfl) ?_
      refine lv_iload hx hb dX5_partsShown_24 (lv_at hl 5 rfl) ?_
      refine lv_iload_n hx hb dX5_partsShown_26 rfl (lv_at hl 2 rfl) ?_
      refine xw_i (As := [.int (nI i), .int (nI x)]) (rest := [.int sh]) (wr := []) ⟨hx, hb, hml, hown, hts⟩ (c_X5_shownBy l G H.size kx kim kit kre ksh kwa kta tf rf kb ka kc kcn kl kn w h la af nc fc kv km kg vw3 vh3 sl3 mk3 sg3 kln nl fl i x (by first | assumption | omega) (by first | assumption | omega) (by first | assumption | omega) (by first | assumption | omega) (by first | assumption | omega) (by first | assumption | omega) (by first | assumption | omega) (by first | assumption | omega) (by first | assumption | omega) (by first | assumption | omega) (by first | assumption | omega) (by first | assumption | omega)) (cwV 2 hts gX5_partsShown_X5_shownBy rfl rfl rfl (by decide +kernel) ⟨Nat.le_of_ble_eq_true rfl, Nat.le_of_ble_eq_true rfl⟩) hK hP hD hS hA [9, 1, 0, 2, 3, 8, 7, 4, 5, 6] [] rfl rfl (by decide) (by decide) (by decide) rfl rfl rfl hl.1 rfl (Nat.le_of_ble_eq_true rfl) dX5_partsShown_27 ⟨Nat.le_of_ble_eq_true rfl, Nat.le_of_ble_eq_true rfl⟩ (fun r27 u H locs hp27 hP hD hS => ?_)
      obtain ⟨mk2_27, sg2_27, vw2_27, vh2_27, sl2_27⟩ := u
      try dsimp only at hp27 hP hD
      obtain ⟨rfl, he27⟩ := hp27
      replace hP : xP G [oC kx 5 [.ref kb, .ref kim, .ref kit, .ref kv, .ref kre, .int tf, .ref ksh, .int rf, .ref kwa, .ref kta], oC kb 0 [.int (nI w), .int (nI h), .int (nI la), .ref ka, .ref kc, .ref kl, .ref kn], iA G ka 16 af, oC kc 2 [.ref kcn, .int (nI 10), .int (nI nc)], iA G kcn (3 * 10) fc, oC kv 4 [.ref km, .ref kg, .int (nI vw2_27), .int (nI vh2_27), .int sl2_27], iA G km 176 mk2_27, iA G kg 160 sg2_27, oC kl 2 [.ref kln, .int (nI 6), .int (nI nl)], iA G kln (3 * 6) fl] H := hP
      replace hD : va_D (va_A (w_X5_partsShown G kx kim kit kre ksh kwa kta tf rf kb ka kc kcn kl kn w h la af nc fc kv km kg vw vh sl mk sg kln nl fl) ss.heap.size) [oC kx 5 [.ref kb, .ref kim, .ref kit, .ref kv, .ref kre, .int tf, .ref ksh, .int rf, .ref kwa, .ref kta], oC kb 0 [.int (nI w), .int (nI h), .int (nI la), .ref ka, .ref kc, .ref kl, .ref kn], iA G ka 16 af, oC kc 2 [.ref kcn, .int (nI 10), .int (nI nc)], iA G kcn (3 * 10) fc, oC kv 4 [.ref km, .ref kg, .int (nI vw2_27), .int (nI vh2_27), .int sl2_27], iA G km 176 mk2_27, iA G kg 160 sg2_27, oC kl 2 [.ref kln, .int (nI 6), .int (nI nl)], iA G kln (3 * 6) fl] := hD
      refine lv_iload_n hx hb dX5_partsShown_30 rfl (lv_at hl 3 rfl) ?_
      refine lv_ishr hx hb dX5_partsShown_31 ?_
      refine lv_iconst (v := nI 1) hx hb dX5_partsShown_32 (by decide) ?_
      refine lv_iand hx hb dX5_partsShown_33 ?_
      refine lv_iadd hx hb dX5_partsShown_34 ?_
      refine lv_istore (lv' := [(4, .int (sh + (((shS w h af nc fc fl i x) >>> ((nI c) &&& 31)) &&& (nI 1)))), (0, .ref kx), (1, .int v), (2, .int (nI x)), (3, .int (nI c)), (5, .int (nI i))]) hx hb dX5_partsShown_35 hl (by decide) rfl (fun ls hl => ?_)
      refine lv_iinc (k := 5) (v := nI (i + 1)) (lv' := [(5, .int (nI (i + 1))), (4, .int (sh + (((shS w h af nc fc fl i x) >>> ((nI c) &&& 31)) &&& (nI 1)))), (0, .ref kx), (1, .int v), (2, .int (nI x)), (3, .int (nI c))]) hx hb dX5_partsShown_37 hl rfl (xn_inc i 1) (by decide) rfl (fun ls hl => ?_)
      refine lv_goto (tgt := 6) hx hb dX5_partsShown_40 rfl ?_
      have hl := lv_sub hl (l' := [(0, .ref kx), (1, .int v), (2, .int (nI x)), (3, .int (nI c)), (4, .int (sh + (((shS w h af nc fc fl i x) >>> ((nI c) &&& 31)) &&& (nI 1)))), (5, .int (nI (i + 1)))]) [2, 3, 4, 5, 1, 0] rfl
      have hP := hP.sub (ws' := [iA G ka 16 af, oC kb 0 [.int (nI w), .int (nI h), .int (nI la), .ref ka, .ref kc, .ref kl, .ref kn], oC kc 2 [.ref kcn, .int (nI 10), .int (nI nc)], iA G kcn (3 * 10) fc, iA G kg 160 sg2_27, oC kl 2 [.ref kln, .int (nI 6), .int (nI nl)], iA G kln (3 * 6) fl, iA G km 176 mk2_27, oC kv 4 [.ref km, .ref kg, .int (nI vw2_27), .int (nI vh2_27), .int sl2_27], oC kx 5 [.ref kb, .ref kim, .ref kit, .ref kv, .ref kre, .int tf, .ref ksh, .int rf, .ref kwa, .ref kta]]) [2, 1, 3, 4, 7, 8, 9, 6, 5, 0] rfl
      have hD := hD.sub (ws' := [iA G ka 16 af, oC kb 0 [.int (nI w), .int (nI h), .int (nI la), .ref ka, .ref kc, .ref kl, .ref kn], oC kc 2 [.ref kcn, .int (nI 10), .int (nI nc)], iA G kcn (3 * 10) fc, iA G kg 160 sg2_27, oC kl 2 [.ref kln, .int (nI 6), .int (nI nl)], iA G kln (3 * 6) fl, iA G km 176 mk2_27, oC kv 4 [.ref km, .ref kg, .int (nI vw2_27), .int (nI vh2_27), .int sl2_27], oC kx 5 [.ref kb, .ref kim, .ref kit, .ref kv, .ref kre, .int tf, .ref ksh, .int rf, .ref kwa, .ref kta]]) [2, 1, 3, 4, 7, 8, 9, 6, 5, 0] (by decide) rfl
      exact ih6 (nl - (i + 1)) (by omega) (i + 1) (sh + (((shS w h af nc fc fl i x) >>> ((nI c) &&& 31)) &&& (nI 1))) mk2_27 sg2_27 vw2_27 vh2_27 sl2_27 ls H locs rfl (by omega) (by rw [hsh]; exact cnt_and rfl) (by assumption) hl hP hD hS
  have hl := lv_sub hl (l' := [(0, .ref kx), (1, .int v), (2, .int (nI x)), (3, .int (nI c)), (4, .int (nI 0)), (5, .int (nI 0))]) [2, 3, 4, 5, 1, 0] rfl
  have hP := hP.sub (ws' := [iA G ka 16 af, oC kb 0 [.int (nI w), .int (nI h), .int (nI la), .ref ka, .ref kc, .ref kl, .ref kn], oC kc 2 [.ref kcn, .int (nI 10), .int (nI nc)], iA G kcn (3 * 10) fc, iA G kg 160 sg, oC kl 2 [.ref kln, .int (nI 6), .int (nI nl)], iA G kln (3 * 6) fl, iA G km 176 mk, oC kv 4 [.ref km, .ref kg, .int (nI vw), .int (nI vh), .int sl], oC kx 5 [.ref kb, .ref kim, .ref kit, .ref kv, .ref kre, .int tf, .ref ksh, .int rf, .ref kwa, .ref kta]]) [2, 1, 3, 4, 7, 8, 9, 6, 5, 0] rfl
  have hD := hD.sub (ws' := [iA G ka 16 af, oC kb 0 [.int (nI w), .int (nI h), .int (nI la), .ref ka, .ref kc, .ref kl, .ref kn], oC kc 2 [.ref kcn, .int (nI 10), .int (nI nc)], iA G kcn (3 * 10) fc, iA G kg 160 sg, oC kl 2 [.ref kln, .int (nI 6), .int (nI nl)], iA G kln (3 * 6) fl, iA G km 176 mk, oC kv 4 [.ref km, .ref kg, .int (nI vw), .int (nI vh), .int sl], oC kx 5 [.ref kb, .ref kim, .ref kit, .ref kv, .ref kre, .int tf, .ref ksh, .int rf, .ref kwa, .ref kta]]) [2, 1, 3, 4, 7, 8, 9, 6, 5, 0] (by decide) rfl
  exact hL6 (nl - 0) 0 (nI 0) mk sg vw vh sl ls ss.heap [] rfl (by omega) (by rfl) (by assumption) hl hP hD hS
end
section
def suL (f : Nat → Int64) : Nat → Int64
  | 0 => lN 0
  | i + 1 => suL f i + f i
theorem ans_in {w h : Nat} {af : Nat → Int32} {nc : Nat} {fc : Nat → Int32} {x c d : Nat} (hm : inR (mkS af nc fc c d) 6) (h0 : ¬ anS w h af nc fc x c d = (-4)) : inR (anS w h af nc fc x c d) 6 := by
  unfold anS at h0 ⊢
  split
  · rename_i q; rw [if_pos q] at h0; exact absurd rfl h0
  · exact hm
section Wo
variable {sl : Nat → Nat} {fb : Nat → Bool} {d : Nat}
theorem woF_skip {wo : Nat} (h : fb d = false) (hw : wo = woF sl fb d) : wo = woF sl fb (d + 1) := by
  rw [woF, if_neg (by rw [h]; decide)]; exact hw
theorem tlF_skip {v : Int32} {k : Nat} (h : fb d = false) (hv : v = nI (tlF sl fb d k)) : v = nI (tlF sl fb (d + 1) k) := by
  rw [tlF, if_neg (fun q => by rw [h] at q; exact absurd q.1 (by decide))]; exact hv
theorem tl_step {ty : Nat → Int32} {sk k : Nat} (hfb : fb d = true) (hsk : sk = sl d) (h : ∀ k, k < 7 → ty k = nI (tlF sl fb d k)) (hk : k < 7) : upd ty sk (ty sk + nI 1) k = nI (tlF sl fb (d + 1) k) := by
  unfold upd
  rw [tlF]
  by_cases hq : k = sk
  · subst hq
    rw [if_pos rfl, if_pos ⟨hfb, hsk⟩, h _ hk, nI_add]
  · rw [if_neg hq, if_neg (fun q => hq (q.2.trans hsk.symm))]
    exact h k hk
theorem wo_max {ty : Nat → Int32} {sk wo : Nat} (hfb : fb d = true) (hsk : sk = sl d) (hwo : wo = woF sl fb d) (ht : ty sk = nI (tlF sl fb d sk)) (hd : d ≤ 10) : (if nI wo < upd ty sk (ty sk + nI 1) sk then upd ty sk (ty sk + nI 1) sk else nI wo) = nI (woF sl fb (d + 1)) := by
  have hw1 := woF_le sl fb d
  have hw2 := tlF_le sl fb d sk
  rw [woF, if_pos hfb, ← hsk, show upd ty sk (ty sk + nI 1) sk = nI (tlF sl fb d sk + 1) from (by unfold upd; rw [if_pos rfl, ht, nI_add]), ← hwo]
  by_cases hq : wo < tlF sl fb d sk + 1
  · rw [if_pos hq, if_pos ((nI_ltI (by omega) (by omega)).mpr hq)]
  · rw [if_neg hq, if_neg (fun q => hq ((nI_ltI (by omega) (by omega)).mp q))]
end Wo
end

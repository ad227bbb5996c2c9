abbrev w_X6_byteAt (G : XG) (ko : Nat) (ad : Nat → Nat) (w h la tp : Nat) (dw dh dl : Nat) (tl tc hc hd : Int32) (ps fr so : Nat) (vl : Int32) (ft : Nat) (wa tr : Int32) (tb : Nat → Int32) : va_W := [oC ko 6 [.ref (ad 0), .ref (ad 1), .int (nI w), .int (nI h), .int (nI la), .ref (ad 2), .int (nI dw), .int (nI dh), .int (nI dl), .int tl, .int tc, .int hc, .int hd, .ref (ad 3), .int (nI tp), .int (nI ps), .int (nI fr), .int (nI so), .int vl, .int (nI ft), .int wa, .ref (ad 4), .ref (ad 5), .ref (ad 6), .ref (ad 7), .ref (ad 8), .ref (ad 9), .ref (ad 10), .int tr], iA G (ad 3) 160 tb]
abbrev Q_X6_byteAt (G : XG) (ko : Nat) (ad : Nat → Nat) (w h la tp : Nat) (dw dh dl : Nat) (tl tc hc hd : Int32) (ps fr so : Nat) (vl : Int32) (ft : Nat) (wa tr : Int32) (tb : Nat → Int32) (p : Nat) : Array Value → State → Outcome → State → Prop := (xRi (fun r => r = byF tb tp p))
set_option maxHeartbeats 4000000 in
set_option maxRecDepth 100000 in
theorem c_X6_byteAt (l : Launch) (G : XG) (ko : Nat) (ad : Nat → Nat) (w h la tp : Nat) (dw dh dl : Nat) (tl tc hc hd : Int32) (ps fr so : Nat) (vl : Int32) (ft : Nat) (wa tr : Int32) (tb : Nat → Int32) (p : Nat) (htp : tp ≤ 160) (hp : p < 1000) : Met l yX6_byteAt wsX6_byteAt ({ frames := 0, cells := 0, slots := 0, locals := 0 } : Room) (va_Pc [.ref ko, .int (nI p)] (xRp G (w_X6_byteAt G ko ad w h la tp dw dh dl tl tc hc hd ps fr so vl ft wa tr tb))) (Q_X6_byteAt G ko ad w h la tp dw dh dl tl tc hc hd ps fr so vl ft wa tr tb p) 0 0 (fun _ => False) := by
  refine Met.ofW (cc := cX6_byteAt) (maxL := 2) (ret := (some .int)) (by decide) rfl ?_
  intro pp ee ss mm aa below mt cd s₁ BB hml hv
  obtain ⟨rfl, hP, hK⟩ := hv
  have hx := BB.exec
  have hb := BB.bytes
  have hr := BB.returns
  have hts := atoms_spec (ws := wsX6_byteAt) BB.pre
  have hown : ss.vm.findClass RX6 = some mm.cls := findClass_of_methodNamed BB.named
  have hlocks := BB.notSynchronized
  have hS : va_S (fun _ => False) ss.heap ss.heap [] := va_S.rf
  replace hP : xP G [oC ko 6 [.ref (ad 0), .ref (ad 1), .int (nI w), .int (nI h), .int (nI la), .ref (ad 2), .int (nI dw), .int (nI dh), .int (nI dl), .int tl, .int tc, .int hc, .int hd, .ref (ad 3), .int (nI tp), .int (nI ps), .int (nI fr), .int (nI so), .int vl, .int (nI ft), .int wa, .ref (ad 4), .ref (ad 5), .ref (ad 6), .ref (ad 7), .ref (ad 8), .ref (ad 9), .ref (ad 10), .int tr], iA G (ad 3) 160 tb] ss.heap := hP
  have hin6 : ∀ w ∈ u_ws RX6 TX6 29, w ∈ wsX6_byteAt := fun w h => List.mem_cons_of_mem _ (List.mem_append_right _ h)
  have hl := lv_entry ([.ref ko, .int (nI p)]) (n := 2) (Nat.le_of_ble_eq_true rfl)
  rw [lg_entry_eq]
  generalize (lg_sl ([.ref ko, .int (nI p)]) ++ List.replicate (2 - (lg_sl ([.ref ko, .int (nI p)])).length) Slot.unset).toArray = ls at hl ⊢
  replace hl : lv_has ls 2 [(0, .ref ko), (1, .int (nI p))] := hl
  refine lv_iload_n hx hb dX6_byteAt_0 rfl (lv_at hl 1 rfl) ?_
  refine lv_aload_n hx hb dX6_byteAt_1 rfl (lv_at hl 0 rfl) ?_
  refine va_get (D := G.1) (ci := 6) (v := .int (nI tp)) (C := RX6) (T := TX6) (N := 29) hx hb hts hin6 hown hK.1 hP 0 rfl rfl 14 (by decide) (hts (.fieldLink RX6 87 "BackLensesModel" "taped" "I") (List.mem_of_getElem? (i := 1) rfl)) (fun _ h9 => h9) rfl dX6_byteAt_2 ?_
  refine xn_icmp_ge (tgt := 17) hx hb (by omega) (by omega) dX6_byteAt_5 rfl (fun b5 => ?_) (fun b5 => ?_)
  · skip
    refine lv_iconst (v := (-1)) hx hb dX6_byteAt_17 (by decide) ?_
    refine W.iret (v := (-1)) hx hb hr (fun t ht hW => ⟨⟨(-1), (), rfl, ?_, trivial⟩, hS.F ht⟩) hS.2.2 dX6_byteAt_18
    first | exact (if_pos (Nat.lt_of_not_le b5)).symm | exact (if_neg (Nat.not_lt_of_le b5)).symm
  · skip
    refine lv_aload_n hx hb dX6_byteAt_8 rfl (lv_at hl 0 rfl) ?_
    refine va_get (D := G.1) (ci := 6) (v := .ref (ad 3)) (C := RX6) (T := TX6) (N := 29) hx hb hts hin6 hown hK.1 hP 0 rfl rfl 13 (by decide) (hts (.fieldLink RX6 20 "BackLensesModel" "tape" "[I") (List.mem_of_getElem? (i := 2) rfl)) (fun _ h9 => h9) rfl dX6_byteAt_9 ?_
    refine lv_iload_n hx hb dX6_byteAt_12 rfl (lv_at hl 1 rfl) ?_
    refine xn_iald hx hb hK hP 1 rfl (by omega) (by omega) dX6_byteAt_13 ?_
    refine lv_goto (tgt := 18) hx hb dX6_byteAt_14 rfl ?_
    refine W.iret (v := tb p) hx hb hr (fun t ht hW => ⟨⟨tb p, (), rfl, ?_, trivial⟩, hS.F ht⟩) hS.2.2 dX6_byteAt_18
    first | exact (if_pos (Nat.lt_of_not_le b5)).symm | exact (if_neg (Nat.not_lt_of_le b5)).symm

abbrev Q_X6_in_b (G : XG) (x : Int32) (lo hi : Nat) : Array Value → State → Outcome → State → Prop := (xRi (fun r => r = xb ((lo : Int) ≤ x.toInt ∧ x.toInt ≤ (hi : Int))))
set_option maxHeartbeats 4000000 in
set_option maxRecDepth 100000 in
theorem c_X6_in_b (l : Launch) (G : XG) (x : Int32) (lo hi : Nat) (hlo : lo < 1000000) (hhi : hi < 1000000) : Met l yX6_in wsX6_in ({ frames := 0, cells := 0, slots := 0, locals := 0 } : Room) (va_Pc [.long x.toInt64, .long (lN lo), .long (lN hi)] (fun _ => True)) (Q_X6_in_b G x lo hi) 0 0 (fun _ => False) := by
  refine Met.ofW (cc := cX6_in) (maxL := 6) (ret := (some .boolean)) (by decide) rfl ?_
  intro pp ee ss mm aa below mt cd s₁ BB hml hv
  obtain ⟨rfl, -⟩ := hv
  have hx := BB.exec
  have hb := BB.bytes
  have hr := BB.returns
  have hts := atoms_spec (ws := wsX6_in) BB.pre
  have hown : ss.vm.findClass RX6 = some mm.cls := findClass_of_methodNamed BB.named
  have hlocks := BB.notSynchronized
  have hS : va_S (fun _ => False) ss.heap ss.heap [] := va_S.rf
  have hP : xP (G) [] ss.heap := fun k q h => by cases h
  have hl := lv_entry ([.long x.toInt64, .long (lN lo), .long (lN hi)]) (n := 6) (Nat.le_of_ble_eq_true rfl)
  rw [lg_entry_eq]
  generalize (lg_sl ([.long x.toInt64, .long (lN lo), .long (lN hi)]) ++ List.replicate (6 - (lg_sl ([.long x.toInt64, .long (lN lo), .long (lN hi)])).length) Slot.unset).toArray = ls at hl ⊢
  replace hl : lv_has ls 6 [(0, .long x.toInt64), (2, .long (lN lo)), (4, .long (lN hi))] := hl
  have h0 : (lN lo).toInt = (lo : Int) := (lN_toInt' (by omega))
  have h1 : (lN hi).toInt = (hi : Int) := (lN_toInt' (by omega))
  refine lv_lload_n hx hb dX6_in_0 rfl (lv_at hl 0 rfl) ?_
  refine lv_lload_n hx hb dX6_in_1 rfl (lv_at hl 1 rfl) ?_
  refine W.lcmp hx hb dX6_in_2 ?_
  refine xl_if_lt (tgt := 17) hx hb dX6_in_3 rfl (fun b3 => ?_) (fun b3 => ?_)
  · skip
    refine lv_iconst (v := nI 0) hx hb dX6_in_17 (by decide) ?_
    refine W.zret (v := nI 0) (ty := .boolean) hx hb hr (by decide) (fun t ht hW => ⟨⟨nI 0, (), rfl, ?_, trivial⟩, hS.F ht⟩) hS.2.2 dX6_in_18
    first | exact (xb_t (by simp only [i64_toInt] at *; omega)).symm | exact (xb_f (fun q => by simp only [i64_toInt] at *; omega)).symm
  · skip
    refine lv_lload_n hx hb dX6_in_6 rfl (lv_at hl 0 rfl) ?_
    refine lv_lload hx hb dX6_in_7 (lv_at hl 2 rfl) ?_
    refine W.lcmp hx hb dX6_in_9 ?_
    refine xl_if_gt (tgt := 17) hx hb dX6_in_10 rfl (fun b10 => ?_) (fun b10 => ?_)
    · skip
      refine lv_iconst (v := nI 0) hx hb dX6_in_17 (by decide) ?_
      refine W.zret (v := nI 0) (ty := .boolean) hx hb hr (by decide) (fun t ht hW => ⟨⟨nI 0, (), rfl, ?_, trivial⟩, hS.F ht⟩) hS.2.2 dX6_in_18
      first | exact (xb_t (by simp only [i64_toInt] at *; omega)).symm | exact (xb_f (fun q => by simp only [i64_toInt] at *; omega)).symm
    · skip
      refine lv_iconst (v := nI 1) hx hb dX6_in_13 (by decide) ?_
      refine lv_goto (tgt := 18) hx hb dX6_in_14 rfl ?_
      refine W.zret (v := nI 1) (ty := .boolean) hx hb hr (by decide) (fun t ht hW => ⟨⟨nI 1, (), rfl, ?_, trivial⟩, hS.F ht⟩) hS.2.2 dX6_in_18
      first | exact (xb_t (by simp only [i64_toInt] at *; omega)).symm | exact (xb_f (fun q => by simp only [i64_toInt] at *; omega)).symm

abbrev w_X6_needs_1 (G : XG) (ko : Nat) (ad : Nat → Nat) (w h la tp : Nat) (dw dh dl : Nat) (tl tc hc hd : Int32) (ps fr so : Nat) (vl : Int32) (ft : Nat) (wa tr : Int32) : va_W := [oC ko 6 [.ref (ad 0), .ref (ad 1), .int (nI w), .int (nI h), .int (nI la), .ref (ad 2), .int (nI dw), .int (nI dh), .int (nI dl), .int tl, .int tc, .int hc, .int hd, .ref (ad 3), .int (nI tp), .int (nI ps), .int (nI fr), .int (nI so), .int vl, .int (nI ft), .int wa, .ref (ad 4), .ref (ad 5), .ref (ad 6), .ref (ad 7), .ref (ad 8), .ref (ad 9), .ref (ad 10), .int tr]]
abbrev Q_X6_needs_1 (G : XG) (sz : Nat) (ko : Nat) (ad : Nat → Nat) (w h la tp : Nat) (dw dh dl : Nat) (tl tc hc hd : Int32) (ps fr so : Nat) (vl : Int32) (ft : Nat) (wa tr : Int32) (cd9 : Nat) : Array Value → State → Outcome → State → Prop := (va_Qv (fun (u : Unit) => True) (xWb G sz (w_X6_needs_1 G ko ad w h la tp dw dh dl tl tc hc hd ps fr so vl ft wa tr) (fun u : Unit => [oC ko 6 [.ref (ad 0), .ref (ad 1), .int (nI w), .int (nI h), .int (nI la), .ref (ad 2), .int (nI dw), .int (nI dh), .int (nI dl), .int tl, .int tc, .int hc, .int hd, .ref (ad 3), .int (nI tp), .int (nI ps), .int (nI fr), .int (nI so), .int vl, .int (nI ft), .int wa, .ref (ad 4), .ref (ad 5), .ref (ad 6), .ref (ad 7), .ref (ad 8), .ref (ad 9), .ref (ad 10), .int tr]])) (va_A (w_X6_needs_1 G ko ad w h la tp dw dh dl tl tc hc hd ps fr so vl ft wa tr) sz))
set_option maxHeartbeats 4000000 in
set_option maxRecDepth 100000 in
theorem c_X6_needs_1 (l : Launch) (G : XG) (sz : Nat) (ko : Nat) (ad : Nat → Nat) (w h la tp : Nat) (dw dh dl : Nat) (tl tc hc hd : Int32) (ps fr so : Nat) (vl : Int32) (ft : Nat) (wa tr : Int32) (cd9 : Nat)  : Met l yX6_needs wsX6_needs ({ frames := 0, cells := 0, slots := 0, locals := 0 } : Room) (va_Pc [.ref ko, .int (nI 1), .int (nI cd9)] (xWp G sz (w_X6_needs_1 G ko ad w h la tp dw dh dl tl tc hc hd ps fr so vl ft wa tr))) (Q_X6_needs_1 G sz ko ad w h la tp dw dh dl tl tc hc hd ps fr so vl ft wa tr cd9) 0 0 (va_A (w_X6_needs_1 G ko ad w h la tp dw dh dl tl tc hc hd ps fr so vl ft wa tr) sz) := by
  refine Met.ofW (cc := cX6_needs) (maxL := 3) (ret := none) (by decide) rfl ?_
  intro pp ee ss mm aa below mt cd s₁ BB hml hv
  obtain ⟨rfl, hsz, hP, hK, hD0⟩ := hv
  have hx := BB.exec
  have hb := BB.bytes
  have hr := BB.returns
  have hts := atoms_spec (ws := wsX6_needs) BB.pre
  have hown : ss.vm.findClass RX6 = some mm.cls := findClass_of_methodNamed BB.named
  have hlocks := BB.notSynchronized
  subst hsz
  have hD := hD0.self (sz := ss.heap.size)
  have hA : ∀ q : Nat, ss.heap.size ≤ q → va_A (w_X6_needs_1 G ko ad w h la tp dw dh dl tl tc hc hd ps fr so vl ft wa tr) ss.heap.size q := fun q h => Or.inr h
  have hS : va_S (va_A (w_X6_needs_1 G ko ad w h la tp dw dh dl tl tc hc hd ps fr so vl ft wa tr) ss.heap.size) ss.heap ss.heap [] := va_S.rf
  replace hD : va_D (va_A (w_X6_needs_1 G ko ad w h la tp dw dh dl tl tc hc hd ps fr so vl ft wa tr) ss.heap.size) [oC ko 6 [.ref (ad 0), .ref (ad 1), .int (nI w), .int (nI h), .int (nI la), .ref (ad 2), .int (nI dw), .int (nI dh), .int (nI dl), .int tl, .int tc, .int hc, .int hd, .ref (ad 3), .int (nI tp), .int (nI ps), .int (nI fr), .int (nI so), .int vl, .int (nI ft), .int wa, .ref (ad 4), .ref (ad 5), .ref (ad 6), .ref (ad 7), .ref (ad 8), .ref (ad 9), .ref (ad 10), .int tr]] := hD
  replace hP : xP G [oC ko 6 [.ref (ad 0), .ref (ad 1), .int (nI w), .int (nI h), .int (nI la), .ref (ad 2), .int (nI dw), .int (nI dh), .int (nI dl), .int tl, .int tc, .int hc, .int hd, .ref (ad 3), .int (nI tp), .int (nI ps), .int (nI fr), .int (nI so), .int vl, .int (nI ft), .int wa, .ref (ad 4), .ref (ad 5), .ref (ad 6), .ref (ad 7), .ref (ad 8), .ref (ad 9), .ref (ad 10), .int tr]] ss.heap := hP
  have hin6 : ∀ w ∈ u_ws RX6 TX6 29, w ∈ wsX6_needs := fun w h => List.mem_cons_of_mem _ (List.mem_append_right _ h)
  have hl := lv_entry ([.ref ko, .int (nI 1), .int (nI cd9)]) (n := 3) (Nat.le_of_ble_eq_true rfl)
  rw [lg_entry_eq]
  generalize (lg_sl ([.ref ko, .int (nI 1), .int (nI cd9)]) ++ List.replicate (3 - (lg_sl ([.ref ko, .int (nI 1), .int (nI cd9)])).length) Slot.unset).toArray = ls at hl ⊢
  replace hl : lv_has ls 3 [(0, .ref ko), (1, .int (nI 1)), (2, .int (nI cd9))] := hl
  refine lv_iload_n hx hb dX6_needs_0 rfl (lv_at hl 1 rfl) ?_
  refine xn_if_ne (tgt := 24) hx hb (by omega) dX6_needs_1 rfl (fun _ => ?_) (fun b1 => absurd b1 (by omega))
  have hP := hP.sub (ws' := [oC ko 6 [.ref (ad 0), .ref (ad 1), .int (nI w), .int (nI h), .int (nI la), .ref (ad 2), .int (nI dw), .int (nI dh), .int (nI dl), .int tl, .int tc, .int hc, .int hd, .ref (ad 3), .int (nI tp), .int (nI ps), .int (nI fr), .int (nI so), .int vl, .int (nI ft), .int wa, .ref (ad 4), .ref (ad 5), .ref (ad 6), .ref (ad 7), .ref (ad 8), .ref (ad 9), .ref (ad 10), .int tr]]) [0] rfl
  have hD := hD.sub (ws' := [oC ko 6 [.ref (ad 0), .ref (ad 1), .int (nI w), .int (nI h), .int (nI la), .ref (ad 2), .int (nI dw), .int (nI dh), .int (nI dl), .int tl, .int tc, .int hc, .int hd, .ref (ad 3), .int (nI tp), .int (nI ps), .int (nI fr), .int (nI so), .int vl, .int (nI ft), .int wa, .ref (ad 4), .ref (ad 5), .ref (ad 6), .ref (ad 7), .ref (ad 8), .ref (ad 9), .ref (ad 10), .int tr]]) [0] (by decide) rfl
  refine W.vret hx hb hr (fun t ht hW => ⟨⟨(), rfl, ?_, by rw [ht]; exact hP, hD⟩, hS.F ht⟩) hS.2.2 dX6_needs_24
  trivial

abbrev w_X6_needs_0 (G : XG) (ko : Nat) (ad : Nat → Nat) (w h la tp : Nat) (dw dh dl : Nat) (tl tc hc hd : Int32) (ps fr so : Nat) (vl : Int32) (ft : Nat) (wa tr : Int32) : va_W := [oC ko 6 [.ref (ad 0), .ref (ad 1), .int (nI w), .int (nI h), .int (nI la), .ref (ad 2), .int (nI dw), .int (nI dh), .int (nI dl), .int tl, .int tc, .int hc, .int hd, .ref (ad 3), .int (nI tp), .int (nI ps), .int (nI fr), .int (nI so), .int vl, .int (nI ft), .int wa, .ref (ad 4), .ref (ad 5), .ref (ad 6), .ref (ad 7), .ref (ad 8), .ref (ad 9), .ref (ad 10), .int tr]]
abbrev Q_X6_needs_0 (G : XG) (sz : Nat) (ko : Nat) (ad : Nat → Nat) (w h la tp : Nat) (dw dh dl : Nat) (tl tc hc hd : Int32) (ps fr so : Nat) (vl : Int32) (ft : Nat) (wa tr : Int32) (cd9 : Nat) : Array Value → State → Outcome → State → Prop := (va_Qv (fun (u : Unit) => True) (xWb G sz (w_X6_needs_0 G ko ad w h la tp dw dh dl tl tc hc hd ps fr so vl ft wa tr) (fun u : Unit => [oC ko 6 [.ref (ad 0), .ref (ad 1), .int (nI w), .int (nI h), .int (nI la), .ref (ad 2), .int (nI dw), .int (nI dh), .int (nI dl), .int tl, .int tc, .int hc, .int hd, .ref (ad 3), .int (nI tp), .int (nI ps), .int (nI fr), .int (nI so), .int vl, .int (nI cd9), .int (nI fr), .ref (ad 4), .ref (ad 5), .ref (ad 6), .ref (ad 7), .ref (ad 8), .ref (ad 9), .ref (ad 10), .int tr]])) (va_A (w_X6_needs_0 G ko ad w h la tp dw dh dl tl tc hc hd ps fr so vl ft wa tr) sz))
set_option maxHeartbeats 4000000 in
set_option maxRecDepth 100000 in
theorem c_X6_needs_0 (l : Launch) (G : XG) (sz : Nat) (ko : Nat) (ad : Nat → Nat) (w h la tp : Nat) (dw dh dl : Nat) (tl tc hc hd : Int32) (ps fr so : Nat) (vl : Int32) (ft : Nat) (wa tr : Int32) (cd9 : Nat) (hft : ft = 0) : Met l yX6_needs wsX6_needs ({ frames := 0, cells := 0, slots := 0, locals := 0 } : Room) (va_Pc [.ref ko, .int (nI 0), .int (nI cd9)] (xWp G sz (w_X6_needs_0 G ko ad w h la tp dw dh dl tl tc hc hd ps fr so vl ft wa tr))) (Q_X6_needs_0 G sz ko ad w h la tp dw dh dl tl tc hc hd ps fr so vl ft wa tr cd9) 0 0 (va_A (w_X6_needs_0 G ko ad w h la tp dw dh dl tl tc hc hd ps fr so vl ft wa tr) sz) := by
  refine Met.ofW (cc := cX6_needs) (maxL := 3) (ret := none) (by decide) rfl ?_
  intro pp ee ss mm aa below mt cd s₁ BB hml hv
  obtain ⟨rfl, hsz, hP, hK, hD0⟩ := hv
  have hx := BB.exec
  have hb := BB.bytes
  have hr := BB.returns
  have hts := atoms_spec (ws := wsX6_needs) BB.pre
  have hown : ss.vm.findClass RX6 = some mm.cls := findClass_of_methodNamed BB.named
  have hlocks := BB.notSynchronized
  subst hsz
  have hD := hD0.self (sz := ss.heap.size)
  have hA : ∀ q : Nat, ss.heap.size ≤ q → va_A (w_X6_needs_0 G ko ad w h la tp dw dh dl tl tc hc hd ps fr so vl ft wa tr) ss.heap.size q := fun q h => Or.inr h
  have hS : va_S (va_A (w_X6_needs_0 G ko ad w h la tp dw dh dl tl tc hc hd ps fr so vl ft wa tr) ss.heap.size) ss.heap ss.heap [] := va_S.rf
  replace hD : va_D (va_A (w_X6_needs_0 G ko ad w h la tp dw dh dl tl tc hc hd ps fr so vl ft wa tr) ss.heap.size) [oC ko 6 [.ref (ad 0), .ref (ad 1), .int (nI w), .int (nI h), .int (nI la), .ref (ad 2), .int (nI dw), .int (nI dh), .int (nI dl), .int tl, .int tc, .int hc, .int hd, .ref (ad 3), .int (nI tp), .int (nI ps), .int (nI fr), .int (nI so), .int vl, .int (nI ft), .int wa, .ref (ad 4), .ref (ad 5), .ref (ad 6), .ref (ad 7), .ref (ad 8), .ref (ad 9), .ref (ad 10), .int tr]] := hD
  replace hP : xP G [oC ko 6 [.ref (ad 0), .ref (ad 1), .int (nI w), .int (nI h), .int (nI la), .ref (ad 2), .int (nI dw), .int (nI dh), .int (nI dl), .int tl, .int tc, .int hc, .int hd, .ref (ad 3), .int (nI tp), .int (nI ps), .int (nI fr), .int (nI so), .int vl, .int (nI ft), .int wa, .ref (ad 4), .ref (ad 5), .ref (ad 6), .ref (ad 7), .ref (ad 8), .ref (ad 9), .ref (ad 10), .int tr]] ss.heap := hP
  have hin6 : ∀ w ∈ u_ws RX6 TX6 29, w ∈ wsX6_needs := fun w h => List.mem_cons_of_mem _ (List.mem_append_right _ h)
  have hl := lv_entry ([.ref ko, .int (nI 0), .int (nI cd9)]) (n := 3) (Nat.le_of_ble_eq_true rfl)
  rw [lg_entry_eq]
  generalize (lg_sl ([.ref ko, .int (nI 0), .int (nI cd9)]) ++ List.replicate (3 - (lg_sl ([.ref ko, .int (nI 0), .int (nI cd9)])).length) Slot.unset).toArray = ls at hl ⊢
  replace hl : lv_has ls 3 [(0, .ref ko), (1, .int (nI 0)), (2, .int (nI cd9))] := hl
  refine lv_iload_n hx hb dX6_needs_0 rfl (lv_at hl 1 rfl) ?_
  refine xn_if_ne (tgt := 24) hx hb (by omega) dX6_needs_1 rfl (fun b1 => absurd b1 (by omega)) (fun _ => ?_)
  refine lv_aload_n hx hb dX6_needs_4 rfl (lv_at hl 0 rfl) ?_
  refine va_get (D := G.1) (ci := 6) (v := .int (nI ft)) (C := RX6) (T := TX6) (N := 29) hx hb hts hin6 hown hK.1 hP 0 rfl rfl 19 (by decide) (hts (.fieldLink RX6 90 "BackLensesModel" "fault" "I") (List.mem_of_getElem? (i := 1) rfl)) (fun _ h9 => h9) rfl dX6_needs_5 ?_
  refine xn_if_ne (tgt := 24) hx hb (by omega) dX6_needs_8 rfl (fun b8 => absurd b8 (by omega)) (fun _ => ?_)
  refine lv_aload_n hx hb dX6_needs_11 rfl (lv_at hl 0 rfl) ?_
  refine lv_iload_n hx hb dX6_needs_12 rfl (lv_at hl 2 rfl) ?_
  refine va_put (D := G.1) (ci := 6) (v := .int (nI cd9)) (ty := .int) (C := RX6) (T := TX6) (N := 29) hx hb hts hin6 tyX6 tyX6_ok nmX6 hown hK.1 hP hD hS 0 rfl rfl 19 (by decide) (hts (.fieldLink RX6 90 "BackLensesModel" "fault" "I") (List.mem_of_getElem? (i := 1) rfl)) (fun _ h9 => h9) rfl (by decide +kernel) rfl rfl (Nat.le_of_ble_eq_true rfl) dX6_needs_13 (fun H locs hP hD hS => ?_)
  replace hP : xP G [oC ko 6 [.ref (ad 0), .ref (ad 1), .int (nI w), .int (nI h), .int (nI la), .ref (ad 2), .int (nI dw), .int (nI dh), .int (nI dl), .int tl, .int tc, .int hc, .int hd, .ref (ad 3), .int (nI tp), .int (nI ps), .int (nI fr), .int (nI so), .int vl, .int (nI cd9), .int wa, .ref (ad 4), .ref (ad 5), .ref (ad 6), .ref (ad 7), .ref (ad 8), .ref (ad 9), .ref (ad 10), .int tr]] H := hP
  replace hD : va_D (va_A (w_X6_needs_0 G ko ad w h la tp dw dh dl tl tc hc hd ps fr so vl ft wa tr) ss.heap.size) [oC ko 6 [.ref (ad 0), .ref (ad 1), .int (nI w), .int (nI h), .int (nI la), .ref (ad 2), .int (nI dw), .int (nI dh), .int (nI dl), .int tl, .int tc, .int hc, .int hd, .ref (ad 3), .int (nI tp), .int (nI ps), .int (nI fr), .int (nI so), .int vl, .int (nI cd9), .int wa, .ref (ad 4), .ref (ad 5), .ref (ad 6), .ref (ad 7), .ref (ad 8), .ref (ad 9), .ref (ad 10), .int tr]] := hD
  refine lv_aload_n hx hb dX6_needs_16 rfl (lv_at hl 0 rfl) ?_
  refine lv_aload_n hx hb dX6_needs_17 rfl (lv_at hl 0 rfl) ?_
  refine va_get (D := G.1) (ci := 6) (v := .int (nI fr)) (C := RX6) (T := TX6) (N := 29) hx hb hts hin6 hown hK.1 hP 0 rfl rfl 16 (by decide) (hts (.fieldLink RX6 93 "BackLensesModel" "from" "I") (List.mem_of_getElem? (i := 2) rfl)) (fun _ h9 => h9) rfl dX6_needs_18 ?_
  refine va_put (D := G.1) (ci := 6) (v := .int (nI fr)) (ty := .int) (C := RX6) (T := TX6) (N := 29) hx hb hts hin6 tyX6 tyX6_ok nmX6 hown hK.1 hP hD hS 0 rfl rfl 20 (by decide) (hts (.fieldLink RX6 96 "BackLensesModel" "wrongAt" "I") (List.mem_of_getElem? (i := 3) rfl)) (fun _ h9 => h9) rfl (by decide +kernel) rfl rfl (Nat.le_of_ble_eq_true rfl) dX6_needs_21 (fun H locs hP hD hS => ?_)
  replace hP : xP G [oC ko 6 [.ref (ad 0), .ref (ad 1), .int (nI w), .int (nI h), .int (nI la), .ref (ad 2), .int (nI dw), .int (nI dh), .int (nI dl), .int tl, .int tc, .int hc, .int hd, .ref (ad 3), .int (nI tp), .int (nI ps), .int (nI fr), .int (nI so), .int vl, .int (nI cd9), .int (nI fr), .ref (ad 4), .ref (ad 5), .ref (ad 6), .ref (ad 7), .ref (ad 8), .ref (ad 9), .ref (ad 10), .int tr]] H := hP
  replace hD : va_D (va_A (w_X6_needs_0 G ko ad w h la tp dw dh dl tl tc hc hd ps fr so vl ft wa tr) ss.heap.size) [oC ko 6 [.ref (ad 0), .ref (ad 1), .int (nI w), .int (nI h), .int (nI la), .ref (ad 2), .int (nI dw), .int (nI dh), .int (nI dl), .int tl, .int tc, .int hc, .int hd, .ref (ad 3), .int (nI tp), .int (nI ps), .int (nI fr), .int (nI so), .int vl, .int (nI cd9), .int (nI fr), .ref (ad 4), .ref (ad 5), .ref (ad 6), .ref (ad 7), .ref (ad 8), .ref (ad 9), .ref (ad 10), .int tr]] := hD
  have hP := hP.sub (ws' := [oC ko 6 [.ref (ad 0), .ref (ad 1), .int (nI w), .int (nI h), .int (nI la), .ref (ad 2), .int (nI dw), .int (nI dh), .int (nI dl), .int tl, .int tc, .int hc, .int hd, .ref (ad 3), .int (nI tp), .int (nI ps), .int (nI fr), .int (nI so), .int vl, .int (nI cd9), .int (nI fr), .ref (ad 4), .ref (ad 5), .ref (ad 6), .ref (ad 7), .ref (ad 8), .ref (ad 9), .ref (ad 10), .int tr]]) [0] rfl
  have hD := hD.sub (ws' := [oC ko 6 [.ref (ad 0), .ref (ad 1), .int (nI w), .int (nI h), .int (nI la), .ref (ad 2), .int (nI dw), .int (nI dh), .int (nI dl), .int tl, .int tc, .int hc, .int hd, .ref (ad 3), .int (nI tp), .int (nI ps), .int (nI fr), .int (nI so), .int vl, .int (nI cd9), .int (nI fr), .ref (ad 4), .ref (ad 5), .ref (ad 6), .ref (ad 7), .ref (ad 8), .ref (ad 9), .ref (ad 10), .int tr]]) [0] (by decide) rfl
  refine W.vret hx hb hr (fun t ht hW => ⟨⟨(), rfl, ?_, by rw [ht]; exact hP, hD⟩, hS.F ht⟩) hS.2.2 dX6_needs_24
  trivial

abbrev w_X6_needs_0n (G : XG) (ko : Nat) (ad : Nat → Nat) (w h la tp : Nat) (dw dh dl : Nat) (tl tc hc hd : Int32) (ps fr so : Nat) (vl : Int32) (ft : Nat) (wa tr : Int32) : va_W := [oC ko 6 [.ref (ad 0), .ref (ad 1), .int (nI w), .int (nI h), .int (nI la), .ref (ad 2), .int (nI dw), .int (nI dh), .int (nI dl), .int tl, .int tc, .int hc, .int hd, .ref (ad 3), .int (nI tp), .int (nI ps), .int (nI fr), .int (nI so), .int vl, .int (nI ft), .int wa, .ref (ad 4), .ref (ad 5), .ref (ad 6), .ref (ad 7), .ref (ad 8), .ref (ad 9), .ref (ad 10), .int tr]]
abbrev Q_X6_needs_0n (G : XG) (sz : Nat) (ko : Nat) (ad : Nat → Nat) (w h la tp : Nat) (dw dh dl : Nat) (tl tc hc hd : Int32) (ps fr so : Nat) (vl : Int32) (ft : Nat) (wa tr : Int32) (cd9 : Nat) : Array Value → State → Outcome → State → Prop := (va_Qv (fun (u : Unit) => True) (xWb G sz (w_X6_needs_0n G ko ad w h la tp dw dh dl tl tc hc hd ps fr so vl ft wa tr) (fun u : Unit => [oC ko 6 [.ref (ad 0), .ref (ad 1), .int (nI w), .int (nI h), .int (nI la), .ref (ad 2), .int (nI dw), .int (nI dh), .int (nI dl), .int tl, .int tc, .int hc, .int hd, .ref (ad 3), .int (nI tp), .int (nI ps), .int (nI fr), .int (nI so), .int vl, .int (nI ft), .int wa, .ref (ad 4), .ref (ad 5), .ref (ad 6), .ref (ad 7), .ref (ad 8), .ref (ad 9), .ref (ad 10), .int tr]])) (va_A (w_X6_needs_0n G ko ad w h la tp dw dh dl tl tc hc hd ps fr so vl ft wa tr) sz))
set_option maxHeartbeats 4000000 in
set_option maxRecDepth 100000 in
theorem c_X6_needs_0n (l : Launch) (G : XG) (sz : Nat) (ko : Nat) (ad : Nat → Nat) (w h la tp : Nat) (dw dh dl : Nat) (tl tc hc hd : Int32) (ps fr so : Nat) (vl : Int32) (ft : Nat) (wa tr : Int32) (cd9 : Nat) (hft : ¬ ft = 0) (hftb : ft < 1000) : Met l yX6_needs wsX6_needs ({ frames := 0, cells := 0, slots := 0, locals := 0 } : Room) (va_Pc [.ref ko, .int (nI 0), .int (nI cd9)] (xWp G sz (w_X6_needs_0n G ko ad w h la tp dw dh dl tl tc hc hd ps fr so vl ft wa tr))) (Q_X6_needs_0n G sz ko ad w h la tp dw dh dl tl tc hc hd ps fr so vl ft wa tr cd9) 0 0 (va_A (w_X6_needs_0n G ko ad w h la tp dw dh dl tl tc hc hd ps fr so vl ft wa tr) sz) := by
  refine Met.ofW (cc := cX6_needs) (maxL := 3) (ret := none) (by decide) rfl ?_
  intro pp ee ss mm aa below mt cd s₁ BB hml hv
  obtain ⟨rfl, hsz, hP, hK, hD0⟩ := hv
  have hx := BB.exec
  have hb := BB.bytes
  have hr := BB.returns
  have hts := atoms_spec (ws := wsX6_needs) BB.pre
  have hown : ss.vm.findClass RX6 = some mm.cls := findClass_of_methodNamed BB.named
  have hlocks := BB.notSynchronized
  subst hsz
  have hD := hD0.self (sz := ss.heap.size)
  have hA : ∀ q : Nat, ss.heap.size ≤ q → va_A (w_X6_needs_0n G ko ad w h la tp dw dh dl tl tc hc hd ps fr so vl ft wa tr) ss.heap.size q := fun q h => Or.inr h
  have hS : va_S (va_A (w_X6_needs_0n G ko ad w h la tp dw dh dl tl tc hc hd ps fr so vl ft wa tr) ss.heap.size) ss.heap ss.heap [] := va_S.rf
  replace hD : va_D (va_A (w_X6_needs_0n G ko ad w h la tp dw dh dl tl tc hc hd ps fr so vl ft wa tr) ss.heap.size) [oC ko 6 [.ref (ad 0), .ref (ad 1), .int (nI w), .int (nI h), .int (nI la), .ref (ad 2), .int (nI dw), .int (nI dh), .int (nI dl), .int tl, .int tc, .int hc, .int hd, .ref (ad 3), .int (nI tp), .int (nI ps), .int (nI fr), .int (nI so), .int vl, .int (nI ft), .int wa, .ref (ad 4), .ref (ad 5), .ref (ad 6), .ref (ad 7), .ref (ad 8), .ref (ad 9), .ref (ad 10), .int tr]] := hD
  replace hP : xP G [oC ko 6 [.ref (ad 0), .ref (ad 1), .int (nI w), .int (nI h), .int (nI la), .ref (ad 2), .int (nI dw), .int (nI dh), .int (nI dl), .int tl, .int tc, .int hc, .int hd, .ref (ad 3), .int (nI tp), .int (nI ps), .int (nI fr), .int (nI so), .int vl, .int (nI ft), .int wa, .ref (ad 4), .ref (ad 5), .ref (ad 6), .ref (ad 7), .ref (ad 8), .ref (ad 9), .ref (ad 10), .int tr]] ss.heap := hP
  have hin6 : ∀ w ∈ u_ws RX6 TX6 29, w ∈ wsX6_needs := fun w h => List.mem_cons_of_mem _ (List.mem_append_right _ h)
  have hl := lv_entry ([.ref ko, .int (nI 0), .int (nI cd9)]) (n := 3) (Nat.le_of_ble_eq_true rfl)
  rw [lg_entry_eq]
  generalize (lg_sl ([.ref ko, .int (nI 0), .int (nI cd9)]) ++ List.replicate (3 - (lg_sl ([.ref ko, .int (nI 0), .int (nI cd9)])).length) Slot.unset).toArray = ls at hl ⊢
  replace hl : lv_has ls 3 [(0, .ref ko), (1, .int (nI 0)), (2, .int (nI cd9))] := hl
  refine lv_iload_n hx hb dX6_needs_0 rfl (lv_at hl 1 rfl) ?_
  refine xn_if_ne (tgt := 24) hx hb (by omega) dX6_needs_1 rfl (fun b1 => absurd b1 (by omega)) (fun _ => ?_)
  refine lv_aload_n hx hb dX6_needs_4 rfl (lv_at hl 0 rfl) ?_
  refine va_get (D := G.1) (ci := 6) (v := .int (nI ft)) (C := RX6) (T := TX6) (N := 29) hx hb hts hin6 hown hK.1 hP 0 rfl rfl 19 (by decide) (hts (.fieldLink RX6 90 "BackLensesModel" "fault" "I") (List.mem_of_getElem? (i := 1) rfl)) (fun _ h9 => h9) rfl dX6_needs_5 ?_
  refine xn_if_ne (tgt := 24) hx hb (by omega) dX6_needs_8 rfl (fun _ => ?_) (fun b8 => absurd b8 (by omega))
  have hP := hP.sub (ws' := [oC ko 6 [.ref (ad 0), .ref (ad 1), .int (nI w), .int (nI h), .int (nI la), .ref (ad 2), .int (nI dw), .int (nI dh), .int (nI dl), .int tl, .int tc, .int hc, .int hd, .ref (ad 3), .int (nI tp), .int (nI ps), .int (nI fr), .int (nI so), .int vl, .int (nI ft), .int wa, .ref (ad 4), .ref (ad 5), .ref (ad 6), .ref (ad 7), .ref (ad 8), .ref (ad 9), .ref (ad 10), .int tr]]) [0] rfl
  have hD := hD.sub (ws' := [oC ko 6 [.ref (ad 0), .ref (ad 1), .int (nI w), .int (nI h), .int (nI la), .ref (ad 2), .int (nI dw), .int (nI dh), .int (nI dl), .int tl, .int tc, .int hc, .int hd, .ref (ad 3), .int (nI tp), .int (nI ps), .int (nI fr), .int (nI so), .int vl, .int (nI ft), .int wa, .ref (ad 4), .ref (ad 5), .ref (ad 6), .ref (ad 7), .ref (ad 8), .ref (ad 9), .ref (ad 10), .int tr]]) [0] (by decide) rfl
  refine W.vret hx hb hr (fun t ht hW => ⟨⟨(), rfl, ?_, by rw [ht]; exact hP, hD⟩, hS.F ht⟩) hS.2.2 dX6_needs_24
  trivial

abbrev w_X6_needs_g (G : XG) (ko : Nat) (ad : Nat → Nat) (w h la tp : Nat) (dw dh dl : Nat) (tl tc hc hd : Int32) (ps fr so : Nat) (vl : Int32) (ft : Nat) (wa tr : Int32) : va_W := [oC ko 6 [.ref (ad 0), .ref (ad 1), .int (nI w), .int (nI h), .int (nI la), .ref (ad 2), .int (nI dw), .int (nI dh), .int (nI dl), .int tl, .int tc, .int hc, .int hd, .ref (ad 3), .int (nI tp), .int (nI ps), .int (nI fr), .int (nI so), .int vl, .int (nI ft), .int wa, .ref (ad 4), .ref (ad 5), .ref (ad 6), .ref (ad 7), .ref (ad 8), .ref (ad 9), .ref (ad 10), .int tr]]
abbrev Q_X6_needs_g (G : XG) (sz : Nat) (ko : Nat) (ad : Nat → Nat) (w h la tp : Nat) (dw dh dl : Nat) (tl tc hc hd : Int32) (ps fr so : Nat) (vl : Int32) (ft : Nat) (wa tr : Int32) (P : Prop) (iP : Decidable P) (cd9 : Nat) : Array Value → State → Outcome → State → Prop := (va_Qv (fun (u : Nat × Int32) => (u.1, u.2) = (if P then (ft, wa) else (cd9, nI fr))) (xWb G sz (w_X6_needs_g G ko ad w h la tp dw dh dl tl tc hc hd ps fr so vl ft wa tr) (fun u : Nat × Int32 => [oC ko 6 [.ref (ad 0), .ref (ad 1), .int (nI w), .int (nI h), .int (nI la), .ref (ad 2), .int (nI dw), .int (nI dh), .int (nI dl), .int tl, .int tc, .int hc, .int hd, .ref (ad 3), .int (nI tp), .int (nI ps), .int (nI fr), .int (nI so), .int vl, .int (nI u.1), .int u.2, .ref (ad 4), .ref (ad 5), .ref (ad 6), .ref (ad 7), .ref (ad 8), .ref (ad 9), .ref (ad 10), .int tr]])) (va_A (w_X6_needs_g G ko ad w h la tp dw dh dl tl tc hc hd ps fr so vl ft wa tr) sz))
set_option maxHeartbeats 4000000 in
set_option maxRecDepth 100000 in
theorem c_X6_needs_g (l : Launch) (G : XG) (sz : Nat) (ko : Nat) (ad : Nat → Nat) (w h la tp : Nat) (dw dh dl : Nat) (tl tc hc hd : Int32) (ps fr so : Nat) (vl : Int32) (ft : Nat) (wa tr : Int32) (P : Prop) (iP : Decidable P) (cd9 : Nat) (hft : ft = 0) : Met l yX6_needs wsX6_needs ({ frames := 0, cells := 0, slots := 0, locals := 0 } : Room) (va_Pc [.ref ko, .int (xb (P)), .int (nI cd9)] (xWp G sz (w_X6_needs_g G ko ad w h la tp dw dh dl tl tc hc hd ps fr so vl ft wa tr))) (Q_X6_needs_g G sz ko ad w h la tp dw dh dl tl tc hc hd ps fr so vl ft wa tr P iP cd9) 0 0 (va_A (w_X6_needs_g G ko ad w h la tp dw dh dl tl tc hc hd ps fr so vl ft wa tr) sz) := by
  refine Met.ofW (cc := cX6_needs) (maxL := 3) (ret := none) (by decide) rfl ?_
  intro pp ee ss mm aa below mt cd s₁ BB hml hv
  obtain ⟨rfl, hsz, hP, hK, hD0⟩ := hv
  have hx := BB.exec
  have hb := BB.bytes
  have hr := BB.returns
  have hts := atoms_spec (ws := wsX6_needs) BB.pre
  have hown : ss.vm.findClass RX6 = some mm.cls := findClass_of_methodNamed BB.named
  have hlocks := BB.notSynchronized
  subst hsz
  have hD := hD0.self (sz := ss.heap.size)
  have hA : ∀ q : Nat, ss.heap.size ≤ q → va_A (w_X6_needs_g G ko ad w h la tp dw dh dl tl tc hc hd ps fr so vl ft wa tr) ss.heap.size q := fun q h => Or.inr h
  have hS : va_S (va_A (w_X6_needs_g G ko ad w h la tp dw dh dl tl tc hc hd ps fr so vl ft wa tr) ss.heap.size) ss.heap ss.heap [] := va_S.rf
  replace hD : va_D (va_A (w_X6_needs_g G ko ad w h la tp dw dh dl tl tc hc hd ps fr so vl ft wa tr) ss.heap.size) [oC ko 6 [.ref (ad 0), .ref (ad 1), .int (nI w), .int (nI h), .int (nI la), .ref (ad 2), .int (nI dw), .int (nI dh), .int (nI dl), .int tl, .int tc, .int hc, .int hd, .ref (ad 3), .int (nI tp), .int (nI ps), .int (nI fr), .int (nI so), .int vl, .int (nI ft), .int wa, .ref (ad 4), .ref (ad 5), .ref (ad 6), .ref (ad 7), .ref (ad 8), .ref (ad 9), .ref (ad 10), .int tr]] := hD
  replace hP : xP G [oC ko 6 [.ref (ad 0), .ref (ad 1), .int (nI w), .int (nI h), .int (nI la), .ref (ad 2), .int (nI dw), .int (nI dh), .int (nI dl), .int tl, .int tc, .int hc, .int hd, .ref (ad 3), .int (nI tp), .int (nI ps), .int (nI fr), .int (nI so), .int vl, .int (nI ft), .int wa, .ref (ad 4), .ref (ad 5), .ref (ad 6), .ref (ad 7), .ref (ad 8), .ref (ad 9), .ref (ad 10), .int tr]] ss.heap := hP
  have hin6 : ∀ w ∈ u_ws RX6 TX6 29, w ∈ wsX6_needs := fun w h => List.mem_cons_of_mem _ (List.mem_append_right _ h)
  have hl := lv_entry ([.ref ko, .int (xb (P)), .int (nI cd9)]) (n := 3) (Nat.le_of_ble_eq_true rfl)
  rw [lg_entry_eq]
  generalize (lg_sl ([.ref ko, .int (xb (P)), .int (nI cd9)]) ++ List.replicate (3 - (lg_sl ([.ref ko, .int (xb (P)), .int (nI cd9)])).length) Slot.unset).toArray = ls at hl ⊢
  replace hl : lv_has ls 3 [(0, .ref ko), (1, .int (xb (P))), (2, .int (nI cd9))] := hl
  refine lv_iload_n hx hb dX6_needs_0 rfl (lv_at hl 1 rfl) ?_
  refine xb_if_ne (tgt := 24) hx hb dX6_needs_1 rfl (fun b1 => ?_) (fun b1 => ?_)
  · skip
    have hP := hP.sub (ws' := [oC ko 6 [.ref (ad 0), .ref (ad 1), .int (nI w), .int (nI h), .int (nI la), .ref (ad 2), .int (nI dw), .int (nI dh), .int (nI dl), .int tl, .int tc, .int hc, .int hd, .ref (ad 3), .int (nI tp), .int (nI ps), .int (nI fr), .int (nI so), .int vl, .int (nI ft), .int wa, .ref (ad 4), .ref (ad 5), .ref (ad 6), .ref (ad 7), .ref (ad 8), .ref (ad 9), .ref (ad 10), .int tr]]) [0] rfl
    have hD := hD.sub (ws' := [oC ko 6 [.ref (ad 0), .ref (ad 1), .int (nI w), .int (nI h), .int (nI la), .ref (ad 2), .int (nI dw), .int (nI dh), .int (nI dl), .int tl, .int tc, .int hc, .int hd, .ref (ad 3), .int (nI tp), .int (nI ps), .int (nI fr), .int (nI so), .int vl, .int (nI ft), .int wa, .ref (ad 4), .ref (ad 5), .ref (ad 6), .ref (ad 7), .ref (ad 8), .ref (ad 9), .ref (ad 10), .int tr]]) [0] (by decide) rfl
    refine W.vret hx hb hr (fun t ht hW => ⟨⟨(ft, wa), rfl, ?_, by rw [ht]; exact hP, hD⟩, hS.F ht⟩) hS.2.2 dX6_needs_24
    try dsimp only
    first | exact (if_pos b1).symm | exact (if_neg b1).symm
  · skip
    refine lv_aload_n hx hb dX6_needs_4 rfl (lv_at hl 0 rfl) ?_
    refine va_get (D := G.1) (ci := 6) (v := .int (nI ft)) (C := RX6) (T := TX6) (N := 29) hx hb hts hin6 hown hK.1 hP 0 rfl rfl 19 (by decide) (hts (.fieldLink RX6 90 "BackLensesModel" "fault" "I") (List.mem_of_getElem? (i := 1) rfl)) (fun _ h9 => h9) rfl dX6_needs_5 ?_
    refine xn_if_ne (tgt := 24) hx hb (by omega) dX6_needs_8 rfl (fun b8 => absurd b8 (by omega)) (fun _ => ?_)
    refine lv_aload_n hx hb dX6_needs_11 rfl (lv_at hl 0 rfl) ?_
    refine lv_iload_n hx hb dX6_needs_12 rfl (lv_at hl 2 rfl) ?_
    refine va_put (D := G.1) (ci := 6) (v := .int (nI cd9)) (ty := .int) (C := RX6) (T := TX6) (N := 29) hx hb hts hin6 tyX6 tyX6_ok nmX6 hown hK.1 hP hD hS 0 rfl rfl 19 (by decide) (hts (.fieldLink RX6 90 "BackLensesModel" "fault" "I") (List.mem_of_getElem? (i := 1) rfl)) (fun _ h9 => h9) rfl (by decide +kernel) rfl rfl (Nat.le_of_ble_eq_true rfl) dX6_needs_13 (fun H locs hP hD hS => ?_)
    replace hP : xP G [oC ko 6 [.ref (ad 0), .ref (ad 1), .int (nI w), .int (nI h), .int (nI la), .ref (ad 2), .int (nI dw), .int (nI dh), .int (nI dl), .int tl, .int tc, .int hc, .int hd, .ref (ad 3), .int (nI tp), .int (nI ps), .int (nI fr), .int (nI so), .int vl, .int (nI cd9), .int wa, .ref (ad 4), .ref (ad 5), .ref (ad 6), .ref (ad 7), .ref (ad 8), .ref (ad 9), .ref (ad 10), .int tr]] H := hP
    replace hD : va_D (va_A (w_X6_needs_g G ko ad w h la tp dw dh dl tl tc hc hd ps fr so vl ft wa tr) ss.heap.size) [oC ko 6 [.ref (ad 0), .ref (ad 1), .int (nI w), .int (nI h), .int (nI la), .ref (ad 2), .int (nI dw), .int (nI dh), .int (nI dl), .int tl, .int tc, .int hc, .int hd, .ref (ad 3), .int (nI tp), .int (nI ps), .int (nI fr), .int (nI so), .int vl, .int (nI cd9), .int wa, .ref (ad 4), .ref (ad 5), .ref (ad 6), .ref (ad 7), .ref (ad 8), .ref (ad 9), .ref (ad 10), .int tr]] := hD
    refine lv_aload_n hx hb dX6_needs_16 rfl (lv_at hl 0 rfl) ?_
    refine lv_aload_n hx hb dX6_needs_17 rfl (lv_at hl 0 rfl) ?_
    refine va_get (D := G.1) (ci := 6) (v := .int (nI fr)) (C := RX6) (T := TX6) (N := 29) hx hb hts hin6 hown hK.1 hP 0 rfl rfl 16 (by decide) (hts (.fieldLink RX6 93 "BackLensesModel" "from" "I") (List.mem_of_getElem? (i := 2) rfl)) (fun _ h9 => h9) rfl dX6_needs_18 ?_
    refine va_put (D := G.1) (ci := 6) (v := .int (nI fr)) (ty := .int) (C := RX6) (T := TX6) (N := 29) hx hb hts hin6 tyX6 tyX6_ok nmX6 hown hK.1 hP hD hS 0 rfl rfl 20 (by decide) (hts (.fieldLink RX6 96 "BackLensesModel" "wrongAt" "I") (List.mem_of_getElem? (i := 3) rfl)) (fun _ h9 => h9) rfl (by decide +kernel) rfl rfl (Nat.le_of_ble_eq_true rfl) dX6_needs_21 (fun H locs hP hD hS => ?_)
    replace hP : xP G [oC ko 6 [.ref (ad 0), .ref (ad 1), .int (nI w), .int (nI h), .int (nI la), .ref (ad 2), .int (nI dw), .int (nI dh), .int (nI dl), .int tl, .int tc, .int hc, .int hd, .ref (ad 3), .int (nI tp), .int (nI ps), .int (nI fr), .int (nI so), .int vl, .int (nI cd9), .int (nI fr), .ref (ad 4), .ref (ad 5), .ref (ad 6), .ref (ad 7), .ref (ad 8), .ref (ad 9), .ref (ad 10), .int tr]] H := hP
    replace hD : va_D (va_A (w_X6_needs_g G ko ad w h la tp dw dh dl tl tc hc hd ps fr so vl ft wa tr) ss.heap.size) [oC ko 6 [.ref (ad 0), .ref (ad 1), .int (nI w), .int (nI h), .int (nI la), .ref (ad 2), .int (nI dw), .int (nI dh), .int (nI dl), .int tl, .int tc, .int hc, .int hd, .ref (ad 3), .int (nI tp), .int (nI ps), .int (nI fr), .int (nI so), .int vl, .int (nI cd9), .int (nI fr), .ref (ad 4), .ref (ad 5), .ref (ad 6), .ref (ad 7), .ref (ad 8), .ref (ad 9), .ref (ad 10), .int tr]] := hD
    have hP := hP.sub (ws' := [oC ko 6 [.ref (ad 0), .ref (ad 1), .int (nI w), .int (nI h), .int (nI la), .ref (ad 2), .int (nI dw), .int (nI dh), .int (nI dl), .int tl, .int tc, .int hc, .int hd, .ref (ad 3), .int (nI tp), .int (nI ps), .int (nI fr), .int (nI so), .int vl, .int (nI cd9), .int (nI fr), .ref (ad 4), .ref (ad 5), .ref (ad 6), .ref (ad 7), .ref (ad 8), .ref (ad 9), .ref (ad 10), .int tr]]) [0] rfl
    have hD := hD.sub (ws' := [oC ko 6 [.ref (ad 0), .ref (ad 1), .int (nI w), .int (nI h), .int (nI la), .ref (ad 2), .int (nI dw), .int (nI dh), .int (nI dl), .int tl, .int tc, .int hc, .int hd, .ref (ad 3), .int (nI tp), .int (nI ps), .int (nI fr), .int (nI so), .int vl, .int (nI cd9), .int (nI fr), .ref (ad 4), .ref (ad 5), .ref (ad 6), .ref (ad 7), .ref (ad 8), .ref (ad 9), .ref (ad 10), .int tr]]) [0] (by decide) rfl
    refine W.vret hx hb hr (fun t ht hW => ⟨⟨(cd9, nI fr), rfl, ?_, by rw [ht]; exact hP, hD⟩, hS.F ht⟩) hS.2.2 dX6_needs_24
    try dsimp only
    first | exact (if_pos b1).symm | exact (if_neg b1).symm

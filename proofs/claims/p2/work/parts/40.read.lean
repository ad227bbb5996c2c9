abbrev w_X1_put (G : XG) (kre : Nat) (kbt kby : Nat) (rl : Nat) (rv : Nat → Int32) (tb : Nat → Int32) : va_W := [oC kre 1 [.ref kbt, .ref kby, .int (nI rl), .int (rv 0), .int (rv 1), .int (rv 2), .int (rv 3), .int (rv 4), .int (rv 5), .int (rv 6), .int (rv 7), .int (rv 8), .int (rv 9)], bA G kby 160 tb]
abbrev Q_X1_put (G : XG) (sz : Nat) (kre : Nat) (kbt kby : Nat) (rl : Nat) (rv : Nat → Int32) (tb : Nat → Int32) (k : Nat) : Array Value → State → Outcome → State → Prop := (va_Qi (fun (r : Int32) (u : Nat × (Nat → Int32)) => r = (if rl < 160 then nI (rl + 1) else (-3)) ∧ u.1 = (if rl < 160 then rl + 1 else rl) ∧ u.2 = (if rl < 160 then upd tb rl (nI k) else tb)) (xWb G sz (w_X1_put G kre kbt kby rl rv tb) (fun u : Nat × (Nat → Int32) => [oC kre 1 [.ref kbt, .ref kby, .int (nI u.1), .int (rv 0), .int (rv 1), .int (rv 2), .int (rv 3), .int (rv 4), .int (rv 5), .int (rv 6), .int (rv 7), .int (rv 8), .int (rv 9)], bA G kby 160 u.2])) (va_A (w_X1_put G kre kbt kby rl rv tb) sz))
set_option maxHeartbeats 4000000 in
set_option maxRecDepth 100000 in
theorem c_X1_put (l : Launch) (G : XG) (sz : Nat) (kre : Nat) (kbt kby : Nat) (rl : Nat) (rv : Nat → Int32) (tb : Nat → Int32) (k : Nat) (hk : k < 128) (hrl : rl ≤ 160) : Met l yX1_put wsX1_put ({ frames := 0, cells := 0, slots := 0, locals := 0 } : Room) (va_Pc [.ref kre, .int (nI k)] (xWp G sz (w_X1_put G kre kbt kby rl rv tb))) (Q_X1_put G sz kre kbt kby rl rv tb k) 0 0 (va_A (w_X1_put G kre kbt kby rl rv tb) sz) := by
  refine Met.ofW (cc := cX1_put) (maxL := 2) (ret := (some .int)) (by decide) rfl ?_
  intro pp ee ss mm aa below mt cd s₁ BB hml hv
  obtain ⟨rfl, hsz, hP, hK, hD0⟩ := hv
  have hx := BB.exec
  have hb := BB.bytes
  have hr := BB.returns
  have hts := atoms_spec (ws := wsX1_put) BB.pre
  have hown : ss.vm.findClass RX1 = some mm.cls := findClass_of_methodNamed BB.named
  have hlocks := BB.notSynchronized
  subst hsz
  have hD := hD0.self (sz := ss.heap.size)
  have hA : ∀ q : Nat, ss.heap.size ≤ q → va_A (w_X1_put G kre kbt kby rl rv tb) ss.heap.size q := fun q h => Or.inr h
  have hS : va_S (va_A (w_X1_put G kre kbt kby rl rv tb) ss.heap.size) ss.heap ss.heap [] := va_S.rf
  replace hD : va_D (va_A (w_X1_put G kre kbt kby rl rv tb) ss.heap.size) [oC kre 1 [.ref kbt, .ref kby, .int (nI rl), .int (rv 0), .int (rv 1), .int (rv 2), .int (rv 3), .int (rv 4), .int (rv 5), .int (rv 6), .int (rv 7), .int (rv 8), .int (rv 9)], bA G kby 160 tb] := hD
  replace hP : xP G [oC kre 1 [.ref kbt, .ref kby, .int (nI rl), .int (rv 0), .int (rv 1), .int (rv 2), .int (rv 3), .int (rv 4), .int (rv 5), .int (rv 6), .int (rv 7), .int (rv 8), .int (rv 9)], bA G kby 160 tb] ss.heap := hP
  have hin1 : ∀ w ∈ u_ws RX1 TX1 13, w ∈ wsX1_put := fun w h => List.mem_cons_of_mem _ (List.mem_append_right _ h)
  have hl := lv_entry ([.ref kre, .int (nI k)]) (n := 2) (Nat.le_of_ble_eq_true rfl)
  rw [lg_entry_eq]
  generalize (lg_sl ([.ref kre, .int (nI k)]) ++ List.replicate (2 - (lg_sl ([.ref kre, .int (nI k)])).length) Slot.unset).toArray = ls at hl ⊢
  replace hl : lv_has ls 2 [(0, .ref kre), (1, .int (nI k))] := hl
  refine lv_aload_n hx hb dX1_put_0 rfl (lv_at hl 0 rfl) ?_
  refine va_get (D := G.1) (ci := 1) (v := .int (nI rl)) (C := RX1) (T := TX1) (N := 13) hx hb hts hin1 hown hK.1 hP 0 rfl rfl 2 (by decide) (hts (.fieldLink RX1 22 "BackLenses$Reader" "length" "I") (List.mem_of_getElem? (i := 1) rfl)) (fun _ h9 => h9) rfl dX1_put_1 ?_
  refine lv_sipush (v := nI 160) hx hb dX1_put_4 (by decide) ?_
  refine xn_icmp_lt (tgt := 13) hx hb (by omega) (by omega) dX1_put_7 rfl (fun b7 => ?_) (fun b7 => ?_)
  · skip
    refine lv_aload_n hx hb dX1_put_13 rfl (lv_at hl 0 rfl) ?_
    refine va_get (D := G.1) (ci := 1) (v := .ref kby) (C := RX1) (T := TX1) (N := 13) hx hb hts hin1 hown hK.1 hP 0 rfl rfl 1 (by decide) (hts (.fieldLink RX1 18 "BackLenses$Reader" "bytes" "[B") (List.mem_of_getElem? (i := 2) rfl)) (fun _ h9 => h9) rfl dX1_put_14 ?_
    refine lv_aload_n hx hb dX1_put_17 rfl (lv_at hl 0 rfl) ?_
    refine va_get (D := G.1) (ci := 1) (v := .int (nI rl)) (C := RX1) (T := TX1) (N := 13) hx hb hts hin1 hown hK.1 hP 0 rfl rfl 2 (by decide) (hts (.fieldLink RX1 22 "BackLenses$Reader" "length" "I") (List.mem_of_getElem? (i := 1) rfl)) (fun _ h9 => h9) rfl dX1_put_18 ?_
    refine lv_iload_n hx hb dX1_put_21 rfl (lv_at hl 1 rfl) ?_
    refine lv_i2b hx hb dX1_put_22 rfl ?_
    refine xn_bast (y := nI k) hx hb hK hP hD hS 1 rfl (by omega) (by omega) (by exact nar_byte k hk) dX1_put_23 (fun H locs hP hD hS => ?_)
    replace hP : xP G [oC kre 1 [.ref kbt, .ref kby, .int (nI rl), .int (rv 0), .int (rv 1), .int (rv 2), .int (rv 3), .int (rv 4), .int (rv 5), .int (rv 6), .int (rv 7), .int (rv 8), .int (rv 9)], bA G kby 160 (upd tb rl (nI k))] H := hP
    replace hD : va_D (va_A (w_X1_put G kre kbt kby rl rv tb) ss.heap.size) [oC kre 1 [.ref kbt, .ref kby, .int (nI rl), .int (rv 0), .int (rv 1), .int (rv 2), .int (rv 3), .int (rv 4), .int (rv 5), .int (rv 6), .int (rv 7), .int (rv 8), .int (rv 9)], bA G kby 160 (upd tb rl (nI k))] := hD
    refine lv_aload_n hx hb dX1_put_24 rfl (lv_at hl 0 rfl) ?_
    refine lv_dup hx hb dX1_put_25 rfl ?_
    refine va_get (D := G.1) (ci := 1) (v := .int (nI rl)) (C := RX1) (T := TX1) (N := 13) hx hb hts hin1 hown hK.1 hP 0 rfl rfl 2 (by decide) (hts (.fieldLink RX1 22 "BackLenses$Reader" "length" "I") (List.mem_of_getElem? (i := 1) rfl)) (fun _ h9 => h9) rfl dX1_put_26 ?_
    refine lv_iconst (v := nI 1) hx hb dX1_put_29 (by decide) ?_
    refine xn_iadd hx hb dX1_put_30 ?_
    refine va_put (D := G.1) (ci := 1) (v := .int (nI (rl + 1))) (ty := .int) (C := RX1) (T := TX1) (N := 13) hx hb hts hin1 tyX1 tyX1_ok nmX1 hown hK.1 hP hD hS 0 rfl rfl 2 (by decide) (hts (.fieldLink RX1 22 "BackLenses$Reader" "length" "I") (List.mem_of_getElem? (i := 1) rfl)) (fun _ h9 => h9) rfl (by decide +kernel) rfl rfl (Nat.le_of_ble_eq_true rfl) dX1_put_31 (fun H locs hP hD hS => ?_)
    replace hP : xP G [oC kre 1 [.ref kbt, .ref kby, .int (nI (rl + 1)), .int (rv 0), .int (rv 1), .int (rv 2), .int (rv 3), .int (rv 4), .int (rv 5), .int (rv 6), .int (rv 7), .int (rv 8), .int (rv 9)], bA G kby 160 (upd tb rl (nI k))] H := hP
    replace hD : va_D (va_A (w_X1_put G kre kbt kby rl rv tb) ss.heap.size) [oC kre 1 [.ref kbt, .ref kby, .int (nI (rl + 1)), .int (rv 0), .int (rv 1), .int (rv 2), .int (rv 3), .int (rv 4), .int (rv 5), .int (rv 6), .int (rv 7), .int (rv 8), .int (rv 9)], bA G kby 160 (upd tb rl (nI k))] := hD
    refine lv_aload_n hx hb dX1_put_34 rfl (lv_at hl 0 rfl) ?_
    refine va_get (D := G.1) (ci := 1) (v := .int (nI (rl + 1))) (C := RX1) (T := TX1) (N := 13) hx hb hts hin1 hown hK.1 hP 0 rfl rfl 2 (by decide) (hts (.fieldLink RX1 22 "BackLenses$Reader" "length" "I") (List.mem_of_getElem? (i := 1) rfl)) (fun _ h9 => h9) rfl dX1_put_35 ?_
    have hP := hP.sub (ws' := [oC kre 1 [.ref kbt, .ref kby, .int (nI (rl + 1)), .int (rv 0), .int (rv 1), .int (rv 2), .int (rv 3), .int (rv 4), .int (rv 5), .int (rv 6), .int (rv 7), .int (rv 8), .int (rv 9)], bA G kby 160 (upd tb rl (nI k))]) [0, 1] rfl
    have hD := hD.sub (ws' := [oC kre 1 [.ref kbt, .ref kby, .int (nI (rl + 1)), .int (rv 0), .int (rv 1), .int (rv 2), .int (rv 3), .int (rv 4), .int (rv 5), .int (rv 6), .int (rv 7), .int (rv 8), .int (rv 9)], bA G kby 160 (upd tb rl (nI k))]) [0, 1] (by decide) rfl
    refine W.iret (v := nI (rl + 1)) hx hb hr (fun t ht hW => ⟨⟨nI (rl + 1), (rl + 1, upd tb rl (nI k)), rfl, ?_, by rw [ht]; exact hP, hD⟩, hS.F ht⟩) hS.2.2 dX1_put_38
    try dsimp only
    first | exact ⟨(if_pos b7).symm, (if_pos b7).symm, (if_pos b7).symm⟩ | exact ⟨(if_neg b7).symm, (if_neg b7).symm, (if_neg b7).symm⟩
  · skip
    refine lv_bipush (v := (-3)) hx hb dX1_put_10 (by decide) ?_
    have hP := hP.sub (ws' := [oC kre 1 [.ref kbt, .ref kby, .int (nI rl), .int (rv 0), .int (rv 1), .int (rv 2), .int (rv 3), .int (rv 4), .int (rv 5), .int (rv 6), .int (rv 7), .int (rv 8), .int (rv 9)], bA G kby 160 tb]) [0, 1] rfl
    have hD := hD.sub (ws' := [oC kre 1 [.ref kbt, .ref kby, .int (nI rl), .int (rv 0), .int (rv 1), .int (rv 2), .int (rv 3), .int (rv 4), .int (rv 5), .int (rv 6), .int (rv 7), .int (rv 8), .int (rv 9)], bA G kby 160 tb]) [0, 1] (by decide) rfl
    refine W.iret (v := (-3)) hx hb hr (fun t ht hW => ⟨⟨(-3), (rl, tb), rfl, ?_, by rw [ht]; exact hP, hD⟩, hS.F ht⟩) hS.2.2 dX1_put_12
    try dsimp only
    first | exact ⟨(if_pos b7).symm, (if_pos b7).symm, (if_pos b7).symm⟩ | exact ⟨(if_neg b7).symm, (if_neg b7).symm, (if_neg b7).symm⟩

abbrev w_X1_shorten (G : XG) (kre : Nat) (kbt kby : Nat) (rl : Nat) (rv : Nat → Int32) : va_W := [oC kre 1 [.ref kbt, .ref kby, .int (nI rl), .int (rv 0), .int (rv 1), .int (rv 2), .int (rv 3), .int (rv 4), .int (rv 5), .int (rv 6), .int (rv 7), .int (rv 8), .int (rv 9)]]
abbrev Q_X1_shorten (G : XG) (sz : Nat) (kre : Nat) (kbt kby : Nat) (rl : Nat) (rv : Nat → Int32) (v : Int32) : Array Value → State → Outcome → State → Prop := (va_Qi (fun (r : Int32) (u : Nat) => r = (if inR v (rl + 1) then nI rl else (-1)) ∧ u = (if inR v (rl + 1) then v.toInt.toNat else rl)) (xWb G sz (w_X1_shorten G kre kbt kby rl rv) (fun u : Nat => [oC kre 1 [.ref kbt, .ref kby, .int (nI u), .int (rv 0), .int (rv 1), .int (rv 2), .int (rv 3), .int (rv 4), .int (rv 5), .int (rv 6), .int (rv 7), .int (rv 8), .int (rv 9)]])) (va_A (w_X1_shorten G kre kbt kby rl rv) sz))
set_option maxHeartbeats 4000000 in
set_option maxRecDepth 100000 in
theorem c_X1_shorten (l : Launch) (G : XG) (sz : Nat) (kre : Nat) (kbt kby : Nat) (rl : Nat) (rv : Nat → Int32) (v : Int32) (hrl : rl ≤ 160) : Met l yX1_shorten wsX1_shorten ({ frames := 0, cells := 0, slots := 0, locals := 0 } : Room) (va_Pc [.ref kre, .int v] (xWp G sz (w_X1_shorten G kre kbt kby rl rv))) (Q_X1_shorten G sz kre kbt kby rl rv v) 0 0 (va_A (w_X1_shorten G kre kbt kby rl rv) sz) := by
  refine Met.ofW (cc := cX1_shorten) (maxL := 3) (ret := (some .int)) (by decide) rfl ?_
  intro pp ee ss mm aa below mt cd s₁ BB hml hv
  obtain ⟨rfl, hsz, hP, hK, hD0⟩ := hv
  have hx := BB.exec
  have hb := BB.bytes
  have hr := BB.returns
  have hts := atoms_spec (ws := wsX1_shorten) BB.pre
  have hown : ss.vm.findClass RX1 = some mm.cls := findClass_of_methodNamed BB.named
  have hlocks := BB.notSynchronized
  subst hsz
  have hD := hD0.self (sz := ss.heap.size)
  have hA : ∀ q : Nat, ss.heap.size ≤ q → va_A (w_X1_shorten G kre kbt kby rl rv) ss.heap.size q := fun q h => Or.inr h
  have hS : va_S (va_A (w_X1_shorten G kre kbt kby rl rv) ss.heap.size) ss.heap ss.heap [] := va_S.rf
  replace hD : va_D (va_A (w_X1_shorten G kre kbt kby rl rv) ss.heap.size) [oC kre 1 [.ref kbt, .ref kby, .int (nI rl), .int (rv 0), .int (rv 1), .int (rv 2), .int (rv 3), .int (rv 4), .int (rv 5), .int (rv 6), .int (rv 7), .int (rv 8), .int (rv 9)]] := hD
  replace hP : xP G [oC kre 1 [.ref kbt, .ref kby, .int (nI rl), .int (rv 0), .int (rv 1), .int (rv 2), .int (rv 3), .int (rv 4), .int (rv 5), .int (rv 6), .int (rv 7), .int (rv 8), .int (rv 9)]] ss.heap := hP
  have hin1 : ∀ w ∈ u_ws RX1 TX1 13, w ∈ wsX1_shorten := fun w h => List.mem_cons_of_mem _ (List.mem_append_right _ h)
  have hl := lv_entry ([.ref kre, .int v]) (n := 3) (Nat.le_of_ble_eq_true rfl)
  rw [lg_entry_eq]
  generalize (lg_sl ([.ref kre, .int v]) ++ List.replicate (3 - (lg_sl ([.ref kre, .int v])).length) Slot.unset).toArray = ls at hl ⊢
  replace hl : lv_has ls 3 [(0, .ref kre), (1, .int v)] := hl
  refine lv_iload_n hx hb dX1_shorten_0 rfl (lv_at hl 1 rfl) ?_
  refine xi_if_lt (tgt := 12) hx hb dX1_shorten_1 rfl (fun b1 => ?_) (fun b1 => ?_)
  · skip
    refine lv_iconst (v := (-1)) hx hb dX1_shorten_12 (by decide) ?_
    have hP := hP.sub (ws' := [oC kre 1 [.ref kbt, .ref kby, .int (nI rl), .int (rv 0), .int (rv 1), .int (rv 2), .int (rv 3), .int (rv 4), .int (rv 5), .int (rv 6), .int (rv 7), .int (rv 8), .int (rv 9)]]) [0] rfl
    have hD := hD.sub (ws' := [oC kre 1 [.ref kbt, .ref kby, .int (nI rl), .int (rv 0), .int (rv 1), .int (rv 2), .int (rv 3), .int (rv 4), .int (rv 5), .int (rv 6), .int (rv 7), .int (rv 8), .int (rv 9)]]) [0] (by decide) rfl
    refine W.iret (v := (-1)) hx hb hr (fun t ht hW => ⟨⟨(-1), (rl), rfl, ?_, by rw [ht]; exact hP, hD⟩, hS.F ht⟩) hS.2.2 dX1_shorten_13
    first | (rw [if_neg (show ¬ inR _ _ by unfold inR; omega), if_neg (show ¬ inR _ _ by unfold inR; omega)]; exact ⟨rfl, rfl⟩) | (rw [if_pos (inR_nI hk (by omega)), if_pos (inR_nI hk (by omega)), nI_toInt (by omega)]; exact ⟨rfl, by omega⟩)
  · skip
    refine lv_iload_n hx hb dX1_shorten_4 rfl (lv_at hl 1 rfl) ?_
    refine lv_aload_n hx hb dX1_shorten_5 rfl (lv_at hl 0 rfl) ?_
    refine va_get (D := G.1) (ci := 1) (v := .int (nI rl)) (C := RX1) (T := TX1) (N := 13) hx hb hts hin1 hown hK.1 hP 0 rfl rfl 2 (by decide) (hts (.fieldLink RX1 22 "BackLenses$Reader" "length" "I") (List.mem_of_getElem? (i := 1) rfl)) (fun _ h9 => h9) rfl dX1_shorten_6 ?_
    refine xm_icmp_le (tgt := 14) hx hb (by omega) dX1_shorten_9 rfl (fun b9 => ?_) (fun b9 => ?_)
    · skip
      obtain ⟨k, hk, rfl⟩ := inR_nat (x := v) (n := rl + 1) (by unfold inR; omega)
      refine lv_aload_n hx hb dX1_shorten_14 rfl (lv_at hl 0 rfl) ?_
      refine va_get (D := G.1) (ci := 1) (v := .int (nI rl)) (C := RX1) (T := TX1) (N := 13) hx hb hts hin1 hown hK.1 hP 0 rfl rfl 2 (by decide) (hts (.fieldLink RX1 22 "BackLenses$Reader" "length" "I") (List.mem_of_getElem? (i := 1) rfl)) (fun _ h9 => h9) rfl dX1_shorten_15 ?_
      refine lv_istore_n (lv' := [(2, .int (nI rl)), (0, .ref kre), (1, .int (nI k))]) hx hb dX1_shorten_18 rfl hl (by decide) rfl (fun ls hl => ?_)
      refine lv_aload_n hx hb dX1_shorten_19 rfl (lv_at hl 1 rfl) ?_
      refine lv_iload_n hx hb dX1_shorten_20 rfl (lv_at hl 2 rfl) ?_
      refine va_put (D := G.1) (ci := 1) (v := .int (nI k)) (ty := .int) (C := RX1) (T := TX1) (N := 13) hx hb hts hin1 tyX1 tyX1_ok nmX1 hown hK.1 hP hD hS 0 rfl rfl 2 (by decide) (hts (.fieldLink RX1 22 "BackLenses$Reader" "length" "I") (List.mem_of_getElem? (i := 1) rfl)) (fun _ h9 => h9) rfl (by decide +kernel) rfl rfl (Nat.le_of_ble_eq_true rfl) dX1_shorten_21 (fun H locs hP hD hS => ?_)
      replace hP : xP G [oC kre 1 [.ref kbt, .ref kby, .int (nI k), .int (rv 0), .int (rv 1), .int (rv 2), .int (rv 3), .int (rv 4), .int (rv 5), .int (rv 6), .int (rv 7), .int (rv 8), .int (rv 9)]] H := hP
      replace hD : va_D (va_A (w_X1_shorten G kre kbt kby rl rv) ss.heap.size) [oC kre 1 [.ref kbt, .ref kby, .int (nI k), .int (rv 0), .int (rv 1), .int (rv 2), .int (rv 3), .int (rv 4), .int (rv 5), .int (rv 6), .int (rv 7), .int (rv 8), .int (rv 9)]] := hD
      refine lv_iload_n hx hb dX1_shorten_24 rfl (lv_at hl 0 rfl) ?_
      have hP := hP.sub (ws' := [oC kre 1 [.ref kbt, .ref kby, .int (nI k), .int (rv 0), .int (rv 1), .int (rv 2), .int (rv 3), .int (rv 4), .int (rv 5), .int (rv 6), .int (rv 7), .int (rv 8), .int (rv 9)]]) [0] rfl
      have hD := hD.sub (ws' := [oC kre 1 [.ref kbt, .ref kby, .int (nI k), .int (rv 0), .int (rv 1), .int (rv 2), .int (rv 3), .int (rv 4), .int (rv 5), .int (rv 6), .int (rv 7), .int (rv 8), .int (rv 9)]]) [0] (by decide) rfl
      refine W.iret (v := nI rl) hx hb hr (fun t ht hW => ⟨⟨nI rl, (k), rfl, ?_, by rw [ht]; exact hP, hD⟩, hS.F ht⟩) hS.2.2 dX1_shorten_25
      first | (rw [if_neg (show ¬ inR _ _ by unfold inR; omega), if_neg (show ¬ inR _ _ by unfold inR; omega)]; exact ⟨rfl, rfl⟩) | (rw [if_pos (inR_nI hk (by omega)), if_pos (inR_nI hk (by omega)), nI_toInt (by omega)]; exact ⟨rfl, by omega⟩)
    · skip
      refine lv_iconst (v := (-1)) hx hb dX1_shorten_12 (by decide) ?_
      have hP := hP.sub (ws' := [oC kre 1 [.ref kbt, .ref kby, .int (nI rl), .int (rv 0), .int (rv 1), .int (rv 2), .int (rv 3), .int (rv 4), .int (rv 5), .int (rv 6), .int (rv 7), .int (rv 8), .int (rv 9)]]) [0] rfl
      have hD := hD.sub (ws' := [oC kre 1 [.ref kbt, .ref kby, .int (nI rl), .int (rv 0), .int (rv 1), .int (rv 2), .int (rv 3), .int (rv 4), .int (rv 5), .int (rv 6), .int (rv 7), .int (rv 8), .int (rv 9)]]) [0] (by decide) rfl
      refine W.iret (v := (-1)) hx hb hr (fun t ht hW => ⟨⟨(-1), (rl), rfl, ?_, by rw [ht]; exact hP, hD⟩, hS.F ht⟩) hS.2.2 dX1_shorten_13
      first | (rw [if_neg (show ¬ inR _ _ by unfold inR; omega), if_neg (show ¬ inR _ _ by unfold inR; omega)]; exact ⟨rfl, rfl⟩) | (rw [if_pos (inR_nI hk (by omega)), if_pos (inR_nI hk (by omega)), nI_toInt (by omega)]; exact ⟨rfl, by omega⟩)

abbrev w_X5_feed (G : XG) (kx kb kim kit kv ksh kwa kta : Nat) (tf rf : Int32) (kre : Nat) (kbt kby : Nat) (rl : Nat) (rv : Nat → Int32) (tb : Nat → Int32) : va_W := [oC kx 5 [.ref kb, .ref kim, .ref kit, .ref kv, .ref kre, .int tf, .ref ksh, .int rf, .ref kwa, .ref kta], oC kre 1 [.ref kbt, .ref kby, .int (nI rl), .int (rv 0), .int (rv 1), .int (rv 2), .int (rv 3), .int (rv 4), .int (rv 5), .int (rv 6), .int (rv 7), .int (rv 8), .int (rv 9)], bA G kby 160 tb]
abbrev Q_X5_feed (G : XG) (sz : Nat) (kx kb kim kit kv ksh kwa kta : Nat) (tf rf : Int32) (kre : Nat) (kbt kby : Nat) (rl : Nat) (rv : Nat → Int32) (tb : Nat → Int32) (c : Int32) : Array Value → State → Outcome → State → Prop := (va_Qi (fun (r : Int32) (u : Nat × (Nat → Int32)) => r = (if inR c 128 then (if rl < 160 then nI (rl + 1) else (-3)) else (-1)) ∧ u.1 = (if (inR c 128 ∧ rl < 160) then rl + 1 else rl) ∧ u.2 = (if (inR c 128 ∧ rl < 160) then upd tb rl c else tb)) (xWb G sz (w_X5_feed G kx kb kim kit kv ksh kwa kta tf rf kre kbt kby rl rv tb) (fun u : Nat × (Nat → Int32) => [oC kx 5 [.ref kb, .ref kim, .ref kit, .ref kv, .ref kre, .int tf, .ref ksh, .int rf, .ref kwa, .ref kta], oC kre 1 [.ref kbt, .ref kby, .int (nI u.1), .int (rv 0), .int (rv 1), .int (rv 2), .int (rv 3), .int (rv 4), .int (rv 5), .int (rv 6), .int (rv 7), .int (rv 8), .int (rv 9)], bA G kby 160 u.2])) (va_A (w_X5_feed G kx kb kim kit kv ksh kwa kta tf rf kre kbt kby rl rv tb) sz))
set_option maxHeartbeats 4000000 in
set_option maxRecDepth 100000 in
theorem c_X5_feed (l : Launch) (G : XG) (sz : Nat) (kx kb kim kit kv ksh kwa kta : Nat) (tf rf : Int32) (kre : Nat) (kbt kby : Nat) (rl : Nat) (rv : Nat → Int32) (tb : Nat → Int32) (c : Int32) (hrl : rl ≤ 160) : Met l yX5_feed wsX5_feed ({ frames := 1, cells := 0, slots := 0, locals := 21 } : Room) (va_Pc [.ref kx, .int c] (xWp G sz (w_X5_feed G kx kb kim kit kv ksh kwa kta tf rf kre kbt kby rl rv tb))) (Q_X5_feed G sz kx kb kim kit kv ksh kwa kta tf rf kre kbt kby rl rv tb c) 0 0 (va_A (w_X5_feed G kx kb kim kit kv ksh kwa kta tf rf kre kbt kby rl rv tb) sz) := by
  refine Met.ofW (cc := cX5_feed) (maxL := 2) (ret := (some .int)) (by decide) rfl ?_
  intro pp ee ss mm aa below mt cd s₁ BB hml hv
  obtain ⟨rfl, hsz, hP, hK, hD0⟩ := hv
  have hx := BB.exec
  have hb := BB.bytes
  have hr := BB.returns
  have hts := atoms_spec (ws := wsX5_feed) BB.pre
  have hown : ss.vm.findClass RX5 = some mm.cls := findClass_of_methodNamed BB.named
  have hlocks := BB.notSynchronized
  subst hsz
  have hD := hD0.self (sz := ss.heap.size)
  have hA : ∀ q : Nat, ss.heap.size ≤ q → va_A (w_X5_feed G kx kb kim kit kv ksh kwa kta tf rf kre kbt kby rl rv tb) ss.heap.size q := fun q h => Or.inr h
  have hS : va_S (va_A (w_X5_feed G kx kb kim kit kv ksh kwa kta tf rf kre kbt kby rl rv tb) ss.heap.size) ss.heap ss.heap [] := va_S.rf
  replace hD : va_D (va_A (w_X5_feed G kx kb kim kit kv ksh kwa kta tf rf kre kbt kby rl rv tb) ss.heap.size) [oC kx 5 [.ref kb, .ref kim, .ref kit, .ref kv, .ref kre, .int tf, .ref ksh, .int rf, .ref kwa, .ref kta], oC kre 1 [.ref kbt, .ref kby, .int (nI rl), .int (rv 0), .int (rv 1), .int (rv 2), .int (rv 3), .int (rv 4), .int (rv 5), .int (rv 6), .int (rv 7), .int (rv 8), .int (rv 9)], bA G kby 160 tb] := hD
  replace hP : xP G [oC kx 5 [.ref kb, .ref kim, .ref kit, .ref kv, .ref kre, .int tf, .ref ksh, .int rf, .ref kwa, .ref kta], oC kre 1 [.ref kbt, .ref kby, .int (nI rl), .int (rv 0), .int (rv 1), .int (rv 2), .int (rv 3), .int (rv 4), .int (rv 5), .int (rv 6), .int (rv 7), .int (rv 8), .int (rv 9)], bA G kby 160 tb] ss.heap := hP
  have hin1 : ∀ w ∈ u_ws RX1 TX1 13, w ∈ wsX5_feed := fun w h => List.mem_cons_of_mem _ (List.mem_append_right _ h)
  have hin5 : ∀ w ∈ u_ws RX5 TX5 10, w ∈ wsX5_feed := fun w h => List.mem_cons_of_mem _ (List.mem_append_left _ (List.mem_append_right _ h))
  have hl := lv_entry ([.ref kx, .int c]) (n := 2) (Nat.le_of_ble_eq_true rfl)
  rw [lg_entry_eq]
  generalize (lg_sl ([.ref kx, .int c]) ++ List.replicate (2 - (lg_sl ([.ref kx, .int c])).length) Slot.unset).toArray = ls at hl ⊢
  replace hl : lv_has ls 2 [(0, .ref kx), (1, .int c)] := hl
  refine lv_iload_n hx hb dX5_feed_0 rfl (lv_at hl 1 rfl) ?_
  refine xi_if_lt (tgt := 10) hx hb dX5_feed_1 rfl (fun b1 => ?_) (fun b1 => ?_)
  · skip
    refine lv_iconst (v := (-1)) hx hb dX5_feed_10 (by decide) ?_
    have hP := hP.sub (ws' := [oC kx 5 [.ref kb, .ref kim, .ref kit, .ref kv, .ref kre, .int tf, .ref ksh, .int rf, .ref kwa, .ref kta], oC kre 1 [.ref kbt, .ref kby, .int (nI rl), .int (rv 0), .int (rv 1), .int (rv 2), .int (rv 3), .int (rv 4), .int (rv 5), .int (rv 6), .int (rv 7), .int (rv 8), .int (rv 9)], bA G kby 160 tb]) [0, 1, 2] rfl
    have hD := hD.sub (ws' := [oC kx 5 [.ref kb, .ref kim, .ref kit, .ref kv, .ref kre, .int tf, .ref ksh, .int rf, .ref kwa, .ref kta], oC kre 1 [.ref kbt, .ref kby, .int (nI rl), .int (rv 0), .int (rv 1), .int (rv 2), .int (rv 3), .int (rv 4), .int (rv 5), .int (rv 6), .int (rv 7), .int (rv 8), .int (rv 9)], bA G kby 160 tb]) [0, 1, 2] (by decide) rfl
    refine W.iret (v := (-1)) hx hb hr (fun t ht hW => ⟨⟨(-1), (rl, tb), rfl, ?_, by rw [ht]; exact hP, hD⟩, hS.F ht⟩) hS.2.2 dX5_feed_11
    try dsimp only
    first | exact ⟨(if_neg (show ¬ inR c 128 by unfold inR; omega)).symm, (if_neg (fun q => (show ¬ inR c 128 by unfold inR; omega) q.1)).symm, (if_neg (fun q => (show ¬ inR c 128 by unfold inR; omega) q.1)).symm⟩ | exact ⟨(if_pos hcc).symm, (by by_cases hq : rl < 160; (rw [if_pos hq]; exact (if_pos ⟨hcc, hq⟩).symm); (rw [if_neg hq]; exact (if_neg (fun q => hq q.2)).symm)), (by by_cases hq : rl < 160; (rw [if_pos hq]; exact (if_pos ⟨hcc, hq⟩).symm); (rw [if_neg hq]; exact (if_neg (fun q => hq q.2)).symm))⟩
  · skip
    refine lv_iload_n hx hb dX5_feed_4 rfl (lv_at hl 1 rfl) ?_
    refine lv_bipush (v := nI 127) hx hb dX5_feed_5 (by decide) ?_
    refine xm_icmp_le (tgt := 12) hx hb (by omega) dX5_feed_7 rfl (fun b7 => ?_) (fun b7 => ?_)
    · skip
      have hcc : inR c 128 := (by unfold inR; omega)
      obtain ⟨c0, hc0, rfl⟩ := inR_nat hcc
      refine lv_aload_n hx hb dX5_feed_12 rfl (lv_at hl 0 rfl) ?_
      refine va_get (D := G.1) (ci := 5) (v := .ref kre) (C := RX5) (T := TX5) (N := 10) hx hb hts hin5 hown hK.1 hP 0 rfl rfl 4 (by decide) (hts (.fieldLink RX5 34 "BackLenses" "reader" "LBackLenses$Reader;") (List.mem_of_getElem? (i := 1) rfl)) (fun _ h9 => h9) rfl dX5_feed_13 ?_
      refine lv_iload_n hx hb dX5_feed_16 rfl (lv_at hl 1 rfl) ?_
      refine xw_i (As := [.int (nI c0)]) (rest := []) (wr := [oC kx 5 [.ref kb, .ref kim, .ref kit, .ref kv, .ref kre, .int tf, .ref ksh, .int rf, .ref kwa, .ref kta]]) ⟨hx, hb, hml, hown, hts⟩ (c_X1_put l G ss.heap.size kre kbt kby rl rv tb c0 (by first | assumption | omega) (by first | assumption | omega)) (cwV 1 hts gX5_feed_X1_put rfl rfl rfl (by decide +kernel) ⟨Nat.le_of_ble_eq_true rfl, Nat.le_of_ble_eq_true rfl⟩) hK hP hD hS hA [1, 2] [0] rfl rfl (by decide) (by decide) (by decide) rfl rfl rfl hl.1 rfl (Nat.le_of_ble_eq_true rfl) dX5_feed_17 ⟨Nat.le_of_ble_eq_true rfl, Nat.le_of_ble_eq_true rfl⟩ (fun r17 u H locs hp17 hP hD hS => ?_)
      obtain ⟨u0_17, u1_17⟩ := u
      try dsimp only at hp17 hP hD
      obtain ⟨rfl, rfl, rfl⟩ := hp17
      replace hP : xP G [oC kx 5 [.ref kb, .ref kim, .ref kit, .ref kv, .ref kre, .int tf, .ref ksh, .int rf, .ref kwa, .ref kta], oC kre 1 [.ref kbt, .ref kby, .int (nI (if rl < 160 then rl + 1 else rl)), .int (rv 0), .int (rv 1), .int (rv 2), .int (rv 3), .int (rv 4), .int (rv 5), .int (rv 6), .int (rv 7), .int (rv 8), .int (rv 9)], bA G kby 160 (if rl < 160 then upd tb rl (nI c0) else tb)] H := hP
      replace hD : va_D (va_A (w_X5_feed G kx kb kim kit kv ksh kwa kta tf rf kre kbt kby rl rv tb) ss.heap.size) [oC kx 5 [.ref kb, .ref kim, .ref kit, .ref kv, .ref kre, .int tf, .ref ksh, .int rf, .ref kwa, .ref kta], oC kre 1 [.ref kbt, .ref kby, .int (nI (if rl < 160 then rl + 1 else rl)), .int (rv 0), .int (rv 1), .int (rv 2), .int (rv 3), .int (rv 4), .int (rv 5), .int (rv 6), .int (rv 7), .int (rv 8), .int (rv 9)], bA G kby 160 (if rl < 160 then upd tb rl (nI c0) else tb)] := hD
      have hP := hP.sub (ws' := [oC kx 5 [.ref kb, .ref kim, .ref kit, .ref kv, .ref kre, .int tf, .ref ksh, .int rf, .ref kwa, .ref kta], oC kre 1 [.ref kbt, .ref kby, .int (nI (if rl < 160 then rl + 1 else rl)), .int (rv 0), .int (rv 1), .int (rv 2), .int (rv 3), .int (rv 4), .int (rv 5), .int (rv 6), .int (rv 7), .int (rv 8), .int (rv 9)], bA G kby 160 (if rl < 160 then upd tb rl (nI c0) else tb)]) [0, 1, 2] rfl
      have hD := hD.sub (ws' := [oC kx 5 [.ref kb, .ref kim, .ref kit, .ref kv, .ref kre, .int tf, .ref ksh, .int rf, .ref kwa, .ref kta], oC kre 1 [.ref kbt, .ref kby, .int (nI (if rl < 160 then rl + 1 else rl)), .int (rv 0), .int (rv 1), .int (rv 2), .int (rv 3), .int (rv 4), .int (rv 5), .int (rv 6), .int (rv 7), .int (rv 8), .int (rv 9)], bA G kby 160 (if rl < 160 then upd tb rl (nI c0) else tb)]) [0, 1, 2] (by decide) rfl
      refine W.iret (v := (if rl < 160 then nI (rl + 1) else (-3))) hx hb hr (fun t ht hW => ⟨⟨(if rl < 160 then nI (rl + 1) else (-3)), ((if rl < 160 then rl + 1 else rl), (if rl < 160 then upd tb rl (nI c0) else tb)), rfl, ?_, by rw [ht]; exact hP, hD⟩, hS.F ht⟩) hS.2.2 dX5_feed_20
      try dsimp only
      first | exact ⟨(if_neg (show ¬ inR c 128 by unfold inR; omega)).symm, (if_neg (fun q => (show ¬ inR c 128 by unfold inR; omega) q.1)).symm, (if_neg (fun q => (show ¬ inR c 128 by unfold inR; omega) q.1)).symm⟩ | exact ⟨(if_pos hcc).symm, (by by_cases hq : rl < 160; (rw [if_pos hq]; exact (if_pos ⟨hcc, hq⟩).symm); (rw [if_neg hq]; exact (if_neg (fun q => hq q.2)).symm)), (by by_cases hq : rl < 160; (rw [if_pos hq]; exact (if_pos ⟨hcc, hq⟩).symm); (rw [if_neg hq]; exact (if_neg (fun q => hq q.2)).symm))⟩
    · skip
      refine lv_iconst (v := (-1)) hx hb dX5_feed_10 (by decide) ?_
      have hP := hP.sub (ws' := [oC kx 5 [.ref kb, .ref kim, .ref kit, .ref kv, .ref kre, .int tf, .ref ksh, .int rf, .ref kwa, .ref kta], oC kre 1 [.ref kbt, .ref kby, .int (nI rl), .int (rv 0), .int (rv 1), .int (rv 2), .int (rv 3), .int (rv 4), .int (rv 5), .int (rv 6), .int (rv 7), .int (rv 8), .int (rv 9)], bA G kby 160 tb]) [0, 1, 2] rfl
      have hD := hD.sub (ws' := [oC kx 5 [.ref kb, .ref kim, .ref kit, .ref kv, .ref kre, .int tf, .ref ksh, .int rf, .ref kwa, .ref kta], oC kre 1 [.ref kbt, .ref kby, .int (nI rl), .int (rv 0), .int (rv 1), .int (rv 2), .int (rv 3), .int (rv 4), .int (rv 5), .int (rv 6), .int (rv 7), .int (rv 8), .int (rv 9)], bA G kby 160 tb]) [0, 1, 2] (by decide) rfl
      refine W.iret (v := (-1)) hx hb hr (fun t ht hW => ⟨⟨(-1), (rl, tb), rfl, ?_, by rw [ht]; exact hP, hD⟩, hS.F ht⟩) hS.2.2 dX5_feed_11
      try dsimp only
      first | exact ⟨(if_neg (show ¬ inR c 128 by unfold inR; omega)).symm, (if_neg (fun q => (show ¬ inR c 128 by unfold inR; omega) q.1)).symm, (if_neg (fun q => (show ¬ inR c 128 by unfold inR; omega) q.1)).symm⟩ | exact ⟨(if_pos hcc).symm, (by by_cases hq : rl < 160; (rw [if_pos hq]; exact (if_pos ⟨hcc, hq⟩).symm); (rw [if_neg hq]; exact (if_neg (fun q => hq q.2)).symm)), (by by_cases hq : rl < 160; (rw [if_pos hq]; exact (if_pos ⟨hcc, hq⟩).symm); (rw [if_neg hq]; exact (if_neg (fun q => hq q.2)).symm))⟩

abbrev w_X5_end (G : XG) (kx kb kim kit kv ksh kwa kta : Nat) (tf rf : Int32) (kre : Nat) (kbt kby : Nat) (rl : Nat) (rv : Nat → Int32) : va_W := [oC kx 5 [.ref kb, .ref kim, .ref kit, .ref kv, .ref kre, .int tf, .ref ksh, .int rf, .ref kwa, .ref kta], oC kre 1 [.ref kbt, .ref kby, .int (nI rl), .int (rv 0), .int (rv 1), .int (rv 2), .int (rv 3), .int (rv 4), .int (rv 5), .int (rv 6), .int (rv 7), .int (rv 8), .int (rv 9)]]
abbrev Q_X5_end (G : XG) (sz : Nat) (kx kb kim kit kv ksh kwa kta : Nat) (tf rf : Int32) (kre : Nat) (kbt kby : Nat) (rl : Nat) (rv : Nat → Int32) (v : Int32) : Array Value → State → Outcome → State → Prop := (va_Qi (fun (r : Int32) (u : Nat) => r = (if inR v (rl + 1) then nI rl else (-1)) ∧ u = (if inR v (rl + 1) then v.toInt.toNat else rl)) (xWb G sz (w_X5_end G kx kb kim kit kv ksh kwa kta tf rf kre kbt kby rl rv) (fun u : Nat => [oC kx 5 [.ref kb, .ref kim, .ref kit, .ref kv, .ref kre, .int tf, .ref ksh, .int rf, .ref kwa, .ref kta], oC kre 1 [.ref kbt, .ref kby, .int (nI u), .int (rv 0), .int (rv 1), .int (rv 2), .int (rv 3), .int (rv 4), .int (rv 5), .int (rv 6), .int (rv 7), .int (rv 8), .int (rv 9)]])) (va_A (w_X5_end G kx kb kim kit kv ksh kwa kta tf rf kre kbt kby rl rv) sz))
set_option maxHeartbeats 4000000 in
set_option maxRecDepth 100000 in
theorem c_X5_end (l : Launch) (G : XG) (sz : Nat) (kx kb kim kit kv ksh kwa kta : Nat) (tf rf : Int32) (kre : Nat) (kbt kby : Nat) (rl : Nat) (rv : Nat → Int32) (v : Int32) (hrl : rl ≤ 160) : Met l yX5_end wsX5_end ({ frames := 1, cells := 0, slots := 0, locals := 22 } : Room) (va_Pc [.ref kx, .int v] (xWp G sz (w_X5_end G kx kb kim kit kv ksh kwa kta tf rf kre kbt kby rl rv))) (Q_X5_end G sz kx kb kim kit kv ksh kwa kta tf rf kre kbt kby rl rv v) 0 0 (va_A (w_X5_end G kx kb kim kit kv ksh kwa kta tf rf kre kbt kby rl rv) sz) := by
  refine Met.ofW (cc := cX5_end) (maxL := 2) (ret := (some .int)) (by decide) rfl ?_
  intro pp ee ss mm aa below mt cd s₁ BB hml hv
  obtain ⟨rfl, hsz, hP, hK, hD0⟩ := hv
  have hx := BB.exec
  have hb := BB.bytes
  have hr := BB.returns
  have hts := atoms_spec (ws := wsX5_end) BB.pre
  have hown : ss.vm.findClass RX5 = some mm.cls := findClass_of_methodNamed BB.named
  have hlocks := BB.notSynchronized
  subst hsz
  have hD := hD0.self (sz := ss.heap.size)
  have hA : ∀ q : Nat, ss.heap.size ≤ q → va_A (w_X5_end G kx kb kim kit kv ksh kwa kta tf rf kre kbt kby rl rv) ss.heap.size q := fun q h => Or.inr h
  have hS : va_S (va_A (w_X5_end G kx kb kim kit kv ksh kwa kta tf rf kre kbt kby rl rv) ss.heap.size) ss.heap ss.heap [] := va_S.rf
  replace hD : va_D (va_A (w_X5_end G kx kb kim kit kv ksh kwa kta tf rf kre kbt kby rl rv) ss.heap.size) [oC kx 5 [.ref kb, .ref kim, .ref kit, .ref kv, .ref kre, .int tf, .ref ksh, .int rf, .ref kwa, .ref kta], oC kre 1 [.ref kbt, .ref kby, .int (nI rl), .int (rv 0), .int (rv 1), .int (rv 2), .int (rv 3), .int (rv 4), .int (rv 5), .int (rv 6), .int (rv 7), .int (rv 8), .int (rv 9)]] := hD
  replace hP : xP G [oC kx 5 [.ref kb, .ref kim, .ref kit, .ref kv, .ref kre, .int tf, .ref ksh, .int rf, .ref kwa, .ref kta], oC kre 1 [.ref kbt, .ref kby, .int (nI rl), .int (rv 0), .int (rv 1), .int (rv 2), .int (rv 3), .int (rv 4), .int (rv 5), .int (rv 6), .int (rv 7), .int (rv 8), .int (rv 9)]] ss.heap := hP
  have hin1 : ∀ w ∈ u_ws RX1 TX1 13, w ∈ wsX5_end := fun w h => List.mem_cons_of_mem _ (List.mem_append_right _ h)
  have hin5 : ∀ w ∈ u_ws RX5 TX5 10, w ∈ wsX5_end := fun w h => List.mem_cons_of_mem _ (List.mem_append_left _ (List.mem_append_right _ h))
  have hl := lv_entry ([.ref kx, .int v]) (n := 2) (Nat.le_of_ble_eq_true rfl)
  rw [lg_entry_eq]
  generalize (lg_sl ([.ref kx, .int v]) ++ List.replicate (2 - (lg_sl ([.ref kx, .int v])).length) Slot.unset).toArray = ls at hl ⊢
  replace hl : lv_has ls 2 [(0, .ref kx), (1, .int v)] := hl
  refine lv_aload_n hx hb dX5_end_0 rfl (lv_at hl 0 rfl) ?_
  refine va_get (D := G.1) (ci := 5) (v := .ref kre) (C := RX5) (T := TX5) (N := 10) hx hb hts hin5 hown hK.1 hP 0 rfl rfl 4 (by decide) (hts (.fieldLink RX5 34 "BackLenses" "reader" "LBackLenses$Reader;") (List.mem_of_getElem? (i := 1) rfl)) (fun _ h9 => h9) rfl dX5_end_1 ?_
  refine lv_iload_n hx hb dX5_end_4 rfl (lv_at hl 1 rfl) ?_
  refine xw_i (As := [.int v]) (rest := []) (wr := [oC kx 5 [.ref kb, .ref kim, .ref kit, .ref kv, .ref kre, .int tf, .ref ksh, .int rf, .ref kwa, .ref kta]]) ⟨hx, hb, hml, hown, hts⟩ (c_X1_shorten l G ss.heap.size kre kbt kby rl rv v (by first | assumption | omega)) (cwV 1 hts gX5_end_X1_shorten rfl rfl rfl (by decide +kernel) ⟨Nat.le_of_ble_eq_true rfl, Nat.le_of_ble_eq_true rfl⟩) hK hP hD hS hA [1] [0] rfl rfl (by decide) (by decide) (by decide) rfl rfl rfl hl.1 rfl (Nat.le_of_ble_eq_true rfl) dX5_end_5 ⟨Nat.le_of_ble_eq_true rfl, Nat.le_of_ble_eq_true rfl⟩ (fun r5 u H locs hp5 hP hD hS => ?_)
  obtain ⟨u0_5, rfl⟩ : ∃ z, z = u := ⟨_, rfl⟩
  try dsimp only at hp5 hP hD
  obtain ⟨rfl, rfl⟩ := hp5
  replace hP : xP G [oC kx 5 [.ref kb, .ref kim, .ref kit, .ref kv, .ref kre, .int tf, .ref ksh, .int rf, .ref kwa, .ref kta], oC kre 1 [.ref kbt, .ref kby, .int (nI (if inR v (rl + 1) then v.toInt.toNat else rl)), .int (rv 0), .int (rv 1), .int (rv 2), .int (rv 3), .int (rv 4), .int (rv 5), .int (rv 6), .int (rv 7), .int (rv 8), .int (rv 9)]] H := hP
  replace hD : va_D (va_A (w_X5_end G kx kb kim kit kv ksh kwa kta tf rf kre kbt kby rl rv) ss.heap.size) [oC kx 5 [.ref kb, .ref kim, .ref kit, .ref kv, .ref kre, .int tf, .ref ksh, .int rf, .ref kwa, .ref kta], oC kre 1 [.ref kbt, .ref kby, .int (nI (if inR v (rl + 1) then v.toInt.toNat else rl)), .int (rv 0), .int (rv 1), .int (rv 2), .int (rv 3), .int (rv 4), .int (rv 5), .int (rv 6), .int (rv 7), .int (rv 8), .int (rv 9)]] := hD
  have hP := hP.sub (ws' := [oC kx 5 [.ref kb, .ref kim, .ref kit, .ref kv, .ref kre, .int tf, .ref ksh, .int rf, .ref kwa, .ref kta], oC kre 1 [.ref kbt, .ref kby, .int (nI (if inR v (rl + 1) then v.toInt.toNat else rl)), .int (rv 0), .int (rv 1), .int (rv 2), .int (rv 3), .int (rv 4), .int (rv 5), .int (rv 6), .int (rv 7), .int (rv 8), .int (rv 9)]]) [0, 1] rfl
  have hD := hD.sub (ws' := [oC kx 5 [.ref kb, .ref kim, .ref kit, .ref kv, .ref kre, .int tf, .ref ksh, .int rf, .ref kwa, .ref kta], oC kre 1 [.ref kbt, .ref kby, .int (nI (if inR v (rl + 1) then v.toInt.toNat else rl)), .int (rv 0), .int (rv 1), .int (rv 2), .int (rv 3), .int (rv 4), .int (rv 5), .int (rv 6), .int (rv 7), .int (rv 8), .int (rv 9)]]) [0, 1] (by decide) rfl
  refine W.iret (v := (if inR v (rl + 1) then nI rl else (-1))) hx hb hr (fun t ht hW => ⟨⟨(if inR v (rl + 1) then nI rl else (-1)), ((if inR v (rl + 1) then v.toInt.toNat else rl)), rfl, ?_, by rw [ht]; exact hP, hD⟩, hS.F ht⟩) hS.2.2 dX5_end_8
  exact ⟨rfl, rfl⟩

abbrev w_X5_read (G : XG) (kx kim kit kre ksh kwa kta : Nat) (tf rf : Int32) (kb ka kc kcn kl kn : Nat) (w h la nc : Nat) (fc : Nat → Int32) (kv km kg : Nat) (vw vh : Nat) (sl : Int32) (gs : Nat → Option Nat) (ks ksc : Nat) (ln sz0 : Int32) (f : Nat → Int32) : va_W := [oC kx 5 [.ref kb, .ref kim, .ref kit, .ref kv, .ref kre, .int tf, .ref ksh, .int rf, .ref kwa, .ref kta], oC kb 0 [.int (nI w), .int (nI h), .int (nI la), .ref ka, .ref kc, .ref kl, .ref kn], oC kc 2 [.ref kcn, .int (nI 10), .int (nI nc)], iA G kcn (3 * 10) fc, oC kv 4 [.ref km, .ref kg, .int (nI vw), .int (nI vh), .int sl], sA G ksh 4 gs, oC ks 3 [.ref ksc, .int ln, .int sz0], iA G ksc 40 f]
abbrev Q_X5_read (G : XG) (sz : Nat) (kx kim kit kre ksh kwa kta : Nat) (tf rf : Int32) (kb ka kc kcn kl kn : Nat) (w h la nc : Nat) (fc : Nat → Int32) (kv km kg : Nat) (vw vh : Nat) (sl : Int32) (gs : Nat → Option Nat) (ks ksc : Nat) (ln sz0 : Int32) (f : Nat → Int32) (j : Nat) (lane f0 : Int32) (n : Nat) : Array Value → State → Outcome → State → Prop := (va_Qi (fun (r : Int32) (u : Nat × (Nat → Int32) × Int32) => r = (match (rdF la (w * h) sz0 f f0 n 0 (if sz0 = (-1) ∨ ln = lane then nI 0 else nI 3) nc fc).1 with | some i => (-20) - nI i | none => nI ((rdF la (w * h) sz0 f f0 n 0 (if sz0 = (-1) ∨ ln = lane then nI 0 else nI 3) nc fc).2.2.1 - nc)) ∧ u.1 = (match (rdF la (w * h) sz0 f f0 n 0 (if sz0 = (-1) ∨ ln = lane then nI 0 else nI 3) nc fc).1 with | some _ => nc | none => (rdF la (w * h) sz0 f f0 n 0 (if sz0 = (-1) ∨ ln = lane then nI 0 else nI 3) nc fc).2.2.1) ∧ u.2.1 = (rdF la (w * h) sz0 f f0 n 0 (if sz0 = (-1) ∨ ln = lane then nI 0 else nI 3) nc fc).2.2.2 ∧ u.2.2 = (match (rdF la (w * h) sz0 f f0 n 0 (if sz0 = (-1) ∨ ln = lane then nI 0 else nI 3) nc fc).1 with | some _ => rf | none => (rdF la (w * h) sz0 f f0 n 0 (if sz0 = (-1) ∨ ln = lane then nI 0 else nI 3) nc fc).2.1)) (xWb G sz (w_X5_read G kx kim kit kre ksh kwa kta tf rf kb ka kc kcn kl kn w h la nc fc kv km kg vw vh sl gs ks ksc ln sz0 f) (fun u : Nat × (Nat → Int32) × Int32 => [oC kx 5 [.ref kb, .ref kim, .ref kit, .ref kv, .ref kre, .int tf, .ref ksh, .int u.2.2, .ref kwa, .ref kta], oC kb 0 [.int (nI w), .int (nI h), .int (nI la), .ref ka, .ref kc, .ref kl, .ref kn], oC kc 2 [.ref kcn, .int (nI 10), .int (nI u.1)], iA G kcn (3 * 10) u.2.1, oC kv 4 [.ref km, .ref kg, .int (nI vw), .int (nI vh), .int (nI 1)], sA G ksh 4 gs, oC ks 3 [.ref ksc, .int ln, .int sz0], iA G ksc 40 f])) (va_A (w_X5_read G kx kim kit kre ksh kwa kta tf rf kb ka kc kcn kl kn w h la nc fc kv km kg vw vh sl gs ks ksc ln sz0 f) sz))
set_option maxHeartbeats 4000000 in
set_option maxRecDepth 100000 in
theorem c_X5_read (l : Launch) (G : XG) (sz : Nat) (kx kim kit kre ksh kwa kta : Nat) (tf rf : Int32) (kb ka kc kcn kl kn : Nat) (w h la nc : Nat) (fc : Nat → Int32) (kv km kg : Nat) (vw vh : Nat) (sl : Int32) (gs : Nat → Option Nat) (ks ksc : Nat) (ln sz0 : Int32) (f : Nat → Int32) (j : Nat) (lane f0 : Int32) (n : Nat) (hj : j < 4) (hgj : gs j = some ks) (hlane : inR lane 3) (hn : n ≤ 13) (hsz : sz0.toInt ≤ 40) (hwh : w * h ≤ 16) (hla : la ≤ 9) (hnc : nc ≤ 10) : Met l yX5_read wsX5_read ({ frames := 3, cells := 0, slots := 0, locals := 63 } : Room) (va_Pc [.ref kx, .int (nI j), .int lane, .int f0, .int (nI n)] (xWp G sz (w_X5_read G kx kim kit kre ksh kwa kta tf rf kb ka kc kcn kl kn w h la nc fc kv km kg vw vh sl gs ks ksc ln sz0 f))) (Q_X5_read G sz kx kim kit kre ksh kwa kta tf rf kb ka kc kcn kl kn w h la nc fc kv km kg vw vh sl gs ks ksc ln sz0 f j lane f0 n) 0 0 (va_A (w_X5_read G kx kim kit kre ksh kwa kta tf rf kb ka kc kcn kl kn w h la nc fc kv km kg vw vh sl gs ks ksc ln sz0 f) sz) := by
  refine Met.ofW (cc := cX5_read) (maxL := 10) (ret := (some .int)) (by decide) rfl ?_
  intro pp ee ss mm aa below mt cd s₁ BB hml hv
  obtain ⟨rfl, hsz, hP, hK, hD0⟩ := hv
  have hx := BB.exec
  have hb := BB.bytes
  have hr := BB.returns
  have hts := atoms_spec (ws := wsX5_read) BB.pre
  have hown : ss.vm.findClass RX5 = some mm.cls := findClass_of_methodNamed BB.named
  have hlocks := BB.notSynchronized
  subst hsz
  have hD := hD0.self (sz := ss.heap.size)
  have hA : ∀ q : Nat, ss.heap.size ≤ q → va_A (w_X5_read G kx kim kit kre ksh kwa kta tf rf kb ka kc kcn kl kn w h la nc fc kv km kg vw vh sl gs ks ksc ln sz0 f) ss.heap.size q := fun q h => Or.inr h
  have hS : va_S (va_A (w_X5_read G kx kim kit kre ksh kwa kta tf rf kb ka kc kcn kl kn w h la nc fc kv km kg vw vh sl gs ks ksc ln sz0 f) ss.heap.size) ss.heap ss.heap [] := va_S.rf
  replace hD : va_D (va_A (w_X5_read G kx kim kit kre ksh kwa kta tf rf kb ka kc kcn kl kn w h la nc fc kv km kg vw vh sl gs ks ksc ln sz0 f) ss.heap.size) [oC kx 5 [.ref kb, .ref kim, .ref kit, .ref kv, .ref kre, .int tf, .ref ksh, .int rf, .ref kwa, .ref kta], oC kb 0 [.int (nI w), .int (nI h), .int (nI la), .ref ka, .ref kc, .ref kl, .ref kn], oC kc 2 [.ref kcn, .int (nI 10), .int (nI nc)], iA G kcn (3 * 10) fc, oC kv 4 [.ref km, .ref kg, .int (nI vw), .int (nI vh), .int sl], sA G ksh 4 gs, oC ks 3 [.ref ksc, .int ln, .int sz0], iA G ksc 40 f] := hD
  replace hP : xP G [oC kx 5 [.ref kb, .ref kim, .ref kit, .ref kv, .ref kre, .int tf, .ref ksh, .int rf, .ref kwa, .ref kta], oC kb 0 [.int (nI w), .int (nI h), .int (nI la), .ref ka, .ref kc, .ref kl, .ref kn], oC kc 2 [.ref kcn, .int (nI 10), .int (nI nc)], iA G kcn (3 * 10) fc, oC kv 4 [.ref km, .ref kg, .int (nI vw), .int (nI vh), .int sl], sA G ksh 4 gs, oC ks 3 [.ref ksc, .int ln, .int sz0], iA G ksc 40 f] ss.heap := hP
  have hin0 : ∀ w ∈ u_ws RX0 TX0 7, w ∈ wsX5_read := fun w h => List.mem_cons_of_mem _ (List.mem_append_left _ (List.mem_append_left _ (List.mem_append_left _ (List.mem_append_right _ h))))
  have hin2 : ∀ w ∈ u_ws RX2 TX2 3, w ∈ wsX5_read := fun w h => List.mem_cons_of_mem _ (List.mem_append_left _ (List.mem_append_left _ (List.mem_append_right _ h)))
  have hin3 : ∀ w ∈ u_ws RX3 TX3 3, w ∈ wsX5_read := fun w h => List.mem_cons_of_mem _ (List.mem_append_right _ h)
  have hin4 : ∀ w ∈ u_ws RX4 TX4 5, w ∈ wsX5_read := fun w h => List.mem_cons_of_mem _ (List.mem_append_left _ (List.mem_append_right _ h))
  have hin5 : ∀ w ∈ u_ws RX5 TX5 10, w ∈ wsX5_read := fun w h => List.mem_cons_of_mem _ (List.mem_append_left _ (List.mem_append_left _ (List.mem_append_left _ (List.mem_append_left _ (List.mem_append_right _ h)))))
  have hl := lv_entry ([.ref kx, .int (nI j), .int lane, .int f0, .int (nI n)]) (n := 10) (Nat.le_of_ble_eq_true rfl)
  rw [lg_entry_eq]
  generalize (lg_sl ([.ref kx, .int (nI j), .int lane, .int f0, .int (nI n)]) ++ List.replicate (10 - (lg_sl ([.ref kx, .int (nI j), .int lane, .int f0, .int (nI n)])).length) Slot.unset).toArray = ls at hl ⊢
  replace hl : lv_has ls 10 [(0, .ref kx), (1, .int (nI j)), (2, .int lane), (3, .int f0), (4, .int (nI n))] := hl
  refine lv_iload_n hx hb dX5_read_0 rfl (lv_at hl 1 rfl) ?_
  refine xs_i (As := [.int (nI j)]) (rest := []) ⟨hx, hb, hml, hown, hts⟩ (c_X5_isSheet l G (nI j) ) (va_cwS 1 hts gX5_read_X5_isSheet rfl rfl rfl (by decide +kernel) ⟨Nat.le_of_ble_eq_true rfl, Nat.le_of_ble_eq_true rfl⟩) hP hS rfl hl.1 rfl (Nat.le_of_ble_eq_true rfl) dX5_read_1 ⟨Nat.zero_le _, Nat.zero_le _⟩ (fun r1 H locs hp1 hP hS => ?_)
  rw [show r1 = _ from hp1]
  refine xb_if_eq (tgt := 26) hx hb dX5_read_4 rfl (fun b4 => absurd b4 (by exact fun q => q (inR_nI hj (by omega)))) (fun _ => ?_)
  refine lv_iload_n hx hb dX5_read_7 rfl (lv_at hl 2 rfl) ?_
  refine xs_i (As := [.int lane]) (rest := []) ⟨hx, hb, hml, hown, hts⟩ (c_X5_isLane l G lane ) (va_cwS 1 hts gX5_read_X5_isLane rfl rfl rfl (by decide +kernel) ⟨Nat.le_of_ble_eq_true rfl, Nat.le_of_ble_eq_true rfl⟩) hP hS rfl hl.1 rfl (Nat.le_of_ble_eq_true rfl) dX5_read_8 ⟨Nat.zero_le _, Nat.zero_le _⟩ (fun r8 H locs hp8 hP hS => ?_)
  rw [show r8 = _ from hp8]
  refine xb_if_eq (tgt := 26) hx hb dX5_read_11 rfl (fun b11 => absurd b11 (by exact fun q => q hlane)) (fun _ => ?_)
  refine lv_iload hx hb dX5_read_14 (lv_at hl 4 rfl) ?_
  refine xn_if_lt (tgt := 26) hx hb (by omega) dX5_read_16 rfl (fun b16 => absurd b16 (by omega)) (fun _ => ?_)
  refine lv_iload hx hb dX5_read_19 (lv_at hl 4 rfl) ?_
  refine lv_bipush (v := nI 13) hx hb dX5_read_21 (by decide) ?_
  refine xn_icmp_le (tgt := 28) hx hb (by omega) (by omega) dX5_read_23 rfl (fun _ => ?_) (fun b23 => absurd b23 (by omega))
  refine lv_aload_n hx hb dX5_read_28 rfl (lv_at hl 0 rfl) ?_
  refine va_get (D := G.1) (ci := 5) (v := .ref ksh) (C := RX5) (T := TX5) (N := 10) hx hb hts hin5 hown hK.1 hP 0 rfl rfl 6 (by decide) (hts (.fieldLink RX5 40 "BackLenses" "sheets" "[LBackLenses$Sheet;") (List.mem_of_getElem? (i := 1) rfl)) (fun _ h9 => h9) rfl dX5_read_29 ?_
  refine lv_iload_n hx hb dX5_read_32 rfl (lv_at hl 1 rfl) ?_
  refine xn_aalds hx hb hK hP 5 rfl (by omega) (by omega) (show _ = some ks by assumption) dX5_read_33 ?_
  refine lv_astore (lv' := [(5, .ref ks), (0, .ref kx), (1, .int (nI j)), (2, .int lane), (3, .int f0), (4, .int (nI n))]) hx hb dX5_read_34 hl (by decide) rfl (fun ls hl => ?_)
  refine lv_aload_n hx hb dX5_read_36 rfl (lv_at hl 1 rfl) ?_
  refine va_get (D := G.1) (ci := 5) (v := .ref kb) (C := RX5) (T := TX5) (N := 10) hx hb hts hin5 hown hK.1 hP 0 rfl rfl 0 (by decide) (hts (.fieldLink RX5 10 "BackLenses" "book" "LBackLenses$Book;") (List.mem_of_getElem? (i := 2) rfl)) (fun _ h9 => h9) rfl dX5_read_37 ?_
  refine va_getN (D := G.1) (ci := 0) (v := .ref kc) (C := RX0) (T := TX0) (N := 7) hx hb hts hin0 hown hK.1 hP 1 rfl rfl 4 (by decide) (va_Nw.use rfl (hK.2 (Cond.fieldLinkNest "BackLenses" (93 : Nat) "BackLenses$Book" "changes" "LBackLenses$Rows;" "BackLenses") (List.mem_of_getElem? (i := 18) rfl))) (fun _ h9 => h9) rfl dX5_read_40 ?_
  refine va_getN (D := G.1) (ci := 2) (v := .int (nI nc)) (C := RX2) (T := TX2) (N := 3) hx hb hts hin2 hown hK.1 hP 2 rfl rfl 2 (by decide) (va_Nw.use rfl (hK.2 (Cond.fieldLinkNest "BackLenses" (97 : Nat) "BackLenses$Rows" "size" "I" "BackLenses") (List.mem_of_getElem? (i := 3) rfl))) (fun _ h9 => h9) rfl dX5_read_43 ?_
  refine lv_istore (lv' := [(6, .int (nI nc)), (5, .ref ks), (0, .ref kx), (1, .int (nI j)), (2, .int lane), (3, .int f0), (4, .int (nI n))]) hx hb dX5_read_46 hl (by decide) rfl (fun ls hl => ?_)
  refine lv_aload hx hb dX5_read_48 (lv_at hl 1 rfl) ?_
  refine lv_iload_n hx hb dX5_read_50 rfl (lv_at hl 4 rfl) ?_
  refine xr_i (As := [.int lane]) (rest := []) ⟨hx, hb, hml, hown, hts⟩ (c_X3_faultAsLane l G ks ksc ln sz0 lane ) (cwV 1 hts gX5_read_X3_faultAsLane rfl rfl rfl (by decide +kernel) ⟨Nat.le_of_ble_eq_true rfl, Nat.le_of_ble_eq_true rfl⟩) hK hP hS [6] rfl rfl rfl rfl hl.1 rfl (Nat.le_of_ble_eq_true rfl) dX5_read_51 ⟨Nat.zero_le _, Nat.zero_le _⟩ (fun r51 H locs hp51 hP hS => ?_)
  rw [show r51 = _ from hp51]
  refine lv_istore (lv' := [(7, .int (if sz0 = (-1) ∨ ln = lane then nI 0 else nI 3)), (6, .int (nI nc)), (5, .ref ks), (0, .ref kx), (1, .int (nI j)), (2, .int lane), (3, .int f0), (4, .int (nI n))]) hx hb dX5_read_54 hl (by decide) rfl (fun ls hl => ?_)
  refine lv_aload_n hx hb dX5_read_56 rfl (lv_at hl 3 rfl) ?_
  refine va_get (D := G.1) (ci := 5) (v := .ref kv) (C := RX5) (T := TX5) (N := 10) hx hb hts hin5 hown hK.1 hP 0 rfl rfl 3 (by decide) (hts (.fieldLink RX5 27 "BackLenses" "views" "LBackLenses$Views;") (List.mem_of_getElem? (i := 3) rfl)) (fun _ h9 => h9) rfl dX5_read_57 ?_
  refine lv_iconst (v := nI 1) hx hb dX5_read_60 (by decide) ?_
  refine va_putN (D := G.1) (ci := 4) (v := .int (nI 1)) (ty := .boolean) (C := RX4) (T := TX4) (N := 5) hx hb hts hin4 tyX4 tyX4_ok nmX4 hown hK.1 hP hD hS 4 rfl rfl 4 (by decide) (va_Nw.use rfl (hK.2 (Cond.fieldLinkNest "BackLenses" (77 : Nat) "BackLenses$Views" "stale" "Z" "BackLenses") (List.mem_of_getElem? (i := 22) rfl))) (fun _ h9 => h9) rfl (by decide +kernel) (by decide) (by decide) (Nat.le_of_ble_eq_true rfl) dX5_read_61 (fun H locs hP hD hS => ?_)
  replace hP : xP G [oC kx 5 [.ref kb, .ref kim, .ref kit, .ref kv, .ref kre, .int tf, .ref ksh, .int rf, .ref kwa, .ref kta], oC kb 0 [.int (nI w), .int (nI h), .int (nI la), .ref ka, .ref kc, .ref kl, .ref kn], oC kc 2 [.ref kcn, .int (nI 10), .int (nI nc)], iA G kcn (3 * 10) fc, oC kv 4 [.ref km, .ref kg, .int (nI vw), .int (nI vh), .int (nI 1)], sA G ksh 4 gs, oC ks 3 [.ref ksc, .int ln, .int sz0], iA G ksc 40 f] H := hP
  replace hD : va_D (va_A (w_X5_read G kx kim kit kre ksh kwa kta tf rf kb ka kc kcn kl kn w h la nc fc kv km kg vw vh sl gs ks ksc ln sz0 f) ss.heap.size) [oC kx 5 [.ref kb, .ref kim, .ref kit, .ref kv, .ref kre, .int tf, .ref ksh, .int rf, .ref kwa, .ref kta], oC kb 0 [.int (nI w), .int (nI h), .int (nI la), .ref ka, .ref kc, .ref kl, .ref kn], oC kc 2 [.ref kcn, .int (nI 10), .int (nI nc)], iA G kcn (3 * 10) fc, oC kv 4 [.ref km, .ref kg, .int (nI vw), .int (nI vh), .int (nI 1)], sA G ksh 4 gs, oC ks 3 [.ref ksc, .int ln, .int sz0], iA G ksc 40 f] := hD
  refine lv_iconst (v := nI 0) hx hb dX5_read_64 (by decide) ?_
  refine lv_istore (lv' := [(8, .int (nI 0)), (7, .int (if sz0 = (-1) ∨ ln = lane then nI 0 else nI 3)), (6, .int (nI nc)), (5, .ref ks), (0, .ref kx), (1, .int (nI j)), (2, .int lane), (3, .int f0), (4, .int (nI n))]) hx hb dX5_read_65 hl (by decide) rfl (fun ls hl => ?_)
  have hL67 : ∀ k : Nat, ∀ (i : Nat) (fd : Int32) (n3 : Nat) (f3 : Nat → Int32) (ls : Array Slot) (H : Heap) (locs : List Loc), n - i = k → (i ≤ n) → (nc ≤ n3) → (n3 ≤ 10) → ((rdF la (w * h) sz0 f f0 n 0 (if sz0 = (-1) ∨ ln = lane then nI 0 else nI 3) nc fc) = rdF la (w * h) sz0 f f0 (n - i) i fd n3 f3) → lv_has ls 10 [(0, .ref kx), (1, .int (nI j)), (2, .int lane), (3, .int f0), (4, .int (nI n)), (5, .ref ks), (6, .int (nI nc)), (7, .int fd), (8, .int (nI i))] → xP G [oC kb 0 [.int (nI w), .int (nI h), .int (nI la), .ref ka, .ref kc, .ref kl, .ref kn], oC kc 2 [.ref kcn, .int (nI 10), .int (nI n3)], iA G kcn (3 * 10) f3, oC ks 3 [.ref ksc, .int ln, .int sz0], iA G ksc 40 f, sA G ksh 4 gs, oC kv 4 [.ref km, .ref kg, .int (nI vw), .int (nI vh), .int (nI 1)], oC kx 5 [.ref kb, .ref kim, .ref kit, .ref kv, .ref kre, .int tf, .ref ksh, .int rf, .ref kwa, .ref kta]] H → va_D (va_A (w_X5_read G kx kim kit kre ksh kwa kta tf rf kb ka kc kcn kl kn w h la nc fc kv km kg vw vh sl gs ks ksc ln sz0 f) ss.heap.size) [oC kb 0 [.int (nI w), .int (nI h), .int (nI la), .ref ka, .ref kc, .ref kl, .ref kn], oC kc 2 [.ref kcn, .int (nI 10), .int (nI n3)], iA G kcn (3 * 10) f3, oC ks 3 [.ref ksc, .int ln, .int sz0], iA G ksc 40 f, sA G ksh 4 gs, oC kv 4 [.ref km, .ref kg, .int (nI vw), .int (nI vh), .int (nI 1)], oC kx 5 [.ref kb, .ref kim, .ref kit, .ref kv, .ref kre, .int tf, .ref ksh, .int rf, .ref kwa, .ref kta]] → va_S (va_A (w_X5_read G kx kim kit kre ksh kwa kta tf rf kb ka kc kcn kl kn w h la nc fc kv km kg vw vh sl gs ks ksc ln sz0 f) ss.heap.size) ss.heap H locs → W pp l ee ({ frames := 3, cells := 0, slots := 0, locals := 63 } : Room) ss mm ([.ref kx, .int (nI j), .int lane, .int f0, .int (nI n)] : List Value).toArray below mt cd H locs 0 0 (MQ below (Q_X5_read G ss.heap.size kx kim kit kre ksh kwa kta tf rf kb ka kc kcn kl kn w h la nc fc kv km kg vw vh sl gs ks ksc ln sz0 f j lane f0 n) ([.ref kx, .int (nI j), .int lane, .int f0, .int (nI n)] : List Value).toArray ss 0 0 (va_A (w_X5_read G kx kim kit kre ksh kwa kta tf rf kb ka kc kcn kl kn w h la nc fc kv km kg vw vh sl gs ks ksc ln sz0 f) ss.heap.size)) (F0 mm 67 ls []) := by
    intro k
    induction k using Nat.strongRecOn with
    | _ k ih67 =>
    intro i fd n3 f3 ls H locs hm67 hi hnn hn3 hrd hl hP hD hS
    refine lv_iload hx hb dX5_read_67 (lv_at hl 8 rfl) ?_
    refine lv_iload hx hb dX5_read_69 (lv_at hl 4 rfl) ?_
    refine xn_icmp_ge (tgt := 164) hx hb (by omega) (by omega) dX5_read_71 rfl (fun b71 => ?_) (fun b71 => ?_)
    · skip
      refine lv_aload_n hx hb dX5_read_164 rfl (lv_at hl 0 rfl) ?_
      refine lv_iload hx hb dX5_read_165 (lv_at hl 7 rfl) ?_
      refine va_put (D := G.1) (ci := 5) (v := .int fd) (ty := .int) (C := RX5) (T := TX5) (N := 10) hx hb hts hin5 tyX5 tyX5_ok nmX5 hown hK.1 hP hD hS 7 rfl rfl 7 (by decide) (hts (.fieldLink RX5 237 "BackLenses" "readFault" "I") (List.mem_of_getElem? (i := 4) rfl)) (fun _ h9 => h9) rfl (by decide +kernel) rfl rfl (Nat.le_of_ble_eq_true rfl) dX5_read_167 (fun H locs hP hD hS => ?_)
      replace hP : xP G [oC kb 0 [.int (nI w), .int (nI h), .int (nI la), .ref ka, .ref kc, .ref kl, .ref kn], oC kc 2 [.ref kcn, .int (nI 10), .int (nI n3)], iA G kcn (3 * 10) f3, oC ks 3 [.ref ksc, .int ln, .int sz0], iA G ksc 40 f, sA G ksh 4 gs, oC kv 4 [.ref km, .ref kg, .int (nI vw), .int (nI vh), .int (nI 1)], oC kx 5 [.ref kb, .ref kim, .ref kit, .ref kv, .ref kre, .int tf, .ref ksh, .int fd, .ref kwa, .ref kta]] H := hP
      replace hD : va_D (va_A (w_X5_read G kx kim kit kre ksh kwa kta tf rf kb ka kc kcn kl kn w h la nc fc kv km kg vw vh sl gs ks ksc ln sz0 f) ss.heap.size) [oC kb 0 [.int (nI w), .int (nI h), .int (nI la), .ref ka, .ref kc, .ref kl, .ref kn], oC kc 2 [.ref kcn, .int (nI 10), .int (nI n3)], iA G kcn (3 * 10) f3, oC ks 3 [.ref ksc, .int ln, .int sz0], iA G ksc 40 f, sA G ksh 4 gs, oC kv 4 [.ref km, .ref kg, .int (nI vw), .int (nI vh), .int (nI 1)], oC kx 5 [.ref kb, .ref kim, .ref kit, .ref kv, .ref kre, .int tf, .ref ksh, .int fd, .ref kwa, .ref kta]] := hD
      refine lv_aload_n hx hb dX5_read_170 rfl (lv_at hl 0 rfl) ?_
      refine va_get (D := G.1) (ci := 5) (v := .ref kb) (C := RX5) (T := TX5) (N := 10) hx hb hts hin5 hown hK.1 hP 7 rfl rfl 0 (by decide) (hts (.fieldLink RX5 10 "BackLenses" "book" "LBackLenses$Book;") (List.mem_of_getElem? (i := 2) rfl)) (fun _ h9 => h9) rfl dX5_read_171 ?_
      refine va_getN (D := G.1) (ci := 0) (v := .ref kc) (C := RX0) (T := TX0) (N := 7) hx hb hts hin0 hown hK.1 hP 0 rfl rfl 4 (by decide) (va_Nw.use rfl (hK.2 (Cond.fieldLinkNest "BackLenses" (93 : Nat) "BackLenses$Book" "changes" "LBackLenses$Rows;" "BackLenses") (List.mem_of_getElem? (i := 18) rfl))) (fun _ h9 => h9) rfl dX5_read_174 ?_
      refine va_getN (D := G.1) (ci := 2) (v := .int (nI n3)) (C := RX2) (T := TX2) (N := 3) hx hb hts hin2 hown hK.1 hP 1 rfl rfl 2 (by decide) (va_Nw.use rfl (hK.2 (Cond.fieldLinkNest "BackLenses" (97 : Nat) "BackLenses$Rows" "size" "I" "BackLenses") (List.mem_of_getElem? (i := 3) rfl))) (fun _ h9 => h9) rfl dX5_read_177 ?_
      refine lv_iload hx hb dX5_read_180 (lv_at hl 6 rfl) ?_
      refine xn_isub hx hb (by omega) dX5_read_182 ?_
      have hP := hP.sub (ws' := [oC kx 5 [.ref kb, .ref kim, .ref kit, .ref kv, .ref kre, .int tf, .ref ksh, .int fd, .ref kwa, .ref kta], oC kb 0 [.int (nI w), .int (nI h), .int (nI la), .ref ka, .ref kc, .ref kl, .ref kn], oC kc 2 [.ref kcn, .int (nI 10), .int (nI n3)], iA G kcn (3 * 10) f3, oC kv 4 [.ref km, .ref kg, .int (nI vw), .int (nI vh), .int (nI 1)], sA G ksh 4 gs, oC ks 3 [.ref ksc, .int ln, .int sz0], iA G ksc 40 f]) [7, 0, 1, 2, 6, 5, 3, 4] rfl
      have hD := hD.sub (ws' := [oC kx 5 [.ref kb, .ref kim, .ref kit, .ref kv, .ref kre, .int tf, .ref ksh, .int fd, .ref kwa, .ref kta], oC kb 0 [.int (nI w), .int (nI h), .int (nI la), .ref ka, .ref kc, .ref kl, .ref kn], oC kc 2 [.ref kcn, .int (nI 10), .int (nI n3)], iA G kcn (3 * 10) f3, oC kv 4 [.ref km, .ref kg, .int (nI vw), .int (nI vh), .int (nI 1)], sA G ksh 4 gs, oC ks 3 [.ref ksc, .int ln, .int sz0], iA G ksc 40 f]) [7, 0, 1, 2, 6, 5, 3, 4] (by decide) rfl
      refine W.iret (v := nI (n3 - nc)) hx hb hr (fun t ht hW => ⟨⟨nI (n3 - nc), (n3, f3, fd), rfl, ?_, by rw [ht]; exact hP, hD⟩, hS.F ht⟩) hS.2.2 dX5_read_183
      try dsimp only
      have hR : (rdF la (w * h) sz0 f f0 n 0 (if sz0 = (-1) ∨ ln = lane then nI 0 else nI 3) nc fc) = (none, fd, n3, f3) := (by rw [hrd]; first | (rw [show n - i = 0 by omega, rdF]) | (rw [show n - i = (n - (i + 1)) + 1 by omega, rdF, if_neg b76])); rw [hR]; exact ⟨rfl, rfl, rfl, rfl⟩
    · skip
      refine lv_iload hx hb dX5_read_74 (lv_at hl 7 rfl) ?_
      refine lv_if_ne (tgt := 164) hx hb dX5_read_76 rfl (fun b76 => ?_) (fun b76 => ?_)
      · skip
        refine lv_aload_n hx hb dX5_read_164 rfl (lv_at hl 0 rfl) ?_
        refine lv_iload hx hb dX5_read_165 (lv_at hl 7 rfl) ?_
        refine va_put (D := G.1) (ci := 5) (v := .int fd) (ty := .int) (C := RX5) (T := TX5) (N := 10) hx hb hts hin5 tyX5 tyX5_ok nmX5 hown hK.1 hP hD hS 7 rfl rfl 7 (by decide) (hts (.fieldLink RX5 237 "BackLenses" "readFault" "I") (List.mem_of_getElem? (i := 4) rfl)) (fun _ h9 => h9) rfl (by decide +kernel) rfl rfl (Nat.le_of_ble_eq_true rfl) dX5_read_167 (fun H locs hP hD hS => ?_)
        replace hP : xP G [oC kb 0 [.int (nI w), .int (nI h), .int (nI la), .ref ka, .ref kc, .ref kl, .ref kn], oC kc 2 [.ref kcn, .int (nI 10), .int (nI n3)], iA G kcn (3 * 10) f3, oC ks 3 [.ref ksc, .int ln, .int sz0], iA G ksc 40 f, sA G ksh 4 gs, oC kv 4 [.ref km, .ref kg, .int (nI vw), .int (nI vh), .int (nI 1)], oC kx 5 [.ref kb, .ref kim, .ref kit, .ref kv, .ref kre, .int tf, .ref ksh, .int fd, .ref kwa, .ref kta]] H := hP
        replace hD : va_D (va_A (w_X5_read G kx kim kit kre ksh kwa kta tf rf kb ka kc kcn kl kn w h la nc fc kv km kg vw vh sl gs ks ksc ln sz0 f) ss.heap.size) [oC kb 0 [.int (nI w), .int (nI h), .int (nI la), .ref ka, .ref kc, .ref kl, .ref kn], oC kc 2 [.ref kcn, .int (nI 10), .int (nI n3)], iA G kcn (3 * 10) f3, oC ks 3 [.ref ksc, .int ln, .int sz0], iA G ksc 40 f, sA G ksh 4 gs, oC kv 4 [.ref km, .ref kg, .int (nI vw), .int (nI vh), .int (nI 1)], oC kx 5 [.ref kb, .ref kim, .ref kit, .ref kv, .ref kre, .int tf, .ref ksh, .int fd, .ref kwa, .ref kta]] := hD
        refine lv_aload_n hx hb dX5_read_170 rfl (lv_at hl 0 rfl) ?_
        refine va_get (D := G.1) (ci := 5) (v := .ref kb) (C := RX5) (T := TX5) (N := 10) hx hb hts hin5 hown hK.1 hP 7 rfl rfl 0 (by decide) (hts (.fieldLink RX5 10 "BackLenses" "book" "LBackLenses$Book;") (List.mem_of_getElem? (i := 2) rfl)) (fun _ h9 => h9) rfl dX5_read_171 ?_
        refine va_getN (D := G.1) (ci := 0) (v := .ref kc) (C := RX0) (T := TX0) (N := 7) hx hb hts hin0 hown hK.1 hP 0 rfl rfl 4 (by decide) (va_Nw.use rfl (hK.2 (Cond.fieldLinkNest "BackLenses" (93 : Nat) "BackLenses$Book" "changes" "LBackLenses$Rows;" "BackLenses") (List.mem_of_getElem? (i := 18) rfl))) (fun _ h9 => h9) rfl dX5_read_174 ?_
        refine va_getN (D := G.1) (ci := 2) (v := .int (nI n3)) (C := RX2) (T := TX2) (N := 3) hx hb hts hin2 hown hK.1 hP 1 rfl rfl 2 (by decide) (va_Nw.use rfl (hK.2 (Cond.fieldLinkNest "BackLenses" (97 : Nat) "BackLenses$Rows" "size" "I" "BackLenses") (List.mem_of_getElem? (i := 3) rfl))) (fun _ h9 => h9) rfl dX5_read_177 ?_
        refine lv_iload hx hb dX5_read_180 (lv_at hl 6 rfl) ?_
        refine xn_isub hx hb (by omega) dX5_read_182 ?_
        have hP := hP.sub (ws' := [oC kx 5 [.ref kb, .ref kim, .ref kit, .ref kv, .ref kre, .int tf, .ref ksh, .int fd, .ref kwa, .ref kta], oC kb 0 [.int (nI w), .int (nI h), .int (nI la), .ref ka, .ref kc, .ref kl, .ref kn], oC kc 2 [.ref kcn, .int (nI 10), .int (nI n3)], iA G kcn (3 * 10) f3, oC kv 4 [.ref km, .ref kg, .int (nI vw), .int (nI vh), .int (nI 1)], sA G ksh 4 gs, oC ks 3 [.ref ksc, .int ln, .int sz0], iA G ksc 40 f]) [7, 0, 1, 2, 6, 5, 3, 4] rfl
        have hD := hD.sub (ws' := [oC kx 5 [.ref kb, .ref kim, .ref kit, .ref kv, .ref kre, .int tf, .ref ksh, .int fd, .ref kwa, .ref kta], oC kb 0 [.int (nI w), .int (nI h), .int (nI la), .ref ka, .ref kc, .ref kl, .ref kn], oC kc 2 [.ref kcn, .int (nI 10), .int (nI n3)], iA G kcn (3 * 10) f3, oC kv 4 [.ref km, .ref kg, .int (nI vw), .int (nI vh), .int (nI 1)], sA G ksh 4 gs, oC ks 3 [.ref ksc, .int ln, .int sz0], iA G ksc 40 f]) [7, 0, 1, 2, 6, 5, 3, 4] (by decide) rfl
        refine W.iret (v := nI (n3 - nc)) hx hb hr (fun t ht hW => ⟨⟨nI (n3 - nc), (n3, f3, fd), rfl, ?_, by rw [ht]; exact hP, hD⟩, hS.F ht⟩) hS.2.2 dX5_read_183
        try dsimp only
        have hR : (rdF la (w * h) sz0 f f0 n 0 (if sz0 = (-1) ∨ ln = lane then nI 0 else nI 3) nc fc) = (none, fd, n3, f3) := (by rw [hrd]; first | (rw [show n - i = 0 by omega, rdF]) | (rw [show n - i = (n - (i + 1)) + 1 by omega, rdF, if_neg b76])); rw [hR]; exact ⟨rfl, rfl, rfl, rfl⟩
      · skip
        refine lv_iload_n hx hb dX5_read_79 rfl (lv_at hl 3 rfl) ?_
        refine lv_iconst (v := nI 3) hx hb dX5_read_80 (by decide) ?_
        refine lv_iload hx hb dX5_read_81 (lv_at hl 8 rfl) ?_
        refine xn_imul hx hb dX5_read_83 ?_
        refine lv_iadd hx hb dX5_read_84 ?_
        refine lv_istore (lv' := [(9, .int (f0 + (nI (3 * i)))), (0, .ref kx), (1, .int (nI j)), (2, .int lane), (3, .int f0), (4, .int (nI n)), (5, .ref ks), (6, .int (nI nc)), (7, .int fd), (8, .int (nI i))]) hx hb dX5_read_85 hl (by decide) rfl (fun ls hl => ?_)
        refine lv_aload hx hb dX5_read_87 (lv_at hl 6 rfl) ?_
        refine lv_iload hx hb dX5_read_89 (lv_at hl 0 rfl) ?_
        refine xr_i (As := [.int (f0 + (nI (3 * i)))]) (rest := []) ⟨hx, hb, hml, hown, hts⟩ (c_X3_faultAtThree l G ks ksc ln sz0 (f0 + (nI (3 * i))) ) (cwV 1 hts gX5_read_X3_faultAtThree rfl rfl rfl (by decide +kernel) ⟨Nat.le_of_ble_eq_true rfl, Nat.le_of_ble_eq_true rfl⟩) hK hP hS [3] rfl rfl rfl rfl hl.1 rfl (Nat.le_of_ble_eq_true rfl) dX5_read_91 ⟨Nat.zero_le _, Nat.zero_le _⟩ (fun r91 H locs hp91 hP hS => ?_)
        rw [show r91 = _ from hp91]
        refine xn_top (y := faT sz0 (f0 + nI (3 * i))) rfl ?_
        refine lv_istore (lv' := [(7, .int (faT sz0 (f0 + nI (3 * i)))), (9, .int (f0 + (nI (3 * i)))), (0, .ref kx), (1, .int (nI j)), (2, .int lane), (3, .int f0), (4, .int (nI n)), (5, .ref ks), (6, .int (nI nc)), (8, .int (nI i))]) hx hb dX5_read_94 hl (by decide) rfl (fun ls hl => ?_)
        refine lv_iload hx hb dX5_read_96 (lv_at hl 0 rfl) ?_
        refine lv_if_ne (tgt := 158) hx hb dX5_read_98 rfl (fun b98 => ?_) (fun b98 => ?_)
        · skip
          refine lv_iinc (k := 9) (v := nI (i + 1)) (lv' := [(8, .int (nI (i + 1))), (7, .int (faT sz0 (f0 + nI (3 * i)))), (9, .int (f0 + (nI (3 * i)))), (0, .ref kx), (1, .int (nI j)), (2, .int lane), (3, .int f0), (4, .int (nI n)), (5, .ref ks), (6, .int (nI nc))]) hx hb dX5_read_158 hl rfl (xn_inc i 1) (by decide) rfl (fun ls hl => ?_)
          refine lv_goto (tgt := 67) hx hb dX5_read_161 rfl ?_
          have hl := lv_sub hl (l' := [(0, .ref kx), (1, .int (nI j)), (2, .int lane), (3, .int f0), (4, .int (nI n)), (5, .ref ks), (6, .int (nI nc)), (7, .int (faT sz0 (f0 + nI (3 * i)))), (8, .int (nI (i + 1)))]) [3, 4, 5, 6, 7, 8, 9, 1, 0] rfl
          exact ih67 (n - (i + 1)) (by omega) (i + 1) (faT sz0 (f0 + nI (3 * i))) n3 f3 ls H locs rfl (by omega) (by omega) (by omega) (by rw [hrd, show n - i = (n - (i + 1)) + 1 by omega, rdF, if_pos b76]; first | (rw [if_neg b98]) | (rw [if_pos b98, ea, tn_nI (by omega), if_pos hok])) hl hP hD hS
        · skip
          obtain ⟨a0, ha0, ea⟩ := faT_ok hsz b98
          have b98b := b98.trans nI_0.symm
          rw [b98b, ea] at hl
          refine lv_aload_n hx hb dX5_read_101 rfl (lv_at hl 2 rfl) ?_
          refine va_get (D := G.1) (ci := 5) (v := .ref kb) (C := RX5) (T := TX5) (N := 10) hx hb hts hin5 hown hK.1 hP 7 rfl rfl 0 (by decide) (hts (.fieldLink RX5 10 "BackLenses" "book" "LBackLenses$Book;") (List.mem_of_getElem? (i := 2) rfl)) (fun _ h9 => h9) rfl dX5_read_102 ?_
          refine lv_aload hx hb dX5_read_105 (lv_at hl 7 rfl) ?_
          refine va_getN (D := G.1) (ci := 3) (v := .ref ksc) (C := RX3) (T := TX3) (N := 3) hx hb hts hin3 hown hK.1 hP 3 rfl rfl 0 (by decide) (va_Nw.use rfl (hK.2 (Cond.fieldLinkNest "BackLenses" (235 : Nat) "BackLenses$Sheet" "cells" "[I" "BackLenses") (List.mem_of_getElem? (i := 27) rfl))) (fun _ h9 => h9) rfl dX5_read_107 ?_
          refine lv_iload hx hb dX5_read_110 (lv_at hl 1 rfl) ?_
          refine xn_iald hx hb hK hP 4 rfl (by omega) (by omega) dX5_read_112 ?_
          refine lv_aload hx hb dX5_read_113 (lv_at hl 7 rfl) ?_
          refine va_getN (D := G.1) (ci := 3) (v := .ref ksc) (C := RX3) (T := TX3) (N := 3) hx hb hts hin3 hown hK.1 hP 3 rfl rfl 0 (by decide) (va_Nw.use rfl (hK.2 (Cond.fieldLinkNest "BackLenses" (235 : Nat) "BackLenses$Sheet" "cells" "[I" "BackLenses") (List.mem_of_getElem? (i := 27) rfl))) (fun _ h9 => h9) rfl dX5_read_115 ?_
          refine lv_iload hx hb dX5_read_118 (lv_at hl 1 rfl) ?_
          refine lv_iconst (v := nI 1) hx hb dX5_read_120 (by decide) ?_
          refine xn_iadd hx hb dX5_read_121 ?_
          refine xn_iald hx hb hK hP 4 rfl (by omega) (by omega) dX5_read_122 ?_
          refine lv_aload hx hb dX5_read_123 (lv_at hl 7 rfl) ?_
          refine va_getN (D := G.1) (ci := 3) (v := .ref ksc) (C := RX3) (T := TX3) (N := 3) hx hb hts hin3 hown hK.1 hP 3 rfl rfl 0 (by decide) (va_Nw.use rfl (hK.2 (Cond.fieldLinkNest "BackLenses" (235 : Nat) "BackLenses$Sheet" "cells" "[I" "BackLenses") (List.mem_of_getElem? (i := 27) rfl))) (fun _ h9 => h9) rfl dX5_read_125 ?_
          refine lv_iload hx hb dX5_read_128 (lv_at hl 1 rfl) ?_
          refine lv_iconst (v := nI 2) hx hb dX5_read_130 (by decide) ?_
          refine xn_iadd hx hb dX5_read_131 ?_
          refine xn_iald hx hb hK hP 4 rfl (by omega) (by omega) dX5_read_132 ?_
          refine xw_i (As := [.int (f a0), .int (f (a0 + 1)), .int (f (a0 + 2))]) (rest := []) (wr := [oC ks 3 [.ref ksc, .int ln, .int sz0], iA G ksc 40 f, sA G ksh 4 gs, oC kv 4 [.ref km, .ref kg, .int (nI vw), .int (nI vh), .int (nI 1)], oC kx 5 [.ref kb, .ref kim, .ref kit, .ref kv, .ref kre, .int tf, .ref ksh, .int rf, .ref kwa, .ref kta]]) ⟨hx, hb, hml, hown, hts⟩ (c_X0_takeChange l G H.size kb ka kc kcn kl kn w h la n3 f3 (f a0) (f (a0 + 1)) (f (a0 + 2)) (by first | assumption | omega) (by first | assumption | omega) (by first | assumption | omega)) (cwV 3 hts gX5_read_X0_takeChange rfl rfl rfl (by decide +kernel) ⟨Nat.le_of_ble_eq_true rfl, Nat.le_of_ble_eq_true rfl⟩) hK hP hD hS hA [0, 1, 2] [3, 4, 5, 6, 7] rfl rfl (by decide) (by decide) (by decide) rfl rfl rfl hl.1 rfl (Nat.le_of_ble_eq_true rfl) dX5_read_133 ⟨Nat.le_of_ble_eq_true rfl, Nat.le_of_ble_eq_true rfl⟩ (fun r133 u H locs hp133 hP hD hS => ?_)
          obtain ⟨u0_133, u1_133⟩ := u
          try dsimp only at hp133 hP hD
          obtain ⟨rfl, rfl, rfl⟩ := hp133
          replace hP : xP G [oC ks 3 [.ref ksc, .int ln, .int sz0], iA G ksc 40 f, sA G ksh 4 gs, oC kv 4 [.ref km, .ref kg, .int (nI vw), .int (nI vh), .int (nI 1)], oC kx 5 [.ref kb, .ref kim, .ref kit, .ref kv, .ref kre, .int tf, .ref ksh, .int rf, .ref kwa, .ref kta], oC kb 0 [.int (nI w), .int (nI h), .int (nI la), .ref ka, .ref kc, .ref kl, .ref kn], oC kc 2 [.ref kcn, .int (nI 10), .int (nI (if (inR (f a0) (la + 1) ∧ inR (f (a0 + 1)) (w * h) ∧ inR (f (a0 + 2)) 6 ∧ n3 < 10) then n3 + 1 else n3))], iA G kcn (3 * 10) (if (inR (f a0) (la + 1) ∧ inR (f (a0 + 1)) (w * h) ∧ inR (f (a0 + 2)) 6 ∧ n3 < 10) then upd (upd (upd f3 (3 * n3) (f a0)) (3 * n3 + 1) (f (a0 + 1))) (3 * n3 + 2) (f (a0 + 2)) else f3)] H := hP
          replace hD : va_D (va_A (w_X5_read G kx kim kit kre ksh kwa kta tf rf kb ka kc kcn kl kn w h la nc fc kv km kg vw vh sl gs ks ksc ln sz0 f) ss.heap.size) [oC ks 3 [.ref ksc, .int ln, .int sz0], iA G ksc 40 f, sA G ksh 4 gs, oC kv 4 [.ref km, .ref kg, .int (nI vw), .int (nI vh), .int (nI 1)], oC kx 5 [.ref kb, .ref kim, .ref kit, .ref kv, .ref kre, .int tf, .ref ksh, .int rf, .ref kwa, .ref kta], oC kb 0 [.int (nI w), .int (nI h), .int (nI la), .ref ka, .ref kc, .ref kl, .ref kn], oC kc 2 [.ref kcn, .int (nI 10), .int (nI (if (inR (f a0) (la + 1) ∧ inR (f (a0 + 1)) (w * h) ∧ inR (f (a0 + 2)) 6 ∧ n3 < 10) then n3 + 1 else n3))], iA G kcn (3 * 10) (if (inR (f a0) (la + 1) ∧ inR (f (a0 + 1)) (w * h) ∧ inR (f (a0 + 2)) 6 ∧ n3 < 10) then upd (upd (upd f3 (3 * n3) (f a0)) (3 * n3 + 1) (f (a0 + 1))) (3 * n3 + 2) (f (a0 + 2)) else f3)] := hD
          refine xi_if_ge (tgt := 158) hx hb dX5_read_136 rfl (fun b136 => ?_) (fun b136 => ?_)
          · skip
            have hok : (inR (f a0) (la + 1) ∧ inR (f (a0 + 1)) (w * h) ∧ inR (f (a0 + 2)) 6 ∧ n3 < 10) := (by obtain ⟨q, q4⟩ := tk_ok b136; exact ⟨q.1, q.2.1, q.2.2, q4⟩)
            rw [if_pos hok, if_pos hok] at hP hD
            refine lv_iinc (k := 9) (v := nI (i + 1)) (lv' := [(8, .int (nI (i + 1))), (7, .int (nI 0)), (9, .int (nI a0)), (0, .ref kx), (1, .int (nI j)), (2, .int lane), (3, .int f0), (4, .int (nI n)), (5, .ref ks), (6, .int (nI nc))]) hx hb dX5_read_158 hl rfl (xn_inc i 1) (by decide) rfl (fun ls hl => ?_)
            refine lv_goto (tgt := 67) hx hb dX5_read_161 rfl ?_
            have hl := lv_sub hl (l' := [(0, .ref kx), (1, .int (nI j)), (2, .int lane), (3, .int f0), (4, .int (nI n)), (5, .ref ks), (6, .int (nI nc)), (7, .int (nI 0)), (8, .int (nI (i + 1)))]) [3, 4, 5, 6, 7, 8, 9, 1, 0] rfl
            have hP := hP.sub (ws' := [oC kb 0 [.int (nI w), .int (nI h), .int (nI la), .ref ka, .ref kc, .ref kl, .ref kn], oC kc 2 [.ref kcn, .int (nI 10), .int (nI (n3 + 1))], iA G kcn (3 * 10) (upd (upd (upd f3 (3 * n3) (f a0)) (3 * n3 + 1) (f (a0 + 1))) (3 * n3 + 2) (f (a0 + 2))), oC ks 3 [.ref ksc, .int ln, .int sz0], iA G ksc 40 f, sA G ksh 4 gs, oC kv 4 [.ref km, .ref kg, .int (nI vw), .int (nI vh), .int (nI 1)], oC kx 5 [.ref kb, .ref kim, .ref kit, .ref kv, .ref kre, .int tf, .ref ksh, .int rf, .ref kwa, .ref kta]]) [5, 6, 7, 0, 1, 2, 3, 4] rfl
            have hD := hD.sub (ws' := [oC kb 0 [.int (nI w), .int (nI h), .int (nI la), .ref ka, .ref kc, .ref kl, .ref kn], oC kc 2 [.ref kcn, .int (nI 10), .int (nI (n3 + 1))], iA G kcn (3 * 10) (upd (upd (upd f3 (3 * n3) (f a0)) (3 * n3 + 1) (f (a0 + 1))) (3 * n3 + 2) (f (a0 + 2))), oC ks 3 [.ref ksc, .int ln, .int sz0], iA G ksc 40 f, sA G ksh 4 gs, oC kv 4 [.ref km, .ref kg, .int (nI vw), .int (nI vh), .int (nI 1)], oC kx 5 [.ref kb, .ref kim, .ref kit, .ref kv, .ref kre, .int tf, .ref ksh, .int rf, .ref kwa, .ref kta]]) [5, 6, 7, 0, 1, 2, 3, 4] (by decide) rfl
            exact ih67 (n - (i + 1)) (by omega) (i + 1) (nI 0) (n3 + 1) (upd (upd (upd f3 (3 * n3) (f a0)) (3 * n3 + 1) (f (a0 + 1))) (3 * n3 + 2) (f (a0 + 2))) ls H locs rfl (by omega) (by omega) (by omega) (by rw [hrd, show n - i = (n - (i + 1)) + 1 by omega, rdF, if_pos b76]; first | (rw [if_neg b98]) | (rw [if_pos b98, ea, tn_nI (by omega), if_pos hok])) hl hP hD hS
          · skip
            have hnk : ¬ (inR (f a0) (la + 1) ∧ inR (f (a0 + 1)) (w * h) ∧ inR (f (a0 + 2)) 6 ∧ n3 < 10) := (fun q => tk_no b136 ⟨⟨q.1, q.2.1, q.2.2.1⟩, q.2.2.2⟩)
            rw [if_neg hnk, if_neg hnk] at hP hD
            refine lv_aload_n hx hb dX5_read_139 rfl (lv_at hl 2 rfl) ?_
            refine va_get (D := G.1) (ci := 5) (v := .ref kb) (C := RX5) (T := TX5) (N := 10) hx hb hts hin5 hown hK.1 hP 4 rfl rfl 0 (by decide) (hts (.fieldLink RX5 10 "BackLenses" "book" "LBackLenses$Book;") (List.mem_of_getElem? (i := 2) rfl)) (fun _ h9 => h9) rfl dX5_read_140 ?_
            refine va_getN (D := G.1) (ci := 0) (v := .ref kc) (C := RX0) (T := TX0) (N := 7) hx hb hts hin0 hown hK.1 hP 5 rfl rfl 4 (by decide) (va_Nw.use rfl (hK.2 (Cond.fieldLinkNest "BackLenses" (93 : Nat) "BackLenses$Book" "changes" "LBackLenses$Rows;" "BackLenses") (List.mem_of_getElem? (i := 18) rfl))) (fun _ h9 => h9) rfl dX5_read_143 ?_
            refine lv_iload hx hb dX5_read_146 (lv_at hl 8 rfl) ?_
            refine xw_i (As := [.int (nI nc)]) (rest := []) (wr := [oC ks 3 [.ref ksc, .int ln, .int sz0], iA G ksc 40 f, sA G ksh 4 gs, oC kv 4 [.ref km, .ref kg, .int (nI vw), .int (nI vh), .int (nI 1)], oC kx 5 [.ref kb, .ref kim, .ref kit, .ref kv, .ref kre, .int tf, .ref ksh, .int rf, .ref kwa, .ref kta], oC kb 0 [.int (nI w), .int (nI h), .int (nI la), .ref ka, .ref kc, .ref kl, .ref kn], iA G kcn (3 * 10) f3]) ⟨hx, hb, hml, hown, hts⟩ (c_X2_shorten l G H.size kc kcn 10 n3 (nI nc) (by omega)) (cwV 1 hts gX5_read_X2_shorten rfl rfl rfl (by decide +kernel) ⟨Nat.le_of_ble_eq_true rfl, Nat.le_of_ble_eq_true rfl⟩) hK hP hD hS hA [6] [0, 1, 2, 3, 4, 5, 7] rfl rfl (by decide) (by decide) (by decide) rfl rfl rfl hl.1 rfl (Nat.le_of_ble_eq_true rfl) dX5_read_148 ⟨Nat.le_of_ble_eq_true rfl, Nat.le_of_ble_eq_true rfl⟩ (fun r148 u H locs hp148 hP hD hS => ?_)
            obtain ⟨u0_148, rfl⟩ : ∃ z, z = u := ⟨_, rfl⟩
            try dsimp only at hp148 hP hD
            obtain ⟨rfl, rfl⟩ := hp148
            replace hP : xP G [oC ks 3 [.ref ksc, .int ln, .int sz0], iA G ksc 40 f, sA G ksh 4 gs, oC kv 4 [.ref km, .ref kg, .int (nI vw), .int (nI vh), .int (nI 1)], oC kx 5 [.ref kb, .ref kim, .ref kit, .ref kv, .ref kre, .int tf, .ref ksh, .int rf, .ref kwa, .ref kta], oC kb 0 [.int (nI w), .int (nI h), .int (nI la), .ref ka, .ref kc, .ref kl, .ref kn], iA G kcn (3 * 10) f3, oC kc 2 [.ref kcn, .int (nI 10), .int (nI (if inR (nI nc) (n3 + 1) then (nI nc).toInt.toNat else n3))]] H := hP
            replace hD : va_D (va_A (w_X5_read G kx kim kit kre ksh kwa kta tf rf kb ka kc kcn kl kn w h la nc fc kv km kg vw vh sl gs ks ksc ln sz0 f) ss.heap.size) [oC ks 3 [.ref ksc, .int ln, .int sz0], iA G ksc 40 f, sA G ksh 4 gs, oC kv 4 [.ref km, .ref kg, .int (nI vw), .int (nI vh), .int (nI 1)], oC kx 5 [.ref kb, .ref kim, .ref kit, .ref kv, .ref kre, .int tf, .ref ksh, .int rf, .ref kwa, .ref kta], oC kb 0 [.int (nI w), .int (nI h), .int (nI la), .ref ka, .ref kc, .ref kl, .ref kn], iA G kcn (3 * 10) f3, oC kc 2 [.ref kcn, .int (nI 10), .int (nI (if inR (nI nc) (n3 + 1) then (nI nc).toInt.toNat else n3))]] := hD
            refine lv_pop hx hb dX5_read_151 rfl ?_
            refine lv_bipush (v := (-20)) hx hb dX5_read_152 (by decide) ?_
            refine lv_iload hx hb dX5_read_154 (lv_at hl 9 rfl) ?_
            refine lv_isub hx hb dX5_read_156 ?_
            have hP := hP.sub (ws' := [oC kx 5 [.ref kb, .ref kim, .ref kit, .ref kv, .ref kre, .int tf, .ref ksh, .int rf, .ref kwa, .ref kta], oC kb 0 [.int (nI w), .int (nI h), .int (nI la), .ref ka, .ref kc, .ref kl, .ref kn], oC kc 2 [.ref kcn, .int (nI 10), .int (nI (if inR (nI nc) (n3 + 1) then (nI nc).toInt.toNat else n3))], iA G kcn (3 * 10) f3, oC kv 4 [.ref km, .ref kg, .int (nI vw), .int (nI vh), .int (nI 1)], sA G ksh 4 gs, oC ks 3 [.ref ksc, .int ln, .int sz0], iA G ksc 40 f]) [4, 5, 7, 6, 3, 2, 0, 1] rfl
            have hD := hD.sub (ws' := [oC kx 5 [.ref kb, .ref kim, .ref kit, .ref kv, .ref kre, .int tf, .ref ksh, .int rf, .ref kwa, .ref kta], oC kb 0 [.int (nI w), .int (nI h), .int (nI la), .ref ka, .ref kc, .ref kl, .ref kn], oC kc 2 [.ref kcn, .int (nI 10), .int (nI (if inR (nI nc) (n3 + 1) then (nI nc).toInt.toNat else n3))], iA G kcn (3 * 10) f3, oC kv 4 [.ref km, .ref kg, .int (nI vw), .int (nI vh), .int (nI 1)], sA G ksh 4 gs, oC ks 3 [.ref ksc, .int ln, .int sz0], iA G ksc 40 f]) [4, 5, 7, 6, 3, 2, 0, 1] (by decide) rfl
            refine W.iret (v := (-20) - (nI i)) hx hb hr (fun t ht hW => ⟨⟨(-20) - (nI i), ((if inR (nI nc) (n3 + 1) then (nI nc).toInt.toNat else n3), f3, rf), rfl, ?_, by rw [ht]; exact hP, hD⟩, hS.F ht⟩) hS.2.2 dX5_read_157
            try dsimp only
            have hR : (rdF la (w * h) sz0 f f0 n 0 (if sz0 = (-1) ∨ ln = lane then nI 0 else nI 3) nc fc) = (some i, nI 0, n3, f3) := (by rw [hrd, show n - i = (n - (i + 1)) + 1 by omega, rdF, if_pos b76, if_pos b98, ea, tn_nI (by omega), if_neg hnk]); rw [hR]; exact ⟨rfl, (by rw [if_pos (inR_nI (by omega) (by omega)), nI_toInt (by omega)]; rfl), rfl, rfl⟩
  have hl := lv_sub hl (l' := [(0, .ref kx), (1, .int (nI j)), (2, .int lane), (3, .int f0), (4, .int (nI n)), (5, .ref ks), (6, .int (nI nc)), (7, .int (if sz0 = (-1) ∨ ln = lane then nI 0 else nI 3)), (8, .int (nI 0))]) [4, 5, 6, 7, 8, 3, 2, 1, 0] rfl
  have hP := hP.sub (ws' := [oC kb 0 [.int (nI w), .int (nI h), .int (nI la), .ref ka, .ref kc, .ref kl, .ref kn], oC kc 2 [.ref kcn, .int (nI 10), .int (nI nc)], iA G kcn (3 * 10) fc, oC ks 3 [.ref ksc, .int ln, .int sz0], iA G ksc 40 f, sA G ksh 4 gs, oC kv 4 [.ref km, .ref kg, .int (nI vw), .int (nI vh), .int (nI 1)], oC kx 5 [.ref kb, .ref kim, .ref kit, .ref kv, .ref kre, .int tf, .ref ksh, .int rf, .ref kwa, .ref kta]]) [1, 2, 3, 6, 7, 5, 4, 0] rfl
  have hD := hD.sub (ws' := [oC kb 0 [.int (nI w), .int (nI h), .int (nI la), .ref ka, .ref kc, .ref kl, .ref kn], oC kc 2 [.ref kcn, .int (nI 10), .int (nI nc)], iA G kcn (3 * 10) fc, oC ks 3 [.ref ksc, .int ln, .int sz0], iA G ksc 40 f, sA G ksh 4 gs, oC kv 4 [.ref km, .ref kg, .int (nI vw), .int (nI vh), .int (nI 1)], oC kx 5 [.ref kb, .ref kim, .ref kit, .ref kv, .ref kre, .int tf, .ref ksh, .int rf, .ref kwa, .ref kta]]) [1, 2, 3, 6, 7, 5, 4, 0] (by decide) rfl
  exact hL67 (n - 0) 0 (if sz0 = (-1) ∨ ln = lane then nI 0 else nI 3) nc fc ls H locs rfl (by omega) (by omega) (by omega) (by rfl) hl hP hD hS

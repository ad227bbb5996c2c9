abbrev Q_X6_flag_g (G : XG) (v : Int32) : Array Value → State → Outcome → State → Prop := (xRi (fun r => r = (if v = 0 then nI 0 else nI 1)))
set_option maxHeartbeats 4000000 in
set_option maxRecDepth 100000 in
theorem c_X6_flag_g (l : Launch) (G : XG) (v : Int32)  : Met l yX6_flag wsX6_flag ({ frames := 0, cells := 0, slots := 0, locals := 0 } : Room) (va_Pc [.int v] (fun _ => True)) (Q_X6_flag_g G v) 0 0 (fun _ => False) := by
  refine Met.ofW (cc := cX6_flag) (maxL := 1) (ret := (some .int)) (by decide) rfl ?_
  intro pp ee ss mm aa below mt cd s₁ BB hml hv
  obtain ⟨rfl, -⟩ := hv
  have hx := BB.exec
  have hb := BB.bytes
  have hr := BB.returns
  have hts := atoms_spec (ws := wsX6_flag) BB.pre
  have hown : ss.vm.findClass RX6 = some mm.cls := findClass_of_methodNamed BB.named
  have hlocks := BB.notSynchronized
  have hS : va_S (fun _ => False) ss.heap ss.heap [] := va_S.rf
  have hP : xP (G) [] ss.heap := fun k q h => by cases h
  have hl := lv_entry ([.int v]) (n := 1) (Nat.le_of_ble_eq_true rfl)
  rw [lg_entry_eq]
  generalize (lg_sl ([.int v]) ++ List.replicate (1 - (lg_sl ([.int v])).length) Slot.unset).toArray = ls at hl ⊢
  replace hl : lv_has ls 1 [(0, .int v)] := hl
  refine lv_iload_n hx hb dX6_flag_0 rfl (lv_at hl 0 rfl) ?_
  refine lv_if_eq (tgt := 8) hx hb dX6_flag_1 rfl (fun b1 => ?_) (fun b1 => ?_)
  · skip
    refine lv_iconst (v := nI 0) hx hb dX6_flag_8 (by decide) ?_
    refine W.iret (v := nI 0) hx hb hr (fun t ht hW => ⟨⟨nI 0, (), rfl, ?_, trivial⟩, hS.F ht⟩) hS.2.2 dX6_flag_9
    first | exact (if_pos b1).symm | exact (if_neg b1).symm
  · skip
    refine lv_iconst (v := nI 1) hx hb dX6_flag_4 (by decide) ?_
    refine lv_goto (tgt := 9) hx hb dX6_flag_5 rfl ?_
    refine W.iret (v := nI 1) hx hb hr (fun t ht hW => ⟨⟨nI 1, (), rfl, ?_, trivial⟩, hS.F ht⟩) hS.2.2 dX6_flag_9
    first | exact (if_pos b1).symm | exact (if_neg b1).symm

abbrev w_X6_keep (G : XG) (ko : Nat) (ad : Nat → Nat) (w h la tp : Nat) (ft tr : Int32) (mv : Nat → Int32) (S kp : Nat → Int32) : va_W := [oC ko 6 [.ref (ad 0), .ref (ad 1), .int (nI w), .int (nI h), .int (nI la), .ref (ad 2), .int (mv 0), .int (mv 1), .int (mv 2), .int (mv 3), .int (mv 4), .int (mv 5), .int (mv 6), .ref (ad 3), .int (nI tp), .int (mv 7), .int (mv 8), .int (mv 9), .int (mv 10), .int ft, .int (mv 11), .ref (ad 4), .ref (ad 5), .ref (ad 6), .ref (ad 7), .ref (ad 8), .ref (ad 9), .ref (ad 10), .int tr], iA G (ad 0) 255 S, zA G (ad 1) 2 kp]
abbrev Q_X6_keep (G : XG) (sz : Nat) (ko : Nat) (ad : Nat → Nat) (w h la tp : Nat) (ft tr : Int32) (mv : Nat → Int32) (S kp : Nat → Int32) (j : Nat) : Array Value → State → Outcome → State → Prop := (va_Qi (fun (r : Int32) (u : (Nat → Int32) × (Nat → Int32)) => r = (if kp j = 0 then nI 0 else nI 1) ∧ u.2 = upd kp j (nI 1) ∧ ((∀ k, k < 85 → u.1 (85 * (j + 1) + k) = S (0 + k)) ∧ ∀ q, (q < 85 * (j + 1) ∨ 85 * (j + 1) + 85 ≤ q) → u.1 q = S q)) (xWb G sz (w_X6_keep G ko ad w h la tp ft tr mv S kp) (fun u : (Nat → Int32) × (Nat → Int32) => [oC ko 6 [.ref (ad 0), .ref (ad 1), .int (nI w), .int (nI h), .int (nI la), .ref (ad 2), .int (mv 0), .int (mv 1), .int (mv 2), .int (mv 3), .int (mv 4), .int (mv 5), .int (mv 6), .ref (ad 3), .int (nI tp), .int (mv 7), .int (mv 8), .int (mv 9), .int (mv 10), .int ft, .int (mv 11), .ref (ad 4), .ref (ad 5), .ref (ad 6), .ref (ad 7), .ref (ad 8), .ref (ad 9), .ref (ad 10), .int tr], iA G (ad 0) 255 u.1, zA G (ad 1) 2 u.2])) (va_A (w_X6_keep G ko ad w h la tp ft tr mv S kp) sz))
set_option maxHeartbeats 4000000 in
set_option maxRecDepth 100000 in
theorem c_X6_keep (l : Launch) (G : XG) (sz : Nat) (ko : Nat) (ad : Nat → Nat) (w h la tp : Nat) (ft tr : Int32) (mv : Nat → Int32) (S kp : Nat → Int32) (j : Nat) (hj : j < 2) : Met l yX6_keep wsX6_keep ({ frames := 1, cells := 0, slots := 0, locals := 25 } : Room) (va_Pc [.ref ko, .int (nI j)] (xWp G sz (w_X6_keep G ko ad w h la tp ft tr mv S kp))) (Q_X6_keep G sz ko ad w h la tp ft tr mv S kp j) 0 0 (va_A (w_X6_keep G ko ad w h la tp ft tr mv S kp) sz) := by
  refine Met.ofW (cc := cX6_keep) (maxL := 3) (ret := (some .int)) (by decide) rfl ?_
  intro pp ee ss mm aa below mt cd s₁ BB hml hv
  obtain ⟨rfl, hsz, hP, hK, hD0⟩ := hv
  have hx := BB.exec
  have hb := BB.bytes
  have hr := BB.returns
  have hts := atoms_spec (ws := wsX6_keep) BB.pre
  have hown : ss.vm.findClass RX6 = some mm.cls := findClass_of_methodNamed BB.named
  have hlocks := BB.notSynchronized
  subst hsz
  have hD := hD0.self (sz := ss.heap.size)
  have hA : ∀ q : Nat, ss.heap.size ≤ q → va_A (w_X6_keep G ko ad w h la tp ft tr mv S kp) ss.heap.size q := fun q h => Or.inr h
  have hS : va_S (va_A (w_X6_keep G ko ad w h la tp ft tr mv S kp) ss.heap.size) ss.heap ss.heap [] := va_S.rf
  replace hD : va_D (va_A (w_X6_keep G ko ad w h la tp ft tr mv S kp) ss.heap.size) [oC ko 6 [.ref (ad 0), .ref (ad 1), .int (nI w), .int (nI h), .int (nI la), .ref (ad 2), .int (mv 0), .int (mv 1), .int (mv 2), .int (mv 3), .int (mv 4), .int (mv 5), .int (mv 6), .ref (ad 3), .int (nI tp), .int (mv 7), .int (mv 8), .int (mv 9), .int (mv 10), .int ft, .int (mv 11), .ref (ad 4), .ref (ad 5), .ref (ad 6), .ref (ad 7), .ref (ad 8), .ref (ad 9), .ref (ad 10), .int tr], iA G (ad 0) 255 S, zA G (ad 1) 2 kp] := hD
  replace hP : xP G [oC ko 6 [.ref (ad 0), .ref (ad 1), .int (nI w), .int (nI h), .int (nI la), .ref (ad 2), .int (mv 0), .int (mv 1), .int (mv 2), .int (mv 3), .int (mv 4), .int (mv 5), .int (mv 6), .ref (ad 3), .int (nI tp), .int (mv 7), .int (mv 8), .int (mv 9), .int (mv 10), .int ft, .int (mv 11), .ref (ad 4), .ref (ad 5), .ref (ad 6), .ref (ad 7), .ref (ad 8), .ref (ad 9), .ref (ad 10), .int tr], iA G (ad 0) 255 S, zA G (ad 1) 2 kp] ss.heap := hP
  have hin6 : ∀ w ∈ u_ws RX6 TX6 29, w ∈ wsX6_keep := fun w h => List.mem_cons_of_mem _ (List.mem_append_right _ h)
  have hl := lv_entry ([.ref ko, .int (nI j)]) (n := 3) (Nat.le_of_ble_eq_true rfl)
  rw [lg_entry_eq]
  generalize (lg_sl ([.ref ko, .int (nI j)]) ++ List.replicate (3 - (lg_sl ([.ref ko, .int (nI j)])).length) Slot.unset).toArray = ls at hl ⊢
  replace hl : lv_has ls 3 [(0, .ref ko), (1, .int (nI j))] := hl
  refine lv_iload_n hx hb dX6_keep_0 rfl (lv_at hl 1 rfl) ?_
  refine xi_i2l hx hb dX6_keep_1 ?_
  refine lv_lconst (v := lN 0) hx hb dX6_keep_2 (by decide) ?_
  refine lv_lconst (v := lN 1) hx hb dX6_keep_3 (by decide) ?_
  refine xs_i (As := [.long ((nI j).toInt64), .long (lN 0), .long (lN 1)]) (rest := []) ⟨hx, hb, hml, hown, hts⟩ (c_X6_in_r l G (nI j) 1 (by first | assumption | omega)) (va_cwS 3 hts gX6_keep_X6_in rfl rfl rfl (by decide +kernel) ⟨Nat.le_of_ble_eq_true rfl, Nat.le_of_ble_eq_true rfl⟩) hP hS rfl hl.1 rfl (Nat.le_of_ble_eq_true rfl) dX6_keep_4 ⟨Nat.zero_le _, Nat.zero_le _⟩ (fun r4 H locs hp4 hP hS => ?_)
  rw [show r4 = _ from hp4]
  refine xb_if_ne (tgt := 12) hx hb dX6_keep_7 rfl (fun _ => ?_) (fun b7 => absurd b7 (by exact fun q => q (inR_nI hj (by omega))))
  refine lv_aload_n hx hb dX6_keep_12 rfl (lv_at hl 0 rfl) ?_
  refine va_get (D := G.1) (ci := 6) (v := .ref (ad 1)) (C := RX6) (T := TX6) (N := 29) hx hb hts hin6 hown hK.1 hP 0 rfl rfl 1 (by decide) (hts (.fieldLink RX6 13 "BackLensesModel" "isKept" "[Z") (List.mem_of_getElem? (i := 1) rfl)) (fun _ h9 => h9) rfl dX6_keep_13 ?_
  refine lv_iload_n hx hb dX6_keep_16 rfl (lv_at hl 1 rfl) ?_
  refine xn_zald hx hb hK hP 2 rfl (by omega) (by omega) dX6_keep_17 ?_
  refine xs_i (As := [.int (kp j)]) (rest := []) ⟨hx, hb, hml, hown, hts⟩ (c_X6_flag_g l G (kp j) ) (va_cwS 1 hts gX6_keep_X6_flag rfl rfl rfl (by decide +kernel) ⟨Nat.le_of_ble_eq_true rfl, Nat.le_of_ble_eq_true rfl⟩) hP hS rfl hl.1 rfl (Nat.le_of_ble_eq_true rfl) dX6_keep_18 ⟨Nat.zero_le _, Nat.zero_le _⟩ (fun r18 H locs hp18 hP hS => ?_)
  rw [show r18 = _ from hp18]
  refine lv_istore_n (lv' := [(2, .int (if (kp j) = 0 then nI 0 else nI 1)), (0, .ref ko), (1, .int (nI j))]) hx hb dX6_keep_21 rfl hl (by decide) rfl (fun ls hl => ?_)
  refine lv_aload_n hx hb dX6_keep_22 rfl (lv_at hl 1 rfl) ?_
  refine va_get (D := G.1) (ci := 6) (v := .ref (ad 1)) (C := RX6) (T := TX6) (N := 29) hx hb hts hin6 hown hK.1 hP 0 rfl rfl 1 (by decide) (hts (.fieldLink RX6 13 "BackLensesModel" "isKept" "[Z") (List.mem_of_getElem? (i := 1) rfl)) (fun _ h9 => h9) rfl dX6_keep_23 ?_
  refine lv_iload_n hx hb dX6_keep_26 rfl (lv_at hl 2 rfl) ?_
  refine lv_iconst (v := nI 1) hx hb dX6_keep_27 (by decide) ?_
  refine xn_zast (y := nI 1) hx hb hK hP hD hS 2 rfl (by omega) (by omega) (by decide) dX6_keep_28 (fun H locs hP hD hS => ?_)
  replace hP : xP G [oC ko 6 [.ref (ad 0), .ref (ad 1), .int (nI w), .int (nI h), .int (nI la), .ref (ad 2), .int (mv 0), .int (mv 1), .int (mv 2), .int (mv 3), .int (mv 4), .int (mv 5), .int (mv 6), .ref (ad 3), .int (nI tp), .int (mv 7), .int (mv 8), .int (mv 9), .int (mv 10), .int ft, .int (mv 11), .ref (ad 4), .ref (ad 5), .ref (ad 6), .ref (ad 7), .ref (ad 8), .ref (ad 9), .ref (ad 10), .int tr], iA G (ad 0) 255 S, zA G (ad 1) 2 (upd kp j (nI 1))] H := hP
  replace hD : va_D (va_A (w_X6_keep G ko ad w h la tp ft tr mv S kp) ss.heap.size) [oC ko 6 [.ref (ad 0), .ref (ad 1), .int (nI w), .int (nI h), .int (nI la), .ref (ad 2), .int (mv 0), .int (mv 1), .int (mv 2), .int (mv 3), .int (mv 4), .int (mv 5), .int (mv 6), .ref (ad 3), .int (nI tp), .int (mv 7), .int (mv 8), .int (mv 9), .int (mv 10), .int ft, .int (mv 11), .ref (ad 4), .ref (ad 5), .ref (ad 6), .ref (ad 7), .ref (ad 8), .ref (ad 9), .ref (ad 10), .int tr], iA G (ad 0) 255 S, zA G (ad 1) 2 (upd kp j (nI 1))] := hD
  refine lv_aload_n hx hb dX6_keep_29 rfl (lv_at hl 1 rfl) ?_
  refine lv_bipush (v := nI 85) hx hb dX6_keep_30 (by decide) ?_
  refine lv_iload_n hx hb dX6_keep_32 rfl (lv_at hl 2 rfl) ?_
  refine lv_iconst (v := nI 1) hx hb dX6_keep_33 (by decide) ?_
  refine xn_iadd hx hb dX6_keep_34 ?_
  refine xn_imul hx hb dX6_keep_35 ?_
  refine lv_iconst (v := nI 0) hx hb dX6_keep_36 (by decide) ?_
  refine xw_v (As := [.int (nI (85 * (j + 1))), .int (nI 0)]) (rest := []) (wr := [zA G (ad 1) 2 (upd kp j (nI 1))]) ⟨hx, hb, hml, hown, hts⟩ (c_X6_copies l G H.size ko ad w h la tp ft tr mv S (85 * (j + 1)) 0 (by first | assumption | omega) (by first | assumption | omega) (by first | assumption | omega)) (cwV 2 hts gX6_keep_X6_copies rfl rfl rfl (by decide +kernel) ⟨Nat.le_of_ble_eq_true rfl, Nat.le_of_ble_eq_true rfl⟩) hK hP hD hS hA [0, 1] [2] rfl rfl (by decide) (by decide) (by decide) rfl rfl rfl hl.1 rfl (Nat.le_of_ble_eq_true rfl) dX6_keep_37 ⟨Nat.le_of_ble_eq_true rfl, Nat.le_of_ble_eq_true rfl⟩ (fun u H locs hp37 hP hD hS => ?_)
  obtain ⟨S2_37, rfl⟩ : ∃ z, z = u := ⟨_, rfl⟩
  try dsimp only at hp37 hP hD
  have he37 := hp37
  replace hP : xP G [zA G (ad 1) 2 (upd kp j (nI 1)), oC ko 6 [.ref (ad 0), .ref (ad 1), .int (nI w), .int (nI h), .int (nI la), .ref (ad 2), .int (mv 0), .int (mv 1), .int (mv 2), .int (mv 3), .int (mv 4), .int (mv 5), .int (mv 6), .ref (ad 3), .int (nI tp), .int (mv 7), .int (mv 8), .int (mv 9), .int (mv 10), .int ft, .int (mv 11), .ref (ad 4), .ref (ad 5), .ref (ad 6), .ref (ad 7), .ref (ad 8), .ref (ad 9), .ref (ad 10), .int tr], iA G (ad 0) 255 S2_37] H := hP
  replace hD : va_D (va_A (w_X6_keep G ko ad w h la tp ft tr mv S kp) ss.heap.size) [zA G (ad 1) 2 (upd kp j (nI 1)), oC ko 6 [.ref (ad 0), .ref (ad 1), .int (nI w), .int (nI h), .int (nI la), .ref (ad 2), .int (mv 0), .int (mv 1), .int (mv 2), .int (mv 3), .int (mv 4), .int (mv 5), .int (mv 6), .ref (ad 3), .int (nI tp), .int (mv 7), .int (mv 8), .int (mv 9), .int (mv 10), .int ft, .int (mv 11), .ref (ad 4), .ref (ad 5), .ref (ad 6), .ref (ad 7), .ref (ad 8), .ref (ad 9), .ref (ad 10), .int tr], iA G (ad 0) 255 S2_37] := hD
  refine lv_iload_n hx hb dX6_keep_40 rfl (lv_at hl 0 rfl) ?_
  have hP := hP.sub (ws' := [oC ko 6 [.ref (ad 0), .ref (ad 1), .int (nI w), .int (nI h), .int (nI la), .ref (ad 2), .int (mv 0), .int (mv 1), .int (mv 2), .int (mv 3), .int (mv 4), .int (mv 5), .int (mv 6), .ref (ad 3), .int (nI tp), .int (mv 7), .int (mv 8), .int (mv 9), .int (mv 10), .int ft, .int (mv 11), .ref (ad 4), .ref (ad 5), .ref (ad 6), .ref (ad 7), .ref (ad 8), .ref (ad 9), .ref (ad 10), .int tr], iA G (ad 0) 255 S2_37, zA G (ad 1) 2 (upd kp j (nI 1))]) [1, 2, 0] rfl
  have hD := hD.sub (ws' := [oC ko 6 [.ref (ad 0), .ref (ad 1), .int (nI w), .int (nI h), .int (nI la), .ref (ad 2), .int (mv 0), .int (mv 1), .int (mv 2), .int (mv 3), .int (mv 4), .int (mv 5), .int (mv 6), .ref (ad 3), .int (nI tp), .int (mv 7), .int (mv 8), .int (mv 9), .int (mv 10), .int ft, .int (mv 11), .ref (ad 4), .ref (ad 5), .ref (ad 6), .ref (ad 7), .ref (ad 8), .ref (ad 9), .ref (ad 10), .int tr], iA G (ad 0) 255 S2_37, zA G (ad 1) 2 (upd kp j (nI 1))]) [1, 2, 0] (by decide) rfl
  refine W.iret (v := (if (kp j) = 0 then nI 0 else nI 1)) hx hb hr (fun t ht hW => ⟨⟨(if (kp j) = 0 then nI 0 else nI 1), (S2_37, upd kp j (nI 1)), rfl, ?_, by rw [ht]; exact hP, hD⟩, hS.F ht⟩) hS.2.2 dX6_keep_41
  try dsimp only
  exact ⟨rfl, rfl, he37⟩

abbrev w_X6_back (G : XG) (ko : Nat) (ad : Nat → Nat) (w h la tp : Nat) (ft tr : Int32) (mv : Nat → Int32) (S kp : Nat → Int32) : va_W := [oC ko 6 [.ref (ad 0), .ref (ad 1), .int (nI w), .int (nI h), .int (nI la), .ref (ad 2), .int (mv 0), .int (mv 1), .int (mv 2), .int (mv 3), .int (mv 4), .int (mv 5), .int (mv 6), .ref (ad 3), .int (nI tp), .int (mv 7), .int (mv 8), .int (mv 9), .int (mv 10), .int ft, .int (mv 11), .ref (ad 4), .ref (ad 5), .ref (ad 6), .ref (ad 7), .ref (ad 8), .ref (ad 9), .ref (ad 10), .int tr], iA G (ad 0) 255 S, zA G (ad 1) 2 kp]
abbrev Q_X6_back (G : XG) (sz : Nat) (ko : Nat) (ad : Nat → Nat) (w h la tp : Nat) (ft tr : Int32) (mv : Nat → Int32) (S kp : Nat → Int32) (nq : Nat) (j : Nat) : Array Value → State → Outcome → State → Prop := (va_Qi (fun (r : Int32) (u : (Nat → Int32)) => r = S (85 * (j + 1) + 16) ∧ ((∀ k, k < 85 → u (0 + k) = S (85 * (j + 1) + k)) ∧ ∀ q, (q < 0 ∨ 0 + 85 ≤ q) → u q = S q)) (xWb G sz (w_X6_back G ko ad w h la tp ft tr mv S kp) (fun u : (Nat → Int32) => [oC ko 6 [.ref (ad 0), .ref (ad 1), .int (nI w), .int (nI h), .int (nI la), .ref (ad 2), .int (mv 0), .int (mv 1), .int (mv 2), .int (mv 3), .int (mv 4), .int (mv 5), .int (mv 6), .ref (ad 3), .int (nI tp), .int (mv 7), .int (mv 8), .int (mv 9), .int (mv 10), .int ft, .int (mv 11), .ref (ad 4), .ref (ad 5), .ref (ad 6), .ref (ad 7), .ref (ad 8), .ref (ad 9), .ref (ad 10), .int tr], iA G (ad 0) 255 u, zA G (ad 1) 2 kp])) (va_A (w_X6_back G ko ad w h la tp ft tr mv S kp) sz))
set_option maxHeartbeats 4000000 in
set_option maxRecDepth 100000 in
theorem c_X6_back (l : Launch) (G : XG) (sz : Nat) (ko : Nat) (ad : Nat → Nat) (w h la tp : Nat) (ft tr : Int32) (mv : Nat → Int32) (S kp : Nat → Int32) (nq : Nat) (j : Nat) (hj : j < 2) (hkp : ¬ kp j = 0) : Met l yX6_back wsX6_back ({ frames := 1, cells := 0, slots := 0, locals := 25 } : Room) (va_Pc [.ref ko, .int (nI j)] (xWp G sz (w_X6_back G ko ad w h la tp ft tr mv S kp))) (Q_X6_back G sz ko ad w h la tp ft tr mv S kp nq j) 0 0 (va_A (w_X6_back G ko ad w h la tp ft tr mv S kp) sz) := by
  refine Met.ofW (cc := cX6_back) (maxL := 2) (ret := (some .int)) (by decide) rfl ?_
  intro pp ee ss mm aa below mt cd s₁ BB hml hv
  obtain ⟨rfl, hsz, hP, hK, hD0⟩ := hv
  have hx := BB.exec
  have hb := BB.bytes
  have hr := BB.returns
  have hts := atoms_spec (ws := wsX6_back) BB.pre
  have hown : ss.vm.findClass RX6 = some mm.cls := findClass_of_methodNamed BB.named
  have hlocks := BB.notSynchronized
  subst hsz
  have hD := hD0.self (sz := ss.heap.size)
  have hA : ∀ q : Nat, ss.heap.size ≤ q → va_A (w_X6_back G ko ad w h la tp ft tr mv S kp) ss.heap.size q := fun q h => Or.inr h
  have hS : va_S (va_A (w_X6_back G ko ad w h la tp ft tr mv S kp) ss.heap.size) ss.heap ss.heap [] := va_S.rf
  replace hD : va_D (va_A (w_X6_back G ko ad w h la tp ft tr mv S kp) ss.heap.size) [oC ko 6 [.ref (ad 0), .ref (ad 1), .int (nI w), .int (nI h), .int (nI la), .ref (ad 2), .int (mv 0), .int (mv 1), .int (mv 2), .int (mv 3), .int (mv 4), .int (mv 5), .int (mv 6), .ref (ad 3), .int (nI tp), .int (mv 7), .int (mv 8), .int (mv 9), .int (mv 10), .int ft, .int (mv 11), .ref (ad 4), .ref (ad 5), .ref (ad 6), .ref (ad 7), .ref (ad 8), .ref (ad 9), .ref (ad 10), .int tr], iA G (ad 0) 255 S, zA G (ad 1) 2 kp] := hD
  replace hP : xP G [oC ko 6 [.ref (ad 0), .ref (ad 1), .int (nI w), .int (nI h), .int (nI la), .ref (ad 2), .int (mv 0), .int (mv 1), .int (mv 2), .int (mv 3), .int (mv 4), .int (mv 5), .int (mv 6), .ref (ad 3), .int (nI tp), .int (mv 7), .int (mv 8), .int (mv 9), .int (mv 10), .int ft, .int (mv 11), .ref (ad 4), .ref (ad 5), .ref (ad 6), .ref (ad 7), .ref (ad 8), .ref (ad 9), .ref (ad 10), .int tr], iA G (ad 0) 255 S, zA G (ad 1) 2 kp] ss.heap := hP
  have hin6 : ∀ w ∈ u_ws RX6 TX6 29, w ∈ wsX6_back := fun w h => List.mem_cons_of_mem _ (List.mem_append_right _ h)
  have hl := lv_entry ([.ref ko, .int (nI j)]) (n := 2) (Nat.le_of_ble_eq_true rfl)
  rw [lg_entry_eq]
  generalize (lg_sl ([.ref ko, .int (nI j)]) ++ List.replicate (2 - (lg_sl ([.ref ko, .int (nI j)])).length) Slot.unset).toArray = ls at hl ⊢
  replace hl : lv_has ls 2 [(0, .ref ko), (1, .int (nI j))] := hl
  refine lv_iload_n hx hb dX6_back_0 rfl (lv_at hl 1 rfl) ?_
  refine xi_i2l hx hb dX6_back_1 ?_
  refine lv_lconst (v := lN 0) hx hb dX6_back_2 (by decide) ?_
  refine lv_lconst (v := lN 1) hx hb dX6_back_3 (by decide) ?_
  refine xs_i (As := [.long ((nI j).toInt64), .long (lN 0), .long (lN 1)]) (rest := []) ⟨hx, hb, hml, hown, hts⟩ (c_X6_in_r l G (nI j) 1 (by first | assumption | omega)) (va_cwS 3 hts gX6_back_X6_in rfl rfl rfl (by decide +kernel) ⟨Nat.le_of_ble_eq_true rfl, Nat.le_of_ble_eq_true rfl⟩) hP hS rfl hl.1 rfl (Nat.le_of_ble_eq_true rfl) dX6_back_4 ⟨Nat.zero_le _, Nat.zero_le _⟩ (fun r4 H locs hp4 hP hS => ?_)
  rw [show r4 = _ from hp4]
  refine xb_if_ne (tgt := 12) hx hb dX6_back_7 rfl (fun _ => ?_) (fun b7 => absurd b7 (by exact fun q => q (inR_nI hj (by omega))))
  refine lv_aload_n hx hb dX6_back_12 rfl (lv_at hl 0 rfl) ?_
  refine va_get (D := G.1) (ci := 6) (v := .ref (ad 1)) (C := RX6) (T := TX6) (N := 29) hx hb hts hin6 hown hK.1 hP 0 rfl rfl 1 (by decide) (hts (.fieldLink RX6 13 "BackLensesModel" "isKept" "[Z") (List.mem_of_getElem? (i := 1) rfl)) (fun _ h9 => h9) rfl dX6_back_13 ?_
  refine lv_iload_n hx hb dX6_back_16 rfl (lv_at hl 1 rfl) ?_
  refine xn_zald hx hb hK hP 2 rfl (by omega) (by omega) dX6_back_17 ?_
  refine lv_if_ne (tgt := 24) hx hb dX6_back_18 rfl (fun _ => ?_) (fun b18 => absurd b18 (by first | exact hkp | exact absurd b18 hkp))
  refine lv_aload_n hx hb dX6_back_24 rfl (lv_at hl 0 rfl) ?_
  refine lv_iconst (v := nI 0) hx hb dX6_back_25 (by decide) ?_
  refine lv_bipush (v := nI 85) hx hb dX6_back_26 (by decide) ?_
  refine lv_iload_n hx hb dX6_back_28 rfl (lv_at hl 1 rfl) ?_
  refine lv_iconst (v := nI 1) hx hb dX6_back_29 (by decide) ?_
  refine xn_iadd hx hb dX6_back_30 ?_
  refine xn_imul hx hb dX6_back_31 ?_
  refine xw_v (As := [.int (nI 0), .int (nI (85 * (j + 1)))]) (rest := []) (wr := [zA G (ad 1) 2 kp]) ⟨hx, hb, hml, hown, hts⟩ (c_X6_copies l G H.size ko ad w h la tp ft tr mv S 0 (85 * (j + 1)) (by first | assumption | omega) (by first | assumption | omega) (by first | assumption | omega)) (cwV 2 hts gX6_back_X6_copies rfl rfl rfl (by decide +kernel) ⟨Nat.le_of_ble_eq_true rfl, Nat.le_of_ble_eq_true rfl⟩) hK hP hD hS hA [0, 1] [2] rfl rfl (by decide) (by decide) (by decide) rfl rfl rfl hl.1 rfl (Nat.le_of_ble_eq_true rfl) dX6_back_32 ⟨Nat.le_of_ble_eq_true rfl, Nat.le_of_ble_eq_true rfl⟩ (fun u H locs hp32 hP hD hS => ?_)
  obtain ⟨S2_32, rfl⟩ : ∃ z, z = u := ⟨_, rfl⟩
  try dsimp only at hp32 hP hD
  have he32 := hp32
  replace hP : xP G [zA G (ad 1) 2 kp, oC ko 6 [.ref (ad 0), .ref (ad 1), .int (nI w), .int (nI h), .int (nI la), .ref (ad 2), .int (mv 0), .int (mv 1), .int (mv 2), .int (mv 3), .int (mv 4), .int (mv 5), .int (mv 6), .ref (ad 3), .int (nI tp), .int (mv 7), .int (mv 8), .int (mv 9), .int (mv 10), .int ft, .int (mv 11), .ref (ad 4), .ref (ad 5), .ref (ad 6), .ref (ad 7), .ref (ad 8), .ref (ad 9), .ref (ad 10), .int tr], iA G (ad 0) 255 S2_32] H := hP
  replace hD : va_D (va_A (w_X6_back G ko ad w h la tp ft tr mv S kp) ss.heap.size) [zA G (ad 1) 2 kp, oC ko 6 [.ref (ad 0), .ref (ad 1), .int (nI w), .int (nI h), .int (nI la), .ref (ad 2), .int (mv 0), .int (mv 1), .int (mv 2), .int (mv 3), .int (mv 4), .int (mv 5), .int (mv 6), .ref (ad 3), .int (nI tp), .int (mv 7), .int (mv 8), .int (mv 9), .int (mv 10), .int ft, .int (mv 11), .ref (ad 4), .ref (ad 5), .ref (ad 6), .ref (ad 7), .ref (ad 8), .ref (ad 9), .ref (ad 10), .int tr], iA G (ad 0) 255 S2_32] := hD
  refine lv_aload_n hx hb dX6_back_35 rfl (lv_at hl 0 rfl) ?_
  refine va_get (D := G.1) (ci := 6) (v := .ref (ad 0)) (C := RX6) (T := TX6) (N := 29) hx hb hts hin6 hown hK.1 hP 1 rfl rfl 0 (by decide) (hts (.fieldLink RX6 7 "BackLensesModel" "st" "[I") (List.mem_of_getElem? (i := 2) rfl)) (fun _ h9 => h9) rfl dX6_back_36 ?_
  refine lv_bipush (v := nI 16) hx hb dX6_back_39 (by decide) ?_
  refine xn_iald hx hb hK hP 2 rfl (by omega) (by omega) dX6_back_41 ?_
  have hP := hP.sub (ws' := [oC ko 6 [.ref (ad 0), .ref (ad 1), .int (nI w), .int (nI h), .int (nI la), .ref (ad 2), .int (mv 0), .int (mv 1), .int (mv 2), .int (mv 3), .int (mv 4), .int (mv 5), .int (mv 6), .ref (ad 3), .int (nI tp), .int (mv 7), .int (mv 8), .int (mv 9), .int (mv 10), .int ft, .int (mv 11), .ref (ad 4), .ref (ad 5), .ref (ad 6), .ref (ad 7), .ref (ad 8), .ref (ad 9), .ref (ad 10), .int tr], iA G (ad 0) 255 S2_32, zA G (ad 1) 2 kp]) [1, 2, 0] rfl
  have hD := hD.sub (ws' := [oC ko 6 [.ref (ad 0), .ref (ad 1), .int (nI w), .int (nI h), .int (nI la), .ref (ad 2), .int (mv 0), .int (mv 1), .int (mv 2), .int (mv 3), .int (mv 4), .int (mv 5), .int (mv 6), .ref (ad 3), .int (nI tp), .int (mv 7), .int (mv 8), .int (mv 9), .int (mv 10), .int ft, .int (mv 11), .ref (ad 4), .ref (ad 5), .ref (ad 6), .ref (ad 7), .ref (ad 8), .ref (ad 9), .ref (ad 10), .int tr], iA G (ad 0) 255 S2_32, zA G (ad 1) 2 kp]) [1, 2, 0] (by decide) rfl
  refine W.iret (v := S2_32 16) hx hb hr (fun t ht hW => ⟨⟨S2_32 16, (S2_32), rfl, ?_, by rw [ht]; exact hP, hD⟩, hS.F ht⟩) hS.2.2 dX6_back_42
  refine ⟨?_, he32⟩; have q := he32.1 16 (by omega); rw [Nat.zero_add] at q; exact q

abbrev w_X6_back_n (G : XG) (ko : Nat) (ad : Nat → Nat) (w h la tp : Nat) (ft tr : Int32) (mv : Nat → Int32) (kp : Nat → Int32) : va_W := [oC ko 6 [.ref (ad 0), .ref (ad 1), .int (nI w), .int (nI h), .int (nI la), .ref (ad 2), .int (mv 0), .int (mv 1), .int (mv 2), .int (mv 3), .int (mv 4), .int (mv 5), .int (mv 6), .ref (ad 3), .int (nI tp), .int (mv 7), .int (mv 8), .int (mv 9), .int (mv 10), .int ft, .int (mv 11), .ref (ad 4), .ref (ad 5), .ref (ad 6), .ref (ad 7), .ref (ad 8), .ref (ad 9), .ref (ad 10), .int tr], zA G (ad 1) 2 kp]
abbrev Q_X6_back_n (G : XG) (ko : Nat) (ad : Nat → Nat) (w h la tp : Nat) (ft tr : Int32) (mv : Nat → Int32) (kp : Nat → Int32) (j : Nat) : Array Value → State → Outcome → State → Prop := (xRi (fun r => r = (-2)))
set_option maxHeartbeats 4000000 in
set_option maxRecDepth 100000 in
theorem c_X6_back_n (l : Launch) (G : XG) (ko : Nat) (ad : Nat → Nat) (w h la tp : Nat) (ft tr : Int32) (mv : Nat → Int32) (kp : Nat → Int32) (j : Nat) (hj : j < 2) (hkp : kp j = 0) : Met l yX6_back wsX6_back ({ frames := 1, cells := 0, slots := 0, locals := 25 } : Room) (va_Pc [.ref ko, .int (nI j)] (xRp G (w_X6_back_n G ko ad w h la tp ft tr mv kp))) (Q_X6_back_n G ko ad w h la tp ft tr mv kp j) 0 0 (fun _ => False) := by
  refine Met.ofW (cc := cX6_back) (maxL := 2) (ret := (some .int)) (by decide) rfl ?_
  intro pp ee ss mm aa below mt cd s₁ BB hml hv
  obtain ⟨rfl, hP, hK⟩ := hv
  have hx := BB.exec
  have hb := BB.bytes
  have hr := BB.returns
  have hts := atoms_spec (ws := wsX6_back) BB.pre
  have hown : ss.vm.findClass RX6 = some mm.cls := findClass_of_methodNamed BB.named
  have hlocks := BB.notSynchronized
  have hS : va_S (fun _ => False) ss.heap ss.heap [] := va_S.rf
  replace hP : xP G [oC ko 6 [.ref (ad 0), .ref (ad 1), .int (nI w), .int (nI h), .int (nI la), .ref (ad 2), .int (mv 0), .int (mv 1), .int (mv 2), .int (mv 3), .int (mv 4), .int (mv 5), .int (mv 6), .ref (ad 3), .int (nI tp), .int (mv 7), .int (mv 8), .int (mv 9), .int (mv 10), .int ft, .int (mv 11), .ref (ad 4), .ref (ad 5), .ref (ad 6), .ref (ad 7), .ref (ad 8), .ref (ad 9), .ref (ad 10), .int tr], zA G (ad 1) 2 kp] ss.heap := hP
  have hin6 : ∀ w ∈ u_ws RX6 TX6 29, w ∈ wsX6_back := fun w h => List.mem_cons_of_mem _ (List.mem_append_right _ h)
  have hl := lv_entry ([.ref ko, .int (nI j)]) (n := 2) (Nat.le_of_ble_eq_true rfl)
  rw [lg_entry_eq]
  generalize (lg_sl ([.ref ko, .int (nI j)]) ++ List.replicate (2 - (lg_sl ([.ref ko, .int (nI j)])).length) Slot.unset).toArray = ls at hl ⊢
  replace hl : lv_has ls 2 [(0, .ref ko), (1, .int (nI j))] := hl
  refine lv_iload_n hx hb dX6_back_0 rfl (lv_at hl 1 rfl) ?_
  refine xi_i2l hx hb dX6_back_1 ?_
  refine lv_lconst (v := lN 0) hx hb dX6_back_2 (by decide) ?_
  refine lv_lconst (v := lN 1) hx hb dX6_back_3 (by decide) ?_
  refine xs_i (As := [.long ((nI j).toInt64), .long (lN 0), .long (lN 1)]) (rest := []) ⟨hx, hb, hml, hown, hts⟩ (c_X6_in_r l G (nI j) 1 (by first | assumption | omega)) (va_cwS 3 hts gX6_back_X6_in rfl rfl rfl (by decide +kernel) ⟨Nat.le_of_ble_eq_true rfl, Nat.le_of_ble_eq_true rfl⟩) hP hS rfl hl.1 rfl (Nat.le_of_ble_eq_true rfl) dX6_back_4 ⟨Nat.zero_le _, Nat.zero_le _⟩ (fun r4 H locs hp4 hP hS => ?_)
  rw [show r4 = _ from hp4]
  refine xb_if_ne (tgt := 12) hx hb dX6_back_7 rfl (fun _ => ?_) (fun b7 => absurd b7 (by exact fun q => q (inR_nI hj (by omega))))
  refine lv_aload_n hx hb dX6_back_12 rfl (lv_at hl 0 rfl) ?_
  refine va_get (D := G.1) (ci := 6) (v := .ref (ad 1)) (C := RX6) (T := TX6) (N := 29) hx hb hts hin6 hown hK.1 hP 0 rfl rfl 1 (by decide) (hts (.fieldLink RX6 13 "BackLensesModel" "isKept" "[Z") (List.mem_of_getElem? (i := 1) rfl)) (fun _ h9 => h9) rfl dX6_back_13 ?_
  refine lv_iload_n hx hb dX6_back_16 rfl (lv_at hl 1 rfl) ?_
  refine xn_zald hx hb hK hP 1 rfl (by omega) (by omega) dX6_back_17 ?_
  refine lv_if_ne (tgt := 24) hx hb dX6_back_18 rfl (fun b18 => absurd b18 (by exact fun q => q hkp)) (fun _ => ?_)
  refine lv_bipush (v := (-2)) hx hb dX6_back_21 (by decide) ?_
  refine W.iret (v := (-2)) hx hb hr (fun t ht hW => ⟨⟨(-2), (), rfl, ?_, trivial⟩, hS.F ht⟩) hS.2.2 dX6_back_23
  rfl

abbrev w_X6_keep_b (G : XG) (ko : Nat) (ad : Nat → Nat) (w h la tp : Nat) (ft tr : Int32) (mv : Nat → Int32) : va_W := [oC ko 6 [.ref (ad 0), .ref (ad 1), .int (nI w), .int (nI h), .int (nI la), .ref (ad 2), .int (mv 0), .int (mv 1), .int (mv 2), .int (mv 3), .int (mv 4), .int (mv 5), .int (mv 6), .ref (ad 3), .int (nI tp), .int (mv 7), .int (mv 8), .int (mv 9), .int (mv 10), .int ft, .int (mv 11), .ref (ad 4), .ref (ad 5), .ref (ad 6), .ref (ad 7), .ref (ad 8), .ref (ad 9), .ref (ad 10), .int tr]]
abbrev Q_X6_keep_b (G : XG) (ko : Nat) (ad : Nat → Nat) (w h la tp : Nat) (ft tr : Int32) (mv : Nat → Int32) (k : Int32) : Array Value → State → Outcome → State → Prop := (xRi (fun r => r = (-1)))
set_option maxHeartbeats 4000000 in
set_option maxRecDepth 100000 in
theorem c_X6_keep_b (l : Launch) (G : XG) (ko : Nat) (ad : Nat → Nat) (w h la tp : Nat) (ft tr : Int32) (mv : Nat → Int32) (k : Int32) (hk : ¬ inR k 2) : Met l yX6_keep wsX6_keep ({ frames := 1, cells := 0, slots := 0, locals := 25 } : Room) (va_Pc [.ref ko, .int k] (xRp G (w_X6_keep_b G ko ad w h la tp ft tr mv))) (Q_X6_keep_b G ko ad w h la tp ft tr mv k) 0 0 (fun _ => False) := by
  refine Met.ofW (cc := cX6_keep) (maxL := 3) (ret := (some .int)) (by decide) rfl ?_
  intro pp ee ss mm aa below mt cd s₁ BB hml hv
  obtain ⟨rfl, hP, hK⟩ := hv
  have hx := BB.exec
  have hb := BB.bytes
  have hr := BB.returns
  have hts := atoms_spec (ws := wsX6_keep) BB.pre
  have hown : ss.vm.findClass RX6 = some mm.cls := findClass_of_methodNamed BB.named
  have hlocks := BB.notSynchronized
  have hS : va_S (fun _ => False) ss.heap ss.heap [] := va_S.rf
  replace hP : xP G [oC ko 6 [.ref (ad 0), .ref (ad 1), .int (nI w), .int (nI h), .int (nI la), .ref (ad 2), .int (mv 0), .int (mv 1), .int (mv 2), .int (mv 3), .int (mv 4), .int (mv 5), .int (mv 6), .ref (ad 3), .int (nI tp), .int (mv 7), .int (mv 8), .int (mv 9), .int (mv 10), .int ft, .int (mv 11), .ref (ad 4), .ref (ad 5), .ref (ad 6), .ref (ad 7), .ref (ad 8), .ref (ad 9), .ref (ad 10), .int tr]] ss.heap := hP
  have hin6 : ∀ w ∈ u_ws RX6 TX6 29, w ∈ wsX6_keep := fun w h => List.mem_cons_of_mem _ (List.mem_append_right _ h)
  have hl := lv_entry ([.ref ko, .int k]) (n := 3) (Nat.le_of_ble_eq_true rfl)
  rw [lg_entry_eq]
  generalize (lg_sl ([.ref ko, .int k]) ++ List.replicate (3 - (lg_sl ([.ref ko, .int k])).length) Slot.unset).toArray = ls at hl ⊢
  replace hl : lv_has ls 3 [(0, .ref ko), (1, .int k)] := hl
  refine lv_iload_n hx hb dX6_keep_0 rfl (lv_at hl 1 rfl) ?_
  refine xi_i2l hx hb dX6_keep_1 ?_
  refine lv_lconst (v := lN 0) hx hb dX6_keep_2 (by decide) ?_
  refine lv_lconst (v := lN 1) hx hb dX6_keep_3 (by decide) ?_
  refine xs_i (As := [.long k.toInt64, .long (lN 0), .long (lN 1)]) (rest := []) ⟨hx, hb, hml, hown, hts⟩ (c_X6_in_r l G k 1 (by first | assumption | omega)) (va_cwS 3 hts gX6_keep_X6_in rfl rfl rfl (by decide +kernel) ⟨Nat.le_of_ble_eq_true rfl, Nat.le_of_ble_eq_true rfl⟩) hP hS rfl hl.1 rfl (Nat.le_of_ble_eq_true rfl) dX6_keep_4 ⟨Nat.zero_le _, Nat.zero_le _⟩ (fun r4 H locs hp4 hP hS => ?_)
  rw [show r4 = _ from hp4]
  refine xb_if_ne (tgt := 12) hx hb dX6_keep_7 rfl (fun b7 => absurd b7 (by exact hk)) (fun _ => ?_)
  refine lv_iconst (v := (-1)) hx hb dX6_keep_10 (by decide) ?_
  refine W.iret (v := (-1)) hx hb hr (fun t ht hW => ⟨⟨(-1), (), rfl, ?_, trivial⟩, hS.F ht⟩) hS.2.2 dX6_keep_11
  rfl

abbrev w_X6_back_b (G : XG) (ko : Nat) (ad : Nat → Nat) (w h la tp : Nat) (ft tr : Int32) (mv : Nat → Int32) : va_W := [oC ko 6 [.ref (ad 0), .ref (ad 1), .int (nI w), .int (nI h), .int (nI la), .ref (ad 2), .int (mv 0), .int (mv 1), .int (mv 2), .int (mv 3), .int (mv 4), .int (mv 5), .int (mv 6), .ref (ad 3), .int (nI tp), .int (mv 7), .int (mv 8), .int (mv 9), .int (mv 10), .int ft, .int (mv 11), .ref (ad 4), .ref (ad 5), .ref (ad 6), .ref (ad 7), .ref (ad 8), .ref (ad 9), .ref (ad 10), .int tr]]
abbrev Q_X6_back_b (G : XG) (ko : Nat) (ad : Nat → Nat) (w h la tp : Nat) (ft tr : Int32) (mv : Nat → Int32) (k : Int32) : Array Value → State → Outcome → State → Prop := (xRi (fun r => r = (-1)))
set_option maxHeartbeats 4000000 in
set_option maxRecDepth 100000 in
theorem c_X6_back_b (l : Launch) (G : XG) (ko : Nat) (ad : Nat → Nat) (w h la tp : Nat) (ft tr : Int32) (mv : Nat → Int32) (k : Int32) (hk : ¬ inR k 2) : Met l yX6_back wsX6_back ({ frames := 1, cells := 0, slots := 0, locals := 25 } : Room) (va_Pc [.ref ko, .int k] (xRp G (w_X6_back_b G ko ad w h la tp ft tr mv))) (Q_X6_back_b G ko ad w h la tp ft tr mv k) 0 0 (fun _ => False) := by
  refine Met.ofW (cc := cX6_back) (maxL := 2) (ret := (some .int)) (by decide) rfl ?_
  intro pp ee ss mm aa below mt cd s₁ BB hml hv
  obtain ⟨rfl, hP, hK⟩ := hv
  have hx := BB.exec
  have hb := BB.bytes
  have hr := BB.returns
  have hts := atoms_spec (ws := wsX6_back) BB.pre
  have hown : ss.vm.findClass RX6 = some mm.cls := findClass_of_methodNamed BB.named
  have hlocks := BB.notSynchronized
  have hS : va_S (fun _ => False) ss.heap ss.heap [] := va_S.rf
  replace hP : xP G [oC ko 6 [.ref (ad 0), .ref (ad 1), .int (nI w), .int (nI h), .int (nI la), .ref (ad 2), .int (mv 0), .int (mv 1), .int (mv 2), .int (mv 3), .int (mv 4), .int (mv 5), .int (mv 6), .ref (ad 3), .int (nI tp), .int (mv 7), .int (mv 8), .int (mv 9), .int (mv 10), .int ft, .int (mv 11), .ref (ad 4), .ref (ad 5), .ref (ad 6), .ref (ad 7), .ref (ad 8), .ref (ad 9), .ref (ad 10), .int tr]] ss.heap := hP
  have hin6 : ∀ w ∈ u_ws RX6 TX6 29, w ∈ wsX6_back := fun w h => List.mem_cons_of_mem _ (List.mem_append_right _ h)
  have hl := lv_entry ([.ref ko, .int k]) (n := 2) (Nat.le_of_ble_eq_true rfl)
  rw [lg_entry_eq]
  generalize (lg_sl ([.ref ko, .int k]) ++ List.replicate (2 - (lg_sl ([.ref ko, .int k])).length) Slot.unset).toArray = ls at hl ⊢
  replace hl : lv_has ls 2 [(0, .ref ko), (1, .int k)] := hl
  refine lv_iload_n hx hb dX6_back_0 rfl (lv_at hl 1 rfl) ?_
  refine xi_i2l hx hb dX6_back_1 ?_
  refine lv_lconst (v := lN 0) hx hb dX6_back_2 (by decide) ?_
  refine lv_lconst (v := lN 1) hx hb dX6_back_3 (by decide) ?_
  refine xs_i (As := [.long k.toInt64, .long (lN 0), .long (lN 1)]) (rest := []) ⟨hx, hb, hml, hown, hts⟩ (c_X6_in_r l G k 1 (by first | assumption | omega)) (va_cwS 3 hts gX6_back_X6_in rfl rfl rfl (by decide +kernel) ⟨Nat.le_of_ble_eq_true rfl, Nat.le_of_ble_eq_true rfl⟩) hP hS rfl hl.1 rfl (Nat.le_of_ble_eq_true rfl) dX6_back_4 ⟨Nat.zero_le _, Nat.zero_le _⟩ (fun r4 H locs hp4 hP hS => ?_)
  rw [show r4 = _ from hp4]
  refine xb_if_ne (tgt := 12) hx hb dX6_back_7 rfl (fun b7 => absurd b7 (by exact hk)) (fun _ => ?_)
  refine lv_iconst (v := (-1)) hx hb dX6_back_10 (by decide) ?_
  refine W.iret (v := (-1)) hx hb hr (fun t ht hW => ⟨⟨(-1), (), rfl, ?_, trivial⟩, hS.F ht⟩) hS.2.2 dX6_back_11
  rfl

abbrev Q_X6_isSheet (G : XG) (k lane : Int32) : Array Value → State → Outcome → State → Prop := (xRi (fun r => r = xb (inR k 4 ∧ inR lane 3)))
set_option maxHeartbeats 4000000 in
set_option maxRecDepth 100000 in
theorem c_X6_isSheet (l : Launch) (G : XG) (k lane : Int32)  : Met l yX6_isSheet wsX6_isSheet ({ frames := 1, cells := 0, slots := 0, locals := 25 } : Room) (va_Pc [.int k, .int lane] (fun _ => True)) (Q_X6_isSheet G k lane) 0 0 (fun _ => False) := by
  refine Met.ofW (cc := cX6_isSheet) (maxL := 2) (ret := (some .boolean)) (by decide) rfl ?_
  intro pp ee ss mm aa below mt cd s₁ BB hml hv
  obtain ⟨rfl, -⟩ := hv
  have hx := BB.exec
  have hb := BB.bytes
  have hr := BB.returns
  have hts := atoms_spec (ws := wsX6_isSheet) BB.pre
  have hown : ss.vm.findClass RX6 = some mm.cls := findClass_of_methodNamed BB.named
  have hlocks := BB.notSynchronized
  have hS : va_S (fun _ => False) ss.heap ss.heap [] := va_S.rf
  have hP : xP (G) [] ss.heap := fun k q h => by cases h
  have hl := lv_entry ([.int k, .int lane]) (n := 2) (Nat.le_of_ble_eq_true rfl)
  rw [lg_entry_eq]
  generalize (lg_sl ([.int k, .int lane]) ++ List.replicate (2 - (lg_sl ([.int k, .int lane])).length) Slot.unset).toArray = ls at hl ⊢
  replace hl : lv_has ls 2 [(0, .int k), (1, .int lane)] := hl
  refine lv_iload_n hx hb dX6_isSheet_0 rfl (lv_at hl 0 rfl) ?_
  refine xi_i2l hx hb dX6_isSheet_1 ?_
  refine lv_lconst (v := lN 0) hx hb dX6_isSheet_2 (by decide) ?_
  refine lv_ldc2 (v := lN 3) hx hb hown (hts (.constantLong RX6 263 (lN 3)) (List.mem_of_getElem? (i := 1) rfl)) dX6_isSheet_3 ?_
  refine xs_i (As := [.long k.toInt64, .long (lN 0), .long (lN 3)]) (rest := []) ⟨hx, hb, hml, hown, hts⟩ (c_X6_in_r l G k 3 (by first | assumption | omega)) (va_cwS 3 hts gX6_isSheet_X6_in rfl rfl rfl (by decide +kernel) ⟨Nat.le_of_ble_eq_true rfl, Nat.le_of_ble_eq_true rfl⟩) hP hS rfl hl.1 rfl (Nat.le_of_ble_eq_true rfl) dX6_isSheet_6 ⟨Nat.zero_le _, Nat.zero_le _⟩ (fun r6 H locs hp6 hP hS => ?_)
  rw [show r6 = _ from hp6]
  refine xb_if_eq (tgt := 28) hx hb dX6_isSheet_9 rfl (fun b9 => ?_) (fun b9 => ?_)
  · skip
    refine lv_iconst (v := nI 0) hx hb dX6_isSheet_28 (by decide) ?_
    refine W.zret (v := nI 0) (ty := .boolean) hx hb hr (by decide) (fun t ht hW => ⟨⟨nI 0, (), rfl, ?_, trivial⟩, hS.F ht⟩) hS.2.2 dX6_isSheet_29
    first | exact (xb_t ⟨b9, b21⟩).symm | exact (xb_f (fun q => b9 q.1)).symm | exact (xb_f (fun q => b21 q.2)).symm
  · skip
    refine lv_iload_n hx hb dX6_isSheet_12 rfl (lv_at hl 1 rfl) ?_
    refine xi_i2l hx hb dX6_isSheet_13 ?_
    refine lv_lconst (v := lN 0) hx hb dX6_isSheet_14 (by decide) ?_
    refine lv_ldc2 (v := lN 2) hx hb hown (hts (.constantLong RX6 185 (lN 2)) (List.mem_of_getElem? (i := 2) rfl)) dX6_isSheet_15 ?_
    refine xs_i (As := [.long lane.toInt64, .long (lN 0), .long (lN 2)]) (rest := []) ⟨hx, hb, hml, hown, hts⟩ (c_X6_in_r l G lane 2 (by first | assumption | omega)) (va_cwS 3 hts gX6_isSheet_X6_in rfl rfl rfl (by decide +kernel) ⟨Nat.le_of_ble_eq_true rfl, Nat.le_of_ble_eq_true rfl⟩) hP hS rfl hl.1 rfl (Nat.le_of_ble_eq_true rfl) dX6_isSheet_18 ⟨Nat.zero_le _, Nat.zero_le _⟩ (fun r18 H locs hp18 hP hS => ?_)
    rw [show r18 = _ from hp18]
    refine xb_if_eq (tgt := 28) hx hb dX6_isSheet_21 rfl (fun b21 => ?_) (fun b21 => ?_)
    · skip
      refine lv_iconst (v := nI 0) hx hb dX6_isSheet_28 (by decide) ?_
      refine W.zret (v := nI 0) (ty := .boolean) hx hb hr (by decide) (fun t ht hW => ⟨⟨nI 0, (), rfl, ?_, trivial⟩, hS.F ht⟩) hS.2.2 dX6_isSheet_29
      first | exact (xb_t ⟨b9, b21⟩).symm | exact (xb_f (fun q => b9 q.1)).symm | exact (xb_f (fun q => b21 q.2)).symm
    · skip
      refine lv_iconst (v := nI 1) hx hb dX6_isSheet_24 (by decide) ?_
      refine lv_goto (tgt := 29) hx hb dX6_isSheet_25 rfl ?_
      refine W.zret (v := nI 1) (ty := .boolean) hx hb hr (by decide) (fun t ht hW => ⟨⟨nI 1, (), rfl, ?_, trivial⟩, hS.F ht⟩) hS.2.2 dX6_isSheet_29
      first | exact (xb_t ⟨b9, b21⟩).symm | exact (xb_f (fun q => b9 q.1)).symm | exact (xb_f (fun q => b21 q.2)).symm

abbrev w_X6_sheet (G : XG) (ko : Nat) (ad : Nat → Nat) (w h la tp : Nat) (ft tr : Int32) (mv : Nat → Int32) (ml ms mc : Nat → Int32) : va_W := [oC ko 6 [.ref (ad 0), .ref (ad 1), .int (nI w), .int (nI h), .int (nI la), .ref (ad 2), .int (mv 0), .int (mv 1), .int (mv 2), .int (mv 3), .int (mv 4), .int (mv 5), .int (mv 6), .ref (ad 3), .int (nI tp), .int (mv 7), .int (mv 8), .int (mv 9), .int (mv 10), .int ft, .int (mv 11), .ref (ad 4), .ref (ad 5), .ref (ad 6), .ref (ad 7), .ref (ad 8), .ref (ad 9), .ref (ad 10), .int tr], iA G (ad 8) 4 ml, iA G (ad 9) 4 ms, iA G (ad 10) 160 mc]
abbrev Q_X6_sheet (G : XG) (sz : Nat) (ko : Nat) (ad : Nat → Nat) (w h la tp : Nat) (ft tr : Int32) (mv : Nat → Int32) (ml ms mc : Nat → Int32) (j : Nat) (l2 : Int32) (n : Nat) : Array Value → State → Outcome → State → Prop := (va_Qi (fun (r : Int32) (u : (Nat → Int32) × (Nat → Int32) × (Nat → Int32)) => r = nI 1 ∧ u.1 = upd ml j l2 ∧ u.2.1 = upd ms j (nI n) ∧ ((∀ i, i < 40 → u.2.2 (40 * j + i) = nI 0) ∧ ∀ q, (q < 40 * j ∨ 40 * j + 40 ≤ q) → u.2.2 q = mc q)) (xWb G sz (w_X6_sheet G ko ad w h la tp ft tr mv ml ms mc) (fun u : (Nat → Int32) × (Nat → Int32) × (Nat → Int32) => [oC ko 6 [.ref (ad 0), .ref (ad 1), .int (nI w), .int (nI h), .int (nI la), .ref (ad 2), .int (mv 0), .int (mv 1), .int (mv 2), .int (mv 3), .int (mv 4), .int (mv 5), .int (mv 6), .ref (ad 3), .int (nI tp), .int (mv 7), .int (mv 8), .int (mv 9), .int (mv 10), .int ft, .int (mv 11), .ref (ad 4), .ref (ad 5), .ref (ad 6), .ref (ad 7), .ref (ad 8), .ref (ad 9), .ref (ad 10), .int tr], iA G (ad 8) 4 u.1, iA G (ad 9) 4 u.2.1, iA G (ad 10) 160 u.2.2])) (va_A (w_X6_sheet G ko ad w h la tp ft tr mv ml ms mc) sz))
set_option maxHeartbeats 4000000 in
set_option maxRecDepth 100000 in
theorem c_X6_sheet (l : Launch) (G : XG) (sz : Nat) (ko : Nat) (ad : Nat → Nat) (w h la tp : Nat) (ft tr : Int32) (mv : Nat → Int32) (ml ms mc : Nat → Int32) (j : Nat) (l2 : Int32) (n : Nat) (hj : j < 4) (hl2 : inR l2 3) (hn : n ≤ 40) : Met l yX6_sheet wsX6_sheet ({ frames := 2, cells := 0, slots := 0, locals := 46 } : Room) (va_Pc [.ref ko, .int (nI j), .int l2, .int (nI n)] (xWp G sz (w_X6_sheet G ko ad w h la tp ft tr mv ml ms mc))) (Q_X6_sheet G sz ko ad w h la tp ft tr mv ml ms mc j l2 n) 0 0 (va_A (w_X6_sheet G ko ad w h la tp ft tr mv ml ms mc) sz) := by
  refine Met.ofW (cc := cX6_sheet) (maxL := 5) (ret := (some .int)) (by decide) rfl ?_
  intro pp ee ss mm aa below mt cd s₁ BB hml hv
  obtain ⟨rfl, hsz, hP, hK, hD0⟩ := hv
  have hx := BB.exec
  have hb := BB.bytes
  have hr := BB.returns
  have hts := atoms_spec (ws := wsX6_sheet) BB.pre
  have hown : ss.vm.findClass RX6 = some mm.cls := findClass_of_methodNamed BB.named
  have hlocks := BB.notSynchronized
  subst hsz
  have hD := hD0.self (sz := ss.heap.size)
  have hA : ∀ q : Nat, ss.heap.size ≤ q → va_A (w_X6_sheet G ko ad w h la tp ft tr mv ml ms mc) ss.heap.size q := fun q h => Or.inr h
  have hS : va_S (va_A (w_X6_sheet G ko ad w h la tp ft tr mv ml ms mc) ss.heap.size) ss.heap ss.heap [] := va_S.rf
  replace hD : va_D (va_A (w_X6_sheet G ko ad w h la tp ft tr mv ml ms mc) ss.heap.size) [oC ko 6 [.ref (ad 0), .ref (ad 1), .int (nI w), .int (nI h), .int (nI la), .ref (ad 2), .int (mv 0), .int (mv 1), .int (mv 2), .int (mv 3), .int (mv 4), .int (mv 5), .int (mv 6), .ref (ad 3), .int (nI tp), .int (mv 7), .int (mv 8), .int (mv 9), .int (mv 10), .int ft, .int (mv 11), .ref (ad 4), .ref (ad 5), .ref (ad 6), .ref (ad 7), .ref (ad 8), .ref (ad 9), .ref (ad 10), .int tr], iA G (ad 8) 4 ml, iA G (ad 9) 4 ms, iA G (ad 10) 160 mc] := hD
  replace hP : xP G [oC ko 6 [.ref (ad 0), .ref (ad 1), .int (nI w), .int (nI h), .int (nI la), .ref (ad 2), .int (mv 0), .int (mv 1), .int (mv 2), .int (mv 3), .int (mv 4), .int (mv 5), .int (mv 6), .ref (ad 3), .int (nI tp), .int (mv 7), .int (mv 8), .int (mv 9), .int (mv 10), .int ft, .int (mv 11), .ref (ad 4), .ref (ad 5), .ref (ad 6), .ref (ad 7), .ref (ad 8), .ref (ad 9), .ref (ad 10), .int tr], iA G (ad 8) 4 ml, iA G (ad 9) 4 ms, iA G (ad 10) 160 mc] ss.heap := hP
  have hin6 : ∀ w ∈ u_ws RX6 TX6 29, w ∈ wsX6_sheet := fun w h => List.mem_cons_of_mem _ (List.mem_append_right _ h)
  have hl := lv_entry ([.ref ko, .int (nI j), .int l2, .int (nI n)]) (n := 5) (Nat.le_of_ble_eq_true rfl)
  rw [lg_entry_eq]
  generalize (lg_sl ([.ref ko, .int (nI j), .int l2, .int (nI n)]) ++ List.replicate (5 - (lg_sl ([.ref ko, .int (nI j), .int l2, .int (nI n)])).length) Slot.unset).toArray = ls at hl ⊢
  replace hl : lv_has ls 5 [(0, .ref ko), (1, .int (nI j)), (2, .int l2), (3, .int (nI n))] := hl
  refine lv_iload_n hx hb dX6_sheet_0 rfl (lv_at hl 1 rfl) ?_
  refine lv_iload_n hx hb dX6_sheet_1 rfl (lv_at hl 2 rfl) ?_
  refine xs_i (As := [.int (nI j), .int l2]) (rest := []) ⟨hx, hb, hml, hown, hts⟩ (c_X6_isSheet l G (nI j) l2 ) (va_cwS 2 hts gX6_sheet_X6_isSheet rfl rfl rfl (by decide +kernel) ⟨Nat.le_of_ble_eq_true rfl, Nat.le_of_ble_eq_true rfl⟩) hP hS rfl hl.1 rfl (Nat.le_of_ble_eq_true rfl) dX6_sheet_2 ⟨Nat.zero_le _, Nat.zero_le _⟩ (fun r2 H locs hp2 hP hS => ?_)
  rw [show r2 = _ from hp2]
  refine xb_if_eq (tgt := 14) hx hb dX6_sheet_5 rfl (fun b5 => absurd b5 (by exact fun q => q ⟨inR_nI hj (by omega), hl2⟩)) (fun _ => ?_)
  refine lv_iload_n hx hb dX6_sheet_8 rfl (lv_at hl 3 rfl) ?_
  refine lv_bipush (v := nI 40) hx hb dX6_sheet_9 (by decide) ?_
  refine xn_icmp_le (tgt := 16) hx hb (by omega) (by omega) dX6_sheet_11 rfl (fun _ => ?_) (fun b11 => absurd b11 (by omega))
  refine lv_iload_n hx hb dX6_sheet_16 rfl (lv_at hl 3 rfl) ?_
  refine xn_if_ge (tgt := 23) hx hb (by omega) dX6_sheet_17 rfl (fun _ => ?_) (fun b17 => absurd b17 (by omega))
  refine lv_aload_n hx hb dX6_sheet_23 rfl (lv_at hl 0 rfl) ?_
  refine va_get (D := G.1) (ci := 6) (v := .ref (ad 8)) (C := RX6) (T := TX6) (N := 29) hx hb hts hin6 hown hK.1 hP 0 rfl rfl 25 (by decide) (hts (.fieldLink RX6 35 "BackLensesModel" "lanes" "[I") (List.mem_of_getElem? (i := 1) rfl)) (fun _ h9 => h9) rfl dX6_sheet_24 ?_
  refine lv_iload_n hx hb dX6_sheet_27 rfl (lv_at hl 1 rfl) ?_
  refine lv_iload_n hx hb dX6_sheet_28 rfl (lv_at hl 2 rfl) ?_
  refine xn_iast hx hb hK hP hD hS 1 rfl (by omega) (by omega) dX6_sheet_29 (fun H locs hP hD hS => ?_)
  replace hP : xP G [oC ko 6 [.ref (ad 0), .ref (ad 1), .int (nI w), .int (nI h), .int (nI la), .ref (ad 2), .int (mv 0), .int (mv 1), .int (mv 2), .int (mv 3), .int (mv 4), .int (mv 5), .int (mv 6), .ref (ad 3), .int (nI tp), .int (mv 7), .int (mv 8), .int (mv 9), .int (mv 10), .int ft, .int (mv 11), .ref (ad 4), .ref (ad 5), .ref (ad 6), .ref (ad 7), .ref (ad 8), .ref (ad 9), .ref (ad 10), .int tr], iA G (ad 8) 4 (upd ml j l2), iA G (ad 9) 4 ms, iA G (ad 10) 160 mc] H := hP
  replace hD : va_D (va_A (w_X6_sheet G ko ad w h la tp ft tr mv ml ms mc) ss.heap.size) [oC ko 6 [.ref (ad 0), .ref (ad 1), .int (nI w), .int (nI h), .int (nI la), .ref (ad 2), .int (mv 0), .int (mv 1), .int (mv 2), .int (mv 3), .int (mv 4), .int (mv 5), .int (mv 6), .ref (ad 3), .int (nI tp), .int (mv 7), .int (mv 8), .int (mv 9), .int (mv 10), .int ft, .int (mv 11), .ref (ad 4), .ref (ad 5), .ref (ad 6), .ref (ad 7), .ref (ad 8), .ref (ad 9), .ref (ad 10), .int tr], iA G (ad 8) 4 (upd ml j l2), iA G (ad 9) 4 ms, iA G (ad 10) 160 mc] := hD
  refine lv_aload_n hx hb dX6_sheet_30 rfl (lv_at hl 0 rfl) ?_
  refine va_get (D := G.1) (ci := 6) (v := .ref (ad 9)) (C := RX6) (T := TX6) (N := 29) hx hb hts hin6 hown hK.1 hP 0 rfl rfl 26 (by decide) (hts (.fieldLink RX6 38 "BackLensesModel" "sizes" "[I") (List.mem_of_getElem? (i := 2) rfl)) (fun _ h9 => h9) rfl dX6_sheet_31 ?_
  refine lv_iload_n hx hb dX6_sheet_34 rfl (lv_at hl 1 rfl) ?_
  refine lv_iload_n hx hb dX6_sheet_35 rfl (lv_at hl 3 rfl) ?_
  refine xn_iast hx hb hK hP hD hS 2 rfl (by omega) (by omega) dX6_sheet_36 (fun H locs hP hD hS => ?_)
  replace hP : xP G [oC ko 6 [.ref (ad 0), .ref (ad 1), .int (nI w), .int (nI h), .int (nI la), .ref (ad 2), .int (mv 0), .int (mv 1), .int (mv 2), .int (mv 3), .int (mv 4), .int (mv 5), .int (mv 6), .ref (ad 3), .int (nI tp), .int (mv 7), .int (mv 8), .int (mv 9), .int (mv 10), .int ft, .int (mv 11), .ref (ad 4), .ref (ad 5), .ref (ad 6), .ref (ad 7), .ref (ad 8), .ref (ad 9), .ref (ad 10), .int tr], iA G (ad 8) 4 (upd ml j l2), iA G (ad 9) 4 (upd ms j (nI n)), iA G (ad 10) 160 mc] H := hP
  replace hD : va_D (va_A (w_X6_sheet G ko ad w h la tp ft tr mv ml ms mc) ss.heap.size) [oC ko 6 [.ref (ad 0), .ref (ad 1), .int (nI w), .int (nI h), .int (nI la), .ref (ad 2), .int (mv 0), .int (mv 1), .int (mv 2), .int (mv 3), .int (mv 4), .int (mv 5), .int (mv 6), .ref (ad 3), .int (nI tp), .int (mv 7), .int (mv 8), .int (mv 9), .int (mv 10), .int ft, .int (mv 11), .ref (ad 4), .ref (ad 5), .ref (ad 6), .ref (ad 7), .ref (ad 8), .ref (ad 9), .ref (ad 10), .int tr], iA G (ad 8) 4 (upd ml j l2), iA G (ad 9) 4 (upd ms j (nI n)), iA G (ad 10) 160 mc] := hD
  refine lv_iconst (v := nI 0) hx hb dX6_sheet_37 (by decide) ?_
  refine lv_istore (lv' := [(4, .int (nI 0)), (0, .ref ko), (1, .int (nI j)), (2, .int l2), (3, .int (nI n))]) hx hb dX6_sheet_38 hl (by decide) rfl (fun ls hl => ?_)
  have hL40 : ∀ k : Nat, ∀ (i : Nat) (mc3 : Nat → Int32) (ls : Array Slot) (H : Heap) (locs : List Loc), 40 - i = k → (i ≤ 40) → (∀ k, k < i → mc3 (40 * j + k) = nI 0) → (∀ q, (q < 40 * j ∨ 40 * j + 40 ≤ q) → mc3 q = mc q) → lv_has ls 5 [(0, .ref ko), (1, .int (nI j)), (2, .int l2), (3, .int (nI n)), (4, .int (nI i))] → xP G [iA G (ad 10) 160 mc3, iA G (ad 8) 4 (upd ml j l2), iA G (ad 9) 4 (upd ms j (nI n)), oC ko 6 [.ref (ad 0), .ref (ad 1), .int (nI w), .int (nI h), .int (nI la), .ref (ad 2), .int (mv 0), .int (mv 1), .int (mv 2), .int (mv 3), .int (mv 4), .int (mv 5), .int (mv 6), .ref (ad 3), .int (nI tp), .int (mv 7), .int (mv 8), .int (mv 9), .int (mv 10), .int ft, .int (mv 11), .ref (ad 4), .ref (ad 5), .ref (ad 6), .ref (ad 7), .ref (ad 8), .ref (ad 9), .ref (ad 10), .int tr]] H → va_D (va_A (w_X6_sheet G ko ad w h la tp ft tr mv ml ms mc) ss.heap.size) [iA G (ad 10) 160 mc3, iA G (ad 8) 4 (upd ml j l2), iA G (ad 9) 4 (upd ms j (nI n)), oC ko 6 [.ref (ad 0), .ref (ad 1), .int (nI w), .int (nI h), .int (nI la), .ref (ad 2), .int (mv 0), .int (mv 1), .int (mv 2), .int (mv 3), .int (mv 4), .int (mv 5), .int (mv 6), .ref (ad 3), .int (nI tp), .int (mv 7), .int (mv 8), .int (mv 9), .int (mv 10), .int ft, .int (mv 11), .ref (ad 4), .ref (ad 5), .ref (ad 6), .ref (ad 7), .ref (ad 8), .ref (ad 9), .ref (ad 10), .int tr]] → va_S (va_A (w_X6_sheet G ko ad w h la tp ft tr mv ml ms mc) ss.heap.size) ss.heap H locs → W pp l ee ({ frames := 2, cells := 0, slots := 0, locals := 46 } : Room) ss mm ([.ref ko, .int (nI j), .int l2, .int (nI n)] : List Value).toArray below mt cd H locs 0 0 (MQ below (Q_X6_sheet G ss.heap.size ko ad w h la tp ft tr mv ml ms mc j l2 n) ([.ref ko, .int (nI j), .int l2, .int (nI n)] : List Value).toArray ss 0 0 (va_A (w_X6_sheet G ko ad w h la tp ft tr mv ml ms mc) ss.heap.size)) (F0 mm 40 ls []) := by
    intro k
    induction k using Nat.strongRecOn with
    | _ k ih40 =>
    intro i mc3 ls H locs hm40 hi hc1 hc2 hl hP hD hS
    refine lv_iload hx hb dX6_sheet_40 (lv_at hl 4 rfl) ?_
    refine lv_bipush (v := nI 40) hx hb dX6_sheet_42 (by decide) ?_
    refine xn_icmp_ge (tgt := 66) hx hb (by omega) (by omega) dX6_sheet_44 rfl (fun b44 => ?_) (fun b44 => ?_)
    · skip
      refine lv_iconst (v := nI 1) hx hb dX6_sheet_66 (by decide) ?_
      have hP := hP.sub (ws' := [oC ko 6 [.ref (ad 0), .ref (ad 1), .int (nI w), .int (nI h), .int (nI la), .ref (ad 2), .int (mv 0), .int (mv 1), .int (mv 2), .int (mv 3), .int (mv 4), .int (mv 5), .int (mv 6), .ref (ad 3), .int (nI tp), .int (mv 7), .int (mv 8), .int (mv 9), .int (mv 10), .int ft, .int (mv 11), .ref (ad 4), .ref (ad 5), .ref (ad 6), .ref (ad 7), .ref (ad 8), .ref (ad 9), .ref (ad 10), .int tr], iA G (ad 8) 4 (upd ml j l2), iA G (ad 9) 4 (upd ms j (nI n)), iA G (ad 10) 160 mc3]) [3, 1, 2, 0] rfl
      have hD := hD.sub (ws' := [oC ko 6 [.ref (ad 0), .ref (ad 1), .int (nI w), .int (nI h), .int (nI la), .ref (ad 2), .int (mv 0), .int (mv 1), .int (mv 2), .int (mv 3), .int (mv 4), .int (mv 5), .int (mv 6), .ref (ad 3), .int (nI tp), .int (mv 7), .int (mv 8), .int (mv 9), .int (mv 10), .int ft, .int (mv 11), .ref (ad 4), .ref (ad 5), .ref (ad 6), .ref (ad 7), .ref (ad 8), .ref (ad 9), .ref (ad 10), .int tr], iA G (ad 8) 4 (upd ml j l2), iA G (ad 9) 4 (upd ms j (nI n)), iA G (ad 10) 160 mc3]) [3, 1, 2, 0] (by decide) rfl
      refine W.iret (v := nI 1) hx hb hr (fun t ht hW => ⟨⟨nI 1, (upd ml j l2, upd ms j (nI n), mc3), rfl, ?_, by rw [ht]; exact hP, hD⟩, hS.F ht⟩) hS.2.2 dX6_sheet_67
      try dsimp only
      exact ⟨rfl, rfl, rfl, fun k hk => hc1 k (by omega), hc2⟩
    · skip
      refine lv_aload_n hx hb dX6_sheet_47 rfl (lv_at hl 0 rfl) ?_
      refine va_get (D := G.1) (ci := 6) (v := .ref (ad 10)) (C := RX6) (T := TX6) (N := 29) hx hb hts hin6 hown hK.1 hP 3 rfl rfl 27 (by decide) (hts (.fieldLink RX6 41 "BackLensesModel" "cells" "[I") (List.mem_of_getElem? (i := 3) rfl)) (fun _ h9 => h9) rfl dX6_sheet_48 ?_
      refine lv_bipush (v := nI 40) hx hb dX6_sheet_51 (by decide) ?_
      refine lv_iload_n hx hb dX6_sheet_53 rfl (lv_at hl 1 rfl) ?_
      refine xn_imul hx hb dX6_sheet_54 ?_
      refine lv_iload hx hb dX6_sheet_55 (lv_at hl 4 rfl) ?_
      refine xn_iadd hx hb dX6_sheet_57 ?_
      refine lv_iconst (v := nI 0) hx hb dX6_sheet_58 (by decide) ?_
      refine xn_iast hx hb hK hP hD hS 0 rfl (by omega) (by omega) dX6_sheet_59 (fun H locs hP hD hS => ?_)
      replace hP : xP G [iA G (ad 10) 160 (upd mc3 ((40 * j) + i) (nI 0)), iA G (ad 8) 4 (upd ml j l2), iA G (ad 9) 4 (upd ms j (nI n)), oC ko 6 [.ref (ad 0), .ref (ad 1), .int (nI w), .int (nI h), .int (nI la), .ref (ad 2), .int (mv 0), .int (mv 1), .int (mv 2), .int (mv 3), .int (mv 4), .int (mv 5), .int (mv 6), .ref (ad 3), .int (nI tp), .int (mv 7), .int (mv 8), .int (mv 9), .int (mv 10), .int ft, .int (mv 11), .ref (ad 4), .ref (ad 5), .ref (ad 6), .ref (ad 7), .ref (ad 8), .ref (ad 9), .ref (ad 10), .int tr]] H := hP
      replace hD : va_D (va_A (w_X6_sheet G ko ad w h la tp ft tr mv ml ms mc) ss.heap.size) [iA G (ad 10) 160 (upd mc3 ((40 * j) + i) (nI 0)), iA G (ad 8) 4 (upd ml j l2), iA G (ad 9) 4 (upd ms j (nI n)), oC ko 6 [.ref (ad 0), .ref (ad 1), .int (nI w), .int (nI h), .int (nI la), .ref (ad 2), .int (mv 0), .int (mv 1), .int (mv 2), .int (mv 3), .int (mv 4), .int (mv 5), .int (mv 6), .ref (ad 3), .int (nI tp), .int (mv 7), .int (mv 8), .int (mv 9), .int (mv 10), .int ft, .int (mv 11), .ref (ad 4), .ref (ad 5), .ref (ad 6), .ref (ad 7), .ref (ad 8), .ref (ad 9), .ref (ad 10), .int tr]] := hD
      refine lv_iinc (k := 4) (v := nI (i + 1)) (lv' := [(4, .int (nI (i + 1))), (0, .ref ko), (1, .int (nI j)), (2, .int l2), (3, .int (nI n))]) hx hb dX6_sheet_60 hl rfl (xn_inc i 1) (by decide) rfl (fun ls hl => ?_)
      refine lv_goto (tgt := 40) hx hb dX6_sheet_63 rfl ?_
      have hl := lv_sub hl (l' := [(0, .ref ko), (1, .int (nI j)), (2, .int l2), (3, .int (nI n)), (4, .int (nI (i + 1)))]) [1, 2, 3, 4, 0] rfl
      exact ih40 (40 - (i + 1)) (by omega) (i + 1) (upd mc3 ((40 * j) + i) (nI 0)) ls H locs rfl (by omega) (by intro k hk; by_cases hq : k = i; (subst hq; exact upd_eq); (rw [upd_ne (by omega)]; exact hc1 k (by omega))) (by intro q hq; rw [upd_ne (by omega)]; exact hc2 q hq) hl hP hD hS
  have hl := lv_sub hl (l' := [(0, .ref ko), (1, .int (nI j)), (2, .int l2), (3, .int (nI n)), (4, .int (nI 0))]) [1, 2, 3, 4, 0] rfl
  have hP := hP.sub (ws' := [iA G (ad 10) 160 mc, iA G (ad 8) 4 (upd ml j l2), iA G (ad 9) 4 (upd ms j (nI n)), oC ko 6 [.ref (ad 0), .ref (ad 1), .int (nI w), .int (nI h), .int (nI la), .ref (ad 2), .int (mv 0), .int (mv 1), .int (mv 2), .int (mv 3), .int (mv 4), .int (mv 5), .int (mv 6), .ref (ad 3), .int (nI tp), .int (mv 7), .int (mv 8), .int (mv 9), .int (mv 10), .int ft, .int (mv 11), .ref (ad 4), .ref (ad 5), .ref (ad 6), .ref (ad 7), .ref (ad 8), .ref (ad 9), .ref (ad 10), .int tr]]) [3, 1, 2, 0] rfl
  have hD := hD.sub (ws' := [iA G (ad 10) 160 mc, iA G (ad 8) 4 (upd ml j l2), iA G (ad 9) 4 (upd ms j (nI n)), oC ko 6 [.ref (ad 0), .ref (ad 1), .int (nI w), .int (nI h), .int (nI la), .ref (ad 2), .int (mv 0), .int (mv 1), .int (mv 2), .int (mv 3), .int (mv 4), .int (mv 5), .int (mv 6), .ref (ad 3), .int (nI tp), .int (mv 7), .int (mv 8), .int (mv 9), .int (mv 10), .int ft, .int (mv 11), .ref (ad 4), .ref (ad 5), .ref (ad 6), .ref (ad 7), .ref (ad 8), .ref (ad 9), .ref (ad 10), .int tr]]) [3, 1, 2, 0] (by decide) rfl
  exact hL40 (40 - 0) 0 mc ls H locs rfl (by omega) (by intro k hk; omega) (by intro q hq; rfl) hl hP hD hS

abbrev w_X6_sheet_b (G : XG) (ko : Nat) (ad : Nat → Nat) (w h la tp : Nat) (ft tr : Int32) (mv : Nat → Int32) : va_W := [oC ko 6 [.ref (ad 0), .ref (ad 1), .int (nI w), .int (nI h), .int (nI la), .ref (ad 2), .int (mv 0), .int (mv 1), .int (mv 2), .int (mv 3), .int (mv 4), .int (mv 5), .int (mv 6), .ref (ad 3), .int (nI tp), .int (mv 7), .int (mv 8), .int (mv 9), .int (mv 10), .int ft, .int (mv 11), .ref (ad 4), .ref (ad 5), .ref (ad 6), .ref (ad 7), .ref (ad 8), .ref (ad 9), .ref (ad 10), .int tr]]
abbrev Q_X6_sheet_b (G : XG) (ko : Nat) (ad : Nat → Nat) (w h la tp : Nat) (ft tr : Int32) (mv : Nat → Int32) (k l2 n : Int32) : Array Value → State → Outcome → State → Prop := (xRi (fun r => r = (if inR k 4 ∧ inR l2 3 ∧ n.toInt ≤ 40 then (-14) else (-1))))
set_option maxHeartbeats 4000000 in
set_option maxRecDepth 100000 in
theorem c_X6_sheet_b (l : Launch) (G : XG) (ko : Nat) (ad : Nat → Nat) (w h la tp : Nat) (ft tr : Int32) (mv : Nat → Int32) (k l2 n : Int32) (hbad : ¬ (inR k 4 ∧ inR l2 3 ∧ n.toInt ≤ 40 ∧ 0 ≤ n.toInt)) : Met l yX6_sheet wsX6_sheet ({ frames := 2, cells := 0, slots := 0, locals := 46 } : Room) (va_Pc [.ref ko, .int k, .int l2, .int n] (xRp G (w_X6_sheet_b G ko ad w h la tp ft tr mv))) (Q_X6_sheet_b G ko ad w h la tp ft tr mv k l2 n) 0 0 (fun _ => False) := by
  refine Met.ofW (cc := cX6_sheet) (maxL := 5) (ret := (some .int)) (by decide) rfl ?_
  intro pp ee ss mm aa below mt cd s₁ BB hml hv
  obtain ⟨rfl, hP, hK⟩ := hv
  have hx := BB.exec
  have hb := BB.bytes
  have hr := BB.returns
  have hts := atoms_spec (ws := wsX6_sheet) BB.pre
  have hown : ss.vm.findClass RX6 = some mm.cls := findClass_of_methodNamed BB.named
  have hlocks := BB.notSynchronized
  have hS : va_S (fun _ => False) ss.heap ss.heap [] := va_S.rf
  replace hP : xP G [oC ko 6 [.ref (ad 0), .ref (ad 1), .int (nI w), .int (nI h), .int (nI la), .ref (ad 2), .int (mv 0), .int (mv 1), .int (mv 2), .int (mv 3), .int (mv 4), .int (mv 5), .int (mv 6), .ref (ad 3), .int (nI tp), .int (mv 7), .int (mv 8), .int (mv 9), .int (mv 10), .int ft, .int (mv 11), .ref (ad 4), .ref (ad 5), .ref (ad 6), .ref (ad 7), .ref (ad 8), .ref (ad 9), .ref (ad 10), .int tr]] ss.heap := hP
  have hin6 : ∀ w ∈ u_ws RX6 TX6 29, w ∈ wsX6_sheet := fun w h => List.mem_cons_of_mem _ (List.mem_append_right _ h)
  have hl := lv_entry ([.ref ko, .int k, .int l2, .int n]) (n := 5) (Nat.le_of_ble_eq_true rfl)
  rw [lg_entry_eq]
  generalize (lg_sl ([.ref ko, .int k, .int l2, .int n]) ++ List.replicate (5 - (lg_sl ([.ref ko, .int k, .int l2, .int n])).length) Slot.unset).toArray = ls at hl ⊢
  replace hl : lv_has ls 5 [(0, .ref ko), (1, .int k), (2, .int l2), (3, .int n)] := hl
  refine lv_iload_n hx hb dX6_sheet_0 rfl (lv_at hl 1 rfl) ?_
  refine lv_iload_n hx hb dX6_sheet_1 rfl (lv_at hl 2 rfl) ?_
  refine xs_i (As := [.int k, .int l2]) (rest := []) ⟨hx, hb, hml, hown, hts⟩ (c_X6_isSheet l G k l2 ) (va_cwS 2 hts gX6_sheet_X6_isSheet rfl rfl rfl (by decide +kernel) ⟨Nat.le_of_ble_eq_true rfl, Nat.le_of_ble_eq_true rfl⟩) hP hS rfl hl.1 rfl (Nat.le_of_ble_eq_true rfl) dX6_sheet_2 ⟨Nat.zero_le _, Nat.zero_le _⟩ (fun r2 H locs hp2 hP hS => ?_)
  rw [show r2 = _ from hp2]
  refine xb_if_eq (tgt := 14) hx hb dX6_sheet_5 rfl (fun b5 => ?_) (fun b5 => ?_)
  · skip
    refine lv_iconst (v := (-1)) hx hb dX6_sheet_14 (by decide) ?_
    refine W.iret (v := (-1)) hx hb hr (fun t ht hW => ⟨⟨(-1), (), rfl, ?_, trivial⟩, hS.F ht⟩) hS.2.2 dX6_sheet_15
    first | exact (if_neg (fun q => b5 ⟨q.1, q.2.1⟩)).symm | exact (if_neg (fun q => b11 q.2.2)).symm | exact (if_pos ⟨b5.1, b5.2, b11⟩).symm
  · skip
    refine lv_iload_n hx hb dX6_sheet_8 rfl (lv_at hl 3 rfl) ?_
    refine lv_bipush (v := nI 40) hx hb dX6_sheet_9 (by decide) ?_
    refine xm_icmp_le (tgt := 16) hx hb (by omega) dX6_sheet_11 rfl (fun b11 => ?_) (fun b11 => ?_)
    · skip
      refine lv_iload_n hx hb dX6_sheet_16 rfl (lv_at hl 3 rfl) ?_
      refine xi_if_ge (tgt := 23) hx hb dX6_sheet_17 rfl (fun b17 => ?_) (fun b17 => ?_)
      · skip
        exact absurd ⟨b5.1, b5.2, b11, b17⟩ hbad
      · skip
        refine lv_bipush (v := (-14)) hx hb dX6_sheet_20 (by decide) ?_
        refine W.iret (v := (-14)) hx hb hr (fun t ht hW => ⟨⟨(-14), (), rfl, ?_, trivial⟩, hS.F ht⟩) hS.2.2 dX6_sheet_22
        first | exact (if_neg (fun q => b5 ⟨q.1, q.2.1⟩)).symm | exact (if_neg (fun q => b11 q.2.2)).symm | exact (if_pos ⟨b5.1, b5.2, b11⟩).symm
    · skip
      refine lv_iconst (v := (-1)) hx hb dX6_sheet_14 (by decide) ?_
      refine W.iret (v := (-1)) hx hb hr (fun t ht hW => ⟨⟨(-1), (), rfl, ?_, trivial⟩, hS.F ht⟩) hS.2.2 dX6_sheet_15
      first | exact (if_neg (fun q => b5 ⟨q.1, q.2.1⟩)).symm | exact (if_neg (fun q => b11 q.2.2)).symm | exact (if_pos ⟨b5.1, b5.2, b11⟩).symm

abbrev w_X6_lay_b (G : XG) (ko : Nat) (ad : Nat → Nat) (w h la tp : Nat) (ft tr : Int32) (mv : Nat → Int32) : va_W := [oC ko 6 [.ref (ad 0), .ref (ad 1), .int (nI w), .int (nI h), .int (nI la), .ref (ad 2), .int (mv 0), .int (mv 1), .int (mv 2), .int (mv 3), .int (mv 4), .int (mv 5), .int (mv 6), .ref (ad 3), .int (nI tp), .int (mv 7), .int (mv 8), .int (mv 9), .int (mv 10), .int ft, .int (mv 11), .ref (ad 4), .ref (ad 5), .ref (ad 6), .ref (ad 7), .ref (ad 8), .ref (ad 9), .ref (ad 10), .int tr]]
abbrev Q_X6_lay_b (G : XG) (ko : Nat) (ad : Nat → Nat) (w h la tp : Nat) (ft tr : Int32) (mv : Nat → Int32) (k i v : Int32) : Array Value → State → Outcome → State → Prop := (xRi (fun r => r = (-1)))
set_option maxHeartbeats 4000000 in
set_option maxRecDepth 100000 in
theorem c_X6_lay_b (l : Launch) (G : XG) (ko : Nat) (ad : Nat → Nat) (w h la tp : Nat) (ft tr : Int32) (mv : Nat → Int32) (k i v : Int32) (hbad : ¬ inR k 4) : Met l yX6_lay wsX6_lay ({ frames := 2, cells := 0, slots := 0, locals := 46 } : Room) (va_Pc [.ref ko, .int k, .int i, .int v] (xRp G (w_X6_lay_b G ko ad w h la tp ft tr mv))) (Q_X6_lay_b G ko ad w h la tp ft tr mv k i v) 0 0 (fun _ => False) := by
  refine Met.ofW (cc := cX6_lay) (maxL := 4) (ret := (some .int)) (by decide) rfl ?_
  intro pp ee ss mm aa below mt cd s₁ BB hml hv
  obtain ⟨rfl, hP, hK⟩ := hv
  have hx := BB.exec
  have hb := BB.bytes
  have hr := BB.returns
  have hts := atoms_spec (ws := wsX6_lay) BB.pre
  have hown : ss.vm.findClass RX6 = some mm.cls := findClass_of_methodNamed BB.named
  have hlocks := BB.notSynchronized
  have hS : va_S (fun _ => False) ss.heap ss.heap [] := va_S.rf
  replace hP : xP G [oC ko 6 [.ref (ad 0), .ref (ad 1), .int (nI w), .int (nI h), .int (nI la), .ref (ad 2), .int (mv 0), .int (mv 1), .int (mv 2), .int (mv 3), .int (mv 4), .int (mv 5), .int (mv 6), .ref (ad 3), .int (nI tp), .int (mv 7), .int (mv 8), .int (mv 9), .int (mv 10), .int ft, .int (mv 11), .ref (ad 4), .ref (ad 5), .ref (ad 6), .ref (ad 7), .ref (ad 8), .ref (ad 9), .ref (ad 10), .int tr]] ss.heap := hP
  have hin6 : ∀ w ∈ u_ws RX6 TX6 29, w ∈ wsX6_lay := fun w h => List.mem_cons_of_mem _ (List.mem_append_right _ h)
  have hl := lv_entry ([.ref ko, .int k, .int i, .int v]) (n := 4) (Nat.le_of_ble_eq_true rfl)
  rw [lg_entry_eq]
  generalize (lg_sl ([.ref ko, .int k, .int i, .int v]) ++ List.replicate (4 - (lg_sl ([.ref ko, .int k, .int i, .int v])).length) Slot.unset).toArray = ls at hl ⊢
  replace hl : lv_has ls 4 [(0, .ref ko), (1, .int k), (2, .int i), (3, .int v)] := hl
  refine lv_iload_n hx hb dX6_lay_0 rfl (lv_at hl 1 rfl) ?_
  refine lv_iconst (v := nI 0) hx hb dX6_lay_1 (by decide) ?_
  refine xs_i (As := [.int k, .int (nI 0)]) (rest := []) ⟨hx, hb, hml, hown, hts⟩ (c_X6_isSheet l G k (nI 0) ) (va_cwS 2 hts gX6_lay_X6_isSheet rfl rfl rfl (by decide +kernel) ⟨Nat.le_of_ble_eq_true rfl, Nat.le_of_ble_eq_true rfl⟩) hP hS rfl hl.1 rfl (Nat.le_of_ble_eq_true rfl) dX6_lay_2 ⟨Nat.zero_le _, Nat.zero_le _⟩ (fun r2 H locs hp2 hP hS => ?_)
  rw [show r2 = _ from hp2]
  refine xb_if_ne (tgt := 10) hx hb dX6_lay_5 rfl (fun b5 => absurd b5 (by exact fun q => hbad q.1)) (fun _ => ?_)
  refine lv_iconst (v := (-1)) hx hb dX6_lay_8 (by decide) ?_
  refine W.iret (v := (-1)) hx hb hr (fun t ht hW => ⟨⟨(-1), (), rfl, ?_, trivial⟩, hS.F ht⟩) hS.2.2 dX6_lay_9
  rfl

abbrev w_X6_lay (G : XG) (ko : Nat) (ad : Nat → Nat) (w h la tp : Nat) (ft tr : Int32) (mv : Nat → Int32) (ml ms mc : Nat → Int32) : va_W := [oC ko 6 [.ref (ad 0), .ref (ad 1), .int (nI w), .int (nI h), .int (nI la), .ref (ad 2), .int (mv 0), .int (mv 1), .int (mv 2), .int (mv 3), .int (mv 4), .int (mv 5), .int (mv 6), .ref (ad 3), .int (nI tp), .int (mv 7), .int (mv 8), .int (mv 9), .int (mv 10), .int ft, .int (mv 11), .ref (ad 4), .ref (ad 5), .ref (ad 6), .ref (ad 7), .ref (ad 8), .ref (ad 9), .ref (ad 10), .int tr], iA G (ad 8) 4 ml, iA G (ad 9) 4 ms, iA G (ad 10) 160 mc]
abbrev Q_X6_lay (G : XG) (sz : Nat) (ko : Nat) (ad : Nat → Nat) (w h la tp : Nat) (ft tr : Int32) (mv : Nat → Int32) (ml ms mc : Nat → Int32) (j zz : Nat) (i v : Int32) : Array Value → State → Outcome → State → Prop := (va_Qi (fun (r : Int32) (u : (Nat → Int32)) => r = (if ml j = (-4) then (-11) else if inR i zz then nI 1 else (-12)) ∧ u = (if (¬ ml j = (-4) ∧ inR i zz) then upd mc (40 * j + tn i) (if ml j = 0 then v.toInt8.toInt32 else if ml j = nI 1 then v.toInt16.toInt32 else v) else mc)) (xWb G sz (w_X6_lay G ko ad w h la tp ft tr mv ml ms mc) (fun u : (Nat → Int32) => [oC ko 6 [.ref (ad 0), .ref (ad 1), .int (nI w), .int (nI h), .int (nI la), .ref (ad 2), .int (mv 0), .int (mv 1), .int (mv 2), .int (mv 3), .int (mv 4), .int (mv 5), .int (mv 6), .ref (ad 3), .int (nI tp), .int (mv 7), .int (mv 8), .int (mv 9), .int (mv 10), .int ft, .int (mv 11), .ref (ad 4), .ref (ad 5), .ref (ad 6), .ref (ad 7), .ref (ad 8), .ref (ad 9), .ref (ad 10), .int tr], iA G (ad 8) 4 ml, iA G (ad 9) 4 ms, iA G (ad 10) 160 u])) (va_A (w_X6_lay G ko ad w h la tp ft tr mv ml ms mc) sz))
set_option maxHeartbeats 4000000 in
set_option maxRecDepth 100000 in
theorem c_X6_lay (l : Launch) (G : XG) (sz : Nat) (ko : Nat) (ad : Nat → Nat) (w h la tp : Nat) (ft tr : Int32) (mv : Nat → Int32) (ml ms mc : Nat → Int32) (j zz : Nat) (i v : Int32) (hj : j < 4) (hms : ms j = nI zz) (hsz : zz ≤ 40) : Met l yX6_lay wsX6_lay ({ frames := 2, cells := 0, slots := 0, locals := 46 } : Room) (va_Pc [.ref ko, .int (nI j), .int i, .int v] (xWp G sz (w_X6_lay G ko ad w h la tp ft tr mv ml ms mc))) (Q_X6_lay G sz ko ad w h la tp ft tr mv ml ms mc j zz i v) 0 0 (va_A (w_X6_lay G ko ad w h la tp ft tr mv ml ms mc) sz) := by
  refine Met.ofW (cc := cX6_lay) (maxL := 4) (ret := (some .int)) (by decide) rfl ?_
  intro pp ee ss mm aa below mt cd s₁ BB hml hv
  obtain ⟨rfl, hsz, hP, hK, hD0⟩ := hv
  have hx := BB.exec
  have hb := BB.bytes
  have hr := BB.returns
  have hts := atoms_spec (ws := wsX6_lay) BB.pre
  have hown : ss.vm.findClass RX6 = some mm.cls := findClass_of_methodNamed BB.named
  have hlocks := BB.notSynchronized
  subst hsz
  have hD := hD0.self (sz := ss.heap.size)
  have hA : ∀ q : Nat, ss.heap.size ≤ q → va_A (w_X6_lay G ko ad w h la tp ft tr mv ml ms mc) ss.heap.size q := fun q h => Or.inr h
  have hS : va_S (va_A (w_X6_lay G ko ad w h la tp ft tr mv ml ms mc) ss.heap.size) ss.heap ss.heap [] := va_S.rf
  replace hD : va_D (va_A (w_X6_lay G ko ad w h la tp ft tr mv ml ms mc) ss.heap.size) [oC ko 6 [.ref (ad 0), .ref (ad 1), .int (nI w), .int (nI h), .int (nI la), .ref (ad 2), .int (mv 0), .int (mv 1), .int (mv 2), .int (mv 3), .int (mv 4), .int (mv 5), .int (mv 6), .ref (ad 3), .int (nI tp), .int (mv 7), .int (mv 8), .int (mv 9), .int (mv 10), .int ft, .int (mv 11), .ref (ad 4), .ref (ad 5), .ref (ad 6), .ref (ad 7), .ref (ad 8), .ref (ad 9), .ref (ad 10), .int tr], iA G (ad 8) 4 ml, iA G (ad 9) 4 ms, iA G (ad 10) 160 mc] := hD
  replace hP : xP G [oC ko 6 [.ref (ad 0), .ref (ad 1), .int (nI w), .int (nI h), .int (nI la), .ref (ad 2), .int (mv 0), .int (mv 1), .int (mv 2), .int (mv 3), .int (mv 4), .int (mv 5), .int (mv 6), .ref (ad 3), .int (nI tp), .int (mv 7), .int (mv 8), .int (mv 9), .int (mv 10), .int ft, .int (mv 11), .ref (ad 4), .ref (ad 5), .ref (ad 6), .ref (ad 7), .ref (ad 8), .ref (ad 9), .ref (ad 10), .int tr], iA G (ad 8) 4 ml, iA G (ad 9) 4 ms, iA G (ad 10) 160 mc] ss.heap := hP
  have hin6 : ∀ w ∈ u_ws RX6 TX6 29, w ∈ wsX6_lay := fun w h => List.mem_cons_of_mem _ (List.mem_append_right _ h)
  have hl := lv_entry ([.ref ko, .int (nI j), .int i, .int v]) (n := 4) (Nat.le_of_ble_eq_true rfl)
  rw [lg_entry_eq]
  generalize (lg_sl ([.ref ko, .int (nI j), .int i, .int v]) ++ List.replicate (4 - (lg_sl ([.ref ko, .int (nI j), .int i, .int v])).length) Slot.unset).toArray = ls at hl ⊢
  replace hl : lv_has ls 4 [(0, .ref ko), (1, .int (nI j)), (2, .int i), (3, .int v)] := hl
  refine lv_iload_n hx hb dX6_lay_0 rfl (lv_at hl 1 rfl) ?_
  refine lv_iconst (v := nI 0) hx hb dX6_lay_1 (by decide) ?_
  refine xs_i (As := [.int (nI j), .int (nI 0)]) (rest := []) ⟨hx, hb, hml, hown, hts⟩ (c_X6_isSheet l G (nI j) (nI 0) ) (va_cwS 2 hts gX6_lay_X6_isSheet rfl rfl rfl (by decide +kernel) ⟨Nat.le_of_ble_eq_true rfl, Nat.le_of_ble_eq_true rfl⟩) hP hS rfl hl.1 rfl (Nat.le_of_ble_eq_true rfl) dX6_lay_2 ⟨Nat.zero_le _, Nat.zero_le _⟩ (fun r2 H locs hp2 hP hS => ?_)
  rw [show r2 = _ from hp2]
  refine xb_if_ne (tgt := 10) hx hb dX6_lay_5 rfl (fun _ => ?_) (fun b5 => absurd b5 (by exact fun q => q ⟨inR_nI hj (by omega), by decide⟩))
  refine lv_aload_n hx hb dX6_lay_10 rfl (lv_at hl 0 rfl) ?_
  refine va_get (D := G.1) (ci := 6) (v := .ref (ad 8)) (C := RX6) (T := TX6) (N := 29) hx hb hts hin6 hown hK.1 hP 0 rfl rfl 25 (by decide) (hts (.fieldLink RX6 35 "BackLensesModel" "lanes" "[I") (List.mem_of_getElem? (i := 1) rfl)) (fun _ h9 => h9) rfl dX6_lay_11 ?_
  refine lv_iload_n hx hb dX6_lay_14 rfl (lv_at hl 1 rfl) ?_
  refine xn_iald hx hb hK hP 1 rfl (by omega) (by omega) dX6_lay_15 ?_
  refine lv_bipush (v := (-4)) hx hb dX6_lay_16 (by decide) ?_
  refine lv_icmp_ne (tgt := 24) hx hb dX6_lay_18 rfl (fun b18 => ?_) (fun b18 => ?_)
  · skip
    refine lv_iload_n hx hb dX6_lay_24 rfl (lv_at hl 2 rfl) ?_
    refine xi_i2l hx hb dX6_lay_25 ?_
    refine lv_lconst (v := lN 0) hx hb dX6_lay_26 (by decide) ?_
    refine lv_aload_n hx hb dX6_lay_27 rfl (lv_at hl 0 rfl) ?_
    refine va_get (D := G.1) (ci := 6) (v := .ref (ad 9)) (C := RX6) (T := TX6) (N := 29) hx hb hts hin6 hown hK.1 hP 0 rfl rfl 26 (by decide) (hts (.fieldLink RX6 38 "BackLensesModel" "sizes" "[I") (List.mem_of_getElem? (i := 2) rfl)) (fun _ h9 => h9) rfl dX6_lay_28 ?_
    refine lv_iload_n hx hb dX6_lay_31 rfl (lv_at hl 1 rfl) ?_
    refine xn_iald hx hb hK hP 2 rfl (by omega) (by omega) dX6_lay_32 ?_
    refine xn_top (y := nI zz) (by exact hms) ?_
    refine lv_iconst (v := nI 1) hx hb dX6_lay_33 (by decide) ?_
    refine lv_isub hx hb dX6_lay_34 ?_
    refine xi_i2l hx hb dX6_lay_35 ?_
    refine xs_i (As := [.long i.toInt64, .long (lN 0), .long (((nI zz) - (nI 1)).toInt64)]) (rest := []) ⟨hx, hb, hml, hown, hts⟩ (c_X6_in_s l G i ((nI zz) - (nI 1)) zz (by first | assumption | omega) (by rfl)) (va_cwS 3 hts gX6_lay_X6_in rfl rfl rfl (by decide +kernel) ⟨Nat.le_of_ble_eq_true rfl, Nat.le_of_ble_eq_true rfl⟩) hP hS rfl hl.1 rfl (Nat.le_of_ble_eq_true rfl) dX6_lay_36 ⟨Nat.zero_le _, Nat.zero_le _⟩ (fun r36 H locs hp36 hP hS => ?_)
    rw [show r36 = _ from hp36]
    refine xb_if_ne (tgt := 45) hx hb dX6_lay_39 rfl (fun b39 => ?_) (fun b39 => ?_)
    · skip
      obtain ⟨i0, hi0, rfl⟩ := inR_nat b39
      refine lv_aload_n hx hb dX6_lay_45 rfl (lv_at hl 0 rfl) ?_
      refine va_get (D := G.1) (ci := 6) (v := .ref (ad 10)) (C := RX6) (T := TX6) (N := 29) hx hb hts hin6 hown hK.1 hP 0 rfl rfl 27 (by decide) (hts (.fieldLink RX6 41 "BackLensesModel" "cells" "[I") (List.mem_of_getElem? (i := 3) rfl)) (fun _ h9 => h9) rfl dX6_lay_46 ?_
      refine lv_bipush (v := nI 40) hx hb dX6_lay_49 (by decide) ?_
      refine lv_iload_n hx hb dX6_lay_51 rfl (lv_at hl 1 rfl) ?_
      refine xn_imul hx hb dX6_lay_52 ?_
      refine lv_iload_n hx hb dX6_lay_53 rfl (lv_at hl 2 rfl) ?_
      refine xn_iadd hx hb dX6_lay_54 ?_
      refine lv_aload_n hx hb dX6_lay_55 rfl (lv_at hl 0 rfl) ?_
      refine va_get (D := G.1) (ci := 6) (v := .ref (ad 8)) (C := RX6) (T := TX6) (N := 29) hx hb hts hin6 hown hK.1 hP 0 rfl rfl 25 (by decide) (hts (.fieldLink RX6 35 "BackLensesModel" "lanes" "[I") (List.mem_of_getElem? (i := 1) rfl)) (fun _ h9 => h9) rfl dX6_lay_56 ?_
      refine lv_iload_n hx hb dX6_lay_59 rfl (lv_at hl 1 rfl) ?_
      refine xn_iald hx hb hK hP 1 rfl (by omega) (by omega) dX6_lay_60 ?_
      refine lv_if_ne (tgt := 69) hx hb dX6_lay_61 rfl (fun b61 => ?_) (fun b61 => ?_)
      · skip
        refine lv_aload_n hx hb dX6_lay_69 rfl (lv_at hl 0 rfl) ?_
        refine va_get (D := G.1) (ci := 6) (v := .ref (ad 8)) (C := RX6) (T := TX6) (N := 29) hx hb hts hin6 hown hK.1 hP 0 rfl rfl 25 (by decide) (hts (.fieldLink RX6 35 "BackLensesModel" "lanes" "[I") (List.mem_of_getElem? (i := 1) rfl)) (fun _ h9 => h9) rfl dX6_lay_70 ?_
        refine lv_iload_n hx hb dX6_lay_73 rfl (lv_at hl 1 rfl) ?_
        refine xn_iald hx hb hK hP 1 rfl (by omega) (by omega) dX6_lay_74 ?_
        refine lv_iconst (v := nI 1) hx hb dX6_lay_75 (by decide) ?_
        refine lv_icmp_ne (tgt := 84) hx hb dX6_lay_76 rfl (fun b76 => ?_) (fun b76 => ?_)
        · skip
          refine lv_iload_n hx hb dX6_lay_84 rfl (lv_at hl 3 rfl) ?_
          refine xn_iast hx hb hK hP hD hS 3 rfl (by omega) (by omega) dX6_lay_85 (fun H locs hP hD hS => ?_)
          replace hP : xP G [oC ko 6 [.ref (ad 0), .ref (ad 1), .int (nI w), .int (nI h), .int (nI la), .ref (ad 2), .int (mv 0), .int (mv 1), .int (mv 2), .int (mv 3), .int (mv 4), .int (mv 5), .int (mv 6), .ref (ad 3), .int (nI tp), .int (mv 7), .int (mv 8), .int (mv 9), .int (mv 10), .int ft, .int (mv 11), .ref (ad 4), .ref (ad 5), .ref (ad 6), .ref (ad 7), .ref (ad 8), .ref (ad 9), .ref (ad 10), .int tr], iA G (ad 8) 4 ml, iA G (ad 9) 4 ms, iA G (ad 10) 160 (upd mc ((40 * j) + i0) v)] H := hP
          replace hD : va_D (va_A (w_X6_lay G ko ad w h la tp ft tr mv ml ms mc) ss.heap.size) [oC ko 6 [.ref (ad 0), .ref (ad 1), .int (nI w), .int (nI h), .int (nI la), .ref (ad 2), .int (mv 0), .int (mv 1), .int (mv 2), .int (mv 3), .int (mv 4), .int (mv 5), .int (mv 6), .ref (ad 3), .int (nI tp), .int (mv 7), .int (mv 8), .int (mv 9), .int (mv 10), .int ft, .int (mv 11), .ref (ad 4), .ref (ad 5), .ref (ad 6), .ref (ad 7), .ref (ad 8), .ref (ad 9), .ref (ad 10), .int tr], iA G (ad 8) 4 ml, iA G (ad 9) 4 ms, iA G (ad 10) 160 (upd mc ((40 * j) + i0) v)] := hD
          refine lv_iconst (v := nI 1) hx hb dX6_lay_86 (by decide) ?_
          have hP := hP.sub (ws' := [oC ko 6 [.ref (ad 0), .ref (ad 1), .int (nI w), .int (nI h), .int (nI la), .ref (ad 2), .int (mv 0), .int (mv 1), .int (mv 2), .int (mv 3), .int (mv 4), .int (mv 5), .int (mv 6), .ref (ad 3), .int (nI tp), .int (mv 7), .int (mv 8), .int (mv 9), .int (mv 10), .int ft, .int (mv 11), .ref (ad 4), .ref (ad 5), .ref (ad 6), .ref (ad 7), .ref (ad 8), .ref (ad 9), .ref (ad 10), .int tr], iA G (ad 8) 4 ml, iA G (ad 9) 4 ms, iA G (ad 10) 160 (upd mc ((40 * j) + i0) v)]) [0, 1, 2, 3] rfl
          have hD := hD.sub (ws' := [oC ko 6 [.ref (ad 0), .ref (ad 1), .int (nI w), .int (nI h), .int (nI la), .ref (ad 2), .int (mv 0), .int (mv 1), .int (mv 2), .int (mv 3), .int (mv 4), .int (mv 5), .int (mv 6), .ref (ad 3), .int (nI tp), .int (mv 7), .int (mv 8), .int (mv 9), .int (mv 10), .int ft, .int (mv 11), .ref (ad 4), .ref (ad 5), .ref (ad 6), .ref (ad 7), .ref (ad 8), .ref (ad 9), .ref (ad 10), .int tr], iA G (ad 8) 4 ml, iA G (ad 9) 4 ms, iA G (ad 10) 160 (upd mc ((40 * j) + i0) v)]) [0, 1, 2, 3] (by decide) rfl
          refine W.iret (v := nI 1) hx hb hr (fun t ht hW => ⟨⟨nI 1, (upd mc ((40 * j) + i0) v), rfl, ?_, by rw [ht]; exact hP, hD⟩, hS.F ht⟩) hS.2.2 dX6_lay_87
          first | exact ⟨(if_pos b18).symm, (if_neg (fun q => q.1 b18)).symm⟩ | exact ⟨((if_neg b18).trans (if_neg b39)).symm, (if_neg (fun q => b39 q.2)).symm⟩ | (rw [if_neg b18, if_pos (inR_nI hi0 (by omega)), if_pos ⟨b18, inR_nI hi0 (by omega)⟩, tn_nI (by omega)]; first | (rw [if_pos b61]; exact ⟨rfl, rfl⟩) | (rw [if_neg b61, if_pos b76]; exact ⟨rfl, rfl⟩) | (rw [if_neg b61, if_neg b76]; exact ⟨rfl, rfl⟩))
        · skip
          refine lv_iload_n hx hb dX6_lay_79 rfl (lv_at hl 3 rfl) ?_
          refine lv_i2s hx hb dX6_lay_80 rfl ?_
          refine lv_goto (tgt := 85) hx hb dX6_lay_81 rfl ?_
          refine xn_iast hx hb hK hP hD hS 3 rfl (by omega) (by omega) dX6_lay_85 (fun H locs hP hD hS => ?_)
          replace hP : xP G [oC ko 6 [.ref (ad 0), .ref (ad 1), .int (nI w), .int (nI h), .int (nI la), .ref (ad 2), .int (mv 0), .int (mv 1), .int (mv 2), .int (mv 3), .int (mv 4), .int (mv 5), .int (mv 6), .ref (ad 3), .int (nI tp), .int (mv 7), .int (mv 8), .int (mv 9), .int (mv 10), .int ft, .int (mv 11), .ref (ad 4), .ref (ad 5), .ref (ad 6), .ref (ad 7), .ref (ad 8), .ref (ad 9), .ref (ad 10), .int tr], iA G (ad 8) 4 ml, iA G (ad 9) 4 ms, iA G (ad 10) 160 (upd mc ((40 * j) + i0) v.toInt16.toInt32)] H := hP
          replace hD : va_D (va_A (w_X6_lay G ko ad w h la tp ft tr mv ml ms mc) ss.heap.size) [oC ko 6 [.ref (ad 0), .ref (ad 1), .int (nI w), .int (nI h), .int (nI la), .ref (ad 2), .int (mv 0), .int (mv 1), .int (mv 2), .int (mv 3), .int (mv 4), .int (mv 5), .int (mv 6), .ref (ad 3), .int (nI tp), .int (mv 7), .int (mv 8), .int (mv 9), .int (mv 10), .int ft, .int (mv 11), .ref (ad 4), .ref (ad 5), .ref (ad 6), .ref (ad 7), .ref (ad 8), .ref (ad 9), .ref (ad 10), .int tr], iA G (ad 8) 4 ml, iA G (ad 9) 4 ms, iA G (ad 10) 160 (upd mc ((40 * j) + i0) v.toInt16.toInt32)] := hD
          refine lv_iconst (v := nI 1) hx hb dX6_lay_86 (by decide) ?_
          have hP := hP.sub (ws' := [oC ko 6 [.ref (ad 0), .ref (ad 1), .int (nI w), .int (nI h), .int (nI la), .ref (ad 2), .int (mv 0), .int (mv 1), .int (mv 2), .int (mv 3), .int (mv 4), .int (mv 5), .int (mv 6), .ref (ad 3), .int (nI tp), .int (mv 7), .int (mv 8), .int (mv 9), .int (mv 10), .int ft, .int (mv 11), .ref (ad 4), .ref (ad 5), .ref (ad 6), .ref (ad 7), .ref (ad 8), .ref (ad 9), .ref (ad 10), .int tr], iA G (ad 8) 4 ml, iA G (ad 9) 4 ms, iA G (ad 10) 160 (upd mc ((40 * j) + i0) v.toInt16.toInt32)]) [0, 1, 2, 3] rfl
          have hD := hD.sub (ws' := [oC ko 6 [.ref (ad 0), .ref (ad 1), .int (nI w), .int (nI h), .int (nI la), .ref (ad 2), .int (mv 0), .int (mv 1), .int (mv 2), .int (mv 3), .int (mv 4), .int (mv 5), .int (mv 6), .ref (ad 3), .int (nI tp), .int (mv 7), .int (mv 8), .int (mv 9), .int (mv 10), .int ft, .int (mv 11), .ref (ad 4), .ref (ad 5), .ref (ad 6), .ref (ad 7), .ref (ad 8), .ref (ad 9), .ref (ad 10), .int tr], iA G (ad 8) 4 ml, iA G (ad 9) 4 ms, iA G (ad 10) 160 (upd mc ((40 * j) + i0) v.toInt16.toInt32)]) [0, 1, 2, 3] (by decide) rfl
          refine W.iret (v := nI 1) hx hb hr (fun t ht hW => ⟨⟨nI 1, (upd mc ((40 * j) + i0) v.toInt16.toInt32), rfl, ?_, by rw [ht]; exact hP, hD⟩, hS.F ht⟩) hS.2.2 dX6_lay_87
          first | exact ⟨(if_pos b18).symm, (if_neg (fun q => q.1 b18)).symm⟩ | exact ⟨((if_neg b18).trans (if_neg b39)).symm, (if_neg (fun q => b39 q.2)).symm⟩ | (rw [if_neg b18, if_pos (inR_nI hi0 (by omega)), if_pos ⟨b18, inR_nI hi0 (by omega)⟩, tn_nI (by omega)]; first | (rw [if_pos b61]; exact ⟨rfl, rfl⟩) | (rw [if_neg b61, if_pos b76]; exact ⟨rfl, rfl⟩) | (rw [if_neg b61, if_neg b76]; exact ⟨rfl, rfl⟩))
      · skip
        refine lv_iload_n hx hb dX6_lay_64 rfl (lv_at hl 3 rfl) ?_
        refine lv_i2b hx hb dX6_lay_65 rfl ?_
        refine lv_goto (tgt := 85) hx hb dX6_lay_66 rfl ?_
        refine xn_iast hx hb hK hP hD hS 3 rfl (by omega) (by omega) dX6_lay_85 (fun H locs hP hD hS => ?_)
        replace hP : xP G [oC ko 6 [.ref (ad 0), .ref (ad 1), .int (nI w), .int (nI h), .int (nI la), .ref (ad 2), .int (mv 0), .int (mv 1), .int (mv 2), .int (mv 3), .int (mv 4), .int (mv 5), .int (mv 6), .ref (ad 3), .int (nI tp), .int (mv 7), .int (mv 8), .int (mv 9), .int (mv 10), .int ft, .int (mv 11), .ref (ad 4), .ref (ad 5), .ref (ad 6), .ref (ad 7), .ref (ad 8), .ref (ad 9), .ref (ad 10), .int tr], iA G (ad 8) 4 ml, iA G (ad 9) 4 ms, iA G (ad 10) 160 (upd mc ((40 * j) + i0) v.toInt8.toInt32)] H := hP
        replace hD : va_D (va_A (w_X6_lay G ko ad w h la tp ft tr mv ml ms mc) ss.heap.size) [oC ko 6 [.ref (ad 0), .ref (ad 1), .int (nI w), .int (nI h), .int (nI la), .ref (ad 2), .int (mv 0), .int (mv 1), .int (mv 2), .int (mv 3), .int (mv 4), .int (mv 5), .int (mv 6), .ref (ad 3), .int (nI tp), .int (mv 7), .int (mv 8), .int (mv 9), .int (mv 10), .int ft, .int (mv 11), .ref (ad 4), .ref (ad 5), .ref (ad 6), .ref (ad 7), .ref (ad 8), .ref (ad 9), .ref (ad 10), .int tr], iA G (ad 8) 4 ml, iA G (ad 9) 4 ms, iA G (ad 10) 160 (upd mc ((40 * j) + i0) v.toInt8.toInt32)] := hD
        refine lv_iconst (v := nI 1) hx hb dX6_lay_86 (by decide) ?_
        have hP := hP.sub (ws' := [oC ko 6 [.ref (ad 0), .ref (ad 1), .int (nI w), .int (nI h), .int (nI la), .ref (ad 2), .int (mv 0), .int (mv 1), .int (mv 2), .int (mv 3), .int (mv 4), .int (mv 5), .int (mv 6), .ref (ad 3), .int (nI tp), .int (mv 7), .int (mv 8), .int (mv 9), .int (mv 10), .int ft, .int (mv 11), .ref (ad 4), .ref (ad 5), .ref (ad 6), .ref (ad 7), .ref (ad 8), .ref (ad 9), .ref (ad 10), .int tr], iA G (ad 8) 4 ml, iA G (ad 9) 4 ms, iA G (ad 10) 160 (upd mc ((40 * j) + i0) v.toInt8.toInt32)]) [0, 1, 2, 3] rfl
        have hD := hD.sub (ws' := [oC ko 6 [.ref (ad 0), .ref (ad 1), .int (nI w), .int (nI h), .int (nI la), .ref (ad 2), .int (mv 0), .int (mv 1), .int (mv 2), .int (mv 3), .int (mv 4), .int (mv 5), .int (mv 6), .ref (ad 3), .int (nI tp), .int (mv 7), .int (mv 8), .int (mv 9), .int (mv 10), .int ft, .int (mv 11), .ref (ad 4), .ref (ad 5), .ref (ad 6), .ref (ad 7), .ref (ad 8), .ref (ad 9), .ref (ad 10), .int tr], iA G (ad 8) 4 ml, iA G (ad 9) 4 ms, iA G (ad 10) 160 (upd mc ((40 * j) + i0) v.toInt8.toInt32)]) [0, 1, 2, 3] (by decide) rfl
        refine W.iret (v := nI 1) hx hb hr (fun t ht hW => ⟨⟨nI 1, (upd mc ((40 * j) + i0) v.toInt8.toInt32), rfl, ?_, by rw [ht]; exact hP, hD⟩, hS.F ht⟩) hS.2.2 dX6_lay_87
        first | exact ⟨(if_pos b18).symm, (if_neg (fun q => q.1 b18)).symm⟩ | exact ⟨((if_neg b18).trans (if_neg b39)).symm, (if_neg (fun q => b39 q.2)).symm⟩ | (rw [if_neg b18, if_pos (inR_nI hi0 (by omega)), if_pos ⟨b18, inR_nI hi0 (by omega)⟩, tn_nI (by omega)]; first | (rw [if_pos b61]; exact ⟨rfl, rfl⟩) | (rw [if_neg b61, if_pos b76]; exact ⟨rfl, rfl⟩) | (rw [if_neg b61, if_neg b76]; exact ⟨rfl, rfl⟩))
    · skip
      refine lv_bipush (v := (-12)) hx hb dX6_lay_42 (by decide) ?_
      have hP := hP.sub (ws' := [oC ko 6 [.ref (ad 0), .ref (ad 1), .int (nI w), .int (nI h), .int (nI la), .ref (ad 2), .int (mv 0), .int (mv 1), .int (mv 2), .int (mv 3), .int (mv 4), .int (mv 5), .int (mv 6), .ref (ad 3), .int (nI tp), .int (mv 7), .int (mv 8), .int (mv 9), .int (mv 10), .int ft, .int (mv 11), .ref (ad 4), .ref (ad 5), .ref (ad 6), .ref (ad 7), .ref (ad 8), .ref (ad 9), .ref (ad 10), .int tr], iA G (ad 8) 4 ml, iA G (ad 9) 4 ms, iA G (ad 10) 160 mc]) [0, 1, 2, 3] rfl
      have hD := hD.sub (ws' := [oC ko 6 [.ref (ad 0), .ref (ad 1), .int (nI w), .int (nI h), .int (nI la), .ref (ad 2), .int (mv 0), .int (mv 1), .int (mv 2), .int (mv 3), .int (mv 4), .int (mv 5), .int (mv 6), .ref (ad 3), .int (nI tp), .int (mv 7), .int (mv 8), .int (mv 9), .int (mv 10), .int ft, .int (mv 11), .ref (ad 4), .ref (ad 5), .ref (ad 6), .ref (ad 7), .ref (ad 8), .ref (ad 9), .ref (ad 10), .int tr], iA G (ad 8) 4 ml, iA G (ad 9) 4 ms, iA G (ad 10) 160 mc]) [0, 1, 2, 3] (by decide) rfl
      refine W.iret (v := (-12)) hx hb hr (fun t ht hW => ⟨⟨(-12), (mc), rfl, ?_, by rw [ht]; exact hP, hD⟩, hS.F ht⟩) hS.2.2 dX6_lay_44
      first | exact ⟨(if_pos b18).symm, (if_neg (fun q => q.1 b18)).symm⟩ | exact ⟨((if_neg b18).trans (if_neg b39)).symm, (if_neg (fun q => b39 q.2)).symm⟩ | (rw [if_neg b18, if_pos (inR_nI hi0 (by omega)), if_pos ⟨b18, inR_nI hi0 (by omega)⟩, tn_nI (by omega)]; first | (rw [if_pos b61]; exact ⟨rfl, rfl⟩) | (rw [if_neg b61, if_pos b76]; exact ⟨rfl, rfl⟩) | (rw [if_neg b61, if_neg b76]; exact ⟨rfl, rfl⟩))
  · skip
    refine lv_bipush (v := (-11)) hx hb dX6_lay_21 (by decide) ?_
    have hP := hP.sub (ws' := [oC ko 6 [.ref (ad 0), .ref (ad 1), .int (nI w), .int (nI h), .int (nI la), .ref (ad 2), .int (mv 0), .int (mv 1), .int (mv 2), .int (mv 3), .int (mv 4), .int (mv 5), .int (mv 6), .ref (ad 3), .int (nI tp), .int (mv 7), .int (mv 8), .int (mv 9), .int (mv 10), .int ft, .int (mv 11), .ref (ad 4), .ref (ad 5), .ref (ad 6), .ref (ad 7), .ref (ad 8), .ref (ad 9), .ref (ad 10), .int tr], iA G (ad 8) 4 ml, iA G (ad 9) 4 ms, iA G (ad 10) 160 mc]) [0, 1, 2, 3] rfl
    have hD := hD.sub (ws' := [oC ko 6 [.ref (ad 0), .ref (ad 1), .int (nI w), .int (nI h), .int (nI la), .ref (ad 2), .int (mv 0), .int (mv 1), .int (mv 2), .int (mv 3), .int (mv 4), .int (mv 5), .int (mv 6), .ref (ad 3), .int (nI tp), .int (mv 7), .int (mv 8), .int (mv 9), .int (mv 10), .int ft, .int (mv 11), .ref (ad 4), .ref (ad 5), .ref (ad 6), .ref (ad 7), .ref (ad 8), .ref (ad 9), .ref (ad 10), .int tr], iA G (ad 8) 4 ml, iA G (ad 9) 4 ms, iA G (ad 10) 160 mc]) [0, 1, 2, 3] (by decide) rfl
    refine W.iret (v := (-11)) hx hb hr (fun t ht hW => ⟨⟨(-11), (mc), rfl, ?_, by rw [ht]; exact hP, hD⟩, hS.F ht⟩) hS.2.2 dX6_lay_23
    first | exact ⟨(if_pos b18).symm, (if_neg (fun q => q.1 b18)).symm⟩ | exact ⟨((if_neg b18).trans (if_neg b39)).symm, (if_neg (fun q => b39 q.2)).symm⟩ | (rw [if_neg b18, if_pos (inR_nI hi0 (by omega)), if_pos ⟨b18, inR_nI hi0 (by omega)⟩, tn_nI (by omega)]; first | (rw [if_pos b61]; exact ⟨rfl, rfl⟩) | (rw [if_neg b61, if_pos b76]; exact ⟨rfl, rfl⟩) | (rw [if_neg b61, if_neg b76]; exact ⟨rfl, rfl⟩))

abbrev w_X6_torn (G : XG) (ko : Nat) (ad : Nat → Nat) (w h la tp : Nat) (ft tr : Int32) (mv : Nat → Int32) : va_W := [oC ko 6 [.ref (ad 0), .ref (ad 1), .int (nI w), .int (nI h), .int (nI la), .ref (ad 2), .int (mv 0), .int (mv 1), .int (mv 2), .int (mv 3), .int (mv 4), .int (mv 5), .int (mv 6), .ref (ad 3), .int (nI tp), .int (mv 7), .int (mv 8), .int (mv 9), .int (mv 10), .int ft, .int (mv 11), .ref (ad 4), .ref (ad 5), .ref (ad 6), .ref (ad 7), .ref (ad 8), .ref (ad 9), .ref (ad 10), .int tr]]
abbrev Q_X6_torn (G : XG) (ko : Nat) (ad : Nat → Nat) (w h la tp : Nat) (ft tr : Int32) (mv : Nat → Int32) : Array Value → State → Outcome → State → Prop := (xRi (fun r => r = tr))
set_option maxHeartbeats 4000000 in
set_option maxRecDepth 100000 in
theorem c_X6_torn (l : Launch) (G : XG) (ko : Nat) (ad : Nat → Nat) (w h la tp : Nat) (ft tr : Int32) (mv : Nat → Int32)  : Met l yX6_torn wsX6_torn ({ frames := 0, cells := 0, slots := 0, locals := 0 } : Room) (va_Pc [.ref ko] (xRp G (w_X6_torn G ko ad w h la tp ft tr mv))) (Q_X6_torn G ko ad w h la tp ft tr mv) 0 0 (fun _ => False) := by
  refine Met.ofW (cc := cX6_torn) (maxL := 1) (ret := (some .int)) (by decide) rfl ?_
  intro pp ee ss mm aa below mt cd s₁ BB hml hv
  obtain ⟨rfl, hP, hK⟩ := hv
  have hx := BB.exec
  have hb := BB.bytes
  have hr := BB.returns
  have hts := atoms_spec (ws := wsX6_torn) BB.pre
  have hown : ss.vm.findClass RX6 = some mm.cls := findClass_of_methodNamed BB.named
  have hlocks := BB.notSynchronized
  have hS : va_S (fun _ => False) ss.heap ss.heap [] := va_S.rf
  replace hP : xP G [oC ko 6 [.ref (ad 0), .ref (ad 1), .int (nI w), .int (nI h), .int (nI la), .ref (ad 2), .int (mv 0), .int (mv 1), .int (mv 2), .int (mv 3), .int (mv 4), .int (mv 5), .int (mv 6), .ref (ad 3), .int (nI tp), .int (mv 7), .int (mv 8), .int (mv 9), .int (mv 10), .int ft, .int (mv 11), .ref (ad 4), .ref (ad 5), .ref (ad 6), .ref (ad 7), .ref (ad 8), .ref (ad 9), .ref (ad 10), .int tr]] ss.heap := hP
  have hin6 : ∀ w ∈ u_ws RX6 TX6 29, w ∈ wsX6_torn := fun w h => List.mem_cons_of_mem _ (List.mem_append_right _ h)
  have hl := lv_entry ([.ref ko]) (n := 1) (Nat.le_of_ble_eq_true rfl)
  rw [lg_entry_eq]
  generalize (lg_sl ([.ref ko]) ++ List.replicate (1 - (lg_sl ([.ref ko])).length) Slot.unset).toArray = ls at hl ⊢
  replace hl : lv_has ls 1 [(0, .ref ko)] := hl
  refine lv_aload_n hx hb dX6_torn_0 rfl (lv_at hl 0 rfl) ?_
  refine va_get (D := G.1) (ci := 6) (v := .int tr) (C := RX6) (T := TX6) (N := 29) hx hb hts hin6 hown hK.1 hP 0 rfl rfl 28 (by decide) (hts (.fieldLink RX6 274 "BackLensesModel" "torn" "I") (List.mem_of_getElem? (i := 1) rfl)) (fun _ h9 => h9) rfl dX6_torn_1 ?_
  refine W.iret (v := tr) hx hb hr (fun t ht hW => ⟨⟨tr, (), rfl, ?_, trivial⟩, hS.F ht⟩) hS.2.2 dX6_torn_4
  rfl

abbrev w_X6_fault (G : XG) (ko : Nat) (ad : Nat → Nat) (w h la tp : Nat) (ft tr : Int32) (mv : Nat → Int32) : va_W := [oC ko 6 [.ref (ad 0), .ref (ad 1), .int (nI w), .int (nI h), .int (nI la), .ref (ad 2), .int (mv 0), .int (mv 1), .int (mv 2), .int (mv 3), .int (mv 4), .int (mv 5), .int (mv 6), .ref (ad 3), .int (nI tp), .int (mv 7), .int (mv 8), .int (mv 9), .int (mv 10), .int ft, .int (mv 11), .ref (ad 4), .ref (ad 5), .ref (ad 6), .ref (ad 7), .ref (ad 8), .ref (ad 9), .ref (ad 10), .int tr]]
abbrev Q_X6_fault (G : XG) (ko : Nat) (ad : Nat → Nat) (w h la tp : Nat) (ft tr : Int32) (mv : Nat → Int32) : Array Value → State → Outcome → State → Prop := (xRi (fun r => r = ft))
set_option maxHeartbeats 4000000 in
set_option maxRecDepth 100000 in
theorem c_X6_fault (l : Launch) (G : XG) (ko : Nat) (ad : Nat → Nat) (w h la tp : Nat) (ft tr : Int32) (mv : Nat → Int32)  : Met l yX6_fault wsX6_fault ({ frames := 0, cells := 0, slots := 0, locals := 0 } : Room) (va_Pc [.ref ko] (xRp G (w_X6_fault G ko ad w h la tp ft tr mv))) (Q_X6_fault G ko ad w h la tp ft tr mv) 0 0 (fun _ => False) := by
  refine Met.ofW (cc := cX6_fault) (maxL := 1) (ret := (some .int)) (by decide) rfl ?_
  intro pp ee ss mm aa below mt cd s₁ BB hml hv
  obtain ⟨rfl, hP, hK⟩ := hv
  have hx := BB.exec
  have hb := BB.bytes
  have hr := BB.returns
  have hts := atoms_spec (ws := wsX6_fault) BB.pre
  have hown : ss.vm.findClass RX6 = some mm.cls := findClass_of_methodNamed BB.named
  have hlocks := BB.notSynchronized
  have hS : va_S (fun _ => False) ss.heap ss.heap [] := va_S.rf
  replace hP : xP G [oC ko 6 [.ref (ad 0), .ref (ad 1), .int (nI w), .int (nI h), .int (nI la), .ref (ad 2), .int (mv 0), .int (mv 1), .int (mv 2), .int (mv 3), .int (mv 4), .int (mv 5), .int (mv 6), .ref (ad 3), .int (nI tp), .int (mv 7), .int (mv 8), .int (mv 9), .int (mv 10), .int ft, .int (mv 11), .ref (ad 4), .ref (ad 5), .ref (ad 6), .ref (ad 7), .ref (ad 8), .ref (ad 9), .ref (ad 10), .int tr]] ss.heap := hP
  have hin6 : ∀ w ∈ u_ws RX6 TX6 29, w ∈ wsX6_fault := fun w h => List.mem_cons_of_mem _ (List.mem_append_right _ h)
  have hl := lv_entry ([.ref ko]) (n := 1) (Nat.le_of_ble_eq_true rfl)
  rw [lg_entry_eq]
  generalize (lg_sl ([.ref ko]) ++ List.replicate (1 - (lg_sl ([.ref ko])).length) Slot.unset).toArray = ls at hl ⊢
  replace hl : lv_has ls 1 [(0, .ref ko)] := hl
  refine lv_aload_n hx hb dX6_fault_0 rfl (lv_at hl 0 rfl) ?_
  refine va_get (D := G.1) (ci := 6) (v := .int ft) (C := RX6) (T := TX6) (N := 29) hx hb hts hin6 hown hK.1 hP 0 rfl rfl 19 (by decide) (hts (.fieldLink RX6 90 "BackLensesModel" "fault" "I") (List.mem_of_getElem? (i := 1) rfl)) (fun _ h9 => h9) rfl dX6_fault_1 ?_
  refine W.iret (v := ft) hx hb hr (fun t ht hW => ⟨⟨ft, (), rfl, ?_, trivial⟩, hS.F ht⟩) hS.2.2 dX6_fault_4
  rfl

abbrev w_X6_feed (G : XG) (ko : Nat) (ad : Nat → Nat) (w h la tp : Nat) (ft tr : Int32) (mv : Nat → Int32) (tb : Nat → Int32) : va_W := [oC ko 6 [.ref (ad 0), .ref (ad 1), .int (nI w), .int (nI h), .int (nI la), .ref (ad 2), .int (mv 0), .int (mv 1), .int (mv 2), .int (mv 3), .int (mv 4), .int (mv 5), .int (mv 6), .ref (ad 3), .int (nI tp), .int (mv 7), .int (mv 8), .int (mv 9), .int (mv 10), .int ft, .int (mv 11), .ref (ad 4), .ref (ad 5), .ref (ad 6), .ref (ad 7), .ref (ad 8), .ref (ad 9), .ref (ad 10), .int tr], iA G (ad 3) 160 tb]
abbrev Q_X6_feed (G : XG) (sz : Nat) (ko : Nat) (ad : Nat → Nat) (w h la tp : Nat) (ft tr : Int32) (mv : Nat → Int32) (tb : Nat → Int32) (c : Int32) : Array Value → State → Outcome → State → Prop := (va_Qi (fun (r : Int32) (u : Nat × (Nat → Int32)) => r = (if inR c 128 then (if tp < 160 then nI (tp + 1) else (-3)) else (-1)) ∧ u.1 = (if (inR c 128 ∧ tp < 160) then tp + 1 else tp) ∧ u.2 = (if (inR c 128 ∧ tp < 160) then upd tb tp c else tb)) (xWb G sz (w_X6_feed G ko ad w h la tp ft tr mv tb) (fun u : Nat × (Nat → Int32) => [oC ko 6 [.ref (ad 0), .ref (ad 1), .int (nI w), .int (nI h), .int (nI la), .ref (ad 2), .int (mv 0), .int (mv 1), .int (mv 2), .int (mv 3), .int (mv 4), .int (mv 5), .int (mv 6), .ref (ad 3), .int (nI u.1), .int (mv 7), .int (mv 8), .int (mv 9), .int (mv 10), .int ft, .int (mv 11), .ref (ad 4), .ref (ad 5), .ref (ad 6), .ref (ad 7), .ref (ad 8), .ref (ad 9), .ref (ad 10), .int tr], iA G (ad 3) 160 u.2])) (va_A (w_X6_feed G ko ad w h la tp ft tr mv tb) sz))
set_option maxHeartbeats 4000000 in
set_option maxRecDepth 100000 in
theorem c_X6_feed (l : Launch) (G : XG) (sz : Nat) (ko : Nat) (ad : Nat → Nat) (w h la tp : Nat) (ft tr : Int32) (mv : Nat → Int32) (tb : Nat → Int32) (c : Int32) (htp : tp ≤ 160) : Met l yX6_feed wsX6_feed ({ frames := 1, cells := 0, slots := 0, locals := 25 } : Room) (va_Pc [.ref ko, .int c] (xWp G sz (w_X6_feed G ko ad w h la tp ft tr mv tb))) (Q_X6_feed G sz ko ad w h la tp ft tr mv tb c) 0 0 (va_A (w_X6_feed G ko ad w h la tp ft tr mv tb) sz) := by
  refine Met.ofW (cc := cX6_feed) (maxL := 2) (ret := (some .int)) (by decide) rfl ?_
  intro pp ee ss mm aa below mt cd s₁ BB hml hv
  obtain ⟨rfl, hsz, hP, hK, hD0⟩ := hv
  have hx := BB.exec
  have hb := BB.bytes
  have hr := BB.returns
  have hts := atoms_spec (ws := wsX6_feed) BB.pre
  have hown : ss.vm.findClass RX6 = some mm.cls := findClass_of_methodNamed BB.named
  have hlocks := BB.notSynchronized
  subst hsz
  have hD := hD0.self (sz := ss.heap.size)
  have hA : ∀ q : Nat, ss.heap.size ≤ q → va_A (w_X6_feed G ko ad w h la tp ft tr mv tb) ss.heap.size q := fun q h => Or.inr h
  have hS : va_S (va_A (w_X6_feed G ko ad w h la tp ft tr mv tb) ss.heap.size) ss.heap ss.heap [] := va_S.rf
  replace hD : va_D (va_A (w_X6_feed G ko ad w h la tp ft tr mv tb) ss.heap.size) [oC ko 6 [.ref (ad 0), .ref (ad 1), .int (nI w), .int (nI h), .int (nI la), .ref (ad 2), .int (mv 0), .int (mv 1), .int (mv 2), .int (mv 3), .int (mv 4), .int (mv 5), .int (mv 6), .ref (ad 3), .int (nI tp), .int (mv 7), .int (mv 8), .int (mv 9), .int (mv 10), .int ft, .int (mv 11), .ref (ad 4), .ref (ad 5), .ref (ad 6), .ref (ad 7), .ref (ad 8), .ref (ad 9), .ref (ad 10), .int tr], iA G (ad 3) 160 tb] := hD
  replace hP : xP G [oC ko 6 [.ref (ad 0), .ref (ad 1), .int (nI w), .int (nI h), .int (nI la), .ref (ad 2), .int (mv 0), .int (mv 1), .int (mv 2), .int (mv 3), .int (mv 4), .int (mv 5), .int (mv 6), .ref (ad 3), .int (nI tp), .int (mv 7), .int (mv 8), .int (mv 9), .int (mv 10), .int ft, .int (mv 11), .ref (ad 4), .ref (ad 5), .ref (ad 6), .ref (ad 7), .ref (ad 8), .ref (ad 9), .ref (ad 10), .int tr], iA G (ad 3) 160 tb] ss.heap := hP
  have hin6 : ∀ w ∈ u_ws RX6 TX6 29, w ∈ wsX6_feed := fun w h => List.mem_cons_of_mem _ (List.mem_append_right _ h)
  have hl := lv_entry ([.ref ko, .int c]) (n := 2) (Nat.le_of_ble_eq_true rfl)
  rw [lg_entry_eq]
  generalize (lg_sl ([.ref ko, .int c]) ++ List.replicate (2 - (lg_sl ([.ref ko, .int c])).length) Slot.unset).toArray = ls at hl ⊢
  replace hl : lv_has ls 2 [(0, .ref ko), (1, .int c)] := hl
  refine lv_iload_n hx hb dX6_feed_0 rfl (lv_at hl 1 rfl) ?_
  refine xi_i2l hx hb dX6_feed_1 ?_
  refine lv_lconst (v := lN 0) hx hb dX6_feed_2 (by decide) ?_
  refine lv_ldc2 (v := lN 127) hx hb hown (hts (.constantLong RX6 81 (lN 127)) (List.mem_of_getElem? (i := 1) rfl)) dX6_feed_3 ?_
  refine xs_i (As := [.long c.toInt64, .long (lN 0), .long (lN 127)]) (rest := []) ⟨hx, hb, hml, hown, hts⟩ (c_X6_in_r l G c 127 (by first | assumption | omega)) (va_cwS 3 hts gX6_feed_X6_in rfl rfl rfl (by decide +kernel) ⟨Nat.le_of_ble_eq_true rfl, Nat.le_of_ble_eq_true rfl⟩) hP hS rfl hl.1 rfl (Nat.le_of_ble_eq_true rfl) dX6_feed_6 ⟨Nat.zero_le _, Nat.zero_le _⟩ (fun r6 H locs hp6 hP hS => ?_)
  rw [show r6 = _ from hp6]
  refine xb_if_ne (tgt := 14) hx hb dX6_feed_9 rfl (fun b9 => ?_) (fun b9 => ?_)
  · skip
    refine lv_aload_n hx hb dX6_feed_14 rfl (lv_at hl 0 rfl) ?_
    refine va_get (D := G.1) (ci := 6) (v := .int (nI tp)) (C := RX6) (T := TX6) (N := 29) hx hb hts hin6 hown hK.1 hP 0 rfl rfl 14 (by decide) (hts (.fieldLink RX6 87 "BackLensesModel" "taped" "I") (List.mem_of_getElem? (i := 2) rfl)) (fun _ h9 => h9) rfl dX6_feed_15 ?_
    refine lv_sipush (v := nI 160) hx hb dX6_feed_18 (by decide) ?_
    refine xn_icmp_ne (tgt := 27) hx hb (by omega) (by omega) dX6_feed_21 rfl (fun b21 => ?_) (fun b21 => ?_)
    · skip
      refine lv_aload_n hx hb dX6_feed_27 rfl (lv_at hl 0 rfl) ?_
      refine va_get (D := G.1) (ci := 6) (v := .ref (ad 3)) (C := RX6) (T := TX6) (N := 29) hx hb hts hin6 hown hK.1 hP 0 rfl rfl 13 (by decide) (hts (.fieldLink RX6 20 "BackLensesModel" "tape" "[I") (List.mem_of_getElem? (i := 3) rfl)) (fun _ h9 => h9) rfl dX6_feed_28 ?_
      refine lv_aload_n hx hb dX6_feed_31 rfl (lv_at hl 0 rfl) ?_
      refine va_get (D := G.1) (ci := 6) (v := .int (nI tp)) (C := RX6) (T := TX6) (N := 29) hx hb hts hin6 hown hK.1 hP 0 rfl rfl 14 (by decide) (hts (.fieldLink RX6 87 "BackLensesModel" "taped" "I") (List.mem_of_getElem? (i := 2) rfl)) (fun _ h9 => h9) rfl dX6_feed_32 ?_
      refine lv_iload_n hx hb dX6_feed_35 rfl (lv_at hl 1 rfl) ?_
      refine xn_iast hx hb hK hP hD hS 1 rfl (by omega) (by omega) dX6_feed_36 (fun H locs hP hD hS => ?_)
      replace hP : xP G [oC ko 6 [.ref (ad 0), .ref (ad 1), .int (nI w), .int (nI h), .int (nI la), .ref (ad 2), .int (mv 0), .int (mv 1), .int (mv 2), .int (mv 3), .int (mv 4), .int (mv 5), .int (mv 6), .ref (ad 3), .int (nI tp), .int (mv 7), .int (mv 8), .int (mv 9), .int (mv 10), .int ft, .int (mv 11), .ref (ad 4), .ref (ad 5), .ref (ad 6), .ref (ad 7), .ref (ad 8), .ref (ad 9), .ref (ad 10), .int tr], iA G (ad 3) 160 (upd tb tp c)] H := hP
      replace hD : va_D (va_A (w_X6_feed G ko ad w h la tp ft tr mv tb) ss.heap.size) [oC ko 6 [.ref (ad 0), .ref (ad 1), .int (nI w), .int (nI h), .int (nI la), .ref (ad 2), .int (mv 0), .int (mv 1), .int (mv 2), .int (mv 3), .int (mv 4), .int (mv 5), .int (mv 6), .ref (ad 3), .int (nI tp), .int (mv 7), .int (mv 8), .int (mv 9), .int (mv 10), .int ft, .int (mv 11), .ref (ad 4), .ref (ad 5), .ref (ad 6), .ref (ad 7), .ref (ad 8), .ref (ad 9), .ref (ad 10), .int tr], iA G (ad 3) 160 (upd tb tp c)] := hD
      refine lv_aload_n hx hb dX6_feed_37 rfl (lv_at hl 0 rfl) ?_
      refine lv_dup hx hb dX6_feed_38 rfl ?_
      refine va_get (D := G.1) (ci := 6) (v := .int (nI tp)) (C := RX6) (T := TX6) (N := 29) hx hb hts hin6 hown hK.1 hP 0 rfl rfl 14 (by decide) (hts (.fieldLink RX6 87 "BackLensesModel" "taped" "I") (List.mem_of_getElem? (i := 2) rfl)) (fun _ h9 => h9) rfl dX6_feed_39 ?_
      refine lv_iconst (v := nI 1) hx hb dX6_feed_42 (by decide) ?_
      refine xn_iadd hx hb dX6_feed_43 ?_
      refine va_put (D := G.1) (ci := 6) (v := .int (nI (tp + 1))) (ty := .int) (C := RX6) (T := TX6) (N := 29) hx hb hts hin6 tyX6 tyX6_ok nmX6 hown hK.1 hP hD hS 0 rfl rfl 14 (by decide) (hts (.fieldLink RX6 87 "BackLensesModel" "taped" "I") (List.mem_of_getElem? (i := 2) rfl)) (fun _ h9 => h9) rfl (by decide +kernel) rfl rfl (Nat.le_of_ble_eq_true rfl) dX6_feed_44 (fun H locs hP hD hS => ?_)
      replace hP : xP G [oC ko 6 [.ref (ad 0), .ref (ad 1), .int (nI w), .int (nI h), .int (nI la), .ref (ad 2), .int (mv 0), .int (mv 1), .int (mv 2), .int (mv 3), .int (mv 4), .int (mv 5), .int (mv 6), .ref (ad 3), .int (nI (tp + 1)), .int (mv 7), .int (mv 8), .int (mv 9), .int (mv 10), .int ft, .int (mv 11), .ref (ad 4), .ref (ad 5), .ref (ad 6), .ref (ad 7), .ref (ad 8), .ref (ad 9), .ref (ad 10), .int tr], iA G (ad 3) 160 (upd tb tp c)] H := hP
      replace hD : va_D (va_A (w_X6_feed G ko ad w h la tp ft tr mv tb) ss.heap.size) [oC ko 6 [.ref (ad 0), .ref (ad 1), .int (nI w), .int (nI h), .int (nI la), .ref (ad 2), .int (mv 0), .int (mv 1), .int (mv 2), .int (mv 3), .int (mv 4), .int (mv 5), .int (mv 6), .ref (ad 3), .int (nI (tp + 1)), .int (mv 7), .int (mv 8), .int (mv 9), .int (mv 10), .int ft, .int (mv 11), .ref (ad 4), .ref (ad 5), .ref (ad 6), .ref (ad 7), .ref (ad 8), .ref (ad 9), .ref (ad 10), .int tr], iA G (ad 3) 160 (upd tb tp c)] := hD
      refine lv_aload_n hx hb dX6_feed_47 rfl (lv_at hl 0 rfl) ?_
      refine va_get (D := G.1) (ci := 6) (v := .int (nI (tp + 1))) (C := RX6) (T := TX6) (N := 29) hx hb hts hin6 hown hK.1 hP 0 rfl rfl 14 (by decide) (hts (.fieldLink RX6 87 "BackLensesModel" "taped" "I") (List.mem_of_getElem? (i := 2) rfl)) (fun _ h9 => h9) rfl dX6_feed_48 ?_
      have hP := hP.sub (ws' := [oC ko 6 [.ref (ad 0), .ref (ad 1), .int (nI w), .int (nI h), .int (nI la), .ref (ad 2), .int (mv 0), .int (mv 1), .int (mv 2), .int (mv 3), .int (mv 4), .int (mv 5), .int (mv 6), .ref (ad 3), .int (nI (tp + 1)), .int (mv 7), .int (mv 8), .int (mv 9), .int (mv 10), .int ft, .int (mv 11), .ref (ad 4), .ref (ad 5), .ref (ad 6), .ref (ad 7), .ref (ad 8), .ref (ad 9), .ref (ad 10), .int tr], iA G (ad 3) 160 (upd tb tp c)]) [0, 1] rfl
      have hD := hD.sub (ws' := [oC ko 6 [.ref (ad 0), .ref (ad 1), .int (nI w), .int (nI h), .int (nI la), .ref (ad 2), .int (mv 0), .int (mv 1), .int (mv 2), .int (mv 3), .int (mv 4), .int (mv 5), .int (mv 6), .ref (ad 3), .int (nI (tp + 1)), .int (mv 7), .int (mv 8), .int (mv 9), .int (mv 10), .int ft, .int (mv 11), .ref (ad 4), .ref (ad 5), .ref (ad 6), .ref (ad 7), .ref (ad 8), .ref (ad 9), .ref (ad 10), .int tr], iA G (ad 3) 160 (upd tb tp c)]) [0, 1] (by decide) rfl
      refine W.iret (v := nI (tp + 1)) hx hb hr (fun t ht hW => ⟨⟨nI (tp + 1), (tp + 1, upd tb tp c), rfl, ?_, by rw [ht]; exact hP, hD⟩, hS.F ht⟩) hS.2.2 dX6_feed_51
      try dsimp only
      first | exact ⟨(if_neg b9).symm, (if_neg (fun q => b9 q.1)).symm, (if_neg (fun q => b9 q.1)).symm⟩ | exact ⟨((if_pos b9).trans (if_pos (by omega))).symm, (if_pos ⟨b9, by omega⟩).symm, (if_pos ⟨b9, by omega⟩).symm⟩ | exact ⟨((if_pos b9).trans (if_neg (by omega))).symm, (if_neg (fun q => absurd q.2 (by omega))).symm, (if_neg (fun q => absurd q.2 (by omega))).symm⟩
    · skip
      refine lv_bipush (v := (-3)) hx hb dX6_feed_24 (by decide) ?_
      have hP := hP.sub (ws' := [oC ko 6 [.ref (ad 0), .ref (ad 1), .int (nI w), .int (nI h), .int (nI la), .ref (ad 2), .int (mv 0), .int (mv 1), .int (mv 2), .int (mv 3), .int (mv 4), .int (mv 5), .int (mv 6), .ref (ad 3), .int (nI tp), .int (mv 7), .int (mv 8), .int (mv 9), .int (mv 10), .int ft, .int (mv 11), .ref (ad 4), .ref (ad 5), .ref (ad 6), .ref (ad 7), .ref (ad 8), .ref (ad 9), .ref (ad 10), .int tr], iA G (ad 3) 160 tb]) [0, 1] rfl
      have hD := hD.sub (ws' := [oC ko 6 [.ref (ad 0), .ref (ad 1), .int (nI w), .int (nI h), .int (nI la), .ref (ad 2), .int (mv 0), .int (mv 1), .int (mv 2), .int (mv 3), .int (mv 4), .int (mv 5), .int (mv 6), .ref (ad 3), .int (nI tp), .int (mv 7), .int (mv 8), .int (mv 9), .int (mv 10), .int ft, .int (mv 11), .ref (ad 4), .ref (ad 5), .ref (ad 6), .ref (ad 7), .ref (ad 8), .ref (ad 9), .ref (ad 10), .int tr], iA G (ad 3) 160 tb]) [0, 1] (by decide) rfl
      refine W.iret (v := (-3)) hx hb hr (fun t ht hW => ⟨⟨(-3), (tp, tb), rfl, ?_, by rw [ht]; exact hP, hD⟩, hS.F ht⟩) hS.2.2 dX6_feed_26
      try dsimp only
      first | exact ⟨(if_neg b9).symm, (if_neg (fun q => b9 q.1)).symm, (if_neg (fun q => b9 q.1)).symm⟩ | exact ⟨((if_pos b9).trans (if_pos (by omega))).symm, (if_pos ⟨b9, by omega⟩).symm, (if_pos ⟨b9, by omega⟩).symm⟩ | exact ⟨((if_pos b9).trans (if_neg (by omega))).symm, (if_neg (fun q => absurd q.2 (by omega))).symm, (if_neg (fun q => absurd q.2 (by omega))).symm⟩
  · skip
    refine lv_iconst (v := (-1)) hx hb dX6_feed_12 (by decide) ?_
    have hP := hP.sub (ws' := [oC ko 6 [.ref (ad 0), .ref (ad 1), .int (nI w), .int (nI h), .int (nI la), .ref (ad 2), .int (mv 0), .int (mv 1), .int (mv 2), .int (mv 3), .int (mv 4), .int (mv 5), .int (mv 6), .ref (ad 3), .int (nI tp), .int (mv 7), .int (mv 8), .int (mv 9), .int (mv 10), .int ft, .int (mv 11), .ref (ad 4), .ref (ad 5), .ref (ad 6), .ref (ad 7), .ref (ad 8), .ref (ad 9), .ref (ad 10), .int tr], iA G (ad 3) 160 tb]) [0, 1] rfl
    have hD := hD.sub (ws' := [oC ko 6 [.ref (ad 0), .ref (ad 1), .int (nI w), .int (nI h), .int (nI la), .ref (ad 2), .int (mv 0), .int (mv 1), .int (mv 2), .int (mv 3), .int (mv 4), .int (mv 5), .int (mv 6), .ref (ad 3), .int (nI tp), .int (mv 7), .int (mv 8), .int (mv 9), .int (mv 10), .int ft, .int (mv 11), .ref (ad 4), .ref (ad 5), .ref (ad 6), .ref (ad 7), .ref (ad 8), .ref (ad 9), .ref (ad 10), .int tr], iA G (ad 3) 160 tb]) [0, 1] (by decide) rfl
    refine W.iret (v := (-1)) hx hb hr (fun t ht hW => ⟨⟨(-1), (tp, tb), rfl, ?_, by rw [ht]; exact hP, hD⟩, hS.F ht⟩) hS.2.2 dX6_feed_13
    try dsimp only
    first | exact ⟨(if_neg b9).symm, (if_neg (fun q => b9 q.1)).symm, (if_neg (fun q => b9 q.1)).symm⟩ | exact ⟨((if_pos b9).trans (if_pos (by omega))).symm, (if_pos ⟨b9, by omega⟩).symm, (if_pos ⟨b9, by omega⟩).symm⟩ | exact ⟨((if_pos b9).trans (if_neg (by omega))).symm, (if_neg (fun q => absurd q.2 (by omega))).symm, (if_neg (fun q => absurd q.2 (by omega))).symm⟩

abbrev w_X6_end (G : XG) (ko : Nat) (ad : Nat → Nat) (w h la tp : Nat) (ft tr : Int32) (mv : Nat → Int32) : va_W := [oC ko 6 [.ref (ad 0), .ref (ad 1), .int (nI w), .int (nI h), .int (nI la), .ref (ad 2), .int (mv 0), .int (mv 1), .int (mv 2), .int (mv 3), .int (mv 4), .int (mv 5), .int (mv 6), .ref (ad 3), .int (nI tp), .int (mv 7), .int (mv 8), .int (mv 9), .int (mv 10), .int ft, .int (mv 11), .ref (ad 4), .ref (ad 5), .ref (ad 6), .ref (ad 7), .ref (ad 8), .ref (ad 9), .ref (ad 10), .int tr]]
abbrev Q_X6_end (G : XG) (sz : Nat) (ko : Nat) (ad : Nat → Nat) (w h la tp : Nat) (ft tr : Int32) (mv : Nat → Int32) (v : Int32) : Array Value → State → Outcome → State → Prop := (va_Qi (fun (r : Int32) (u : Nat) => r = (if inR v (tp + 1) then nI tp else (-1)) ∧ u = (if inR v (tp + 1) then v.toInt.toNat else tp)) (xWb G sz (w_X6_end G ko ad w h la tp ft tr mv) (fun u : Nat => [oC ko 6 [.ref (ad 0), .ref (ad 1), .int (nI w), .int (nI h), .int (nI la), .ref (ad 2), .int (mv 0), .int (mv 1), .int (mv 2), .int (mv 3), .int (mv 4), .int (mv 5), .int (mv 6), .ref (ad 3), .int (nI u), .int (mv 7), .int (mv 8), .int (mv 9), .int (mv 10), .int ft, .int (mv 11), .ref (ad 4), .ref (ad 5), .ref (ad 6), .ref (ad 7), .ref (ad 8), .ref (ad 9), .ref (ad 10), .int tr]])) (va_A (w_X6_end G ko ad w h la tp ft tr mv) sz))
set_option maxHeartbeats 4000000 in
set_option maxRecDepth 100000 in
theorem c_X6_end (l : Launch) (G : XG) (sz : Nat) (ko : Nat) (ad : Nat → Nat) (w h la tp : Nat) (ft tr : Int32) (mv : Nat → Int32) (v : Int32) (htp : tp ≤ 160) : Met l yX6_end wsX6_end ({ frames := 1, cells := 0, slots := 0, locals := 25 } : Room) (va_Pc [.ref ko, .int v] (xWp G sz (w_X6_end G ko ad w h la tp ft tr mv))) (Q_X6_end G sz ko ad w h la tp ft tr mv v) 0 0 (va_A (w_X6_end G ko ad w h la tp ft tr mv) sz) := by
  refine Met.ofW (cc := cX6_end) (maxL := 3) (ret := (some .int)) (by decide) rfl ?_
  intro pp ee ss mm aa below mt cd s₁ BB hml hv
  obtain ⟨rfl, hsz, hP, hK, hD0⟩ := hv
  have hx := BB.exec
  have hb := BB.bytes
  have hr := BB.returns
  have hts := atoms_spec (ws := wsX6_end) BB.pre
  have hown : ss.vm.findClass RX6 = some mm.cls := findClass_of_methodNamed BB.named
  have hlocks := BB.notSynchronized
  subst hsz
  have hD := hD0.self (sz := ss.heap.size)
  have hA : ∀ q : Nat, ss.heap.size ≤ q → va_A (w_X6_end G ko ad w h la tp ft tr mv) ss.heap.size q := fun q h => Or.inr h
  have hS : va_S (va_A (w_X6_end G ko ad w h la tp ft tr mv) ss.heap.size) ss.heap ss.heap [] := va_S.rf
  replace hD : va_D (va_A (w_X6_end G ko ad w h la tp ft tr mv) ss.heap.size) [oC ko 6 [.ref (ad 0), .ref (ad 1), .int (nI w), .int (nI h), .int (nI la), .ref (ad 2), .int (mv 0), .int (mv 1), .int (mv 2), .int (mv 3), .int (mv 4), .int (mv 5), .int (mv 6), .ref (ad 3), .int (nI tp), .int (mv 7), .int (mv 8), .int (mv 9), .int (mv 10), .int ft, .int (mv 11), .ref (ad 4), .ref (ad 5), .ref (ad 6), .ref (ad 7), .ref (ad 8), .ref (ad 9), .ref (ad 10), .int tr]] := hD
  replace hP : xP G [oC ko 6 [.ref (ad 0), .ref (ad 1), .int (nI w), .int (nI h), .int (nI la), .ref (ad 2), .int (mv 0), .int (mv 1), .int (mv 2), .int (mv 3), .int (mv 4), .int (mv 5), .int (mv 6), .ref (ad 3), .int (nI tp), .int (mv 7), .int (mv 8), .int (mv 9), .int (mv 10), .int ft, .int (mv 11), .ref (ad 4), .ref (ad 5), .ref (ad 6), .ref (ad 7), .ref (ad 8), .ref (ad 9), .ref (ad 10), .int tr]] ss.heap := hP
  have hin6 : ∀ w ∈ u_ws RX6 TX6 29, w ∈ wsX6_end := fun w h => List.mem_cons_of_mem _ (List.mem_append_right _ h)
  have hl := lv_entry ([.ref ko, .int v]) (n := 3) (Nat.le_of_ble_eq_true rfl)
  rw [lg_entry_eq]
  generalize (lg_sl ([.ref ko, .int v]) ++ List.replicate (3 - (lg_sl ([.ref ko, .int v])).length) Slot.unset).toArray = ls at hl ⊢
  replace hl : lv_has ls 3 [(0, .ref ko), (1, .int v)] := hl
  refine lv_iload_n hx hb dX6_end_0 rfl (lv_at hl 1 rfl) ?_
  refine xi_i2l hx hb dX6_end_1 ?_
  refine lv_lconst (v := lN 0) hx hb dX6_end_2 (by decide) ?_
  refine lv_aload_n hx hb dX6_end_3 rfl (lv_at hl 0 rfl) ?_
  refine va_get (D := G.1) (ci := 6) (v := .int (nI tp)) (C := RX6) (T := TX6) (N := 29) hx hb hts hin6 hown hK.1 hP 0 rfl rfl 14 (by decide) (hts (.fieldLink RX6 87 "BackLensesModel" "taped" "I") (List.mem_of_getElem? (i := 1) rfl)) (fun _ h9 => h9) rfl dX6_end_4 ?_
  refine xn_i2l hx hb (by omega) dX6_end_7 ?_
  refine xs_i (As := [.long v.toInt64, .long (lN 0), .long (lN tp)]) (rest := []) ⟨hx, hb, hml, hown, hts⟩ (c_X6_in_r l G v tp (by first | assumption | omega)) (va_cwS 3 hts gX6_end_X6_in rfl rfl rfl (by decide +kernel) ⟨Nat.le_of_ble_eq_true rfl, Nat.le_of_ble_eq_true rfl⟩) hP hS rfl hl.1 rfl (Nat.le_of_ble_eq_true rfl) dX6_end_8 ⟨Nat.zero_le _, Nat.zero_le _⟩ (fun r8 H locs hp8 hP hS => ?_)
  rw [show r8 = _ from hp8]
  refine xb_if_ne (tgt := 16) hx hb dX6_end_11 rfl (fun b11 => ?_) (fun b11 => ?_)
  · skip
    obtain ⟨k, hk, rfl⟩ := inR_nat b11
    refine lv_aload_n hx hb dX6_end_16 rfl (lv_at hl 0 rfl) ?_
    refine va_get (D := G.1) (ci := 6) (v := .int (nI tp)) (C := RX6) (T := TX6) (N := 29) hx hb hts hin6 hown hK.1 hP 0 rfl rfl 14 (by decide) (hts (.fieldLink RX6 87 "BackLensesModel" "taped" "I") (List.mem_of_getElem? (i := 1) rfl)) (fun _ h9 => h9) rfl dX6_end_17 ?_
    refine lv_istore_n (lv' := [(2, .int (nI tp)), (0, .ref ko), (1, .int (nI k))]) hx hb dX6_end_20 rfl hl (by decide) rfl (fun ls hl => ?_)
    refine lv_aload_n hx hb dX6_end_21 rfl (lv_at hl 1 rfl) ?_
    refine lv_iload_n hx hb dX6_end_22 rfl (lv_at hl 2 rfl) ?_
    refine va_put (D := G.1) (ci := 6) (v := .int (nI k)) (ty := .int) (C := RX6) (T := TX6) (N := 29) hx hb hts hin6 tyX6 tyX6_ok nmX6 hown hK.1 hP hD hS 0 rfl rfl 14 (by decide) (hts (.fieldLink RX6 87 "BackLensesModel" "taped" "I") (List.mem_of_getElem? (i := 1) rfl)) (fun _ h9 => h9) rfl (by decide +kernel) rfl rfl (Nat.le_of_ble_eq_true rfl) dX6_end_23 (fun H locs hP hD hS => ?_)
    replace hP : xP G [oC ko 6 [.ref (ad 0), .ref (ad 1), .int (nI w), .int (nI h), .int (nI la), .ref (ad 2), .int (mv 0), .int (mv 1), .int (mv 2), .int (mv 3), .int (mv 4), .int (mv 5), .int (mv 6), .ref (ad 3), .int (nI k), .int (mv 7), .int (mv 8), .int (mv 9), .int (mv 10), .int ft, .int (mv 11), .ref (ad 4), .ref (ad 5), .ref (ad 6), .ref (ad 7), .ref (ad 8), .ref (ad 9), .ref (ad 10), .int tr]] H := hP
    replace hD : va_D (va_A (w_X6_end G ko ad w h la tp ft tr mv) ss.heap.size) [oC ko 6 [.ref (ad 0), .ref (ad 1), .int (nI w), .int (nI h), .int (nI la), .ref (ad 2), .int (mv 0), .int (mv 1), .int (mv 2), .int (mv 3), .int (mv 4), .int (mv 5), .int (mv 6), .ref (ad 3), .int (nI k), .int (mv 7), .int (mv 8), .int (mv 9), .int (mv 10), .int ft, .int (mv 11), .ref (ad 4), .ref (ad 5), .ref (ad 6), .ref (ad 7), .ref (ad 8), .ref (ad 9), .ref (ad 10), .int tr]] := hD
    refine lv_iload_n hx hb dX6_end_26 rfl (lv_at hl 0 rfl) ?_
    have hP := hP.sub (ws' := [oC ko 6 [.ref (ad 0), .ref (ad 1), .int (nI w), .int (nI h), .int (nI la), .ref (ad 2), .int (mv 0), .int (mv 1), .int (mv 2), .int (mv 3), .int (mv 4), .int (mv 5), .int (mv 6), .ref (ad 3), .int (nI k), .int (mv 7), .int (mv 8), .int (mv 9), .int (mv 10), .int ft, .int (mv 11), .ref (ad 4), .ref (ad 5), .ref (ad 6), .ref (ad 7), .ref (ad 8), .ref (ad 9), .ref (ad 10), .int tr]]) [0] rfl
    have hD := hD.sub (ws' := [oC ko 6 [.ref (ad 0), .ref (ad 1), .int (nI w), .int (nI h), .int (nI la), .ref (ad 2), .int (mv 0), .int (mv 1), .int (mv 2), .int (mv 3), .int (mv 4), .int (mv 5), .int (mv 6), .ref (ad 3), .int (nI k), .int (mv 7), .int (mv 8), .int (mv 9), .int (mv 10), .int ft, .int (mv 11), .ref (ad 4), .ref (ad 5), .ref (ad 6), .ref (ad 7), .ref (ad 8), .ref (ad 9), .ref (ad 10), .int tr]]) [0] (by decide) rfl
    refine W.iret (v := nI tp) hx hb hr (fun t ht hW => ⟨⟨nI tp, (k), rfl, ?_, by rw [ht]; exact hP, hD⟩, hS.F ht⟩) hS.2.2 dX6_end_27
    first | exact ⟨(if_neg b11).symm, (if_neg b11).symm⟩ | (rw [if_pos b11, if_pos b11, nI_toInt (by omega)]; exact ⟨rfl, by omega⟩)
  · skip
    refine lv_iconst (v := (-1)) hx hb dX6_end_14 (by decide) ?_
    have hP := hP.sub (ws' := [oC ko 6 [.ref (ad 0), .ref (ad 1), .int (nI w), .int (nI h), .int (nI la), .ref (ad 2), .int (mv 0), .int (mv 1), .int (mv 2), .int (mv 3), .int (mv 4), .int (mv 5), .int (mv 6), .ref (ad 3), .int (nI tp), .int (mv 7), .int (mv 8), .int (mv 9), .int (mv 10), .int ft, .int (mv 11), .ref (ad 4), .ref (ad 5), .ref (ad 6), .ref (ad 7), .ref (ad 8), .ref (ad 9), .ref (ad 10), .int tr]]) [0] rfl
    have hD := hD.sub (ws' := [oC ko 6 [.ref (ad 0), .ref (ad 1), .int (nI w), .int (nI h), .int (nI la), .ref (ad 2), .int (mv 0), .int (mv 1), .int (mv 2), .int (mv 3), .int (mv 4), .int (mv 5), .int (mv 6), .ref (ad 3), .int (nI tp), .int (mv 7), .int (mv 8), .int (mv 9), .int (mv 10), .int ft, .int (mv 11), .ref (ad 4), .ref (ad 5), .ref (ad 6), .ref (ad 7), .ref (ad 8), .ref (ad 9), .ref (ad 10), .int tr]]) [0] (by decide) rfl
    refine W.iret (v := (-1)) hx hb hr (fun t ht hW => ⟨⟨(-1), (tp), rfl, ?_, by rw [ht]; exact hP, hD⟩, hS.F ht⟩) hS.2.2 dX6_end_15
    first | exact ⟨(if_neg b11).symm, (if_neg b11).symm⟩ | (rw [if_pos b11, if_pos b11, nI_toInt (by omega)]; exact ⟨rfl, by omega⟩)

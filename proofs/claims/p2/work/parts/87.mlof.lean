abbrev w_X6_readLineOf_0 (G : XG) (ko : Nat) (ad : Nat → Nat) (w h la tp : Nat) (dw dh dl : Nat) (tl tc hc hd : Int32) (ps fr so : Nat) (vl : Int32) (ft : Nat) (wa tr : Int32) (tb D : Nat → Int32) : va_W := [oC ko 6 [.ref (ad 0), .ref (ad 1), .int (nI w), .int (nI h), .int (nI la), .ref (ad 2), .int (nI dw), .int (nI dh), .int (nI dl), .int tl, .int tc, .int hc, .int hd, .ref (ad 3), .int (nI tp), .int (nI ps), .int (nI fr), .int (nI so), .int vl, .int (nI ft), .int wa, .ref (ad 4), .ref (ad 5), .ref (ad 6), .ref (ad 7), .ref (ad 8), .ref (ad 9), .ref (ad 10), .int tr], iA G (ad 2) 85 D, iA G (ad 3) 160 tb]
abbrev Q_X6_readLineOf_0 (G : XG) (sz : Nat) (ko : Nat) (ad : Nat → Nat) (w h la tp : Nat) (dw dh dl : Nat) (tl tc hc hd : Int32) (ps fr so : Nat) (vl : Int32) (ft : Nat) (wa tr : Int32) (tb D : Nat → Int32) : Array Value → State → Outcome → State → Prop := (va_Qv (fun (u : Nat × Nat × Nat × Int32 × Nat × Int32 × Nat × Nat) => ((u.1, u.2.1, u.2.2.1, u.2.2.2.1, u.2.2.2.2.1, u.2.2.2.2.2.1), (u.2.2.2.2.2.2.1, u.2.2.2.2.2.2.2, dl), (tl, tc, hc, hd), D) = mLof tb tp 0 ((ps, fr, so, vl, ft, wa), (dw, dh, dl), (tl, tc, hc, hd), D)) (xWb G sz (w_X6_readLineOf_0 G ko ad w h la tp dw dh dl tl tc hc hd ps fr so vl ft wa tr tb D) (fun u : Nat × Nat × Nat × Int32 × Nat × Int32 × Nat × Nat => [oC ko 6 [.ref (ad 0), .ref (ad 1), .int (nI w), .int (nI h), .int (nI la), .ref (ad 2), .int (nI u.2.2.2.2.2.2.1), .int (nI u.2.2.2.2.2.2.2), .int (nI dl), .int tl, .int tc, .int hc, .int hd, .ref (ad 3), .int (nI tp), .int (nI u.1), .int (nI u.2.1), .int (nI u.2.2.1), .int u.2.2.2.1, .int (nI u.2.2.2.2.1), .int u.2.2.2.2.2.1, .ref (ad 4), .ref (ad 5), .ref (ad 6), .ref (ad 7), .ref (ad 8), .ref (ad 9), .ref (ad 10), .int tr], iA G (ad 2) 85 D, iA G (ad 3) 160 tb])) (va_A (w_X6_readLineOf_0 G ko ad w h la tp dw dh dl tl tc hc hd ps fr so vl ft wa tr tb D) sz))
set_option maxHeartbeats 4000000 in
set_option maxRecDepth 100000 in
theorem c_X6_readLineOf_0 (l : Launch) (G : XG) (sz : Nat) (ko : Nat) (ad : Nat → Nat) (w h la tp : Nat) (dw dh dl : Nat) (tl tc hc hd : Int32) (ps fr so : Nat) (vl : Int32) (ft : Nat) (wa tr : Int32) (tb D : Nat → Int32) (htp : tp ≤ 160) (hps : ps ≤ tp) (htk : tpOk tb tp) (hft : ft ≤ 6) (hso : so ≤ 3) (hfr : fr ≤ ps) : Met l yX6_readLineOf wsX6_readLineOf ({ frames := 3, cells := 0, slots := 0, locals := 70 } : Room) (va_Pc [.ref ko, .int (nI 0)] (xWp G sz (w_X6_readLineOf_0 G ko ad w h la tp dw dh dl tl tc hc hd ps fr so vl ft wa tr tb D))) (Q_X6_readLineOf_0 G sz ko ad w h la tp dw dh dl tl tc hc hd ps fr so vl ft wa tr tb D) 0 0 (va_A (w_X6_readLineOf_0 G ko ad w h la tp dw dh dl tl tc hc hd ps fr so vl ft wa tr tb D) sz) := by
  refine Met.ofW (cc := cX6_readLineOf) (maxL := 3) (ret := none) (by decide) rfl ?_
  intro pp ee ss mm aa below mt cd s₁ BB hml hv
  obtain ⟨rfl, hsz, hP, hK, hD0⟩ := hv
  have hx := BB.exec
  have hb := BB.bytes
  have hr := BB.returns
  have hts := atoms_spec (ws := wsX6_readLineOf) BB.pre
  have hown : ss.vm.findClass RX6 = some mm.cls := findClass_of_methodNamed BB.named
  have hlocks := BB.notSynchronized
  subst hsz
  have hD := hD0.self (sz := ss.heap.size)
  have hA : ∀ q : Nat, ss.heap.size ≤ q → va_A (w_X6_readLineOf_0 G ko ad w h la tp dw dh dl tl tc hc hd ps fr so vl ft wa tr tb D) ss.heap.size q := fun q h => Or.inr h
  have hS : va_S (va_A (w_X6_readLineOf_0 G ko ad w h la tp dw dh dl tl tc hc hd ps fr so vl ft wa tr tb D) ss.heap.size) ss.heap ss.heap [] := va_S.rf
  replace hD : va_D (va_A (w_X6_readLineOf_0 G ko ad w h la tp dw dh dl tl tc hc hd ps fr so vl ft wa tr tb D) ss.heap.size) [oC ko 6 [.ref (ad 0), .ref (ad 1), .int (nI w), .int (nI h), .int (nI la), .ref (ad 2), .int (nI dw), .int (nI dh), .int (nI dl), .int tl, .int tc, .int hc, .int hd, .ref (ad 3), .int (nI tp), .int (nI ps), .int (nI fr), .int (nI so), .int vl, .int (nI ft), .int wa, .ref (ad 4), .ref (ad 5), .ref (ad 6), .ref (ad 7), .ref (ad 8), .ref (ad 9), .ref (ad 10), .int tr], iA G (ad 2) 85 D, iA G (ad 3) 160 tb] := hD
  replace hP : xP G [oC ko 6 [.ref (ad 0), .ref (ad 1), .int (nI w), .int (nI h), .int (nI la), .ref (ad 2), .int (nI dw), .int (nI dh), .int (nI dl), .int tl, .int tc, .int hc, .int hd, .ref (ad 3), .int (nI tp), .int (nI ps), .int (nI fr), .int (nI so), .int vl, .int (nI ft), .int wa, .ref (ad 4), .ref (ad 5), .ref (ad 6), .ref (ad 7), .ref (ad 8), .ref (ad 9), .ref (ad 10), .int tr], iA G (ad 2) 85 D, iA G (ad 3) 160 tb] ss.heap := hP
  have hin6 : ∀ w ∈ u_ws RX6 TX6 29, w ∈ wsX6_readLineOf := fun w h => List.mem_cons_of_mem _ (List.mem_append_right _ h)
  have hl := lv_entry ([.ref ko, .int (nI 0)]) (n := 3) (Nat.le_of_ble_eq_true rfl)
  rw [lg_entry_eq]
  generalize (lg_sl ([.ref ko, .int (nI 0)]) ++ List.replicate (3 - (lg_sl ([.ref ko, .int (nI 0)])).length) Slot.unset).toArray = ls at hl ⊢
  replace hl : lv_has ls 3 [(0, .ref ko), (1, .int (nI 0))] := hl
  refine lv_iload_n hx hb dX6_readLineOf_0 rfl (lv_at hl 1 rfl) ?_
  refine lv_tableIn (off := 31) (tgt := 32) hx hb dX6_readLineOf_1 (by decide) (by decide) rfl rfl ?_
  have ho0 : mOk tp (ps, fr, so, vl, ft, wa) := ⟨hps, hft, hso, hfr⟩
  refine lv_aload_n hx hb dX6_readLineOf_32 rfl (lv_at hl 0 rfl) ?_
  refine lv_aload_n hx hb dX6_readLineOf_33 rfl (lv_at hl 0 rfl) ?_
  refine lv_iconst (v := nI 2) hx hb dX6_readLineOf_34 (by decide) ?_
  refine lv_iconst (v := nI 4) hx hb dX6_readLineOf_35 (by decide) ?_
  refine xw_i (As := [.int (nI 2), .int (nI 4)]) (rest := [.ref ko]) (wr := [iA G (ad 2) 85 D]) ⟨hx, hb, hml, hown, hts⟩ (c_X6_readNumber l G ss.heap.size ko ad w h la tp dw dh dl tl tc hc hd ps fr so vl ft wa tr tb 2 4 (by first | assumption | omega) (by first | assumption | omega) (by first | assumption | omega) (by first | assumption | omega) (by first | assumption | omega) (by first | assumption | omega) (by first | assumption | omega)) (cwV 2 hts gX6_readLineOf_X6_readNumber rfl rfl rfl (by decide +kernel) ⟨Nat.le_of_ble_eq_true rfl, Nat.le_of_ble_eq_true rfl⟩) hK hP hD hS hA [0, 2] [1] rfl rfl (by decide) (by decide) (by decide) rfl rfl rfl hl.1 rfl (Nat.le_of_ble_eq_true rfl) dX6_readLineOf_36 ⟨Nat.le_of_ble_eq_true rfl, Nat.le_of_ble_eq_true rfl⟩ (fun r36 u H locs hp36 hP hD hS => ?_)
  obtain ⟨ps2_36, fr2_36, so2_36, vl2_36, ft2_36, wa2_36⟩ := u
  try dsimp only at hp36 hP hD
  obtain ⟨rfl, he36⟩ := hp36
  replace hP : xP G [iA G (ad 2) 85 D, oC ko 6 [.ref (ad 0), .ref (ad 1), .int (nI w), .int (nI h), .int (nI la), .ref (ad 2), .int (nI dw), .int (nI dh), .int (nI dl), .int tl, .int tc, .int hc, .int hd, .ref (ad 3), .int (nI tp), .int (nI ps2_36), .int (nI fr2_36), .int (nI so2_36), .int vl2_36, .int (nI ft2_36), .int wa2_36, .ref (ad 4), .ref (ad 5), .ref (ad 6), .ref (ad 7), .ref (ad 8), .ref (ad 9), .ref (ad 10), .int tr], iA G (ad 3) 160 tb] H := hP
  replace hD : va_D (va_A (w_X6_readLineOf_0 G ko ad w h la tp dw dh dl tl tc hc hd ps fr so vl ft wa tr tb D) ss.heap.size) [iA G (ad 2) 85 D, oC ko 6 [.ref (ad 0), .ref (ad 1), .int (nI w), .int (nI h), .int (nI la), .ref (ad 2), .int (nI dw), .int (nI dh), .int (nI dl), .int tl, .int tc, .int hc, .int hd, .ref (ad 3), .int (nI tp), .int (nI ps2_36), .int (nI fr2_36), .int (nI so2_36), .int vl2_36, .int (nI ft2_36), .int wa2_36, .ref (ad 4), .ref (ad 5), .ref (ad 6), .ref (ad 7), .ref (ad 8), .ref (ad 9), .ref (ad 10), .int tr], iA G (ad 3) 160 tb] := hD
  have ho36 : mOk tp (ps2_36, fr2_36, so2_36, vl2_36, ft2_36, wa2_36) := (by have q := (mNum_ok (t := tb) (lo := 2) (hi := 4) ho0).1; rw [← he36] at q; exact q)
  have hps36 := ho36.1
  have hft36 := ho36.2.1
  have hso36 := ho36.2.2.1
  have hfr36 := ho36.2.2.2
  replace hps36 : ps2_36 ≤ tp := hps36
  replace hft36 : ft2_36 ≤ 6 := hft36
  replace hso36 : so2_36 ≤ 3 := hso36
  replace hfr36 : fr2_36 ≤ ps2_36 := hfr36
  obtain ⟨k36, hk36, hv36⟩ := mLoo_val (lo := 2) (hi := 4) (s := (ps, fr, so, vl, ft, wa)) (by omega)
  refine xn_top (y := nI k36) (by exact hv36) ?_
  refine va_put (D := G.1) (ci := 6) (v := .int (nI k36)) (ty := .int) (C := RX6) (T := TX6) (N := 29) hx hb hts hin6 tyX6 tyX6_ok nmX6 hown hK.1 hP hD hS 1 rfl rfl 6 (by decide) (hts (.fieldLink RX6 50 "BackLensesModel" "dWide" "I") (List.mem_of_getElem? (i := 1) rfl)) (fun _ h9 => h9) rfl (by decide +kernel) rfl rfl (Nat.le_of_ble_eq_true rfl) dX6_readLineOf_39 (fun H locs hP hD hS => ?_)
  replace hP : xP G [iA G (ad 2) 85 D, oC ko 6 [.ref (ad 0), .ref (ad 1), .int (nI w), .int (nI h), .int (nI la), .ref (ad 2), .int (nI k36), .int (nI dh), .int (nI dl), .int tl, .int tc, .int hc, .int hd, .ref (ad 3), .int (nI tp), .int (nI ps2_36), .int (nI fr2_36), .int (nI so2_36), .int vl2_36, .int (nI ft2_36), .int wa2_36, .ref (ad 4), .ref (ad 5), .ref (ad 6), .ref (ad 7), .ref (ad 8), .ref (ad 9), .ref (ad 10), .int tr], iA G (ad 3) 160 tb] H := hP
  replace hD : va_D (va_A (w_X6_readLineOf_0 G ko ad w h la tp dw dh dl tl tc hc hd ps fr so vl ft wa tr tb D) ss.heap.size) [iA G (ad 2) 85 D, oC ko 6 [.ref (ad 0), .ref (ad 1), .int (nI w), .int (nI h), .int (nI la), .ref (ad 2), .int (nI k36), .int (nI dh), .int (nI dl), .int tl, .int tc, .int hc, .int hd, .ref (ad 3), .int (nI tp), .int (nI ps2_36), .int (nI fr2_36), .int (nI so2_36), .int vl2_36, .int (nI ft2_36), .int wa2_36, .ref (ad 4), .ref (ad 5), .ref (ad 6), .ref (ad 7), .ref (ad 8), .ref (ad 9), .ref (ad 10), .int tr], iA G (ad 3) 160 tb] := hD
  refine lv_aload_n hx hb dX6_readLineOf_42 rfl (lv_at hl 0 rfl) ?_
  refine lv_aload_n hx hb dX6_readLineOf_43 rfl (lv_at hl 0 rfl) ?_
  refine lv_iconst (v := nI 2) hx hb dX6_readLineOf_44 (by decide) ?_
  refine lv_iconst (v := nI 4) hx hb dX6_readLineOf_45 (by decide) ?_
  refine xw_i (As := [.int (nI 2), .int (nI 4)]) (rest := [.ref ko]) (wr := [iA G (ad 2) 85 D]) ⟨hx, hb, hml, hown, hts⟩ (c_X6_readNumber l G H.size ko ad w h la tp k36 dh dl tl tc hc hd ps2_36 fr2_36 so2_36 vl2_36 ft2_36 wa2_36 tr tb 2 4 (by first | assumption | omega) (by first | assumption | omega) (by first | assumption | omega) (by first | assumption | omega) (by first | assumption | omega) (by first | assumption | omega) (by first | assumption | omega)) (cwV 2 hts gX6_readLineOf_X6_readNumber rfl rfl rfl (by decide +kernel) ⟨Nat.le_of_ble_eq_true rfl, Nat.le_of_ble_eq_true rfl⟩) hK hP hD hS hA [1, 2] [0] rfl rfl (by decide) (by decide) (by decide) rfl rfl rfl hl.1 rfl (Nat.le_of_ble_eq_true rfl) dX6_readLineOf_46 ⟨Nat.le_of_ble_eq_true rfl, Nat.le_of_ble_eq_true rfl⟩ (fun r46 u H locs hp46 hP hD hS => ?_)
  obtain ⟨ps2_46, fr2_46, so2_46, vl2_46, ft2_46, wa2_46⟩ := u
  try dsimp only at hp46 hP hD
  obtain ⟨rfl, he46⟩ := hp46
  replace hP : xP G [iA G (ad 2) 85 D, oC ko 6 [.ref (ad 0), .ref (ad 1), .int (nI w), .int (nI h), .int (nI la), .ref (ad 2), .int (nI k36), .int (nI dh), .int (nI dl), .int tl, .int tc, .int hc, .int hd, .ref (ad 3), .int (nI tp), .int (nI ps2_46), .int (nI fr2_46), .int (nI so2_46), .int vl2_46, .int (nI ft2_46), .int wa2_46, .ref (ad 4), .ref (ad 5), .ref (ad 6), .ref (ad 7), .ref (ad 8), .ref (ad 9), .ref (ad 10), .int tr], iA G (ad 3) 160 tb] H := hP
  replace hD : va_D (va_A (w_X6_readLineOf_0 G ko ad w h la tp dw dh dl tl tc hc hd ps fr so vl ft wa tr tb D) ss.heap.size) [iA G (ad 2) 85 D, oC ko 6 [.ref (ad 0), .ref (ad 1), .int (nI w), .int (nI h), .int (nI la), .ref (ad 2), .int (nI k36), .int (nI dh), .int (nI dl), .int tl, .int tc, .int hc, .int hd, .ref (ad 3), .int (nI tp), .int (nI ps2_46), .int (nI fr2_46), .int (nI so2_46), .int vl2_46, .int (nI ft2_46), .int wa2_46, .ref (ad 4), .ref (ad 5), .ref (ad 6), .ref (ad 7), .ref (ad 8), .ref (ad 9), .ref (ad 10), .int tr], iA G (ad 3) 160 tb] := hD
  have ho46 : mOk tp (ps2_46, fr2_46, so2_46, vl2_46, ft2_46, wa2_46) := (by have q := (mNum_ok (t := tb) (lo := 2) (hi := 4) ho36).1; rw [← he46] at q; exact q)
  have hps46 := ho46.1
  have hft46 := ho46.2.1
  have hso46 := ho46.2.2.1
  have hfr46 := ho46.2.2.2
  replace hps46 : ps2_46 ≤ tp := hps46
  replace hft46 : ft2_46 ≤ 6 := hft46
  replace hso46 : so2_46 ≤ 3 := hso46
  replace hfr46 : fr2_46 ≤ ps2_46 := hfr46
  obtain ⟨k46, hk46, hv46⟩ := mLoo_val (lo := 2) (hi := 4) (s := (ps2_36, fr2_36, so2_36, vl2_36, ft2_36, wa2_36)) (by omega)
  refine xn_top (y := nI k46) (by exact hv46) ?_
  refine va_put (D := G.1) (ci := 6) (v := .int (nI k46)) (ty := .int) (C := RX6) (T := TX6) (N := 29) hx hb hts hin6 tyX6 tyX6_ok nmX6 hown hK.1 hP hD hS 1 rfl rfl 7 (by decide) (hts (.fieldLink RX6 54 "BackLensesModel" "dHigh" "I") (List.mem_of_getElem? (i := 2) rfl)) (fun _ h9 => h9) rfl (by decide +kernel) rfl rfl (Nat.le_of_ble_eq_true rfl) dX6_readLineOf_49 (fun H locs hP hD hS => ?_)
  replace hP : xP G [iA G (ad 2) 85 D, oC ko 6 [.ref (ad 0), .ref (ad 1), .int (nI w), .int (nI h), .int (nI la), .ref (ad 2), .int (nI k36), .int (nI k46), .int (nI dl), .int tl, .int tc, .int hc, .int hd, .ref (ad 3), .int (nI tp), .int (nI ps2_46), .int (nI fr2_46), .int (nI so2_46), .int vl2_46, .int (nI ft2_46), .int wa2_46, .ref (ad 4), .ref (ad 5), .ref (ad 6), .ref (ad 7), .ref (ad 8), .ref (ad 9), .ref (ad 10), .int tr], iA G (ad 3) 160 tb] H := hP
  replace hD : va_D (va_A (w_X6_readLineOf_0 G ko ad w h la tp dw dh dl tl tc hc hd ps fr so vl ft wa tr tb D) ss.heap.size) [iA G (ad 2) 85 D, oC ko 6 [.ref (ad 0), .ref (ad 1), .int (nI w), .int (nI h), .int (nI la), .ref (ad 2), .int (nI k36), .int (nI k46), .int (nI dl), .int tl, .int tc, .int hc, .int hd, .ref (ad 3), .int (nI tp), .int (nI ps2_46), .int (nI fr2_46), .int (nI so2_46), .int vl2_46, .int (nI ft2_46), .int wa2_46, .ref (ad 4), .ref (ad 5), .ref (ad 6), .ref (ad 7), .ref (ad 8), .ref (ad 9), .ref (ad 10), .int tr], iA G (ad 3) 160 tb] := hD
  refine lv_goto (tgt := 175) hx hb dX6_readLineOf_52 rfl ?_
  have hP := hP.sub (ws' := [oC ko 6 [.ref (ad 0), .ref (ad 1), .int (nI w), .int (nI h), .int (nI la), .ref (ad 2), .int (nI k36), .int (nI k46), .int (nI dl), .int tl, .int tc, .int hc, .int hd, .ref (ad 3), .int (nI tp), .int (nI ps2_46), .int (nI fr2_46), .int (nI so2_46), .int vl2_46, .int (nI ft2_46), .int wa2_46, .ref (ad 4), .ref (ad 5), .ref (ad 6), .ref (ad 7), .ref (ad 8), .ref (ad 9), .ref (ad 10), .int tr], iA G (ad 2) 85 D, iA G (ad 3) 160 tb]) [1, 0, 2] rfl
  have hD := hD.sub (ws' := [oC ko 6 [.ref (ad 0), .ref (ad 1), .int (nI w), .int (nI h), .int (nI la), .ref (ad 2), .int (nI k36), .int (nI k46), .int (nI dl), .int tl, .int tc, .int hc, .int hd, .ref (ad 3), .int (nI tp), .int (nI ps2_46), .int (nI fr2_46), .int (nI so2_46), .int vl2_46, .int (nI ft2_46), .int wa2_46, .ref (ad 4), .ref (ad 5), .ref (ad 6), .ref (ad 7), .ref (ad 8), .ref (ad 9), .ref (ad 10), .int tr], iA G (ad 2) 85 D, iA G (ad 3) 160 tb]) [1, 0, 2] (by decide) rfl
  refine W.vret hx hb hr (fun t ht hW => ⟨⟨(ps2_46, fr2_46, so2_46, vl2_46, ft2_46, wa2_46, k36, k46), rfl, ?_, by rw [ht]; exact hP, hD⟩, hS.F ht⟩) hS.2.2 dX6_readLineOf_175
  try dsimp only
  have e1 : vI (mNum tb tp 2 4 (ps, fr, so, vl, ft, wa)).1 = k36 := (congrArg vI hv36).trans (vI_nI (by omega)); have e2 : vI (mNum tb tp 2 4 (ps2_36, fr2_36, so2_36, vl2_36, ft2_36, wa2_36)).1 = k46 := (congrArg vI hv46).trans (vI_nI (by omega)); show _ = mL0 tb tp ((ps, fr, so, vl, ft, wa), (dw, dh, dl), (tl, tc, hc, hd), D); unfold mL0; dsimp only; rw [e1, ← he36, e2, ← he46]

abbrev w_X6_readLineOf_1 (G : XG) (ko : Nat) (ad : Nat → Nat) (w h la tp : Nat) (dw dh dl : Nat) (tl tc hc hd : Int32) (ps fr so : Nat) (vl : Int32) (ft : Nat) (wa tr : Int32) (tb D : Nat → Int32) : va_W := [oC ko 6 [.ref (ad 0), .ref (ad 1), .int (nI w), .int (nI h), .int (nI la), .ref (ad 2), .int (nI dw), .int (nI dh), .int (nI dl), .int tl, .int tc, .int hc, .int hd, .ref (ad 3), .int (nI tp), .int (nI ps), .int (nI fr), .int (nI so), .int vl, .int (nI ft), .int wa, .ref (ad 4), .ref (ad 5), .ref (ad 6), .ref (ad 7), .ref (ad 8), .ref (ad 9), .ref (ad 10), .int tr], iA G (ad 2) 85 D, iA G (ad 3) 160 tb]
abbrev Q_X6_readLineOf_1 (G : XG) (sz : Nat) (ko : Nat) (ad : Nat → Nat) (w h la tp : Nat) (dw dh dl : Nat) (tl tc hc hd : Int32) (ps fr so : Nat) (vl : Int32) (ft : Nat) (wa tr : Int32) (tb D : Nat → Int32) : Array Value → State → Outcome → State → Prop := (va_Qv (fun (u : Nat × Nat × Nat × Int32 × Nat × Int32 × Nat) => ((u.1, u.2.1, u.2.2.1, u.2.2.2.1, u.2.2.2.2.1, u.2.2.2.2.2.1), (dw, dh, u.2.2.2.2.2.2), (tl, tc, hc, hd), D) = mLof tb tp 1 ((ps, fr, so, vl, ft, wa), (dw, dh, dl), (tl, tc, hc, hd), D)) (xWb G sz (w_X6_readLineOf_1 G ko ad w h la tp dw dh dl tl tc hc hd ps fr so vl ft wa tr tb D) (fun u : Nat × Nat × Nat × Int32 × Nat × Int32 × Nat => [oC ko 6 [.ref (ad 0), .ref (ad 1), .int (nI w), .int (nI h), .int (nI la), .ref (ad 2), .int (nI dw), .int (nI dh), .int (nI u.2.2.2.2.2.2), .int tl, .int tc, .int hc, .int hd, .ref (ad 3), .int (nI tp), .int (nI u.1), .int (nI u.2.1), .int (nI u.2.2.1), .int u.2.2.2.1, .int (nI u.2.2.2.2.1), .int u.2.2.2.2.2.1, .ref (ad 4), .ref (ad 5), .ref (ad 6), .ref (ad 7), .ref (ad 8), .ref (ad 9), .ref (ad 10), .int tr], iA G (ad 2) 85 D, iA G (ad 3) 160 tb])) (va_A (w_X6_readLineOf_1 G ko ad w h la tp dw dh dl tl tc hc hd ps fr so vl ft wa tr tb D) sz))
set_option maxHeartbeats 4000000 in
set_option maxRecDepth 100000 in
theorem c_X6_readLineOf_1 (l : Launch) (G : XG) (sz : Nat) (ko : Nat) (ad : Nat → Nat) (w h la tp : Nat) (dw dh dl : Nat) (tl tc hc hd : Int32) (ps fr so : Nat) (vl : Int32) (ft : Nat) (wa tr : Int32) (tb D : Nat → Int32) (htp : tp ≤ 160) (hps : ps ≤ tp) (htk : tpOk tb tp) (hft : ft ≤ 6) (hso : so ≤ 3) (hfr : fr ≤ ps) : Met l yX6_readLineOf wsX6_readLineOf ({ frames := 3, cells := 0, slots := 0, locals := 70 } : Room) (va_Pc [.ref ko, .int (nI 1)] (xWp G sz (w_X6_readLineOf_1 G ko ad w h la tp dw dh dl tl tc hc hd ps fr so vl ft wa tr tb D))) (Q_X6_readLineOf_1 G sz ko ad w h la tp dw dh dl tl tc hc hd ps fr so vl ft wa tr tb D) 0 0 (va_A (w_X6_readLineOf_1 G ko ad w h la tp dw dh dl tl tc hc hd ps fr so vl ft wa tr tb D) sz) := by
  refine Met.ofW (cc := cX6_readLineOf) (maxL := 3) (ret := none) (by decide) rfl ?_
  intro pp ee ss mm aa below mt cd s₁ BB hml hv
  obtain ⟨rfl, hsz, hP, hK, hD0⟩ := hv
  have hx := BB.exec
  have hb := BB.bytes
  have hr := BB.returns
  have hts := atoms_spec (ws := wsX6_readLineOf) BB.pre
  have hown : ss.vm.findClass RX6 = some mm.cls := findClass_of_methodNamed BB.named
  have hlocks := BB.notSynchronized
  subst hsz
  have hD := hD0.self (sz := ss.heap.size)
  have hA : ∀ q : Nat, ss.heap.size ≤ q → va_A (w_X6_readLineOf_1 G ko ad w h la tp dw dh dl tl tc hc hd ps fr so vl ft wa tr tb D) ss.heap.size q := fun q h => Or.inr h
  have hS : va_S (va_A (w_X6_readLineOf_1 G ko ad w h la tp dw dh dl tl tc hc hd ps fr so vl ft wa tr tb D) ss.heap.size) ss.heap ss.heap [] := va_S.rf
  replace hD : va_D (va_A (w_X6_readLineOf_1 G ko ad w h la tp dw dh dl tl tc hc hd ps fr so vl ft wa tr tb D) ss.heap.size) [oC ko 6 [.ref (ad 0), .ref (ad 1), .int (nI w), .int (nI h), .int (nI la), .ref (ad 2), .int (nI dw), .int (nI dh), .int (nI dl), .int tl, .int tc, .int hc, .int hd, .ref (ad 3), .int (nI tp), .int (nI ps), .int (nI fr), .int (nI so), .int vl, .int (nI ft), .int wa, .ref (ad 4), .ref (ad 5), .ref (ad 6), .ref (ad 7), .ref (ad 8), .ref (ad 9), .ref (ad 10), .int tr], iA G (ad 2) 85 D, iA G (ad 3) 160 tb] := hD
  replace hP : xP G [oC ko 6 [.ref (ad 0), .ref (ad 1), .int (nI w), .int (nI h), .int (nI la), .ref (ad 2), .int (nI dw), .int (nI dh), .int (nI dl), .int tl, .int tc, .int hc, .int hd, .ref (ad 3), .int (nI tp), .int (nI ps), .int (nI fr), .int (nI so), .int vl, .int (nI ft), .int wa, .ref (ad 4), .ref (ad 5), .ref (ad 6), .ref (ad 7), .ref (ad 8), .ref (ad 9), .ref (ad 10), .int tr], iA G (ad 2) 85 D, iA G (ad 3) 160 tb] ss.heap := hP
  have hin6 : ∀ w ∈ u_ws RX6 TX6 29, w ∈ wsX6_readLineOf := fun w h => List.mem_cons_of_mem _ (List.mem_append_right _ h)
  have hl := lv_entry ([.ref ko, .int (nI 1)]) (n := 3) (Nat.le_of_ble_eq_true rfl)
  rw [lg_entry_eq]
  generalize (lg_sl ([.ref ko, .int (nI 1)]) ++ List.replicate (3 - (lg_sl ([.ref ko, .int (nI 1)])).length) Slot.unset).toArray = ls at hl ⊢
  replace hl : lv_has ls 3 [(0, .ref ko), (1, .int (nI 1))] := hl
  refine lv_iload_n hx hb dX6_readLineOf_0 rfl (lv_at hl 1 rfl) ?_
  refine lv_tableIn (off := 54) (tgt := 55) hx hb dX6_readLineOf_1 (by decide) (by decide) rfl rfl ?_
  have ho0 : mOk tp (ps, fr, so, vl, ft, wa) := ⟨hps, hft, hso, hfr⟩
  refine lv_aload_n hx hb dX6_readLineOf_55 rfl (lv_at hl 0 rfl) ?_
  refine lv_aload_n hx hb dX6_readLineOf_56 rfl (lv_at hl 0 rfl) ?_
  refine lv_iconst (v := nI 0) hx hb dX6_readLineOf_57 (by decide) ?_
  refine lv_bipush (v := nI 9) hx hb dX6_readLineOf_58 (by decide) ?_
  refine xw_i (As := [.int (nI 0), .int (nI 9)]) (rest := [.ref ko]) (wr := [iA G (ad 2) 85 D]) ⟨hx, hb, hml, hown, hts⟩ (c_X6_readNumber l G ss.heap.size ko ad w h la tp dw dh dl tl tc hc hd ps fr so vl ft wa tr tb 0 9 (by first | assumption | omega) (by first | assumption | omega) (by first | assumption | omega) (by first | assumption | omega) (by first | assumption | omega) (by first | assumption | omega) (by first | assumption | omega)) (cwV 2 hts gX6_readLineOf_X6_readNumber rfl rfl rfl (by decide +kernel) ⟨Nat.le_of_ble_eq_true rfl, Nat.le_of_ble_eq_true rfl⟩) hK hP hD hS hA [0, 2] [1] rfl rfl (by decide) (by decide) (by decide) rfl rfl rfl hl.1 rfl (Nat.le_of_ble_eq_true rfl) dX6_readLineOf_60 ⟨Nat.le_of_ble_eq_true rfl, Nat.le_of_ble_eq_true rfl⟩ (fun r60 u H locs hp60 hP hD hS => ?_)
  obtain ⟨ps2_60, fr2_60, so2_60, vl2_60, ft2_60, wa2_60⟩ := u
  try dsimp only at hp60 hP hD
  obtain ⟨rfl, he60⟩ := hp60
  replace hP : xP G [iA G (ad 2) 85 D, oC ko 6 [.ref (ad 0), .ref (ad 1), .int (nI w), .int (nI h), .int (nI la), .ref (ad 2), .int (nI dw), .int (nI dh), .int (nI dl), .int tl, .int tc, .int hc, .int hd, .ref (ad 3), .int (nI tp), .int (nI ps2_60), .int (nI fr2_60), .int (nI so2_60), .int vl2_60, .int (nI ft2_60), .int wa2_60, .ref (ad 4), .ref (ad 5), .ref (ad 6), .ref (ad 7), .ref (ad 8), .ref (ad 9), .ref (ad 10), .int tr], iA G (ad 3) 160 tb] H := hP
  replace hD : va_D (va_A (w_X6_readLineOf_1 G ko ad w h la tp dw dh dl tl tc hc hd ps fr so vl ft wa tr tb D) ss.heap.size) [iA G (ad 2) 85 D, oC ko 6 [.ref (ad 0), .ref (ad 1), .int (nI w), .int (nI h), .int (nI la), .ref (ad 2), .int (nI dw), .int (nI dh), .int (nI dl), .int tl, .int tc, .int hc, .int hd, .ref (ad 3), .int (nI tp), .int (nI ps2_60), .int (nI fr2_60), .int (nI so2_60), .int vl2_60, .int (nI ft2_60), .int wa2_60, .ref (ad 4), .ref (ad 5), .ref (ad 6), .ref (ad 7), .ref (ad 8), .ref (ad 9), .ref (ad 10), .int tr], iA G (ad 3) 160 tb] := hD
  have ho60 : mOk tp (ps2_60, fr2_60, so2_60, vl2_60, ft2_60, wa2_60) := (by have q := (mNum_ok (t := tb) (lo := 0) (hi := 9) ho0).1; rw [← he60] at q; exact q)
  have hps60 := ho60.1
  have hft60 := ho60.2.1
  have hso60 := ho60.2.2.1
  have hfr60 := ho60.2.2.2
  replace hps60 : ps2_60 ≤ tp := hps60
  replace hft60 : ft2_60 ≤ 6 := hft60
  replace hso60 : so2_60 ≤ 3 := hso60
  replace hfr60 : fr2_60 ≤ ps2_60 := hfr60
  obtain ⟨k60, hk60, hv60⟩ := mLoo_val (lo := 0) (hi := 9) (s := (ps, fr, so, vl, ft, wa)) (by omega)
  refine xn_top (y := nI k60) (by exact hv60) ?_
  refine va_put (D := G.1) (ci := 6) (v := .int (nI k60)) (ty := .int) (C := RX6) (T := TX6) (N := 29) hx hb hts hin6 tyX6 tyX6_ok nmX6 hown hK.1 hP hD hS 1 rfl rfl 8 (by decide) (hts (.fieldLink RX6 57 "BackLensesModel" "dLast" "I") (List.mem_of_getElem? (i := 3) rfl)) (fun _ h9 => h9) rfl (by decide +kernel) rfl rfl (Nat.le_of_ble_eq_true rfl) dX6_readLineOf_63 (fun H locs hP hD hS => ?_)
  replace hP : xP G [iA G (ad 2) 85 D, oC ko 6 [.ref (ad 0), .ref (ad 1), .int (nI w), .int (nI h), .int (nI la), .ref (ad 2), .int (nI dw), .int (nI dh), .int (nI k60), .int tl, .int tc, .int hc, .int hd, .ref (ad 3), .int (nI tp), .int (nI ps2_60), .int (nI fr2_60), .int (nI so2_60), .int vl2_60, .int (nI ft2_60), .int wa2_60, .ref (ad 4), .ref (ad 5), .ref (ad 6), .ref (ad 7), .ref (ad 8), .ref (ad 9), .ref (ad 10), .int tr], iA G (ad 3) 160 tb] H := hP
  replace hD : va_D (va_A (w_X6_readLineOf_1 G ko ad w h la tp dw dh dl tl tc hc hd ps fr so vl ft wa tr tb D) ss.heap.size) [iA G (ad 2) 85 D, oC ko 6 [.ref (ad 0), .ref (ad 1), .int (nI w), .int (nI h), .int (nI la), .ref (ad 2), .int (nI dw), .int (nI dh), .int (nI k60), .int tl, .int tc, .int hc, .int hd, .ref (ad 3), .int (nI tp), .int (nI ps2_60), .int (nI fr2_60), .int (nI so2_60), .int vl2_60, .int (nI ft2_60), .int wa2_60, .ref (ad 4), .ref (ad 5), .ref (ad 6), .ref (ad 7), .ref (ad 8), .ref (ad 9), .ref (ad 10), .int tr], iA G (ad 3) 160 tb] := hD
  refine lv_goto (tgt := 175) hx hb dX6_readLineOf_66 rfl ?_
  have hP := hP.sub (ws' := [oC ko 6 [.ref (ad 0), .ref (ad 1), .int (nI w), .int (nI h), .int (nI la), .ref (ad 2), .int (nI dw), .int (nI dh), .int (nI k60), .int tl, .int tc, .int hc, .int hd, .ref (ad 3), .int (nI tp), .int (nI ps2_60), .int (nI fr2_60), .int (nI so2_60), .int vl2_60, .int (nI ft2_60), .int wa2_60, .ref (ad 4), .ref (ad 5), .ref (ad 6), .ref (ad 7), .ref (ad 8), .ref (ad 9), .ref (ad 10), .int tr], iA G (ad 2) 85 D, iA G (ad 3) 160 tb]) [1, 0, 2] rfl
  have hD := hD.sub (ws' := [oC ko 6 [.ref (ad 0), .ref (ad 1), .int (nI w), .int (nI h), .int (nI la), .ref (ad 2), .int (nI dw), .int (nI dh), .int (nI k60), .int tl, .int tc, .int hc, .int hd, .ref (ad 3), .int (nI tp), .int (nI ps2_60), .int (nI fr2_60), .int (nI so2_60), .int vl2_60, .int (nI ft2_60), .int wa2_60, .ref (ad 4), .ref (ad 5), .ref (ad 6), .ref (ad 7), .ref (ad 8), .ref (ad 9), .ref (ad 10), .int tr], iA G (ad 2) 85 D, iA G (ad 3) 160 tb]) [1, 0, 2] (by decide) rfl
  refine W.vret hx hb hr (fun t ht hW => ⟨⟨(ps2_60, fr2_60, so2_60, vl2_60, ft2_60, wa2_60, k60), rfl, ?_, by rw [ht]; exact hP, hD⟩, hS.F ht⟩) hS.2.2 dX6_readLineOf_175
  try dsimp only
  have e1 : vI (mNum tb tp 0 9 (ps, fr, so, vl, ft, wa)).1 = k60 := (congrArg vI hv60).trans (vI_nI (by omega)); show _ = mL1 tb tp ((ps, fr, so, vl, ft, wa), (dw, dh, dl), (tl, tc, hc, hd), D); unfold mL1; dsimp only; rw [e1, ← he60]

abbrev w_X6_readLineOf_2 (G : XG) (ko : Nat) (ad : Nat → Nat) (w h la tp : Nat) (dw dh dl : Nat) (tl tc hc hd : Int32) (ps fr so : Nat) (vl : Int32) (ft : Nat) (wa tr : Int32) (tb D : Nat → Int32) : va_W := [oC ko 6 [.ref (ad 0), .ref (ad 1), .int (nI w), .int (nI h), .int (nI la), .ref (ad 2), .int (nI dw), .int (nI dh), .int (nI dl), .int tl, .int tc, .int hc, .int hd, .ref (ad 3), .int (nI tp), .int (nI ps), .int (nI fr), .int (nI so), .int vl, .int (nI ft), .int wa, .ref (ad 4), .ref (ad 5), .ref (ad 6), .ref (ad 7), .ref (ad 8), .ref (ad 9), .ref (ad 10), .int tr], iA G (ad 2) 85 D, iA G (ad 3) 160 tb]
abbrev Q_X6_readLineOf_2 (G : XG) (sz : Nat) (ko : Nat) (ad : Nat → Nat) (w h la tp : Nat) (dw dh dl : Nat) (tl tc hc hd : Int32) (ps fr so : Nat) (vl : Int32) (ft : Nat) (wa tr : Int32) (tb D : Nat → Int32) : Array Value → State → Outcome → State → Prop := (va_Qv (fun (u : Nat × Nat × Nat × Int32 × Nat × Int32 × Int32 × Int32 × (Nat → Int32)) => ((u.1, u.2.1, u.2.2.1, u.2.2.2.1, u.2.2.2.2.1, u.2.2.2.2.2.1), (dw, dh, dl), (tl, u.2.2.2.2.2.2.1, u.2.2.2.2.2.2.2.1, hd), u.2.2.2.2.2.2.2.2) = mLof tb tp 2 ((ps, fr, so, vl, ft, wa), (dw, dh, dl), (tl, tc, hc, hd), D)) (xWb G sz (w_X6_readLineOf_2 G ko ad w h la tp dw dh dl tl tc hc hd ps fr so vl ft wa tr tb D) (fun u : Nat × Nat × Nat × Int32 × Nat × Int32 × Int32 × Int32 × (Nat → Int32) => [oC ko 6 [.ref (ad 0), .ref (ad 1), .int (nI w), .int (nI h), .int (nI la), .ref (ad 2), .int (nI dw), .int (nI dh), .int (nI dl), .int tl, .int u.2.2.2.2.2.2.1, .int u.2.2.2.2.2.2.2.1, .int hd, .ref (ad 3), .int (nI tp), .int (nI u.1), .int (nI u.2.1), .int (nI u.2.2.1), .int u.2.2.2.1, .int (nI u.2.2.2.2.1), .int u.2.2.2.2.2.1, .ref (ad 4), .ref (ad 5), .ref (ad 6), .ref (ad 7), .ref (ad 8), .ref (ad 9), .ref (ad 10), .int tr], iA G (ad 2) 85 u.2.2.2.2.2.2.2.2, iA G (ad 3) 160 tb])) (va_A (w_X6_readLineOf_2 G ko ad w h la tp dw dh dl tl tc hc hd ps fr so vl ft wa tr tb D) sz))
set_option maxHeartbeats 4000000 in
set_option maxRecDepth 100000 in
theorem c_X6_readLineOf_2 (l : Launch) (G : XG) (sz : Nat) (ko : Nat) (ad : Nat → Nat) (w h la tp : Nat) (dw dh dl : Nat) (tl tc hc hd : Int32) (ps fr so : Nat) (vl : Int32) (ft : Nat) (wa tr : Int32) (tb D : Nat → Int32) (htp : tp ≤ 160) (hps : ps ≤ tp) (htk : tpOk tb tp) (hft : ft ≤ 6) (hso : so ≤ 3) (hfr : fr ≤ ps) : Met l yX6_readLineOf wsX6_readLineOf ({ frames := 3, cells := 0, slots := 0, locals := 70 } : Room) (va_Pc [.ref ko, .int (nI 2)] (xWp G sz (w_X6_readLineOf_2 G ko ad w h la tp dw dh dl tl tc hc hd ps fr so vl ft wa tr tb D))) (Q_X6_readLineOf_2 G sz ko ad w h la tp dw dh dl tl tc hc hd ps fr so vl ft wa tr tb D) 0 0 (va_A (w_X6_readLineOf_2 G ko ad w h la tp dw dh dl tl tc hc hd ps fr so vl ft wa tr tb D) sz) := by
  refine Met.ofW (cc := cX6_readLineOf) (maxL := 3) (ret := none) (by decide) rfl ?_
  intro pp ee ss mm aa below mt cd s₁ BB hml hv
  obtain ⟨rfl, hsz, hP, hK, hD0⟩ := hv
  have hx := BB.exec
  have hb := BB.bytes
  have hr := BB.returns
  have hts := atoms_spec (ws := wsX6_readLineOf) BB.pre
  have hown : ss.vm.findClass RX6 = some mm.cls := findClass_of_methodNamed BB.named
  have hlocks := BB.notSynchronized
  subst hsz
  have hD := hD0.self (sz := ss.heap.size)
  have hA : ∀ q : Nat, ss.heap.size ≤ q → va_A (w_X6_readLineOf_2 G ko ad w h la tp dw dh dl tl tc hc hd ps fr so vl ft wa tr tb D) ss.heap.size q := fun q h => Or.inr h
  have hS : va_S (va_A (w_X6_readLineOf_2 G ko ad w h la tp dw dh dl tl tc hc hd ps fr so vl ft wa tr tb D) ss.heap.size) ss.heap ss.heap [] := va_S.rf
  replace hD : va_D (va_A (w_X6_readLineOf_2 G ko ad w h la tp dw dh dl tl tc hc hd ps fr so vl ft wa tr tb D) ss.heap.size) [oC ko 6 [.ref (ad 0), .ref (ad 1), .int (nI w), .int (nI h), .int (nI la), .ref (ad 2), .int (nI dw), .int (nI dh), .int (nI dl), .int tl, .int tc, .int hc, .int hd, .ref (ad 3), .int (nI tp), .int (nI ps), .int (nI fr), .int (nI so), .int vl, .int (nI ft), .int wa, .ref (ad 4), .ref (ad 5), .ref (ad 6), .ref (ad 7), .ref (ad 8), .ref (ad 9), .ref (ad 10), .int tr], iA G (ad 2) 85 D, iA G (ad 3) 160 tb] := hD
  replace hP : xP G [oC ko 6 [.ref (ad 0), .ref (ad 1), .int (nI w), .int (nI h), .int (nI la), .ref (ad 2), .int (nI dw), .int (nI dh), .int (nI dl), .int tl, .int tc, .int hc, .int hd, .ref (ad 3), .int (nI tp), .int (nI ps), .int (nI fr), .int (nI so), .int vl, .int (nI ft), .int wa, .ref (ad 4), .ref (ad 5), .ref (ad 6), .ref (ad 7), .ref (ad 8), .ref (ad 9), .ref (ad 10), .int tr], iA G (ad 2) 85 D, iA G (ad 3) 160 tb] ss.heap := hP
  have hin6 : ∀ w ∈ u_ws RX6 TX6 29, w ∈ wsX6_readLineOf := fun w h => List.mem_cons_of_mem _ (List.mem_append_right _ h)
  have hl := lv_entry ([.ref ko, .int (nI 2)]) (n := 3) (Nat.le_of_ble_eq_true rfl)
  rw [lg_entry_eq]
  generalize (lg_sl ([.ref ko, .int (nI 2)]) ++ List.replicate (3 - (lg_sl ([.ref ko, .int (nI 2)])).length) Slot.unset).toArray = ls at hl ⊢
  replace hl : lv_has ls 3 [(0, .ref ko), (1, .int (nI 2))] := hl
  refine lv_iload_n hx hb dX6_readLineOf_0 rfl (lv_at hl 1 rfl) ?_
  refine lv_tableIn (off := 68) (tgt := 69) hx hb dX6_readLineOf_1 (by decide) (by decide) rfl rfl ?_
  have ho0 : mOk tp (ps, fr, so, vl, ft, wa) := ⟨hps, hft, hso, hfr⟩
  refine lv_aload_n hx hb dX6_readLineOf_69 rfl (lv_at hl 0 rfl) ?_
  refine lv_aload_n hx hb dX6_readLineOf_70 rfl (lv_at hl 0 rfl) ?_
  refine va_get (D := G.1) (ci := 6) (v := .int tc) (C := RX6) (T := TX6) (N := 29) hx hb hts hin6 hown hK.1 hP 0 rfl rfl 10 (by decide) (hts (.fieldLink RX6 63 "BackLensesModel" "toldCells" "I") (List.mem_of_getElem? (i := 4) rfl)) (fun _ h9 => h9) rfl dX6_readLineOf_71 ?_
  refine xw_i (As := [.int tc]) (rest := []) (wr := [iA G (ad 2) 85 D]) ⟨hx, hb, hml, hown, hts⟩ (c_X6_readCellBut l G ss.heap.size ko ad w h la tp dw dh dl tl tc hc hd ps fr so vl ft wa tr tb tc (by first | assumption | omega) (by first | assumption | omega) (by first | assumption | omega) (by first | assumption | omega) (by first | assumption | omega)) (cwV 1 hts gX6_readLineOf_X6_readCellBut rfl rfl rfl (by decide +kernel) ⟨Nat.le_of_ble_eq_true rfl, Nat.le_of_ble_eq_true rfl⟩) hK hP hD hS hA [0, 2] [1] rfl rfl (by decide) (by decide) (by decide) rfl rfl rfl hl.1 rfl (Nat.le_of_ble_eq_true rfl) dX6_readLineOf_74 ⟨Nat.le_of_ble_eq_true rfl, Nat.le_of_ble_eq_true rfl⟩ (fun r74 u H locs hp74 hP hD hS => ?_)
  obtain ⟨ps2_74, fr2_74, so2_74, vl2_74, ft2_74, wa2_74, hc2_74⟩ := u
  try dsimp only at hp74 hP hD
  obtain ⟨rfl, he74⟩ := hp74
  replace hP : xP G [iA G (ad 2) 85 D, oC ko 6 [.ref (ad 0), .ref (ad 1), .int (nI w), .int (nI h), .int (nI la), .ref (ad 2), .int (nI dw), .int (nI dh), .int (nI dl), .int tl, .int tc, .int hc2_74, .int hd, .ref (ad 3), .int (nI tp), .int (nI ps2_74), .int (nI fr2_74), .int (nI so2_74), .int vl2_74, .int (nI ft2_74), .int wa2_74, .ref (ad 4), .ref (ad 5), .ref (ad 6), .ref (ad 7), .ref (ad 8), .ref (ad 9), .ref (ad 10), .int tr], iA G (ad 3) 160 tb] H := hP
  replace hD : va_D (va_A (w_X6_readLineOf_2 G ko ad w h la tp dw dh dl tl tc hc hd ps fr so vl ft wa tr tb D) ss.heap.size) [iA G (ad 2) 85 D, oC ko 6 [.ref (ad 0), .ref (ad 1), .int (nI w), .int (nI h), .int (nI la), .ref (ad 2), .int (nI dw), .int (nI dh), .int (nI dl), .int tl, .int tc, .int hc2_74, .int hd, .ref (ad 3), .int (nI tp), .int (nI ps2_74), .int (nI fr2_74), .int (nI so2_74), .int vl2_74, .int (nI ft2_74), .int wa2_74, .ref (ad 4), .ref (ad 5), .ref (ad 6), .ref (ad 7), .ref (ad 8), .ref (ad 9), .ref (ad 10), .int tr], iA G (ad 3) 160 tb] := hD
  have ho74 : mOk tp (ps2_74, fr2_74, so2_74, vl2_74, ft2_74, wa2_74) := (by have q := (mCel_ok (t := tb) (sm := tc) (hc := hc) ho0).1; rw [← he74] at q; exact q)
  have hps74 := ho74.1
  have hft74 := ho74.2.1
  have hso74 := ho74.2.2.1
  have hfr74 := ho74.2.2.2
  replace hps74 : ps2_74 ≤ tp := hps74
  replace hft74 : ft2_74 ≤ 6 := hft74
  replace hso74 : so2_74 ≤ 3 := hso74
  replace hfr74 : fr2_74 ≤ ps2_74 := hfr74
  obtain ⟨k74, hk74, hv74⟩ := mLoo_val (lo := 0) (hi := 15) (s := (ps, fr, so, vl, ft, wa)) (by omega)
  refine xn_top (y := nI k74) (by exact hv74) ?_
  refine lv_istore_n (lv' := [(2, .int (nI k74)), (0, .ref ko), (1, .int (nI 2))]) hx hb dX6_readLineOf_77 rfl hl (by decide) rfl (fun ls hl => ?_)
  refine lv_aload_n hx hb dX6_readLineOf_78 rfl (lv_at hl 1 rfl) ?_
  refine lv_dup hx hb dX6_readLineOf_79 rfl ?_
  refine va_get (D := G.1) (ci := 6) (v := .int tc) (C := RX6) (T := TX6) (N := 29) hx hb hts hin6 hown hK.1 hP 1 rfl rfl 10 (by decide) (hts (.fieldLink RX6 63 "BackLensesModel" "toldCells" "I") (List.mem_of_getElem? (i := 4) rfl)) (fun _ h9 => h9) rfl dX6_readLineOf_80 ?_
  refine lv_iconst (v := nI 1) hx hb dX6_readLineOf_83 (by decide) ?_
  refine lv_iload_n hx hb dX6_readLineOf_84 rfl (lv_at hl 0 rfl) ?_
  refine lv_ishl hx hb dX6_readLineOf_85 ?_
  refine lv_ior hx hb dX6_readLineOf_86 ?_
  refine va_put (D := G.1) (ci := 6) (v := .int (tc ||| ((nI 1) <<< ((nI k74) &&& 31)))) (ty := .int) (C := RX6) (T := TX6) (N := 29) hx hb hts hin6 tyX6 tyX6_ok nmX6 hown hK.1 hP hD hS 1 rfl rfl 10 (by decide) (hts (.fieldLink RX6 63 "BackLensesModel" "toldCells" "I") (List.mem_of_getElem? (i := 4) rfl)) (fun _ h9 => h9) rfl (by decide +kernel) rfl rfl (Nat.le_of_ble_eq_true rfl) dX6_readLineOf_87 (fun H locs hP hD hS => ?_)
  replace hP : xP G [iA G (ad 2) 85 D, oC ko 6 [.ref (ad 0), .ref (ad 1), .int (nI w), .int (nI h), .int (nI la), .ref (ad 2), .int (nI dw), .int (nI dh), .int (nI dl), .int tl, .int (tc ||| ((nI 1) <<< ((nI k74) &&& 31))), .int hc2_74, .int hd, .ref (ad 3), .int (nI tp), .int (nI ps2_74), .int (nI fr2_74), .int (nI so2_74), .int vl2_74, .int (nI ft2_74), .int wa2_74, .ref (ad 4), .ref (ad 5), .ref (ad 6), .ref (ad 7), .ref (ad 8), .ref (ad 9), .ref (ad 10), .int tr], iA G (ad 3) 160 tb] H := hP
  replace hD : va_D (va_A (w_X6_readLineOf_2 G ko ad w h la tp dw dh dl tl tc hc hd ps fr so vl ft wa tr tb D) ss.heap.size) [iA G (ad 2) 85 D, oC ko 6 [.ref (ad 0), .ref (ad 1), .int (nI w), .int (nI h), .int (nI la), .ref (ad 2), .int (nI dw), .int (nI dh), .int (nI dl), .int tl, .int (tc ||| ((nI 1) <<< ((nI k74) &&& 31))), .int hc2_74, .int hd, .ref (ad 3), .int (nI tp), .int (nI ps2_74), .int (nI fr2_74), .int (nI so2_74), .int vl2_74, .int (nI ft2_74), .int wa2_74, .ref (ad 4), .ref (ad 5), .ref (ad 6), .ref (ad 7), .ref (ad 8), .ref (ad 9), .ref (ad 10), .int tr], iA G (ad 3) 160 tb] := hD
  refine lv_aload_n hx hb dX6_readLineOf_90 rfl (lv_at hl 1 rfl) ?_
  refine va_get (D := G.1) (ci := 6) (v := .ref (ad 2)) (C := RX6) (T := TX6) (N := 29) hx hb hts hin6 hown hK.1 hP 1 rfl rfl 5 (by decide) (hts (.fieldLink RX6 17 "BackLensesModel" "draft" "[I") (List.mem_of_getElem? (i := 5) rfl)) (fun _ h9 => h9) rfl dX6_readLineOf_91 ?_
  refine lv_iconst (v := nI 0) hx hb dX6_readLineOf_94 (by decide) ?_
  refine lv_iload_n hx hb dX6_readLineOf_95 rfl (lv_at hl 0 rfl) ?_
  refine xn_iadd hx hb dX6_readLineOf_96 ?_
  refine lv_aload_n hx hb dX6_readLineOf_97 rfl (lv_at hl 1 rfl) ?_
  refine lv_iconst (v := nI 0) hx hb dX6_readLineOf_98 (by decide) ?_
  refine lv_iconst (v := nI 5) hx hb dX6_readLineOf_99 (by decide) ?_
  refine xw_i (As := [.int (nI 0), .int (nI 5)]) (rest := [.int (nI (0 + k74)), .ref (ad 2)]) (wr := [iA G (ad 2) 85 D]) ⟨hx, hb, hml, hown, hts⟩ (c_X6_readNumber l G H.size ko ad w h la tp dw dh dl tl (tc ||| ((nI 1) <<< ((nI k74) &&& 31))) hc2_74 hd ps2_74 fr2_74 so2_74 vl2_74 ft2_74 wa2_74 tr tb 0 5 (by first | assumption | omega) (by first | assumption | omega) (by first | assumption | omega) (by first | assumption | omega) (by first | assumption | omega) (by first | assumption | omega) (by first | assumption | omega)) (cwV 2 hts gX6_readLineOf_X6_readNumber rfl rfl rfl (by decide +kernel) ⟨Nat.le_of_ble_eq_true rfl, Nat.le_of_ble_eq_true rfl⟩) hK hP hD hS hA [1, 2] [0] rfl rfl (by decide) (by decide) (by decide) rfl rfl rfl hl.1 rfl (Nat.le_of_ble_eq_true rfl) dX6_readLineOf_100 ⟨Nat.le_of_ble_eq_true rfl, Nat.le_of_ble_eq_true rfl⟩ (fun r100 u H locs hp100 hP hD hS => ?_)
  obtain ⟨ps2_100, fr2_100, so2_100, vl2_100, ft2_100, wa2_100⟩ := u
  try dsimp only at hp100 hP hD
  obtain ⟨rfl, he100⟩ := hp100
  replace hP : xP G [iA G (ad 2) 85 D, oC ko 6 [.ref (ad 0), .ref (ad 1), .int (nI w), .int (nI h), .int (nI la), .ref (ad 2), .int (nI dw), .int (nI dh), .int (nI dl), .int tl, .int (tc ||| ((nI 1) <<< ((nI k74) &&& 31))), .int hc2_74, .int hd, .ref (ad 3), .int (nI tp), .int (nI ps2_100), .int (nI fr2_100), .int (nI so2_100), .int vl2_100, .int (nI ft2_100), .int wa2_100, .ref (ad 4), .ref (ad 5), .ref (ad 6), .ref (ad 7), .ref (ad 8), .ref (ad 9), .ref (ad 10), .int tr], iA G (ad 3) 160 tb] H := hP
  replace hD : va_D (va_A (w_X6_readLineOf_2 G ko ad w h la tp dw dh dl tl tc hc hd ps fr so vl ft wa tr tb D) ss.heap.size) [iA G (ad 2) 85 D, oC ko 6 [.ref (ad 0), .ref (ad 1), .int (nI w), .int (nI h), .int (nI la), .ref (ad 2), .int (nI dw), .int (nI dh), .int (nI dl), .int tl, .int (tc ||| ((nI 1) <<< ((nI k74) &&& 31))), .int hc2_74, .int hd, .ref (ad 3), .int (nI tp), .int (nI ps2_100), .int (nI fr2_100), .int (nI so2_100), .int vl2_100, .int (nI ft2_100), .int wa2_100, .ref (ad 4), .ref (ad 5), .ref (ad 6), .ref (ad 7), .ref (ad 8), .ref (ad 9), .ref (ad 10), .int tr], iA G (ad 3) 160 tb] := hD
  refine xn_iast hx hb hK hP hD hS 0 rfl (by omega) (by omega) dX6_readLineOf_103 (fun H locs hP hD hS => ?_)
  replace hP : xP G [iA G (ad 2) 85 (upd D (0 + k74) ((mNum tb tp 0 5 (ps2_74, fr2_74, so2_74, vl2_74, ft2_74, wa2_74)).1)), oC ko 6 [.ref (ad 0), .ref (ad 1), .int (nI w), .int (nI h), .int (nI la), .ref (ad 2), .int (nI dw), .int (nI dh), .int (nI dl), .int tl, .int (tc ||| ((nI 1) <<< ((nI k74) &&& 31))), .int hc2_74, .int hd, .ref (ad 3), .int (nI tp), .int (nI ps2_100), .int (nI fr2_100), .int (nI so2_100), .int vl2_100, .int (nI ft2_100), .int wa2_100, .ref (ad 4), .ref (ad 5), .ref (ad 6), .ref (ad 7), .ref (ad 8), .ref (ad 9), .ref (ad 10), .int tr], iA G (ad 3) 160 tb] H := hP
  replace hD : va_D (va_A (w_X6_readLineOf_2 G ko ad w h la tp dw dh dl tl tc hc hd ps fr so vl ft wa tr tb D) ss.heap.size) [iA G (ad 2) 85 (upd D (0 + k74) ((mNum tb tp 0 5 (ps2_74, fr2_74, so2_74, vl2_74, ft2_74, wa2_74)).1)), oC ko 6 [.ref (ad 0), .ref (ad 1), .int (nI w), .int (nI h), .int (nI la), .ref (ad 2), .int (nI dw), .int (nI dh), .int (nI dl), .int tl, .int (tc ||| ((nI 1) <<< ((nI k74) &&& 31))), .int hc2_74, .int hd, .ref (ad 3), .int (nI tp), .int (nI ps2_100), .int (nI fr2_100), .int (nI so2_100), .int vl2_100, .int (nI ft2_100), .int wa2_100, .ref (ad 4), .ref (ad 5), .ref (ad 6), .ref (ad 7), .ref (ad 8), .ref (ad 9), .ref (ad 10), .int tr], iA G (ad 3) 160 tb] := hD
  refine lv_goto (tgt := 175) hx hb dX6_readLineOf_104 rfl ?_
  have hP := hP.sub (ws' := [oC ko 6 [.ref (ad 0), .ref (ad 1), .int (nI w), .int (nI h), .int (nI la), .ref (ad 2), .int (nI dw), .int (nI dh), .int (nI dl), .int tl, .int (tc ||| ((nI 1) <<< ((nI k74) &&& 31))), .int hc2_74, .int hd, .ref (ad 3), .int (nI tp), .int (nI ps2_100), .int (nI fr2_100), .int (nI so2_100), .int vl2_100, .int (nI ft2_100), .int wa2_100, .ref (ad 4), .ref (ad 5), .ref (ad 6), .ref (ad 7), .ref (ad 8), .ref (ad 9), .ref (ad 10), .int tr], iA G (ad 2) 85 (upd D (0 + k74) ((mNum tb tp 0 5 (ps2_74, fr2_74, so2_74, vl2_74, ft2_74, wa2_74)).1)), iA G (ad 3) 160 tb]) [1, 0, 2] rfl
  have hD := hD.sub (ws' := [oC ko 6 [.ref (ad 0), .ref (ad 1), .int (nI w), .int (nI h), .int (nI la), .ref (ad 2), .int (nI dw), .int (nI dh), .int (nI dl), .int tl, .int (tc ||| ((nI 1) <<< ((nI k74) &&& 31))), .int hc2_74, .int hd, .ref (ad 3), .int (nI tp), .int (nI ps2_100), .int (nI fr2_100), .int (nI so2_100), .int vl2_100, .int (nI ft2_100), .int wa2_100, .ref (ad 4), .ref (ad 5), .ref (ad 6), .ref (ad 7), .ref (ad 8), .ref (ad 9), .ref (ad 10), .int tr], iA G (ad 2) 85 (upd D (0 + k74) ((mNum tb tp 0 5 (ps2_74, fr2_74, so2_74, vl2_74, ft2_74, wa2_74)).1)), iA G (ad 3) 160 tb]) [1, 0, 2] (by decide) rfl
  refine W.vret hx hb hr (fun t ht hW => ⟨⟨(ps2_100, fr2_100, so2_100, vl2_100, ft2_100, wa2_100, (tc ||| ((nI 1) <<< ((nI k74) &&& 31))), hc2_74, upd D (0 + k74) ((mNum tb tp 0 5 (ps2_74, fr2_74, so2_74, vl2_74, ft2_74, wa2_74)).1)), rfl, ?_, by rw [ht]; exact hP, hD⟩, hS.F ht⟩) hS.2.2 dX6_readLineOf_175
  try dsimp only
  have e0 : (mCel tb tp tc hc (ps, fr, so, vl, ft, wa)).1 = nI k74 := hv74; have e1 : vI (mCel tb tp tc hc (ps, fr, so, vl, ft, wa)).1 = 0 + k74 := (congrArg vI hv74).trans ((vI_nI (by omega)).trans (Nat.zero_add _).symm); have e2 : (mCel tb tp tc hc (ps, fr, so, vl, ft, wa)).2 = (hc2_74, (ps2_74, fr2_74, so2_74, vl2_74, ft2_74, wa2_74)) := he74.symm; show _ = mL2 tb tp ((ps, fr, so, vl, ft, wa), (dw, dh, dl), (tl, tc, hc, hd), D); unfold mL2; dsimp only; rw [e1, e0, e2]; dsimp only; rw [← he100]

abbrev w_X6_readLineOf_3 (G : XG) (ko : Nat) (ad : Nat → Nat) (w h la tp : Nat) (dw dh dl : Nat) (tl tc hc hd : Int32) (ps fr so : Nat) (vl : Int32) (ft : Nat) (wa tr : Int32) (tb D : Nat → Int32) : va_W := [oC ko 6 [.ref (ad 0), .ref (ad 1), .int (nI w), .int (nI h), .int (nI la), .ref (ad 2), .int (nI dw), .int (nI dh), .int (nI dl), .int tl, .int tc, .int hc, .int hd, .ref (ad 3), .int (nI tp), .int (nI ps), .int (nI fr), .int (nI so), .int vl, .int (nI ft), .int wa, .ref (ad 4), .ref (ad 5), .ref (ad 6), .ref (ad 7), .ref (ad 8), .ref (ad 9), .ref (ad 10), .int tr], iA G (ad 2) 85 D, iA G (ad 3) 160 tb]
abbrev Q_X6_readLineOf_3 (G : XG) (sz : Nat) (ko : Nat) (ad : Nat → Nat) (w h la tp : Nat) (dw dh dl : Nat) (tl tc hc hd : Int32) (ps fr so : Nat) (vl : Int32) (ft : Nat) (wa tr : Int32) (tb D : Nat → Int32) : Array Value → State → Outcome → State → Prop := (va_Qv (fun (u : Nat × Nat × Nat × Int32 × Nat × Int32 × Int32 × Int32 × (Nat → Int32)) => ((u.1, u.2.1, u.2.2.1, u.2.2.2.1, u.2.2.2.2.1, u.2.2.2.2.2.1), (dw, dh, dl), (tl, tc, u.2.2.2.2.2.2.1, u.2.2.2.2.2.2.2.1), u.2.2.2.2.2.2.2.2) = mLof tb tp 3 ((ps, fr, so, vl, ft, wa), (dw, dh, dl), (tl, tc, hc, hd), D)) (xWb G sz (w_X6_readLineOf_3 G ko ad w h la tp dw dh dl tl tc hc hd ps fr so vl ft wa tr tb D) (fun u : Nat × Nat × Nat × Int32 × Nat × Int32 × Int32 × Int32 × (Nat → Int32) => [oC ko 6 [.ref (ad 0), .ref (ad 1), .int (nI w), .int (nI h), .int (nI la), .ref (ad 2), .int (nI dw), .int (nI dh), .int (nI dl), .int tl, .int tc, .int u.2.2.2.2.2.2.1, .int u.2.2.2.2.2.2.2.1, .ref (ad 3), .int (nI tp), .int (nI u.1), .int (nI u.2.1), .int (nI u.2.2.1), .int u.2.2.2.1, .int (nI u.2.2.2.2.1), .int u.2.2.2.2.2.1, .ref (ad 4), .ref (ad 5), .ref (ad 6), .ref (ad 7), .ref (ad 8), .ref (ad 9), .ref (ad 10), .int tr], iA G (ad 2) 85 u.2.2.2.2.2.2.2.2, iA G (ad 3) 160 tb])) (va_A (w_X6_readLineOf_3 G ko ad w h la tp dw dh dl tl tc hc hd ps fr so vl ft wa tr tb D) sz))
set_option maxHeartbeats 4000000 in
set_option maxRecDepth 100000 in
theorem c_X6_readLineOf_3 (l : Launch) (G : XG) (sz : Nat) (ko : Nat) (ad : Nat → Nat) (w h la tp : Nat) (dw dh dl : Nat) (tl tc hc hd : Int32) (ps fr so : Nat) (vl : Int32) (ft : Nat) (wa tr : Int32) (tb D : Nat → Int32) (htp : tp ≤ 160) (hps : ps ≤ tp) (htk : tpOk tb tp) (hft : ft ≤ 6) (hso : so ≤ 3) (hfr : fr ≤ ps) (hD16 : inR (D 16) 10) : Met l yX6_readLineOf wsX6_readLineOf ({ frames := 3, cells := 0, slots := 0, locals := 70 } : Room) (va_Pc [.ref ko, .int (nI 3)] (xWp G sz (w_X6_readLineOf_3 G ko ad w h la tp dw dh dl tl tc hc hd ps fr so vl ft wa tr tb D))) (Q_X6_readLineOf_3 G sz ko ad w h la tp dw dh dl tl tc hc hd ps fr so vl ft wa tr tb D) 0 0 (va_A (w_X6_readLineOf_3 G ko ad w h la tp dw dh dl tl tc hc hd ps fr so vl ft wa tr tb D) sz) := by
  refine Met.ofW (cc := cX6_readLineOf) (maxL := 3) (ret := none) (by decide) rfl ?_
  intro pp ee ss mm aa below mt cd s₁ BB hml hv
  obtain ⟨rfl, hsz, hP, hK, hD0⟩ := hv
  have hx := BB.exec
  have hb := BB.bytes
  have hr := BB.returns
  have hts := atoms_spec (ws := wsX6_readLineOf) BB.pre
  have hown : ss.vm.findClass RX6 = some mm.cls := findClass_of_methodNamed BB.named
  have hlocks := BB.notSynchronized
  subst hsz
  have hD := hD0.self (sz := ss.heap.size)
  have hA : ∀ q : Nat, ss.heap.size ≤ q → va_A (w_X6_readLineOf_3 G ko ad w h la tp dw dh dl tl tc hc hd ps fr so vl ft wa tr tb D) ss.heap.size q := fun q h => Or.inr h
  have hS : va_S (va_A (w_X6_readLineOf_3 G ko ad w h la tp dw dh dl tl tc hc hd ps fr so vl ft wa tr tb D) ss.heap.size) ss.heap ss.heap [] := va_S.rf
  replace hD : va_D (va_A (w_X6_readLineOf_3 G ko ad w h la tp dw dh dl tl tc hc hd ps fr so vl ft wa tr tb D) ss.heap.size) [oC ko 6 [.ref (ad 0), .ref (ad 1), .int (nI w), .int (nI h), .int (nI la), .ref (ad 2), .int (nI dw), .int (nI dh), .int (nI dl), .int tl, .int tc, .int hc, .int hd, .ref (ad 3), .int (nI tp), .int (nI ps), .int (nI fr), .int (nI so), .int vl, .int (nI ft), .int wa, .ref (ad 4), .ref (ad 5), .ref (ad 6), .ref (ad 7), .ref (ad 8), .ref (ad 9), .ref (ad 10), .int tr], iA G (ad 2) 85 D, iA G (ad 3) 160 tb] := hD
  replace hP : xP G [oC ko 6 [.ref (ad 0), .ref (ad 1), .int (nI w), .int (nI h), .int (nI la), .ref (ad 2), .int (nI dw), .int (nI dh), .int (nI dl), .int tl, .int tc, .int hc, .int hd, .ref (ad 3), .int (nI tp), .int (nI ps), .int (nI fr), .int (nI so), .int vl, .int (nI ft), .int wa, .ref (ad 4), .ref (ad 5), .ref (ad 6), .ref (ad 7), .ref (ad 8), .ref (ad 9), .ref (ad 10), .int tr], iA G (ad 2) 85 D, iA G (ad 3) 160 tb] ss.heap := hP
  have hin6 : ∀ w ∈ u_ws RX6 TX6 29, w ∈ wsX6_readLineOf := fun w h => List.mem_cons_of_mem _ (List.mem_append_right _ h)
  have hl := lv_entry ([.ref ko, .int (nI 3)]) (n := 3) (Nat.le_of_ble_eq_true rfl)
  rw [lg_entry_eq]
  generalize (lg_sl ([.ref ko, .int (nI 3)]) ++ List.replicate (3 - (lg_sl ([.ref ko, .int (nI 3)])).length) Slot.unset).toArray = ls at hl ⊢
  replace hl : lv_has ls 3 [(0, .ref ko), (1, .int (nI 3))] := hl
  refine lv_iload_n hx hb dX6_readLineOf_0 rfl (lv_at hl 1 rfl) ?_
  refine lv_tableIn (off := 106) (tgt := 107) hx hb dX6_readLineOf_1 (by decide) (by decide) rfl rfl ?_
  have ho0 : mOk tp (ps, fr, so, vl, ft, wa) := ⟨hps, hft, hso, hfr⟩
  obtain ⟨nc, hnc, h16⟩ := inR_nat hD16
  refine lv_bipush (v := nI 17) hx hb dX6_readLineOf_107 (by decide) ?_
  refine lv_iconst (v := nI 3) hx hb dX6_readLineOf_109 (by decide) ?_
  refine lv_aload_n hx hb dX6_readLineOf_110 rfl (lv_at hl 0 rfl) ?_
  refine va_get (D := G.1) (ci := 6) (v := .ref (ad 2)) (C := RX6) (T := TX6) (N := 29) hx hb hts hin6 hown hK.1 hP 0 rfl rfl 5 (by decide) (hts (.fieldLink RX6 17 "BackLensesModel" "draft" "[I") (List.mem_of_getElem? (i := 5) rfl)) (fun _ h9 => h9) rfl dX6_readLineOf_111 ?_
  refine lv_bipush (v := nI 16) hx hb dX6_readLineOf_114 (by decide) ?_
  refine xn_iald hx hb hK hP 1 rfl (by omega) (by omega) dX6_readLineOf_116 ?_
  refine xn_top (y := nI nc) (by exact h16) ?_
  refine xn_imul hx hb dX6_readLineOf_117 ?_
  refine xn_iadd hx hb dX6_readLineOf_118 ?_
  refine lv_istore_n (lv' := [(2, .int (nI (17 + (3 * nc)))), (0, .ref ko), (1, .int (nI 3))]) hx hb dX6_readLineOf_119 rfl hl (by decide) rfl (fun ls hl => ?_)
  refine lv_aload_n hx hb dX6_readLineOf_120 rfl (lv_at hl 1 rfl) ?_
  refine va_get (D := G.1) (ci := 6) (v := .ref (ad 2)) (C := RX6) (T := TX6) (N := 29) hx hb hts hin6 hown hK.1 hP 0 rfl rfl 5 (by decide) (hts (.fieldLink RX6 17 "BackLensesModel" "draft" "[I") (List.mem_of_getElem? (i := 5) rfl)) (fun _ h9 => h9) rfl dX6_readLineOf_121 ?_
  refine lv_iload_n hx hb dX6_readLineOf_124 rfl (lv_at hl 0 rfl) ?_
  refine lv_aload_n hx hb dX6_readLineOf_125 rfl (lv_at hl 1 rfl) ?_
  refine xw_i (As := []) (rest := [.int (nI (17 + (3 * nc))), .ref (ad 2)]) (wr := [iA G (ad 2) 85 D]) ⟨hx, hb, hml, hown, hts⟩ (c_X6_readDay l G ss.heap.size ko ad w h la tp dw dh dl tl tc hc hd ps fr so vl ft wa tr tb (by first | assumption | omega) (by first | assumption | omega) (by first | assumption | omega) (by first | assumption | omega) (by first | assumption | omega)) (cwV 0 hts gX6_readLineOf_X6_readDay rfl rfl rfl (by decide +kernel) ⟨Nat.le_of_ble_eq_true rfl, Nat.le_of_ble_eq_true rfl⟩) hK hP hD hS hA [0, 2] [1] rfl rfl (by decide) (by decide) (by decide) rfl rfl rfl hl.1 rfl (Nat.le_of_ble_eq_true rfl) dX6_readLineOf_126 ⟨Nat.le_of_ble_eq_true rfl, Nat.le_of_ble_eq_true rfl⟩ (fun r126 u H locs hp126 hP hD hS => ?_)
  obtain ⟨ps2_126, fr2_126, so2_126, vl2_126, ft2_126, wa2_126, hd2_126⟩ := u
  try dsimp only at hp126 hP hD
  obtain ⟨rfl, he126⟩ := hp126
  replace hP : xP G [iA G (ad 2) 85 D, oC ko 6 [.ref (ad 0), .ref (ad 1), .int (nI w), .int (nI h), .int (nI la), .ref (ad 2), .int (nI dw), .int (nI dh), .int (nI dl), .int tl, .int tc, .int hc, .int hd2_126, .ref (ad 3), .int (nI tp), .int (nI ps2_126), .int (nI fr2_126), .int (nI so2_126), .int vl2_126, .int (nI ft2_126), .int wa2_126, .ref (ad 4), .ref (ad 5), .ref (ad 6), .ref (ad 7), .ref (ad 8), .ref (ad 9), .ref (ad 10), .int tr], iA G (ad 3) 160 tb] H := hP
  replace hD : va_D (va_A (w_X6_readLineOf_3 G ko ad w h la tp dw dh dl tl tc hc hd ps fr so vl ft wa tr tb D) ss.heap.size) [iA G (ad 2) 85 D, oC ko 6 [.ref (ad 0), .ref (ad 1), .int (nI w), .int (nI h), .int (nI la), .ref (ad 2), .int (nI dw), .int (nI dh), .int (nI dl), .int tl, .int tc, .int hc, .int hd2_126, .ref (ad 3), .int (nI tp), .int (nI ps2_126), .int (nI fr2_126), .int (nI so2_126), .int vl2_126, .int (nI ft2_126), .int wa2_126, .ref (ad 4), .ref (ad 5), .ref (ad 6), .ref (ad 7), .ref (ad 8), .ref (ad 9), .ref (ad 10), .int tr], iA G (ad 3) 160 tb] := hD
  have ho126 : mOk tp (ps2_126, fr2_126, so2_126, vl2_126, ft2_126, wa2_126) := (by have q := (mDay_ok (t := tb) (hd := hd) ho0).1; rw [← he126] at q; exact q)
  have hps126 := ho126.1
  have hft126 := ho126.2.1
  have hso126 := ho126.2.2.1
  have hfr126 := ho126.2.2.2
  replace hps126 : ps2_126 ≤ tp := hps126
  replace hft126 : ft2_126 ≤ 6 := hft126
  replace hso126 : so2_126 ≤ 3 := hso126
  replace hfr126 : fr2_126 ≤ ps2_126 := hfr126
  refine xn_iast hx hb hK hP hD hS 0 rfl (by omega) (by omega) dX6_readLineOf_129 (fun H locs hP hD hS => ?_)
  replace hP : xP G [iA G (ad 2) 85 (upd D (17 + (3 * nc)) ((mDay tb tp hd (ps, fr, so, vl, ft, wa)).1)), oC ko 6 [.ref (ad 0), .ref (ad 1), .int (nI w), .int (nI h), .int (nI la), .ref (ad 2), .int (nI dw), .int (nI dh), .int (nI dl), .int tl, .int tc, .int hc, .int hd2_126, .ref (ad 3), .int (nI tp), .int (nI ps2_126), .int (nI fr2_126), .int (nI so2_126), .int vl2_126, .int (nI ft2_126), .int wa2_126, .ref (ad 4), .ref (ad 5), .ref (ad 6), .ref (ad 7), .ref (ad 8), .ref (ad 9), .ref (ad 10), .int tr], iA G (ad 3) 160 tb] H := hP
  replace hD : va_D (va_A (w_X6_readLineOf_3 G ko ad w h la tp dw dh dl tl tc hc hd ps fr so vl ft wa tr tb D) ss.heap.size) [iA G (ad 2) 85 (upd D (17 + (3 * nc)) ((mDay tb tp hd (ps, fr, so, vl, ft, wa)).1)), oC ko 6 [.ref (ad 0), .ref (ad 1), .int (nI w), .int (nI h), .int (nI la), .ref (ad 2), .int (nI dw), .int (nI dh), .int (nI dl), .int tl, .int tc, .int hc, .int hd2_126, .ref (ad 3), .int (nI tp), .int (nI ps2_126), .int (nI fr2_126), .int (nI so2_126), .int vl2_126, .int (nI ft2_126), .int wa2_126, .ref (ad 4), .ref (ad 5), .ref (ad 6), .ref (ad 7), .ref (ad 8), .ref (ad 9), .ref (ad 10), .int tr], iA G (ad 3) 160 tb] := hD
  refine lv_aload_n hx hb dX6_readLineOf_130 rfl (lv_at hl 1 rfl) ?_
  refine va_get (D := G.1) (ci := 6) (v := .ref (ad 2)) (C := RX6) (T := TX6) (N := 29) hx hb hts hin6 hown hK.1 hP 1 rfl rfl 5 (by decide) (hts (.fieldLink RX6 17 "BackLensesModel" "draft" "[I") (List.mem_of_getElem? (i := 5) rfl)) (fun _ h9 => h9) rfl dX6_readLineOf_131 ?_
  refine lv_iload_n hx hb dX6_readLineOf_134 rfl (lv_at hl 0 rfl) ?_
  refine lv_iconst (v := nI 1) hx hb dX6_readLineOf_135 (by decide) ?_
  refine xn_iadd hx hb dX6_readLineOf_136 ?_
  refine lv_aload_n hx hb dX6_readLineOf_137 rfl (lv_at hl 1 rfl) ?_
  refine lv_iconst (v := nI 0) hx hb dX6_readLineOf_138 (by decide) ?_
  refine xw_i (As := [.int (nI 0)]) (rest := [.int (nI ((17 + (3 * nc)) + 1)), .ref (ad 2)]) (wr := [iA G (ad 2) 85 (upd D (17 + (3 * nc)) ((mDay tb tp hd (ps, fr, so, vl, ft, wa)).1))]) ⟨hx, hb, hml, hown, hts⟩ (c_X6_readCellBut l G H.size ko ad w h la tp dw dh dl tl tc hc hd2_126 ps2_126 fr2_126 so2_126 vl2_126 ft2_126 wa2_126 tr tb (nI 0) (by first | assumption | omega) (by first | assumption | omega) (by first | assumption | omega) (by first | assumption | omega) (by first | assumption | omega)) (cwV 1 hts gX6_readLineOf_X6_readCellBut rfl rfl rfl (by decide +kernel) ⟨Nat.le_of_ble_eq_true rfl, Nat.le_of_ble_eq_true rfl⟩) hK hP hD hS hA [1, 2] [0] rfl rfl (by decide) (by decide) (by decide) rfl rfl rfl hl.1 rfl (Nat.le_of_ble_eq_true rfl) dX6_readLineOf_139 ⟨Nat.le_of_ble_eq_true rfl, Nat.le_of_ble_eq_true rfl⟩ (fun r139 u H locs hp139 hP hD hS => ?_)
  obtain ⟨ps2_139, fr2_139, so2_139, vl2_139, ft2_139, wa2_139, hc2_139⟩ := u
  try dsimp only at hp139 hP hD
  obtain ⟨rfl, he139⟩ := hp139
  replace hP : xP G [iA G (ad 2) 85 (upd D (17 + (3 * nc)) ((mDay tb tp hd (ps, fr, so, vl, ft, wa)).1)), oC ko 6 [.ref (ad 0), .ref (ad 1), .int (nI w), .int (nI h), .int (nI la), .ref (ad 2), .int (nI dw), .int (nI dh), .int (nI dl), .int tl, .int tc, .int hc2_139, .int hd2_126, .ref (ad 3), .int (nI tp), .int (nI ps2_139), .int (nI fr2_139), .int (nI so2_139), .int vl2_139, .int (nI ft2_139), .int wa2_139, .ref (ad 4), .ref (ad 5), .ref (ad 6), .ref (ad 7), .ref (ad 8), .ref (ad 9), .ref (ad 10), .int tr], iA G (ad 3) 160 tb] H := hP
  replace hD : va_D (va_A (w_X6_readLineOf_3 G ko ad w h la tp dw dh dl tl tc hc hd ps fr so vl ft wa tr tb D) ss.heap.size) [iA G (ad 2) 85 (upd D (17 + (3 * nc)) ((mDay tb tp hd (ps, fr, so, vl, ft, wa)).1)), oC ko 6 [.ref (ad 0), .ref (ad 1), .int (nI w), .int (nI h), .int (nI la), .ref (ad 2), .int (nI dw), .int (nI dh), .int (nI dl), .int tl, .int tc, .int hc2_139, .int hd2_126, .ref (ad 3), .int (nI tp), .int (nI ps2_139), .int (nI fr2_139), .int (nI so2_139), .int vl2_139, .int (nI ft2_139), .int wa2_139, .ref (ad 4), .ref (ad 5), .ref (ad 6), .ref (ad 7), .ref (ad 8), .ref (ad 9), .ref (ad 10), .int tr], iA G (ad 3) 160 tb] := hD
  have ho139 : mOk tp (ps2_139, fr2_139, so2_139, vl2_139, ft2_139, wa2_139) := (by have q := (mCel_ok (t := tb) (sm := nI 0) (hc := hc) ho126).1; rw [← he139] at q; exact q)
  have hps139 := ho139.1
  have hft139 := ho139.2.1
  have hso139 := ho139.2.2.1
  have hfr139 := ho139.2.2.2
  replace hps139 : ps2_139 ≤ tp := hps139
  replace hft139 : ft2_139 ≤ 6 := hft139
  replace hso139 : so2_139 ≤ 3 := hso139
  replace hfr139 : fr2_139 ≤ ps2_139 := hfr139
  refine xn_iast hx hb hK hP hD hS 0 rfl (by omega) (by omega) dX6_readLineOf_142 (fun H locs hP hD hS => ?_)
  replace hP : xP G [iA G (ad 2) 85 (upd (upd D (17 + (3 * nc)) ((mDay tb tp hd (ps, fr, so, vl, ft, wa)).1)) ((17 + (3 * nc)) + 1) ((mCel tb tp (nI 0) hc (ps2_126, fr2_126, so2_126, vl2_126, ft2_126, wa2_126)).1)), oC ko 6 [.ref (ad 0), .ref (ad 1), .int (nI w), .int (nI h), .int (nI la), .ref (ad 2), .int (nI dw), .int (nI dh), .int (nI dl), .int tl, .int tc, .int hc2_139, .int hd2_126, .ref (ad 3), .int (nI tp), .int (nI ps2_139), .int (nI fr2_139), .int (nI so2_139), .int vl2_139, .int (nI ft2_139), .int wa2_139, .ref (ad 4), .ref (ad 5), .ref (ad 6), .ref (ad 7), .ref (ad 8), .ref (ad 9), .ref (ad 10), .int tr], iA G (ad 3) 160 tb] H := hP
  replace hD : va_D (va_A (w_X6_readLineOf_3 G ko ad w h la tp dw dh dl tl tc hc hd ps fr so vl ft wa tr tb D) ss.heap.size) [iA G (ad 2) 85 (upd (upd D (17 + (3 * nc)) ((mDay tb tp hd (ps, fr, so, vl, ft, wa)).1)) ((17 + (3 * nc)) + 1) ((mCel tb tp (nI 0) hc (ps2_126, fr2_126, so2_126, vl2_126, ft2_126, wa2_126)).1)), oC ko 6 [.ref (ad 0), .ref (ad 1), .int (nI w), .int (nI h), .int (nI la), .ref (ad 2), .int (nI dw), .int (nI dh), .int (nI dl), .int tl, .int tc, .int hc2_139, .int hd2_126, .ref (ad 3), .int (nI tp), .int (nI ps2_139), .int (nI fr2_139), .int (nI so2_139), .int vl2_139, .int (nI ft2_139), .int wa2_139, .ref (ad 4), .ref (ad 5), .ref (ad 6), .ref (ad 7), .ref (ad 8), .ref (ad 9), .ref (ad 10), .int tr], iA G (ad 3) 160 tb] := hD
  refine lv_aload_n hx hb dX6_readLineOf_143 rfl (lv_at hl 1 rfl) ?_
  refine va_get (D := G.1) (ci := 6) (v := .ref (ad 2)) (C := RX6) (T := TX6) (N := 29) hx hb hts hin6 hown hK.1 hP 1 rfl rfl 5 (by decide) (hts (.fieldLink RX6 17 "BackLensesModel" "draft" "[I") (List.mem_of_getElem? (i := 5) rfl)) (fun _ h9 => h9) rfl dX6_readLineOf_144 ?_
  refine lv_iload_n hx hb dX6_readLineOf_147 rfl (lv_at hl 0 rfl) ?_
  refine lv_iconst (v := nI 2) hx hb dX6_readLineOf_148 (by decide) ?_
  refine xn_iadd hx hb dX6_readLineOf_149 ?_
  refine lv_aload_n hx hb dX6_readLineOf_150 rfl (lv_at hl 1 rfl) ?_
  refine lv_iconst (v := nI 0) hx hb dX6_readLineOf_151 (by decide) ?_
  refine lv_iconst (v := nI 5) hx hb dX6_readLineOf_152 (by decide) ?_
  refine xw_i (As := [.int (nI 0), .int (nI 5)]) (rest := [.int (nI ((17 + (3 * nc)) + 2)), .ref (ad 2)]) (wr := [iA G (ad 2) 85 (upd (upd D (17 + (3 * nc)) ((mDay tb tp hd (ps, fr, so, vl, ft, wa)).1)) ((17 + (3 * nc)) + 1) ((mCel tb tp (nI 0) hc (ps2_126, fr2_126, so2_126, vl2_126, ft2_126, wa2_126)).1))]) ⟨hx, hb, hml, hown, hts⟩ (c_X6_readNumber l G H.size ko ad w h la tp dw dh dl tl tc hc2_139 hd2_126 ps2_139 fr2_139 so2_139 vl2_139 ft2_139 wa2_139 tr tb 0 5 (by first | assumption | omega) (by first | assumption | omega) (by first | assumption | omega) (by first | assumption | omega) (by first | assumption | omega) (by first | assumption | omega) (by first | assumption | omega)) (cwV 2 hts gX6_readLineOf_X6_readNumber rfl rfl rfl (by decide +kernel) ⟨Nat.le_of_ble_eq_true rfl, Nat.le_of_ble_eq_true rfl⟩) hK hP hD hS hA [1, 2] [0] rfl rfl (by decide) (by decide) (by decide) rfl rfl rfl hl.1 rfl (Nat.le_of_ble_eq_true rfl) dX6_readLineOf_153 ⟨Nat.le_of_ble_eq_true rfl, Nat.le_of_ble_eq_true rfl⟩ (fun r153 u H locs hp153 hP hD hS => ?_)
  obtain ⟨ps2_153, fr2_153, so2_153, vl2_153, ft2_153, wa2_153⟩ := u
  try dsimp only at hp153 hP hD
  obtain ⟨rfl, he153⟩ := hp153
  replace hP : xP G [iA G (ad 2) 85 (upd (upd D (17 + (3 * nc)) ((mDay tb tp hd (ps, fr, so, vl, ft, wa)).1)) ((17 + (3 * nc)) + 1) ((mCel tb tp (nI 0) hc (ps2_126, fr2_126, so2_126, vl2_126, ft2_126, wa2_126)).1)), oC ko 6 [.ref (ad 0), .ref (ad 1), .int (nI w), .int (nI h), .int (nI la), .ref (ad 2), .int (nI dw), .int (nI dh), .int (nI dl), .int tl, .int tc, .int hc2_139, .int hd2_126, .ref (ad 3), .int (nI tp), .int (nI ps2_153), .int (nI fr2_153), .int (nI so2_153), .int vl2_153, .int (nI ft2_153), .int wa2_153, .ref (ad 4), .ref (ad 5), .ref (ad 6), .ref (ad 7), .ref (ad 8), .ref (ad 9), .ref (ad 10), .int tr], iA G (ad 3) 160 tb] H := hP
  replace hD : va_D (va_A (w_X6_readLineOf_3 G ko ad w h la tp dw dh dl tl tc hc hd ps fr so vl ft wa tr tb D) ss.heap.size) [iA G (ad 2) 85 (upd (upd D (17 + (3 * nc)) ((mDay tb tp hd (ps, fr, so, vl, ft, wa)).1)) ((17 + (3 * nc)) + 1) ((mCel tb tp (nI 0) hc (ps2_126, fr2_126, so2_126, vl2_126, ft2_126, wa2_126)).1)), oC ko 6 [.ref (ad 0), .ref (ad 1), .int (nI w), .int (nI h), .int (nI la), .ref (ad 2), .int (nI dw), .int (nI dh), .int (nI dl), .int tl, .int tc, .int hc2_139, .int hd2_126, .ref (ad 3), .int (nI tp), .int (nI ps2_153), .int (nI fr2_153), .int (nI so2_153), .int vl2_153, .int (nI ft2_153), .int wa2_153, .ref (ad 4), .ref (ad 5), .ref (ad 6), .ref (ad 7), .ref (ad 8), .ref (ad 9), .ref (ad 10), .int tr], iA G (ad 3) 160 tb] := hD
  have ho153 : mOk tp (ps2_153, fr2_153, so2_153, vl2_153, ft2_153, wa2_153) := (by have q := (mNum_ok (t := tb) (lo := 0) (hi := 5) ho139).1; rw [← he153] at q; exact q)
  have hps153 := ho153.1
  have hft153 := ho153.2.1
  have hso153 := ho153.2.2.1
  have hfr153 := ho153.2.2.2
  replace hps153 : ps2_153 ≤ tp := hps153
  replace hft153 : ft2_153 ≤ 6 := hft153
  replace hso153 : so2_153 ≤ 3 := hso153
  replace hfr153 : fr2_153 ≤ ps2_153 := hfr153
  refine xn_iast hx hb hK hP hD hS 0 rfl (by omega) (by omega) dX6_readLineOf_156 (fun H locs hP hD hS => ?_)
  replace hP : xP G [iA G (ad 2) 85 (upd (upd (upd D (17 + (3 * nc)) ((mDay tb tp hd (ps, fr, so, vl, ft, wa)).1)) ((17 + (3 * nc)) + 1) ((mCel tb tp (nI 0) hc (ps2_126, fr2_126, so2_126, vl2_126, ft2_126, wa2_126)).1)) ((17 + (3 * nc)) + 2) ((mNum tb tp 0 5 (ps2_139, fr2_139, so2_139, vl2_139, ft2_139, wa2_139)).1)), oC ko 6 [.ref (ad 0), .ref (ad 1), .int (nI w), .int (nI h), .int (nI la), .ref (ad 2), .int (nI dw), .int (nI dh), .int (nI dl), .int tl, .int tc, .int hc2_139, .int hd2_126, .ref (ad 3), .int (nI tp), .int (nI ps2_153), .int (nI fr2_153), .int (nI so2_153), .int vl2_153, .int (nI ft2_153), .int wa2_153, .ref (ad 4), .ref (ad 5), .ref (ad 6), .ref (ad 7), .ref (ad 8), .ref (ad 9), .ref (ad 10), .int tr], iA G (ad 3) 160 tb] H := hP
  replace hD : va_D (va_A (w_X6_readLineOf_3 G ko ad w h la tp dw dh dl tl tc hc hd ps fr so vl ft wa tr tb D) ss.heap.size) [iA G (ad 2) 85 (upd (upd (upd D (17 + (3 * nc)) ((mDay tb tp hd (ps, fr, so, vl, ft, wa)).1)) ((17 + (3 * nc)) + 1) ((mCel tb tp (nI 0) hc (ps2_126, fr2_126, so2_126, vl2_126, ft2_126, wa2_126)).1)) ((17 + (3 * nc)) + 2) ((mNum tb tp 0 5 (ps2_139, fr2_139, so2_139, vl2_139, ft2_139, wa2_139)).1)), oC ko 6 [.ref (ad 0), .ref (ad 1), .int (nI w), .int (nI h), .int (nI la), .ref (ad 2), .int (nI dw), .int (nI dh), .int (nI dl), .int tl, .int tc, .int hc2_139, .int hd2_126, .ref (ad 3), .int (nI tp), .int (nI ps2_153), .int (nI fr2_153), .int (nI so2_153), .int vl2_153, .int (nI ft2_153), .int wa2_153, .ref (ad 4), .ref (ad 5), .ref (ad 6), .ref (ad 7), .ref (ad 8), .ref (ad 9), .ref (ad 10), .int tr], iA G (ad 3) 160 tb] := hD
  refine lv_aload_n hx hb dX6_readLineOf_157 rfl (lv_at hl 1 rfl) ?_
  refine va_get (D := G.1) (ci := 6) (v := .ref (ad 2)) (C := RX6) (T := TX6) (N := 29) hx hb hts hin6 hown hK.1 hP 1 rfl rfl 5 (by decide) (hts (.fieldLink RX6 17 "BackLensesModel" "draft" "[I") (List.mem_of_getElem? (i := 5) rfl)) (fun _ h9 => h9) rfl dX6_readLineOf_158 ?_
  refine lv_bipush (v := nI 16) hx hb dX6_readLineOf_161 (by decide) ?_
  refine lv_dup2_11 hx hb dX6_readLineOf_163 rfl rfl ?_
  refine xn_iald hx hb hK hP 0 rfl (by omega) (by omega) dX6_readLineOf_164 ?_
  refine xn_top (y := nI nc) (by rw [upd_ne (by omega), upd_ne (by omega), upd_ne (by omega)]; exact h16) ?_
  refine lv_iconst (v := nI 1) hx hb dX6_readLineOf_165 (by decide) ?_
  refine xn_iadd hx hb dX6_readLineOf_166 ?_
  refine xn_iast hx hb hK hP hD hS 0 rfl (by omega) (by omega) dX6_readLineOf_167 (fun H locs hP hD hS => ?_)
  replace hP : xP G [iA G (ad 2) 85 (upd (upd (upd (upd D (17 + (3 * nc)) ((mDay tb tp hd (ps, fr, so, vl, ft, wa)).1)) ((17 + (3 * nc)) + 1) ((mCel tb tp (nI 0) hc (ps2_126, fr2_126, so2_126, vl2_126, ft2_126, wa2_126)).1)) ((17 + (3 * nc)) + 2) ((mNum tb tp 0 5 (ps2_139, fr2_139, so2_139, vl2_139, ft2_139, wa2_139)).1)) 16 (nI (nc + 1))), oC ko 6 [.ref (ad 0), .ref (ad 1), .int (nI w), .int (nI h), .int (nI la), .ref (ad 2), .int (nI dw), .int (nI dh), .int (nI dl), .int tl, .int tc, .int hc2_139, .int hd2_126, .ref (ad 3), .int (nI tp), .int (nI ps2_153), .int (nI fr2_153), .int (nI so2_153), .int vl2_153, .int (nI ft2_153), .int wa2_153, .ref (ad 4), .ref (ad 5), .ref (ad 6), .ref (ad 7), .ref (ad 8), .ref (ad 9), .ref (ad 10), .int tr], iA G (ad 3) 160 tb] H := hP
  replace hD : va_D (va_A (w_X6_readLineOf_3 G ko ad w h la tp dw dh dl tl tc hc hd ps fr so vl ft wa tr tb D) ss.heap.size) [iA G (ad 2) 85 (upd (upd (upd (upd D (17 + (3 * nc)) ((mDay tb tp hd (ps, fr, so, vl, ft, wa)).1)) ((17 + (3 * nc)) + 1) ((mCel tb tp (nI 0) hc (ps2_126, fr2_126, so2_126, vl2_126, ft2_126, wa2_126)).1)) ((17 + (3 * nc)) + 2) ((mNum tb tp 0 5 (ps2_139, fr2_139, so2_139, vl2_139, ft2_139, wa2_139)).1)) 16 (nI (nc + 1))), oC ko 6 [.ref (ad 0), .ref (ad 1), .int (nI w), .int (nI h), .int (nI la), .ref (ad 2), .int (nI dw), .int (nI dh), .int (nI dl), .int tl, .int tc, .int hc2_139, .int hd2_126, .ref (ad 3), .int (nI tp), .int (nI ps2_153), .int (nI fr2_153), .int (nI so2_153), .int vl2_153, .int (nI ft2_153), .int wa2_153, .ref (ad 4), .ref (ad 5), .ref (ad 6), .ref (ad 7), .ref (ad 8), .ref (ad 9), .ref (ad 10), .int tr], iA G (ad 3) 160 tb] := hD
  refine lv_goto (tgt := 175) hx hb dX6_readLineOf_168 rfl ?_
  have hP := hP.sub (ws' := [oC ko 6 [.ref (ad 0), .ref (ad 1), .int (nI w), .int (nI h), .int (nI la), .ref (ad 2), .int (nI dw), .int (nI dh), .int (nI dl), .int tl, .int tc, .int hc2_139, .int hd2_126, .ref (ad 3), .int (nI tp), .int (nI ps2_153), .int (nI fr2_153), .int (nI so2_153), .int vl2_153, .int (nI ft2_153), .int wa2_153, .ref (ad 4), .ref (ad 5), .ref (ad 6), .ref (ad 7), .ref (ad 8), .ref (ad 9), .ref (ad 10), .int tr], iA G (ad 2) 85 (upd (upd (upd (upd D (17 + (3 * nc)) ((mDay tb tp hd (ps, fr, so, vl, ft, wa)).1)) ((17 + (3 * nc)) + 1) ((mCel tb tp (nI 0) hc (ps2_126, fr2_126, so2_126, vl2_126, ft2_126, wa2_126)).1)) ((17 + (3 * nc)) + 2) ((mNum tb tp 0 5 (ps2_139, fr2_139, so2_139, vl2_139, ft2_139, wa2_139)).1)) 16 (nI (nc + 1))), iA G (ad 3) 160 tb]) [1, 0, 2] rfl
  have hD := hD.sub (ws' := [oC ko 6 [.ref (ad 0), .ref (ad 1), .int (nI w), .int (nI h), .int (nI la), .ref (ad 2), .int (nI dw), .int (nI dh), .int (nI dl), .int tl, .int tc, .int hc2_139, .int hd2_126, .ref (ad 3), .int (nI tp), .int (nI ps2_153), .int (nI fr2_153), .int (nI so2_153), .int vl2_153, .int (nI ft2_153), .int wa2_153, .ref (ad 4), .ref (ad 5), .ref (ad 6), .ref (ad 7), .ref (ad 8), .ref (ad 9), .ref (ad 10), .int tr], iA G (ad 2) 85 (upd (upd (upd (upd D (17 + (3 * nc)) ((mDay tb tp hd (ps, fr, so, vl, ft, wa)).1)) ((17 + (3 * nc)) + 1) ((mCel tb tp (nI 0) hc (ps2_126, fr2_126, so2_126, vl2_126, ft2_126, wa2_126)).1)) ((17 + (3 * nc)) + 2) ((mNum tb tp 0 5 (ps2_139, fr2_139, so2_139, vl2_139, ft2_139, wa2_139)).1)) 16 (nI (nc + 1))), iA G (ad 3) 160 tb]) [1, 0, 2] (by decide) rfl
  refine W.vret hx hb hr (fun t ht hW => ⟨⟨(ps2_153, fr2_153, so2_153, vl2_153, ft2_153, wa2_153, hc2_139, hd2_126, upd (upd (upd (upd D (17 + (3 * nc)) ((mDay tb tp hd (ps, fr, so, vl, ft, wa)).1)) ((17 + (3 * nc)) + 1) ((mCel tb tp (nI 0) hc (ps2_126, fr2_126, so2_126, vl2_126, ft2_126, wa2_126)).1)) ((17 + (3 * nc)) + 2) ((mNum tb tp 0 5 (ps2_139, fr2_139, so2_139, vl2_139, ft2_139, wa2_139)).1)) 16 (nI (nc + 1))), rfl, ?_, by rw [ht]; exact hP, hD⟩, hS.F ht⟩) hS.2.2 dX6_readLineOf_175
  try dsimp only
  have e1 : vI (D 16) = nc := (congrArg vI h16).trans (vI_nI (by omega)); have e2 : (mDay tb tp hd (ps, fr, so, vl, ft, wa)).2 = (hd2_126, (ps2_126, fr2_126, so2_126, vl2_126, ft2_126, wa2_126)) := he126.symm; have e3 : (mCel tb tp (nI 0) hc (ps2_126, fr2_126, so2_126, vl2_126, ft2_126, wa2_126)).2 = (hc2_139, (ps2_139, fr2_139, so2_139, vl2_139, ft2_139, wa2_139)) := he139.symm; show _ = mL3 tb tp ((ps, fr, so, vl, ft, wa), (dw, dh, dl), (tl, tc, hc, hd), D); unfold mL3 mvA mcA mdA; dsimp only; rw [e1, e2]; dsimp only; rw [e3]; dsimp only; rw [← he153]

abbrev w_X6_readLineOf_4 (G : XG) (ko : Nat) (ad : Nat → Nat) (w h la tp : Nat) (dw dh dl : Nat) (tl tc hc hd : Int32) (ps fr so : Nat) (vl : Int32) (ft : Nat) (wa tr : Int32) (tb D : Nat → Int32) : va_W := [oC ko 6 [.ref (ad 0), .ref (ad 1), .int (nI w), .int (nI h), .int (nI la), .ref (ad 2), .int (nI dw), .int (nI dh), .int (nI dl), .int tl, .int tc, .int hc, .int hd, .ref (ad 3), .int (nI tp), .int (nI ps), .int (nI fr), .int (nI so), .int vl, .int (nI ft), .int wa, .ref (ad 4), .ref (ad 5), .ref (ad 6), .ref (ad 7), .ref (ad 8), .ref (ad 9), .ref (ad 10), .int tr], iA G (ad 2) 85 D, iA G (ad 3) 160 tb]
abbrev Q_X6_readLineOf_4 (G : XG) (sz : Nat) (ko : Nat) (ad : Nat → Nat) (w h la tp : Nat) (dw dh dl : Nat) (tl tc hc hd : Int32) (ps fr so : Nat) (vl : Int32) (ft : Nat) (wa tr : Int32) (tb D : Nat → Int32) : Array Value → State → Outcome → State → Prop := (va_Qv (fun (u : Nat × Nat × Nat × Int32 × Nat × Int32 × Int32 × Int32 × (Nat → Int32)) => ((u.1, u.2.1, u.2.2.1, u.2.2.2.1, u.2.2.2.2.1, u.2.2.2.2.2.1), (dw, dh, dl), (tl, tc, u.2.2.2.2.2.2.1, u.2.2.2.2.2.2.2.1), u.2.2.2.2.2.2.2.2) = mLof tb tp 4 ((ps, fr, so, vl, ft, wa), (dw, dh, dl), (tl, tc, hc, hd), D)) (xWb G sz (w_X6_readLineOf_4 G ko ad w h la tp dw dh dl tl tc hc hd ps fr so vl ft wa tr tb D) (fun u : Nat × Nat × Nat × Int32 × Nat × Int32 × Int32 × Int32 × (Nat → Int32) => [oC ko 6 [.ref (ad 0), .ref (ad 1), .int (nI w), .int (nI h), .int (nI la), .ref (ad 2), .int (nI dw), .int (nI dh), .int (nI dl), .int tl, .int tc, .int u.2.2.2.2.2.2.1, .int u.2.2.2.2.2.2.2.1, .ref (ad 3), .int (nI tp), .int (nI u.1), .int (nI u.2.1), .int (nI u.2.2.1), .int u.2.2.2.1, .int (nI u.2.2.2.2.1), .int u.2.2.2.2.2.1, .ref (ad 4), .ref (ad 5), .ref (ad 6), .ref (ad 7), .ref (ad 8), .ref (ad 9), .ref (ad 10), .int tr], iA G (ad 2) 85 u.2.2.2.2.2.2.2.2, iA G (ad 3) 160 tb])) (va_A (w_X6_readLineOf_4 G ko ad w h la tp dw dh dl tl tc hc hd ps fr so vl ft wa tr tb D) sz))
set_option maxHeartbeats 4000000 in
set_option maxRecDepth 100000 in
theorem c_X6_readLineOf_4 (l : Launch) (G : XG) (sz : Nat) (ko : Nat) (ad : Nat → Nat) (w h la tp : Nat) (dw dh dl : Nat) (tl tc hc hd : Int32) (ps fr so : Nat) (vl : Int32) (ft : Nat) (wa tr : Int32) (tb D : Nat → Int32) (htp : tp ≤ 160) (hps : ps ≤ tp) (htk : tpOk tb tp) (hft : ft ≤ 6) (hso : so ≤ 3) (hfr : fr ≤ ps) (hD47 : inR (D 47) 6) : Met l yX6_readLineOf wsX6_readLineOf ({ frames := 4, cells := 0, slots := 0, locals := 91 } : Room) (va_Pc [.ref ko, .int (nI 4)] (xWp G sz (w_X6_readLineOf_4 G ko ad w h la tp dw dh dl tl tc hc hd ps fr so vl ft wa tr tb D))) (Q_X6_readLineOf_4 G sz ko ad w h la tp dw dh dl tl tc hc hd ps fr so vl ft wa tr tb D) 0 0 (va_A (w_X6_readLineOf_4 G ko ad w h la tp dw dh dl tl tc hc hd ps fr so vl ft wa tr tb D) sz) := by
  refine Met.ofW (cc := cX6_readLineOf) (maxL := 3) (ret := none) (by decide) rfl ?_
  intro pp ee ss mm aa below mt cd s₁ BB hml hv
  obtain ⟨rfl, hsz, hP, hK, hD0⟩ := hv
  have hx := BB.exec
  have hb := BB.bytes
  have hr := BB.returns
  have hts := atoms_spec (ws := wsX6_readLineOf) BB.pre
  have hown : ss.vm.findClass RX6 = some mm.cls := findClass_of_methodNamed BB.named
  have hlocks := BB.notSynchronized
  subst hsz
  have hD := hD0.self (sz := ss.heap.size)
  have hA : ∀ q : Nat, ss.heap.size ≤ q → va_A (w_X6_readLineOf_4 G ko ad w h la tp dw dh dl tl tc hc hd ps fr so vl ft wa tr tb D) ss.heap.size q := fun q h => Or.inr h
  have hS : va_S (va_A (w_X6_readLineOf_4 G ko ad w h la tp dw dh dl tl tc hc hd ps fr so vl ft wa tr tb D) ss.heap.size) ss.heap ss.heap [] := va_S.rf
  replace hD : va_D (va_A (w_X6_readLineOf_4 G ko ad w h la tp dw dh dl tl tc hc hd ps fr so vl ft wa tr tb D) ss.heap.size) [oC ko 6 [.ref (ad 0), .ref (ad 1), .int (nI w), .int (nI h), .int (nI la), .ref (ad 2), .int (nI dw), .int (nI dh), .int (nI dl), .int tl, .int tc, .int hc, .int hd, .ref (ad 3), .int (nI tp), .int (nI ps), .int (nI fr), .int (nI so), .int vl, .int (nI ft), .int wa, .ref (ad 4), .ref (ad 5), .ref (ad 6), .ref (ad 7), .ref (ad 8), .ref (ad 9), .ref (ad 10), .int tr], iA G (ad 2) 85 D, iA G (ad 3) 160 tb] := hD
  replace hP : xP G [oC ko 6 [.ref (ad 0), .ref (ad 1), .int (nI w), .int (nI h), .int (nI la), .ref (ad 2), .int (nI dw), .int (nI dh), .int (nI dl), .int tl, .int tc, .int hc, .int hd, .ref (ad 3), .int (nI tp), .int (nI ps), .int (nI fr), .int (nI so), .int vl, .int (nI ft), .int wa, .ref (ad 4), .ref (ad 5), .ref (ad 6), .ref (ad 7), .ref (ad 8), .ref (ad 9), .ref (ad 10), .int tr], iA G (ad 2) 85 D, iA G (ad 3) 160 tb] ss.heap := hP
  have hin6 : ∀ w ∈ u_ws RX6 TX6 29, w ∈ wsX6_readLineOf := fun w h => List.mem_cons_of_mem _ (List.mem_append_right _ h)
  have hl := lv_entry ([.ref ko, .int (nI 4)]) (n := 3) (Nat.le_of_ble_eq_true rfl)
  rw [lg_entry_eq]
  generalize (lg_sl ([.ref ko, .int (nI 4)]) ++ List.replicate (3 - (lg_sl ([.ref ko, .int (nI 4)])).length) Slot.unset).toArray = ls at hl ⊢
  replace hl : lv_has ls 3 [(0, .ref ko), (1, .int (nI 4))] := hl
  refine lv_iload_n hx hb dX6_readLineOf_0 rfl (lv_at hl 1 rfl) ?_
  refine lv_tableOut (tgt := 171) hx hb dX6_readLineOf_1 (Or.inr (by decide)) rfl ?_
  refine lv_aload_n hx hb dX6_readLineOf_171 rfl (lv_at hl 0 rfl) ?_
  refine xw_v (As := []) (rest := []) (wr := []) ⟨hx, hb, hml, hown, hts⟩ (c_X6_readLens l G ss.heap.size ko ad w h la tp dw dh dl tl tc hc hd ps fr so vl ft wa tr tb D (by first | assumption | omega) (by first | assumption | omega) (by first | assumption | omega) (by first | assumption | omega) (by first | assumption | omega) (by first | assumption | omega) (by first | assumption | omega)) (cwV 0 hts gX6_readLineOf_X6_readLens rfl rfl rfl (by decide +kernel) ⟨Nat.le_of_ble_eq_true rfl, Nat.le_of_ble_eq_true rfl⟩) hK hP hD hS hA [0, 1, 2] [] rfl rfl (by decide) (by decide) (by decide) rfl rfl rfl hl.1 rfl (Nat.le_of_ble_eq_true rfl) dX6_readLineOf_172 ⟨Nat.le_of_ble_eq_true rfl, Nat.le_of_ble_eq_true rfl⟩ (fun u H locs hp172 hP hD hS => ?_)
  obtain ⟨ps2_172, fr2_172, so2_172, vl2_172, ft2_172, wa2_172, hc2_172, hd2_172, D2_172⟩ := u
  try dsimp only at hp172 hP hD
  have he172 := hp172
  replace hP : xP G [oC ko 6 [.ref (ad 0), .ref (ad 1), .int (nI w), .int (nI h), .int (nI la), .ref (ad 2), .int (nI dw), .int (nI dh), .int (nI dl), .int tl, .int tc, .int hc2_172, .int hd2_172, .ref (ad 3), .int (nI tp), .int (nI ps2_172), .int (nI fr2_172), .int (nI so2_172), .int vl2_172, .int (nI ft2_172), .int wa2_172, .ref (ad 4), .ref (ad 5), .ref (ad 6), .ref (ad 7), .ref (ad 8), .ref (ad 9), .ref (ad 10), .int tr], iA G (ad 2) 85 D2_172, iA G (ad 3) 160 tb] H := hP
  replace hD : va_D (va_A (w_X6_readLineOf_4 G ko ad w h la tp dw dh dl tl tc hc hd ps fr so vl ft wa tr tb D) ss.heap.size) [oC ko 6 [.ref (ad 0), .ref (ad 1), .int (nI w), .int (nI h), .int (nI la), .ref (ad 2), .int (nI dw), .int (nI dh), .int (nI dl), .int tl, .int tc, .int hc2_172, .int hd2_172, .ref (ad 3), .int (nI tp), .int (nI ps2_172), .int (nI fr2_172), .int (nI so2_172), .int vl2_172, .int (nI ft2_172), .int wa2_172, .ref (ad 4), .ref (ad 5), .ref (ad 6), .ref (ad 7), .ref (ad 8), .ref (ad 9), .ref (ad 10), .int tr], iA G (ad 2) 85 D2_172, iA G (ad 3) 160 tb] := hD
  have hP := hP.sub (ws' := [oC ko 6 [.ref (ad 0), .ref (ad 1), .int (nI w), .int (nI h), .int (nI la), .ref (ad 2), .int (nI dw), .int (nI dh), .int (nI dl), .int tl, .int tc, .int hc2_172, .int hd2_172, .ref (ad 3), .int (nI tp), .int (nI ps2_172), .int (nI fr2_172), .int (nI so2_172), .int vl2_172, .int (nI ft2_172), .int wa2_172, .ref (ad 4), .ref (ad 5), .ref (ad 6), .ref (ad 7), .ref (ad 8), .ref (ad 9), .ref (ad 10), .int tr], iA G (ad 2) 85 D2_172, iA G (ad 3) 160 tb]) [0, 1, 2] rfl
  have hD := hD.sub (ws' := [oC ko 6 [.ref (ad 0), .ref (ad 1), .int (nI w), .int (nI h), .int (nI la), .ref (ad 2), .int (nI dw), .int (nI dh), .int (nI dl), .int tl, .int tc, .int hc2_172, .int hd2_172, .ref (ad 3), .int (nI tp), .int (nI ps2_172), .int (nI fr2_172), .int (nI so2_172), .int vl2_172, .int (nI ft2_172), .int wa2_172, .ref (ad 4), .ref (ad 5), .ref (ad 6), .ref (ad 7), .ref (ad 8), .ref (ad 9), .ref (ad 10), .int tr], iA G (ad 2) 85 D2_172, iA G (ad 3) 160 tb]) [0, 1, 2] (by decide) rfl
  refine W.vret hx hb hr (fun t ht hW => ⟨⟨(ps2_172, fr2_172, so2_172, vl2_172, ft2_172, wa2_172, hc2_172, hd2_172, D2_172), rfl, ?_, by rw [ht]; exact hP, hD⟩, hS.F ht⟩) hS.2.2 dX6_readLineOf_175
  try dsimp only
  show _ = mL4 tb tp ((ps, fr, so, vl, ft, wa), (dw, dh, dl), (tl, tc, hc, hd), D); unfold mL4; dsimp only; rw [← he172]

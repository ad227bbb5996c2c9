abbrev w_X6_readCellBut (G : XG) (ko : Nat) (ad : Nat → Nat) (w h la tp : Nat) (dw dh dl : Nat) (tl tc hc hd : Int32) (ps fr so : Nat) (vl : Int32) (ft : Nat) (wa tr : Int32) (tb : Nat → Int32) : va_W := [oC ko 6 [.ref (ad 0), .ref (ad 1), .int (nI w), .int (nI h), .int (nI la), .ref (ad 2), .int (nI dw), .int (nI dh), .int (nI dl), .int tl, .int tc, .int hc, .int hd, .ref (ad 3), .int (nI tp), .int (nI ps), .int (nI fr), .int (nI so), .int vl, .int (nI ft), .int wa, .ref (ad 4), .ref (ad 5), .ref (ad 6), .ref (ad 7), .ref (ad 8), .ref (ad 9), .ref (ad 10), .int tr], iA G (ad 3) 160 tb]
abbrev Q_X6_readCellBut (G : XG) (sz : Nat) (ko : Nat) (ad : Nat → Nat) (w h la tp : Nat) (dw dh dl : Nat) (tl tc hc hd : Int32) (ps fr so : Nat) (vl : Int32) (ft : Nat) (wa tr : Int32) (tb : Nat → Int32) (sm : Int32) : Array Value → State → Outcome → State → Prop := (va_Qi (fun (r : Int32) (u : Nat × Nat × Nat × Int32 × Nat × Int32 × Int32) => r = (mCel tb tp sm hc (ps, fr, so, vl, ft, wa)).1 ∧ (u.2.2.2.2.2.2, (u.1, u.2.1, u.2.2.1, u.2.2.2.1, u.2.2.2.2.1, u.2.2.2.2.2.1)) = (mCel tb tp sm hc (ps, fr, so, vl, ft, wa)).2) (xWb G sz (w_X6_readCellBut G ko ad w h la tp dw dh dl tl tc hc hd ps fr so vl ft wa tr tb) (fun u : Nat × Nat × Nat × Int32 × Nat × Int32 × Int32 => [oC ko 6 [.ref (ad 0), .ref (ad 1), .int (nI w), .int (nI h), .int (nI la), .ref (ad 2), .int (nI dw), .int (nI dh), .int (nI dl), .int tl, .int tc, .int u.2.2.2.2.2.2, .int hd, .ref (ad 3), .int (nI tp), .int (nI u.1), .int (nI u.2.1), .int (nI u.2.2.1), .int u.2.2.2.1, .int (nI u.2.2.2.2.1), .int u.2.2.2.2.2.1, .ref (ad 4), .ref (ad 5), .ref (ad 6), .ref (ad 7), .ref (ad 8), .ref (ad 9), .ref (ad 10), .int tr], iA G (ad 3) 160 tb])) (va_A (w_X6_readCellBut G ko ad w h la tp dw dh dl tl tc hc hd ps fr so vl ft wa tr tb) sz))
set_option maxHeartbeats 4000000 in
set_option maxRecDepth 100000 in
theorem c_X6_readCellBut (l : Launch) (G : XG) (sz : Nat) (ko : Nat) (ad : Nat → Nat) (w h la tp : Nat) (dw dh dl : Nat) (tl tc hc hd : Int32) (ps fr so : Nat) (vl : Int32) (ft : Nat) (wa tr : Int32) (tb : Nat → Int32) (sm : Int32) (htp : tp ≤ 160) (hps : ps ≤ tp) (htk : tpOk tb tp) (hft : ft ≤ 6) (hso : so ≤ 3) : Met l yX6_readCellBut wsX6_readCellBut ({ frames := 2, cells := 0, slots := 0, locals := 47 } : Room) (va_Pc [.ref ko, .int sm] (xWp G sz (w_X6_readCellBut G ko ad w h la tp dw dh dl tl tc hc hd ps fr so vl ft wa tr tb))) (Q_X6_readCellBut G sz ko ad w h la tp dw dh dl tl tc hc hd ps fr so vl ft wa tr tb sm) 0 0 (va_A (w_X6_readCellBut G ko ad w h la tp dw dh dl tl tc hc hd ps fr so vl ft wa tr tb) sz) := by
  refine Met.ofW (cc := cX6_readCellBut) (maxL := 3) (ret := (some .int)) (by decide) rfl ?_
  intro pp ee ss mm aa below mt cd s₁ BB hml hv
  obtain ⟨rfl, hsz, hP, hK, hD0⟩ := hv
  have hx := BB.exec
  have hb := BB.bytes
  have hr := BB.returns
  have hts := atoms_spec (ws := wsX6_readCellBut) BB.pre
  have hown : ss.vm.findClass RX6 = some mm.cls := findClass_of_methodNamed BB.named
  have hlocks := BB.notSynchronized
  subst hsz
  have hD := hD0.self (sz := ss.heap.size)
  have hA : ∀ q : Nat, ss.heap.size ≤ q → va_A (w_X6_readCellBut G ko ad w h la tp dw dh dl tl tc hc hd ps fr so vl ft wa tr tb) ss.heap.size q := fun q h => Or.inr h
  have hS : va_S (va_A (w_X6_readCellBut G ko ad w h la tp dw dh dl tl tc hc hd ps fr so vl ft wa tr tb) ss.heap.size) ss.heap ss.heap [] := va_S.rf
  replace hD : va_D (va_A (w_X6_readCellBut G ko ad w h la tp dw dh dl tl tc hc hd ps fr so vl ft wa tr tb) ss.heap.size) [oC ko 6 [.ref (ad 0), .ref (ad 1), .int (nI w), .int (nI h), .int (nI la), .ref (ad 2), .int (nI dw), .int (nI dh), .int (nI dl), .int tl, .int tc, .int hc, .int hd, .ref (ad 3), .int (nI tp), .int (nI ps), .int (nI fr), .int (nI so), .int vl, .int (nI ft), .int wa, .ref (ad 4), .ref (ad 5), .ref (ad 6), .ref (ad 7), .ref (ad 8), .ref (ad 9), .ref (ad 10), .int tr], iA G (ad 3) 160 tb] := hD
  replace hP : xP G [oC ko 6 [.ref (ad 0), .ref (ad 1), .int (nI w), .int (nI h), .int (nI la), .ref (ad 2), .int (nI dw), .int (nI dh), .int (nI dl), .int tl, .int tc, .int hc, .int hd, .ref (ad 3), .int (nI tp), .int (nI ps), .int (nI fr), .int (nI so), .int vl, .int (nI ft), .int wa, .ref (ad 4), .ref (ad 5), .ref (ad 6), .ref (ad 7), .ref (ad 8), .ref (ad 9), .ref (ad 10), .int tr], iA G (ad 3) 160 tb] ss.heap := hP
  have hin6 : ∀ w ∈ u_ws RX6 TX6 29, w ∈ wsX6_readCellBut := fun w h => List.mem_cons_of_mem _ (List.mem_append_right _ h)
  have hl := lv_entry ([.ref ko, .int sm]) (n := 3) (Nat.le_of_ble_eq_true rfl)
  rw [lg_entry_eq]
  generalize (lg_sl ([.ref ko, .int sm]) ++ List.replicate (3 - (lg_sl ([.ref ko, .int sm])).length) Slot.unset).toArray = ls at hl ⊢
  replace hl : lv_has ls 3 [(0, .ref ko), (1, .int sm)] := hl
  refine lv_aload_n hx hb dX6_readCellBut_0 rfl (lv_at hl 0 rfl) ?_
  refine lv_iconst (v := nI 0) hx hb dX6_readCellBut_1 (by decide) ?_
  refine lv_bipush (v := nI 15) hx hb dX6_readCellBut_2 (by decide) ?_
  refine xw_i (As := [.int (nI 0), .int (nI 15)]) (rest := []) (wr := [iA G (ad 3) 160 tb]) ⟨hx, hb, hml, hown, hts⟩ (c_X6_looked l G ss.heap.size ko ad w h la tp dw dh dl tl tc hc hd ps fr so vl ft wa tr 0 15 (by first | assumption | omega) (by first | assumption | omega) (by first | assumption | omega) (by first | assumption | omega)) (cwV 2 hts gX6_readCellBut_X6_looked rfl rfl rfl (by decide +kernel) ⟨Nat.le_of_ble_eq_true rfl, Nat.le_of_ble_eq_true rfl⟩) hK hP hD hS hA [0] [1] rfl rfl (by decide) (by decide) (by decide) rfl rfl rfl hl.1 rfl (Nat.le_of_ble_eq_true rfl) dX6_readCellBut_4 ⟨Nat.le_of_ble_eq_true rfl, Nat.le_of_ble_eq_true rfl⟩ (fun r4 u H locs hp4 hP hD hS => ?_)
  obtain ⟨ft2_4, wa2_4⟩ := u
  try dsimp only at hp4 hP hD
  obtain ⟨rfl, he4⟩ := hp4
  replace hP : xP G [iA G (ad 3) 160 tb, oC ko 6 [.ref (ad 0), .ref (ad 1), .int (nI w), .int (nI h), .int (nI la), .ref (ad 2), .int (nI dw), .int (nI dh), .int (nI dl), .int tl, .int tc, .int hc, .int hd, .ref (ad 3), .int (nI tp), .int (nI ps), .int (nI fr), .int (nI so), .int vl, .int (nI ft2_4), .int wa2_4, .ref (ad 4), .ref (ad 5), .ref (ad 6), .ref (ad 7), .ref (ad 8), .ref (ad 9), .ref (ad 10), .int tr]] H := hP
  replace hD : va_D (va_A (w_X6_readCellBut G ko ad w h la tp dw dh dl tl tc hc hd ps fr so vl ft wa tr tb) ss.heap.size) [iA G (ad 3) 160 tb, oC ko 6 [.ref (ad 0), .ref (ad 1), .int (nI w), .int (nI h), .int (nI la), .ref (ad 2), .int (nI dw), .int (nI dh), .int (nI dl), .int tl, .int tc, .int hc, .int hd, .ref (ad 3), .int (nI tp), .int (nI ps), .int (nI fr), .int (nI so), .int vl, .int (nI ft2_4), .int wa2_4, .ref (ad 4), .ref (ad 5), .ref (ad 6), .ref (ad 7), .ref (ad 8), .ref (ad 9), .ref (ad 10), .int tr]] := hD
  have hf4 : ft2_4 ≤ 6 := (by have q := (mLoo_bd (lo := 0) (hi := 15) (s := (ps, fr, so, vl, ft, wa))).2 hft; rw [← he4] at q; exact q)
  refine lv_istore_n (lv' := [(2, .int ((mLoo 0 15 (ps, fr, so, vl, ft, wa)).1)), (0, .ref ko), (1, .int sm)]) hx hb dX6_readCellBut_7 rfl hl (by decide) rfl (fun ls hl => ?_)
  refine lv_aload_n hx hb dX6_readCellBut_8 rfl (lv_at hl 1 rfl) ?_
  refine va_get (D := G.1) (ci := 6) (v := .int (nI ft2_4)) (C := RX6) (T := TX6) (N := 29) hx hb hts hin6 hown hK.1 hP 1 rfl rfl 19 (by decide) (hts (.fieldLink RX6 90 "BackLensesModel" "fault" "I") (List.mem_of_getElem? (i := 1) rfl)) (fun _ h9 => h9) rfl dX6_readCellBut_9 ?_
  refine xn_if_ne (tgt := 33) hx hb (by omega) dX6_readCellBut_12 rfl (fun b12 => ?_) (fun b12 => ?_)
  · skip
    have hz : (mLoo 0 15 (ps, fr, so, vl, ft, wa)).2.2.2.2.2.1 = ft2_4 := (by rw [← he4])
    have hB : mBut sm (mLoo 0 15 (ps, fr, so, vl, ft, wa)) = (ps, fr, so, vl, ft2_4, wa2_4) := (by first | exact (if_neg (fun q => b12 (hz ▸ q))).trans he4.symm | exact (if_pos (hz.trans b12)).trans ((if_pos b21).trans he4.symm) | exact (if_pos (hz.trans b12)).trans ((if_neg b21).trans (congrArg (mF 4) he4.symm)))
    have hzB : (mBut sm (mLoo 0 15 (ps, fr, so, vl, ft, wa))).2.2.2.2.1 = ft2_4 := congrArg (fun a : MS => a.2.2.2.2.1) hB
    refine lv_aload_n hx hb dX6_readCellBut_33 rfl (lv_at hl 1 rfl) ?_
    refine lv_aload_n hx hb dX6_readCellBut_34 rfl (lv_at hl 1 rfl) ?_
    refine va_get (D := G.1) (ci := 6) (v := .int (nI ft2_4)) (C := RX6) (T := TX6) (N := 29) hx hb hts hin6 hown hK.1 hP 1 rfl rfl 19 (by decide) (hts (.fieldLink RX6 90 "BackLensesModel" "fault" "I") (List.mem_of_getElem? (i := 1) rfl)) (fun _ h9 => h9) rfl dX6_readCellBut_35 ?_
    refine xn_if_ne (tgt := 53) hx hb (by omega) dX6_readCellBut_38 rfl (fun b38 => ?_) (fun b38 => ?_)
    · skip
      refine lv_aload_n hx hb dX6_readCellBut_53 rfl (lv_at hl 1 rfl) ?_
      refine va_get (D := G.1) (ci := 6) (v := .int hc) (C := RX6) (T := TX6) (N := 29) hx hb hts hin6 hown hK.1 hP 1 rfl rfl 11 (by decide) (hts (.fieldLink RX6 66 "BackLensesModel" "highestCell" "I") (List.mem_of_getElem? (i := 2) rfl)) (fun _ h9 => h9) rfl dX6_readCellBut_54 ?_
      refine va_put (D := G.1) (ci := 6) (v := .int hc) (ty := .int) (C := RX6) (T := TX6) (N := 29) hx hb hts hin6 tyX6 tyX6_ok nmX6 hown hK.1 hP hD hS 1 rfl rfl 11 (by decide) (hts (.fieldLink RX6 66 "BackLensesModel" "highestCell" "I") (List.mem_of_getElem? (i := 2) rfl)) (fun _ h9 => h9) rfl (by decide +kernel) rfl rfl (Nat.le_of_ble_eq_true rfl) dX6_readCellBut_57 (fun H locs hP hD hS => ?_)
      replace hP : xP G [iA G (ad 3) 160 tb, oC ko 6 [.ref (ad 0), .ref (ad 1), .int (nI w), .int (nI h), .int (nI la), .ref (ad 2), .int (nI dw), .int (nI dh), .int (nI dl), .int tl, .int tc, .int hc, .int hd, .ref (ad 3), .int (nI tp), .int (nI ps), .int (nI fr), .int (nI so), .int vl, .int (nI ft2_4), .int wa2_4, .ref (ad 4), .ref (ad 5), .ref (ad 6), .ref (ad 7), .ref (ad 8), .ref (ad 9), .ref (ad 10), .int tr]] H := hP
      replace hD : va_D (va_A (w_X6_readCellBut G ko ad w h la tp dw dh dl tl tc hc hd ps fr so vl ft wa tr tb) ss.heap.size) [iA G (ad 3) 160 tb, oC ko 6 [.ref (ad 0), .ref (ad 1), .int (nI w), .int (nI h), .int (nI la), .ref (ad 2), .int (nI dw), .int (nI dh), .int (nI dl), .int tl, .int tc, .int hc, .int hd, .ref (ad 3), .int (nI tp), .int (nI ps), .int (nI fr), .int (nI so), .int vl, .int (nI ft2_4), .int wa2_4, .ref (ad 4), .ref (ad 5), .ref (ad 6), .ref (ad 7), .ref (ad 8), .ref (ad 9), .ref (ad 10), .int tr]] := hD
      refine lv_aload_n hx hb dX6_readCellBut_60 rfl (lv_at hl 1 rfl) ?_
      refine xw_v (As := []) (rest := []) (wr := []) ⟨hx, hb, hml, hown, hts⟩ (c_X6_nextToken l G H.size ko ad w h la tp dw dh dl tl tc hc hd ps fr so vl ft2_4 wa2_4 tr tb (by first | assumption | omega) (by first | assumption | omega) (by first | assumption | omega) (by first | assumption | omega)) (cwV 0 hts gX6_readCellBut_X6_nextToken rfl rfl rfl (by decide +kernel) ⟨Nat.le_of_ble_eq_true rfl, Nat.le_of_ble_eq_true rfl⟩) hK hP hD hS hA [1, 0] [] rfl rfl (by decide) (by decide) (by decide) rfl rfl rfl hl.1 rfl (Nat.le_of_ble_eq_true rfl) dX6_readCellBut_61 ⟨Nat.le_of_ble_eq_true rfl, Nat.le_of_ble_eq_true rfl⟩ (fun u H locs hp61 hP hD hS => ?_)
      obtain ⟨ps2_61, fr2_61, so2_61, vl2_61, ft2_61, wa2_61⟩ := u
      try dsimp only at hp61 hP hD
      have he61 := hp61
      replace hP : xP G [oC ko 6 [.ref (ad 0), .ref (ad 1), .int (nI w), .int (nI h), .int (nI la), .ref (ad 2), .int (nI dw), .int (nI dh), .int (nI dl), .int tl, .int tc, .int hc, .int hd, .ref (ad 3), .int (nI tp), .int (nI ps2_61), .int (nI fr2_61), .int (nI so2_61), .int vl2_61, .int (nI ft2_61), .int wa2_61, .ref (ad 4), .ref (ad 5), .ref (ad 6), .ref (ad 7), .ref (ad 8), .ref (ad 9), .ref (ad 10), .int tr], iA G (ad 3) 160 tb] H := hP
      replace hD : va_D (va_A (w_X6_readCellBut G ko ad w h la tp dw dh dl tl tc hc hd ps fr so vl ft wa tr tb) ss.heap.size) [oC ko 6 [.ref (ad 0), .ref (ad 1), .int (nI w), .int (nI h), .int (nI la), .ref (ad 2), .int (nI dw), .int (nI dh), .int (nI dl), .int tl, .int tc, .int hc, .int hd, .ref (ad 3), .int (nI tp), .int (nI ps2_61), .int (nI fr2_61), .int (nI so2_61), .int vl2_61, .int (nI ft2_61), .int wa2_61, .ref (ad 4), .ref (ad 5), .ref (ad 6), .ref (ad 7), .ref (ad 8), .ref (ad 9), .ref (ad 10), .int tr], iA G (ad 3) 160 tb] := hD
      refine lv_iload_n hx hb dX6_readCellBut_64 rfl (lv_at hl 0 rfl) ?_
      have hP := hP.sub (ws' := [oC ko 6 [.ref (ad 0), .ref (ad 1), .int (nI w), .int (nI h), .int (nI la), .ref (ad 2), .int (nI dw), .int (nI dh), .int (nI dl), .int tl, .int tc, .int hc, .int hd, .ref (ad 3), .int (nI tp), .int (nI ps2_61), .int (nI fr2_61), .int (nI so2_61), .int vl2_61, .int (nI ft2_61), .int wa2_61, .ref (ad 4), .ref (ad 5), .ref (ad 6), .ref (ad 7), .ref (ad 8), .ref (ad 9), .ref (ad 10), .int tr], iA G (ad 3) 160 tb]) [0, 1] rfl
      have hD := hD.sub (ws' := [oC ko 6 [.ref (ad 0), .ref (ad 1), .int (nI w), .int (nI h), .int (nI la), .ref (ad 2), .int (nI dw), .int (nI dh), .int (nI dl), .int tl, .int tc, .int hc, .int hd, .ref (ad 3), .int (nI tp), .int (nI ps2_61), .int (nI fr2_61), .int (nI so2_61), .int vl2_61, .int (nI ft2_61), .int wa2_61, .ref (ad 4), .ref (ad 5), .ref (ad 6), .ref (ad 7), .ref (ad 8), .ref (ad 9), .ref (ad 10), .int tr], iA G (ad 3) 160 tb]) [0, 1] (by decide) rfl
      refine W.iret (v := (mLoo 0 15 (ps, fr, so, vl, ft, wa)).1) hx hb hr (fun t ht hW => ⟨⟨(mLoo 0 15 (ps, fr, so, vl, ft, wa)).1, (ps2_61, fr2_61, so2_61, vl2_61, ft2_61, wa2_61, hc), rfl, ?_, by rw [ht]; exact hP, hD⟩, hS.F ht⟩) hS.2.2 dX6_readCellBut_65
      try dsimp only
      refine ⟨rfl, (congrArg (fun a => (_, a)) (he61.trans (congrArg (mTok tb tp) hB.symm))).trans (congrArg (fun a => (a, mTok tb tp (mBut sm (mLoo 0 15 (ps, fr, so, vl, ft, wa))))) ?_)⟩; first | exact (if_neg (fun q => b38 (hzB ▸ q.1))).symm | exact (if_neg (fun q => absurd (hzB.symm.trans q.1) (by decide))).symm | exact (if_neg (fun q => absurd q.2 (by omega))).symm | exact (if_pos ⟨hzB.trans b38, by omega⟩).symm
    · skip
      refine lv_iload_n hx hb dX6_readCellBut_41 rfl (lv_at hl 0 rfl) ?_
      refine lv_aload_n hx hb dX6_readCellBut_42 rfl (lv_at hl 1 rfl) ?_
      refine va_get (D := G.1) (ci := 6) (v := .int hc) (C := RX6) (T := TX6) (N := 29) hx hb hts hin6 hown hK.1 hP 1 rfl rfl 11 (by decide) (hts (.fieldLink RX6 66 "BackLensesModel" "highestCell" "I") (List.mem_of_getElem? (i := 2) rfl)) (fun _ h9 => h9) rfl dX6_readCellBut_43 ?_
      refine xi_icmp_le (tgt := 53) hx hb dX6_readCellBut_46 rfl (fun b46 => ?_) (fun b46 => ?_)
      · skip
        refine lv_aload_n hx hb dX6_readCellBut_53 rfl (lv_at hl 1 rfl) ?_
        refine va_get (D := G.1) (ci := 6) (v := .int hc) (C := RX6) (T := TX6) (N := 29) hx hb hts hin6 hown hK.1 hP 1 rfl rfl 11 (by decide) (hts (.fieldLink RX6 66 "BackLensesModel" "highestCell" "I") (List.mem_of_getElem? (i := 2) rfl)) (fun _ h9 => h9) rfl dX6_readCellBut_54 ?_
        refine va_put (D := G.1) (ci := 6) (v := .int hc) (ty := .int) (C := RX6) (T := TX6) (N := 29) hx hb hts hin6 tyX6 tyX6_ok nmX6 hown hK.1 hP hD hS 1 rfl rfl 11 (by decide) (hts (.fieldLink RX6 66 "BackLensesModel" "highestCell" "I") (List.mem_of_getElem? (i := 2) rfl)) (fun _ h9 => h9) rfl (by decide +kernel) rfl rfl (Nat.le_of_ble_eq_true rfl) dX6_readCellBut_57 (fun H locs hP hD hS => ?_)
        replace hP : xP G [iA G (ad 3) 160 tb, oC ko 6 [.ref (ad 0), .ref (ad 1), .int (nI w), .int (nI h), .int (nI la), .ref (ad 2), .int (nI dw), .int (nI dh), .int (nI dl), .int tl, .int tc, .int hc, .int hd, .ref (ad 3), .int (nI tp), .int (nI ps), .int (nI fr), .int (nI so), .int vl, .int (nI ft2_4), .int wa2_4, .ref (ad 4), .ref (ad 5), .ref (ad 6), .ref (ad 7), .ref (ad 8), .ref (ad 9), .ref (ad 10), .int tr]] H := hP
        replace hD : va_D (va_A (w_X6_readCellBut G ko ad w h la tp dw dh dl tl tc hc hd ps fr so vl ft wa tr tb) ss.heap.size) [iA G (ad 3) 160 tb, oC ko 6 [.ref (ad 0), .ref (ad 1), .int (nI w), .int (nI h), .int (nI la), .ref (ad 2), .int (nI dw), .int (nI dh), .int (nI dl), .int tl, .int tc, .int hc, .int hd, .ref (ad 3), .int (nI tp), .int (nI ps), .int (nI fr), .int (nI so), .int vl, .int (nI ft2_4), .int wa2_4, .ref (ad 4), .ref (ad 5), .ref (ad 6), .ref (ad 7), .ref (ad 8), .ref (ad 9), .ref (ad 10), .int tr]] := hD
        refine lv_aload_n hx hb dX6_readCellBut_60 rfl (lv_at hl 1 rfl) ?_
        refine xw_v (As := []) (rest := []) (wr := []) ⟨hx, hb, hml, hown, hts⟩ (c_X6_nextToken l G H.size ko ad w h la tp dw dh dl tl tc hc hd ps fr so vl ft2_4 wa2_4 tr tb (by first | assumption | omega) (by first | assumption | omega) (by first | assumption | omega) (by first | assumption | omega)) (cwV 0 hts gX6_readCellBut_X6_nextToken rfl rfl rfl (by decide +kernel) ⟨Nat.le_of_ble_eq_true rfl, Nat.le_of_ble_eq_true rfl⟩) hK hP hD hS hA [1, 0] [] rfl rfl (by decide) (by decide) (by decide) rfl rfl rfl hl.1 rfl (Nat.le_of_ble_eq_true rfl) dX6_readCellBut_61 ⟨Nat.le_of_ble_eq_true rfl, Nat.le_of_ble_eq_true rfl⟩ (fun u H locs hp61 hP hD hS => ?_)
        obtain ⟨ps2_61, fr2_61, so2_61, vl2_61, ft2_61, wa2_61⟩ := u
        try dsimp only at hp61 hP hD
        have he61 := hp61
        replace hP : xP G [oC ko 6 [.ref (ad 0), .ref (ad 1), .int (nI w), .int (nI h), .int (nI la), .ref (ad 2), .int (nI dw), .int (nI dh), .int (nI dl), .int tl, .int tc, .int hc, .int hd, .ref (ad 3), .int (nI tp), .int (nI ps2_61), .int (nI fr2_61), .int (nI so2_61), .int vl2_61, .int (nI ft2_61), .int wa2_61, .ref (ad 4), .ref (ad 5), .ref (ad 6), .ref (ad 7), .ref (ad 8), .ref (ad 9), .ref (ad 10), .int tr], iA G (ad 3) 160 tb] H := hP
        replace hD : va_D (va_A (w_X6_readCellBut G ko ad w h la tp dw dh dl tl tc hc hd ps fr so vl ft wa tr tb) ss.heap.size) [oC ko 6 [.ref (ad 0), .ref (ad 1), .int (nI w), .int (nI h), .int (nI la), .ref (ad 2), .int (nI dw), .int (nI dh), .int (nI dl), .int tl, .int tc, .int hc, .int hd, .ref (ad 3), .int (nI tp), .int (nI ps2_61), .int (nI fr2_61), .int (nI so2_61), .int vl2_61, .int (nI ft2_61), .int wa2_61, .ref (ad 4), .ref (ad 5), .ref (ad 6), .ref (ad 7), .ref (ad 8), .ref (ad 9), .ref (ad 10), .int tr], iA G (ad 3) 160 tb] := hD
        refine lv_iload_n hx hb dX6_readCellBut_64 rfl (lv_at hl 0 rfl) ?_
        have hP := hP.sub (ws' := [oC ko 6 [.ref (ad 0), .ref (ad 1), .int (nI w), .int (nI h), .int (nI la), .ref (ad 2), .int (nI dw), .int (nI dh), .int (nI dl), .int tl, .int tc, .int hc, .int hd, .ref (ad 3), .int (nI tp), .int (nI ps2_61), .int (nI fr2_61), .int (nI so2_61), .int vl2_61, .int (nI ft2_61), .int wa2_61, .ref (ad 4), .ref (ad 5), .ref (ad 6), .ref (ad 7), .ref (ad 8), .ref (ad 9), .ref (ad 10), .int tr], iA G (ad 3) 160 tb]) [0, 1] rfl
        have hD := hD.sub (ws' := [oC ko 6 [.ref (ad 0), .ref (ad 1), .int (nI w), .int (nI h), .int (nI la), .ref (ad 2), .int (nI dw), .int (nI dh), .int (nI dl), .int tl, .int tc, .int hc, .int hd, .ref (ad 3), .int (nI tp), .int (nI ps2_61), .int (nI fr2_61), .int (nI so2_61), .int vl2_61, .int (nI ft2_61), .int wa2_61, .ref (ad 4), .ref (ad 5), .ref (ad 6), .ref (ad 7), .ref (ad 8), .ref (ad 9), .ref (ad 10), .int tr], iA G (ad 3) 160 tb]) [0, 1] (by decide) rfl
        refine W.iret (v := (mLoo 0 15 (ps, fr, so, vl, ft, wa)).1) hx hb hr (fun t ht hW => ⟨⟨(mLoo 0 15 (ps, fr, so, vl, ft, wa)).1, (ps2_61, fr2_61, so2_61, vl2_61, ft2_61, wa2_61, hc), rfl, ?_, by rw [ht]; exact hP, hD⟩, hS.F ht⟩) hS.2.2 dX6_readCellBut_65
        try dsimp only
        refine ⟨rfl, (congrArg (fun a => (_, a)) (he61.trans (congrArg (mTok tb tp) hB.symm))).trans (congrArg (fun a => (a, mTok tb tp (mBut sm (mLoo 0 15 (ps, fr, so, vl, ft, wa))))) ?_)⟩; first | exact (if_neg (fun q => b38 (hzB ▸ q.1))).symm | exact (if_neg (fun q => absurd (hzB.symm.trans q.1) (by decide))).symm | exact (if_neg (fun q => absurd q.2 (by omega))).symm | exact (if_pos ⟨hzB.trans b38, by omega⟩).symm
      · skip
        refine lv_iload_n hx hb dX6_readCellBut_49 rfl (lv_at hl 0 rfl) ?_
        refine lv_goto (tgt := 57) hx hb dX6_readCellBut_50 rfl ?_
        refine va_put (D := G.1) (ci := 6) (v := .int ((mLoo 0 15 (ps, fr, so, vl, ft, wa)).1)) (ty := .int) (C := RX6) (T := TX6) (N := 29) hx hb hts hin6 tyX6 tyX6_ok nmX6 hown hK.1 hP hD hS 1 rfl rfl 11 (by decide) (hts (.fieldLink RX6 66 "BackLensesModel" "highestCell" "I") (List.mem_of_getElem? (i := 2) rfl)) (fun _ h9 => h9) rfl (by decide +kernel) rfl rfl (Nat.le_of_ble_eq_true rfl) dX6_readCellBut_57 (fun H locs hP hD hS => ?_)
        replace hP : xP G [iA G (ad 3) 160 tb, oC ko 6 [.ref (ad 0), .ref (ad 1), .int (nI w), .int (nI h), .int (nI la), .ref (ad 2), .int (nI dw), .int (nI dh), .int (nI dl), .int tl, .int tc, .int ((mLoo 0 15 (ps, fr, so, vl, ft, wa)).1), .int hd, .ref (ad 3), .int (nI tp), .int (nI ps), .int (nI fr), .int (nI so), .int vl, .int (nI ft2_4), .int wa2_4, .ref (ad 4), .ref (ad 5), .ref (ad 6), .ref (ad 7), .ref (ad 8), .ref (ad 9), .ref (ad 10), .int tr]] H := hP
        replace hD : va_D (va_A (w_X6_readCellBut G ko ad w h la tp dw dh dl tl tc hc hd ps fr so vl ft wa tr tb) ss.heap.size) [iA G (ad 3) 160 tb, oC ko 6 [.ref (ad 0), .ref (ad 1), .int (nI w), .int (nI h), .int (nI la), .ref (ad 2), .int (nI dw), .int (nI dh), .int (nI dl), .int tl, .int tc, .int ((mLoo 0 15 (ps, fr, so, vl, ft, wa)).1), .int hd, .ref (ad 3), .int (nI tp), .int (nI ps), .int (nI fr), .int (nI so), .int vl, .int (nI ft2_4), .int wa2_4, .ref (ad 4), .ref (ad 5), .ref (ad 6), .ref (ad 7), .ref (ad 8), .ref (ad 9), .ref (ad 10), .int tr]] := hD
        refine lv_aload_n hx hb dX6_readCellBut_60 rfl (lv_at hl 1 rfl) ?_
        refine xw_v (As := []) (rest := []) (wr := []) ⟨hx, hb, hml, hown, hts⟩ (c_X6_nextToken l G H.size ko ad w h la tp dw dh dl tl tc ((mLoo 0 15 (ps, fr, so, vl, ft, wa)).1) hd ps fr so vl ft2_4 wa2_4 tr tb (by first | assumption | omega) (by first | assumption | omega) (by first | assumption | omega) (by first | assumption | omega)) (cwV 0 hts gX6_readCellBut_X6_nextToken rfl rfl rfl (by decide +kernel) ⟨Nat.le_of_ble_eq_true rfl, Nat.le_of_ble_eq_true rfl⟩) hK hP hD hS hA [1, 0] [] rfl rfl (by decide) (by decide) (by decide) rfl rfl rfl hl.1 rfl (Nat.le_of_ble_eq_true rfl) dX6_readCellBut_61 ⟨Nat.le_of_ble_eq_true rfl, Nat.le_of_ble_eq_true rfl⟩ (fun u H locs hp61 hP hD hS => ?_)
        obtain ⟨ps2_61, fr2_61, so2_61, vl2_61, ft2_61, wa2_61⟩ := u
        try dsimp only at hp61 hP hD
        have he61 := hp61
        replace hP : xP G [oC ko 6 [.ref (ad 0), .ref (ad 1), .int (nI w), .int (nI h), .int (nI la), .ref (ad 2), .int (nI dw), .int (nI dh), .int (nI dl), .int tl, .int tc, .int ((mLoo 0 15 (ps, fr, so, vl, ft, wa)).1), .int hd, .ref (ad 3), .int (nI tp), .int (nI ps2_61), .int (nI fr2_61), .int (nI so2_61), .int vl2_61, .int (nI ft2_61), .int wa2_61, .ref (ad 4), .ref (ad 5), .ref (ad 6), .ref (ad 7), .ref (ad 8), .ref (ad 9), .ref (ad 10), .int tr], iA G (ad 3) 160 tb] H := hP
        replace hD : va_D (va_A (w_X6_readCellBut G ko ad w h la tp dw dh dl tl tc hc hd ps fr so vl ft wa tr tb) ss.heap.size) [oC ko 6 [.ref (ad 0), .ref (ad 1), .int (nI w), .int (nI h), .int (nI la), .ref (ad 2), .int (nI dw), .int (nI dh), .int (nI dl), .int tl, .int tc, .int ((mLoo 0 15 (ps, fr, so, vl, ft, wa)).1), .int hd, .ref (ad 3), .int (nI tp), .int (nI ps2_61), .int (nI fr2_61), .int (nI so2_61), .int vl2_61, .int (nI ft2_61), .int wa2_61, .ref (ad 4), .ref (ad 5), .ref (ad 6), .ref (ad 7), .ref (ad 8), .ref (ad 9), .ref (ad 10), .int tr], iA G (ad 3) 160 tb] := hD
        refine lv_iload_n hx hb dX6_readCellBut_64 rfl (lv_at hl 0 rfl) ?_
        have hP := hP.sub (ws' := [oC ko 6 [.ref (ad 0), .ref (ad 1), .int (nI w), .int (nI h), .int (nI la), .ref (ad 2), .int (nI dw), .int (nI dh), .int (nI dl), .int tl, .int tc, .int ((mLoo 0 15 (ps, fr, so, vl, ft, wa)).1), .int hd, .ref (ad 3), .int (nI tp), .int (nI ps2_61), .int (nI fr2_61), .int (nI so2_61), .int vl2_61, .int (nI ft2_61), .int wa2_61, .ref (ad 4), .ref (ad 5), .ref (ad 6), .ref (ad 7), .ref (ad 8), .ref (ad 9), .ref (ad 10), .int tr], iA G (ad 3) 160 tb]) [0, 1] rfl
        have hD := hD.sub (ws' := [oC ko 6 [.ref (ad 0), .ref (ad 1), .int (nI w), .int (nI h), .int (nI la), .ref (ad 2), .int (nI dw), .int (nI dh), .int (nI dl), .int tl, .int tc, .int ((mLoo 0 15 (ps, fr, so, vl, ft, wa)).1), .int hd, .ref (ad 3), .int (nI tp), .int (nI ps2_61), .int (nI fr2_61), .int (nI so2_61), .int vl2_61, .int (nI ft2_61), .int wa2_61, .ref (ad 4), .ref (ad 5), .ref (ad 6), .ref (ad 7), .ref (ad 8), .ref (ad 9), .ref (ad 10), .int tr], iA G (ad 3) 160 tb]) [0, 1] (by decide) rfl
        refine W.iret (v := (mLoo 0 15 (ps, fr, so, vl, ft, wa)).1) hx hb hr (fun t ht hW => ⟨⟨(mLoo 0 15 (ps, fr, so, vl, ft, wa)).1, (ps2_61, fr2_61, so2_61, vl2_61, ft2_61, wa2_61, ((mLoo 0 15 (ps, fr, so, vl, ft, wa)).1)), rfl, ?_, by rw [ht]; exact hP, hD⟩, hS.F ht⟩) hS.2.2 dX6_readCellBut_65
        try dsimp only
        refine ⟨rfl, (congrArg (fun a => (_, a)) (he61.trans (congrArg (mTok tb tp) hB.symm))).trans (congrArg (fun a => (a, mTok tb tp (mBut sm (mLoo 0 15 (ps, fr, so, vl, ft, wa))))) ?_)⟩; first | exact (if_neg (fun q => b38 (hzB ▸ q.1))).symm | exact (if_neg (fun q => absurd (hzB.symm.trans q.1) (by decide))).symm | exact (if_neg (fun q => absurd q.2 (by omega))).symm | exact (if_pos ⟨hzB.trans b38, by omega⟩).symm
  · skip
    refine lv_aload_n hx hb dX6_readCellBut_15 rfl (lv_at hl 1 rfl) ?_
    refine lv_iload_n hx hb dX6_readCellBut_16 rfl (lv_at hl 2 rfl) ?_
    refine lv_iload_n hx hb dX6_readCellBut_17 rfl (lv_at hl 0 rfl) ?_
    refine lv_ishr hx hb dX6_readCellBut_18 ?_
    refine lv_iconst (v := nI 1) hx hb dX6_readCellBut_19 (by decide) ?_
    refine lv_iand hx hb dX6_readCellBut_20 ?_
    refine lv_if_ne (tgt := 28) hx hb dX6_readCellBut_21 rfl (fun b21 => ?_) (fun b21 => ?_)
    · skip
      refine lv_iconst (v := nI 0) hx hb dX6_readCellBut_28 (by decide) ?_
      refine lv_iconst (v := nI 4) hx hb dX6_readCellBut_29 (by decide) ?_
      refine xw_v (As := [.int (nI 0), .int (nI 4)]) (rest := []) (wr := [iA G (ad 3) 160 tb]) ⟨hx, hb, hml, hown, hts⟩ (c_X6_needs_0 l G H.size ko ad w h la tp dw dh dl tl tc hc hd ps fr so vl ft2_4 wa2_4 tr 4 (by first | assumption | omega)) (cwV 2 hts gX6_readCellBut_X6_needs rfl rfl rfl (by decide +kernel) ⟨Nat.le_of_ble_eq_true rfl, Nat.le_of_ble_eq_true rfl⟩) hK hP hD hS hA [1] [0] rfl rfl (by decide) (by decide) (by decide) rfl rfl rfl hl.1 rfl (Nat.le_of_ble_eq_true rfl) dX6_readCellBut_30 ⟨Nat.le_of_ble_eq_true rfl, Nat.le_of_ble_eq_true rfl⟩ (fun u H locs hp30 hP hD hS => ?_)
      replace hP : xP G [iA G (ad 3) 160 tb, oC ko 6 [.ref (ad 0), .ref (ad 1), .int (nI w), .int (nI h), .int (nI la), .ref (ad 2), .int (nI dw), .int (nI dh), .int (nI dl), .int tl, .int tc, .int hc, .int hd, .ref (ad 3), .int (nI tp), .int (nI ps), .int (nI fr), .int (nI so), .int vl, .int (nI 4), .int (nI fr), .ref (ad 4), .ref (ad 5), .ref (ad 6), .ref (ad 7), .ref (ad 8), .ref (ad 9), .ref (ad 10), .int tr]] H := hP
      replace hD : va_D (va_A (w_X6_readCellBut G ko ad w h la tp dw dh dl tl tc hc hd ps fr so vl ft wa tr tb) ss.heap.size) [iA G (ad 3) 160 tb, oC ko 6 [.ref (ad 0), .ref (ad 1), .int (nI w), .int (nI h), .int (nI la), .ref (ad 2), .int (nI dw), .int (nI dh), .int (nI dl), .int tl, .int tc, .int hc, .int hd, .ref (ad 3), .int (nI tp), .int (nI ps), .int (nI fr), .int (nI so), .int vl, .int (nI 4), .int (nI fr), .ref (ad 4), .ref (ad 5), .ref (ad 6), .ref (ad 7), .ref (ad 8), .ref (ad 9), .ref (ad 10), .int tr]] := hD
      have hz : (mLoo 0 15 (ps, fr, so, vl, ft, wa)).2.2.2.2.2.1 = ft2_4 := (by rw [← he4])
      have hB : mBut sm (mLoo 0 15 (ps, fr, so, vl, ft, wa)) = (ps, fr, so, vl, 4, nI fr) := (by first | exact (if_neg (fun q => b12 (hz ▸ q))).trans he4.symm | exact (if_pos (hz.trans b12)).trans ((if_pos b21).trans he4.symm) | exact (if_pos (hz.trans b12)).trans ((if_neg b21).trans (congrArg (mF 4) he4.symm)))
      have hzB : (mBut sm (mLoo 0 15 (ps, fr, so, vl, ft, wa))).2.2.2.2.1 = 4 := congrArg (fun a : MS => a.2.2.2.2.1) hB
      refine lv_aload_n hx hb dX6_readCellBut_33 rfl (lv_at hl 1 rfl) ?_
      refine lv_aload_n hx hb dX6_readCellBut_34 rfl (lv_at hl 1 rfl) ?_
      refine va_get (D := G.1) (ci := 6) (v := .int (nI 4)) (C := RX6) (T := TX6) (N := 29) hx hb hts hin6 hown hK.1 hP 1 rfl rfl 19 (by decide) (hts (.fieldLink RX6 90 "BackLensesModel" "fault" "I") (List.mem_of_getElem? (i := 1) rfl)) (fun _ h9 => h9) rfl dX6_readCellBut_35 ?_
      refine xn_if_ne (tgt := 53) hx hb (by omega) dX6_readCellBut_38 rfl (fun _ => ?_) (fun b38 => absurd b38 (by omega))
      refine lv_aload_n hx hb dX6_readCellBut_53 rfl (lv_at hl 1 rfl) ?_
      refine va_get (D := G.1) (ci := 6) (v := .int hc) (C := RX6) (T := TX6) (N := 29) hx hb hts hin6 hown hK.1 hP 1 rfl rfl 11 (by decide) (hts (.fieldLink RX6 66 "BackLensesModel" "highestCell" "I") (List.mem_of_getElem? (i := 2) rfl)) (fun _ h9 => h9) rfl dX6_readCellBut_54 ?_
      refine va_put (D := G.1) (ci := 6) (v := .int hc) (ty := .int) (C := RX6) (T := TX6) (N := 29) hx hb hts hin6 tyX6 tyX6_ok nmX6 hown hK.1 hP hD hS 1 rfl rfl 11 (by decide) (hts (.fieldLink RX6 66 "BackLensesModel" "highestCell" "I") (List.mem_of_getElem? (i := 2) rfl)) (fun _ h9 => h9) rfl (by decide +kernel) rfl rfl (Nat.le_of_ble_eq_true rfl) dX6_readCellBut_57 (fun H locs hP hD hS => ?_)
      replace hP : xP G [iA G (ad 3) 160 tb, oC ko 6 [.ref (ad 0), .ref (ad 1), .int (nI w), .int (nI h), .int (nI la), .ref (ad 2), .int (nI dw), .int (nI dh), .int (nI dl), .int tl, .int tc, .int hc, .int hd, .ref (ad 3), .int (nI tp), .int (nI ps), .int (nI fr), .int (nI so), .int vl, .int (nI 4), .int (nI fr), .ref (ad 4), .ref (ad 5), .ref (ad 6), .ref (ad 7), .ref (ad 8), .ref (ad 9), .ref (ad 10), .int tr]] H := hP
      replace hD : va_D (va_A (w_X6_readCellBut G ko ad w h la tp dw dh dl tl tc hc hd ps fr so vl ft wa tr tb) ss.heap.size) [iA G (ad 3) 160 tb, oC ko 6 [.ref (ad 0), .ref (ad 1), .int (nI w), .int (nI h), .int (nI la), .ref (ad 2), .int (nI dw), .int (nI dh), .int (nI dl), .int tl, .int tc, .int hc, .int hd, .ref (ad 3), .int (nI tp), .int (nI ps), .int (nI fr), .int (nI so), .int vl, .int (nI 4), .int (nI fr), .ref (ad 4), .ref (ad 5), .ref (ad 6), .ref (ad 7), .ref (ad 8), .ref (ad 9), .ref (ad 10), .int tr]] := hD
      refine lv_aload_n hx hb dX6_readCellBut_60 rfl (lv_at hl 1 rfl) ?_
      refine xw_v (As := []) (rest := []) (wr := []) ⟨hx, hb, hml, hown, hts⟩ (c_X6_nextToken l G H.size ko ad w h la tp dw dh dl tl tc hc hd ps fr so vl 4 (nI fr) tr tb (by first | assumption | omega) (by first | assumption | omega) (by first | assumption | omega) (by first | assumption | omega)) (cwV 0 hts gX6_readCellBut_X6_nextToken rfl rfl rfl (by decide +kernel) ⟨Nat.le_of_ble_eq_true rfl, Nat.le_of_ble_eq_true rfl⟩) hK hP hD hS hA [1, 0] [] rfl rfl (by decide) (by decide) (by decide) rfl rfl rfl hl.1 rfl (Nat.le_of_ble_eq_true rfl) dX6_readCellBut_61 ⟨Nat.le_of_ble_eq_true rfl, Nat.le_of_ble_eq_true rfl⟩ (fun u H locs hp61 hP hD hS => ?_)
      obtain ⟨ps2_61, fr2_61, so2_61, vl2_61, ft2_61, wa2_61⟩ := u
      try dsimp only at hp61 hP hD
      have he61 := hp61
      replace hP : xP G [oC ko 6 [.ref (ad 0), .ref (ad 1), .int (nI w), .int (nI h), .int (nI la), .ref (ad 2), .int (nI dw), .int (nI dh), .int (nI dl), .int tl, .int tc, .int hc, .int hd, .ref (ad 3), .int (nI tp), .int (nI ps2_61), .int (nI fr2_61), .int (nI so2_61), .int vl2_61, .int (nI ft2_61), .int wa2_61, .ref (ad 4), .ref (ad 5), .ref (ad 6), .ref (ad 7), .ref (ad 8), .ref (ad 9), .ref (ad 10), .int tr], iA G (ad 3) 160 tb] H := hP
      replace hD : va_D (va_A (w_X6_readCellBut G ko ad w h la tp dw dh dl tl tc hc hd ps fr so vl ft wa tr tb) ss.heap.size) [oC ko 6 [.ref (ad 0), .ref (ad 1), .int (nI w), .int (nI h), .int (nI la), .ref (ad 2), .int (nI dw), .int (nI dh), .int (nI dl), .int tl, .int tc, .int hc, .int hd, .ref (ad 3), .int (nI tp), .int (nI ps2_61), .int (nI fr2_61), .int (nI so2_61), .int vl2_61, .int (nI ft2_61), .int wa2_61, .ref (ad 4), .ref (ad 5), .ref (ad 6), .ref (ad 7), .ref (ad 8), .ref (ad 9), .ref (ad 10), .int tr], iA G (ad 3) 160 tb] := hD
      refine lv_iload_n hx hb dX6_readCellBut_64 rfl (lv_at hl 0 rfl) ?_
      have hP := hP.sub (ws' := [oC ko 6 [.ref (ad 0), .ref (ad 1), .int (nI w), .int (nI h), .int (nI la), .ref (ad 2), .int (nI dw), .int (nI dh), .int (nI dl), .int tl, .int tc, .int hc, .int hd, .ref (ad 3), .int (nI tp), .int (nI ps2_61), .int (nI fr2_61), .int (nI so2_61), .int vl2_61, .int (nI ft2_61), .int wa2_61, .ref (ad 4), .ref (ad 5), .ref (ad 6), .ref (ad 7), .ref (ad 8), .ref (ad 9), .ref (ad 10), .int tr], iA G (ad 3) 160 tb]) [0, 1] rfl
      have hD := hD.sub (ws' := [oC ko 6 [.ref (ad 0), .ref (ad 1), .int (nI w), .int (nI h), .int (nI la), .ref (ad 2), .int (nI dw), .int (nI dh), .int (nI dl), .int tl, .int tc, .int hc, .int hd, .ref (ad 3), .int (nI tp), .int (nI ps2_61), .int (nI fr2_61), .int (nI so2_61), .int vl2_61, .int (nI ft2_61), .int wa2_61, .ref (ad 4), .ref (ad 5), .ref (ad 6), .ref (ad 7), .ref (ad 8), .ref (ad 9), .ref (ad 10), .int tr], iA G (ad 3) 160 tb]) [0, 1] (by decide) rfl
      refine W.iret (v := (mLoo 0 15 (ps, fr, so, vl, ft, wa)).1) hx hb hr (fun t ht hW => ⟨⟨(mLoo 0 15 (ps, fr, so, vl, ft, wa)).1, (ps2_61, fr2_61, so2_61, vl2_61, ft2_61, wa2_61, hc), rfl, ?_, by rw [ht]; exact hP, hD⟩, hS.F ht⟩) hS.2.2 dX6_readCellBut_65
      try dsimp only
      refine ⟨rfl, (congrArg (fun a => (_, a)) (he61.trans (congrArg (mTok tb tp) hB.symm))).trans (congrArg (fun a => (a, mTok tb tp (mBut sm (mLoo 0 15 (ps, fr, so, vl, ft, wa))))) ?_)⟩; first | exact (if_neg (fun q => b38 (hzB ▸ q.1))).symm | exact (if_neg (fun q => absurd (hzB.symm.trans q.1) (by decide))).symm | exact (if_neg (fun q => absurd q.2 (by omega))).symm | exact (if_pos ⟨hzB.trans b38, by omega⟩).symm
    · skip
      refine lv_iconst (v := nI 1) hx hb dX6_readCellBut_24 (by decide) ?_
      refine lv_goto (tgt := 29) hx hb dX6_readCellBut_25 rfl ?_
      refine lv_iconst (v := nI 4) hx hb dX6_readCellBut_29 (by decide) ?_
      refine xw_v (As := [.int (nI 1), .int (nI 4)]) (rest := []) (wr := [iA G (ad 3) 160 tb]) ⟨hx, hb, hml, hown, hts⟩ (c_X6_needs_1 l G H.size ko ad w h la tp dw dh dl tl tc hc hd ps fr so vl ft2_4 wa2_4 tr 4 ) (cwV 2 hts gX6_readCellBut_X6_needs rfl rfl rfl (by decide +kernel) ⟨Nat.le_of_ble_eq_true rfl, Nat.le_of_ble_eq_true rfl⟩) hK hP hD hS hA [1] [0] rfl rfl (by decide) (by decide) (by decide) rfl rfl rfl hl.1 rfl (Nat.le_of_ble_eq_true rfl) dX6_readCellBut_30 ⟨Nat.le_of_ble_eq_true rfl, Nat.le_of_ble_eq_true rfl⟩ (fun u H locs hp30 hP hD hS => ?_)
      replace hP : xP G [iA G (ad 3) 160 tb, oC ko 6 [.ref (ad 0), .ref (ad 1), .int (nI w), .int (nI h), .int (nI la), .ref (ad 2), .int (nI dw), .int (nI dh), .int (nI dl), .int tl, .int tc, .int hc, .int hd, .ref (ad 3), .int (nI tp), .int (nI ps), .int (nI fr), .int (nI so), .int vl, .int (nI ft2_4), .int wa2_4, .ref (ad 4), .ref (ad 5), .ref (ad 6), .ref (ad 7), .ref (ad 8), .ref (ad 9), .ref (ad 10), .int tr]] H := hP
      replace hD : va_D (va_A (w_X6_readCellBut G ko ad w h la tp dw dh dl tl tc hc hd ps fr so vl ft wa tr tb) ss.heap.size) [iA G (ad 3) 160 tb, oC ko 6 [.ref (ad 0), .ref (ad 1), .int (nI w), .int (nI h), .int (nI la), .ref (ad 2), .int (nI dw), .int (nI dh), .int (nI dl), .int tl, .int tc, .int hc, .int hd, .ref (ad 3), .int (nI tp), .int (nI ps), .int (nI fr), .int (nI so), .int vl, .int (nI ft2_4), .int wa2_4, .ref (ad 4), .ref (ad 5), .ref (ad 6), .ref (ad 7), .ref (ad 8), .ref (ad 9), .ref (ad 10), .int tr]] := hD
      have hz : (mLoo 0 15 (ps, fr, so, vl, ft, wa)).2.2.2.2.2.1 = ft2_4 := (by rw [← he4])
      have hB : mBut sm (mLoo 0 15 (ps, fr, so, vl, ft, wa)) = (ps, fr, so, vl, ft2_4, wa2_4) := (by first | exact (if_neg (fun q => b12 (hz ▸ q))).trans he4.symm | exact (if_pos (hz.trans b12)).trans ((if_pos b21).trans he4.symm) | exact (if_pos (hz.trans b12)).trans ((if_neg b21).trans (congrArg (mF 4) he4.symm)))
      have hzB : (mBut sm (mLoo 0 15 (ps, fr, so, vl, ft, wa))).2.2.2.2.1 = ft2_4 := congrArg (fun a : MS => a.2.2.2.2.1) hB
      refine lv_aload_n hx hb dX6_readCellBut_33 rfl (lv_at hl 1 rfl) ?_
      refine lv_aload_n hx hb dX6_readCellBut_34 rfl (lv_at hl 1 rfl) ?_
      refine va_get (D := G.1) (ci := 6) (v := .int (nI ft2_4)) (C := RX6) (T := TX6) (N := 29) hx hb hts hin6 hown hK.1 hP 1 rfl rfl 19 (by decide) (hts (.fieldLink RX6 90 "BackLensesModel" "fault" "I") (List.mem_of_getElem? (i := 1) rfl)) (fun _ h9 => h9) rfl dX6_readCellBut_35 ?_
      refine xn_if_ne (tgt := 53) hx hb (by omega) dX6_readCellBut_38 rfl (fun b38 => ?_) (fun b38 => ?_)
      · skip
        refine lv_aload_n hx hb dX6_readCellBut_53 rfl (lv_at hl 1 rfl) ?_
        refine va_get (D := G.1) (ci := 6) (v := .int hc) (C := RX6) (T := TX6) (N := 29) hx hb hts hin6 hown hK.1 hP 1 rfl rfl 11 (by decide) (hts (.fieldLink RX6 66 "BackLensesModel" "highestCell" "I") (List.mem_of_getElem? (i := 2) rfl)) (fun _ h9 => h9) rfl dX6_readCellBut_54 ?_
        refine va_put (D := G.1) (ci := 6) (v := .int hc) (ty := .int) (C := RX6) (T := TX6) (N := 29) hx hb hts hin6 tyX6 tyX6_ok nmX6 hown hK.1 hP hD hS 1 rfl rfl 11 (by decide) (hts (.fieldLink RX6 66 "BackLensesModel" "highestCell" "I") (List.mem_of_getElem? (i := 2) rfl)) (fun _ h9 => h9) rfl (by decide +kernel) rfl rfl (Nat.le_of_ble_eq_true rfl) dX6_readCellBut_57 (fun H locs hP hD hS => ?_)
        replace hP : xP G [iA G (ad 3) 160 tb, oC ko 6 [.ref (ad 0), .ref (ad 1), .int (nI w), .int (nI h), .int (nI la), .ref (ad 2), .int (nI dw), .int (nI dh), .int (nI dl), .int tl, .int tc, .int hc, .int hd, .ref (ad 3), .int (nI tp), .int (nI ps), .int (nI fr), .int (nI so), .int vl, .int (nI ft2_4), .int wa2_4, .ref (ad 4), .ref (ad 5), .ref (ad 6), .ref (ad 7), .ref (ad 8), .ref (ad 9), .ref (ad 10), .int tr]] H := hP
        replace hD : va_D (va_A (w_X6_readCellBut G ko ad w h la tp dw dh dl tl tc hc hd ps fr so vl ft wa tr tb) ss.heap.size) [iA G (ad 3) 160 tb, oC ko 6 [.ref (ad 0), .ref (ad 1), .int (nI w), .int (nI h), .int (nI la), .ref (ad 2), .int (nI dw), .int (nI dh), .int (nI dl), .int tl, .int tc, .int hc, .int hd, .ref (ad 3), .int (nI tp), .int (nI ps), .int (nI fr), .int (nI so), .int vl, .int (nI ft2_4), .int wa2_4, .ref (ad 4), .ref (ad 5), .ref (ad 6), .ref (ad 7), .ref (ad 8), .ref (ad 9), .ref (ad 10), .int tr]] := hD
        refine lv_aload_n hx hb dX6_readCellBut_60 rfl (lv_at hl 1 rfl) ?_
        refine xw_v (As := []) (rest := []) (wr := []) ⟨hx, hb, hml, hown, hts⟩ (c_X6_nextToken l G H.size ko ad w h la tp dw dh dl tl tc hc hd ps fr so vl ft2_4 wa2_4 tr tb (by first | assumption | omega) (by first | assumption | omega) (by first | assumption | omega) (by first | assumption | omega)) (cwV 0 hts gX6_readCellBut_X6_nextToken rfl rfl rfl (by decide +kernel) ⟨Nat.le_of_ble_eq_true rfl, Nat.le_of_ble_eq_true rfl⟩) hK hP hD hS hA [1, 0] [] rfl rfl (by decide) (by decide) (by decide) rfl rfl rfl hl.1 rfl (Nat.le_of_ble_eq_true rfl) dX6_readCellBut_61 ⟨Nat.le_of_ble_eq_true rfl, Nat.le_of_ble_eq_true rfl⟩ (fun u H locs hp61 hP hD hS => ?_)
        obtain ⟨ps2_61, fr2_61, so2_61, vl2_61, ft2_61, wa2_61⟩ := u
        try dsimp only at hp61 hP hD
        have he61 := hp61
        replace hP : xP G [oC ko 6 [.ref (ad 0), .ref (ad 1), .int (nI w), .int (nI h), .int (nI la), .ref (ad 2), .int (nI dw), .int (nI dh), .int (nI dl), .int tl, .int tc, .int hc, .int hd, .ref (ad 3), .int (nI tp), .int (nI ps2_61), .int (nI fr2_61), .int (nI so2_61), .int vl2_61, .int (nI ft2_61), .int wa2_61, .ref (ad 4), .ref (ad 5), .ref (ad 6), .ref (ad 7), .ref (ad 8), .ref (ad 9), .ref (ad 10), .int tr], iA G (ad 3) 160 tb] H := hP
        replace hD : va_D (va_A (w_X6_readCellBut G ko ad w h la tp dw dh dl tl tc hc hd ps fr so vl ft wa tr tb) ss.heap.size) [oC ko 6 [.ref (ad 0), .ref (ad 1), .int (nI w), .int (nI h), .int (nI la), .ref (ad 2), .int (nI dw), .int (nI dh), .int (nI dl), .int tl, .int tc, .int hc, .int hd, .ref (ad 3), .int (nI tp), .int (nI ps2_61), .int (nI fr2_61), .int (nI so2_61), .int vl2_61, .int (nI ft2_61), .int wa2_61, .ref (ad 4), .ref (ad 5), .ref (ad 6), .ref (ad 7), .ref (ad 8), .ref (ad 9), .ref (ad 10), .int tr], iA G (ad 3) 160 tb] := hD
        refine lv_iload_n hx hb dX6_readCellBut_64 rfl (lv_at hl 0 rfl) ?_
        have hP := hP.sub (ws' := [oC ko 6 [.ref (ad 0), .ref (ad 1), .int (nI w), .int (nI h), .int (nI la), .ref (ad 2), .int (nI dw), .int (nI dh), .int (nI dl), .int tl, .int tc, .int hc, .int hd, .ref (ad 3), .int (nI tp), .int (nI ps2_61), .int (nI fr2_61), .int (nI so2_61), .int vl2_61, .int (nI ft2_61), .int wa2_61, .ref (ad 4), .ref (ad 5), .ref (ad 6), .ref (ad 7), .ref (ad 8), .ref (ad 9), .ref (ad 10), .int tr], iA G (ad 3) 160 tb]) [0, 1] rfl
        have hD := hD.sub (ws' := [oC ko 6 [.ref (ad 0), .ref (ad 1), .int (nI w), .int (nI h), .int (nI la), .ref (ad 2), .int (nI dw), .int (nI dh), .int (nI dl), .int tl, .int tc, .int hc, .int hd, .ref (ad 3), .int (nI tp), .int (nI ps2_61), .int (nI fr2_61), .int (nI so2_61), .int vl2_61, .int (nI ft2_61), .int wa2_61, .ref (ad 4), .ref (ad 5), .ref (ad 6), .ref (ad 7), .ref (ad 8), .ref (ad 9), .ref (ad 10), .int tr], iA G (ad 3) 160 tb]) [0, 1] (by decide) rfl
        refine W.iret (v := (mLoo 0 15 (ps, fr, so, vl, ft, wa)).1) hx hb hr (fun t ht hW => ⟨⟨(mLoo 0 15 (ps, fr, so, vl, ft, wa)).1, (ps2_61, fr2_61, so2_61, vl2_61, ft2_61, wa2_61, hc), rfl, ?_, by rw [ht]; exact hP, hD⟩, hS.F ht⟩) hS.2.2 dX6_readCellBut_65
        try dsimp only
        refine ⟨rfl, (congrArg (fun a => (_, a)) (he61.trans (congrArg (mTok tb tp) hB.symm))).trans (congrArg (fun a => (a, mTok tb tp (mBut sm (mLoo 0 15 (ps, fr, so, vl, ft, wa))))) ?_)⟩; first | exact (if_neg (fun q => b38 (hzB ▸ q.1))).symm | exact (if_neg (fun q => absurd (hzB.symm.trans q.1) (by decide))).symm | exact (if_neg (fun q => absurd q.2 (by omega))).symm | exact (if_pos ⟨hzB.trans b38, by omega⟩).symm
      · skip
        refine lv_iload_n hx hb dX6_readCellBut_41 rfl (lv_at hl 0 rfl) ?_
        refine lv_aload_n hx hb dX6_readCellBut_42 rfl (lv_at hl 1 rfl) ?_
        refine va_get (D := G.1) (ci := 6) (v := .int hc) (C := RX6) (T := TX6) (N := 29) hx hb hts hin6 hown hK.1 hP 1 rfl rfl 11 (by decide) (hts (.fieldLink RX6 66 "BackLensesModel" "highestCell" "I") (List.mem_of_getElem? (i := 2) rfl)) (fun _ h9 => h9) rfl dX6_readCellBut_43 ?_
        refine xi_icmp_le (tgt := 53) hx hb dX6_readCellBut_46 rfl (fun b46 => ?_) (fun b46 => ?_)
        · skip
          refine lv_aload_n hx hb dX6_readCellBut_53 rfl (lv_at hl 1 rfl) ?_
          refine va_get (D := G.1) (ci := 6) (v := .int hc) (C := RX6) (T := TX6) (N := 29) hx hb hts hin6 hown hK.1 hP 1 rfl rfl 11 (by decide) (hts (.fieldLink RX6 66 "BackLensesModel" "highestCell" "I") (List.mem_of_getElem? (i := 2) rfl)) (fun _ h9 => h9) rfl dX6_readCellBut_54 ?_
          refine va_put (D := G.1) (ci := 6) (v := .int hc) (ty := .int) (C := RX6) (T := TX6) (N := 29) hx hb hts hin6 tyX6 tyX6_ok nmX6 hown hK.1 hP hD hS 1 rfl rfl 11 (by decide) (hts (.fieldLink RX6 66 "BackLensesModel" "highestCell" "I") (List.mem_of_getElem? (i := 2) rfl)) (fun _ h9 => h9) rfl (by decide +kernel) rfl rfl (Nat.le_of_ble_eq_true rfl) dX6_readCellBut_57 (fun H locs hP hD hS => ?_)
          replace hP : xP G [iA G (ad 3) 160 tb, oC ko 6 [.ref (ad 0), .ref (ad 1), .int (nI w), .int (nI h), .int (nI la), .ref (ad 2), .int (nI dw), .int (nI dh), .int (nI dl), .int tl, .int tc, .int hc, .int hd, .ref (ad 3), .int (nI tp), .int (nI ps), .int (nI fr), .int (nI so), .int vl, .int (nI ft2_4), .int wa2_4, .ref (ad 4), .ref (ad 5), .ref (ad 6), .ref (ad 7), .ref (ad 8), .ref (ad 9), .ref (ad 10), .int tr]] H := hP
          replace hD : va_D (va_A (w_X6_readCellBut G ko ad w h la tp dw dh dl tl tc hc hd ps fr so vl ft wa tr tb) ss.heap.size) [iA G (ad 3) 160 tb, oC ko 6 [.ref (ad 0), .ref (ad 1), .int (nI w), .int (nI h), .int (nI la), .ref (ad 2), .int (nI dw), .int (nI dh), .int (nI dl), .int tl, .int tc, .int hc, .int hd, .ref (ad 3), .int (nI tp), .int (nI ps), .int (nI fr), .int (nI so), .int vl, .int (nI ft2_4), .int wa2_4, .ref (ad 4), .ref (ad 5), .ref (ad 6), .ref (ad 7), .ref (ad 8), .ref (ad 9), .ref (ad 10), .int tr]] := hD
          refine lv_aload_n hx hb dX6_readCellBut_60 rfl (lv_at hl 1 rfl) ?_
          refine xw_v (As := []) (rest := []) (wr := []) ⟨hx, hb, hml, hown, hts⟩ (c_X6_nextToken l G H.size ko ad w h la tp dw dh dl tl tc hc hd ps fr so vl ft2_4 wa2_4 tr tb (by first | assumption | omega) (by first | assumption | omega) (by first | assumption | omega) (by first | assumption | omega)) (cwV 0 hts gX6_readCellBut_X6_nextToken rfl rfl rfl (by decide +kernel) ⟨Nat.le_of_ble_eq_true rfl, Nat.le_of_ble_eq_true rfl⟩) hK hP hD hS hA [1, 0] [] rfl rfl (by decide) (by decide) (by decide) rfl rfl rfl hl.1 rfl (Nat.le_of_ble_eq_true rfl) dX6_readCellBut_61 ⟨Nat.le_of_ble_eq_true rfl, Nat.le_of_ble_eq_true rfl⟩ (fun u H locs hp61 hP hD hS => ?_)
          obtain ⟨ps2_61, fr2_61, so2_61, vl2_61, ft2_61, wa2_61⟩ := u
          try dsimp only at hp61 hP hD
          have he61 := hp61
          replace hP : xP G [oC ko 6 [.ref (ad 0), .ref (ad 1), .int (nI w), .int (nI h), .int (nI la), .ref (ad 2), .int (nI dw), .int (nI dh), .int (nI dl), .int tl, .int tc, .int hc, .int hd, .ref (ad 3), .int (nI tp), .int (nI ps2_61), .int (nI fr2_61), .int (nI so2_61), .int vl2_61, .int (nI ft2_61), .int wa2_61, .ref (ad 4), .ref (ad 5), .ref (ad 6), .ref (ad 7), .ref (ad 8), .ref (ad 9), .ref (ad 10), .int tr], iA G (ad 3) 160 tb] H := hP
          replace hD : va_D (va_A (w_X6_readCellBut G ko ad w h la tp dw dh dl tl tc hc hd ps fr so vl ft wa tr tb) ss.heap.size) [oC ko 6 [.ref (ad 0), .ref (ad 1), .int (nI w), .int (nI h), .int (nI la), .ref (ad 2), .int (nI dw), .int (nI dh), .int (nI dl), .int tl, .int tc, .int hc, .int hd, .ref (ad 3), .int (nI tp), .int (nI ps2_61), .int (nI fr2_61), .int (nI so2_61), .int vl2_61, .int (nI ft2_61), .int wa2_61, .ref (ad 4), .ref (ad 5), .ref (ad 6), .ref (ad 7), .ref (ad 8), .ref (ad 9), .ref (ad 10), .int tr], iA G (ad 3) 160 tb] := hD
          refine lv_iload_n hx hb dX6_readCellBut_64 rfl (lv_at hl 0 rfl) ?_
          have hP := hP.sub (ws' := [oC ko 6 [.ref (ad 0), .ref (ad 1), .int (nI w), .int (nI h), .int (nI la), .ref (ad 2), .int (nI dw), .int (nI dh), .int (nI dl), .int tl, .int tc, .int hc, .int hd, .ref (ad 3), .int (nI tp), .int (nI ps2_61), .int (nI fr2_61), .int (nI so2_61), .int vl2_61, .int (nI ft2_61), .int wa2_61, .ref (ad 4), .ref (ad 5), .ref (ad 6), .ref (ad 7), .ref (ad 8), .ref (ad 9), .ref (ad 10), .int tr], iA G (ad 3) 160 tb]) [0, 1] rfl
          have hD := hD.sub (ws' := [oC ko 6 [.ref (ad 0), .ref (ad 1), .int (nI w), .int (nI h), .int (nI la), .ref (ad 2), .int (nI dw), .int (nI dh), .int (nI dl), .int tl, .int tc, .int hc, .int hd, .ref (ad 3), .int (nI tp), .int (nI ps2_61), .int (nI fr2_61), .int (nI so2_61), .int vl2_61, .int (nI ft2_61), .int wa2_61, .ref (ad 4), .ref (ad 5), .ref (ad 6), .ref (ad 7), .ref (ad 8), .ref (ad 9), .ref (ad 10), .int tr], iA G (ad 3) 160 tb]) [0, 1] (by decide) rfl
          refine W.iret (v := (mLoo 0 15 (ps, fr, so, vl, ft, wa)).1) hx hb hr (fun t ht hW => ⟨⟨(mLoo 0 15 (ps, fr, so, vl, ft, wa)).1, (ps2_61, fr2_61, so2_61, vl2_61, ft2_61, wa2_61, hc), rfl, ?_, by rw [ht]; exact hP, hD⟩, hS.F ht⟩) hS.2.2 dX6_readCellBut_65
          try dsimp only
          refine ⟨rfl, (congrArg (fun a => (_, a)) (he61.trans (congrArg (mTok tb tp) hB.symm))).trans (congrArg (fun a => (a, mTok tb tp (mBut sm (mLoo 0 15 (ps, fr, so, vl, ft, wa))))) ?_)⟩; first | exact (if_neg (fun q => b38 (hzB ▸ q.1))).symm | exact (if_neg (fun q => absurd (hzB.symm.trans q.1) (by decide))).symm | exact (if_neg (fun q => absurd q.2 (by omega))).symm | exact (if_pos ⟨hzB.trans b38, by omega⟩).symm
        · skip
          refine lv_iload_n hx hb dX6_readCellBut_49 rfl (lv_at hl 0 rfl) ?_
          refine lv_goto (tgt := 57) hx hb dX6_readCellBut_50 rfl ?_
          refine va_put (D := G.1) (ci := 6) (v := .int ((mLoo 0 15 (ps, fr, so, vl, ft, wa)).1)) (ty := .int) (C := RX6) (T := TX6) (N := 29) hx hb hts hin6 tyX6 tyX6_ok nmX6 hown hK.1 hP hD hS 1 rfl rfl 11 (by decide) (hts (.fieldLink RX6 66 "BackLensesModel" "highestCell" "I") (List.mem_of_getElem? (i := 2) rfl)) (fun _ h9 => h9) rfl (by decide +kernel) rfl rfl (Nat.le_of_ble_eq_true rfl) dX6_readCellBut_57 (fun H locs hP hD hS => ?_)
          replace hP : xP G [iA G (ad 3) 160 tb, oC ko 6 [.ref (ad 0), .ref (ad 1), .int (nI w), .int (nI h), .int (nI la), .ref (ad 2), .int (nI dw), .int (nI dh), .int (nI dl), .int tl, .int tc, .int ((mLoo 0 15 (ps, fr, so, vl, ft, wa)).1), .int hd, .ref (ad 3), .int (nI tp), .int (nI ps), .int (nI fr), .int (nI so), .int vl, .int (nI ft2_4), .int wa2_4, .ref (ad 4), .ref (ad 5), .ref (ad 6), .ref (ad 7), .ref (ad 8), .ref (ad 9), .ref (ad 10), .int tr]] H := hP
          replace hD : va_D (va_A (w_X6_readCellBut G ko ad w h la tp dw dh dl tl tc hc hd ps fr so vl ft wa tr tb) ss.heap.size) [iA G (ad 3) 160 tb, oC ko 6 [.ref (ad 0), .ref (ad 1), .int (nI w), .int (nI h), .int (nI la), .ref (ad 2), .int (nI dw), .int (nI dh), .int (nI dl), .int tl, .int tc, .int ((mLoo 0 15 (ps, fr, so, vl, ft, wa)).1), .int hd, .ref (ad 3), .int (nI tp), .int (nI ps), .int (nI fr), .int (nI so), .int vl, .int (nI ft2_4), .int wa2_4, .ref (ad 4), .ref (ad 5), .ref (ad 6), .ref (ad 7), .ref (ad 8), .ref (ad 9), .ref (ad 10), .int tr]] := hD
          refine lv_aload_n hx hb dX6_readCellBut_60 rfl (lv_at hl 1 rfl) ?_
          refine xw_v (As := []) (rest := []) (wr := []) ⟨hx, hb, hml, hown, hts⟩ (c_X6_nextToken l G H.size ko ad w h la tp dw dh dl tl tc ((mLoo 0 15 (ps, fr, so, vl, ft, wa)).1) hd ps fr so vl ft2_4 wa2_4 tr tb (by first | assumption | omega) (by first | assumption | omega) (by first | assumption | omega) (by first | assumption | omega)) (cwV 0 hts gX6_readCellBut_X6_nextToken rfl rfl rfl (by decide +kernel) ⟨Nat.le_of_ble_eq_true rfl, Nat.le_of_ble_eq_true rfl⟩) hK hP hD hS hA [1, 0] [] rfl rfl (by decide) (by decide) (by decide) rfl rfl rfl hl.1 rfl (Nat.le_of_ble_eq_true rfl) dX6_readCellBut_61 ⟨Nat.le_of_ble_eq_true rfl, Nat.le_of_ble_eq_true rfl⟩ (fun u H locs hp61 hP hD hS => ?_)
          obtain ⟨ps2_61, fr2_61, so2_61, vl2_61, ft2_61, wa2_61⟩ := u
          try dsimp only at hp61 hP hD
          have he61 := hp61
          replace hP : xP G [oC ko 6 [.ref (ad 0), .ref (ad 1), .int (nI w), .int (nI h), .int (nI la), .ref (ad 2), .int (nI dw), .int (nI dh), .int (nI dl), .int tl, .int tc, .int ((mLoo 0 15 (ps, fr, so, vl, ft, wa)).1), .int hd, .ref (ad 3), .int (nI tp), .int (nI ps2_61), .int (nI fr2_61), .int (nI so2_61), .int vl2_61, .int (nI ft2_61), .int wa2_61, .ref (ad 4), .ref (ad 5), .ref (ad 6), .ref (ad 7), .ref (ad 8), .ref (ad 9), .ref (ad 10), .int tr], iA G (ad 3) 160 tb] H := hP
          replace hD : va_D (va_A (w_X6_readCellBut G ko ad w h la tp dw dh dl tl tc hc hd ps fr so vl ft wa tr tb) ss.heap.size) [oC ko 6 [.ref (ad 0), .ref (ad 1), .int (nI w), .int (nI h), .int (nI la), .ref (ad 2), .int (nI dw), .int (nI dh), .int (nI dl), .int tl, .int tc, .int ((mLoo 0 15 (ps, fr, so, vl, ft, wa)).1), .int hd, .ref (ad 3), .int (nI tp), .int (nI ps2_61), .int (nI fr2_61), .int (nI so2_61), .int vl2_61, .int (nI ft2_61), .int wa2_61, .ref (ad 4), .ref (ad 5), .ref (ad 6), .ref (ad 7), .ref (ad 8), .ref (ad 9), .ref (ad 10), .int tr], iA G (ad 3) 160 tb] := hD
          refine lv_iload_n hx hb dX6_readCellBut_64 rfl (lv_at hl 0 rfl) ?_
          have hP := hP.sub (ws' := [oC ko 6 [.ref (ad 0), .ref (ad 1), .int (nI w), .int (nI h), .int (nI la), .ref (ad 2), .int (nI dw), .int (nI dh), .int (nI dl), .int tl, .int tc, .int ((mLoo 0 15 (ps, fr, so, vl, ft, wa)).1), .int hd, .ref (ad 3), .int (nI tp), .int (nI ps2_61), .int (nI fr2_61), .int (nI so2_61), .int vl2_61, .int (nI ft2_61), .int wa2_61, .ref (ad 4), .ref (ad 5), .ref (ad 6), .ref (ad 7), .ref (ad 8), .ref (ad 9), .ref (ad 10), .int tr], iA G (ad 3) 160 tb]) [0, 1] rfl
          have hD := hD.sub (ws' := [oC ko 6 [.ref (ad 0), .ref (ad 1), .int (nI w), .int (nI h), .int (nI la), .ref (ad 2), .int (nI dw), .int (nI dh), .int (nI dl), .int tl, .int tc, .int ((mLoo 0 15 (ps, fr, so, vl, ft, wa)).1), .int hd, .ref (ad 3), .int (nI tp), .int (nI ps2_61), .int (nI fr2_61), .int (nI so2_61), .int vl2_61, .int (nI ft2_61), .int wa2_61, .ref (ad 4), .ref (ad 5), .ref (ad 6), .ref (ad 7), .ref (ad 8), .ref (ad 9), .ref (ad 10), .int tr], iA G (ad 3) 160 tb]) [0, 1] (by decide) rfl
          refine W.iret (v := (mLoo 0 15 (ps, fr, so, vl, ft, wa)).1) hx hb hr (fun t ht hW => ⟨⟨(mLoo 0 15 (ps, fr, so, vl, ft, wa)).1, (ps2_61, fr2_61, so2_61, vl2_61, ft2_61, wa2_61, ((mLoo 0 15 (ps, fr, so, vl, ft, wa)).1)), rfl, ?_, by rw [ht]; exact hP, hD⟩, hS.F ht⟩) hS.2.2 dX6_readCellBut_65
          try dsimp only
          refine ⟨rfl, (congrArg (fun a => (_, a)) (he61.trans (congrArg (mTok tb tp) hB.symm))).trans (congrArg (fun a => (a, mTok tb tp (mBut sm (mLoo 0 15 (ps, fr, so, vl, ft, wa))))) ?_)⟩; first | exact (if_neg (fun q => b38 (hzB ▸ q.1))).symm | exact (if_neg (fun q => absurd (hzB.symm.trans q.1) (by decide))).symm | exact (if_neg (fun q => absurd q.2 (by omega))).symm | exact (if_pos ⟨hzB.trans b38, by omega⟩).symm

abbrev w_X6_is (G : XG) (ko : Nat) (ad : Nat → Nat) (w h la tp : Nat) (dw dh dl : Nat) (tl tc hc hd : Int32) (ps fr so : Nat) (vl : Int32) (ft : Nat) (wa tr : Int32) (tb : Nat → Int32) : va_W := [oC ko 6 [.ref (ad 0), .ref (ad 1), .int (nI w), .int (nI h), .int (nI la), .ref (ad 2), .int (nI dw), .int (nI dh), .int (nI dl), .int tl, .int tc, .int hc, .int hd, .ref (ad 3), .int (nI tp), .int (nI ps), .int (nI fr), .int (nI so), .int vl, .int (nI ft), .int wa, .ref (ad 4), .ref (ad 5), .ref (ad 6), .ref (ad 7), .ref (ad 8), .ref (ad 9), .ref (ad 10), .int tr], iA G (ad 3) 160 tb]
abbrev Q_X6_is (G : XG) (ko : Nat) (ad : Nat → Nat) (w h la tp : Nat) (dw dh dl : Nat) (tl tc hc hd : Int32) (ps fr so : Nat) (vl : Int32) (ft : Nat) (wa tr : Int32) (tb : Nat → Int32) (n a b c d : Nat) : Array Value → State → Outcome → State → Prop := (xRi (fun r => r = xb ((ps - fr = n ∧ byF tb tp fr = nI a ∧ byF tb tp (fr + 1) = nI b ∧ byF tb tp (fr + 2) = nI c ∧ byF tb tp (fr + 3) = nI d))))
set_option maxHeartbeats 4000000 in
set_option maxRecDepth 100000 in
theorem c_X6_is (l : Launch) (G : XG) (ko : Nat) (ad : Nat → Nat) (w h la tp : Nat) (dw dh dl : Nat) (tl tc hc hd : Int32) (ps fr so : Nat) (vl : Int32) (ft : Nat) (wa tr : Int32) (tb : Nat → Int32) (n a b c d : Nat) (htp : tp ≤ 160) (hps : ps ≤ tp) (hfr : fr ≤ ps) (hn : n < 1000) : Met l yX6_is wsX6_is ({ frames := 1, cells := 0, slots := 0, locals := 21 } : Room) (va_Pc [.ref ko, .int (nI n), .int (nI a), .int (nI b), .int (nI c), .int (nI d)] (xRp G (w_X6_is G ko ad w h la tp dw dh dl tl tc hc hd ps fr so vl ft wa tr tb))) (Q_X6_is G ko ad w h la tp dw dh dl tl tc hc hd ps fr so vl ft wa tr tb n a b c d) 0 0 (fun _ => False) := by
  refine Met.ofW (cc := cX6_is) (maxL := 6) (ret := (some .boolean)) (by decide) rfl ?_
  intro pp ee ss mm aa below mt cd s₁ BB hml hv
  obtain ⟨rfl, hP, hK⟩ := hv
  have hx := BB.exec
  have hb := BB.bytes
  have hr := BB.returns
  have hts := atoms_spec (ws := wsX6_is) BB.pre
  have hown : ss.vm.findClass RX6 = some mm.cls := findClass_of_methodNamed BB.named
  have hlocks := BB.notSynchronized
  have hS : va_S (fun _ => False) ss.heap ss.heap [] := va_S.rf
  replace hP : xP G [oC ko 6 [.ref (ad 0), .ref (ad 1), .int (nI w), .int (nI h), .int (nI la), .ref (ad 2), .int (nI dw), .int (nI dh), .int (nI dl), .int tl, .int tc, .int hc, .int hd, .ref (ad 3), .int (nI tp), .int (nI ps), .int (nI fr), .int (nI so), .int vl, .int (nI ft), .int wa, .ref (ad 4), .ref (ad 5), .ref (ad 6), .ref (ad 7), .ref (ad 8), .ref (ad 9), .ref (ad 10), .int tr], iA G (ad 3) 160 tb] ss.heap := hP
  have hin6 : ∀ w ∈ u_ws RX6 TX6 29, w ∈ wsX6_is := fun w h => List.mem_cons_of_mem _ (List.mem_append_right _ h)
  have hl := lv_entry ([.ref ko, .int (nI n), .int (nI a), .int (nI b), .int (nI c), .int (nI d)]) (n := 6) (Nat.le_of_ble_eq_true rfl)
  rw [lg_entry_eq]
  generalize (lg_sl ([.ref ko, .int (nI n), .int (nI a), .int (nI b), .int (nI c), .int (nI d)]) ++ List.replicate (6 - (lg_sl ([.ref ko, .int (nI n), .int (nI a), .int (nI b), .int (nI c), .int (nI d)])).length) Slot.unset).toArray = ls at hl ⊢
  replace hl : lv_has ls 6 [(0, .ref ko), (1, .int (nI n)), (2, .int (nI a)), (3, .int (nI b)), (4, .int (nI c)), (5, .int (nI d))] := hl
  refine lv_aload_n hx hb dX6_is_0 rfl (lv_at hl 0 rfl) ?_
  refine va_get (D := G.1) (ci := 6) (v := .int (nI ps)) (C := RX6) (T := TX6) (N := 29) hx hb hts hin6 hown hK.1 hP 0 rfl rfl 15 (by decide) (hts (.fieldLink RX6 99 "BackLensesModel" "pos" "I") (List.mem_of_getElem? (i := 1) rfl)) (fun _ h9 => h9) rfl dX6_is_1 ?_
  refine lv_aload_n hx hb dX6_is_4 rfl (lv_at hl 0 rfl) ?_
  refine va_get (D := G.1) (ci := 6) (v := .int (nI fr)) (C := RX6) (T := TX6) (N := 29) hx hb hts hin6 hown hK.1 hP 0 rfl rfl 16 (by decide) (hts (.fieldLink RX6 93 "BackLensesModel" "from" "I") (List.mem_of_getElem? (i := 2) rfl)) (fun _ h9 => h9) rfl dX6_is_5 ?_
  refine xn_isub hx hb (by omega) dX6_is_8 ?_
  refine lv_iload_n hx hb dX6_is_9 rfl (lv_at hl 1 rfl) ?_
  refine xn_icmp_ne (tgt := 73) hx hb (by omega) (by omega) dX6_is_10 rfl (fun b10 => ?_) (fun b10 => ?_)
  · skip
    refine lv_iconst (v := nI 0) hx hb dX6_is_73 (by decide) ?_
    refine W.zret (v := nI 0) (ty := .boolean) hx hb hr (by decide) (fun t ht hW => ⟨⟨nI 0, (), rfl, ?_, trivial⟩, hS.F ht⟩) hS.2.2 dX6_is_74
    first | exact (xb_f (fun q => b10 q.1)).symm | exact (xb_f (fun q => b22 q.2.1)).symm | exact (xb_f (fun q => b36 q.2.2.1)).symm | exact (xb_f (fun q => b51 q.2.2.2.1)).symm | exact (xb_f (fun q => b66 q.2.2.2.2)).symm | exact (xb_t ⟨b10, b22, b36, b51, b66⟩).symm
  · skip
    refine lv_aload_n hx hb dX6_is_13 rfl (lv_at hl 0 rfl) ?_
    refine lv_aload_n hx hb dX6_is_14 rfl (lv_at hl 0 rfl) ?_
    refine va_get (D := G.1) (ci := 6) (v := .int (nI fr)) (C := RX6) (T := TX6) (N := 29) hx hb hts hin6 hown hK.1 hP 0 rfl rfl 16 (by decide) (hts (.fieldLink RX6 93 "BackLensesModel" "from" "I") (List.mem_of_getElem? (i := 2) rfl)) (fun _ h9 => h9) rfl dX6_is_15 ?_
    refine xr_i (As := [.int (nI fr)]) (rest := []) ⟨hx, hb, hml, hown, hts⟩ (c_X6_byteAt l G ko ad w h la tp dw dh dl tl tc hc hd ps fr so vl ft wa tr tb fr (by first | assumption | omega) (by first | assumption | omega)) (cwV 1 hts gX6_is_X6_byteAt rfl rfl rfl (by decide +kernel) ⟨Nat.le_of_ble_eq_true rfl, Nat.le_of_ble_eq_true rfl⟩) hK hP hS [0, 1] rfl rfl rfl rfl hl.1 rfl (Nat.le_of_ble_eq_true rfl) dX6_is_18 ⟨Nat.zero_le _, Nat.zero_le _⟩ (fun r18 H locs hp18 hP hS => ?_)
    rw [show r18 = _ from hp18]
    refine lv_iload_n hx hb dX6_is_21 rfl (lv_at hl 2 rfl) ?_
    refine lv_icmp_ne (tgt := 73) hx hb dX6_is_22 rfl (fun b22 => ?_) (fun b22 => ?_)
    · skip
      refine lv_iconst (v := nI 0) hx hb dX6_is_73 (by decide) ?_
      refine W.zret (v := nI 0) (ty := .boolean) hx hb hr (by decide) (fun t ht hW => ⟨⟨nI 0, (), rfl, ?_, trivial⟩, hS.F ht⟩) hS.2.2 dX6_is_74
      first | exact (xb_f (fun q => b10 q.1)).symm | exact (xb_f (fun q => b22 q.2.1)).symm | exact (xb_f (fun q => b36 q.2.2.1)).symm | exact (xb_f (fun q => b51 q.2.2.2.1)).symm | exact (xb_f (fun q => b66 q.2.2.2.2)).symm | exact (xb_t ⟨b10, b22, b36, b51, b66⟩).symm
    · skip
      refine lv_aload_n hx hb dX6_is_25 rfl (lv_at hl 0 rfl) ?_
      refine lv_aload_n hx hb dX6_is_26 rfl (lv_at hl 0 rfl) ?_
      refine va_get (D := G.1) (ci := 6) (v := .int (nI fr)) (C := RX6) (T := TX6) (N := 29) hx hb hts hin6 hown hK.1 hP 0 rfl rfl 16 (by decide) (hts (.fieldLink RX6 93 "BackLensesModel" "from" "I") (List.mem_of_getElem? (i := 2) rfl)) (fun _ h9 => h9) rfl dX6_is_27 ?_
      refine lv_iconst (v := nI 1) hx hb dX6_is_30 (by decide) ?_
      refine xn_iadd hx hb dX6_is_31 ?_
      refine xr_i (As := [.int (nI (fr + 1))]) (rest := []) ⟨hx, hb, hml, hown, hts⟩ (c_X6_byteAt l G ko ad w h la tp dw dh dl tl tc hc hd ps fr so vl ft wa tr tb (fr + 1) (by first | assumption | omega) (by first | assumption | omega)) (cwV 1 hts gX6_is_X6_byteAt rfl rfl rfl (by decide +kernel) ⟨Nat.le_of_ble_eq_true rfl, Nat.le_of_ble_eq_true rfl⟩) hK hP hS [0, 1] rfl rfl rfl rfl hl.1 rfl (Nat.le_of_ble_eq_true rfl) dX6_is_32 ⟨Nat.zero_le _, Nat.zero_le _⟩ (fun r32 H locs hp32 hP hS => ?_)
      rw [show r32 = _ from hp32]
      refine lv_iload_n hx hb dX6_is_35 rfl (lv_at hl 3 rfl) ?_
      refine lv_icmp_ne (tgt := 73) hx hb dX6_is_36 rfl (fun b36 => ?_) (fun b36 => ?_)
      · skip
        refine lv_iconst (v := nI 0) hx hb dX6_is_73 (by decide) ?_
        refine W.zret (v := nI 0) (ty := .boolean) hx hb hr (by decide) (fun t ht hW => ⟨⟨nI 0, (), rfl, ?_, trivial⟩, hS.F ht⟩) hS.2.2 dX6_is_74
        first | exact (xb_f (fun q => b10 q.1)).symm | exact (xb_f (fun q => b22 q.2.1)).symm | exact (xb_f (fun q => b36 q.2.2.1)).symm | exact (xb_f (fun q => b51 q.2.2.2.1)).symm | exact (xb_f (fun q => b66 q.2.2.2.2)).symm | exact (xb_t ⟨b10, b22, b36, b51, b66⟩).symm
      · skip
        refine lv_aload_n hx hb dX6_is_39 rfl (lv_at hl 0 rfl) ?_
        refine lv_aload_n hx hb dX6_is_40 rfl (lv_at hl 0 rfl) ?_
        refine va_get (D := G.1) (ci := 6) (v := .int (nI fr)) (C := RX6) (T := TX6) (N := 29) hx hb hts hin6 hown hK.1 hP 0 rfl rfl 16 (by decide) (hts (.fieldLink RX6 93 "BackLensesModel" "from" "I") (List.mem_of_getElem? (i := 2) rfl)) (fun _ h9 => h9) rfl dX6_is_41 ?_
        refine lv_iconst (v := nI 2) hx hb dX6_is_44 (by decide) ?_
        refine xn_iadd hx hb dX6_is_45 ?_
        refine xr_i (As := [.int (nI (fr + 2))]) (rest := []) ⟨hx, hb, hml, hown, hts⟩ (c_X6_byteAt l G ko ad w h la tp dw dh dl tl tc hc hd ps fr so vl ft wa tr tb (fr + 2) (by first | assumption | omega) (by first | assumption | omega)) (cwV 1 hts gX6_is_X6_byteAt rfl rfl rfl (by decide +kernel) ⟨Nat.le_of_ble_eq_true rfl, Nat.le_of_ble_eq_true rfl⟩) hK hP hS [0, 1] rfl rfl rfl rfl hl.1 rfl (Nat.le_of_ble_eq_true rfl) dX6_is_46 ⟨Nat.zero_le _, Nat.zero_le _⟩ (fun r46 H locs hp46 hP hS => ?_)
        rw [show r46 = _ from hp46]
        refine lv_iload hx hb dX6_is_49 (lv_at hl 4 rfl) ?_
        refine lv_icmp_ne (tgt := 73) hx hb dX6_is_51 rfl (fun b51 => ?_) (fun b51 => ?_)
        · skip
          refine lv_iconst (v := nI 0) hx hb dX6_is_73 (by decide) ?_
          refine W.zret (v := nI 0) (ty := .boolean) hx hb hr (by decide) (fun t ht hW => ⟨⟨nI 0, (), rfl, ?_, trivial⟩, hS.F ht⟩) hS.2.2 dX6_is_74
          first | exact (xb_f (fun q => b10 q.1)).symm | exact (xb_f (fun q => b22 q.2.1)).symm | exact (xb_f (fun q => b36 q.2.2.1)).symm | exact (xb_f (fun q => b51 q.2.2.2.1)).symm | exact (xb_f (fun q => b66 q.2.2.2.2)).symm | exact (xb_t ⟨b10, b22, b36, b51, b66⟩).symm
        · skip
          refine lv_aload_n hx hb dX6_is_54 rfl (lv_at hl 0 rfl) ?_
          refine lv_aload_n hx hb dX6_is_55 rfl (lv_at hl 0 rfl) ?_
          refine va_get (D := G.1) (ci := 6) (v := .int (nI fr)) (C := RX6) (T := TX6) (N := 29) hx hb hts hin6 hown hK.1 hP 0 rfl rfl 16 (by decide) (hts (.fieldLink RX6 93 "BackLensesModel" "from" "I") (List.mem_of_getElem? (i := 2) rfl)) (fun _ h9 => h9) rfl dX6_is_56 ?_
          refine lv_iconst (v := nI 3) hx hb dX6_is_59 (by decide) ?_
          refine xn_iadd hx hb dX6_is_60 ?_
          refine xr_i (As := [.int (nI (fr + 3))]) (rest := []) ⟨hx, hb, hml, hown, hts⟩ (c_X6_byteAt l G ko ad w h la tp dw dh dl tl tc hc hd ps fr so vl ft wa tr tb (fr + 3) (by first | assumption | omega) (by first | assumption | omega)) (cwV 1 hts gX6_is_X6_byteAt rfl rfl rfl (by decide +kernel) ⟨Nat.le_of_ble_eq_true rfl, Nat.le_of_ble_eq_true rfl⟩) hK hP hS [0, 1] rfl rfl rfl rfl hl.1 rfl (Nat.le_of_ble_eq_true rfl) dX6_is_61 ⟨Nat.zero_le _, Nat.zero_le _⟩ (fun r61 H locs hp61 hP hS => ?_)
          rw [show r61 = _ from hp61]
          refine lv_iload hx hb dX6_is_64 (lv_at hl 5 rfl) ?_
          refine lv_icmp_ne (tgt := 73) hx hb dX6_is_66 rfl (fun b66 => ?_) (fun b66 => ?_)
          · skip
            refine lv_iconst (v := nI 0) hx hb dX6_is_73 (by decide) ?_
            refine W.zret (v := nI 0) (ty := .boolean) hx hb hr (by decide) (fun t ht hW => ⟨⟨nI 0, (), rfl, ?_, trivial⟩, hS.F ht⟩) hS.2.2 dX6_is_74
            first | exact (xb_f (fun q => b10 q.1)).symm | exact (xb_f (fun q => b22 q.2.1)).symm | exact (xb_f (fun q => b36 q.2.2.1)).symm | exact (xb_f (fun q => b51 q.2.2.2.1)).symm | exact (xb_f (fun q => b66 q.2.2.2.2)).symm | exact (xb_t ⟨b10, b22, b36, b51, b66⟩).symm
          · skip
            refine lv_iconst (v := nI 1) hx hb dX6_is_69 (by decide) ?_
            refine lv_goto (tgt := 74) hx hb dX6_is_70 rfl ?_
            refine W.zret (v := nI 1) (ty := .boolean) hx hb hr (by decide) (fun t ht hW => ⟨⟨nI 1, (), rfl, ?_, trivial⟩, hS.F ht⟩) hS.2.2 dX6_is_74
            first | exact (xb_f (fun q => b10 q.1)).symm | exact (xb_f (fun q => b22 q.2.1)).symm | exact (xb_f (fun q => b36 q.2.2.1)).symm | exact (xb_f (fun q => b51 q.2.2.2.1)).symm | exact (xb_f (fun q => b66 q.2.2.2.2)).symm | exact (xb_t ⟨b10, b22, b36, b51, b66⟩).symm

abbrev w_X6_lineNow (G : XG) (ko : Nat) (ad : Nat → Nat) (w h la tp : Nat) (dw dh dl : Nat) (tl tc hc hd : Int32) (ps fr so : Nat) (vl : Int32) (ft : Nat) (wa tr : Int32) (tb : Nat → Int32) : va_W := [oC ko 6 [.ref (ad 0), .ref (ad 1), .int (nI w), .int (nI h), .int (nI la), .ref (ad 2), .int (nI dw), .int (nI dh), .int (nI dl), .int tl, .int tc, .int hc, .int hd, .ref (ad 3), .int (nI tp), .int (nI ps), .int (nI fr), .int (nI so), .int vl, .int (nI ft), .int wa, .ref (ad 4), .ref (ad 5), .ref (ad 6), .ref (ad 7), .ref (ad 8), .ref (ad 9), .ref (ad 10), .int tr], iA G (ad 3) 160 tb]
abbrev Q_X6_lineNow (G : XG) (ko : Nat) (ad : Nat → Nat) (w h la tp : Nat) (dw dh dl : Nat) (tl tc hc hd : Int32) (ps fr so : Nat) (vl : Int32) (ft : Nat) (wa tr : Int32) (tb : Nat → Int32) : Array Value → State → Outcome → State → Prop := (xRi (fun r => r = mNow tb tp ps fr))
set_option maxHeartbeats 4000000 in
set_option maxRecDepth 100000 in
theorem c_X6_lineNow (l : Launch) (G : XG) (ko : Nat) (ad : Nat → Nat) (w h la tp : Nat) (dw dh dl : Nat) (tl tc hc hd : Int32) (ps fr so : Nat) (vl : Int32) (ft : Nat) (wa tr : Int32) (tb : Nat → Int32) (htp : tp ≤ 160) (hps : ps ≤ tp) (hfr : fr ≤ ps) : Met l yX6_lineNow wsX6_lineNow ({ frames := 2, cells := 0, slots := 0, locals := 46 } : Room) (va_Pc [.ref ko] (xRp G (w_X6_lineNow G ko ad w h la tp dw dh dl tl tc hc hd ps fr so vl ft wa tr tb))) (Q_X6_lineNow G ko ad w h la tp dw dh dl tl tc hc hd ps fr so vl ft wa tr tb) 0 0 (fun _ => False) := by
  refine Met.ofW (cc := cX6_lineNow) (maxL := 1) (ret := (some .int)) (by decide) rfl ?_
  intro pp ee ss mm aa below mt cd s₁ BB hml hv
  obtain ⟨rfl, hP, hK⟩ := hv
  have hx := BB.exec
  have hb := BB.bytes
  have hr := BB.returns
  have hts := atoms_spec (ws := wsX6_lineNow) BB.pre
  have hown : ss.vm.findClass RX6 = some mm.cls := findClass_of_methodNamed BB.named
  have hlocks := BB.notSynchronized
  have hS : va_S (fun _ => False) ss.heap ss.heap [] := va_S.rf
  replace hP : xP G [oC ko 6 [.ref (ad 0), .ref (ad 1), .int (nI w), .int (nI h), .int (nI la), .ref (ad 2), .int (nI dw), .int (nI dh), .int (nI dl), .int tl, .int tc, .int hc, .int hd, .ref (ad 3), .int (nI tp), .int (nI ps), .int (nI fr), .int (nI so), .int vl, .int (nI ft), .int wa, .ref (ad 4), .ref (ad 5), .ref (ad 6), .ref (ad 7), .ref (ad 8), .ref (ad 9), .ref (ad 10), .int tr], iA G (ad 3) 160 tb] ss.heap := hP
  have hin6 : ∀ w ∈ u_ws RX6 TX6 29, w ∈ wsX6_lineNow := fun w h => List.mem_cons_of_mem _ (List.mem_append_right _ h)
  have hl := lv_entry ([.ref ko]) (n := 1) (Nat.le_of_ble_eq_true rfl)
  rw [lg_entry_eq]
  generalize (lg_sl ([.ref ko]) ++ List.replicate (1 - (lg_sl ([.ref ko])).length) Slot.unset).toArray = ls at hl ⊢
  replace hl : lv_has ls 1 [(0, .ref ko)] := hl
  refine lv_aload_n hx hb dX6_lineNow_0 rfl (lv_at hl 0 rfl) ?_
  refine lv_iconst (v := nI 5) hx hb dX6_lineNow_1 (by decide) ?_
  refine lv_bipush (v := nI 104) hx hb dX6_lineNow_2 (by decide) ?_
  refine lv_bipush (v := nI 111) hx hb dX6_lineNow_4 (by decide) ?_
  refine lv_bipush (v := nI 117) hx hb dX6_lineNow_6 (by decide) ?_
  refine lv_bipush (v := nI 115) hx hb dX6_lineNow_8 (by decide) ?_
  refine xr_i (As := [.int (nI 5), .int (nI 104), .int (nI 111), .int (nI 117), .int (nI 115)]) (rest := []) ⟨hx, hb, hml, hown, hts⟩ (c_X6_is l G ko ad w h la tp dw dh dl tl tc hc hd ps fr so vl ft wa tr tb 5 104 111 117 115 (by first | assumption | omega) (by first | assumption | omega) (by first | assumption | omega) (by first | assumption | omega)) (cwV 5 hts gX6_lineNow_X6_is rfl rfl rfl (by decide +kernel) ⟨Nat.le_of_ble_eq_true rfl, Nat.le_of_ble_eq_true rfl⟩) hK hP hS [0, 1] rfl rfl rfl rfl hl.1 rfl (Nat.le_of_ble_eq_true rfl) dX6_lineNow_10 ⟨Nat.zero_le _, Nat.zero_le _⟩ (fun r10 H locs hp10 hP hS => ?_)
  rw [show r10 = _ from hp10]
  refine xb_if_eq (tgt := 33) hx hb dX6_lineNow_13 rfl (fun b13 => ?_) (fun b13 => ?_)
  · skip
    have h0 : ¬ (mIs tb tp ps fr 5 104 111 117 115 ∧ byF tb tp (fr + 4) = nI 101) := fun q => b13 q.1
    refine lv_aload_n hx hb dX6_lineNow_33 rfl (lv_at hl 0 rfl) ?_
    refine lv_iconst (v := nI 4) hx hb dX6_lineNow_34 (by decide) ?_
    refine lv_bipush (v := nI 108) hx hb dX6_lineNow_35 (by decide) ?_
    refine lv_bipush (v := nI 97) hx hb dX6_lineNow_37 (by decide) ?_
    refine lv_bipush (v := nI 115) hx hb dX6_lineNow_39 (by decide) ?_
    refine lv_bipush (v := nI 116) hx hb dX6_lineNow_41 (by decide) ?_
    refine xr_i (As := [.int (nI 4), .int (nI 108), .int (nI 97), .int (nI 115), .int (nI 116)]) (rest := []) ⟨hx, hb, hml, hown, hts⟩ (c_X6_is l G ko ad w h la tp dw dh dl tl tc hc hd ps fr so vl ft wa tr tb 4 108 97 115 116 (by first | assumption | omega) (by first | assumption | omega) (by first | assumption | omega) (by first | assumption | omega)) (cwV 5 hts gX6_lineNow_X6_is rfl rfl rfl (by decide +kernel) ⟨Nat.le_of_ble_eq_true rfl, Nat.le_of_ble_eq_true rfl⟩) hK hP hS [0, 1] rfl rfl rfl rfl hl.1 rfl (Nat.le_of_ble_eq_true rfl) dX6_lineNow_43 ⟨Nat.zero_le _, Nat.zero_le _⟩ (fun r43 H locs hp43 hP hS => ?_)
    rw [show r43 = _ from hp43]
    refine xb_if_eq (tgt := 51) hx hb dX6_lineNow_46 rfl (fun b46 => ?_) (fun b46 => ?_)
    · skip
      refine lv_aload_n hx hb dX6_lineNow_51 rfl (lv_at hl 0 rfl) ?_
      refine lv_iconst (v := nI 4) hx hb dX6_lineNow_52 (by decide) ?_
      refine lv_bipush (v := nI 99) hx hb dX6_lineNow_53 (by decide) ?_
      refine lv_bipush (v := nI 101) hx hb dX6_lineNow_55 (by decide) ?_
      refine lv_bipush (v := nI 108) hx hb dX6_lineNow_57 (by decide) ?_
      refine lv_bipush (v := nI 108) hx hb dX6_lineNow_59 (by decide) ?_
      refine xr_i (As := [.int (nI 4), .int (nI 99), .int (nI 101), .int (nI 108), .int (nI 108)]) (rest := []) ⟨hx, hb, hml, hown, hts⟩ (c_X6_is l G ko ad w h la tp dw dh dl tl tc hc hd ps fr so vl ft wa tr tb 4 99 101 108 108 (by first | assumption | omega) (by first | assumption | omega) (by first | assumption | omega) (by first | assumption | omega)) (cwV 5 hts gX6_lineNow_X6_is rfl rfl rfl (by decide +kernel) ⟨Nat.le_of_ble_eq_true rfl, Nat.le_of_ble_eq_true rfl⟩) hK hP hS [0, 1] rfl rfl rfl rfl hl.1 rfl (Nat.le_of_ble_eq_true rfl) dX6_lineNow_61 ⟨Nat.zero_le _, Nat.zero_le _⟩ (fun r61 H locs hp61 hP hS => ?_)
      rw [show r61 = _ from hp61]
      refine xb_if_eq (tgt := 69) hx hb dX6_lineNow_64 rfl (fun b64 => ?_) (fun b64 => ?_)
      · skip
        refine lv_aload_n hx hb dX6_lineNow_69 rfl (lv_at hl 0 rfl) ?_
        refine lv_iconst (v := nI 4) hx hb dX6_lineNow_70 (by decide) ?_
        refine lv_bipush (v := nI 116) hx hb dX6_lineNow_71 (by decide) ?_
        refine lv_bipush (v := nI 117) hx hb dX6_lineNow_73 (by decide) ?_
        refine lv_bipush (v := nI 114) hx hb dX6_lineNow_75 (by decide) ?_
        refine lv_bipush (v := nI 110) hx hb dX6_lineNow_77 (by decide) ?_
        refine xr_i (As := [.int (nI 4), .int (nI 116), .int (nI 117), .int (nI 114), .int (nI 110)]) (rest := []) ⟨hx, hb, hml, hown, hts⟩ (c_X6_is l G ko ad w h la tp dw dh dl tl tc hc hd ps fr so vl ft wa tr tb 4 116 117 114 110 (by first | assumption | omega) (by first | assumption | omega) (by first | assumption | omega) (by first | assumption | omega)) (cwV 5 hts gX6_lineNow_X6_is rfl rfl rfl (by decide +kernel) ⟨Nat.le_of_ble_eq_true rfl, Nat.le_of_ble_eq_true rfl⟩) hK hP hS [0, 1] rfl rfl rfl rfl hl.1 rfl (Nat.le_of_ble_eq_true rfl) dX6_lineNow_79 ⟨Nat.zero_le _, Nat.zero_le _⟩ (fun r79 H locs hp79 hP hS => ?_)
        rw [show r79 = _ from hp79]
        refine xb_if_eq (tgt := 89) hx hb dX6_lineNow_82 rfl (fun b82 => ?_) (fun b82 => ?_)
        · skip
          refine lv_aload_n hx hb dX6_lineNow_89 rfl (lv_at hl 0 rfl) ?_
          refine lv_iconst (v := nI 4) hx hb dX6_lineNow_90 (by decide) ?_
          refine lv_bipush (v := nI 108) hx hb dX6_lineNow_91 (by decide) ?_
          refine lv_bipush (v := nI 101) hx hb dX6_lineNow_93 (by decide) ?_
          refine lv_bipush (v := nI 110) hx hb dX6_lineNow_95 (by decide) ?_
          refine lv_bipush (v := nI 115) hx hb dX6_lineNow_97 (by decide) ?_
          refine xr_i (As := [.int (nI 4), .int (nI 108), .int (nI 101), .int (nI 110), .int (nI 115)]) (rest := []) ⟨hx, hb, hml, hown, hts⟩ (c_X6_is l G ko ad w h la tp dw dh dl tl tc hc hd ps fr so vl ft wa tr tb 4 108 101 110 115 (by first | assumption | omega) (by first | assumption | omega) (by first | assumption | omega) (by first | assumption | omega)) (cwV 5 hts gX6_lineNow_X6_is rfl rfl rfl (by decide +kernel) ⟨Nat.le_of_ble_eq_true rfl, Nat.le_of_ble_eq_true rfl⟩) hK hP hS [0, 1] rfl rfl rfl rfl hl.1 rfl (Nat.le_of_ble_eq_true rfl) dX6_lineNow_99 ⟨Nat.zero_le _, Nat.zero_le _⟩ (fun r99 H locs hp99 hP hS => ?_)
          rw [show r99 = _ from hp99]
          refine xb_if_eq (tgt := 109) hx hb dX6_lineNow_102 rfl (fun b102 => ?_) (fun b102 => ?_)
          · skip
            refine lv_bipush (v := (-4)) hx hb dX6_lineNow_109 (by decide) ?_
            refine W.iret (v := (-4)) hx hb hr (fun t ht hW => ⟨⟨(-4), (), rfl, ?_, trivial⟩, hS.F ht⟩) hS.2.2 dX6_lineNow_111
            first | exact ((if_neg h0).trans ((if_neg b46).trans ((if_neg b64).trans (if_pos b82)))).symm | exact ((if_neg h0).trans ((if_neg b46).trans ((if_neg b64).trans ((if_neg b82).trans (if_pos b102))))).symm | exact ((if_neg h0).trans ((if_neg b46).trans ((if_neg b64).trans ((if_neg b82).trans (if_neg b102))))).symm
          · skip
            refine lv_iconst (v := nI 4) hx hb dX6_lineNow_105 (by decide) ?_
            refine lv_goto (tgt := 111) hx hb dX6_lineNow_106 rfl ?_
            refine W.iret (v := nI 4) hx hb hr (fun t ht hW => ⟨⟨nI 4, (), rfl, ?_, trivial⟩, hS.F ht⟩) hS.2.2 dX6_lineNow_111
            first | exact ((if_neg h0).trans ((if_neg b46).trans ((if_neg b64).trans (if_pos b82)))).symm | exact ((if_neg h0).trans ((if_neg b46).trans ((if_neg b64).trans ((if_neg b82).trans (if_pos b102))))).symm | exact ((if_neg h0).trans ((if_neg b46).trans ((if_neg b64).trans ((if_neg b82).trans (if_neg b102))))).symm
        · skip
          refine lv_iconst (v := nI 3) hx hb dX6_lineNow_85 (by decide) ?_
          refine lv_goto (tgt := 111) hx hb dX6_lineNow_86 rfl ?_
          refine W.iret (v := nI 3) hx hb hr (fun t ht hW => ⟨⟨nI 3, (), rfl, ?_, trivial⟩, hS.F ht⟩) hS.2.2 dX6_lineNow_111
          first | exact ((if_neg h0).trans ((if_neg b46).trans ((if_neg b64).trans (if_pos b82)))).symm | exact ((if_neg h0).trans ((if_neg b46).trans ((if_neg b64).trans ((if_neg b82).trans (if_pos b102))))).symm | exact ((if_neg h0).trans ((if_neg b46).trans ((if_neg b64).trans ((if_neg b82).trans (if_neg b102))))).symm
      · skip
        refine lv_iconst (v := nI 2) hx hb dX6_lineNow_67 (by decide) ?_
        refine W.iret (v := nI 2) hx hb hr (fun t ht hW => ⟨⟨nI 2, (), rfl, ?_, trivial⟩, hS.F ht⟩) hS.2.2 dX6_lineNow_68
        exact ((if_neg h0).trans ((if_neg b46).trans (if_pos b64))).symm
    · skip
      refine lv_iconst (v := nI 1) hx hb dX6_lineNow_49 (by decide) ?_
      refine W.iret (v := nI 1) hx hb hr (fun t ht hW => ⟨⟨nI 1, (), rfl, ?_, trivial⟩, hS.F ht⟩) hS.2.2 dX6_lineNow_50
      exact ((if_neg h0).trans (if_pos b46)).symm
  · skip
    refine lv_aload_n hx hb dX6_lineNow_16 rfl (lv_at hl 0 rfl) ?_
    refine lv_aload_n hx hb dX6_lineNow_17 rfl (lv_at hl 0 rfl) ?_
    refine va_get (D := G.1) (ci := 6) (v := .int (nI fr)) (C := RX6) (T := TX6) (N := 29) hx hb hts hin6 hown hK.1 hP 0 rfl rfl 16 (by decide) (hts (.fieldLink RX6 93 "BackLensesModel" "from" "I") (List.mem_of_getElem? (i := 1) rfl)) (fun _ h9 => h9) rfl dX6_lineNow_18 ?_
    refine lv_iconst (v := nI 4) hx hb dX6_lineNow_21 (by decide) ?_
    refine xn_iadd hx hb dX6_lineNow_22 ?_
    refine xr_i (As := [.int (nI (fr + 4))]) (rest := []) ⟨hx, hb, hml, hown, hts⟩ (c_X6_byteAt l G ko ad w h la tp dw dh dl tl tc hc hd ps fr so vl ft wa tr tb (fr + 4) (by first | assumption | omega) (by first | assumption | omega)) (cwV 1 hts gX6_lineNow_X6_byteAt rfl rfl rfl (by decide +kernel) ⟨Nat.le_of_ble_eq_true rfl, Nat.le_of_ble_eq_true rfl⟩) hK hP hS [0, 1] rfl rfl rfl rfl hl.1 rfl (Nat.le_of_ble_eq_true rfl) dX6_lineNow_23 ⟨Nat.zero_le _, Nat.zero_le _⟩ (fun r23 H locs hp23 hP hS => ?_)
    rw [show r23 = _ from hp23]
    refine lv_bipush (v := nI 101) hx hb dX6_lineNow_26 (by decide) ?_
    refine lv_icmp_ne (tgt := 33) hx hb dX6_lineNow_28 rfl (fun b28 => ?_) (fun b28 => ?_)
    · skip
      have h0 : ¬ (mIs tb tp ps fr 5 104 111 117 115 ∧ byF tb tp (fr + 4) = nI 101) := fun q => b28 q.2
      refine lv_aload_n hx hb dX6_lineNow_33 rfl (lv_at hl 0 rfl) ?_
      refine lv_iconst (v := nI 4) hx hb dX6_lineNow_34 (by decide) ?_
      refine lv_bipush (v := nI 108) hx hb dX6_lineNow_35 (by decide) ?_
      refine lv_bipush (v := nI 97) hx hb dX6_lineNow_37 (by decide) ?_
      refine lv_bipush (v := nI 115) hx hb dX6_lineNow_39 (by decide) ?_
      refine lv_bipush (v := nI 116) hx hb dX6_lineNow_41 (by decide) ?_
      refine xr_i (As := [.int (nI 4), .int (nI 108), .int (nI 97), .int (nI 115), .int (nI 116)]) (rest := []) ⟨hx, hb, hml, hown, hts⟩ (c_X6_is l G ko ad w h la tp dw dh dl tl tc hc hd ps fr so vl ft wa tr tb 4 108 97 115 116 (by first | assumption | omega) (by first | assumption | omega) (by first | assumption | omega) (by first | assumption | omega)) (cwV 5 hts gX6_lineNow_X6_is rfl rfl rfl (by decide +kernel) ⟨Nat.le_of_ble_eq_true rfl, Nat.le_of_ble_eq_true rfl⟩) hK hP hS [0, 1] rfl rfl rfl rfl hl.1 rfl (Nat.le_of_ble_eq_true rfl) dX6_lineNow_43 ⟨Nat.zero_le _, Nat.zero_le _⟩ (fun r43 H locs hp43 hP hS => ?_)
      rw [show r43 = _ from hp43]
      refine xb_if_eq (tgt := 51) hx hb dX6_lineNow_46 rfl (fun b46 => ?_) (fun b46 => ?_)
      · skip
        refine lv_aload_n hx hb dX6_lineNow_51 rfl (lv_at hl 0 rfl) ?_
        refine lv_iconst (v := nI 4) hx hb dX6_lineNow_52 (by decide) ?_
        refine lv_bipush (v := nI 99) hx hb dX6_lineNow_53 (by decide) ?_
        refine lv_bipush (v := nI 101) hx hb dX6_lineNow_55 (by decide) ?_
        refine lv_bipush (v := nI 108) hx hb dX6_lineNow_57 (by decide) ?_
        refine lv_bipush (v := nI 108) hx hb dX6_lineNow_59 (by decide) ?_
        refine xr_i (As := [.int (nI 4), .int (nI 99), .int (nI 101), .int (nI 108), .int (nI 108)]) (rest := []) ⟨hx, hb, hml, hown, hts⟩ (c_X6_is l G ko ad w h la tp dw dh dl tl tc hc hd ps fr so vl ft wa tr tb 4 99 101 108 108 (by first | assumption | omega) (by first | assumption | omega) (by first | assumption | omega) (by first | assumption | omega)) (cwV 5 hts gX6_lineNow_X6_is rfl rfl rfl (by decide +kernel) ⟨Nat.le_of_ble_eq_true rfl, Nat.le_of_ble_eq_true rfl⟩) hK hP hS [0, 1] rfl rfl rfl rfl hl.1 rfl (Nat.le_of_ble_eq_true rfl) dX6_lineNow_61 ⟨Nat.zero_le _, Nat.zero_le _⟩ (fun r61 H locs hp61 hP hS => ?_)
        rw [show r61 = _ from hp61]
        refine xb_if_eq (tgt := 69) hx hb dX6_lineNow_64 rfl (fun b64 => ?_) (fun b64 => ?_)
        · skip
          refine lv_aload_n hx hb dX6_lineNow_69 rfl (lv_at hl 0 rfl) ?_
          refine lv_iconst (v := nI 4) hx hb dX6_lineNow_70 (by decide) ?_
          refine lv_bipush (v := nI 116) hx hb dX6_lineNow_71 (by decide) ?_
          refine lv_bipush (v := nI 117) hx hb dX6_lineNow_73 (by decide) ?_
          refine lv_bipush (v := nI 114) hx hb dX6_lineNow_75 (by decide) ?_
          refine lv_bipush (v := nI 110) hx hb dX6_lineNow_77 (by decide) ?_
          refine xr_i (As := [.int (nI 4), .int (nI 116), .int (nI 117), .int (nI 114), .int (nI 110)]) (rest := []) ⟨hx, hb, hml, hown, hts⟩ (c_X6_is l G ko ad w h la tp dw dh dl tl tc hc hd ps fr so vl ft wa tr tb 4 116 117 114 110 (by first | assumption | omega) (by first | assumption | omega) (by first | assumption | omega) (by first | assumption | omega)) (cwV 5 hts gX6_lineNow_X6_is rfl rfl rfl (by decide +kernel) ⟨Nat.le_of_ble_eq_true rfl, Nat.le_of_ble_eq_true rfl⟩) hK hP hS [0, 1] rfl rfl rfl rfl hl.1 rfl (Nat.le_of_ble_eq_true rfl) dX6_lineNow_79 ⟨Nat.zero_le _, Nat.zero_le _⟩ (fun r79 H locs hp79 hP hS => ?_)
          rw [show r79 = _ from hp79]
          refine xb_if_eq (tgt := 89) hx hb dX6_lineNow_82 rfl (fun b82 => ?_) (fun b82 => ?_)
          · skip
            refine lv_aload_n hx hb dX6_lineNow_89 rfl (lv_at hl 0 rfl) ?_
            refine lv_iconst (v := nI 4) hx hb dX6_lineNow_90 (by decide) ?_
            refine lv_bipush (v := nI 108) hx hb dX6_lineNow_91 (by decide) ?_
            refine lv_bipush (v := nI 101) hx hb dX6_lineNow_93 (by decide) ?_
            refine lv_bipush (v := nI 110) hx hb dX6_lineNow_95 (by decide) ?_
            refine lv_bipush (v := nI 115) hx hb dX6_lineNow_97 (by decide) ?_
            refine xr_i (As := [.int (nI 4), .int (nI 108), .int (nI 101), .int (nI 110), .int (nI 115)]) (rest := []) ⟨hx, hb, hml, hown, hts⟩ (c_X6_is l G ko ad w h la tp dw dh dl tl tc hc hd ps fr so vl ft wa tr tb 4 108 101 110 115 (by first | assumption | omega) (by first | assumption | omega) (by first | assumption | omega) (by first | assumption | omega)) (cwV 5 hts gX6_lineNow_X6_is rfl rfl rfl (by decide +kernel) ⟨Nat.le_of_ble_eq_true rfl, Nat.le_of_ble_eq_true rfl⟩) hK hP hS [0, 1] rfl rfl rfl rfl hl.1 rfl (Nat.le_of_ble_eq_true rfl) dX6_lineNow_99 ⟨Nat.zero_le _, Nat.zero_le _⟩ (fun r99 H locs hp99 hP hS => ?_)
            rw [show r99 = _ from hp99]
            refine xb_if_eq (tgt := 109) hx hb dX6_lineNow_102 rfl (fun b102 => ?_) (fun b102 => ?_)
            · skip
              refine lv_bipush (v := (-4)) hx hb dX6_lineNow_109 (by decide) ?_
              refine W.iret (v := (-4)) hx hb hr (fun t ht hW => ⟨⟨(-4), (), rfl, ?_, trivial⟩, hS.F ht⟩) hS.2.2 dX6_lineNow_111
              first | exact ((if_neg h0).trans ((if_neg b46).trans ((if_neg b64).trans (if_pos b82)))).symm | exact ((if_neg h0).trans ((if_neg b46).trans ((if_neg b64).trans ((if_neg b82).trans (if_pos b102))))).symm | exact ((if_neg h0).trans ((if_neg b46).trans ((if_neg b64).trans ((if_neg b82).trans (if_neg b102))))).symm
            · skip
              refine lv_iconst (v := nI 4) hx hb dX6_lineNow_105 (by decide) ?_
              refine lv_goto (tgt := 111) hx hb dX6_lineNow_106 rfl ?_
              refine W.iret (v := nI 4) hx hb hr (fun t ht hW => ⟨⟨nI 4, (), rfl, ?_, trivial⟩, hS.F ht⟩) hS.2.2 dX6_lineNow_111
              first | exact ((if_neg h0).trans ((if_neg b46).trans ((if_neg b64).trans (if_pos b82)))).symm | exact ((if_neg h0).trans ((if_neg b46).trans ((if_neg b64).trans ((if_neg b82).trans (if_pos b102))))).symm | exact ((if_neg h0).trans ((if_neg b46).trans ((if_neg b64).trans ((if_neg b82).trans (if_neg b102))))).symm
          · skip
            refine lv_iconst (v := nI 3) hx hb dX6_lineNow_85 (by decide) ?_
            refine lv_goto (tgt := 111) hx hb dX6_lineNow_86 rfl ?_
            refine W.iret (v := nI 3) hx hb hr (fun t ht hW => ⟨⟨nI 3, (), rfl, ?_, trivial⟩, hS.F ht⟩) hS.2.2 dX6_lineNow_111
            first | exact ((if_neg h0).trans ((if_neg b46).trans ((if_neg b64).trans (if_pos b82)))).symm | exact ((if_neg h0).trans ((if_neg b46).trans ((if_neg b64).trans ((if_neg b82).trans (if_pos b102))))).symm | exact ((if_neg h0).trans ((if_neg b46).trans ((if_neg b64).trans ((if_neg b82).trans (if_neg b102))))).symm
        · skip
          refine lv_iconst (v := nI 2) hx hb dX6_lineNow_67 (by decide) ?_
          refine W.iret (v := nI 2) hx hb hr (fun t ht hW => ⟨⟨nI 2, (), rfl, ?_, trivial⟩, hS.F ht⟩) hS.2.2 dX6_lineNow_68
          exact ((if_neg h0).trans ((if_neg b46).trans (if_pos b64))).symm
      · skip
        refine lv_iconst (v := nI 1) hx hb dX6_lineNow_49 (by decide) ?_
        refine W.iret (v := nI 1) hx hb hr (fun t ht hW => ⟨⟨nI 1, (), rfl, ?_, trivial⟩, hS.F ht⟩) hS.2.2 dX6_lineNow_50
        exact ((if_neg h0).trans (if_pos b46)).symm
    · skip
      refine lv_iconst (v := nI 0) hx hb dX6_lineNow_31 (by decide) ?_
      refine W.iret (v := nI 0) hx hb hr (fun t ht hW => ⟨⟨nI 0, (), rfl, ?_, trivial⟩, hS.F ht⟩) hS.2.2 dX6_lineNow_32
      exact (if_pos ⟨b13, b28⟩).symm

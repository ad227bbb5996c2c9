section
abbrev w_X6_readCellBut (G : XG) (ko : Nat) (ad : Nat → Nat) (w h la tp : Nat) (dw dh dl : Nat) (tl tc hc hd : Int32) (ps fr so : Nat) (vl : Int32) (ft : Nat) (wa tr : Int32) (tb : Nat → Int32) : va_W := [oC ko 6 [.ref (ad 0), .ref (ad 1), .int (nI w), .int (nI h), .int (nI la), .ref (ad 2), .int (nI dw), .int (nI dh), .int (nI dl), .int tl, .int tc, .int hc, .int hd, .ref (ad 3), .int (nI tp), .int (nI ps), .int (nI fr), .int (nI so), .int vl, .int (nI ft), .int wa, .ref (ad 4), .ref (ad 5), .ref (ad 6), .ref (ad 7), .ref (ad 8), .ref (ad 9), .ref (ad 10), .int tr], iA G (ad 3) 160 tb]
abbrev Q_X6_readCellBut (G : XG) (sz : Nat) (ko : Nat) (ad : Nat → Nat) (w h la tp : Nat) (dw dh dl : Nat) (tl tc hc hd : Int32) (ps fr so : Nat) (vl : Int32) (ft : Nat) (wa tr : Int32) (tb : Nat → Int32) (sm : Int32) : Array Value → State → Outcome → State → Prop := (va_Qi (fun (r : Int32) (u : Nat × Nat × Nat × Int32 × Nat × Int32 × Int32) => r = (mCel tb tp sm hc (ps, fr, so, vl, ft, wa)).1 ∧ (u.2.2.2.2.2.2, (u.1, u.2.1, u.2.2.1, u.2.2.2.1, u.2.2.2.2.1, u.2.2.2.2.2.1)) = (mCel tb tp sm hc (ps, fr, so, vl, ft, wa)).2) (xWb G sz (w_X6_readCellBut G ko ad w h la tp dw dh dl tl tc hc hd ps fr so vl ft wa tr tb) (fun u : Nat × Nat × Nat × Int32 × Nat × Int32 × Int32 => [oC ko 6 [.ref (ad 0), .ref (ad 1), .int (nI w), .int (nI h), .int (nI la), .ref (ad 2), .int (nI dw), .int (nI dh), .int (nI dl), .int tl, .int tc, .int u.2.2.2.2.2.2, .int hd, .ref (ad 3), .int (nI tp), .int (nI u.1), .int (nI u.2.1), .int (nI u.2.2.1), .int u.2.2.2.1, .int (nI u.2.2.2.2.1), .int u.2.2.2.2.2.1, .ref (ad 4), .ref (ad 5), .ref (ad 6), .ref (ad 7), .ref (ad 8), .ref (ad 9), .ref (ad 10), .int tr], iA G (ad 3) 160 tb])) (va_A (w_X6_readCellBut G ko ad w h la tp dw dh dl tl tc hc hd ps fr so vl ft wa tr tb) sz))
set_option maxHeartbeats 4000000 in
set_option maxRecDepth 100000 in
theorem c_X6_readCellBut (l : Launch) (G : XG) (sz : Nat) (ko : Nat) (ad : Nat → Nat) (w h la tp : Nat) (dw dh dl : Nat) (tl tc hc hd : Int32) (ps fr so : Nat) (vl : Int32) (ft : Nat) (wa tr : Int32) (tb : Nat → Int32) (sm : Int32) (htp : tp ≤ 160) (hps : ps ≤ tp) (htk : tpOk tb tp) (hft : ft ≤ 6) (hso : so ≤ 3) : Met l yX6_readCellBut wsX6_readCellBut ({ frames := 2, cells := 0, slots := 0, locals := 47 } : Room) (va_Pc [.ref ko, .int sm] (xWp G sz (w_X6_readCellBut G ko ad w h la tp dw dh dl tl tc hc hd ps fr so vl ft wa tr tb))) (Q_X6_readCellBut G sz ko ad w h la tp dw dh dl tl tc hc hd ps fr so vl ft wa tr tb sm) 0 0 (va_A (w_X6_readCellBut G ko ad w h la tp dw dh dl tl tc hc hd ps fr so vl ft wa tr tb) sz) := by
  refine Met.ofW (cc := cX6_readCellBut) (maxL := 3) (ret := (some .int)) (by decide) rfl ?_
  intro pp ee ss mm aa below mt cd s₁ BB hml hv
  obtain ⟨rfl, hsz, hP, hK, hD0⟩ := hv
  have hx := BB.exec
  have hb := BB.bytes
  have hr := BB.returns
  have hts := atoms_spec (ws := wsX6_readCellBut) BB.pre
  have hown : ss.vm.findClass RX6 = some mm.cls := findClass_of_methodNamed BB.named
  have hlocks := BB.notSynchronized
  subst hsz
  have hD := hD0.self (sz := ss.heap.size)
  have hA : ∀ q : Nat, ss.heap.size ≤ q → va_A (w_X6_readCellBut G ko ad w h la tp dw dh dl tl tc hc hd ps fr so vl ft wa tr tb) ss.heap.size q := fun q h => Or.inr h
  have hS : va_S (va_A (w_X6_readCellBut G ko ad w h la tp dw dh dl tl tc hc hd ps fr so vl ft wa tr tb) ss.heap.size) ss.heap ss.heap [] := va_S.rf
  replace hD : va_D (va_A (w_X6_readCellBut G ko ad w h la tp dw dh dl tl tc hc hd ps fr so vl ft wa tr tb) ss.heap.size) [oC ko 6 [.ref (ad 0), .ref (ad 1), .int (nI w), .int (nI h), .int (nI la), .ref (ad 2), .int (nI dw), .int (nI dh), .int (nI dl), .int tl, .int tc, .int hc, .int hd, .ref (ad 3), .int (nI tp), .int (nI ps), .int (nI fr), .int (nI so), .int vl, .int (nI ft), .int wa, .ref (ad 4), .ref (ad 5), .ref (ad 6), .ref (ad 7), .ref (ad 8), .ref (ad 9), .ref (ad 10), .int tr], iA G (ad 3) 160 tb] := hD
  replace hP : xP G [oC ko 6 [.ref (ad 0), .ref (ad 1), .int (nI w), .int (nI h), .int (nI la), .ref (ad 2), .int (nI dw), .int (nI dh), .int (nI dl), .int tl, .int tc, .int hc, .int hd, .ref (ad 3), .int (nI tp), .int (nI ps), .int (nI fr), .int (nI so), .int vl, .int (nI ft), .int wa, .ref (ad 4), .ref (ad 5), .ref (ad 6), .ref (ad 7), .ref (ad 8), .ref (ad 9), .ref (ad 10), .int tr], iA G (ad 3) 160 tb] ss.heap := hP
  have hin6 : ∀ w ∈ u_ws RX6 TX6 29, w ∈ wsX6_readCellBut := fun w h => List.mem_cons_of_mem _ (List.mem_append_right _ h)
  have hl := lv_entry ([.ref ko, .int sm]) (n := 3) (Nat.le_of_ble_eq_true rfl)
  rw [lg_entry_eq]
  generalize (lg_sl ([.ref ko, .int sm]) ++ List.replicate (3 - (lg_sl ([.ref ko, .int sm])).length) Slot.unset).toArray = ls at hl ⊢
  replace hl : lv_has ls 3 [(0, .ref ko), (1, .int sm)] := hl
  refine lv_aload_n hx hb dX6_readCellBut_0 rfl (lv_at hl 0 rfl) ?_
  refine lv_iconst (v := nI 0) hx hb dX6_readCellBut_1 (by decide) ?_
  refine lv_bipush (v := nI 15) hx hb dX6_readCellBut_2 (by decide) ?_
  refine xw_i (As := [.int (nI 0), .int (nI 15)]) (rest := []) (wr := [iA G (ad 3) 160 tb]) ⟨hx, hb, hml, hown, hts⟩ (c_X6_looked l G ss.heap.size ko ad w h la tp dw dh dl tl tc hc hd ps fr so vl ft wa tr 0 15 (by first | assumption | omega) (by first | assumption | omega) (by first | assumption | omega) (by first | assumption | omega)) (cwV 2 hts gX6_readCellBut_X6_looked rfl rfl rfl (by decide +kernel) ⟨Nat.le_of_ble_eq_true rfl, Nat.le_of_ble_eq_true rfl⟩) hK hP hD hS hA [0] [1] rfl rfl (by decide) (by decide) (by decide) rfl rfl rfl hl.1 rfl (Nat.le_of_ble_eq_true rfl) dX6_readCellBut_4 ⟨Nat.le_of_ble_eq_true rfl, Nat.le_of_ble_eq_true rfl⟩ (fun r4 u H locs hp4 hP hD hS => ?_)
  obtain ⟨ft2_4, wa2_4⟩ := u
  try dsimp only at hp4 hP hD
  obtain ⟨rfl, he4⟩ := hp4
  replace hP : xP G [iA G (ad 3) 160 tb, oC ko 6 [.ref (ad 0), .ref (ad 1), .int (nI w), .int (nI h), .int (nI la), .ref (ad 2), .int (nI dw), .int (nI dh), .int (nI dl), .int tl, .int tc, .int hc, .int hd, .ref (ad 3), .int (nI tp), .int (nI ps), .int (nI fr), .int (nI so), .int vl, .int (nI ft2_4), .int wa2_4, .ref (ad 4), .ref (ad 5), .ref (ad 6), .ref (ad 7), .ref (ad 8), .ref (ad 9), .ref (ad 10), .int tr]] H := hP
  replace hD : va_D (va_A (w_X6_readCellBut G ko ad w h la tp dw dh dl tl tc hc hd ps fr so vl ft wa tr tb) ss.heap.size) [iA G (ad 3) 160 tb, oC ko 6 [.ref (ad 0), .ref (ad 1), .int (nI w), .int (nI h), .int (nI la), .ref (ad 2), .int (nI dw), .int (nI dh), .int (nI dl), .int tl, .int tc, .int hc, .int hd, .ref (ad 3), .int (nI tp), .int (nI ps), .int (nI fr), .int (nI so), .int vl, .int (nI ft2_4), .int wa2_4, .ref (ad 4), .ref (ad 5), .ref (ad 6), .ref (ad 7), .ref (ad 8), .ref (ad 9), .ref (ad 10), .int tr]] := hD
  have hf4 : ft2_4 ≤ 6 := (by have q := (mLoo_bd (lo := 0) (hi := 15) (s := (ps, fr, so, vl, ft, wa))).2 hft; rw [← he4] at q; exact q)
  refine lv_istore_n (lv' := [(2, .int ((mLoo 0 15 (ps, fr, so, vl, ft, wa)).1)), (0, .ref ko), (1, .int sm)]) hx hb dX6_readCellBut_7 rfl hl (by decide) rfl (fun ls hl => ?_)
  refine lv_aload_n hx hb dX6_readCellBut_8 rfl (lv_at hl 1 rfl) ?_
  refine va_get (D := G.1) (ci := 6) (v := .int (nI ft2_4)) (C := RX6) (T := TX6) (N := 29) hx hb hts hin6 hown hK.1 hP 1 rfl rfl 19 (by decide) (hts (.fieldLink RX6 90 "BackLensesModel" "fault" "I") (List.mem_of_getElem? (i := 1) rfl)) (fun _ h9 => h9) rfl dX6_readCellBut_9 ?_
  refine xn_if_ne (tgt := 33) hx hb (by omega) dX6_readCellBut_12 rfl (fun b12 => ?_) (fun b12 => ?_)
  · skip
    have hz : (mLoo 0 15 (ps, fr, so, vl, ft, wa)).2.2.2.2.2.1 = ft2_4 := (by rw [← he4])
    have hB : mBut sm (mLoo 0 15 (ps, fr, so, vl, ft, wa)) = (ps, fr, so, vl, ft2_4, wa2_4) := (by first | exact (if_neg (fun q => b12 (hz ▸ q))).trans he4.symm | exact (if_pos (hz.trans b12)).trans ((if_pos b21).trans he4.symm) | exact (if_pos (hz.trans b12)).trans ((if_neg b21).trans (congrArg (mF 4) he4.symm)))
    have hzB : (mBut sm (mLoo 0 15 (ps, fr, so, vl, ft, wa))).2.2.2.2.1 = ft2_4 := congrArg (fun a : MS => a.2.2.2.2.1) hB
    refine lv_aload_n hx hb dX6_readCellBut_33 rfl (lv_at hl 1 rfl) ?_
    refine lv_aload_n hx hb dX6_readCellBut_34 rfl (lv_at hl 1 rfl) ?_
    refine va_get (D := G.1) (ci := 6) (v := .int (nI ft2_4)) (C := RX6) (T := TX6) (N := 29) hx hb hts hin6 hown hK.1 hP 1 rfl rfl 19 (by decide) (hts (.fieldLink RX6 90 "BackLensesModel" "fault" "I") (List.mem_of_getElem? (i := 1) rfl)) (fun _ h9 => h9) rfl dX6_readCellBut_35 ?_
    refine xn_if_ne (tgt := 53) hx hb (by omega) dX6_readCellBut_38 rfl (fun b38 => ?_) (fun b38 => ?_)
    · skip
      refine lv_aload_n hx hb dX6_readCellBut_53 rfl (lv_at hl 1 rfl) ?_
      refine va_get (D := G.1) (ci := 6) (v := .int hc) (C := RX6) (T := TX6) (N := 29) hx hb hts hin6 hown hK.1 hP 1 rfl rfl 11 (by decide) (hts (.fieldLink RX6 66 "BackLensesModel" "highestCell" "I") (List.mem_of_getElem? (i := 2) rfl)) (fun _ h9 => h9) rfl dX6_readCellBut_54 ?_
      refine va_put (D := G.1) (ci := 6) (v := .int hc) (ty := .int) (C := RX6) (T := TX6) (N := 29) hx hb hts hin6 tyX6 tyX6_ok nmX6 hown hK.1 hP hD hS 1 rfl rfl 11 (by decide) (hts (.fieldLink RX6 66 "BackLensesModel" "highestCell" "I") (List.mem_of_getElem? (i := 2) rfl)) (fun _ h9 => h9) rfl (by decide +kernel) rfl rfl (Nat.le_of_ble_eq_true rfl) dX6_readCellBut_57 (fun H locs hP hD hS => ?_)
      replace hP : xP G [iA G (ad 3) 160 tb, oC ko 6 [.ref (ad 0), .ref (ad 1), .int (nI w), .int (nI h), .int (nI la), .ref (ad 2), .int (nI dw), .int (nI dh), .int (nI dl), .int tl, .int tc, .int hc, .int hd, .ref (ad 3), .int (nI tp), .int (nI ps), .int (nI fr), .int (nI so), .int vl, .int (nI ft2_4), .int wa2_4, .ref (ad 4), .ref (ad 5), .ref (ad 6), .ref (ad 7), .ref (ad 8), .ref (ad 9), .ref (ad 10), .int tr]] H := hP
      replace hD : va_D (va_A (w_X6_readCellBut G ko ad w h la tp dw dh dl tl tc hc hd ps fr so vl ft wa tr tb) ss.heap.size) [iA G (ad 3) 160 tb, oC ko 6 [.ref (ad 0), .ref (ad 1), .int (nI w), .int (nI h), .int (nI la), .ref (ad 2), .int (nI dw), .int (nI dh), .int (nI dl), .int tl, .int tc, .int hc, .int hd, .ref (ad 3), .int (nI tp), .int (nI ps), .int (nI fr), .int (nI so), .int vl, .int (nI ft2_4), .int wa2_4, .ref (ad 4), .ref (ad 5), .ref (ad 6), .ref (ad 7), .ref (ad 8), .ref (ad 9), .ref (ad 10), .int tr]] := hD
      refine lv_aload_n hx hb dX6_readCellBut_60 rfl (lv_at hl 1 rfl) ?_
      refine xw_v (As := []) (rest := []) (wr := []) ⟨hx, hb, hml, hown, hts⟩ (c_X6_nextToken l G H.size ko ad w h la tp dw dh dl tl tc hc hd ps fr so vl ft2_4 wa2_4 tr tb (by first | assumption | omega) (by first | assumption | omega) (by first | assumption | omega) (by first | assumption | omega)) (cwV 0 hts gX6_readCellBut_X6_nextToken rfl rfl rfl (by decide +kernel) ⟨Nat.le_of_ble_eq_true rfl, Nat.le_of_ble_eq_true rfl⟩) hK hP hD hS hA [1, 0] [] rfl rfl (by decide) (by decide) (by decide) rfl rfl rfl hl.1 rfl (Nat.le_of_ble_eq_true rfl) dX6_readCellBut_61 ⟨Nat.le_of_ble_eq_true rfl, Nat.le_of_ble_eq_true rfl⟩ (fun u H locs hp61 hP hD hS => ?_)
      obtain ⟨ps2_61, fr2_61, so2_61, vl2_61, ft2_61, wa2_61⟩ := u
      try dsimp only at hp61 hP hD
      have he61 := hp61
      replace hP : xP G [oC ko 6 [.ref (ad 0), .ref (ad 1), .int (nI w), .int (nI h), .int (nI la), .ref (ad 2), .int (nI dw), .int (nI dh), .int (nI dl), .int tl, .int tc, .int hc, .int hd, .ref (ad 3), .int (nI tp), .int (nI ps2_61), .int (nI fr2_61), .int (nI so2_61), .int vl2_61, .int (nI ft2_61), .int wa2_61, .ref (ad 4), .ref (ad 5), .ref (ad 6), .ref (ad 7), .ref (ad 8), .ref (ad 9), .ref (ad 10), .int tr], iA G (ad 3) 160 tb] H := hP
      replace hD : va_D (va_A (w_X6_readCellBut G ko ad w h la tp dw dh dl tl tc hc hd ps fr so vl ft wa tr tb) ss.heap.size) [oC ko 6 [.ref (ad 0), .ref (ad 1), .int (nI w), .int (nI h), .int (nI la), .ref (ad 2), .int (nI dw), .int (nI dh), .int (nI dl), .int tl, .int tc, .int hc, .int hd, .ref (ad 3), .int (nI tp), .int (nI ps2_61), .int (nI fr2_61), .int (nI so2_61), .int vl2_61, .int (nI ft2_61), .int wa2_61, .ref (ad 4), .ref (ad 5), .ref (ad 6), .ref (ad 7), .ref (ad 8), .ref (ad 9), .ref (ad 10), .int tr], iA G (ad 3) 160 tb] := hD
      refine lv_iload_n hx hb dX6_readCellBut_64 rfl (lv_at hl 0 rfl) ?_
      have hP := hP.sub (ws' := [oC ko 6 [.ref (ad 0), .ref (ad 1), .int (nI w), .int (nI h), .int (nI la), .ref (ad 2), .int (nI dw), .int (nI dh), .int (nI dl), .int tl, .int tc, .int hc, .int hd, .ref (ad 3), .int (nI tp), .int (nI ps2_61), .int (nI fr2_61), .int (nI so2_61), .int vl2_61, .int (nI ft2_61), .int wa2_61, .ref (ad 4), .ref (ad 5), .ref (ad 6), .ref (ad 7), .ref (ad 8), .ref (ad 9), .ref (ad 10), .int tr], iA G (ad 3) 160 tb]) [0, 1] rfl
      have hD := hD.sub (ws' := [oC ko 6 [.ref (ad 0), .ref (ad 1), .int (nI w), .int (nI h), .int (nI la), .ref (ad 2), .int (nI dw), .int (nI dh), .int (nI dl), .int tl, .int tc, .int hc, .int hd, .ref (ad 3), .int (nI tp), .int (nI ps2_61), .int (nI fr2_61), .int (nI so2_61), .int vl2_61, .int (nI ft2_61), .int wa2_61, .ref (ad 4), .ref (ad 5), .ref (ad 6), .ref (ad 7), .ref (ad 8), .ref (ad 9), .ref (ad 10), .int tr], iA G (ad 3) 160 tb]) [0, 1] (by decide) rfl
      refine W.iret (v := (mLoo 0 15 (ps, fr, so, vl, ft, wa)).1) hx hb hr (fun t ht hW => ⟨⟨(mLoo 0 15 (ps, fr, so, vl, ft, wa)).1, (ps2_61, fr2_61, so2_61, vl2_61, ft2_61, wa2_61, hc), rfl, ?_, by rw [ht]; exact hP, hD⟩, hS.F ht⟩) hS.2.2 dX6_readCellBut_65
      try dsimp only
      refine ⟨rfl, (congrArg (fun a => (_, a)) (he61.trans (congrArg (mTok tb tp) hB.symm))).trans (congrArg (fun a => (a, mTok tb tp (mBut sm (mLoo 0 15 (ps, fr, so, vl, ft, wa))))) ?_)⟩; first | exact (if_neg (fun q => b38 (hzB ▸ q.1))).symm | exact (if_neg (fun q => absurd (hzB.symm.trans q.1) (by decide))).symm | exact (if_neg (fun q => absurd q.2 (by omega))).symm | exact (if_pos ⟨hzB.trans b38, by omega⟩).symm
    · skip
      refine lv_iload_n hx hb dX6_readCellBut_41 rfl (lv_at hl 0 rfl) ?_
      refine lv_aload_n hx hb dX6_readCellBut_42 rfl (lv_at hl 1 rfl) ?_
      refine va_get (D := G.1) (ci := 6) (v := .int hc) (C := RX6) (T := TX6) (N := 29) hx hb hts hin6 hown hK.1 hP 1 rfl rfl 11 (by decide) (hts (.fieldLink RX6 66 "BackLensesModel" "highestCell" "I") (List.mem_of_getElem? (i := 2) rfl)) (fun _ h9 => h9) rfl dX6_readCellBut_43 ?_
      refine xi_icmp_le (tgt := 53) hx hb dX6_readCellBut_46 rfl (fun b46 => ?_) (fun b46 => ?_)
      · skip
        refine lv_aload_n hx hb dX6_readCellBut_53 rfl (lv_at hl 1 rfl) ?_
        refine va_get (D := G.1) (ci := 6) (v := .int hc) (C := RX6) (T := TX6) (N := 29) hx hb hts hin6 hown hK.1 hP 1 rfl rfl 11 (by decide) (hts (.fieldLink RX6 66 "BackLensesModel" "highestCell" "I") (List.mem_of_getElem? (i := 2) rfl)) (fun _ h9 => h9) rfl dX6_readCellBut_54 ?_
        refine va_put (D := G.1) (ci := 6) (v := .int hc) (ty := .int) (C := RX6) (T := TX6) (N := 29) hx hb hts hin6 tyX6 tyX6_ok nmX6 hown hK.1 hP hD hS 1 rfl rfl 11 (by decide) (hts (.fieldLink RX6 66 "BackLensesModel" "highestCell" "I") (List.mem_of_getElem? (i := 2) rfl)) (fun _ h9 => h9) rfl (by decide +kernel) rfl rfl (Nat.le_of_ble_eq_true rfl) dX6_readCellBut_57 (fun H locs hP hD hS => ?_)
        replace hP : xP G [iA G (ad 3) 160 tb, oC ko 6 [.ref (ad 0), .ref (ad 1), .int (nI w), .int (nI h), .int (nI la), .ref (ad 2), .int (nI dw), .int (nI dh), .int (nI dl), .int tl, .int tc, .int hc, .int hd, .ref (ad 3), .int (nI tp), .int (nI ps), .int (nI fr), .int (nI so), .int vl, .int (nI ft2_4), .int wa2_4, .ref (ad 4), .ref (ad 5), .ref (ad 6), .ref (ad 7), .ref (ad 8), .ref (ad 9), .ref (ad 10), .int tr]] H := hP
        replace hD : va_D (va_A (w_X6_readCellBut G ko ad w h la tp dw dh dl tl tc hc hd ps fr so vl ft wa tr tb) ss.heap.size) [iA G (ad 3) 160 tb, oC ko 6 [.ref (ad 0), .ref (ad 1), .int (nI w), .int (nI h), .int (nI la), .ref (ad 2), .int (nI dw), .int (nI dh), .int (nI dl), .int tl, .int tc, .int hc, .int hd, .ref (ad 3), .int (nI tp), .int (nI ps), .int (nI fr), .int (nI so), .int vl, .int (nI ft2_4), .int wa2_4, .ref (ad 4), .ref (ad 5), .ref (ad 6), .ref (ad 7), .ref (ad 8), .ref (ad 9), .ref (ad 10), .int tr]] := hD
        refine lv_aload_n hx hb dX6_readCellBut_60 rfl (lv_at hl 1 rfl) ?_
        refine xw_v (As := []) (rest := []) (wr := []) ⟨hx, hb, hml, hown, hts⟩ (c_X6_nextToken l G H.size ko ad w h la tp dw dh dl tl tc hc hd ps fr so vl ft2_4 wa2_4 tr tb (by first | assumption | omega) (by first | assumption | omega) (by first | assumption | omega) (by first | assumption | omega)) (cwV 0 hts gX6_readCellBut_X6_nextToken rfl rfl rfl (by decide +kernel) ⟨Nat.le_of_ble_eq_true rfl, Nat.le_of_ble_eq_true rfl⟩) hK hP hD hS hA [1, 0] [] rfl rfl (by decide) (by decide) (by decide) rfl rfl rfl hl.1 rfl (Nat.le_of_ble_eq_true rfl) dX6_readCellBut_61 ⟨Nat.le_of_ble_eq_true rfl, Nat.le_of_ble_eq_true rfl⟩ (fun u H locs hp61 hP hD hS => ?_)
        obtain ⟨ps2_61, fr2_61, so2_61, vl2_61, ft2_61, wa2_61⟩ := u
        try dsimp only at hp61 hP hD
        have he61 := hp61
        replace hP : xP G [oC ko 6 [.ref (ad 0), .ref (ad 1), .int (nI w), .int (nI h), .int (nI la), .ref (ad 2), .int (nI dw), .int (nI dh), .int (nI dl), .int tl, .int tc, .int hc, .int hd, .ref (ad 3), .int (nI tp), .int (nI ps2_61), .int (nI fr2_61), .int (nI so2_61), .int vl2_61, .int (nI ft2_61), .int wa2_61, .ref (ad 4), .ref (ad 5), .ref (ad 6), .ref (ad 7), .ref (ad 8), .ref (ad 9), .ref (ad 10), .int tr], iA G (ad 3) 160 tb] H := hP
        replace hD : va_D (va_A (w_X6_readCellBut G ko ad w h la tp dw dh dl tl tc hc hd ps fr so vl ft wa tr tb) ss.heap.size) [oC ko 6 [.ref (ad 0), .ref (ad 1), .int (nI w), .int (nI h), .int (nI la), .ref (ad 2), .int (nI dw), .int (nI dh), .int (nI dl), .int tl, .int tc, .int hc, .int hd, .ref (ad 3), .int (nI tp), .int (nI ps2_61), .int (nI fr2_61), .int (nI so2_61), .int vl2_61, .int (nI ft2_61), .int wa2_61, .ref (ad 4), .ref (ad 5), .ref (ad 6), .ref (ad 7), .ref (ad 8), .ref (ad 9), .ref (ad 10), .int tr], iA G (ad 3) 160 tb] := hD
        refine lv_iload_n hx hb dX6_readCellBut_64 rfl (lv_at hl 0 rfl) ?_
        have hP := hP.sub (ws' := [oC ko 6 [.ref (ad 0), .ref (ad 1), .int (nI w), .int (nI h), .int (nI la), .ref (ad 2), .int (nI dw), .int (nI dh), .int (nI dl), .int tl, .int tc, .int hc, .int hd, .ref (ad 3), .int (nI tp), .int (nI ps2_61), .int (nI fr2_61), .int (nI so2_61), .int vl2_61, .int (nI ft2_61), .int wa2_61, .ref (ad 4), .ref (ad 5), .ref (ad 6), .ref (ad 7), .ref (ad 8), .ref (ad 9), .ref (ad 10), .int tr], iA G (ad 3) 160 tb]) [0, 1] rfl
        have hD := hD.sub (ws' := [oC ko 6 [.ref (ad 0), .ref (ad 1), .int (nI w), .int (nI h), .int (nI la), .ref (ad 2), .int (nI dw), .int (nI dh), .int (nI dl), .int tl, .int tc, .int hc, .int hd, .ref (ad 3), .int (nI tp), .int (nI ps2_61), .int (nI fr2_61), .int (nI so2_61), .int vl2_61, .int (nI ft2_61), .int wa2_61, .ref (ad 4), .ref (ad 5), .ref (ad 6), .ref (ad 7), .ref (ad 8), .ref (ad 9), .ref (ad 10), .int tr], iA G (ad 3) 160 tb]) [0, 1] (by decide) rfl
        refine W.iret (v := (mLoo 0 15 (ps, fr, so, vl, ft, wa)).1) hx hb hr (fun t ht hW => ⟨⟨(mLoo 0 15 (ps, fr, so, vl, ft, wa)).1, (ps2_61, fr2_61, so2_61, vl2_61, ft2_61, wa2_61, hc), rfl, ?_, by rw [ht]; exact hP, hD⟩, hS.F ht⟩) hS.2.2 dX6_readCellBut_65
        try dsimp only
        refine ⟨rfl, (congrArg (fun a => (_, a)) (he61.trans (congrArg (mTok tb tp) hB.symm))).trans (congrArg (fun a => (a, mTok tb tp (mBut sm (mLoo 0 15 (ps, fr, so, vl, ft, wa))))) ?_)⟩; first | exact (if_neg (fun q => b38 (hzB ▸ q.1))).symm | exact (if_neg (fun q => absurd (hzB.symm.trans q.1) (by decide))).symm | exact (if_neg (fun q => absurd q.2 (by omega))).symm | exact (if_pos ⟨hzB.trans b38, by omega⟩).symm
      · skip
        refine lv_iload_n hx hb dX6_readCellBut_49 rfl (lv_at hl 0 rfl) ?_
        refine lv_goto (tgt := 57) hx hb dX6_readCellBut_50 rfl ?_
        refine va_put (D := G.1) (ci := 6) (v := .int ((mLoo 0 15 (ps, fr, so, vl, ft, wa)).1)) (ty := .int) (C := RX6) (T := TX6) (N := 29) hx hb hts hin6 tyX6 tyX6_ok nmX6 hown hK.1 hP hD hS 1 rfl rfl 11 (by decide) (hts (.fieldLink RX6 66 "BackLensesModel" "highestCell" "I") (List.mem_of_getElem? (i := 2) rfl)) (fun _ h9 => h9) rfl (by decide +kernel) rfl rfl (Nat.le_of_ble_eq_true rfl) dX6_readCellBut_57 (fun H locs hP hD hS => ?_)
        replace hP : xP G [iA G (ad 3) 160 tb, oC ko 6 [.ref (ad 0), .ref (ad 1), .int (nI w), .int (nI h), .int (nI la), .ref (ad 2), .int (nI dw), .int (nI dh), .int (nI dl), .int tl, .int tc, .int ((mLoo 0 15 (ps, fr, so, vl, ft, wa)).1), .int hd, .ref (ad 3), .int (nI tp), .int (nI ps), .int (nI fr), .int (nI so), .int vl, .int (nI ft2_4), .int wa2_4, .ref (ad 4), .ref (ad 5), .ref (ad 6), .ref (ad 7), .ref (ad 8), .ref (ad 9), .ref (ad 10), .int tr]] H := hP
        replace hD : va_D (va_A (w_X6_readCellBut G ko ad w h la tp dw dh dl tl tc hc hd ps fr so vl ft wa tr tb) ss.heap.size) [iA G (ad 3) 160 tb, oC ko 6 [.ref (ad 0), .ref (ad 1), .int (nI w), .int (nI h), .int (nI la), .ref (ad 2), .int (nI dw), .int (nI dh), .int (nI dl), .int tl, .int tc, .int ((mLoo 0 15 (ps, fr, so, vl, ft, wa)).1), .int hd, .ref (ad 3), .int (nI tp), .int (nI ps), .int (nI fr), .int (nI so), .int vl, .int (nI ft2_4), .int wa2_4, .ref (ad 4), .ref (ad 5), .ref (ad 6), .ref (ad 7), .ref (ad 8), .ref (ad 9), .ref (ad 10), .int tr]] := hD
        refine lv_aload_n hx hb dX6_readCellBut_60 rfl (lv_at hl 1 rfl) ?_
        refine xw_v (As := []) (rest := []) (wr := []) ⟨hx, hb, hml, hown, hts⟩ (c_X6_nextToken l G H.size ko ad w h la tp dw dh dl tl tc ((mLoo 0 15 (ps, fr, so, vl, ft, wa)).1) hd ps fr so vl ft2_4 wa2_4 tr tb (by first | assumption | omega) (by first | assumption | omega) (by first | assumption | omega) (by first | assumption | omega)) (cwV 0 hts gX6_readCellBut_X6_nextToken rfl rfl rfl (by decide +kernel) ⟨Nat.le_of_ble_eq_true rfl, Nat.le_of_ble_eq_true rfl⟩) hK hP hD hS hA [1, 0] [] rfl rfl (by decide) (by decide) (by decide) rfl rfl rfl hl.1 rfl (Nat.le_of_ble_eq_true rfl) dX6_readCellBut_61 ⟨Nat.le_of_ble_eq_true rfl, Nat.le_of_ble_eq_true rfl⟩ (fun u H locs hp61 hP hD hS => ?_)
        obtain ⟨ps2_61, fr2_61, so2_61, vl2_61, ft2_61, wa2_61⟩ := u
        try dsimp only at hp61 hP hD
        have he61 := hp61
        replace hP : xP G [oC ko 6 [.ref (ad 0), .ref (ad 1), .int (nI w), .int (nI h), .int (nI la), .ref (ad 2), .int (nI dw), .int (nI dh), .int (nI dl), .int tl, .int tc, .int ((mLoo 0 15 (ps, fr, so, vl, ft, wa)).1), .int hd, .ref (ad 3), .int (nI tp), .int (nI ps2_61), .int (nI fr2_61), .int (nI so2_61), .int vl2_61, .int (nI ft2_61), .int wa2_61, .ref (ad 4), .ref (ad 5), .ref (ad 6), .ref (ad 7), .ref (ad 8), .ref (ad 9), .ref (ad 10), .int tr], iA G (ad 3) 160 tb] H := hP
        replace hD : va_D (va_A (w_X6_readCellBut G ko ad w h la tp dw dh dl tl tc hc hd ps fr so vl ft wa tr tb) ss.heap.size) [oC ko 6 [.ref (ad 0), .ref (ad 1), .int (nI w), .int (nI h), .int (nI la), .ref (ad 2), .int (nI dw), .int (nI dh), .int (nI dl), .int tl, .int tc, .int ((mLoo 0 15 (ps, fr, so, vl, ft, wa)).1), .int hd, .ref (ad 3), .int (nI tp), .int (nI ps2_61), .int (nI fr2_61), .int (nI so2_61), .int vl2_61, .int (nI ft2_61), .int wa2_61, .ref (ad 4), .ref (ad 5), .ref (ad 6), .ref (ad 7), .ref (ad 8), .ref (ad 9), .ref (ad 10), .int tr], iA G (ad 3) 160 tb] := hD
        refine lv_iload_n hx hb dX6_readCellBut_64 rfl (lv_at hl 0 rfl) ?_
        have hP := hP.sub (ws' := [oC ko 6 [.ref (ad 0), .ref (ad 1), .int (nI w), .int (nI h), .int (nI la), .ref (ad 2), .int (nI dw), .int (nI dh), .int (nI dl), .int tl, .int tc, .int ((mLoo 0 15 (ps, fr, so, vl, ft, wa)).1), .int hd, .ref (ad 3), .int (nI tp), .int (nI ps2_61), .int (nI fr2_61), .int (nI so2_61), .int vl2_61, .int (nI ft2_61), .int wa2_61, .ref (ad 4), .ref (ad 5), .ref (ad 6), .ref (ad 7), .ref (ad 8), .ref (ad 9), .ref (ad 10), .int tr], iA G (ad 3) 160 tb]) [0, 1] rfl
        have hD := hD.sub (ws' := [oC ko 6 [.ref (ad 0), .ref (ad 1), .int (nI w), .int (nI h), .int (nI la), .ref (ad 2), .int (nI dw), .int (nI dh), .int (nI dl), .int tl, .int tc, .int ((mLoo 0 15 (ps, fr, so, vl, ft, wa)).1), .int hd, .ref (ad 3), .int (nI tp), .int (nI ps2_61), .int (nI fr2_61), .int (nI so2_61), .int vl2_61, .int (nI ft2_61), .int wa2_61, .ref (ad 4), .ref (ad 5), .ref (ad 6), .ref (ad 7), .ref (ad 8), .ref (ad 9), .ref (ad 10), .int tr], iA G (ad 3) 160 tb]) [0, 1] (by decide) rfl
        refine W.iret (v := (mLoo 0 15 (ps, fr, so, vl, ft, wa)).1) hx hb hr (fun t ht hW => ⟨⟨(mLoo 0 15 (ps, fr, so, vl, ft, wa)).1, (ps2_61, fr2_61, so2_61, vl2_61, ft2_61, wa2_61, ((mLoo 0 15 (ps, fr, so, vl, ft, wa)).1)), rfl, ?_, by rw [ht]; exact hP, hD⟩, hS.F ht⟩) hS.2.2 dX6_readCellBut_65
        try dsimp only
        refine ⟨rfl, (congrArg (fun a => (_, a)) (he61.trans (congrArg (mTok tb tp) hB.symm))).trans (congrArg (fun a => (a, mTok tb tp (mBut sm (mLoo 0 15 (ps, fr, so, vl, ft, wa))))) ?_)⟩; first | exact (if_neg (fun q => b38 (hzB ▸ q.1))).symm | exact (if_neg (fun q => absurd (hzB.symm.trans q.1) (by decide))).symm | exact (if_neg (fun q => absurd q.2 (by omega))).symm | exact (if_pos ⟨hzB.trans b38, by omega⟩).symm
  · skip
    refine lv_aload_n hx hb dX6_readCellBut_15 rfl (lv_at hl 1 rfl) ?_
    refine lv_iload_n hx hb dX6_readCellBut_16 rfl (lv_at hl 2 rfl) ?_
    refine lv_iload_n hx hb dX6_readCellBut_17 rfl (lv_at hl 0 rfl) ?_
    refine lv_ishr hx hb dX6_readCellBut_18 ?_
    refine lv_iconst (v := nI 1) hx hb dX6_readCellBut_19 (by decide) ?_
    refine lv_iand hx hb dX6_readCellBut_20 ?_
    refine lv_if_ne (tgt := 28) hx hb dX6_readCellBut_21 rfl (fun b21 => ?_) (fun b21 => ?_)
    · skip
      refine lv_iconst (v := nI 0) hx hb dX6_readCellBut_28 (by decide) ?_
      refine lv_iconst (v := nI 4) hx hb dX6_readCellBut_29 (by decide) ?_
      refine xw_v (As := [.int (nI 0), .int (nI 4)]) (rest := []) (wr := [iA G (ad 3) 160 tb]) ⟨hx, hb, hml, hown, hts⟩ (c_X6_needs_0 l G H.size ko ad w h la tp dw dh dl tl tc hc hd ps fr so vl ft2_4 wa2_4 tr 4 (by first | assumption | omega)) (cwV 2 hts gX6_readCellBut_X6_needs rfl rfl rfl (by decide +kernel) ⟨Nat.le_of_ble_eq_true rfl, Nat.le_of_ble_eq_true rfl⟩) hK hP hD hS hA [1] [0] rfl rfl (by decide) (by decide) (by decide) rfl rfl rfl hl.1 rfl (Nat.le_of_ble_eq_true rfl) dX6_readCellBut_30 ⟨Nat.le_of_ble_eq_true rfl, Nat.le_of_ble_eq_true rfl⟩ (fun u H locs hp30 hP hD hS => ?_)
      replace hP : xP G [iA G (ad 3) 160 tb, oC ko 6 [.ref (ad 0), .ref (ad 1), .int (nI w), .int (nI h), .int (nI la), .ref (ad 2), .int (nI dw), .int (nI dh), .int (nI dl), .int tl, .int tc, .int hc, .int hd, .ref (ad 3), .int (nI tp), .int (nI ps), .int (nI fr), .int (nI so), .int vl, .int (nI 4), .int (nI fr), .ref (ad 4), .ref (ad 5), .ref (ad 6), .ref (ad 7), .ref (ad 8), .ref (ad 9), .ref (ad 10), .int tr]] H := hP
      replace hD : va_D (va_A (w_X6_readCellBut G ko ad w h la tp dw dh dl tl tc hc hd ps fr so vl ft wa tr tb) ss.heap.size) [iA G (ad 3) 160 tb, oC ko 6 [.ref (ad 0), .ref (ad 1), .int (nI w), .int (nI h), .int (nI la), .ref (ad 2), .int (nI dw), .int (nI dh), .int (nI dl), .int tl, .int tc, .int hc, .int hd, .ref (ad 3), .int (nI tp), .int (nI ps), .int (nI fr), .int (nI so), .int vl, .int (nI 4), .int (nI fr), .ref (ad 4), .ref (ad 5), .ref (ad 6), .ref (ad 7), .ref (ad 8), .ref (ad 9), .ref (ad 10), .int tr]] := hD
      have hz : (mLoo 0 15 (ps, fr, so, vl, ft, wa)).2.2.2.2.2.1 = ft2_4 := (by rw [← he4])
      have hB : mBut sm (mLoo 0 15 (ps, fr, so, vl, ft, wa)) = (ps, fr, so, vl, 4, nI fr) := (by first | exact (if_neg (fun q => b12 (hz ▸ q))).trans he4.symm | exact (if_pos (hz.trans b12)).trans ((if_pos b21).trans he4.symm) | exact (if_pos (hz.trans b12)).trans ((if_neg b21).trans (congrArg (mF 4) he4.symm)))
      have hzB : (mBut sm (mLoo 0 15 (ps, fr, so, vl, ft, wa))).2.2.2.2.1 = 4 := congrArg (fun a : MS => a.2.2.2.2.1) hB
      refine lv_aload_n hx hb dX6_readCellBut_33 rfl (lv_at hl 1 rfl) ?_
      refine lv_aload_n hx hb dX6_readCellBut_34 rfl (lv_at hl 1 rfl) ?_
      refine va_get (D := G.1) (ci := 6) (v := .int (nI 4)) (C := RX6) (T := TX6) (N := 29) hx hb hts hin6 hown hK.1 hP 1 rfl rfl 19 (by decide) (hts (.fieldLink RX6 90 "BackLensesModel" "fault" "I") (List.mem_of_getElem? (i := 1) rfl)) (fun _ h9 => h9) rfl dX6_readCellBut_35 ?_
      refine xn_if_ne (tgt := 53) hx hb (by omega) dX6_readCellBut_38 rfl (fun _ => ?_) (fun b38 => absurd b38 (by omega))
      refine lv_aload_n hx hb dX6_readCellBut_53 rfl (lv_at hl 1 rfl) ?_
      refine va_get (D := G.1) (ci := 6) (v := .int hc) (C := RX6) (T := TX6) (N := 29) hx hb hts hin6 hown hK.1 hP 1 rfl rfl 11 (by decide) (hts (.fieldLink RX6 66 "BackLensesModel" "highestCell" "I") (List.mem_of_getElem? (i := 2) rfl)) (fun _ h9 => h9) rfl dX6_readCellBut_54 ?_
      refine va_put (D := G.1) (ci := 6) (v := .int hc) (ty := .int) (C := RX6) (T := TX6) (N := 29) hx hb hts hin6 tyX6 tyX6_ok nmX6 hown hK.1 hP hD hS 1 rfl rfl 11 (by decide) (hts (.fieldLink RX6 66 "BackLensesModel" "highestCell" "I") (List.mem_of_getElem? (i := 2) rfl)) (fun _ h9 => h9) rfl (by decide +kernel) rfl rfl (Nat.le_of_ble_eq_true rfl) dX6_readCellBut_57 (fun H locs hP hD hS => ?_)
      replace hP : xP G [iA G (ad 3) 160 tb, oC ko 6 [.ref (ad 0), .ref (ad 1), .int (nI w), .int (nI h), .int (nI la), .ref (ad 2), .int (nI dw), .int (nI dh), .int (nI dl), .int tl, .int tc, .int hc, .int hd, .ref (ad 3), .int (nI tp), .int (nI ps), .int (nI fr), .int (nI so), .int vl, .int (nI 4), .int (nI fr), .ref (ad 4), .ref (ad 5), .ref (ad 6), .ref (ad 7), .ref (ad 8), .ref (ad 9), .ref (ad 10), .int tr]] H := hP
      replace hD : va_D (va_A (w_X6_readCellBut G ko ad w h la tp dw dh dl tl tc hc hd ps fr so vl ft wa tr tb) ss.heap.size) [iA G (ad 3) 160 tb, oC ko 6 [.ref (ad 0), .ref (ad 1), .int (nI w), .int (nI h), .int (nI la), .ref (ad 2), .int (nI dw), .int (nI dh), .int (nI dl), .int tl, .int tc, .int hc, .int hd, .ref (ad 3), .int (nI tp), .int (nI ps), .int (nI fr), .int (nI so), .int vl, .int (nI 4), .int (nI fr), .ref (ad 4), .ref (ad 5), .ref (ad 6), .ref (ad 7), .ref (ad 8), .ref (ad 9), .ref (ad 10), .int tr]] := hD
      refine lv_aload_n hx hb dX6_readCellBut_60 rfl (lv_at hl 1 rfl) ?_
      refine xw_v (As := []) (rest := []) (wr := []) ⟨hx, hb, hml, hown, hts⟩ (c_X6_nextToken l G H.size ko ad w h la tp dw dh dl tl tc hc hd ps fr so vl 4 (nI fr) tr tb (by first | assumption | omega) (by first | assumption | omega) (by first | assumption | omega) (by first | assumption | omega)) (cwV 0 hts gX6_readCellBut_X6_nextToken rfl rfl rfl (by decide +kernel) ⟨Nat.le_of_ble_eq_true rfl, Nat.le_of_ble_eq_true rfl⟩) hK hP hD hS hA [1, 0] [] rfl rfl (by decide) (by decide) (by decide) rfl rfl rfl hl.1 rfl (Nat.le_of_ble_eq_true rfl) dX6_readCellBut_61 ⟨Nat.le_of_ble_eq_true rfl, Nat.le_of_ble_eq_true rfl⟩ (fun u H locs hp61 hP hD hS => ?_)
      obtain ⟨ps2_61, fr2_61, so2_61, vl2_61, ft2_61, wa2_61⟩ := u
      try dsimp only at hp61 hP hD
      have he61 := hp61
      replace hP : xP G [oC ko 6 [.ref (ad 0), .ref (ad 1), .int (nI w), .int (nI h), .int (nI la), .ref (ad 2), .int (nI dw), .int (nI dh), .int (nI dl), .int tl, .int tc, .int hc, .int hd, .ref (ad 3), .int (nI tp), .int (nI ps2_61), .int (nI fr2_61), .int (nI so2_61), .int vl2_61, .int (nI ft2_61), .int wa2_61, .ref (ad 4), .ref (ad 5), .ref (ad 6), .ref (ad 7), .ref (ad 8), .ref (ad 9), .ref (ad 10), .int tr], iA G (ad 3) 160 tb] H := hP
      replace hD : va_D (va_A (w_X6_readCellBut G ko ad w h la tp dw dh dl tl tc hc hd ps fr so vl ft wa tr tb) ss.heap.size) [oC ko 6 [.ref (ad 0), .ref (ad 1), .int (nI w), .int (nI h), .int (nI la), .ref (ad 2), .int (nI dw), .int (nI dh), .int (nI dl), .int tl, .int tc, .int hc, .int hd, .ref (ad 3), .int (nI tp), .int (nI ps2_61), .int (nI fr2_61), .int (nI so2_61), .int vl2_61, .int (nI ft2_61), .int wa2_61, .ref (ad 4), .ref (ad 5), .ref (ad 6), .ref (ad 7), .ref (ad 8), .ref (ad 9), .ref (ad 10), .int tr], iA G (ad 3) 160 tb] := hD
      refine lv_iload_n hx hb dX6_readCellBut_64 rfl (lv_at hl 0 rfl) ?_
      have hP := hP.sub (ws' := [oC ko 6 [.ref (ad 0), .ref (ad 1), .int (nI w), .int (nI h), .int (nI la), .ref (ad 2), .int (nI dw), .int (nI dh), .int (nI dl), .int tl, .int tc, .int hc, .int hd, .ref (ad 3), .int (nI tp), .int (nI ps2_61), .int (nI fr2_61), .int (nI so2_61), .int vl2_61, .int (nI ft2_61), .int wa2_61, .ref (ad 4), .ref (ad 5), .ref (ad 6), .ref (ad 7), .ref (ad 8), .ref (ad 9), .ref (ad 10), .int tr], iA G (ad 3) 160 tb]) [0, 1] rfl
      have hD := hD.sub (ws' := [oC ko 6 [.ref (ad 0), .ref (ad 1), .int (nI w), .int (nI h), .int (nI la), .ref (ad 2), .int (nI dw), .int (nI dh), .int (nI dl), .int tl, .int tc, .int hc, .int hd, .ref (ad 3), .int (nI tp), .int (nI ps2_61), .int (nI fr2_61), .int (nI so2_61), .int vl2_61, .int (nI ft2_61), .int wa2_61, .ref (ad 4), .ref (ad 5), .ref (ad 6), .ref (ad 7), .ref (ad 8), .ref (ad 9), .ref (ad 10), .int tr], iA G (ad 3) 160 tb]) [0, 1] (by decide) rfl
      refine W.iret (v := (mLoo 0 15 (ps, fr, so, vl, ft, wa)).1) hx hb hr (fun t ht hW => ⟨⟨(mLoo 0 15 (ps, fr, so, vl, ft, wa)).1, (ps2_61, fr2_61, so2_61, vl2_61, ft2_61, wa2_61, hc), rfl, ?_, by rw [ht]; exact hP, hD⟩, hS.F ht⟩) hS.2.2 dX6_readCellBut_65
      try dsimp only
      refine ⟨rfl, (congrArg (fun a => (_, a)) (he61.trans (congrArg (mTok tb tp) hB.symm))).trans (congrArg (fun a => (a, mTok tb tp (mBut sm (mLoo 0 15 (ps, fr, so, vl, ft, wa))))) ?_)⟩; first | exact (if_neg (fun q => b38 (hzB ▸ q.1))).symm | exact (if_neg (fun q => absurd (hzB.symm.trans q.1) (by decide))).symm | exact (if_neg (fun q => absurd q.2 (by omega))).symm | exact (if_pos ⟨hzB.trans b38, by omega⟩).symm
    · skip
      refine lv_iconst (v := nI 1) hx hb dX6_readCellBut_24 (by decide) ?_
      refine lv_goto (tgt := 29) hx hb dX6_readCellBut_25 rfl ?_
      refine lv_iconst (v := nI 4) hx hb dX6_readCellBut_29 (by decide) ?_
      refine xw_v (As := [.int (nI 1), .int (nI 4)]) (rest := []) (wr := [iA G (ad 3) 160 tb]) ⟨hx, hb, hml, hown, hts⟩ (c_X6_needs_1 l G H.size ko ad w h la tp dw dh dl tl tc hc hd ps fr so vl ft2_4 wa2_4 tr 4 ) (cwV 2 hts gX6_readCellBut_X6_needs rfl rfl rfl (by decide +kernel) ⟨Nat.le_of_ble_eq_true rfl, Nat.le_of_ble_eq_true rfl⟩) hK hP hD hS hA [1] [0] rfl rfl (by decide) (by decide) (by decide) rfl rfl rfl hl.1 rfl (Nat.le_of_ble_eq_true rfl) dX6_readCellBut_30 ⟨Nat.le_of_ble_eq_true rfl, Nat.le_of_ble_eq_true rfl⟩ (fun u H locs hp30 hP hD hS => ?_)
      replace hP : xP G [iA G (ad 3) 160 tb, oC ko 6 [.ref (ad 0), .ref (ad 1), .int (nI w), .int (nI h), .int (nI la), .ref (ad 2), .int (nI dw), .int (nI dh), .int (nI dl), .int tl, .int tc, .int hc, .int hd, .ref (ad 3), .int (nI tp), .int (nI ps), .int (nI fr), .int (nI so), .int vl, .int (nI ft2_4), .int wa2_4, .ref (ad 4), .ref (ad 5), .ref (ad 6), .ref (ad 7), .ref (ad 8), .ref (ad 9), .ref (ad 10), .int tr]] H := hP
      replace hD : va_D (va_A (w_X6_readCellBut G ko ad w h la tp dw dh dl tl tc hc hd ps fr so vl ft wa tr tb) ss.heap.size) [iA G (ad 3) 160 tb, oC ko 6 [.ref (ad 0), .ref (ad 1), .int (nI w), .int (nI h), .int (nI la), .ref (ad 2), .int (nI dw), .int (nI dh), .int (nI dl), .int tl, .int tc, .int hc, .int hd, .ref (ad 3), .int (nI tp), .int (nI ps), .int (nI fr), .int (nI so), .int vl, .int (nI ft2_4), .int wa2_4, .ref (ad 4), .ref (ad 5), .ref (ad 6), .ref (ad 7), .ref (ad 8), .ref (ad 9), .ref (ad 10), .int tr]] := hD
      have hz : (mLoo 0 15 (ps, fr, so, vl, ft, wa)).2.2.2.2.2.1 = ft2_4 := (by rw [← he4])
      have hB : mBut sm (mLoo 0 15 (ps, fr, so, vl, ft, wa)) = (ps, fr, so, vl, ft2_4, wa2_4) := (by first | exact (if_neg (fun q => b12 (hz ▸ q))).trans he4.symm | exact (if_pos (hz.trans b12)).trans ((if_pos b21).trans he4.symm) | exact (if_pos (hz.trans b12)).trans ((if_neg b21).trans (congrArg (mF 4) he4.symm)))
      have hzB : (mBut sm (mLoo 0 15 (ps, fr, so, vl, ft, wa))).2.2.2.2.1 = ft2_4 := congrArg (fun a : MS => a.2.2.2.2.1) hB
      refine lv_aload_n hx hb dX6_readCellBut_33 rfl (lv_at hl 1 rfl) ?_
      refine lv_aload_n hx hb dX6_readCellBut_34 rfl (lv_at hl 1 rfl) ?_
      refine va_get (D := G.1) (ci := 6) (v := .int (nI ft2_4)) (C := RX6) (T := TX6) (N := 29) hx hb hts hin6 hown hK.1 hP 1 rfl rfl 19 (by decide) (hts (.fieldLink RX6 90 "BackLensesModel" "fault" "I") (List.mem_of_getElem? (i := 1) rfl)) (fun _ h9 => h9) rfl dX6_readCellBut_35 ?_
      refine xn_if_ne (tgt := 53) hx hb (by omega) dX6_readCellBut_38 rfl (fun b38 => ?_) (fun b38 => ?_)
      · skip
        refine lv_aload_n hx hb dX6_readCellBut_53 rfl (lv_at hl 1 rfl) ?_
        refine va_get (D := G.1) (ci := 6) (v := .int hc) (C := RX6) (T := TX6) (N := 29) hx hb hts hin6 hown hK.1 hP 1 rfl rfl 11 (by decide) (hts (.fieldLink RX6 66 "BackLensesModel" "highestCell" "I") (List.mem_of_getElem? (i := 2) rfl)) (fun _ h9 => h9) rfl dX6_readCellBut_54 ?_
        refine va_put (D := G.1) (ci := 6) (v := .int hc) (ty := .int) (C := RX6) (T := TX6) (N := 29) hx hb hts hin6 tyX6 tyX6_ok nmX6 hown hK.1 hP hD hS 1 rfl rfl 11 (by decide) (hts (.fieldLink RX6 66 "BackLensesModel" "highestCell" "I") (List.mem_of_getElem? (i := 2) rfl)) (fun _ h9 => h9) rfl (by decide +kernel) rfl rfl (Nat.le_of_ble_eq_true rfl) dX6_readCellBut_57 (fun H locs hP hD hS => ?_)
        replace hP : xP G [iA G (ad 3) 160 tb, oC ko 6 [.ref (ad 0), .ref (ad 1), .int (nI w), .int (nI h), .int (nI la), .ref (ad 2), .int (nI dw), .int (nI dh), .int (nI dl), .int tl, .int tc, .int hc, .int hd, .ref (ad 3), .int (nI tp), .int (nI ps), .int (nI fr), .int (nI so), .int vl, .int (nI ft2_4), .int wa2_4, .ref (ad 4), .ref (ad 5), .ref (ad 6), .ref (ad 7), .ref (ad 8), .ref (ad 9), .ref (ad 10), .int tr]] H := hP
        replace hD : va_D (va_A (w_X6_readCellBut G ko ad w h la tp dw dh dl tl tc hc hd ps fr so vl ft wa tr tb) ss.heap.size) [iA G (ad 3) 160 tb, oC ko 6 [.ref (ad 0), .ref (ad 1), .int (nI w), .int (nI h), .int (nI la), .ref (ad 2), .int (nI dw), .int (nI dh), .int (nI dl), .int tl, .int tc, .int hc, .int hd, .ref (ad 3), .int (nI tp), .int (nI ps), .int (nI fr), .int (nI so), .int vl, .int (nI ft2_4), .int wa2_4, .ref (ad 4), .ref (ad 5), .ref (ad 6), .ref (ad 7), .ref (ad 8), .ref (ad 9), .ref (ad 10), .int tr]] := hD
        refine lv_aload_n hx hb dX6_readCellBut_60 rfl (lv_at hl 1 rfl) ?_
        refine xw_v (As := []) (rest := []) (wr := []) ⟨hx, hb, hml, hown, hts⟩ (c_X6_nextToken l G H.size ko ad w h la tp dw dh dl tl tc hc hd ps fr so vl ft2_4 wa2_4 tr tb (by first | assumption | omega) (by first | assumption | omega) (by first | assumption | omega) (by first | assumption | omega)) (cwV 0 hts gX6_readCellBut_X6_nextToken rfl rfl rfl (by decide +kernel) ⟨Nat.le_of_ble_eq_true rfl, Nat.le_of_ble_eq_true rfl⟩) hK hP hD hS hA [1, 0] [] rfl rfl (by decide) (by decide) (by decide) rfl rfl rfl hl.1 rfl (Nat.le_of_ble_eq_true rfl) dX6_readCellBut_61 ⟨Nat.le_of_ble_eq_true rfl, Nat.le_of_ble_eq_true rfl⟩ (fun u H locs hp61 hP hD hS => ?_)
        obtain ⟨ps2_61, fr2_61, so2_61, vl2_61, ft2_61, wa2_61⟩ := u
        try dsimp only at hp61 hP hD
        have he61 := hp61
        replace hP : xP G [oC ko 6 [.ref (ad 0), .ref (ad 1), .int (nI w), .int (nI h), .int (nI la), .ref (ad 2), .int (nI dw), .int (nI dh), .int (nI dl), .int tl, .int tc, .int hc, .int hd, .ref (ad 3), .int (nI tp), .int (nI ps2_61), .int (nI fr2_61), .int (nI so2_61), .int vl2_61, .int (nI ft2_61), .int wa2_61, .ref (ad 4), .ref (ad 5), .ref (ad 6), .ref (ad 7), .ref (ad 8), .ref (ad 9), .ref (ad 10), .int tr], iA G (ad 3) 160 tb] H := hP
        replace hD : va_D (va_A (w_X6_readCellBut G ko ad w h la tp dw dh dl tl tc hc hd ps fr so vl ft wa tr tb) ss.heap.size) [oC ko 6 [.ref (ad 0), .ref (ad 1), .int (nI w), .int (nI h), .int (nI la), .ref (ad 2), .int (nI dw), .int (nI dh), .int (nI dl), .int tl, .int tc, .int hc, .int hd, .ref (ad 3), .int (nI tp), .int (nI ps2_61), .int (nI fr2_61), .int (nI so2_61), .int vl2_61, .int (nI ft2_61), .int wa2_61, .ref (ad 4), .ref (ad 5), .ref (ad 6), .ref (ad 7), .ref (ad 8), .ref (ad 9), .ref (ad 10), .int tr], iA G (ad 3) 160 tb] := hD
        refine lv_iload_n hx hb dX6_readCellBut_64 rfl (lv_at hl 0 rfl) ?_
        have hP := hP.sub (ws' := [oC ko 6 [.ref (ad 0), .ref (ad 1), .int (nI w), .int (nI h), .int (nI la), .ref (ad 2), .int (nI dw), .int (nI dh), .int (nI dl), .int tl, .int tc, .int hc, .int hd, .ref (ad 3), .int (nI tp), .int (nI ps2_61), .int (nI fr2_61), .int (nI so2_61), .int vl2_61, .int (nI ft2_61), .int wa2_61, .ref (ad 4), .ref (ad 5), .ref (ad 6), .ref (ad 7), .ref (ad 8), .ref (ad 9), .ref (ad 10), .int tr], iA G (ad 3) 160 tb]) [0, 1] rfl
        have hD := hD.sub (ws' := [oC ko 6 [.ref (ad 0), .ref (ad 1), .int (nI w), .int (nI h), .int (nI la), .ref (ad 2), .int (nI dw), .int (nI dh), .int (nI dl), .int tl, .int tc, .int hc, .int hd, .ref (ad 3), .int (nI tp), .int (nI ps2_61), .int (nI fr2_61), .int (nI so2_61), .int vl2_61, .int (nI ft2_61), .int wa2_61, .ref (ad 4), .ref (ad 5), .ref (ad 6), .ref (ad 7), .ref (ad 8), .ref (ad 9), .ref (ad 10), .int tr], iA G (ad 3) 160 tb]) [0, 1] (by decide) rfl
        refine W.iret (v := (mLoo 0 15 (ps, fr, so, vl, ft, wa)).1) hx hb hr (fun t ht hW => ⟨⟨(mLoo 0 15 (ps, fr, so, vl, ft, wa)).1, (ps2_61, fr2_61, so2_61, vl2_61, ft2_61, wa2_61, hc), rfl, ?_, by rw [ht]; exact hP, hD⟩, hS.F ht⟩) hS.2.2 dX6_readCellBut_65
        try dsimp only
        refine ⟨rfl, (congrArg (fun a => (_, a)) (he61.trans (congrArg (mTok tb tp) hB.symm))).trans (congrArg (fun a => (a, mTok tb tp (mBut sm (mLoo 0 15 (ps, fr, so, vl, ft, wa))))) ?_)⟩; first | exact (if_neg (fun q => b38 (hzB ▸ q.1))).symm | exact (if_neg (fun q => absurd (hzB.symm.trans q.1) (by decide))).symm | exact (if_neg (fun q => absurd q.2 (by omega))).symm | exact (if_pos ⟨hzB.trans b38, by omega⟩).symm
      · skip
        refine lv_iload_n hx hb dX6_readCellBut_41 rfl (lv_at hl 0 rfl) ?_
        refine lv_aload_n hx hb dX6_readCellBut_42 rfl (lv_at hl 1 rfl) ?_
        refine va_get (D := G.1) (ci := 6) (v := .int hc) (C := RX6) (T := TX6) (N := 29) hx hb hts hin6 hown hK.1 hP 1 rfl rfl 11 (by decide) (hts (.fieldLink RX6 66 "BackLensesModel" "highestCell" "I") (List.mem_of_getElem? (i := 2) rfl)) (fun _ h9 => h9) rfl dX6_readCellBut_43 ?_
        refine xi_icmp_le (tgt := 53) hx hb dX6_readCellBut_46 rfl (fun b46 => ?_) (fun b46 => ?_)
        · skip
          refine lv_aload_n hx hb dX6_readCellBut_53 rfl (lv_at hl 1 rfl) ?_
          refine va_get (D := G.1) (ci := 6) (v := .int hc) (C := RX6) (T := TX6) (N := 29) hx hb hts hin6 hown hK.1 hP 1 rfl rfl 11 (by decide) (hts (.fieldLink RX6 66 "BackLensesModel" "highestCell" "I") (List.mem_of_getElem? (i := 2) rfl)) (fun _ h9 => h9) rfl dX6_readCellBut_54 ?_
          refine va_put (D := G.1) (ci := 6) (v := .int hc) (ty := .int) (C := RX6) (T := TX6) (N := 29) hx hb hts hin6 tyX6 tyX6_ok nmX6 hown hK.1 hP hD hS 1 rfl rfl 11 (by decide) (hts (.fieldLink RX6 66 "BackLensesModel" "highestCell" "I") (List.mem_of_getElem? (i := 2) rfl)) (fun _ h9 => h9) rfl (by decide +kernel) rfl rfl (Nat.le_of_ble_eq_true rfl) dX6_readCellBut_57 (fun H locs hP hD hS => ?_)
          replace hP : xP G [iA G (ad 3) 160 tb, oC ko 6 [.ref (ad 0), .ref (ad 1), .int (nI w), .int (nI h), .int (nI la), .ref (ad 2), .int (nI dw), .int (nI dh), .int (nI dl), .int tl, .int tc, .int hc, .int hd, .ref (ad 3), .int (nI tp), .int (nI ps), .int (nI fr), .int (nI so), .int vl, .int (nI ft2_4), .int wa2_4, .ref (ad 4), .ref (ad 5), .ref (ad 6), .ref (ad 7), .ref (ad 8), .ref (ad 9), .ref (ad 10), .int tr]] H := hP
          replace hD : va_D (va_A (w_X6_readCellBut G ko ad w h la tp dw dh dl tl tc hc hd ps fr so vl ft wa tr tb) ss.heap.size) [iA G (ad 3) 160 tb, oC ko 6 [.ref (ad 0), .ref (ad 1), .int (nI w), .int (nI h), .int (nI la), .ref (ad 2), .int (nI dw), .int (nI dh), .int (nI dl), .int tl, .int tc, .int hc, .int hd, .ref (ad 3), .int (nI tp), .int (nI ps), .int (nI fr), .int (nI so), .int vl, .int (nI ft2_4), .int wa2_4, .ref (ad 4), .ref (ad 5), .ref (ad 6), .ref (ad 7), .ref (ad 8), .ref (ad 9), .ref (ad 10), .int tr]] := hD
          refine lv_aload_n hx hb dX6_readCellBut_60 rfl (lv_at hl 1 rfl) ?_
          refine xw_v (As := []) (rest := []) (wr := []) ⟨hx, hb, hml, hown, hts⟩ (c_X6_nextToken l G H.size ko ad w h la tp dw dh dl tl tc hc hd ps fr so vl ft2_4 wa2_4 tr tb (by first | assumption | omega) (by first | assumption | omega) (by first | assumption | omega) (by first | assumption | omega)) (cwV 0 hts gX6_readCellBut_X6_nextToken rfl rfl rfl (by decide +kernel) ⟨Nat.le_of_ble_eq_true rfl, Nat.le_of_ble_eq_true rfl⟩) hK hP hD hS hA [1, 0] [] rfl rfl (by decide) (by decide) (by decide) rfl rfl rfl hl.1 rfl (Nat.le_of_ble_eq_true rfl) dX6_readCellBut_61 ⟨Nat.le_of_ble_eq_true rfl, Nat.le_of_ble_eq_true rfl⟩ (fun u H locs hp61 hP hD hS => ?_)
          obtain ⟨ps2_61, fr2_61, so2_61, vl2_61, ft2_61, wa2_61⟩ := u
          try dsimp only at hp61 hP hD
          have he61 := hp61
          replace hP : xP G [oC ko 6 [.ref (ad 0), .ref (ad 1), .int (nI w), .int (nI h), .int (nI la), .ref (ad 2), .int (nI dw), .int (nI dh), .int (nI dl), .int tl, .int tc, .int hc, .int hd, .ref (ad 3), .int (nI tp), .int (nI ps2_61), .int (nI fr2_61), .int (nI so2_61), .int vl2_61, .int (nI ft2_61), .int wa2_61, .ref (ad 4), .ref (ad 5), .ref (ad 6), .ref (ad 7), .ref (ad 8), .ref (ad 9), .ref (ad 10), .int tr], iA G (ad 3) 160 tb] H := hP
          replace hD : va_D (va_A (w_X6_readCellBut G ko ad w h la tp dw dh dl tl tc hc hd ps fr so vl ft wa tr tb) ss.heap.size) [oC ko 6 [.ref (ad 0), .ref (ad 1), .int (nI w), .int (nI h), .int (nI la), .ref (ad 2), .int (nI dw), .int (nI dh), .int (nI dl), .int tl, .int tc, .int hc, .int hd, .ref (ad 3), .int (nI tp), .int (nI ps2_61), .int (nI fr2_61), .int (nI so2_61), .int vl2_61, .int (nI ft2_61), .int wa2_61, .ref (ad 4), .ref (ad 5), .ref (ad 6), .ref (ad 7), .ref (ad 8), .ref (ad 9), .ref (ad 10), .int tr], iA G (ad 3) 160 tb] := hD
          refine lv_iload_n hx hb dX6_readCellBut_64 rfl (lv_at hl 0 rfl) ?_
          have hP := hP.sub (ws' := [oC ko 6 [.ref (ad 0), .ref (ad 1), .int (nI w), .int (nI h), .int (nI la), .ref (ad 2), .int (nI dw), .int (nI dh), .int (nI dl), .int tl, .int tc, .int hc, .int hd, .ref (ad 3), .int (nI tp), .int (nI ps2_61), .int (nI fr2_61), .int (nI so2_61), .int vl2_61, .int (nI ft2_61), .int wa2_61, .ref (ad 4), .ref (ad 5), .ref (ad 6), .ref (ad 7), .ref (ad 8), .ref (ad 9), .ref (ad 10), .int tr], iA G (ad 3) 160 tb]) [0, 1] rfl
          have hD := hD.sub (ws' := [oC ko 6 [.ref (ad 0), .ref (ad 1), .int (nI w), .int (nI h), .int (nI la), .ref (ad 2), .int (nI dw), .int (nI dh), .int (nI dl), .int tl, .int tc, .int hc, .int hd, .ref (ad 3), .int (nI tp), .int (nI ps2_61), .int (nI fr2_61), .int (nI so2_61), .int vl2_61, .int (nI ft2_61), .int wa2_61, .ref (ad 4), .ref (ad 5), .ref (ad 6), .ref (ad 7), .ref (ad 8), .ref (ad 9), .ref (ad 10), .int tr], iA G (ad 3) 160 tb]) [0, 1] (by decide) rfl
          refine W.iret (v := (mLoo 0 15 (ps, fr, so, vl, ft, wa)).1) hx hb hr (fun t ht hW => ⟨⟨(mLoo 0 15 (ps, fr, so, vl, ft, wa)).1, (ps2_61, fr2_61, so2_61, vl2_61, ft2_61, wa2_61, hc), rfl, ?_, by rw [ht]; exact hP, hD⟩, hS.F ht⟩) hS.2.2 dX6_readCellBut_65
          try dsimp only
          refine ⟨rfl, (congrArg (fun a => (_, a)) (he61.trans (congrArg (mTok tb tp) hB.symm))).trans (congrArg (fun a => (a, mTok tb tp (mBut sm (mLoo 0 15 (ps, fr, so, vl, ft, wa))))) ?_)⟩; first | exact (if_neg (fun q => b38 (hzB ▸ q.1))).symm | exact (if_neg (fun q => absurd (hzB.symm.trans q.1) (by decide))).symm | exact (if_neg (fun q => absurd q.2 (by omega))).symm | exact (if_pos ⟨hzB.trans b38, by omega⟩).symm
        · skip
          refine lv_iload_n hx hb dX6_readCellBut_49 rfl (lv_at hl 0 rfl) ?_
          refine lv_goto (tgt := 57) hx hb dX6_readCellBut_50 rfl ?_
          refine va_put (D := G.1) (ci := 6) (v := .int ((mLoo 0 15 (ps, fr, so, vl, ft, wa)).1)) (ty := .int) (C := RX6) (T := TX6) (N := 29) hx hb hts hin6 tyX6 tyX6_ok nmX6 hown hK.1 hP hD hS 1 rfl rfl 11 (by decide) (hts (.fieldLink RX6 66 "BackLensesModel" "highestCell" "I") (List.mem_of_getElem? (i := 2) rfl)) (fun _ h9 => h9) rfl (by decide +kernel) rfl rfl (Nat.le_of_ble_eq_true rfl) dX6_readCellBut_57 (fun H locs hP hD hS => ?_)
          replace hP : xP G [iA G (ad 3) 160 tb, oC ko 6 [.ref (ad 0), .ref (ad 1), .int (nI w), .int (nI h), .int (nI la), .ref (ad 2), .int (nI dw), .int (nI dh), .int (nI dl), .int tl, .int tc, .int ((mLoo 0 15 (ps, fr, so, vl, ft, wa)).1), .int hd, .ref (ad 3), .int (nI tp), .int (nI ps), .int (nI fr), .int (nI so), .int vl, .int (nI ft2_4), .int wa2_4, .ref (ad 4), .ref (ad 5), .ref (ad 6), .ref (ad 7), .ref (ad 8), .ref (ad 9), .ref (ad 10), .int tr]] H := hP
          replace hD : va_D (va_A (w_X6_readCellBut G ko ad w h la tp dw dh dl tl tc hc hd ps fr so vl ft wa tr tb) ss.heap.size) [iA G (ad 3) 160 tb, oC ko 6 [.ref (ad 0), .ref (ad 1), .int (nI w), .int (nI h), .int (nI la), .ref (ad 2), .int (nI dw), .int (nI dh), .int (nI dl), .int tl, .int tc, .int ((mLoo 0 15 (ps, fr, so, vl, ft, wa)).1), .int hd, .ref (ad 3), .int (nI tp), .int (nI ps), .int (nI fr), .int (nI so), .int vl, .int (nI ft2_4), .int wa2_4, .ref (ad 4), .ref (ad 5), .ref (ad 6), .ref (ad 7), .ref (ad 8), .ref (ad 9), .ref (ad 10), .int tr]] := hD
          refine lv_aload_n hx hb dX6_readCellBut_60 rfl (lv_at hl 1 rfl) ?_
          refine xw_v (As := []) (rest := []) (wr := []) ⟨hx, hb, hml, hown, hts⟩ (c_X6_nextToken l G H.size ko ad w h la tp dw dh dl tl tc ((mLoo 0 15 (ps, fr, so, vl, ft, wa)).1) hd ps fr so vl ft2_4 wa2_4 tr tb (by first | assumption | omega) (by first | assumption | omega) (by first | assumption | omega) (by first | assumption | omega)) (cwV 0 hts gX6_readCellBut_X6_nextToken rfl rfl rfl (by decide +kernel) ⟨Nat.le_of_ble_eq_true rfl, Nat.le_of_ble_eq_true rfl⟩) hK hP hD hS hA [1, 0] [] rfl rfl (by decide) (by decide) (by decide) rfl rfl rfl hl.1 rfl (Nat.le_of_ble_eq_true rfl) dX6_readCellBut_61 ⟨Nat.le_of_ble_eq_true rfl, Nat.le_of_ble_eq_true rfl⟩ (fun u H locs hp61 hP hD hS => ?_)
          obtain ⟨ps2_61, fr2_61, so2_61, vl2_61, ft2_61, wa2_61⟩ := u
          try dsimp only at hp61 hP hD
          have he61 := hp61
          replace hP : xP G [oC ko 6 [.ref (ad 0), .ref (ad 1), .int (nI w), .int (nI h), .int (nI la), .ref (ad 2), .int (nI dw), .int (nI dh), .int (nI dl), .int tl, .int tc, .int ((mLoo 0 15 (ps, fr, so, vl, ft, wa)).1), .int hd, .ref (ad 3), .int (nI tp), .int (nI ps2_61), .int (nI fr2_61), .int (nI so2_61), .int vl2_61, .int (nI ft2_61), .int wa2_61, .ref (ad 4), .ref (ad 5), .ref (ad 6), .ref (ad 7), .ref (ad 8), .ref (ad 9), .ref (ad 10), .int tr], iA G (ad 3) 160 tb] H := hP
          replace hD : va_D (va_A (w_X6_readCellBut G ko ad w h la tp dw dh dl tl tc hc hd ps fr so vl ft wa tr tb) ss.heap.size) [oC ko 6 [.ref (ad 0), .ref (ad 1), .int (nI w), .int (nI h), .int (nI la), .ref (ad 2), .int (nI dw), .int (nI dh), .int (nI dl), .int tl, .int tc, .int ((mLoo 0 15 (ps, fr, so, vl, ft, wa)).1), .int hd, .ref (ad 3), .int (nI tp), .int (nI ps2_61), .int (nI fr2_61), .int (nI so2_61), .int vl2_61, .int (nI ft2_61), .int wa2_61, .ref (ad 4), .ref (ad 5), .ref (ad 6), .ref (ad 7), .ref (ad 8), .ref (ad 9), .ref (ad 10), .int tr], iA G (ad 3) 160 tb] := hD
          refine lv_iload_n hx hb dX6_readCellBut_64 rfl (lv_at hl 0 rfl) ?_
          have hP := hP.sub (ws' := [oC ko 6 [.ref (ad 0), .ref (ad 1), .int (nI w), .int (nI h), .int (nI la), .ref (ad 2), .int (nI dw), .int (nI dh), .int (nI dl), .int tl, .int tc, .int ((mLoo 0 15 (ps, fr, so, vl, ft, wa)).1), .int hd, .ref (ad 3), .int (nI tp), .int (nI ps2_61), .int (nI fr2_61), .int (nI so2_61), .int vl2_61, .int (nI ft2_61), .int wa2_61, .ref (ad 4), .ref (ad 5), .ref (ad 6), .ref (ad 7), .ref (ad 8), .ref (ad 9), .ref (ad 10), .int tr], iA G (ad 3) 160 tb]) [0, 1] rfl
          have hD := hD.sub (ws' := [oC ko 6 [.ref (ad 0), .ref (ad 1), .int (nI w), .int (nI h), .int (nI la), .ref (ad 2), .int (nI dw), .int (nI dh), .int (nI dl), .int tl, .int tc, .int ((mLoo 0 15 (ps, fr, so, vl, ft, wa)).1), .int hd, .ref (ad 3), .int (nI tp), .int (nI ps2_61), .int (nI fr2_61), .int (nI so2_61), .int vl2_61, .int (nI ft2_61), .int wa2_61, .ref (ad 4), .ref (ad 5), .ref (ad 6), .ref (ad 7), .ref (ad 8), .ref (ad 9), .ref (ad 10), .int tr], iA G (ad 3) 160 tb]) [0, 1] (by decide) rfl
          refine W.iret (v := (mLoo 0 15 (ps, fr, so, vl, ft, wa)).1) hx hb hr (fun t ht hW => ⟨⟨(mLoo 0 15 (ps, fr, so, vl, ft, wa)).1, (ps2_61, fr2_61, so2_61, vl2_61, ft2_61, wa2_61, ((mLoo 0 15 (ps, fr, so, vl, ft, wa)).1)), rfl, ?_, by rw [ht]; exact hP, hD⟩, hS.F ht⟩) hS.2.2 dX6_readCellBut_65
          try dsimp only
          refine ⟨rfl, (congrArg (fun a => (_, a)) (he61.trans (congrArg (mTok tb tp) hB.symm))).trans (congrArg (fun a => (a, mTok tb tp (mBut sm (mLoo 0 15 (ps, fr, so, vl, ft, wa))))) ?_)⟩; first | exact (if_neg (fun q => b38 (hzB ▸ q.1))).symm | exact (if_neg (fun q => absurd (hzB.symm.trans q.1) (by decide))).symm | exact (if_neg (fun q => absurd q.2 (by omega))).symm | exact (if_pos ⟨hzB.trans b38, by omega⟩).symm

abbrev w_X6_is (G : XG) (ko : Nat) (ad : Nat → Nat) (w h la tp : Nat) (dw dh dl : Nat) (tl tc hc hd : Int32) (ps fr so : Nat) (vl : Int32) (ft : Nat) (wa tr : Int32) (tb : Nat → Int32) : va_W := [oC ko 6 [.ref (ad 0), .ref (ad 1), .int (nI w), .int (nI h), .int (nI la), .ref (ad 2), .int (nI dw), .int (nI dh), .int (nI dl), .int tl, .int tc, .int hc, .int hd, .ref (ad 3), .int (nI tp), .int (nI ps), .int (nI fr), .int (nI so), .int vl, .int (nI ft), .int wa, .ref (ad 4), .ref (ad 5), .ref (ad 6), .ref (ad 7), .ref (ad 8), .ref (ad 9), .ref (ad 10), .int tr], iA G (ad 3) 160 tb]
abbrev Q_X6_is (G : XG) (ko : Nat) (ad : Nat → Nat) (w h la tp : Nat) (dw dh dl : Nat) (tl tc hc hd : Int32) (ps fr so : Nat) (vl : Int32) (ft : Nat) (wa tr : Int32) (tb : Nat → Int32) (n a b c d : Nat) : Array Value → State → Outcome → State → Prop := (xRi (fun r => r = xb ((ps - fr = n ∧ byF tb tp fr = nI a ∧ byF tb tp (fr + 1) = nI b ∧ byF tb tp (fr + 2) = nI c ∧ byF tb tp (fr + 3) = nI d))))
set_option maxHeartbeats 4000000 in
set_option maxRecDepth 100000 in
theorem c_X6_is (l : Launch) (G : XG) (ko : Nat) (ad : Nat → Nat) (w h la tp : Nat) (dw dh dl : Nat) (tl tc hc hd : Int32) (ps fr so : Nat) (vl : Int32) (ft : Nat) (wa tr : Int32) (tb : Nat → Int32) (n a b c d : Nat) (htp : tp ≤ 160) (hps : ps ≤ tp) (hfr : fr ≤ ps) (hn : n < 1000) : Met l yX6_is wsX6_is ({ frames := 1, cells := 0, slots := 0, locals := 21 } : Room) (va_Pc [.ref ko, .int (nI n), .int (nI a), .int (nI b), .int (nI c), .int (nI d)] (xRp G (w_X6_is G ko ad w h la tp dw dh dl tl tc hc hd ps fr so vl ft wa tr tb))) (Q_X6_is G ko ad w h la tp dw dh dl tl tc hc hd ps fr so vl ft wa tr tb n a b c d) 0 0 (fun _ => False) := by
  refine Met.ofW (cc := cX6_is) (maxL := 6) (ret := (some .boolean)) (by decide) rfl ?_
  intro pp ee ss mm aa below mt cd s₁ BB hml hv
  obtain ⟨rfl, hP, hK⟩ := hv
  have hx := BB.exec
  have hb := BB.bytes
  have hr := BB.returns
  have hts := atoms_spec (ws := wsX6_is) BB.pre
  have hown : ss.vm.findClass RX6 = some mm.cls := findClass_of_methodNamed BB.named
  have hlocks := BB.notSynchronized
  have hS : va_S (fun _ => False) ss.heap ss.heap [] := va_S.rf
  replace hP : xP G [oC ko 6 [.ref (ad 0), .ref (ad 1), .int (nI w), .int (nI h), .int (nI la), .ref (ad 2), .int (nI dw), .int (nI dh), .int (nI dl), .int tl, .int tc, .int hc, .int hd, .ref (ad 3), .int (nI tp), .int (nI ps), .int (nI fr), .int (nI so), .int vl, .int (nI ft), .int wa, .ref (ad 4), .ref (ad 5), .ref (ad 6), .ref (ad 7), .ref (ad 8), .ref (ad 9), .ref (ad 10), .int tr], iA G (ad 3) 160 tb] ss.heap := hP
  have hin6 : ∀ w ∈ u_ws RX6 TX6 29, w ∈ wsX6_is := fun w h => List.mem_cons_of_mem _ (List.mem_append_right _ h)
  have hl := lv_entry ([.ref ko, .int (nI n), .int (nI a), .int (nI b), .int (nI c), .int (nI d)]) (n := 6) (Nat.le_of_ble_eq_true rfl)
  rw [lg_entry_eq]
  generalize (lg_sl ([.ref ko, .int (nI n), .int (nI a), .int (nI b), .int (nI c), .int (nI d)]) ++ List.replicate (6 - (lg_sl ([.ref ko, .int (nI n), .int (nI a), .int (nI b), .int (nI c), .int (nI d)])).length) Slot.unset).toArray = ls at hl ⊢
  replace hl : lv_has ls 6 [(0, .ref ko), (1, .int (nI n)), (2, .int (nI a)), (3, .int (nI b)), (4, .int (nI c)), (5, .int (nI d))] := hl
  refine lv_aload_n hx hb dX6_is_0 rfl (lv_at hl 0 rfl) ?_
  refine va_get (D := G.1) (ci := 6) (v := .int (nI ps)) (C := RX6) (T := TX6) (N := 29) hx hb hts hin6 hown hK.1 hP 0 rfl rfl 15 (by decide) (hts (.fieldLink RX6 99 "BackLensesModel" "pos" "I") (List.mem_of_getElem? (i := 1) rfl)) (fun _ h9 => h9) rfl dX6_is_1 ?_
  refine lv_aload_n hx hb dX6_is_4 rfl (lv_at hl 0 rfl) ?_
  refine va_get (D := G.1) (ci := 6) (v := .int (nI fr)) (C := RX6) (T := TX6) (N := 29) hx hb hts hin6 hown hK.1 hP 0 rfl rfl 16 (by decide) (hts (.fieldLink RX6 93 "BackLensesModel" "from" "I") (List.mem_of_getElem? (i := 2) rfl)) (fun _ h9 => h9) rfl dX6_is_5 ?_
  refine xn_isub hx hb (by omega) dX6_is_8 ?_
  refine lv_iload_n hx hb dX6_is_9 rfl (lv_at hl 1 rfl) ?_
  refine xn_icmp_ne (tgt := 73) hx hb (by omega) (by omega) dX6_is_10 rfl (fun b10 => ?_) (fun b10 => ?_)
  · skip
    refine lv_iconst (v := nI 0) hx hb dX6_is_73 (by decide) ?_
    refine W.zret (v := nI 0) (ty := .boolean) hx hb hr (by decide) (fun t ht hW => ⟨⟨nI 0, (), rfl, ?_, trivial⟩, hS.F ht⟩) hS.2.2 dX6_is_74
    first | exact (xb_f (fun q => b10 q.1)).symm | exact (xb_f (fun q => b22 q.2.1)).symm | exact (xb_f (fun q => b36 q.2.2.1)).symm | exact (xb_f (fun q => b51 q.2.2.2.1)).symm | exact (xb_f (fun q => b66 q.2.2.2.2)).symm | exact (xb_t ⟨b10, b22, b36, b51, b66⟩).symm
  · skip
    refine lv_aload_n hx hb dX6_is_13 rfl (lv_at hl 0 rfl) ?_
    refine lv_aload_n hx hb dX6_is_14 rfl (lv_at hl 0 rfl) ?_
    refine va_get (D := G.1) (ci := 6) (v := .int (nI fr)) (C := RX6) (T := TX6) (N := 29) hx hb hts hin6 hown hK.1 hP 0 rfl rfl 16 (by decide) (hts (.fieldLink RX6 93 "BackLensesModel" "from" "I") (List.mem_of_getElem? (i := 2) rfl)) (fun _ h9 => h9) rfl dX6_is_15 ?_
    refine xr_i (As := [.int (nI fr)]) (rest := []) ⟨hx, hb, hml, hown, hts⟩ (c_X6_byteAt l G ko ad w h la tp dw dh dl tl tc hc hd ps fr so vl ft wa tr tb fr (by first | assumption | omega) (by first | assumption | omega)) (cwV 1 hts gX6_is_X6_byteAt rfl rfl rfl (by decide +kernel) ⟨Nat.le_of_ble_eq_true rfl, Nat.le_of_ble_eq_true rfl⟩) hK hP hS [0, 1] rfl rfl rfl rfl hl.1 rfl (Nat.le_of_ble_eq_true rfl) dX6_is_18 ⟨Nat.zero_le _, Nat.zero_le _⟩ (fun r18 H locs hp18 hP hS => ?_)
    rw [show r18 = _ from hp18]
    refine lv_iload_n hx hb dX6_is_21 rfl (lv_at hl 2 rfl) ?_
    refine lv_icmp_ne (tgt := 73) hx hb dX6_is_22 rfl (fun b22 => ?_) (fun b22 => ?_)
    · skip
      refine lv_iconst (v := nI 0) hx hb dX6_is_73 (by decide) ?_
      refine W.zret (v := nI 0) (ty := .boolean) hx hb hr (by decide) (fun t ht hW => ⟨⟨nI 0, (), rfl, ?_, trivial⟩, hS.F ht⟩) hS.2.2 dX6_is_74
      first | exact (xb_f (fun q => b10 q.1)).symm | exact (xb_f (fun q => b22 q.2.1)).symm | exact (xb_f (fun q => b36 q.2.2.1)).symm | exact (xb_f (fun q => b51 q.2.2.2.1)).symm | exact (xb_f (fun q => b66 q.2.2.2.2)).symm | exact (xb_t ⟨b10, b22, b36, b51, b66⟩).symm
    · skip
      refine lv_aload_n hx hb dX6_is_25 rfl (lv_at hl 0 rfl) ?_
      refine lv_aload_n hx hb dX6_is_26 rfl (lv_at hl 0 rfl) ?_
      refine va_get (D := G.1) (ci := 6) (v := .int (nI fr)) (C := RX6) (T := TX6) (N := 29) hx hb hts hin6 hown hK.1 hP 0 rfl rfl 16 (by decide) (hts (.fieldLink RX6 93 "BackLensesModel" "from" "I") (List.mem_of_getElem? (i := 2) rfl)) (fun _ h9 => h9) rfl dX6_is_27 ?_
      refine lv_iconst (v := nI 1) hx hb dX6_is_30 (by decide) ?_
      refine xn_iadd hx hb dX6_is_31 ?_
      refine xr_i (As := [.int (nI (fr + 1))]) (rest := []) ⟨hx, hb, hml, hown, hts⟩ (c_X6_byteAt l G ko ad w h la tp dw dh dl tl tc hc hd ps fr so vl ft wa tr tb (fr + 1) (by first | assumption | omega) (by first | assumption | omega)) (cwV 1 hts gX6_is_X6_byteAt rfl rfl rfl (by decide +kernel) ⟨Nat.le_of_ble_eq_true rfl, Nat.le_of_ble_eq_true rfl⟩) hK hP hS [0, 1] rfl rfl rfl rfl hl.1 rfl (Nat.le_of_ble_eq_true rfl) dX6_is_32 ⟨Nat.zero_le _, Nat.zero_le _⟩ (fun r32 H locs hp32 hP hS => ?_)
      rw [show r32 = _ from hp32]
      refine lv_iload_n hx hb dX6_is_35 rfl (lv_at hl 3 rfl) ?_
      refine lv_icmp_ne (tgt := 73) hx hb dX6_is_36 rfl (fun b36 => ?_) (fun b36 => ?_)
      · skip
        refine lv_iconst (v := nI 0) hx hb dX6_is_73 (by decide) ?_
        refine W.zret (v := nI 0) (ty := .boolean) hx hb hr (by decide) (fun t ht hW => ⟨⟨nI 0, (), rfl, ?_, trivial⟩, hS.F ht⟩) hS.2.2 dX6_is_74
        first | exact (xb_f (fun q => b10 q.1)).symm | exact (xb_f (fun q => b22 q.2.1)).symm | exact (xb_f (fun q => b36 q.2.2.1)).symm | exact (xb_f (fun q => b51 q.2.2.2.1)).symm | exact (xb_f (fun q => b66 q.2.2.2.2)).symm | exact (xb_t ⟨b10, b22, b36, b51, b66⟩).symm
      · skip
        refine lv_aload_n hx hb dX6_is_39 rfl (lv_at hl 0 rfl) ?_
        refine lv_aload_n hx hb dX6_is_40 rfl (lv_at hl 0 rfl) ?_
        refine va_get (D := G.1) (ci := 6) (v := .int (nI fr)) (C := RX6) (T := TX6) (N := 29) hx hb hts hin6 hown hK.1 hP 0 rfl rfl 16 (by decide) (hts (.fieldLink RX6 93 "BackLensesModel" "from" "I") (List.mem_of_getElem? (i := 2) rfl)) (fun _ h9 => h9) rfl dX6_is_41 ?_
        refine lv_iconst (v := nI 2) hx hb dX6_is_44 (by decide) ?_
        refine xn_iadd hx hb dX6_is_45 ?_
        refine xr_i (As := [.int (nI (fr + 2))]) (rest := []) ⟨hx, hb, hml, hown, hts⟩ (c_X6_byteAt l G ko ad w h la tp dw dh dl tl tc hc hd ps fr so vl ft wa tr tb (fr + 2) (by first | assumption | omega) (by first | assumption | omega)) (cwV 1 hts gX6_is_X6_byteAt rfl rfl rfl (by decide +kernel) ⟨Nat.le_of_ble_eq_true rfl, Nat.le_of_ble_eq_true rfl⟩) hK hP hS [0, 1] rfl rfl rfl rfl hl.1 rfl (Nat.le_of_ble_eq_true rfl) dX6_is_46 ⟨Nat.zero_le _, Nat.zero_le _⟩ (fun r46 H locs hp46 hP hS => ?_)
        rw [show r46 = _ from hp46]
        refine lv_iload hx hb dX6_is_49 (lv_at hl 4 rfl) ?_
        refine lv_icmp_ne (tgt := 73) hx hb dX6_is_51 rfl (fun b51 => ?_) (fun b51 => ?_)
        · skip
          refine lv_iconst (v := nI 0) hx hb dX6_is_73 (by decide) ?_
          refine W.zret (v := nI 0) (ty := .boolean) hx hb hr (by decide) (fun t ht hW => ⟨⟨nI 0, (), rfl, ?_, trivial⟩, hS.F ht⟩) hS.2.2 dX6_is_74
          first | exact (xb_f (fun q => b10 q.1)).symm | exact (xb_f (fun q => b22 q.2.1)).symm | exact (xb_f (fun q => b36 q.2.2.1)).symm | exact (xb_f (fun q => b51 q.2.2.2.1)).symm | exact (xb_f (fun q => b66 q.2.2.2.2)).symm | exact (xb_t ⟨b10, b22, b36, b51, b66⟩).symm
        · skip
          refine lv_aload_n hx hb dX6_is_54 rfl (lv_at hl 0 rfl) ?_
          refine lv_aload_n hx hb dX6_is_55 rfl (lv_at hl 0 rfl) ?_
          refine va_get (D := G.1) (ci := 6) (v := .int (nI fr)) (C := RX6) (T := TX6) (N := 29) hx hb hts hin6 hown hK.1 hP 0 rfl rfl 16 (by decide) (hts (.fieldLink RX6 93 "BackLensesModel" "from" "I") (List.mem_of_getElem? (i := 2) rfl)) (fun _ h9 => h9) rfl dX6_is_56 ?_
          refine lv_iconst (v := nI 3) hx hb dX6_is_59 (by decide) ?_
          refine xn_iadd hx hb dX6_is_60 ?_
          refine xr_i (As := [.int (nI (fr + 3))]) (rest := []) ⟨hx, hb, hml, hown, hts⟩ (c_X6_byteAt l G ko ad w h la tp dw dh dl tl tc hc hd ps fr so vl ft wa tr tb (fr + 3) (by first | assumption | omega) (by first | assumption | omega)) (cwV 1 hts gX6_is_X6_byteAt rfl rfl rfl (by decide +kernel) ⟨Nat.le_of_ble_eq_true rfl, Nat.le_of_ble_eq_true rfl⟩) hK hP hS [0, 1] rfl rfl rfl rfl hl.1 rfl (Nat.le_of_ble_eq_true rfl) dX6_is_61 ⟨Nat.zero_le _, Nat.zero_le _⟩ (fun r61 H locs hp61 hP hS => ?_)
          rw [show r61 = _ from hp61]
          refine lv_iload hx hb dX6_is_64 (lv_at hl 5 rfl) ?_
          refine lv_icmp_ne (tgt := 73) hx hb dX6_is_66 rfl (fun b66 => ?_) (fun b66 => ?_)
          · skip
            refine lv_iconst (v := nI 0) hx hb dX6_is_73 (by decide) ?_
            refine W.zret (v := nI 0) (ty := .boolean) hx hb hr (by decide) (fun t ht hW => ⟨⟨nI 0, (), rfl, ?_, trivial⟩, hS.F ht⟩) hS.2.2 dX6_is_74
            first | exact (xb_f (fun q => b10 q.1)).symm | exact (xb_f (fun q => b22 q.2.1)).symm | exact (xb_f (fun q => b36 q.2.2.1)).symm | exact (xb_f (fun q => b51 q.2.2.2.1)).symm | exact (xb_f (fun q => b66 q.2.2.2.2)).symm | exact (xb_t ⟨b10, b22, b36, b51, b66⟩).symm
          · skip
            refine lv_iconst (v := nI 1) hx hb dX6_is_69 (by decide) ?_
            refine lv_goto (tgt := 74) hx hb dX6_is_70 rfl ?_
            refine W.zret (v := nI 1) (ty := .boolean) hx hb hr (by decide) (fun t ht hW => ⟨⟨nI 1, (), rfl, ?_, trivial⟩, hS.F ht⟩) hS.2.2 dX6_is_74
            first | exact (xb_f (fun q => b10 q.1)).symm | exact (xb_f (fun q => b22 q.2.1)).symm | exact (xb_f (fun q => b36 q.2.2.1)).symm | exact (xb_f (fun q => b51 q.2.2.2.1)).symm | exact (xb_f (fun q => b66 q.2.2.2.2)).symm | exact (xb_t ⟨b10, b22, b36, b51, b66⟩).symm

abbrev w_X6_lineNow (G : XG) (ko : Nat) (ad : Nat → Nat) (w h la tp : Nat) (dw dh dl : Nat) (tl tc hc hd : Int32) (ps fr so : Nat) (vl : Int32) (ft : Nat) (wa tr : Int32) (tb : Nat → Int32) : va_W := [oC ko 6 [.ref (ad 0), .ref (ad 1), .int (nI w), .int (nI h), .int (nI la), .ref (ad 2), .int (nI dw), .int (nI dh), .int (nI dl), .int tl, .int tc, .int hc, .int hd, .ref (ad 3), .int (nI tp), .int (nI ps), .int (nI fr), .int (nI so), .int vl, .int (nI ft), .int wa, .ref (ad 4), .ref (ad 5), .ref (ad 6), .ref (ad 7), .ref (ad 8), .ref (ad 9), .ref (ad 10), .int tr], iA G (ad 3) 160 tb]
abbrev Q_X6_lineNow (G : XG) (ko : Nat) (ad : Nat → Nat) (w h la tp : Nat) (dw dh dl : Nat) (tl tc hc hd : Int32) (ps fr so : Nat) (vl : Int32) (ft : Nat) (wa tr : Int32) (tb : Nat → Int32) : Array Value → State → Outcome → State → Prop := (xRi (fun r => r = mNow tb tp ps fr))
set_option maxHeartbeats 4000000 in
set_option maxRecDepth 100000 in
theorem c_X6_lineNow (l : Launch) (G : XG) (ko : Nat) (ad : Nat → Nat) (w h la tp : Nat) (dw dh dl : Nat) (tl tc hc hd : Int32) (ps fr so : Nat) (vl : Int32) (ft : Nat) (wa tr : Int32) (tb : Nat → Int32) (htp : tp ≤ 160) (hps : ps ≤ tp) (hfr : fr ≤ ps) : Met l yX6_lineNow wsX6_lineNow ({ frames := 2, cells := 0, slots := 0, locals := 46 } : Room) (va_Pc [.ref ko] (xRp G (w_X6_lineNow G ko ad w h la tp dw dh dl tl tc hc hd ps fr so vl ft wa tr tb))) (Q_X6_lineNow G ko ad w h la tp dw dh dl tl tc hc hd ps fr so vl ft wa tr tb) 0 0 (fun _ => False) := by
  refine Met.ofW (cc := cX6_lineNow) (maxL := 1) (ret := (some .int)) (by decide) rfl ?_
  intro pp ee ss mm aa below mt cd s₁ BB hml hv
  obtain ⟨rfl, hP, hK⟩ := hv
  have hx := BB.exec
  have hb := BB.bytes
  have hr := BB.returns
  have hts := atoms_spec (ws := wsX6_lineNow) BB.pre
  have hown : ss.vm.findClass RX6 = some mm.cls := findClass_of_methodNamed BB.named
  have hlocks := BB.notSynchronized
  have hS : va_S (fun _ => False) ss.heap ss.heap [] := va_S.rf
  replace hP : xP G [oC ko 6 [.ref (ad 0), .ref (ad 1), .int (nI w), .int (nI h), .int (nI la), .ref (ad 2), .int (nI dw), .int (nI dh), .int (nI dl), .int tl, .int tc, .int hc, .int hd, .ref (ad 3), .int (nI tp), .int (nI ps), .int (nI fr), .int (nI so), .int vl, .int (nI ft), .int wa, .ref (ad 4), .ref (ad 5), .ref (ad 6), .ref (ad 7), .ref (ad 8), .ref (ad 9), .ref (ad 10), .int tr], iA G (ad 3) 160 tb] ss.heap := hP
  have hin6 : ∀ w ∈ u_ws RX6 TX6 29, w ∈ wsX6_lineNow := fun w h => List.mem_cons_of_mem _ (List.mem_append_right _ h)
  have hl := lv_entry ([.ref ko]) (n := 1) (Nat.le_of_ble_eq_true rfl)
  rw [lg_entry_eq]
  generalize (lg_sl ([.ref ko]) ++ List.replicate (1 - (lg_sl ([.ref ko])).length) Slot.unset).toArray = ls at hl ⊢
  replace hl : lv_has ls 1 [(0, .ref ko)] := hl
  refine lv_aload_n hx hb dX6_lineNow_0 rfl (lv_at hl 0 rfl) ?_
  refine lv_iconst (v := nI 5) hx hb dX6_lineNow_1 (by decide) ?_
  refine lv_bipush (v := nI 104) hx hb dX6_lineNow_2 (by decide) ?_
  refine lv_bipush (v := nI 111) hx hb dX6_lineNow_4 (by decide) ?_
  refine lv_bipush (v := nI 117) hx hb dX6_lineNow_6 (by decide) ?_
  refine lv_bipush (v := nI 115) hx hb dX6_lineNow_8 (by decide) ?_
  refine xr_i (As := [.int (nI 5), .int (nI 104), .int (nI 111), .int (nI 117), .int (nI 115)]) (rest := []) ⟨hx, hb, hml, hown, hts⟩ (c_X6_is l G ko ad w h la tp dw dh dl tl tc hc hd ps fr so vl ft wa tr tb 5 104 111 117 115 (by first | assumption | omega) (by first | assumption | omega) (by first | assumption | omega) (by first | assumption | omega)) (cwV 5 hts gX6_lineNow_X6_is rfl rfl rfl (by decide +kernel) ⟨Nat.le_of_ble_eq_true rfl, Nat.le_of_ble_eq_true rfl⟩) hK hP hS [0, 1] rfl rfl rfl rfl hl.1 rfl (Nat.le_of_ble_eq_true rfl) dX6_lineNow_10 ⟨Nat.zero_le _, Nat.zero_le _⟩ (fun r10 H locs hp10 hP hS => ?_)
  rw [show r10 = _ from hp10]
  refine xb_if_eq (tgt := 33) hx hb dX6_lineNow_13 rfl (fun b13 => ?_) (fun b13 => ?_)
  · skip
    have h0 : ¬ (mIs tb tp ps fr 5 104 111 117 115 ∧ byF tb tp (fr + 4) = nI 101) := fun q => b13 q.1
    refine lv_aload_n hx hb dX6_lineNow_33 rfl (lv_at hl 0 rfl) ?_
    refine lv_iconst (v := nI 4) hx hb dX6_lineNow_34 (by decide) ?_
    refine lv_bipush (v := nI 108) hx hb dX6_lineNow_35 (by decide) ?_
    refine lv_bipush (v := nI 97) hx hb dX6_lineNow_37 (by decide) ?_
    refine lv_bipush (v := nI 115) hx hb dX6_lineNow_39 (by decide) ?_
    refine lv_bipush (v := nI 116) hx hb dX6_lineNow_41 (by decide) ?_
    refine xr_i (As := [.int (nI 4), .int (nI 108), .int (nI 97), .int (nI 115), .int (nI 116)]) (rest := []) ⟨hx, hb, hml, hown, hts⟩ (c_X6_is l G ko ad w h la tp dw dh dl tl tc hc hd ps fr so vl ft wa tr tb 4 108 97 115 116 (by first | assumption | omega) (by first | assumption | omega) (by first | assumption | omega) (by first | assumption | omega)) (cwV 5 hts gX6_lineNow_X6_is rfl rfl rfl (by decide +kernel) ⟨Nat.le_of_ble_eq_true rfl, Nat.le_of_ble_eq_true rfl⟩) hK hP hS [0, 1] rfl rfl rfl rfl hl.1 rfl (Nat.le_of_ble_eq_true rfl) dX6_lineNow_43 ⟨Nat.zero_le _, Nat.zero_le _⟩ (fun r43 H locs hp43 hP hS => ?_)
    rw [show r43 = _ from hp43]
    refine xb_if_eq (tgt := 51) hx hb dX6_lineNow_46 rfl (fun b46 => ?_) (fun b46 => ?_)
    · skip
      refine lv_aload_n hx hb dX6_lineNow_51 rfl (lv_at hl 0 rfl) ?_
      refine lv_iconst (v := nI 4) hx hb dX6_lineNow_52 (by decide) ?_
      refine lv_bipush (v := nI 99) hx hb dX6_lineNow_53 (by decide) ?_
      refine lv_bipush (v := nI 101) hx hb dX6_lineNow_55 (by decide) ?_
      refine lv_bipush (v := nI 108) hx hb dX6_lineNow_57 (by decide) ?_
      refine lv_bipush (v := nI 108) hx hb dX6_lineNow_59 (by decide) ?_
      refine xr_i (As := [.int (nI 4), .int (nI 99), .int (nI 101), .int (nI 108), .int (nI 108)]) (rest := []) ⟨hx, hb, hml, hown, hts⟩ (c_X6_is l G ko ad w h la tp dw dh dl tl tc hc hd ps fr so vl ft wa tr tb 4 99 101 108 108 (by first | assumption | omega) (by first | assumption | omega) (by first | assumption | omega) (by first | assumption | omega)) (cwV 5 hts gX6_lineNow_X6_is rfl rfl rfl (by decide +kernel) ⟨Nat.le_of_ble_eq_true rfl, Nat.le_of_ble_eq_true rfl⟩) hK hP hS [0, 1] rfl rfl rfl rfl hl.1 rfl (Nat.le_of_ble_eq_true rfl) dX6_lineNow_61 ⟨Nat.zero_le _, Nat.zero_le _⟩ (fun r61 H locs hp61 hP hS => ?_)
      rw [show r61 = _ from hp61]
      refine xb_if_eq (tgt := 69) hx hb dX6_lineNow_64 rfl (fun b64 => ?_) (fun b64 => ?_)
      · skip
        refine lv_aload_n hx hb dX6_lineNow_69 rfl (lv_at hl 0 rfl) ?_
        refine lv_iconst (v := nI 4) hx hb dX6_lineNow_70 (by decide) ?_
        refine lv_bipush (v := nI 116) hx hb dX6_lineNow_71 (by decide) ?_
        refine lv_bipush (v := nI 117) hx hb dX6_lineNow_73 (by decide) ?_
        refine lv_bipush (v := nI 114) hx hb dX6_lineNow_75 (by decide) ?_
        refine lv_bipush (v := nI 110) hx hb dX6_lineNow_77 (by decide) ?_
        refine xr_i (As := [.int (nI 4), .int (nI 116), .int (nI 117), .int (nI 114), .int (nI 110)]) (rest := []) ⟨hx, hb, hml, hown, hts⟩ (c_X6_is l G ko ad w h la tp dw dh dl tl tc hc hd ps fr so vl ft wa tr tb 4 116 117 114 110 (by first | assumption | omega) (by first | assumption | omega) (by first | assumption | omega) (by first | assumption | omega)) (cwV 5 hts gX6_lineNow_X6_is rfl rfl rfl (by decide +kernel) ⟨Nat.le_of_ble_eq_true rfl, Nat.le_of_ble_eq_true rfl⟩) hK hP hS [0, 1] rfl rfl rfl rfl hl.1 rfl (Nat.le_of_ble_eq_true rfl) dX6_lineNow_79 ⟨Nat.zero_le _, Nat.zero_le _⟩ (fun r79 H locs hp79 hP hS => ?_)
        rw [show r79 = _ from hp79]
        refine xb_if_eq (tgt := 89) hx hb dX6_lineNow_82 rfl (fun b82 => ?_) (fun b82 => ?_)
        · skip
          refine lv_aload_n hx hb dX6_lineNow_89 rfl (lv_at hl 0 rfl) ?_
          refine lv_iconst (v := nI 4) hx hb dX6_lineNow_90 (by decide) ?_
          refine lv_bipush (v := nI 108) hx hb dX6_lineNow_91 (by decide) ?_
          refine lv_bipush (v := nI 101) hx hb dX6_lineNow_93 (by decide) ?_
          refine lv_bipush (v := nI 110) hx hb dX6_lineNow_95 (by decide) ?_
          refine lv_bipush (v := nI 115) hx hb dX6_lineNow_97 (by decide) ?_
          refine xr_i (As := [.int (nI 4), .int (nI 108), .int (nI 101), .int (nI 110), .int (nI 115)]) (rest := []) ⟨hx, hb, hml, hown, hts⟩ (c_X6_is l G ko ad w h la tp dw dh dl tl tc hc hd ps fr so vl ft wa tr tb 4 108 101 110 115 (by first | assumption | omega) (by first | assumption | omega) (by first | assumption | omega) (by first | assumption | omega)) (cwV 5 hts gX6_lineNow_X6_is rfl rfl rfl (by decide +kernel) ⟨Nat.le_of_ble_eq_true rfl, Nat.le_of_ble_eq_true rfl⟩) hK hP hS [0, 1] rfl rfl rfl rfl hl.1 rfl (Nat.le_of_ble_eq_true rfl) dX6_lineNow_99 ⟨Nat.zero_le _, Nat.zero_le _⟩ (fun r99 H locs hp99 hP hS => ?_)
          rw [show r99 = _ from hp99]
          refine xb_if_eq (tgt := 109) hx hb dX6_lineNow_102 rfl (fun b102 => ?_) (fun b102 => ?_)
          · skip
            refine lv_bipush (v := (-4)) hx hb dX6_lineNow_109 (by decide) ?_
            refine W.iret (v := (-4)) hx hb hr (fun t ht hW => ⟨⟨(-4), (), rfl, ?_, trivial⟩, hS.F ht⟩) hS.2.2 dX6_lineNow_111
            first | exact ((if_neg h0).trans ((if_neg b46).trans ((if_neg b64).trans (if_pos b82)))).symm | exact ((if_neg h0).trans ((if_neg b46).trans ((if_neg b64).trans ((if_neg b82).trans (if_pos b102))))).symm | exact ((if_neg h0).trans ((if_neg b46).trans ((if_neg b64).trans ((if_neg b82).trans (if_neg b102))))).symm
          · skip
            refine lv_iconst (v := nI 4) hx hb dX6_lineNow_105 (by decide) ?_
            refine lv_goto (tgt := 111) hx hb dX6_lineNow_106 rfl ?_
            refine W.iret (v := nI 4) hx hb hr (fun t ht hW => ⟨⟨nI 4, (), rfl, ?_, trivial⟩, hS.F ht⟩) hS.2.2 dX6_lineNow_111
            first | exact ((if_neg h0).trans ((if_neg b46).trans ((if_neg b64).trans (if_pos b82)))).symm | exact ((if_neg h0).trans ((if_neg b46).trans ((if_neg b64).trans ((if_neg b82).trans (if_pos b102))))).symm | exact ((if_neg h0).trans ((if_neg b46).trans ((if_neg b64).trans ((if_neg b82).trans (if_neg b102))))).symm
        · skip
          refine lv_iconst (v := nI 3) hx hb dX6_lineNow_85 (by decide) ?_
          refine lv_goto (tgt := 111) hx hb dX6_lineNow_86 rfl ?_
          refine W.iret (v := nI 3) hx hb hr (fun t ht hW => ⟨⟨nI 3, (), rfl, ?_, trivial⟩, hS.F ht⟩) hS.2.2 dX6_lineNow_111
          first | exact ((if_neg h0).trans ((if_neg b46).trans ((if_neg b64).trans (if_pos b82)))).symm | exact ((if_neg h0).trans ((if_neg b46).trans ((if_neg b64).trans ((if_neg b82).trans (if_pos b102))))).symm | exact ((if_neg h0).trans ((if_neg b46).trans ((if_neg b64).trans ((if_neg b82).trans (if_neg b102))))).symm
      · skip
        refine lv_iconst (v := nI 2) hx hb dX6_lineNow_67 (by decide) ?_
        refine W.iret (v := nI 2) hx hb hr (fun t ht hW => ⟨⟨nI 2, (), rfl, ?_, trivial⟩, hS.F ht⟩) hS.2.2 dX6_lineNow_68
        exact ((if_neg h0).trans ((if_neg b46).trans (if_pos b64))).symm
    · skip
      refine lv_iconst (v := nI 1) hx hb dX6_lineNow_49 (by decide) ?_
      refine W.iret (v := nI 1) hx hb hr (fun t ht hW => ⟨⟨nI 1, (), rfl, ?_, trivial⟩, hS.F ht⟩) hS.2.2 dX6_lineNow_50
      exact ((if_neg h0).trans (if_pos b46)).symm
  · skip
    refine lv_aload_n hx hb dX6_lineNow_16 rfl (lv_at hl 0 rfl) ?_
    refine lv_aload_n hx hb dX6_lineNow_17 rfl (lv_at hl 0 rfl) ?_
    refine va_get (D := G.1) (ci := 6) (v := .int (nI fr)) (C := RX6) (T := TX6) (N := 29) hx hb hts hin6 hown hK.1 hP 0 rfl rfl 16 (by decide) (hts (.fieldLink RX6 93 "BackLensesModel" "from" "I") (List.mem_of_getElem? (i := 1) rfl)) (fun _ h9 => h9) rfl dX6_lineNow_18 ?_
    refine lv_iconst (v := nI 4) hx hb dX6_lineNow_21 (by decide) ?_
    refine xn_iadd hx hb dX6_lineNow_22 ?_
    refine xr_i (As := [.int (nI (fr + 4))]) (rest := []) ⟨hx, hb, hml, hown, hts⟩ (c_X6_byteAt l G ko ad w h la tp dw dh dl tl tc hc hd ps fr so vl ft wa tr tb (fr + 4) (by first | assumption | omega) (by first | assumption | omega)) (cwV 1 hts gX6_lineNow_X6_byteAt rfl rfl rfl (by decide +kernel) ⟨Nat.le_of_ble_eq_true rfl, Nat.le_of_ble_eq_true rfl⟩) hK hP hS [0, 1] rfl rfl rfl rfl hl.1 rfl (Nat.le_of_ble_eq_true rfl) dX6_lineNow_23 ⟨Nat.zero_le _, Nat.zero_le _⟩ (fun r23 H locs hp23 hP hS => ?_)
    rw [show r23 = _ from hp23]
    refine lv_bipush (v := nI 101) hx hb dX6_lineNow_26 (by decide) ?_
    refine lv_icmp_ne (tgt := 33) hx hb dX6_lineNow_28 rfl (fun b28 => ?_) (fun b28 => ?_)
    · skip
      have h0 : ¬ (mIs tb tp ps fr 5 104 111 117 115 ∧ byF tb tp (fr + 4) = nI 101) := fun q => b28 q.2
      refine lv_aload_n hx hb dX6_lineNow_33 rfl (lv_at hl 0 rfl) ?_
      refine lv_iconst (v := nI 4) hx hb dX6_lineNow_34 (by decide) ?_
      refine lv_bipush (v := nI 108) hx hb dX6_lineNow_35 (by decide) ?_
      refine lv_bipush (v := nI 97) hx hb dX6_lineNow_37 (by decide) ?_
      refine lv_bipush (v := nI 115) hx hb dX6_lineNow_39 (by decide) ?_
      refine lv_bipush (v := nI 116) hx hb dX6_lineNow_41 (by decide) ?_
      refine xr_i (As := [.int (nI 4), .int (nI 108), .int (nI 97), .int (nI 115), .int (nI 116)]) (rest := []) ⟨hx, hb, hml, hown, hts⟩ (c_X6_is l G ko ad w h la tp dw dh dl tl tc hc hd ps fr so vl ft wa tr tb 4 108 97 115 116 (by first | assumption | omega) (by first | assumption | omega) (by first | assumption | omega) (by first | assumption | omega)) (cwV 5 hts gX6_lineNow_X6_is rfl rfl rfl (by decide +kernel) ⟨Nat.le_of_ble_eq_true rfl, Nat.le_of_ble_eq_true rfl⟩) hK hP hS [0, 1] rfl rfl rfl rfl hl.1 rfl (Nat.le_of_ble_eq_true rfl) dX6_lineNow_43 ⟨Nat.zero_le _, Nat.zero_le _⟩ (fun r43 H locs hp43 hP hS => ?_)
      rw [show r43 = _ from hp43]
      refine xb_if_eq (tgt := 51) hx hb dX6_lineNow_46 rfl (fun b46 => ?_) (fun b46 => ?_)
      · skip
        refine lv_aload_n hx hb dX6_lineNow_51 rfl (lv_at hl 0 rfl) ?_
        refine lv_iconst (v := nI 4) hx hb dX6_lineNow_52 (by decide) ?_
        refine lv_bipush (v := nI 99) hx hb dX6_lineNow_53 (by decide) ?_
        refine lv_bipush (v := nI 101) hx hb dX6_lineNow_55 (by decide) ?_
        refine lv_bipush (v := nI 108) hx hb dX6_lineNow_57 (by decide) ?_
        refine lv_bipush (v := nI 108) hx hb dX6_lineNow_59 (by decide) ?_
        refine xr_i (As := [.int (nI 4), .int (nI 99), .int (nI 101), .int (nI 108), .int (nI 108)]) (rest := []) ⟨hx, hb, hml, hown, hts⟩ (c_X6_is l G ko ad w h la tp dw dh dl tl tc hc hd ps fr so vl ft wa tr tb 4 99 101 108 108 (by first | assumption | omega) (by first | assumption | omega) (by first | assumption | omega) (by first | assumption | omega)) (cwV 5 hts gX6_lineNow_X6_is rfl rfl rfl (by decide +kernel) ⟨Nat.le_of_ble_eq_true rfl, Nat.le_of_ble_eq_true rfl⟩) hK hP hS [0, 1] rfl rfl rfl rfl hl.1 rfl (Nat.le_of_ble_eq_true rfl) dX6_lineNow_61 ⟨Nat.zero_le _, Nat.zero_le _⟩ (fun r61 H locs hp61 hP hS => ?_)
        rw [show r61 = _ from hp61]
        refine xb_if_eq (tgt := 69) hx hb dX6_lineNow_64 rfl (fun b64 => ?_) (fun b64 => ?_)
        · skip
          refine lv_aload_n hx hb dX6_lineNow_69 rfl (lv_at hl 0 rfl) ?_
          refine lv_iconst (v := nI 4) hx hb dX6_lineNow_70 (by decide) ?_
          refine lv_bipush (v := nI 116) hx hb dX6_lineNow_71 (by decide) ?_
          refine lv_bipush (v := nI 117) hx hb dX6_lineNow_73 (by decide) ?_
          refine lv_bipush (v := nI 114) hx hb dX6_lineNow_75 (by decide) ?_
          refine lv_bipush (v := nI 110) hx hb dX6_lineNow_77 (by decide) ?_
          refine xr_i (As := [.int (nI 4), .int (nI 116), .int (nI 117), .int (nI 114), .int (nI 110)]) (rest := []) ⟨hx, hb, hml, hown, hts⟩ (c_X6_is l G ko ad w h la tp dw dh dl tl tc hc hd ps fr so vl ft wa tr tb 4 116 117 114 110 (by first | assumption | omega) (by first | assumption | omega) (by first | assumption | omega) (by first | assumption | omega)) (cwV 5 hts gX6_lineNow_X6_is rfl rfl rfl (by decide +kernel) ⟨Nat.le_of_ble_eq_true rfl, Nat.le_of_ble_eq_true rfl⟩) hK hP hS [0, 1] rfl rfl rfl rfl hl.1 rfl (Nat.le_of_ble_eq_true rfl) dX6_lineNow_79 ⟨Nat.zero_le _, Nat.zero_le _⟩ (fun r79 H locs hp79 hP hS => ?_)
          rw [show r79 = _ from hp79]
          refine xb_if_eq (tgt := 89) hx hb dX6_lineNow_82 rfl (fun b82 => ?_) (fun b82 => ?_)
          · skip
            refine lv_aload_n hx hb dX6_lineNow_89 rfl (lv_at hl 0 rfl) ?_
            refine lv_iconst (v := nI 4) hx hb dX6_lineNow_90 (by decide) ?_
            refine lv_bipush (v := nI 108) hx hb dX6_lineNow_91 (by decide) ?_
            refine lv_bipush (v := nI 101) hx hb dX6_lineNow_93 (by decide) ?_
            refine lv_bipush (v := nI 110) hx hb dX6_lineNow_95 (by decide) ?_
            refine lv_bipush (v := nI 115) hx hb dX6_lineNow_97 (by decide) ?_
            refine xr_i (As := [.int (nI 4), .int (nI 108), .int (nI 101), .int (nI 110), .int (nI 115)]) (rest := []) ⟨hx, hb, hml, hown, hts⟩ (c_X6_is l G ko ad w h la tp dw dh dl tl tc hc hd ps fr so vl ft wa tr tb 4 108 101 110 115 (by first | assumption | omega) (by first | assumption | omega) (by first | assumption | omega) (by first | assumption | omega)) (cwV 5 hts gX6_lineNow_X6_is rfl rfl rfl (by decide +kernel) ⟨Nat.le_of_ble_eq_true rfl, Nat.le_of_ble_eq_true rfl⟩) hK hP hS [0, 1] rfl rfl rfl rfl hl.1 rfl (Nat.le_of_ble_eq_true rfl) dX6_lineNow_99 ⟨Nat.zero_le _, Nat.zero_le _⟩ (fun r99 H locs hp99 hP hS => ?_)
            rw [show r99 = _ from hp99]
            refine xb_if_eq (tgt := 109) hx hb dX6_lineNow_102 rfl (fun b102 => ?_) (fun b102 => ?_)
            · skip
              refine lv_bipush (v := (-4)) hx hb dX6_lineNow_109 (by decide) ?_
              refine W.iret (v := (-4)) hx hb hr (fun t ht hW => ⟨⟨(-4), (), rfl, ?_, trivial⟩, hS.F ht⟩) hS.2.2 dX6_lineNow_111
              first | exact ((if_neg h0).trans ((if_neg b46).trans ((if_neg b64).trans (if_pos b82)))).symm | exact ((if_neg h0).trans ((if_neg b46).trans ((if_neg b64).trans ((if_neg b82).trans (if_pos b102))))).symm | exact ((if_neg h0).trans ((if_neg b46).trans ((if_neg b64).trans ((if_neg b82).trans (if_neg b102))))).symm
            · skip
              refine lv_iconst (v := nI 4) hx hb dX6_lineNow_105 (by decide) ?_
              refine lv_goto (tgt := 111) hx hb dX6_lineNow_106 rfl ?_
              refine W.iret (v := nI 4) hx hb hr (fun t ht hW => ⟨⟨nI 4, (), rfl, ?_, trivial⟩, hS.F ht⟩) hS.2.2 dX6_lineNow_111
              first | exact ((if_neg h0).trans ((if_neg b46).trans ((if_neg b64).trans (if_pos b82)))).symm | exact ((if_neg h0).trans ((if_neg b46).trans ((if_neg b64).trans ((if_neg b82).trans (if_pos b102))))).symm | exact ((if_neg h0).trans ((if_neg b46).trans ((if_neg b64).trans ((if_neg b82).trans (if_neg b102))))).symm
          · skip
            refine lv_iconst (v := nI 3) hx hb dX6_lineNow_85 (by decide) ?_
            refine lv_goto (tgt := 111) hx hb dX6_lineNow_86 rfl ?_
            refine W.iret (v := nI 3) hx hb hr (fun t ht hW => ⟨⟨nI 3, (), rfl, ?_, trivial⟩, hS.F ht⟩) hS.2.2 dX6_lineNow_111
            first | exact ((if_neg h0).trans ((if_neg b46).trans ((if_neg b64).trans (if_pos b82)))).symm | exact ((if_neg h0).trans ((if_neg b46).trans ((if_neg b64).trans ((if_neg b82).trans (if_pos b102))))).symm | exact ((if_neg h0).trans ((if_neg b46).trans ((if_neg b64).trans ((if_neg b82).trans (if_neg b102))))).symm
        · skip
          refine lv_iconst (v := nI 2) hx hb dX6_lineNow_67 (by decide) ?_
          refine W.iret (v := nI 2) hx hb hr (fun t ht hW => ⟨⟨nI 2, (), rfl, ?_, trivial⟩, hS.F ht⟩) hS.2.2 dX6_lineNow_68
          exact ((if_neg h0).trans ((if_neg b46).trans (if_pos b64))).symm
      · skip
        refine lv_iconst (v := nI 1) hx hb dX6_lineNow_49 (by decide) ?_
        refine W.iret (v := nI 1) hx hb hr (fun t ht hW => ⟨⟨nI 1, (), rfl, ?_, trivial⟩, hS.F ht⟩) hS.2.2 dX6_lineNow_50
        exact ((if_neg h0).trans (if_pos b46)).symm
    · skip
      refine lv_iconst (v := nI 0) hx hb dX6_lineNow_31 (by decide) ?_
      refine W.iret (v := nI 0) hx hb hr (fun t ht hW => ⟨⟨nI 0, (), rfl, ?_, trivial⟩, hS.F ht⟩) hS.2.2 dX6_lineNow_32
      exact (if_pos ⟨b13, b28⟩).symm
end
section
def mOk (rl : Nat) (s : MS) : Prop := s.1 ≤ rl ∧ s.2.2.2.2.1 ≤ 6 ∧ s.2.2.1 ≤ 3 ∧ s.2.1 ≤ s.1
theorem mTok_ok {t : Nat → Int32} {rl : Nat} {s : MS} (h : mOk rl s) : mOk rl (mTok t rl s) := ⟨(mTok_bd h.1).1, mTok_ft h.2.1, (mTok_so h.2.2.1 h.2.2.2).1, (mTok_so h.2.2.1 h.2.2.2).2⟩
theorem mF_ok {rl c : Nat} {s : MS} (hc : c ≤ 6) (h : mOk rl s) : mOk rl (mF c s) := ⟨h.1, hc, h.2.2⟩
theorem mLoo_ok {rl lo hi : Nat} {s : MS} (h : mOk rl s) : mOk rl (mLoo lo hi s).2 := by
  unfold mLoo
  split
  · split
    · split
      · exact h
      · exact mF_ok (by omega) h
    · exact mF_ok (by omega) h
  · exact h
theorem mLoo_ge {lo hi : Nat} {s : MS} : (mLoo lo hi s).2.1 = s.1 := mLoo_bd.1
theorem mBut_ok {rl : Nat} {sm : Int32} {q : Int32 × MS} (h : mOk rl q.2) : mOk rl (mBut sm q) := by
  unfold mBut
  split
  · split
    · exact h
    · exact mF_ok (by omega) h
  · exact h
theorem mNum_ok {t : Nat → Int32} {rl lo hi : Nat} {s : MS} (h : mOk rl s) : mOk rl (mNum t rl lo hi s).2 ∧ s.1 ≤ (mNum t rl lo hi s).2.1 := by
  have h1 := mLoo_ok (lo := lo) (hi := hi) h
  refine ⟨mTok_ok h1, ?_⟩
  have h2 := (mTok_bd (t := t) h1.1).2
  rw [mLoo_ge] at h2
  exact h2
theorem mDay_ok {t : Nat → Int32} {rl : Nat} {hd : Int32} {s : MS} (h : mOk rl s) : mOk rl (mDay t rl hd s).2.2 ∧ s.1 ≤ (mDay t rl hd s).2.2.1 := by
  have h1 := mLoo_ok (lo := 0) (hi := 9) h
  refine ⟨mTok_ok h1, ?_⟩
  have h2 := (mTok_bd (t := t) h1.1).2
  rw [mLoo_ge] at h2
  exact h2
theorem mCel_ok {t : Nat → Int32} {rl : Nat} {sm hc : Int32} {s : MS} (h : mOk rl s) : mOk rl (mCel t rl sm hc s).2.2 ∧ s.1 ≤ (mCel t rl sm hc s).2.2.1 ∧ ((mCel t rl sm hc s).2.2.2.2.2.2.1 = 0 → ¬ (mCel t rl sm hc s).2.2.2.2.1 = 0 → s.1 + 1 ≤ (mCel t rl sm hc s).2.2.1) := by
  have h1 := mLoo_ok (lo := 0) (hi := 15) h
  have h2 := mBut_ok (sm := sm) h1
  have h3 : (mBut sm (mLoo 0 15 s)).1 = s.1 := mBut_bd.1.trans mLoo_ge
  have h4 := (mTok_bd (t := t) h2.1).2
  refine ⟨mTok_ok h2, ?_, fun a b => ?_⟩
  · rw [h3] at h4; exact h4
  · have h5 := mTok_adv (t := t) (rl := rl) (s := mBut sm (mLoo 0 15 s)) a b
    rw [h3] at h5; exact h5
theorem mBl_ok {t : Nat → Int32} {rl : Nat} : ∀ (k : Nat) (acc hc : Int32) (s : MS), mOk rl s → mOk rl (mBl t rl k acc hc s).2.2 ∧ s.1 ≤ (mBl t rl k acc hc s).2.2.1 := by
  intro k
  induction k with
  | zero => intro acc hc s h; exact ⟨h, Nat.le_refl _⟩
  | succ k ih =>
    intro acc hc s h
    rw [mBl]
    split
    · have h1 := mCel_ok (t := t) (sm := acc) (hc := hc) h
      have h2 := ih (acc ||| (if (mCel t rl acc hc s).2.2.2.2.2.2.1 = 0 then nI 1 <<< ((mCel t rl acc hc s).1 &&& 31) else nI 0)) (mCel t rl acc hc s).2.1 (mCel t rl acc hc s).2.2 h1.1
      exact ⟨h2.1, Nat.le_trans h1.2.1 h2.2⟩
    · exact ⟨h, Nat.le_refl _⟩
def mLens (t : Nat → Int32) (rl : Nat) (hc hd : Int32) (D : Nat → Int32) (s : MS) : MS × Int32 × Int32 × (Nat → Int32) :=
  ((mBl t rl (rl + 2) (nI 0) hc (mDay t rl hd s).2.2).2.2, (mBl t rl (rl + 2) (nI 0) hc (mDay t rl hd s).2.2).2.1, (mDay t rl hd s).2.1,
    upd (upd (upd D (48 + 2 * vI (D 47)) (mDay t rl hd s).1) (48 + 2 * vI (D 47) + 1) (mBl t rl (rl + 2) (nI 0) hc (mDay t rl hd s).2.2).1) 47 (nI (vI (D 47) + 1)))
theorem mLens_ok {t : Nat → Int32} {rl : Nat} {hc hd : Int32} {D : Nat → Int32} {s : MS} (h : mOk rl s) : mOk rl (mLens t rl hc hd D s).1 ∧ s.1 ≤ (mLens t rl hc hd D s).1.1 := by
  have h1 := mDay_ok (t := t) (hd := hd) h
  have h2 := mBl_ok (t := t) (rl + 2) (nI 0) hc _ h1.1
  exact ⟨h2.1, Nat.le_trans h1.2 h2.2⟩
/-- all that the reference's reader changes: its token; wide, high, last; told lines, told cells, highest cell, highest day; the draft -/
abbrev XS : Type := MS × (Nat × Nat × Nat) × (Int32 × Int32 × Int32 × Int32) × (Nat → Int32)
def mL0 (t : Nat → Int32) (rl : Nat) (x : XS) : XS := ((mNum t rl 2 4 (mNum t rl 2 4 x.1).2).2, (vI (mNum t rl 2 4 x.1).1, vI (mNum t rl 2 4 (mNum t rl 2 4 x.1).2).1, x.2.1.2.2), x.2.2)
def mL1 (t : Nat → Int32) (rl : Nat) (x : XS) : XS := ((mNum t rl 0 9 x.1).2, (x.2.1.1, x.2.1.2.1, vI (mNum t rl 0 9 x.1).1), x.2.2)
def mL2 (t : Nat → Int32) (rl : Nat) (x : XS) : XS :=
  ((mNum t rl 0 5 (mCel t rl x.2.2.1.2.1 x.2.2.1.2.2.1 x.1).2.2).2, x.2.1,
    (x.2.2.1.1, x.2.2.1.2.1 ||| (nI 1 <<< ((mCel t rl x.2.2.1.2.1 x.2.2.1.2.2.1 x.1).1 &&& 31)), (mCel t rl x.2.2.1.2.1 x.2.2.1.2.2.1 x.1).2.1, x.2.2.1.2.2.2),
    upd x.2.2.2 (vI (mCel t rl x.2.2.1.2.1 x.2.2.1.2.2.1 x.1).1) (mNum t rl 0 5 (mCel t rl x.2.2.1.2.1 x.2.2.1.2.2.1 x.1).2.2).1)
abbrev mdA (t : Nat → Int32) (rl : Nat) (x : XS) : Int32 × Int32 × MS := mDay t rl x.2.2.1.2.2.2 x.1
abbrev mcA (t : Nat → Int32) (rl : Nat) (x : XS) : Int32 × Int32 × MS := mCel t rl (nI 0) x.2.2.1.2.2.1 (mdA t rl x).2.2
abbrev mvA (t : Nat → Int32) (rl : Nat) (x : XS) : Int32 × MS := mNum t rl 0 5 (mcA t rl x).2.2
def mL3 (t : Nat → Int32) (rl : Nat) (x : XS) : XS :=
  ((mvA t rl x).2, x.2.1, (x.2.2.1.1, x.2.2.1.2.1, (mcA t rl x).2.1, (mdA t rl x).2.1),
    upd (upd (upd (upd x.2.2.2 (17 + 3 * vI (x.2.2.2 16)) (mdA t rl x).1) (17 + 3 * vI (x.2.2.2 16) + 1) (mcA t rl x).1) (17 + 3 * vI (x.2.2.2 16) + 2) (mvA t rl x).1) 16 (nI (vI (x.2.2.2 16) + 1)))
def mL4 (t : Nat → Int32) (rl : Nat) (x : XS) : XS :=
  ((mLens t rl x.2.2.1.2.2.1 x.2.2.1.2.2.2 x.2.2.2 x.1).1, x.2.1, (x.2.2.1.1, x.2.2.1.2.1, (mLens t rl x.2.2.1.2.2.1 x.2.2.1.2.2.2 x.2.2.2 x.1).2.1, (mLens t rl x.2.2.1.2.2.1 x.2.2.1.2.2.2 x.2.2.2 x.1).2.2.1), (mLens t rl x.2.2.1.2.2.1 x.2.2.1.2.2.2 x.2.2.2 x.1).2.2.2)
def mLof (t : Nat → Int32) (rl : Nat) : Nat → XS → XS
  | 0, x => mL0 t rl x
  | 1, x => mL1 t rl x
  | 2, x => mL2 t rl x
  | 3, x => mL3 t rl x
  | _, x => mL4 t rl x
end
section
abbrev w_X6_readLens (G : XG) (ko : Nat) (ad : Nat → Nat) (w h la tp : Nat) (dw dh dl : Nat) (tl tc hc hd : Int32) (ps fr so : Nat) (vl : Int32) (ft : Nat) (wa tr : Int32) (tb D : Nat → Int32) : va_W := [oC ko 6 [.ref (ad 0), .ref (ad 1), .int (nI w), .int (nI h), .int (nI la), .ref (ad 2), .int (nI dw), .int (nI dh), .int (nI dl), .int tl, .int tc, .int hc, .int hd, .ref (ad 3), .int (nI tp), .int (nI ps), .int (nI fr), .int (nI so), .int vl, .int (nI ft), .int wa, .ref (ad 4), .ref (ad 5), .ref (ad 6), .ref (ad 7), .ref (ad 8), .ref (ad 9), .ref (ad 10), .int tr], iA G (ad 2) 85 D, iA G (ad 3) 160 tb]
abbrev Q_X6_readLens (G : XG) (sz : Nat) (ko : Nat) (ad : Nat → Nat) (w h la tp : Nat) (dw dh dl : Nat) (tl tc hc hd : Int32) (ps fr so : Nat) (vl : Int32) (ft : Nat) (wa tr : Int32) (tb D : Nat → Int32) : Array Value → State → Outcome → State → Prop := (va_Qv (fun (u : Nat × Nat × Nat × Int32 × Nat × Int32 × Int32 × Int32 × (Nat → Int32)) => ((u.1, u.2.1, u.2.2.1, u.2.2.2.1, u.2.2.2.2.1, u.2.2.2.2.2.1), u.2.2.2.2.2.2.1, u.2.2.2.2.2.2.2.1, u.2.2.2.2.2.2.2.2) = mLens tb tp hc hd D (ps, fr, so, vl, ft, wa)) (xWb G sz (w_X6_readLens G ko ad w h la tp dw dh dl tl tc hc hd ps fr so vl ft wa tr tb D) (fun u : Nat × Nat × Nat × Int32 × Nat × Int32 × Int32 × Int32 × (Nat → Int32) => [oC ko 6 [.ref (ad 0), .ref (ad 1), .int (nI w), .int (nI h), .int (nI la), .ref (ad 2), .int (nI dw), .int (nI dh), .int (nI dl), .int tl, .int tc, .int u.2.2.2.2.2.2.1, .int u.2.2.2.2.2.2.2.1, .ref (ad 3), .int (nI tp), .int (nI u.1), .int (nI u.2.1), .int (nI u.2.2.1), .int u.2.2.2.1, .int (nI u.2.2.2.2.1), .int u.2.2.2.2.2.1, .ref (ad 4), .ref (ad 5), .ref (ad 6), .ref (ad 7), .ref (ad 8), .ref (ad 9), .ref (ad 10), .int tr], iA G (ad 2) 85 u.2.2.2.2.2.2.2.2, iA G (ad 3) 160 tb])) (va_A (w_X6_readLens G ko ad w h la tp dw dh dl tl tc hc hd ps fr so vl ft wa tr tb D) sz))
set_option maxHeartbeats 4000000 in
set_option maxRecDepth 100000 in
theorem c_X6_readLens (l : Launch) (G : XG) (sz : Nat) (ko : Nat) (ad : Nat → Nat) (w h la tp : Nat) (dw dh dl : Nat) (tl tc hc hd : Int32) (ps fr so : Nat) (vl : Int32) (ft : Nat) (wa tr : Int32) (tb D : Nat → Int32) (htp : tp ≤ 160) (hps : ps ≤ tp) (htk : tpOk tb tp) (hft : ft ≤ 6) (hso : so ≤ 3) (hfr : fr ≤ ps) (hD47 : inR (D 47) 6) : Met l yX6_readLens wsX6_readLens ({ frames := 3, cells := 0, slots := 0, locals := 69 } : Room) (va_Pc [.ref ko] (xWp G sz (w_X6_readLens G ko ad w h la tp dw dh dl tl tc hc hd ps fr so vl ft wa tr tb D))) (Q_X6_readLens G sz ko ad w h la tp dw dh dl tl tc hc hd ps fr so vl ft wa tr tb D) 0 0 (va_A (w_X6_readLens G ko ad w h la tp dw dh dl tl tc hc hd ps fr so vl ft wa tr tb D) sz) := by
  refine Met.ofW (cc := cX6_readLens) (maxL := 3) (ret := none) (by decide) rfl ?_
  intro pp ee ss mm aa below mt cd s₁ BB hml hv
  obtain ⟨rfl, hsz, hP, hK, hD0⟩ := hv
  have hx := BB.exec
  have hb := BB.bytes
  have hr := BB.returns
  have hts := atoms_spec (ws := wsX6_readLens) BB.pre
  have hown : ss.vm.findClass RX6 = some mm.cls := findClass_of_methodNamed BB.named
  have hlocks := BB.notSynchronized
  subst hsz
  have hD := hD0.self (sz := ss.heap.size)
  have hA : ∀ q : Nat, ss.heap.size ≤ q → va_A (w_X6_readLens G ko ad w h la tp dw dh dl tl tc hc hd ps fr so vl ft wa tr tb D) ss.heap.size q := fun q h => Or.inr h
  have hS : va_S (va_A (w_X6_readLens G ko ad w h la tp dw dh dl tl tc hc hd ps fr so vl ft wa tr tb D) ss.heap.size) ss.heap ss.heap [] := va_S.rf
  replace hD : va_D (va_A (w_X6_readLens G ko ad w h la tp dw dh dl tl tc hc hd ps fr so vl ft wa tr tb D) ss.heap.size) [oC ko 6 [.ref (ad 0), .ref (ad 1), .int (nI w), .int (nI h), .int (nI la), .ref (ad 2), .int (nI dw), .int (nI dh), .int (nI dl), .int tl, .int tc, .int hc, .int hd, .ref (ad 3), .int (nI tp), .int (nI ps), .int (nI fr), .int (nI so), .int vl, .int (nI ft), .int wa, .ref (ad 4), .ref (ad 5), .ref (ad 6), .ref (ad 7), .ref (ad 8), .ref (ad 9), .ref (ad 10), .int tr], iA G (ad 2) 85 D, iA G (ad 3) 160 tb] := hD
  replace hP : xP G [oC ko 6 [.ref (ad 0), .ref (ad 1), .int (nI w), .int (nI h), .int (nI la), .ref (ad 2), .int (nI dw), .int (nI dh), .int (nI dl), .int tl, .int tc, .int hc, .int hd, .ref (ad 3), .int (nI tp), .int (nI ps), .int (nI fr), .int (nI so), .int vl, .int (nI ft), .int wa, .ref (ad 4), .ref (ad 5), .ref (ad 6), .ref (ad 7), .ref (ad 8), .ref (ad 9), .ref (ad 10), .int tr], iA G (ad 2) 85 D, iA G (ad 3) 160 tb] ss.heap := hP
  have hin6 : ∀ w ∈ u_ws RX6 TX6 29, w ∈ wsX6_readLens := fun w h => List.mem_cons_of_mem _ (List.mem_append_right _ h)
  have hl := lv_entry ([.ref ko]) (n := 3) (Nat.le_of_ble_eq_true rfl)
  rw [lg_entry_eq]
  generalize (lg_sl ([.ref ko]) ++ List.replicate (3 - (lg_sl ([.ref ko])).length) Slot.unset).toArray = ls at hl ⊢
  replace hl : lv_has ls 3 [(0, .ref ko)] := hl
  have ho0 : mOk tp (ps, fr, so, vl, ft, wa) := ⟨hps, hft, hso, hfr⟩
  obtain ⟨nl, hnl, h47⟩ := inR_nat hD47
  refine lv_bipush (v := nI 48) hx hb dX6_readLens_0 (by decide) ?_
  refine lv_iconst (v := nI 2) hx hb dX6_readLens_2 (by decide) ?_
  refine lv_aload_n hx hb dX6_readLens_3 rfl (lv_at hl 0 rfl) ?_
  refine va_get (D := G.1) (ci := 6) (v := .ref (ad 2)) (C := RX6) (T := TX6) (N := 29) hx hb hts hin6 hown hK.1 hP 0 rfl rfl 5 (by decide) (hts (.fieldLink RX6 17 "BackLensesModel" "draft" "[I") (List.mem_of_getElem? (i := 1) rfl)) (fun _ h9 => h9) rfl dX6_readLens_4 ?_
  refine lv_bipush (v := nI 47) hx hb dX6_readLens_7 (by decide) ?_
  refine xn_iald hx hb hK hP 1 rfl (by omega) (by omega) dX6_readLens_9 ?_
  refine xn_top (y := nI nl) (by exact h47) ?_
  refine xn_imul hx hb dX6_readLens_10 ?_
  refine xn_iadd hx hb dX6_readLens_11 ?_
  refine lv_istore_n (lv' := [(1, .int (nI (48 + (2 * nl)))), (0, .ref ko)]) hx hb dX6_readLens_12 rfl hl (by decide) rfl (fun ls hl => ?_)
  refine lv_aload_n hx hb dX6_readLens_13 rfl (lv_at hl 1 rfl) ?_
  refine va_get (D := G.1) (ci := 6) (v := .ref (ad 2)) (C := RX6) (T := TX6) (N := 29) hx hb hts hin6 hown hK.1 hP 0 rfl rfl 5 (by decide) (hts (.fieldLink RX6 17 "BackLensesModel" "draft" "[I") (List.mem_of_getElem? (i := 1) rfl)) (fun _ h9 => h9) rfl dX6_readLens_14 ?_
  refine lv_iload_n hx hb dX6_readLens_17 rfl (lv_at hl 0 rfl) ?_
  refine lv_aload_n hx hb dX6_readLens_18 rfl (lv_at hl 1 rfl) ?_
  refine xw_i (As := []) (rest := [.int (nI (48 + (2 * nl))), .ref (ad 2)]) (wr := [iA G (ad 2) 85 D]) ⟨hx, hb, hml, hown, hts⟩ (c_X6_readDay l G ss.heap.size ko ad w h la tp dw dh dl tl tc hc hd ps fr so vl ft wa tr tb (by first | assumption | omega) (by first | assumption | omega) (by first | assumption | omega) (by first | assumption | omega) (by first | assumption | omega)) (cwV 0 hts gX6_readLens_X6_readDay rfl rfl rfl (by decide +kernel) ⟨Nat.le_of_ble_eq_true rfl, Nat.le_of_ble_eq_true rfl⟩) hK hP hD hS hA [0, 2] [1] rfl rfl (by decide) (by decide) (by decide) rfl rfl rfl hl.1 rfl (Nat.le_of_ble_eq_true rfl) dX6_readLens_19 ⟨Nat.le_of_ble_eq_true rfl, Nat.le_of_ble_eq_true rfl⟩ (fun r19 u H locs hp19 hP hD hS => ?_)
  obtain ⟨ps2_19, fr2_19, so2_19, vl2_19, ft2_19, wa2_19, hd2_19⟩ := u
  try dsimp only at hp19 hP hD
  obtain ⟨rfl, he19⟩ := hp19
  replace hP : xP G [iA G (ad 2) 85 D, oC ko 6 [.ref (ad 0), .ref (ad 1), .int (nI w), .int (nI h), .int (nI la), .ref (ad 2), .int (nI dw), .int (nI dh), .int (nI dl), .int tl, .int tc, .int hc, .int hd2_19, .ref (ad 3), .int (nI tp), .int (nI ps2_19), .int (nI fr2_19), .int (nI so2_19), .int vl2_19, .int (nI ft2_19), .int wa2_19, .ref (ad 4), .ref (ad 5), .ref (ad 6), .ref (ad 7), .ref (ad 8), .ref (ad 9), .ref (ad 10), .int tr], iA G (ad 3) 160 tb] H := hP
  replace hD : va_D (va_A (w_X6_readLens G ko ad w h la tp dw dh dl tl tc hc hd ps fr so vl ft wa tr tb D) ss.heap.size) [iA G (ad 2) 85 D, oC ko 6 [.ref (ad 0), .ref (ad 1), .int (nI w), .int (nI h), .int (nI la), .ref (ad 2), .int (nI dw), .int (nI dh), .int (nI dl), .int tl, .int tc, .int hc, .int hd2_19, .ref (ad 3), .int (nI tp), .int (nI ps2_19), .int (nI fr2_19), .int (nI so2_19), .int vl2_19, .int (nI ft2_19), .int wa2_19, .ref (ad 4), .ref (ad 5), .ref (ad 6), .ref (ad 7), .ref (ad 8), .ref (ad 9), .ref (ad 10), .int tr], iA G (ad 3) 160 tb] := hD
  generalize hdv : (mDay tb tp hd (ps, fr, so, vl, ft, wa)).1 = dv19
  have ho19 : mOk tp (ps2_19, fr2_19, so2_19, vl2_19, ft2_19, wa2_19) := (by have q := (mDay_ok (t := tb) (hd := hd) ho0).1; rw [← he19] at q; exact q)
  have hps19 := ho19.1
  have hft19 := ho19.2.1
  have hso19 := ho19.2.2.1
  have hfr19 := ho19.2.2.2
  replace hps19 : ps2_19 ≤ tp := hps19
  replace hft19 : ft2_19 ≤ 6 := hft19
  replace hso19 : so2_19 ≤ 3 := hso19
  replace hfr19 : fr2_19 ≤ ps2_19 := hfr19
  refine xn_iast hx hb hK hP hD hS 0 rfl (by omega) (by omega) dX6_readLens_22 (fun H locs hP hD hS => ?_)
  replace hP : xP G [iA G (ad 2) 85 (upd D (48 + (2 * nl)) dv19), oC ko 6 [.ref (ad 0), .ref (ad 1), .int (nI w), .int (nI h), .int (nI la), .ref (ad 2), .int (nI dw), .int (nI dh), .int (nI dl), .int tl, .int tc, .int hc, .int hd2_19, .ref (ad 3), .int (nI tp), .int (nI ps2_19), .int (nI fr2_19), .int (nI so2_19), .int vl2_19, .int (nI ft2_19), .int wa2_19, .ref (ad 4), .ref (ad 5), .ref (ad 6), .ref (ad 7), .ref (ad 8), .ref (ad 9), .ref (ad 10), .int tr], iA G (ad 3) 160 tb] H := hP
  replace hD : va_D (va_A (w_X6_readLens G ko ad w h la tp dw dh dl tl tc hc hd ps fr so vl ft wa tr tb D) ss.heap.size) [iA G (ad 2) 85 (upd D (48 + (2 * nl)) dv19), oC ko 6 [.ref (ad 0), .ref (ad 1), .int (nI w), .int (nI h), .int (nI la), .ref (ad 2), .int (nI dw), .int (nI dh), .int (nI dl), .int tl, .int tc, .int hc, .int hd2_19, .ref (ad 3), .int (nI tp), .int (nI ps2_19), .int (nI fr2_19), .int (nI so2_19), .int vl2_19, .int (nI ft2_19), .int wa2_19, .ref (ad 4), .ref (ad 5), .ref (ad 6), .ref (ad 7), .ref (ad 8), .ref (ad 9), .ref (ad 10), .int tr], iA G (ad 3) 160 tb] := hD
  refine lv_aload_n hx hb dX6_readLens_23 rfl (lv_at hl 1 rfl) ?_
  refine va_get (D := G.1) (ci := 6) (v := .ref (ad 2)) (C := RX6) (T := TX6) (N := 29) hx hb hts hin6 hown hK.1 hP 1 rfl rfl 5 (by decide) (hts (.fieldLink RX6 17 "BackLensesModel" "draft" "[I") (List.mem_of_getElem? (i := 1) rfl)) (fun _ h9 => h9) rfl dX6_readLens_24 ?_
  refine lv_iload_n hx hb dX6_readLens_27 rfl (lv_at hl 0 rfl) ?_
  refine lv_iconst (v := nI 1) hx hb dX6_readLens_28 (by decide) ?_
  refine xn_iadd hx hb dX6_readLens_29 ?_
  refine lv_iconst (v := nI 0) hx hb dX6_readLens_30 (by decide) ?_
  refine xn_iast hx hb hK hP hD hS 0 rfl (by omega) (by omega) dX6_readLens_31 (fun H locs hP hD hS => ?_)
  replace hP : xP G [iA G (ad 2) 85 (upd (upd D (48 + (2 * nl)) dv19) ((48 + (2 * nl)) + 1) (nI 0)), oC ko 6 [.ref (ad 0), .ref (ad 1), .int (nI w), .int (nI h), .int (nI la), .ref (ad 2), .int (nI dw), .int (nI dh), .int (nI dl), .int tl, .int tc, .int hc, .int hd2_19, .ref (ad 3), .int (nI tp), .int (nI ps2_19), .int (nI fr2_19), .int (nI so2_19), .int vl2_19, .int (nI ft2_19), .int wa2_19, .ref (ad 4), .ref (ad 5), .ref (ad 6), .ref (ad 7), .ref (ad 8), .ref (ad 9), .ref (ad 10), .int tr], iA G (ad 3) 160 tb] H := hP
  replace hD : va_D (va_A (w_X6_readLens G ko ad w h la tp dw dh dl tl tc hc hd ps fr so vl ft wa tr tb D) ss.heap.size) [iA G (ad 2) 85 (upd (upd D (48 + (2 * nl)) dv19) ((48 + (2 * nl)) + 1) (nI 0)), oC ko 6 [.ref (ad 0), .ref (ad 1), .int (nI w), .int (nI h), .int (nI la), .ref (ad 2), .int (nI dw), .int (nI dh), .int (nI dl), .int tl, .int tc, .int hc, .int hd2_19, .ref (ad 3), .int (nI tp), .int (nI ps2_19), .int (nI fr2_19), .int (nI so2_19), .int vl2_19, .int (nI ft2_19), .int wa2_19, .ref (ad 4), .ref (ad 5), .ref (ad 6), .ref (ad 7), .ref (ad 8), .ref (ad 9), .ref (ad 10), .int tr], iA G (ad 3) 160 tb] := hD
  have hL32 : ∀ k : Nat, ∀ (f : Nat) (ac : Int32) (h3 : Int32) (p3 : Nat) (f3 : Nat) (s3 : Nat) (v3 : Int32) (t3 : Nat) (a3 : Int32) (D3 : Nat → Int32) (ls : Array Slot) (H : Heap) (locs : List Loc), f = k → (mOk tp (p3, f3, s3, v3, t3, a3)) → (t3 = 0 → s3 = 2 → tp + 1 ≤ p3 + f) → (D3 = (upd (upd D (48 + 2 * nl) dv19) (48 + 2 * nl + 1) ac)) → (mBl tb tp (tp + 2) (nI 0) hc (mDay tb tp hd (ps, fr, so, vl, ft, wa)).2.2 = mBl tb tp f ac h3 (p3, f3, s3, v3, t3, a3)) → lv_has ls 3 [(0, .ref ko), (1, .int (nI (48 + (2 * nl))))] → xP G [iA G (ad 2) 85 D3, iA G (ad 3) 160 tb, oC ko 6 [.ref (ad 0), .ref (ad 1), .int (nI w), .int (nI h), .int (nI la), .ref (ad 2), .int (nI dw), .int (nI dh), .int (nI dl), .int tl, .int tc, .int h3, .int hd2_19, .ref (ad 3), .int (nI tp), .int (nI p3), .int (nI f3), .int (nI s3), .int v3, .int (nI t3), .int a3, .ref (ad 4), .ref (ad 5), .ref (ad 6), .ref (ad 7), .ref (ad 8), .ref (ad 9), .ref (ad 10), .int tr]] H → va_D (va_A (w_X6_readLens G ko ad w h la tp dw dh dl tl tc hc hd ps fr so vl ft wa tr tb D) ss.heap.size) [iA G (ad 2) 85 D3, iA G (ad 3) 160 tb, oC ko 6 [.ref (ad 0), .ref (ad 1), .int (nI w), .int (nI h), .int (nI la), .ref (ad 2), .int (nI dw), .int (nI dh), .int (nI dl), .int tl, .int tc, .int h3, .int hd2_19, .ref (ad 3), .int (nI tp), .int (nI p3), .int (nI f3), .int (nI s3), .int v3, .int (nI t3), .int a3, .ref (ad 4), .ref (ad 5), .ref (ad 6), .ref (ad 7), .ref (ad 8), .ref (ad 9), .ref (ad 10), .int tr]] → va_S (va_A (w_X6_readLens G ko ad w h la tp dw dh dl tl tc hc hd ps fr so vl ft wa tr tb D) ss.heap.size) ss.heap H locs → W pp l ee ({ frames := 3, cells := 0, slots := 0, locals := 69 } : Room) ss mm ([.ref ko] : List Value).toArray below mt cd H locs 0 0 (MQ below (Q_X6_readLens G ss.heap.size ko ad w h la tp dw dh dl tl tc hc hd ps fr so vl ft wa tr tb D) ([.ref ko] : List Value).toArray ss 0 0 (va_A (w_X6_readLens G ko ad w h la tp dw dh dl tl tc hc hd ps fr so vl ft wa tr tb D) ss.heap.size)) (F0 mm 32 ls []) := by
    intro k
    induction k using Nat.strongRecOn with
    | _ k ih32 =>
    intro f ac h3 p3 f3 s3 v3 t3 a3 D3 ls H locs hm32 ho3 hM hD3 hF hl hP hD hS
    have hp3 : p3 ≤ tp := ho3.1
    have ht3 : t3 ≤ 6 := ho3.2.1
    have hs3 : s3 ≤ 3 := ho3.2.2.1
    have hf3 : f3 ≤ p3 := ho3.2.2.2
    refine lv_aload_n hx hb dX6_readLens_32 rfl (lv_at hl 0 rfl) ?_
    refine va_get (D := G.1) (ci := 6) (v := .int (nI t3)) (C := RX6) (T := TX6) (N := 29) hx hb hts hin6 hown hK.1 hP 2 rfl rfl 19 (by decide) (hts (.fieldLink RX6 90 "BackLensesModel" "fault" "I") (List.mem_of_getElem? (i := 2) rfl)) (fun _ h9 => h9) rfl dX6_readLens_33 ?_
    refine xn_if_ne (tgt := 88) hx hb (by omega) dX6_readLens_36 rfl (fun b36 => ?_) (fun b36 => ?_)
    · skip
      have hE : mBl tb tp (tp + 2) (nI 0) hc (mDay tb tp hd (ps, fr, so, vl, ft, wa)).2.2 = (ac, h3, (p3, f3, s3, v3, t3, a3)) := hF.trans (mBl_end (fun q => b36 q.1))
      refine lv_aload_n hx hb dX6_readLens_88 rfl (lv_at hl 0 rfl) ?_
      refine va_get (D := G.1) (ci := 6) (v := .ref (ad 2)) (C := RX6) (T := TX6) (N := 29) hx hb hts hin6 hown hK.1 hP 2 rfl rfl 5 (by decide) (hts (.fieldLink RX6 17 "BackLensesModel" "draft" "[I") (List.mem_of_getElem? (i := 1) rfl)) (fun _ h9 => h9) rfl dX6_readLens_89 ?_
      refine lv_bipush (v := nI 47) hx hb dX6_readLens_92 (by decide) ?_
      refine lv_dup2_11 hx hb dX6_readLens_94 rfl rfl ?_
      refine xn_iald hx hb hK hP 0 rfl (by omega) (by omega) dX6_readLens_95 ?_
      refine xn_top (y := nI nl) (by rw [hD3, upd_ne (by omega), upd_ne (by omega)]; exact h47) ?_
      refine lv_iconst (v := nI 1) hx hb dX6_readLens_96 (by decide) ?_
      refine xn_iadd hx hb dX6_readLens_97 ?_
      refine xn_iast hx hb hK hP hD hS 0 rfl (by omega) (by omega) dX6_readLens_98 (fun H locs hP hD hS => ?_)
      replace hP : xP G [iA G (ad 2) 85 (upd D3 47 (nI (nl + 1))), iA G (ad 3) 160 tb, oC ko 6 [.ref (ad 0), .ref (ad 1), .int (nI w), .int (nI h), .int (nI la), .ref (ad 2), .int (nI dw), .int (nI dh), .int (nI dl), .int tl, .int tc, .int h3, .int hd2_19, .ref (ad 3), .int (nI tp), .int (nI p3), .int (nI f3), .int (nI s3), .int v3, .int (nI t3), .int a3, .ref (ad 4), .ref (ad 5), .ref (ad 6), .ref (ad 7), .ref (ad 8), .ref (ad 9), .ref (ad 10), .int tr]] H := hP
      replace hD : va_D (va_A (w_X6_readLens G ko ad w h la tp dw dh dl tl tc hc hd ps fr so vl ft wa tr tb D) ss.heap.size) [iA G (ad 2) 85 (upd D3 47 (nI (nl + 1))), iA G (ad 3) 160 tb, oC ko 6 [.ref (ad 0), .ref (ad 1), .int (nI w), .int (nI h), .int (nI la), .ref (ad 2), .int (nI dw), .int (nI dh), .int (nI dl), .int tl, .int tc, .int h3, .int hd2_19, .ref (ad 3), .int (nI tp), .int (nI p3), .int (nI f3), .int (nI s3), .int v3, .int (nI t3), .int a3, .ref (ad 4), .ref (ad 5), .ref (ad 6), .ref (ad 7), .ref (ad 8), .ref (ad 9), .ref (ad 10), .int tr]] := hD
      have hP := hP.sub (ws' := [oC ko 6 [.ref (ad 0), .ref (ad 1), .int (nI w), .int (nI h), .int (nI la), .ref (ad 2), .int (nI dw), .int (nI dh), .int (nI dl), .int tl, .int tc, .int h3, .int hd2_19, .ref (ad 3), .int (nI tp), .int (nI p3), .int (nI f3), .int (nI s3), .int v3, .int (nI t3), .int a3, .ref (ad 4), .ref (ad 5), .ref (ad 6), .ref (ad 7), .ref (ad 8), .ref (ad 9), .ref (ad 10), .int tr], iA G (ad 2) 85 (upd D3 47 (nI (nl + 1))), iA G (ad 3) 160 tb]) [2, 0, 1] rfl
      have hD := hD.sub (ws' := [oC ko 6 [.ref (ad 0), .ref (ad 1), .int (nI w), .int (nI h), .int (nI la), .ref (ad 2), .int (nI dw), .int (nI dh), .int (nI dl), .int tl, .int tc, .int h3, .int hd2_19, .ref (ad 3), .int (nI tp), .int (nI p3), .int (nI f3), .int (nI s3), .int v3, .int (nI t3), .int a3, .ref (ad 4), .ref (ad 5), .ref (ad 6), .ref (ad 7), .ref (ad 8), .ref (ad 9), .ref (ad 10), .int tr], iA G (ad 2) 85 (upd D3 47 (nI (nl + 1))), iA G (ad 3) 160 tb]) [2, 0, 1] (by decide) rfl
      refine W.vret hx hb hr (fun t ht hW => ⟨⟨(p3, f3, s3, v3, t3, a3, h3, hd2_19, upd D3 47 (nI (nl + 1))), rfl, ?_, by rw [ht]; exact hP, hD⟩, hS.F ht⟩) hS.2.2 dX6_readLens_99
      try dsimp only
      exact (show ((p3, f3, s3, v3, t3, a3), h3, hd2_19, upd D3 47 (nI (nl + 1))) = mLens tb tp hc hd D (ps, fr, so, vl, ft, wa) from by unfold mLens; rw [hE, hdv, h47, vI_nI (by omega), ← he19, hD3])
    · skip
      refine lv_aload_n hx hb dX6_readLens_39 rfl (lv_at hl 0 rfl) ?_
      refine va_get (D := G.1) (ci := 6) (v := .int (nI s3)) (C := RX6) (T := TX6) (N := 29) hx hb hts hin6 hown hK.1 hP 2 rfl rfl 17 (by decide) (hts (.fieldLink RX6 110 "BackLensesModel" "sort" "I") (List.mem_of_getElem? (i := 3) rfl)) (fun _ h9 => h9) rfl dX6_readLens_40 ?_
      refine lv_iconst (v := nI 2) hx hb dX6_readLens_43 (by decide) ?_
      refine xn_icmp_ne (tgt := 88) hx hb (by omega) (by omega) dX6_readLens_44 rfl (fun b44 => ?_) (fun b44 => ?_)
      · skip
        have hE : mBl tb tp (tp + 2) (nI 0) hc (mDay tb tp hd (ps, fr, so, vl, ft, wa)).2.2 = (ac, h3, (p3, f3, s3, v3, t3, a3)) := hF.trans (mBl_end (fun q => b44 q.2))
        refine lv_aload_n hx hb dX6_readLens_88 rfl (lv_at hl 0 rfl) ?_
        refine va_get (D := G.1) (ci := 6) (v := .ref (ad 2)) (C := RX6) (T := TX6) (N := 29) hx hb hts hin6 hown hK.1 hP 2 rfl rfl 5 (by decide) (hts (.fieldLink RX6 17 "BackLensesModel" "draft" "[I") (List.mem_of_getElem? (i := 1) rfl)) (fun _ h9 => h9) rfl dX6_readLens_89 ?_
        refine lv_bipush (v := nI 47) hx hb dX6_readLens_92 (by decide) ?_
        refine lv_dup2_11 hx hb dX6_readLens_94 rfl rfl ?_
        refine xn_iald hx hb hK hP 0 rfl (by omega) (by omega) dX6_readLens_95 ?_
        refine xn_top (y := nI nl) (by rw [hD3, upd_ne (by omega), upd_ne (by omega)]; exact h47) ?_
        refine lv_iconst (v := nI 1) hx hb dX6_readLens_96 (by decide) ?_
        refine xn_iadd hx hb dX6_readLens_97 ?_
        refine xn_iast hx hb hK hP hD hS 0 rfl (by omega) (by omega) dX6_readLens_98 (fun H locs hP hD hS => ?_)
        replace hP : xP G [iA G (ad 2) 85 (upd D3 47 (nI (nl + 1))), iA G (ad 3) 160 tb, oC ko 6 [.ref (ad 0), .ref (ad 1), .int (nI w), .int (nI h), .int (nI la), .ref (ad 2), .int (nI dw), .int (nI dh), .int (nI dl), .int tl, .int tc, .int h3, .int hd2_19, .ref (ad 3), .int (nI tp), .int (nI p3), .int (nI f3), .int (nI s3), .int v3, .int (nI t3), .int a3, .ref (ad 4), .ref (ad 5), .ref (ad 6), .ref (ad 7), .ref (ad 8), .ref (ad 9), .ref (ad 10), .int tr]] H := hP
        replace hD : va_D (va_A (w_X6_readLens G ko ad w h la tp dw dh dl tl tc hc hd ps fr so vl ft wa tr tb D) ss.heap.size) [iA G (ad 2) 85 (upd D3 47 (nI (nl + 1))), iA G (ad 3) 160 tb, oC ko 6 [.ref (ad 0), .ref (ad 1), .int (nI w), .int (nI h), .int (nI la), .ref (ad 2), .int (nI dw), .int (nI dh), .int (nI dl), .int tl, .int tc, .int h3, .int hd2_19, .ref (ad 3), .int (nI tp), .int (nI p3), .int (nI f3), .int (nI s3), .int v3, .int (nI t3), .int a3, .ref (ad 4), .ref (ad 5), .ref (ad 6), .ref (ad 7), .ref (ad 8), .ref (ad 9), .ref (ad 10), .int tr]] := hD
        have hP := hP.sub (ws' := [oC ko 6 [.ref (ad 0), .ref (ad 1), .int (nI w), .int (nI h), .int (nI la), .ref (ad 2), .int (nI dw), .int (nI dh), .int (nI dl), .int tl, .int tc, .int h3, .int hd2_19, .ref (ad 3), .int (nI tp), .int (nI p3), .int (nI f3), .int (nI s3), .int v3, .int (nI t3), .int a3, .ref (ad 4), .ref (ad 5), .ref (ad 6), .ref (ad 7), .ref (ad 8), .ref (ad 9), .ref (ad 10), .int tr], iA G (ad 2) 85 (upd D3 47 (nI (nl + 1))), iA G (ad 3) 160 tb]) [2, 0, 1] rfl
        have hD := hD.sub (ws' := [oC ko 6 [.ref (ad 0), .ref (ad 1), .int (nI w), .int (nI h), .int (nI la), .ref (ad 2), .int (nI dw), .int (nI dh), .int (nI dl), .int tl, .int tc, .int h3, .int hd2_19, .ref (ad 3), .int (nI tp), .int (nI p3), .int (nI f3), .int (nI s3), .int v3, .int (nI t3), .int a3, .ref (ad 4), .ref (ad 5), .ref (ad 6), .ref (ad 7), .ref (ad 8), .ref (ad 9), .ref (ad 10), .int tr], iA G (ad 2) 85 (upd D3 47 (nI (nl + 1))), iA G (ad 3) 160 tb]) [2, 0, 1] (by decide) rfl
        refine W.vret hx hb hr (fun t ht hW => ⟨⟨(p3, f3, s3, v3, t3, a3, h3, hd2_19, upd D3 47 (nI (nl + 1))), rfl, ?_, by rw [ht]; exact hP, hD⟩, hS.F ht⟩) hS.2.2 dX6_readLens_99
        try dsimp only
        exact (show ((p3, f3, s3, v3, t3, a3), h3, hd2_19, upd D3 47 (nI (nl + 1))) = mLens tb tp hc hd D (ps, fr, so, vl, ft, wa) from by unfold mLens; rw [hE, hdv, h47, vI_nI (by omega), ← he19, hD3])
      · skip
        refine lv_aload_n hx hb dX6_readLens_47 rfl (lv_at hl 0 rfl) ?_
        refine lv_aload_n hx hb dX6_readLens_48 rfl (lv_at hl 0 rfl) ?_
        refine va_get (D := G.1) (ci := 6) (v := .ref (ad 2)) (C := RX6) (T := TX6) (N := 29) hx hb hts hin6 hown hK.1 hP 2 rfl rfl 5 (by decide) (hts (.fieldLink RX6 17 "BackLensesModel" "draft" "[I") (List.mem_of_getElem? (i := 1) rfl)) (fun _ h9 => h9) rfl dX6_readLens_49 ?_
        refine lv_iload_n hx hb dX6_readLens_52 rfl (lv_at hl 1 rfl) ?_
        refine lv_iconst (v := nI 1) hx hb dX6_readLens_53 (by decide) ?_
        refine xn_iadd hx hb dX6_readLens_54 ?_
        refine xn_iald hx hb hK hP 0 rfl (by omega) (by omega) dX6_readLens_55 ?_
        refine xn_top (y := ac) (by rw [hD3]; exact upd_eq) ?_
        refine xw_i (As := [.int ac]) (rest := []) (wr := [iA G (ad 2) 85 D3]) ⟨hx, hb, hml, hown, hts⟩ (c_X6_readCellBut l G H.size ko ad w h la tp dw dh dl tl tc h3 hd2_19 p3 f3 s3 v3 t3 a3 tr tb ac (by first | assumption | omega) (by first | assumption | omega) (by first | assumption | omega) (by first | assumption | omega) (by first | assumption | omega)) (cwV 1 hts gX6_readLens_X6_readCellBut rfl rfl rfl (by decide +kernel) ⟨Nat.le_of_ble_eq_true rfl, Nat.le_of_ble_eq_true rfl⟩) hK hP hD hS hA [2, 1] [0] rfl rfl (by decide) (by decide) (by decide) rfl rfl rfl hl.1 rfl (Nat.le_of_ble_eq_true rfl) dX6_readLens_56 ⟨Nat.le_of_ble_eq_true rfl, Nat.le_of_ble_eq_true rfl⟩ (fun r56 u H locs hp56 hP hD hS => ?_)
        obtain ⟨ps2_56, fr2_56, so2_56, vl2_56, ft2_56, wa2_56, hc2_56⟩ := u
        try dsimp only at hp56 hP hD
        obtain ⟨rfl, he56⟩ := hp56
        replace hP : xP G [iA G (ad 2) 85 D3, oC ko 6 [.ref (ad 0), .ref (ad 1), .int (nI w), .int (nI h), .int (nI la), .ref (ad 2), .int (nI dw), .int (nI dh), .int (nI dl), .int tl, .int tc, .int hc2_56, .int hd2_19, .ref (ad 3), .int (nI tp), .int (nI ps2_56), .int (nI fr2_56), .int (nI so2_56), .int vl2_56, .int (nI ft2_56), .int wa2_56, .ref (ad 4), .ref (ad 5), .ref (ad 6), .ref (ad 7), .ref (ad 8), .ref (ad 9), .ref (ad 10), .int tr], iA G (ad 3) 160 tb] H := hP
        replace hD : va_D (va_A (w_X6_readLens G ko ad w h la tp dw dh dl tl tc hc hd ps fr so vl ft wa tr tb D) ss.heap.size) [iA G (ad 2) 85 D3, oC ko 6 [.ref (ad 0), .ref (ad 1), .int (nI w), .int (nI h), .int (nI la), .ref (ad 2), .int (nI dw), .int (nI dh), .int (nI dl), .int tl, .int tc, .int hc2_56, .int hd2_19, .ref (ad 3), .int (nI tp), .int (nI ps2_56), .int (nI fr2_56), .int (nI so2_56), .int vl2_56, .int (nI ft2_56), .int wa2_56, .ref (ad 4), .ref (ad 5), .ref (ad 6), .ref (ad 7), .ref (ad 8), .ref (ad 9), .ref (ad 10), .int tr], iA G (ad 3) 160 tb] := hD
        generalize hcv : (mCel tb tp ac h3 (p3, f3, s3, v3, t3, a3)).1 = cv56
        have ho56a := mCel_ok (t := tb) (sm := ac) (hc := h3) ho3
        have ho56 : mOk tp (ps2_56, fr2_56, so2_56, vl2_56, ft2_56, wa2_56) := (by have q := ho56a.1; rw [← he56] at q; exact q)
        have hps56 : ps2_56 ≤ tp := ho56.1
        have hft56 : ft2_56 ≤ 6 := ho56.2.1
        have hso56 : so2_56 ≤ 3 := ho56.2.2.1
        have had56 : ft2_56 = 0 → ¬ so2_56 = 0 → p3 + 1 ≤ ps2_56 := (by have q := ho56a.2.2; rw [← he56] at q; exact q)
        refine lv_istore_n (lv' := [(2, .int cv56), (0, .ref ko), (1, .int (nI (48 + (2 * nl))))]) hx hb dX6_readLens_59 rfl hl (by decide) rfl (fun ls hl => ?_)
        refine lv_aload_n hx hb dX6_readLens_60 rfl (lv_at hl 1 rfl) ?_
        refine va_get (D := G.1) (ci := 6) (v := .ref (ad 2)) (C := RX6) (T := TX6) (N := 29) hx hb hts hin6 hown hK.1 hP 1 rfl rfl 5 (by decide) (hts (.fieldLink RX6 17 "BackLensesModel" "draft" "[I") (List.mem_of_getElem? (i := 1) rfl)) (fun _ h9 => h9) rfl dX6_readLens_61 ?_
        refine lv_iload_n hx hb dX6_readLens_64 rfl (lv_at hl 2 rfl) ?_
        refine lv_iconst (v := nI 1) hx hb dX6_readLens_65 (by decide) ?_
        refine xn_iadd hx hb dX6_readLens_66 ?_
        refine lv_dup2_11 hx hb dX6_readLens_67 rfl rfl ?_
        refine xn_iald hx hb hK hP 0 rfl (by omega) (by omega) dX6_readLens_68 ?_
        refine xn_top (y := ac) (by rw [hD3]; exact upd_eq) ?_
        refine lv_aload_n hx hb dX6_readLens_69 rfl (lv_at hl 1 rfl) ?_
        refine va_get (D := G.1) (ci := 6) (v := .int (nI ft2_56)) (C := RX6) (T := TX6) (N := 29) hx hb hts hin6 hown hK.1 hP 1 rfl rfl 19 (by decide) (hts (.fieldLink RX6 90 "BackLensesModel" "fault" "I") (List.mem_of_getElem? (i := 2) rfl)) (fun _ h9 => h9) rfl dX6_readLens_70 ?_
        refine xn_if_ne (tgt := 82) hx hb (by omega) dX6_readLens_73 rfl (fun b73 => ?_) (fun b73 => ?_)
        · skip
          refine lv_iconst (v := nI 0) hx hb dX6_readLens_82 (by decide) ?_
          refine lv_ior hx hb dX6_readLens_83 ?_
          refine xn_iast hx hb hK hP hD hS 0 rfl (by omega) (by omega) dX6_readLens_84 (fun H locs hP hD hS => ?_)
          replace hP : xP G [iA G (ad 2) 85 (upd D3 ((48 + (2 * nl)) + 1) (ac ||| (nI 0))), oC ko 6 [.ref (ad 0), .ref (ad 1), .int (nI w), .int (nI h), .int (nI la), .ref (ad 2), .int (nI dw), .int (nI dh), .int (nI dl), .int tl, .int tc, .int hc2_56, .int hd2_19, .ref (ad 3), .int (nI tp), .int (nI ps2_56), .int (nI fr2_56), .int (nI so2_56), .int vl2_56, .int (nI ft2_56), .int wa2_56, .ref (ad 4), .ref (ad 5), .ref (ad 6), .ref (ad 7), .ref (ad 8), .ref (ad 9), .ref (ad 10), .int tr], iA G (ad 3) 160 tb] H := hP
          replace hD : va_D (va_A (w_X6_readLens G ko ad w h la tp dw dh dl tl tc hc hd ps fr so vl ft wa tr tb D) ss.heap.size) [iA G (ad 2) 85 (upd D3 ((48 + (2 * nl)) + 1) (ac ||| (nI 0))), oC ko 6 [.ref (ad 0), .ref (ad 1), .int (nI w), .int (nI h), .int (nI la), .ref (ad 2), .int (nI dw), .int (nI dh), .int (nI dl), .int tl, .int tc, .int hc2_56, .int hd2_19, .ref (ad 3), .int (nI tp), .int (nI ps2_56), .int (nI fr2_56), .int (nI so2_56), .int vl2_56, .int (nI ft2_56), .int wa2_56, .ref (ad 4), .ref (ad 5), .ref (ad 6), .ref (ad 7), .ref (ad 8), .ref (ad 9), .ref (ad 10), .int tr], iA G (ad 3) 160 tb] := hD
          refine lv_goto (tgt := 32) hx hb dX6_readLens_85 rfl ?_
          have hl := lv_sub hl (l' := [(0, .ref ko), (1, .int (nI (48 + (2 * nl))))]) [1, 2] rfl
          have hP := hP.sub (ws' := [iA G (ad 2) 85 (upd D3 ((48 + (2 * nl)) + 1) (ac ||| (nI 0))), iA G (ad 3) 160 tb, oC ko 6 [.ref (ad 0), .ref (ad 1), .int (nI w), .int (nI h), .int (nI la), .ref (ad 2), .int (nI dw), .int (nI dh), .int (nI dl), .int tl, .int tc, .int hc2_56, .int hd2_19, .ref (ad 3), .int (nI tp), .int (nI ps2_56), .int (nI fr2_56), .int (nI so2_56), .int vl2_56, .int (nI ft2_56), .int wa2_56, .ref (ad 4), .ref (ad 5), .ref (ad 6), .ref (ad 7), .ref (ad 8), .ref (ad 9), .ref (ad 10), .int tr]]) [0, 2, 1] rfl
          have hD := hD.sub (ws' := [iA G (ad 2) 85 (upd D3 ((48 + (2 * nl)) + 1) (ac ||| (nI 0))), iA G (ad 3) 160 tb, oC ko 6 [.ref (ad 0), .ref (ad 1), .int (nI w), .int (nI h), .int (nI la), .ref (ad 2), .int (nI dw), .int (nI dh), .int (nI dl), .int tl, .int tc, .int hc2_56, .int hd2_19, .ref (ad 3), .int (nI tp), .int (nI ps2_56), .int (nI fr2_56), .int (nI so2_56), .int vl2_56, .int (nI ft2_56), .int wa2_56, .ref (ad 4), .ref (ad 5), .ref (ad 6), .ref (ad 7), .ref (ad 8), .ref (ad 9), .ref (ad 10), .int tr]]) [0, 2, 1] (by decide) rfl
          exact ih32 (f - 1) (by have := hM b36 b44; omega) (f - 1) (ac ||| (nI 0)) hc2_56 ps2_56 fr2_56 so2_56 vl2_56 ft2_56 wa2_56 (upd D3 ((48 + (2 * nl)) + 1) (ac ||| (nI 0))) ls H locs rfl (by exact ho56) (by have := hM b36 b44; have := had56; omega) (by first | (rw [hD3]; exact upd_upd)) (by exact hF.trans ((mBl_go (by have := hM b36 b44; omega) ⟨b36, b44⟩ he56).trans (by first | rw [hcv, if_pos b73] | rw [hcv, if_neg b73]))) hl hP hD hS
        · skip
          refine lv_iconst (v := nI 1) hx hb dX6_readLens_76 (by decide) ?_
          refine lv_iload_n hx hb dX6_readLens_77 rfl (lv_at hl 0 rfl) ?_
          refine lv_ishl hx hb dX6_readLens_78 ?_
          refine lv_goto (tgt := 83) hx hb dX6_readLens_79 rfl ?_
          refine lv_ior hx hb dX6_readLens_83 ?_
          refine xn_iast hx hb hK hP hD hS 0 rfl (by omega) (by omega) dX6_readLens_84 (fun H locs hP hD hS => ?_)
          replace hP : xP G [iA G (ad 2) 85 (upd D3 ((48 + (2 * nl)) + 1) (ac ||| ((nI 1) <<< (cv56 &&& 31)))), oC ko 6 [.ref (ad 0), .ref (ad 1), .int (nI w), .int (nI h), .int (nI la), .ref (ad 2), .int (nI dw), .int (nI dh), .int (nI dl), .int tl, .int tc, .int hc2_56, .int hd2_19, .ref (ad 3), .int (nI tp), .int (nI ps2_56), .int (nI fr2_56), .int (nI so2_56), .int vl2_56, .int (nI ft2_56), .int wa2_56, .ref (ad 4), .ref (ad 5), .ref (ad 6), .ref (ad 7), .ref (ad 8), .ref (ad 9), .ref (ad 10), .int tr], iA G (ad 3) 160 tb] H := hP
          replace hD : va_D (va_A (w_X6_readLens G ko ad w h la tp dw dh dl tl tc hc hd ps fr so vl ft wa tr tb D) ss.heap.size) [iA G (ad 2) 85 (upd D3 ((48 + (2 * nl)) + 1) (ac ||| ((nI 1) <<< (cv56 &&& 31)))), oC ko 6 [.ref (ad 0), .ref (ad 1), .int (nI w), .int (nI h), .int (nI la), .ref (ad 2), .int (nI dw), .int (nI dh), .int (nI dl), .int tl, .int tc, .int hc2_56, .int hd2_19, .ref (ad 3), .int (nI tp), .int (nI ps2_56), .int (nI fr2_56), .int (nI so2_56), .int vl2_56, .int (nI ft2_56), .int wa2_56, .ref (ad 4), .ref (ad 5), .ref (ad 6), .ref (ad 7), .ref (ad 8), .ref (ad 9), .ref (ad 10), .int tr], iA G (ad 3) 160 tb] := hD
          refine lv_goto (tgt := 32) hx hb dX6_readLens_85 rfl ?_
          have hl := lv_sub hl (l' := [(0, .ref ko), (1, .int (nI (48 + (2 * nl))))]) [1, 2] rfl
          have hP := hP.sub (ws' := [iA G (ad 2) 85 (upd D3 ((48 + (2 * nl)) + 1) (ac ||| ((nI 1) <<< (cv56 &&& 31)))), iA G (ad 3) 160 tb, oC ko 6 [.ref (ad 0), .ref (ad 1), .int (nI w), .int (nI h), .int (nI la), .ref (ad 2), .int (nI dw), .int (nI dh), .int (nI dl), .int tl, .int tc, .int hc2_56, .int hd2_19, .ref (ad 3), .int (nI tp), .int (nI ps2_56), .int (nI fr2_56), .int (nI so2_56), .int vl2_56, .int (nI ft2_56), .int wa2_56, .ref (ad 4), .ref (ad 5), .ref (ad 6), .ref (ad 7), .ref (ad 8), .ref (ad 9), .ref (ad 10), .int tr]]) [0, 2, 1] rfl
          have hD := hD.sub (ws' := [iA G (ad 2) 85 (upd D3 ((48 + (2 * nl)) + 1) (ac ||| ((nI 1) <<< (cv56 &&& 31)))), iA G (ad 3) 160 tb, oC ko 6 [.ref (ad 0), .ref (ad 1), .int (nI w), .int (nI h), .int (nI la), .ref (ad 2), .int (nI dw), .int (nI dh), .int (nI dl), .int tl, .int tc, .int hc2_56, .int hd2_19, .ref (ad 3), .int (nI tp), .int (nI ps2_56), .int (nI fr2_56), .int (nI so2_56), .int vl2_56, .int (nI ft2_56), .int wa2_56, .ref (ad 4), .ref (ad 5), .ref (ad 6), .ref (ad 7), .ref (ad 8), .ref (ad 9), .ref (ad 10), .int tr]]) [0, 2, 1] (by decide) rfl
          exact ih32 (f - 1) (by have := hM b36 b44; omega) (f - 1) (ac ||| ((nI 1) <<< (cv56 &&& 31))) hc2_56 ps2_56 fr2_56 so2_56 vl2_56 ft2_56 wa2_56 (upd D3 ((48 + (2 * nl)) + 1) (ac ||| ((nI 1) <<< (cv56 &&& 31)))) ls H locs rfl (by exact ho56) (by have := hM b36 b44; have := had56; omega) (by first | (rw [hD3]; exact upd_upd)) (by exact hF.trans ((mBl_go (by have := hM b36 b44; omega) ⟨b36, b44⟩ he56).trans (by first | rw [hcv, if_pos b73] | rw [hcv, if_neg b73]))) hl hP hD hS
  have hl := lv_sub hl (l' := [(0, .ref ko), (1, .int (nI (48 + (2 * nl))))]) [1, 0] rfl
  have hP := hP.sub (ws' := [iA G (ad 2) 85 (upd (upd D (48 + (2 * nl)) dv19) ((48 + (2 * nl)) + 1) (nI 0)), iA G (ad 3) 160 tb, oC ko 6 [.ref (ad 0), .ref (ad 1), .int (nI w), .int (nI h), .int (nI la), .ref (ad 2), .int (nI dw), .int (nI dh), .int (nI dl), .int tl, .int tc, .int hc, .int hd2_19, .ref (ad 3), .int (nI tp), .int (nI ps2_19), .int (nI fr2_19), .int (nI so2_19), .int vl2_19, .int (nI ft2_19), .int wa2_19, .ref (ad 4), .ref (ad 5), .ref (ad 6), .ref (ad 7), .ref (ad 8), .ref (ad 9), .ref (ad 10), .int tr]]) [0, 2, 1] rfl
  have hD := hD.sub (ws' := [iA G (ad 2) 85 (upd (upd D (48 + (2 * nl)) dv19) ((48 + (2 * nl)) + 1) (nI 0)), iA G (ad 3) 160 tb, oC ko 6 [.ref (ad 0), .ref (ad 1), .int (nI w), .int (nI h), .int (nI la), .ref (ad 2), .int (nI dw), .int (nI dh), .int (nI dl), .int tl, .int tc, .int hc, .int hd2_19, .ref (ad 3), .int (nI tp), .int (nI ps2_19), .int (nI fr2_19), .int (nI so2_19), .int vl2_19, .int (nI ft2_19), .int wa2_19, .ref (ad 4), .ref (ad 5), .ref (ad 6), .ref (ad 7), .ref (ad 8), .ref (ad 9), .ref (ad 10), .int tr]]) [0, 2, 1] (by decide) rfl
  exact hL32 (tp + 2) (tp + 2) (nI 0) hc ps2_19 fr2_19 so2_19 vl2_19 ft2_19 wa2_19 (upd (upd D (48 + (2 * nl)) dv19) ((48 + (2 * nl)) + 1) (nI 0)) ls H locs rfl (by exact ho19) (by omega) (by rfl) (by rw [← he19]) hl hP hD hS
end
section
abbrev w_X6_readLineOf_0 (G : XG) (ko : Nat) (ad : Nat → Nat) (w h la tp : Nat) (dw dh dl : Nat) (tl tc hc hd : Int32) (ps fr so : Nat) (vl : Int32) (ft : Nat) (wa tr : Int32) (tb D : Nat → Int32) : va_W := [oC ko 6 [.ref (ad 0), .ref (ad 1), .int (nI w), .int (nI h), .int (nI la), .ref (ad 2), .int (nI dw), .int (nI dh), .int (nI dl), .int tl, .int tc, .int hc, .int hd, .ref (ad 3), .int (nI tp), .int (nI ps), .int (nI fr), .int (nI so), .int vl, .int (nI ft), .int wa, .ref (ad 4), .ref (ad 5), .ref (ad 6), .ref (ad 7), .ref (ad 8), .ref (ad 9), .ref (ad 10), .int tr], iA G (ad 2) 85 D, iA G (ad 3) 160 tb]
abbrev Q_X6_readLineOf_0 (G : XG) (sz : Nat) (ko : Nat) (ad : Nat → Nat) (w h la tp : Nat) (dw dh dl : Nat) (tl tc hc hd : Int32) (ps fr so : Nat) (vl : Int32) (ft : Nat) (wa tr : Int32) (tb D : Nat → Int32) : Array Value → State → Outcome → State → Prop := (va_Qv (fun (u : Nat × Nat × Nat × Int32 × Nat × Int32 × Nat × Nat) => ((u.1, u.2.1, u.2.2.1, u.2.2.2.1, u.2.2.2.2.1, u.2.2.2.2.2.1), (u.2.2.2.2.2.2.1, u.2.2.2.2.2.2.2, dl), (tl, tc, hc, hd), D) = mLof tb tp 0 ((ps, fr, so, vl, ft, wa), (dw, dh, dl), (tl, tc, hc, hd), D)) (xWb G sz (w_X6_readLineOf_0 G ko ad w h la tp dw dh dl tl tc hc hd ps fr so vl ft wa tr tb D) (fun u : Nat × Nat × Nat × Int32 × Nat × Int32 × Nat × Nat => [oC ko 6 [.ref (ad 0), .ref (ad 1), .int (nI w), .int (nI h), .int (nI la), .ref (ad 2), .int (nI u.2.2.2.2.2.2.1), .int (nI u.2.2.2.2.2.2.2), .int (nI dl), .int tl, .int tc, .int hc, .int hd, .ref (ad 3), .int (nI tp), .int (nI u.1), .int (nI u.2.1), .int (nI u.2.2.1), .int u.2.2.2.1, .int (nI u.2.2.2.2.1), .int u.2.2.2.2.2.1, .ref (ad 4), .ref (ad 5), .ref (ad 6), .ref (ad 7), .ref (ad 8), .ref (ad 9), .ref (ad 10), .int tr], iA G (ad 2) 85 D, iA G (ad 3) 160 tb])) (va_A (w_X6_readLineOf_0 G ko ad w h la tp dw dh dl tl tc hc hd ps fr so vl ft wa tr tb D) sz))
set_option maxHeartbeats 4000000 in
set_option maxRecDepth 100000 in
theorem c_X6_readLineOf_0 (l : Launch) (G : XG) (sz : Nat) (ko : Nat) (ad : Nat → Nat) (w h la tp : Nat) (dw dh dl : Nat) (tl tc hc hd : Int32) (ps fr so : Nat) (vl : Int32) (ft : Nat) (wa tr : Int32) (tb D : Nat → Int32) (htp : tp ≤ 160) (hps : ps ≤ tp) (htk : tpOk tb tp) (hft : ft ≤ 6) (hso : so ≤ 3) (hfr : fr ≤ ps) : Met l yX6_readLineOf wsX6_readLineOf ({ frames := 3, cells := 0, slots := 0, locals := 70 } : Room) (va_Pc [.ref ko, .int (nI 0)] (xWp G sz (w_X6_readLineOf_0 G ko ad w h la tp dw dh dl tl tc hc hd ps fr so vl ft wa tr tb D))) (Q_X6_readLineOf_0 G sz ko ad w h la tp dw dh dl tl tc hc hd ps fr so vl ft wa tr tb D) 0 0 (va_A (w_X6_readLineOf_0 G ko ad w h la tp dw dh dl tl tc hc hd ps fr so vl ft wa tr tb D) sz) := by
  refine Met.ofW (cc := cX6_readLineOf) (maxL := 3) (ret := none) (by decide) rfl ?_
  intro pp ee ss mm aa below mt cd s₁ BB hml hv
  obtain ⟨rfl, hsz, hP, hK, hD0⟩ := hv
  have hx := BB.exec
  have hb := BB.bytes
  have hr := BB.returns
  have hts := atoms_spec (ws := wsX6_readLineOf) BB.pre
  have hown : ss.vm.findClass RX6 = some mm.cls := findClass_of_methodNamed BB.named
  have hlocks := BB.notSynchronized
  subst hsz
  have hD := hD0.self (sz := ss.heap.size)
  have hA : ∀ q : Nat, ss.heap.size ≤ q → va_A (w_X6_readLineOf_0 G ko ad w h la tp dw dh dl tl tc hc hd ps fr so vl ft wa tr tb D) ss.heap.size q := fun q h => Or.inr h
  have hS : va_S (va_A (w_X6_readLineOf_0 G ko ad w h la tp dw dh dl tl tc hc hd ps fr so vl ft wa tr tb D) ss.heap.size) ss.heap ss.heap [] := va_S.rf
  replace hD : va_D (va_A (w_X6_readLineOf_0 G ko ad w h la tp dw dh dl tl tc hc hd ps fr so vl ft wa tr tb D) ss.heap.size) [oC ko 6 [.ref (ad 0), .ref (ad 1), .int (nI w), .int (nI h), .int (nI la), .ref (ad 2), .int (nI dw), .int (nI dh), .int (nI dl), .int tl, .int tc, .int hc, .int hd, .ref (ad 3), .int (nI tp), .int (nI ps), .int (nI fr), .int (nI so), .int vl, .int (nI ft), .int wa, .ref (ad 4), .ref (ad 5), .ref (ad 6), .ref (ad 7), .ref (ad 8), .ref (ad 9), .ref (ad 10), .int tr], iA G (ad 2) 85 D, iA G (ad 3) 160 tb] := hD
  replace hP : xP G [oC ko 6 [.ref (ad 0), .ref (ad 1), .int (nI w), .int (nI h), .int (nI la), .ref (ad 2), .int (nI dw), .int (nI dh), .int (nI dl), .int tl, .int tc, .int hc, .int hd, .ref (ad 3), .int (nI tp), .int (nI ps), .int (nI fr), .int (nI so), .int vl, .int (nI ft), .int wa, .ref (ad 4), .ref (ad 5), .ref (ad 6), .ref (ad 7), .ref (ad 8), .ref (ad 9), .ref (ad 10), .int tr], iA G (ad 2) 85 D, iA G (ad 3) 160 tb] ss.heap := hP
  have hin6 : ∀ w ∈ u_ws RX6 TX6 29, w ∈ wsX6_readLineOf := fun w h => List.mem_cons_of_mem _ (List.mem_append_right _ h)
  have hl := lv_entry ([.ref ko, .int (nI 0)]) (n := 3) (Nat.le_of_ble_eq_true rfl)
  rw [lg_entry_eq]
  generalize (lg_sl ([.ref ko, .int (nI 0)]) ++ List.replicate (3 - (lg_sl ([.ref ko, .int (nI 0)])).length) Slot.unset).toArray = ls at hl ⊢
  replace hl : lv_has ls 3 [(0, .ref ko), (1, .int (nI 0))] := hl
  refine lv_iload_n hx hb dX6_readLineOf_0 rfl (lv_at hl 1 rfl) ?_
  refine lv_tableIn (off := 31) (tgt := 32) hx hb dX6_readLineOf_1 (by decide) (by decide) rfl rfl ?_
  have ho0 : mOk tp (ps, fr, so, vl, ft, wa) := ⟨hps, hft, hso, hfr⟩
  refine lv_aload_n hx hb dX6_readLineOf_32 rfl (lv_at hl 0 rfl) ?_
  refine lv_aload_n hx hb dX6_readLineOf_33 rfl (lv_at hl 0 rfl) ?_
  refine lv_iconst (v := nI 2) hx hb dX6_readLineOf_34 (by decide) ?_
  refine lv_iconst (v := nI 4) hx hb dX6_readLineOf_35 (by decide) ?_
  refine xw_i (As := [.int (nI 2), .int (nI 4)]) (rest := [.ref ko]) (wr := [iA G (ad 2) 85 D]) ⟨hx, hb, hml, hown, hts⟩ (c_X6_readNumber l G ss.heap.size ko ad w h la tp dw dh dl tl tc hc hd ps fr so vl ft wa tr tb 2 4 (by first | assumption | omega) (by first | assumption | omega) (by first | assumption | omega) (by first | assumption | omega) (by first | assumption | omega) (by first | assumption | omega) (by first | assumption | omega)) (cwV 2 hts gX6_readLineOf_X6_readNumber rfl rfl rfl (by decide +kernel) ⟨Nat.le_of_ble_eq_true rfl, Nat.le_of_ble_eq_true rfl⟩) hK hP hD hS hA [0, 2] [1] rfl rfl (by decide) (by decide) (by decide) rfl rfl rfl hl.1 rfl (Nat.le_of_ble_eq_true rfl) dX6_readLineOf_36 ⟨Nat.le_of_ble_eq_true rfl, Nat.le_of_ble_eq_true rfl⟩ (fun r36 u H locs hp36 hP hD hS => ?_)
  obtain ⟨ps2_36, fr2_36, so2_36, vl2_36, ft2_36, wa2_36⟩ := u
  try dsimp only at hp36 hP hD
  obtain ⟨rfl, he36⟩ := hp36
  replace hP : xP G [iA G (ad 2) 85 D, oC ko 6 [.ref (ad 0), .ref (ad 1), .int (nI w), .int (nI h), .int (nI la), .ref (ad 2), .int (nI dw), .int (nI dh), .int (nI dl), .int tl, .int tc, .int hc, .int hd, .ref (ad 3), .int (nI tp), .int (nI ps2_36), .int (nI fr2_36), .int (nI so2_36), .int vl2_36, .int (nI ft2_36), .int wa2_36, .ref (ad 4), .ref (ad 5), .ref (ad 6), .ref (ad 7), .ref (ad 8), .ref (ad 9), .ref (ad 10), .int tr], iA G (ad 3) 160 tb] H := hP
  replace hD : va_D (va_A (w_X6_readLineOf_0 G ko ad w h la tp dw dh dl tl tc hc hd ps fr so vl ft wa tr tb D) ss.heap.size) [iA G (ad 2) 85 D, oC ko 6 [.ref (ad 0), .ref (ad 1), .int (nI w), .int (nI h), .int (nI la), .ref (ad 2), .int (nI dw), .int (nI dh), .int (nI dl), .int tl, .int tc, .int hc, .int hd, .ref (ad 3), .int (nI tp), .int (nI ps2_36), .int (nI fr2_36), .int (nI so2_36), .int vl2_36, .int (nI ft2_36), .int wa2_36, .ref (ad 4), .ref (ad 5), .ref (ad 6), .ref (ad 7), .ref (ad 8), .ref (ad 9), .ref (ad 10), .int tr], iA G (ad 3) 160 tb] := hD
  have ho36 : mOk tp (ps2_36, fr2_36, so2_36, vl2_36, ft2_36, wa2_36) := (by have q := (mNum_ok (t := tb) (lo := 2) (hi := 4) ho0).1; rw [← he36] at q; exact q)
  have hps36 := ho36.1
  have hft36 := ho36.2.1
  have hso36 := ho36.2.2.1
  have hfr36 := ho36.2.2.2
  replace hps36 : ps2_36 ≤ tp := hps36
  replace hft36 : ft2_36 ≤ 6 := hft36
  replace hso36 : so2_36 ≤ 3 := hso36
  replace hfr36 : fr2_36 ≤ ps2_36 := hfr36
  obtain ⟨k36, hk36, hv36⟩ := mLoo_val (lo := 2) (hi := 4) (s := (ps, fr, so, vl, ft, wa)) (by omega)
  refine xn_top (y := nI k36) (by exact hv36) ?_
  refine va_put (D := G.1) (ci := 6) (v := .int (nI k36)) (ty := .int) (C := RX6) (T := TX6) (N := 29) hx hb hts hin6 tyX6 tyX6_ok nmX6 hown hK.1 hP hD hS 1 rfl rfl 6 (by decide) (hts (.fieldLink RX6 50 "BackLensesModel" "dWide" "I") (List.mem_of_getElem? (i := 1) rfl)) (fun _ h9 => h9) rfl (by decide +kernel) rfl rfl (Nat.le_of_ble_eq_true rfl) dX6_readLineOf_39 (fun H locs hP hD hS => ?_)
  replace hP : xP G [iA G (ad 2) 85 D, oC ko 6 [.ref (ad 0), .ref (ad 1), .int (nI w), .int (nI h), .int (nI la), .ref (ad 2), .int (nI k36), .int (nI dh), .int (nI dl), .int tl, .int tc, .int hc, .int hd, .ref (ad 3), .int (nI tp), .int (nI ps2_36), .int (nI fr2_36), .int (nI so2_36), .int vl2_36, .int (nI ft2_36), .int wa2_36, .ref (ad 4), .ref (ad 5), .ref (ad 6), .ref (ad 7), .ref (ad 8), .ref (ad 9), .ref (ad 10), .int tr], iA G (ad 3) 160 tb] H := hP
  replace hD : va_D (va_A (w_X6_readLineOf_0 G ko ad w h la tp dw dh dl tl tc hc hd ps fr so vl ft wa tr tb D) ss.heap.size) [iA G (ad 2) 85 D, oC ko 6 [.ref (ad 0), .ref (ad 1), .int (nI w), .int (nI h), .int (nI la), .ref (ad 2), .int (nI k36), .int (nI dh), .int (nI dl), .int tl, .int tc, .int hc, .int hd, .ref (ad 3), .int (nI tp), .int (nI ps2_36), .int (nI fr2_36), .int (nI so2_36), .int vl2_36, .int (nI ft2_36), .int wa2_36, .ref (ad 4), .ref (ad 5), .ref (ad 6), .ref (ad 7), .ref (ad 8), .ref (ad 9), .ref (ad 10), .int tr], iA G (ad 3) 160 tb] := hD
  refine lv_aload_n hx hb dX6_readLineOf_42 rfl (lv_at hl 0 rfl) ?_
  refine lv_aload_n hx hb dX6_readLineOf_43 rfl (lv_at hl 0 rfl) ?_
  refine lv_iconst (v := nI 2) hx hb dX6_readLineOf_44 (by decide) ?_
  refine lv_iconst (v := nI 4) hx hb dX6_readLineOf_45 (by decide) ?_
  refine xw_i (As := [.int (nI 2), .int (nI 4)]) (rest := [.ref ko]) (wr := [iA G (ad 2) 85 D]) ⟨hx, hb, hml, hown, hts⟩ (c_X6_readNumber l G H.size ko ad w h la tp k36 dh dl tl tc hc hd ps2_36 fr2_36 so2_36 vl2_36 ft2_36 wa2_36 tr tb 2 4 (by first | assumption | omega) (by first | assumption | omega) (by first | assumption | omega) (by first | assumption | omega) (by first | assumption | omega) (by first | assumption | omega) (by first | assumption | omega)) (cwV 2 hts gX6_readLineOf_X6_readNumber rfl rfl rfl (by decide +kernel) ⟨Nat.le_of_ble_eq_true rfl, Nat.le_of_ble_eq_true rfl⟩) hK hP hD hS hA [1, 2] [0] rfl rfl (by decide) (by decide) (by decide) rfl rfl rfl hl.1 rfl (Nat.le_of_ble_eq_true rfl) dX6_readLineOf_46 ⟨Nat.le_of_ble_eq_true rfl, Nat.le_of_ble_eq_true rfl⟩ (fun r46 u H locs hp46 hP hD hS => ?_)
  obtain ⟨ps2_46, fr2_46, so2_46, vl2_46, ft2_46, wa2_46⟩ := u
  try dsimp only at hp46 hP hD
  obtain ⟨rfl, he46⟩ := hp46
  replace hP : xP G [iA G (ad 2) 85 D, oC ko 6 [.ref (ad 0), .ref (ad 1), .int (nI w), .int (nI h), .int (nI la), .ref (ad 2), .int (nI k36), .int (nI dh), .int (nI dl), .int tl, .int tc, .int hc, .int hd, .ref (ad 3), .int (nI tp), .int (nI ps2_46), .int (nI fr2_46), .int (nI so2_46), .int vl2_46, .int (nI ft2_46), .int wa2_46, .ref (ad 4), .ref (ad 5), .ref (ad 6), .ref (ad 7), .ref (ad 8), .ref (ad 9), .ref (ad 10), .int tr], iA G (ad 3) 160 tb] H := hP
  replace hD : va_D (va_A (w_X6_readLineOf_0 G ko ad w h la tp dw dh dl tl tc hc hd ps fr so vl ft wa tr tb D) ss.heap.size) [iA G (ad 2) 85 D, oC ko 6 [.ref (ad 0), .ref (ad 1), .int (nI w), .int (nI h), .int (nI la), .ref (ad 2), .int (nI k36), .int (nI dh), .int (nI dl), .int tl, .int tc, .int hc, .int hd, .ref (ad 3), .int (nI tp), .int (nI ps2_46), .int (nI fr2_46), .int (nI so2_46), .int vl2_46, .int (nI ft2_46), .int wa2_46, .ref (ad 4), .ref (ad 5), .ref (ad 6), .ref (ad 7), .ref (ad 8), .ref (ad 9), .ref (ad 10), .int tr], iA G (ad 3) 160 tb] := hD
  have ho46 : mOk tp (ps2_46, fr2_46, so2_46, vl2_46, ft2_46, wa2_46) := (by have q := (mNum_ok (t := tb) (lo := 2) (hi := 4) ho36).1; rw [← he46] at q; exact q)
  have hps46 := ho46.1
  have hft46 := ho46.2.1
  have hso46 := ho46.2.2.1
  have hfr46 := ho46.2.2.2
  replace hps46 : ps2_46 ≤ tp := hps46
  replace hft46 : ft2_46 ≤ 6 := hft46
  replace hso46 : so2_46 ≤ 3 := hso46
  replace hfr46 : fr2_46 ≤ ps2_46 := hfr46
  obtain ⟨k46, hk46, hv46⟩ := mLoo_val (lo := 2) (hi := 4) (s := (ps2_36, fr2_36, so2_36, vl2_36, ft2_36, wa2_36)) (by omega)
  refine xn_top (y := nI k46) (by exact hv46) ?_
  refine va_put (D := G.1) (ci := 6) (v := .int (nI k46)) (ty := .int) (C := RX6) (T := TX6) (N := 29) hx hb hts hin6 tyX6 tyX6_ok nmX6 hown hK.1 hP hD hS 1 rfl rfl 7 (by decide) (hts (.fieldLink RX6 54 "BackLensesModel" "dHigh" "I") (List.mem_of_getElem? (i := 2) rfl)) (fun _ h9 => h9) rfl (by decide +kernel) rfl rfl (Nat.le_of_ble_eq_true rfl) dX6_readLineOf_49 (fun H locs hP hD hS => ?_)
  replace hP : xP G [iA G (ad 2) 85 D, oC ko 6 [.ref (ad 0), .ref (ad 1), .int (nI w), .int (nI h), .int (nI la), .ref (ad 2), .int (nI k36), .int (nI k46), .int (nI dl), .int tl, .int tc, .int hc, .int hd, .ref (ad 3), .int (nI tp), .int (nI ps2_46), .int (nI fr2_46), .int (nI so2_46), .int vl2_46, .int (nI ft2_46), .int wa2_46, .ref (ad 4), .ref (ad 5), .ref (ad 6), .ref (ad 7), .ref (ad 8), .ref (ad 9), .ref (ad 10), .int tr], iA G (ad 3) 160 tb] H := hP
  replace hD : va_D (va_A (w_X6_readLineOf_0 G ko ad w h la tp dw dh dl tl tc hc hd ps fr so vl ft wa tr tb D) ss.heap.size) [iA G (ad 2) 85 D, oC ko 6 [.ref (ad 0), .ref (ad 1), .int (nI w), .int (nI h), .int (nI la), .ref (ad 2), .int (nI k36), .int (nI k46), .int (nI dl), .int tl, .int tc, .int hc, .int hd, .ref (ad 3), .int (nI tp), .int (nI ps2_46), .int (nI fr2_46), .int (nI so2_46), .int vl2_46, .int (nI ft2_46), .int wa2_46, .ref (ad 4), .ref (ad 5), .ref (ad 6), .ref (ad 7), .ref (ad 8), .ref (ad 9), .ref (ad 10), .int tr], iA G (ad 3) 160 tb] := hD
  refine lv_goto (tgt := 175) hx hb dX6_readLineOf_52 rfl ?_
  have hP := hP.sub (ws' := [oC ko 6 [.ref (ad 0), .ref (ad 1), .int (nI w), .int (nI h), .int (nI la), .ref (ad 2), .int (nI k36), .int (nI k46), .int (nI dl), .int tl, .int tc, .int hc, .int hd, .ref (ad 3), .int (nI tp), .int (nI ps2_46), .int (nI fr2_46), .int (nI so2_46), .int vl2_46, .int (nI ft2_46), .int wa2_46, .ref (ad 4), .ref (ad 5), .ref (ad 6), .ref (ad 7), .ref (ad 8), .ref (ad 9), .ref (ad 10), .int tr], iA G (ad 2) 85 D, iA G (ad 3) 160 tb]) [1, 0, 2] rfl
  have hD := hD.sub (ws' := [oC ko 6 [.ref (ad 0), .ref (ad 1), .int (nI w), .int (nI h), .int (nI la), .ref (ad 2), .int (nI k36), .int (nI k46), .int (nI dl), .int tl, .int tc, .int hc, .int hd, .ref (ad 3), .int (nI tp), .int (nI ps2_46), .int (nI fr2_46), .int (nI so2_46), .int vl2_46, .int (nI ft2_46), .int wa2_46, .ref (ad 4), .ref (ad 5), .ref (ad 6), .ref (ad 7), .ref (ad 8), .ref (ad 9), .ref (ad 10), .int tr], iA G (ad 2) 85 D, iA G (ad 3) 160 tb]) [1, 0, 2] (by decide) rfl
  refine W.vret hx hb hr (fun t ht hW => ⟨⟨(ps2_46, fr2_46, so2_46, vl2_46, ft2_46, wa2_46, k36, k46), rfl, ?_, by rw [ht]; exact hP, hD⟩, hS.F ht⟩) hS.2.2 dX6_readLineOf_175
  try dsimp only
  have e1 : vI (mNum tb tp 2 4 (ps, fr, so, vl, ft, wa)).1 = k36 := (congrArg vI hv36).trans (vI_nI (by omega)); have e2 : vI (mNum tb tp 2 4 (ps2_36, fr2_36, so2_36, vl2_36, ft2_36, wa2_36)).1 = k46 := (congrArg vI hv46).trans (vI_nI (by omega)); show _ = mL0 tb tp ((ps, fr, so, vl, ft, wa), (dw, dh, dl), (tl, tc, hc, hd), D); unfold mL0; dsimp only; rw [e1, ← he36, e2, ← he46]

abbrev w_X6_readLineOf_1 (G : XG) (ko : Nat) (ad : Nat → Nat) (w h la tp : Nat) (dw dh dl : Nat) (tl tc hc hd : Int32) (ps fr so : Nat) (vl : Int32) (ft : Nat) (wa tr : Int32) (tb D : Nat → Int32) : va_W := [oC ko 6 [.ref (ad 0), .ref (ad 1), .int (nI w), .int (nI h), .int (nI la), .ref (ad 2), .int (nI dw), .int (nI dh), .int (nI dl), .int tl, .int tc, .int hc, .int hd, .ref (ad 3), .int (nI tp), .int (nI ps), .int (nI fr), .int (nI so), .int vl, .int (nI ft), .int wa, .ref (ad 4), .ref (ad 5), .ref (ad 6), .ref (ad 7), .ref (ad 8), .ref (ad 9), .ref (ad 10), .int tr], iA G (ad 2) 85 D, iA G (ad 3) 160 tb]
abbrev Q_X6_readLineOf_1 (G : XG) (sz : Nat) (ko : Nat) (ad : Nat → Nat) (w h la tp : Nat) (dw dh dl : Nat) (tl tc hc hd : Int32) (ps fr so : Nat) (vl : Int32) (ft : Nat) (wa tr : Int32) (tb D : Nat → Int32) : Array Value → State → Outcome → State → Prop := (va_Qv (fun (u : Nat × Nat × Nat × Int32 × Nat × Int32 × Nat) => ((u.1, u.2.1, u.2.2.1, u.2.2.2.1, u.2.2.2.2.1, u.2.2.2.2.2.1), (dw, dh, u.2.2.2.2.2.2), (tl, tc, hc, hd), D) = mLof tb tp 1 ((ps, fr, so, vl, ft, wa), (dw, dh, dl), (tl, tc, hc, hd), D)) (xWb G sz (w_X6_readLineOf_1 G ko ad w h la tp dw dh dl tl tc hc hd ps fr so vl ft wa tr tb D) (fun u : Nat × Nat × Nat × Int32 × Nat × Int32 × Nat => [oC ko 6 [.ref (ad 0), .ref (ad 1), .int (nI w), .int (nI h), .int (nI la), .ref (ad 2), .int (nI dw), .int (nI dh), .int (nI u.2.2.2.2.2.2), .int tl, .int tc, .int hc, .int hd, .ref (ad 3), .int (nI tp), .int (nI u.1), .int (nI u.2.1), .int (nI u.2.2.1), .int u.2.2.2.1, .int (nI u.2.2.2.2.1), .int u.2.2.2.2.2.1, .ref (ad 4), .ref (ad 5), .ref (ad 6), .ref (ad 7), .ref (ad 8), .ref (ad 9), .ref (ad 10), .int tr], iA G (ad 2) 85 D, iA G (ad 3) 160 tb])) (va_A (w_X6_readLineOf_1 G ko ad w h la tp dw dh dl tl tc hc hd ps fr so vl ft wa tr tb D) sz))
set_option maxHeartbeats 4000000 in
set_option maxRecDepth 100000 in
theorem c_X6_readLineOf_1 (l : Launch) (G : XG) (sz : Nat) (ko : Nat) (ad : Nat → Nat) (w h la tp : Nat) (dw dh dl : Nat) (tl tc hc hd : Int32) (ps fr so : Nat) (vl : Int32) (ft : Nat) (wa tr : Int32) (tb D : Nat → Int32) (htp : tp ≤ 160) (hps : ps ≤ tp) (htk : tpOk tb tp) (hft : ft ≤ 6) (hso : so ≤ 3) (hfr : fr ≤ ps) : Met l yX6_readLineOf wsX6_readLineOf ({ frames := 3, cells := 0, slots := 0, locals := 70 } : Room) (va_Pc [.ref ko, .int (nI 1)] (xWp G sz (w_X6_readLineOf_1 G ko ad w h la tp dw dh dl tl tc hc hd ps fr so vl ft wa tr tb D))) (Q_X6_readLineOf_1 G sz ko ad w h la tp dw dh dl tl tc hc hd ps fr so vl ft wa tr tb D) 0 0 (va_A (w_X6_readLineOf_1 G ko ad w h la tp dw dh dl tl tc hc hd ps fr so vl ft wa tr tb D) sz) := by
  refine Met.ofW (cc := cX6_readLineOf) (maxL := 3) (ret := none) (by decide) rfl ?_
  intro pp ee ss mm aa below mt cd s₁ BB hml hv
  obtain ⟨rfl, hsz, hP, hK, hD0⟩ := hv
  have hx := BB.exec
  have hb := BB.bytes
  have hr := BB.returns
  have hts := atoms_spec (ws := wsX6_readLineOf) BB.pre
  have hown : ss.vm.findClass RX6 = some mm.cls := findClass_of_methodNamed BB.named
  have hlocks := BB.notSynchronized
  subst hsz
  have hD := hD0.self (sz := ss.heap.size)
  have hA : ∀ q : Nat, ss.heap.size ≤ q → va_A (w_X6_readLineOf_1 G ko ad w h la tp dw dh dl tl tc hc hd ps fr so vl ft wa tr tb D) ss.heap.size q := fun q h => Or.inr h
  have hS : va_S (va_A (w_X6_readLineOf_1 G ko ad w h la tp dw dh dl tl tc hc hd ps fr so vl ft wa tr tb D) ss.heap.size) ss.heap ss.heap [] := va_S.rf
  replace hD : va_D (va_A (w_X6_readLineOf_1 G ko ad w h la tp dw dh dl tl tc hc hd ps fr so vl ft wa tr tb D) ss.heap.size) [oC ko 6 [.ref (ad 0), .ref (ad 1), .int (nI w), .int (nI h), .int (nI la), .ref (ad 2), .int (nI dw), .int (nI dh), .int (nI dl), .int tl, .int tc, .int hc, .int hd, .ref (ad 3), .int (nI tp), .int (nI ps), .int (nI fr), .int (nI so), .int vl, .int (nI ft), .int wa, .ref (ad 4), .ref (ad 5), .ref (ad 6), .ref (ad 7), .ref (ad 8), .ref (ad 9), .ref (ad 10), .int tr], iA G (ad 2) 85 D, iA G (ad 3) 160 tb] := hD
  replace hP : xP G [oC ko 6 [.ref (ad 0), .ref (ad 1), .int (nI w), .int (nI h), .int (nI la), .ref (ad 2), .int (nI dw), .int (nI dh), .int (nI dl), .int tl, .int tc, .int hc, .int hd, .ref (ad 3), .int (nI tp), .int (nI ps), .int (nI fr), .int (nI so), .int vl, .int (nI ft), .int wa, .ref (ad 4), .ref (ad 5), .ref (ad 6), .ref (ad 7), .ref (ad 8), .ref (ad 9), .ref (ad 10), .int tr], iA G (ad 2) 85 D, iA G (ad 3) 160 tb] ss.heap := hP
  have hin6 : ∀ w ∈ u_ws RX6 TX6 29, w ∈ wsX6_readLineOf := fun w h => List.mem_cons_of_mem _ (List.mem_append_right _ h)
  have hl := lv_entry ([.ref ko, .int (nI 1)]) (n := 3) (Nat.le_of_ble_eq_true rfl)
  rw [lg_entry_eq]
  generalize (lg_sl ([.ref ko, .int (nI 1)]) ++ List.replicate (3 - (lg_sl ([.ref ko, .int (nI 1)])).length) Slot.unset).toArray = ls at hl ⊢
  replace hl : lv_has ls 3 [(0, .ref ko), (1, .int (nI 1))] := hl
  refine lv_iload_n hx hb dX6_readLineOf_0 rfl (lv_at hl 1 rfl) ?_
  refine lv_tableIn (off := 54) (tgt := 55) hx hb dX6_readLineOf_1 (by decide) (by decide) rfl rfl ?_
  have ho0 : mOk tp (ps, fr, so, vl, ft, wa) := ⟨hps, hft, hso, hfr⟩
  refine lv_aload_n hx hb dX6_readLineOf_55 rfl (lv_at hl 0 rfl) ?_
  refine lv_aload_n hx hb dX6_readLineOf_56 rfl (lv_at hl 0 rfl) ?_
  refine lv_iconst (v := nI 0) hx hb dX6_readLineOf_57 (by decide) ?_
  refine lv_bipush (v := nI 9) hx hb dX6_readLineOf_58 (by decide) ?_
  refine xw_i (As := [.int (nI 0), .int (nI 9)]) (rest := [.ref ko]) (wr := [iA G (ad 2) 85 D]) ⟨hx, hb, hml, hown, hts⟩ (c_X6_readNumber l G ss.heap.size ko ad w h la tp dw dh dl tl tc hc hd ps fr so vl ft wa tr tb 0 9 (by first | assumption | omega) (by first | assumption | omega) (by first | assumption | omega) (by first | assumption | omega) (by first | assumption | omega) (by first | assumption | omega) (by first | assumption | omega)) (cwV 2 hts gX6_readLineOf_X6_readNumber rfl rfl rfl (by decide +kernel) ⟨Nat.le_of_ble_eq_true rfl, Nat.le_of_ble_eq_true rfl⟩) hK hP hD hS hA [0, 2] [1] rfl rfl (by decide) (by decide) (by decide) rfl rfl rfl hl.1 rfl (Nat.le_of_ble_eq_true rfl) dX6_readLineOf_60 ⟨Nat.le_of_ble_eq_true rfl, Nat.le_of_ble_eq_true rfl⟩ (fun r60 u H locs hp60 hP hD hS => ?_)
  obtain ⟨ps2_60, fr2_60, so2_60, vl2_60, ft2_60, wa2_60⟩ := u
  try dsimp only at hp60 hP hD
  obtain ⟨rfl, he60⟩ := hp60
  replace hP : xP G [iA G (ad 2) 85 D, oC ko 6 [.ref (ad 0), .ref (ad 1), .int (nI w), .int (nI h), .int (nI la), .ref (ad 2), .int (nI dw), .int (nI dh), .int (nI dl), .int tl, .int tc, .int hc, .int hd, .ref (ad 3), .int (nI tp), .int (nI ps2_60), .int (nI fr2_60), .int (nI so2_60), .int vl2_60, .int (nI ft2_60), .int wa2_60, .ref (ad 4), .ref (ad 5), .ref (ad 6), .ref (ad 7), .ref (ad 8), .ref (ad 9), .ref (ad 10), .int tr], iA G (ad 3) 160 tb] H := hP
  replace hD : va_D (va_A (w_X6_readLineOf_1 G ko ad w h la tp dw dh dl tl tc hc hd ps fr so vl ft wa tr tb D) ss.heap.size) [iA G (ad 2) 85 D, oC ko 6 [.ref (ad 0), .ref (ad 1), .int (nI w), .int (nI h), .int (nI la), .ref (ad 2), .int (nI dw), .int (nI dh), .int (nI dl), .int tl, .int tc, .int hc, .int hd, .ref (ad 3), .int (nI tp), .int (nI ps2_60), .int (nI fr2_60), .int (nI so2_60), .int vl2_60, .int (nI ft2_60), .int wa2_60, .ref (ad 4), .ref (ad 5), .ref (ad 6), .ref (ad 7), .ref (ad 8), .ref (ad 9), .ref (ad 10), .int tr], iA G (ad 3) 160 tb] := hD
  have ho60 : mOk tp (ps2_60, fr2_60, so2_60, vl2_60, ft2_60, wa2_60) := (by have q := (mNum_ok (t := tb) (lo := 0) (hi := 9) ho0).1; rw [← he60] at q; exact q)
  have hps60 := ho60.1
  have hft60 := ho60.2.1
  have hso60 := ho60.2.2.1
  have hfr60 := ho60.2.2.2
  replace hps60 : ps2_60 ≤ tp := hps60
  replace hft60 : ft2_60 ≤ 6 := hft60
  replace hso60 : so2_60 ≤ 3 := hso60
  replace hfr60 : fr2_60 ≤ ps2_60 := hfr60
  obtain ⟨k60, hk60, hv60⟩ := mLoo_val (lo := 0) (hi := 9) (s := (ps, fr, so, vl, ft, wa)) (by omega)
  refine xn_top (y := nI k60) (by exact hv60) ?_
  refine va_put (D := G.1) (ci := 6) (v := .int (nI k60)) (ty := .int) (C := RX6) (T := TX6) (N := 29) hx hb hts hin6 tyX6 tyX6_ok nmX6 hown hK.1 hP hD hS 1 rfl rfl 8 (by decide) (hts (.fieldLink RX6 57 "BackLensesModel" "dLast" "I") (List.mem_of_getElem? (i := 3) rfl)) (fun _ h9 => h9) rfl (by decide +kernel) rfl rfl (Nat.le_of_ble_eq_true rfl) dX6_readLineOf_63 (fun H locs hP hD hS => ?_)
  replace hP : xP G [iA G (ad 2) 85 D, oC ko 6 [.ref (ad 0), .ref (ad 1), .int (nI w), .int (nI h), .int (nI la), .ref (ad 2), .int (nI dw), .int (nI dh), .int (nI k60), .int tl, .int tc, .int hc, .int hd, .ref (ad 3), .int (nI tp), .int (nI ps2_60), .int (nI fr2_60), .int (nI so2_60), .int vl2_60, .int (nI ft2_60), .int wa2_60, .ref (ad 4), .ref (ad 5), .ref (ad 6), .ref (ad 7), .ref (ad 8), .ref (ad 9), .ref (ad 10), .int tr], iA G (ad 3) 160 tb] H := hP
  replace hD : va_D (va_A (w_X6_readLineOf_1 G ko ad w h la tp dw dh dl tl tc hc hd ps fr so vl ft wa tr tb D) ss.heap.size) [iA G (ad 2) 85 D, oC ko 6 [.ref (ad 0), .ref (ad 1), .int (nI w), .int (nI h), .int (nI la), .ref (ad 2), .int (nI dw), .int (nI dh), .int (nI k60), .int tl, .int tc, .int hc, .int hd, .ref (ad 3), .int (nI tp), .int (nI ps2_60), .int (nI fr2_60), .int (nI so2_60), .int vl2_60, .int (nI ft2_60), .int wa2_60, .ref (ad 4), .ref (ad 5), .ref (ad 6), .ref (ad 7), .ref (ad 8), .ref (ad 9), .ref (ad 10), .int tr], iA G (ad 3) 160 tb] := hD
  refine lv_goto (tgt := 175) hx hb dX6_readLineOf_66 rfl ?_
  have hP := hP.sub (ws' := [oC ko 6 [.ref (ad 0), .ref (ad 1), .int (nI w), .int (nI h), .int (nI la), .ref (ad 2), .int (nI dw), .int (nI dh), .int (nI k60), .int tl, .int tc, .int hc, .int hd, .ref (ad 3), .int (nI tp), .int (nI ps2_60), .int (nI fr2_60), .int (nI so2_60), .int vl2_60, .int (nI ft2_60), .int wa2_60, .ref (ad 4), .ref (ad 5), .ref (ad 6), .ref (ad 7), .ref (ad 8), .ref (ad 9), .ref (ad 10), .int tr], iA G (ad 2) 85 D, iA G (ad 3) 160 tb]) [1, 0, 2] rfl
  have hD := hD.sub (ws' := [oC ko 6 [.ref (ad 0), .ref (ad 1), .int (nI w), .int (nI h), .int (nI la), .ref (ad 2), .int (nI dw), .int (nI dh), .int (nI k60), .int tl, .int tc, .int hc, .int hd, .ref (ad 3), .int (nI tp), .int (nI ps2_60), .int (nI fr2_60), .int (nI so2_60), .int vl2_60, .int (nI ft2_60), .int wa2_60, .ref (ad 4), .ref (ad 5), .ref (ad 6), .ref (ad 7), .ref (ad 8), .ref (ad 9), .ref (ad 10), .int tr], iA G (ad 2) 85 D, iA G (ad 3) 160 tb]) [1, 0, 2] (by decide) rfl
  refine W.vret hx hb hr (fun t ht hW => ⟨⟨(ps2_60, fr2_60, so2_60, vl2_60, ft2_60, wa2_60, k60), rfl, ?_, by rw [ht]; exact hP, hD⟩, hS.F ht⟩) hS.2.2 dX6_readLineOf_175
  try dsimp only
  have e1 : vI (mNum tb tp 0 9 (ps, fr, so, vl, ft, wa)).1 = k60 := (congrArg vI hv60).trans (vI_nI (by omega)); show _ = mL1 tb tp ((ps, fr, so, vl, ft, wa), (dw, dh, dl), (tl, tc, hc, hd), D); unfold mL1; dsimp only; rw [e1, ← he60]

abbrev w_X6_readLineOf_2 (G : XG) (ko : Nat) (ad : Nat → Nat) (w h la tp : Nat) (dw dh dl : Nat) (tl tc hc hd : Int32) (ps fr so : Nat) (vl : Int32) (ft : Nat) (wa tr : Int32) (tb D : Nat → Int32) : va_W := [oC ko 6 [.ref (ad 0), .ref (ad 1), .int (nI w), .int (nI h), .int (nI la), .ref (ad 2), .int (nI dw), .int (nI dh), .int (nI dl), .int tl, .int tc, .int hc, .int hd, .ref (ad 3), .int (nI tp), .int (nI ps), .int (nI fr), .int (nI so), .int vl, .int (nI ft), .int wa, .ref (ad 4), .ref (ad 5), .ref (ad 6), .ref (ad 7), .ref (ad 8), .ref (ad 9), .ref (ad 10), .int tr], iA G (ad 2) 85 D, iA G (ad 3) 160 tb]
abbrev Q_X6_readLineOf_2 (G : XG) (sz : Nat) (ko : Nat) (ad : Nat → Nat) (w h la tp : Nat) (dw dh dl : Nat) (tl tc hc hd : Int32) (ps fr so : Nat) (vl : Int32) (ft : Nat) (wa tr : Int32) (tb D : Nat → Int32) : Array Value → State → Outcome → State → Prop := (va_Qv (fun (u : Nat × Nat × Nat × Int32 × Nat × Int32 × Int32 × Int32 × (Nat → Int32)) => ((u.1, u.2.1, u.2.2.1, u.2.2.2.1, u.2.2.2.2.1, u.2.2.2.2.2.1), (dw, dh, dl), (tl, u.2.2.2.2.2.2.1, u.2.2.2.2.2.2.2.1, hd), u.2.2.2.2.2.2.2.2) = mLof tb tp 2 ((ps, fr, so, vl, ft, wa), (dw, dh, dl), (tl, tc, hc, hd), D)) (xWb G sz (w_X6_readLineOf_2 G ko ad w h la tp dw dh dl tl tc hc hd ps fr so vl ft wa tr tb D) (fun u : Nat × Nat × Nat × Int32 × Nat × Int32 × Int32 × Int32 × (Nat → Int32) => [oC ko 6 [.ref (ad 0), .ref (ad 1), .int (nI w), .int (nI h), .int (nI la), .ref (ad 2), .int (nI dw), .int (nI dh), .int (nI dl), .int tl, .int u.2.2.2.2.2.2.1, .int u.2.2.2.2.2.2.2.1, .int hd, .ref (ad 3), .int (nI tp), .int (nI u.1), .int (nI u.2.1), .int (nI u.2.2.1), .int u.2.2.2.1, .int (nI u.2.2.2.2.1), .int u.2.2.2.2.2.1, .ref (ad 4), .ref (ad 5), .ref (ad 6), .ref (ad 7), .ref (ad 8), .ref (ad 9), .ref (ad 10), .int tr], iA G (ad 2) 85 u.2.2.2.2.2.2.2.2, iA G (ad 3) 160 tb])) (va_A (w_X6_readLineOf_2 G ko ad w h la tp dw dh dl tl tc hc hd ps fr so vl ft wa tr tb D) sz))
set_option maxHeartbeats 4000000 in
set_option maxRecDepth 100000 in
theorem c_X6_readLineOf_2 (l : Launch) (G : XG) (sz : Nat) (ko : Nat) (ad : Nat → Nat) (w h la tp : Nat) (dw dh dl : Nat) (tl tc hc hd : Int32) (ps fr so : Nat) (vl : Int32) (ft : Nat) (wa tr : Int32) (tb D : Nat → Int32) (htp : tp ≤ 160) (hps : ps ≤ tp) (htk : tpOk tb tp) (hft : ft ≤ 6) (hso : so ≤ 3) (hfr : fr ≤ ps) : Met l yX6_readLineOf wsX6_readLineOf ({ frames := 3, cells := 0, slots := 0, locals := 70 } : Room) (va_Pc [.ref ko, .int (nI 2)] (xWp G sz (w_X6_readLineOf_2 G ko ad w h la tp dw dh dl tl tc hc hd ps fr so vl ft wa tr tb D))) (Q_X6_readLineOf_2 G sz ko ad w h la tp dw dh dl tl tc hc hd ps fr so vl ft wa tr tb D) 0 0 (va_A (w_X6_readLineOf_2 G ko ad w h la tp dw dh dl tl tc hc hd ps fr so vl ft wa tr tb D) sz) := by
  refine Met.ofW (cc := cX6_readLineOf) (maxL := 3) (ret := none) (by decide) rfl ?_
  intro pp ee ss mm aa below mt cd s₁ BB hml hv
  obtain ⟨rfl, hsz, hP, hK, hD0⟩ := hv
  have hx := BB.exec
  have hb := BB.bytes
  have hr := BB.returns
  have hts := atoms_spec (ws := wsX6_readLineOf) BB.pre
  have hown : ss.vm.findClass RX6 = some mm.cls := findClass_of_methodNamed BB.named
  have hlocks := BB.notSynchronized
  subst hsz
  have hD := hD0.self (sz := ss.heap.size)
  have hA : ∀ q : Nat, ss.heap.size ≤ q → va_A (w_X6_readLineOf_2 G ko ad w h la tp dw dh dl tl tc hc hd ps fr so vl ft wa tr tb D) ss.heap.size q := fun q h => Or.inr h
  have hS : va_S (va_A (w_X6_readLineOf_2 G ko ad w h la tp dw dh dl tl tc hc hd ps fr so vl ft wa tr tb D) ss.heap.size) ss.heap ss.heap [] := va_S.rf
  replace hD : va_D (va_A (w_X6_readLineOf_2 G ko ad w h la tp dw dh dl tl tc hc hd ps fr so vl ft wa tr tb D) ss.heap.size) [oC ko 6 [.ref (ad 0), .ref (ad 1), .int (nI w), .int (nI h), .int (nI la), .ref (ad 2), .int (nI dw), .int (nI dh), .int (nI dl), .int tl, .int tc, .int hc, .int hd, .ref (ad 3), .int (nI tp), .int (nI ps), .int (nI fr), .int (nI so), .int vl, .int (nI ft), .int wa, .ref (ad 4), .ref (ad 5), .ref (ad 6), .ref (ad 7), .ref (ad 8), .ref (ad 9), .ref (ad 10), .int tr], iA G (ad 2) 85 D, iA G (ad 3) 160 tb] := hD
  replace hP : xP G [oC ko 6 [.ref (ad 0), .ref (ad 1), .int (nI w), .int (nI h), .int (nI la), .ref (ad 2), .int (nI dw), .int (nI dh), .int (nI dl), .int tl, .int tc, .int hc, .int hd, .ref (ad 3), .int (nI tp), .int (nI ps), .int (nI fr), .int (nI so), .int vl, .int (nI ft), .int wa, .ref (ad 4), .ref (ad 5), .ref (ad 6), .ref (ad 7), .ref (ad 8), .ref (ad 9), .ref (ad 10), .int tr], iA G (ad 2) 85 D, iA G (ad 3) 160 tb] ss.heap := hP
  have hin6 : ∀ w ∈ u_ws RX6 TX6 29, w ∈ wsX6_readLineOf := fun w h => List.mem_cons_of_mem _ (List.mem_append_right _ h)
  have hl := lv_entry ([.ref ko, .int (nI 2)]) (n := 3) (Nat.le_of_ble_eq_true rfl)
  rw [lg_entry_eq]
  generalize (lg_sl ([.ref ko, .int (nI 2)]) ++ List.replicate (3 - (lg_sl ([.ref ko, .int (nI 2)])).length) Slot.unset).toArray = ls at hl ⊢
  replace hl : lv_has ls 3 [(0, .ref ko), (1, .int (nI 2))] := hl
  refine lv_iload_n hx hb dX6_readLineOf_0 rfl (lv_at hl 1 rfl) ?_
  refine lv_tableIn (off := 68) (tgt := 69) hx hb dX6_readLineOf_1 (by decide) (by decide) rfl rfl ?_
  have ho0 : mOk tp (ps, fr, so, vl, ft, wa) := ⟨hps, hft, hso, hfr⟩
  refine lv_aload_n hx hb dX6_readLineOf_69 rfl (lv_at hl 0 rfl) ?_
  refine lv_aload_n hx hb dX6_readLineOf_70 rfl (lv_at hl 0 rfl) ?_
  refine va_get (D := G.1) (ci := 6) (v := .int tc) (C := RX6) (T := TX6) (N := 29) hx hb hts hin6 hown hK.1 hP 0 rfl rfl 10 (by decide) (hts (.fieldLink RX6 63 "BackLensesModel" "toldCells" "I") (List.mem_of_getElem? (i := 4) rfl)) (fun _ h9 => h9) rfl dX6_readLineOf_71 ?_
  refine xw_i (As := [.int tc]) (rest := []) (wr := [iA G (ad 2) 85 D]) ⟨hx, hb, hml, hown, hts⟩ (c_X6_readCellBut l G ss.heap.size ko ad w h la tp dw dh dl tl tc hc hd ps fr so vl ft wa tr tb tc (by first | assumption | omega) (by first | assumption | omega) (by first | assumption | omega) (by first | assumption | omega) (by first | assumption | omega)) (cwV 1 hts gX6_readLineOf_X6_readCellBut rfl rfl rfl (by decide +kernel) ⟨Nat.le_of_ble_eq_true rfl, Nat.le_of_ble_eq_true rfl⟩) hK hP hD hS hA [0, 2] [1] rfl rfl (by decide) (by decide) (by decide) rfl rfl rfl hl.1 rfl (Nat.le_of_ble_eq_true rfl) dX6_readLineOf_74 ⟨Nat.le_of_ble_eq_true rfl, Nat.le_of_ble_eq_true rfl⟩ (fun r74 u H locs hp74 hP hD hS => ?_)
  obtain ⟨ps2_74, fr2_74, so2_74, vl2_74, ft2_74, wa2_74, hc2_74⟩ := u
  try dsimp only at hp74 hP hD
  obtain ⟨rfl, he74⟩ := hp74
  replace hP : xP G [iA G (ad 2) 85 D, oC ko 6 [.ref (ad 0), .ref (ad 1), .int (nI w), .int (nI h), .int (nI la), .ref (ad 2), .int (nI dw), .int (nI dh), .int (nI dl), .int tl, .int tc, .int hc2_74, .int hd, .ref (ad 3), .int (nI tp), .int (nI ps2_74), .int (nI fr2_74), .int (nI so2_74), .int vl2_74, .int (nI ft2_74), .int wa2_74, .ref (ad 4), .ref (ad 5), .ref (ad 6), .ref (ad 7), .ref (ad 8), .ref (ad 9), .ref (ad 10), .int tr], iA G (ad 3) 160 tb] H := hP
  replace hD : va_D (va_A (w_X6_readLineOf_2 G ko ad w h la tp dw dh dl tl tc hc hd ps fr so vl ft wa tr tb D) ss.heap.size) [iA G (ad 2) 85 D, oC ko 6 [.ref (ad 0), .ref (ad 1), .int (nI w), .int (nI h), .int (nI la), .ref (ad 2), .int (nI dw), .int (nI dh), .int (nI dl), .int tl, .int tc, .int hc2_74, .int hd, .ref (ad 3), .int (nI tp), .int (nI ps2_74), .int (nI fr2_74), .int (nI so2_74), .int vl2_74, .int (nI ft2_74), .int wa2_74, .ref (ad 4), .ref (ad 5), .ref (ad 6), .ref (ad 7), .ref (ad 8), .ref (ad 9), .ref (ad 10), .int tr], iA G (ad 3) 160 tb] := hD
  have ho74 : mOk tp (ps2_74, fr2_74, so2_74, vl2_74, ft2_74, wa2_74) := (by have q := (mCel_ok (t := tb) (sm := tc) (hc := hc) ho0).1; rw [← he74] at q; exact q)
  have hps74 := ho74.1
  have hft74 := ho74.2.1
  have hso74 := ho74.2.2.1
  have hfr74 := ho74.2.2.2
  replace hps74 : ps2_74 ≤ tp := hps74
  replace hft74 : ft2_74 ≤ 6 := hft74
  replace hso74 : so2_74 ≤ 3 := hso74
  replace hfr74 : fr2_74 ≤ ps2_74 := hfr74
  obtain ⟨k74, hk74, hv74⟩ := mLoo_val (lo := 0) (hi := 15) (s := (ps, fr, so, vl, ft, wa)) (by omega)
  refine xn_top (y := nI k74) (by exact hv74) ?_
  refine lv_istore_n (lv' := [(2, .int (nI k74)), (0, .ref ko), (1, .int (nI 2))]) hx hb dX6_readLineOf_77 rfl hl (by decide) rfl (fun ls hl => ?_)
  refine lv_aload_n hx hb dX6_readLineOf_78 rfl (lv_at hl 1 rfl) ?_
  refine lv_dup hx hb dX6_readLineOf_79 rfl ?_
  refine va_get (D := G.1) (ci := 6) (v := .int tc) (C := RX6) (T := TX6) (N := 29) hx hb hts hin6 hown hK.1 hP 1 rfl rfl 10 (by decide) (hts (.fieldLink RX6 63 "BackLensesModel" "toldCells" "I") (List.mem_of_getElem? (i := 4) rfl)) (fun _ h9 => h9) rfl dX6_readLineOf_80 ?_
  refine lv_iconst (v := nI 1) hx hb dX6_readLineOf_83 (by decide) ?_
  refine lv_iload_n hx hb dX6_readLineOf_84 rfl (lv_at hl 0 rfl) ?_
  refine lv_ishl hx hb dX6_readLineOf_85 ?_
  refine lv_ior hx hb dX6_readLineOf_86 ?_
  refine va_put (D := G.1) (ci := 6) (v := .int (tc ||| ((nI 1) <<< ((nI k74) &&& 31)))) (ty := .int) (C := RX6) (T := TX6) (N := 29) hx hb hts hin6 tyX6 tyX6_ok nmX6 hown hK.1 hP hD hS 1 rfl rfl 10 (by decide) (hts (.fieldLink RX6 63 "BackLensesModel" "toldCells" "I") (List.mem_of_getElem? (i := 4) rfl)) (fun _ h9 => h9) rfl (by decide +kernel) rfl rfl (Nat.le_of_ble_eq_true rfl) dX6_readLineOf_87 (fun H locs hP hD hS => ?_)
  replace hP : xP G [iA G (ad 2) 85 D, oC ko 6 [.ref (ad 0), .ref (ad 1), .int (nI w), .int (nI h), .int (nI la), .ref (ad 2), .int (nI dw), .int (nI dh), .int (nI dl), .int tl, .int (tc ||| ((nI 1) <<< ((nI k74) &&& 31))), .int hc2_74, .int hd, .ref (ad 3), .int (nI tp), .int (nI ps2_74), .int (nI fr2_74), .int (nI so2_74), .int vl2_74, .int (nI ft2_74), .int wa2_74, .ref (ad 4), .ref (ad 5), .ref (ad 6), .ref (ad 7), .ref (ad 8), .ref (ad 9), .ref (ad 10), .int tr], iA G (ad 3) 160 tb] H := hP
  replace hD : va_D (va_A (w_X6_readLineOf_2 G ko ad w h la tp dw dh dl tl tc hc hd ps fr so vl ft wa tr tb D) ss.heap.size) [iA G (ad 2) 85 D, oC ko 6 [.ref (ad 0), .ref (ad 1), .int (nI w), .int (nI h), .int (nI la), .ref (ad 2), .int (nI dw), .int (nI dh), .int (nI dl), .int tl, .int (tc ||| ((nI 1) <<< ((nI k74) &&& 31))), .int hc2_74, .int hd, .ref (ad 3), .int (nI tp), .int (nI ps2_74), .int (nI fr2_74), .int (nI so2_74), .int vl2_74, .int (nI ft2_74), .int wa2_74, .ref (ad 4), .ref (ad 5), .ref (ad 6), .ref (ad 7), .ref (ad 8), .ref (ad 9), .ref (ad 10), .int tr], iA G (ad 3) 160 tb] := hD
  refine lv_aload_n hx hb dX6_readLineOf_90 rfl (lv_at hl 1 rfl) ?_
  refine va_get (D := G.1) (ci := 6) (v := .ref (ad 2)) (C := RX6) (T := TX6) (N := 29) hx hb hts hin6 hown hK.1 hP 1 rfl rfl 5 (by decide) (hts (.fieldLink RX6 17 "BackLensesModel" "draft" "[I") (List.mem_of_getElem? (i := 5) rfl)) (fun _ h9 => h9) rfl dX6_readLineOf_91 ?_
  refine lv_iconst (v := nI 0) hx hb dX6_readLineOf_94 (by decide) ?_
  refine lv_iload_n hx hb dX6_readLineOf_95 rfl (lv_at hl 0 rfl) ?_
  refine xn_iadd hx hb dX6_readLineOf_96 ?_
  refine lv_aload_n hx hb dX6_readLineOf_97 rfl (lv_at hl 1 rfl) ?_
  refine lv_iconst (v := nI 0) hx hb dX6_readLineOf_98 (by decide) ?_
  refine lv_iconst (v := nI 5) hx hb dX6_readLineOf_99 (by decide) ?_
  refine xw_i (As := [.int (nI 0), .int (nI 5)]) (rest := [.int (nI (0 + k74)), .ref (ad 2)]) (wr := [iA G (ad 2) 85 D]) ⟨hx, hb, hml, hown, hts⟩ (c_X6_readNumber l G H.size ko ad w h la tp dw dh dl tl (tc ||| ((nI 1) <<< ((nI k74) &&& 31))) hc2_74 hd ps2_74 fr2_74 so2_74 vl2_74 ft2_74 wa2_74 tr tb 0 5 (by first | assumption | omega) (by first | assumption | omega) (by first | assumption | omega) (by first | assumption | omega) (by first | assumption | omega) (by first | assumption | omega) (by first | assumption | omega)) (cwV 2 hts gX6_readLineOf_X6_readNumber rfl rfl rfl (by decide +kernel) ⟨Nat.le_of_ble_eq_true rfl, Nat.le_of_ble_eq_true rfl⟩) hK hP hD hS hA [1, 2] [0] rfl rfl (by decide) (by decide) (by decide) rfl rfl rfl hl.1 rfl (Nat.le_of_ble_eq_true rfl) dX6_readLineOf_100 ⟨Nat.le_of_ble_eq_true rfl, Nat.le_of_ble_eq_true rfl⟩ (fun r100 u H locs hp100 hP hD hS => ?_)
  obtain ⟨ps2_100, fr2_100, so2_100, vl2_100, ft2_100, wa2_100⟩ := u
  try dsimp only at hp100 hP hD
  obtain ⟨rfl, he100⟩ := hp100
  replace hP : xP G [iA G (ad 2) 85 D, oC ko 6 [.ref (ad 0), .ref (ad 1), .int (nI w), .int (nI h), .int (nI la), .ref (ad 2), .int (nI dw), .int (nI dh), .int (nI dl), .int tl, .int (tc ||| ((nI 1) <<< ((nI k74) &&& 31))), .int hc2_74, .int hd, .ref (ad 3), .int (nI tp), .int (nI ps2_100), .int (nI fr2_100), .int (nI so2_100), .int vl2_100, .int (nI ft2_100), .int wa2_100, .ref (ad 4), .ref (ad 5), .ref (ad 6), .ref (ad 7), .ref (ad 8), .ref (ad 9), .ref (ad 10), .int tr], iA G (ad 3) 160 tb] H := hP
  replace hD : va_D (va_A (w_X6_readLineOf_2 G ko ad w h la tp dw dh dl tl tc hc hd ps fr so vl ft wa tr tb D) ss.heap.size) [iA G (ad 2) 85 D, oC ko 6 [.ref (ad 0), .ref (ad 1), .int (nI w), .int (nI h), .int (nI la), .ref (ad 2), .int (nI dw), .int (nI dh), .int (nI dl), .int tl, .int (tc ||| ((nI 1) <<< ((nI k74) &&& 31))), .int hc2_74, .int hd, .ref (ad 3), .int (nI tp), .int (nI ps2_100), .int (nI fr2_100), .int (nI so2_100), .int vl2_100, .int (nI ft2_100), .int wa2_100, .ref (ad 4), .ref (ad 5), .ref (ad 6), .ref (ad 7), .ref (ad 8), .ref (ad 9), .ref (ad 10), .int tr], iA G (ad 3) 160 tb] := hD
  refine xn_iast hx hb hK hP hD hS 0 rfl (by omega) (by omega) dX6_readLineOf_103 (fun H locs hP hD hS => ?_)
  replace hP : xP G [iA G (ad 2) 85 (upd D (0 + k74) ((mNum tb tp 0 5 (ps2_74, fr2_74, so2_74, vl2_74, ft2_74, wa2_74)).1)), oC ko 6 [.ref (ad 0), .ref (ad 1), .int (nI w), .int (nI h), .int (nI la), .ref (ad 2), .int (nI dw), .int (nI dh), .int (nI dl), .int tl, .int (tc ||| ((nI 1) <<< ((nI k74) &&& 31))), .int hc2_74, .int hd, .ref (ad 3), .int (nI tp), .int (nI ps2_100), .int (nI fr2_100), .int (nI so2_100), .int vl2_100, .int (nI ft2_100), .int wa2_100, .ref (ad 4), .ref (ad 5), .ref (ad 6), .ref (ad 7), .ref (ad 8), .ref (ad 9), .ref (ad 10), .int tr], iA G (ad 3) 160 tb] H := hP
  replace hD : va_D (va_A (w_X6_readLineOf_2 G ko ad w h la tp dw dh dl tl tc hc hd ps fr so vl ft wa tr tb D) ss.heap.size) [iA G (ad 2) 85 (upd D (0 + k74) ((mNum tb tp 0 5 (ps2_74, fr2_74, so2_74, vl2_74, ft2_74, wa2_74)).1)), oC ko 6 [.ref (ad 0), .ref (ad 1), .int (nI w), .int (nI h), .int (nI la), .ref (ad 2), .int (nI dw), .int (nI dh), .int (nI dl), .int tl, .int (tc ||| ((nI 1) <<< ((nI k74) &&& 31))), .int hc2_74, .int hd, .ref (ad 3), .int (nI tp), .int (nI ps2_100), .int (nI fr2_100), .int (nI so2_100), .int vl2_100, .int (nI ft2_100), .int wa2_100, .ref (ad 4), .ref (ad 5), .ref (ad 6), .ref (ad 7), .ref (ad 8), .ref (ad 9), .ref (ad 10), .int tr], iA G (ad 3) 160 tb] := hD
  refine lv_goto (tgt := 175) hx hb dX6_readLineOf_104 rfl ?_
  have hP := hP.sub (ws' := [oC ko 6 [.ref (ad 0), .ref (ad 1), .int (nI w), .int (nI h), .int (nI la), .ref (ad 2), .int (nI dw), .int (nI dh), .int (nI dl), .int tl, .int (tc ||| ((nI 1) <<< ((nI k74) &&& 31))), .int hc2_74, .int hd, .ref (ad 3), .int (nI tp), .int (nI ps2_100), .int (nI fr2_100), .int (nI so2_100), .int vl2_100, .int (nI ft2_100), .int wa2_100, .ref (ad 4), .ref (ad 5), .ref (ad 6), .ref (ad 7), .ref (ad 8), .ref (ad 9), .ref (ad 10), .int tr], iA G (ad 2) 85 (upd D (0 + k74) ((mNum tb tp 0 5 (ps2_74, fr2_74, so2_74, vl2_74, ft2_74, wa2_74)).1)), iA G (ad 3) 160 tb]) [1, 0, 2] rfl
  have hD := hD.sub (ws' := [oC ko 6 [.ref (ad 0), .ref (ad 1), .int (nI w), .int (nI h), .int (nI la), .ref (ad 2), .int (nI dw), .int (nI dh), .int (nI dl), .int tl, .int (tc ||| ((nI 1) <<< ((nI k74) &&& 31))), .int hc2_74, .int hd, .ref (ad 3), .int (nI tp), .int (nI ps2_100), .int (nI fr2_100), .int (nI so2_100), .int vl2_100, .int (nI ft2_100), .int wa2_100, .ref (ad 4), .ref (ad 5), .ref (ad 6), .ref (ad 7), .ref (ad 8), .ref (ad 9), .ref (ad 10), .int tr], iA G (ad 2) 85 (upd D (0 + k74) ((mNum tb tp 0 5 (ps2_74, fr2_74, so2_74, vl2_74, ft2_74, wa2_74)).1)), iA G (ad 3) 160 tb]) [1, 0, 2] (by decide) rfl
  refine W.vret hx hb hr (fun t ht hW => ⟨⟨(ps2_100, fr2_100, so2_100, vl2_100, ft2_100, wa2_100, (tc ||| ((nI 1) <<< ((nI k74) &&& 31))), hc2_74, upd D (0 + k74) ((mNum tb tp 0 5 (ps2_74, fr2_74, so2_74, vl2_74, ft2_74, wa2_74)).1)), rfl, ?_, by rw [ht]; exact hP, hD⟩, hS.F ht⟩) hS.2.2 dX6_readLineOf_175
  try dsimp only
  have e0 : (mCel tb tp tc hc (ps, fr, so, vl, ft, wa)).1 = nI k74 := hv74; have e1 : vI (mCel tb tp tc hc (ps, fr, so, vl, ft, wa)).1 = 0 + k74 := (congrArg vI hv74).trans ((vI_nI (by omega)).trans (Nat.zero_add _).symm); have e2 : (mCel tb tp tc hc (ps, fr, so, vl, ft, wa)).2 = (hc2_74, (ps2_74, fr2_74, so2_74, vl2_74, ft2_74, wa2_74)) := he74.symm; show _ = mL2 tb tp ((ps, fr, so, vl, ft, wa), (dw, dh, dl), (tl, tc, hc, hd), D); unfold mL2; dsimp only; rw [e1, e0, e2]; dsimp only; rw [← he100]

abbrev w_X6_readLineOf_3 (G : XG) (ko : Nat) (ad : Nat → Nat) (w h la tp : Nat) (dw dh dl : Nat) (tl tc hc hd : Int32) (ps fr so : Nat) (vl : Int32) (ft : Nat) (wa tr : Int32) (tb D : Nat → Int32) : va_W := [oC ko 6 [.ref (ad 0), .ref (ad 1), .int (nI w), .int (nI h), .int (nI la), .ref (ad 2), .int (nI dw), .int (nI dh), .int (nI dl), .int tl, .int tc, .int hc, .int hd, .ref (ad 3), .int (nI tp), .int (nI ps), .int (nI fr), .int (nI so), .int vl, .int (nI ft), .int wa, .ref (ad 4), .ref (ad 5), .ref (ad 6), .ref (ad 7), .ref (ad 8), .ref (ad 9), .ref (ad 10), .int tr], iA G (ad 2) 85 D, iA G (ad 3) 160 tb]
abbrev Q_X6_readLineOf_3 (G : XG) (sz : Nat) (ko : Nat) (ad : Nat → Nat) (w h la tp : Nat) (dw dh dl : Nat) (tl tc hc hd : Int32) (ps fr so : Nat) (vl : Int32) (ft : Nat) (wa tr : Int32) (tb D : Nat → Int32) : Array Value → State → Outcome → State → Prop := (va_Qv (fun (u : Nat × Nat × Nat × Int32 × Nat × Int32 × Int32 × Int32 × (Nat → Int32)) => ((u.1, u.2.1, u.2.2.1, u.2.2.2.1, u.2.2.2.2.1, u.2.2.2.2.2.1), (dw, dh, dl), (tl, tc, u.2.2.2.2.2.2.1, u.2.2.2.2.2.2.2.1), u.2.2.2.2.2.2.2.2) = mLof tb tp 3 ((ps, fr, so, vl, ft, wa), (dw, dh, dl), (tl, tc, hc, hd), D)) (xWb G sz (w_X6_readLineOf_3 G ko ad w h la tp dw dh dl tl tc hc hd ps fr so vl ft wa tr tb D) (fun u : Nat × Nat × Nat × Int32 × Nat × Int32 × Int32 × Int32 × (Nat → Int32) => [oC ko 6 [.ref (ad 0), .ref (ad 1), .int (nI w), .int (nI h), .int (nI la), .ref (ad 2), .int (nI dw), .int (nI dh), .int (nI dl), .int tl, .int tc, .int u.2.2.2.2.2.2.1, .int u.2.2.2.2.2.2.2.1, .ref (ad 3), .int (nI tp), .int (nI u.1), .int (nI u.2.1), .int (nI u.2.2.1), .int u.2.2.2.1, .int (nI u.2.2.2.2.1), .int u.2.2.2.2.2.1, .ref (ad 4), .ref (ad 5), .ref (ad 6), .ref (ad 7), .ref (ad 8), .ref (ad 9), .ref (ad 10), .int tr], iA G (ad 2) 85 u.2.2.2.2.2.2.2.2, iA G (ad 3) 160 tb])) (va_A (w_X6_readLineOf_3 G ko ad w h la tp dw dh dl tl tc hc hd ps fr so vl ft wa tr tb D) sz))
set_option maxHeartbeats 4000000 in
set_option maxRecDepth 100000 in
theorem c_X6_readLineOf_3 (l : Launch) (G : XG) (sz : Nat) (ko : Nat) (ad : Nat → Nat) (w h la tp : Nat) (dw dh dl : Nat) (tl tc hc hd : Int32) (ps fr so : Nat) (vl : Int32) (ft : Nat) (wa tr : Int32) (tb D : Nat → Int32) (htp : tp ≤ 160) (hps : ps ≤ tp) (htk : tpOk tb tp) (hft : ft ≤ 6) (hso : so ≤ 3) (hfr : fr ≤ ps) (hD16 : inR (D 16) 10) : Met l yX6_readLineOf wsX6_readLineOf ({ frames := 3, cells := 0, slots := 0, locals := 70 } : Room) (va_Pc [.ref ko, .int (nI 3)] (xWp G sz (w_X6_readLineOf_3 G ko ad w h la tp dw dh dl tl tc hc hd ps fr so vl ft wa tr tb D))) (Q_X6_readLineOf_3 G sz ko ad w h la tp dw dh dl tl tc hc hd ps fr so vl ft wa tr tb D) 0 0 (va_A (w_X6_readLineOf_3 G ko ad w h la tp dw dh dl tl tc hc hd ps fr so vl ft wa tr tb D) sz) := by
  refine Met.ofW (cc := cX6_readLineOf) (maxL := 3) (ret := none) (by decide) rfl ?_
  intro pp ee ss mm aa below mt cd s₁ BB hml hv
  obtain ⟨rfl, hsz, hP, hK, hD0⟩ := hv
  have hx := BB.exec
  have hb := BB.bytes
  have hr := BB.returns
  have hts := atoms_spec (ws := wsX6_readLineOf) BB.pre
  have hown : ss.vm.findClass RX6 = some mm.cls := findClass_of_methodNamed BB.named
  have hlocks := BB.notSynchronized
  subst hsz
  have hD := hD0.self (sz := ss.heap.size)
  have hA : ∀ q : Nat, ss.heap.size ≤ q → va_A (w_X6_readLineOf_3 G ko ad w h la tp dw dh dl tl tc hc hd ps fr so vl ft wa tr tb D) ss.heap.size q := fun q h => Or.inr h
  have hS : va_S (va_A (w_X6_readLineOf_3 G ko ad w h la tp dw dh dl tl tc hc hd ps fr so vl ft wa tr tb D) ss.heap.size) ss.heap ss.heap [] := va_S.rf
  replace hD : va_D (va_A (w_X6_readLineOf_3 G ko ad w h la tp dw dh dl tl tc hc hd ps fr so vl ft wa tr tb D) ss.heap.size) [oC ko 6 [.ref (ad 0), .ref (ad 1), .int (nI w), .int (nI h), .int (nI la), .ref (ad 2), .int (nI dw), .int (nI dh), .int (nI dl), .int tl, .int tc, .int hc, .int hd, .ref (ad 3), .int (nI tp), .int (nI ps), .int (nI fr), .int (nI so), .int vl, .int (nI ft), .int wa, .ref (ad 4), .ref (ad 5), .ref (ad 6), .ref (ad 7), .ref (ad 8), .ref (ad 9), .ref (ad 10), .int tr], iA G (ad 2) 85 D, iA G (ad 3) 160 tb] := hD
  replace hP : xP G [oC ko 6 [.ref (ad 0), .ref (ad 1), .int (nI w), .int (nI h), .int (nI la), .ref (ad 2), .int (nI dw), .int (nI dh), .int (nI dl), .int tl, .int tc, .int hc, .int hd, .ref (ad 3), .int (nI tp), .int (nI ps), .int (nI fr), .int (nI so), .int vl, .int (nI ft), .int wa, .ref (ad 4), .ref (ad 5), .ref (ad 6), .ref (ad 7), .ref (ad 8), .ref (ad 9), .ref (ad 10), .int tr], iA G (ad 2) 85 D, iA G (ad 3) 160 tb] ss.heap := hP
  have hin6 : ∀ w ∈ u_ws RX6 TX6 29, w ∈ wsX6_readLineOf := fun w h => List.mem_cons_of_mem _ (List.mem_append_right _ h)
  have hl := lv_entry ([.ref ko, .int (nI 3)]) (n := 3) (Nat.le_of_ble_eq_true rfl)
  rw [lg_entry_eq]
  generalize (lg_sl ([.ref ko, .int (nI 3)]) ++ List.replicate (3 - (lg_sl ([.ref ko, .int (nI 3)])).length) Slot.unset).toArray = ls at hl ⊢
  replace hl : lv_has ls 3 [(0, .ref ko), (1, .int (nI 3))] := hl
  refine lv_iload_n hx hb dX6_readLineOf_0 rfl (lv_at hl 1 rfl) ?_
  refine lv_tableIn (off := 106) (tgt := 107) hx hb dX6_readLineOf_1 (by decide) (by decide) rfl rfl ?_
  have ho0 : mOk tp (ps, fr, so, vl, ft, wa) := ⟨hps, hft, hso, hfr⟩
  obtain ⟨nc, hnc, h16⟩ := inR_nat hD16
  refine lv_bipush (v := nI 17) hx hb dX6_readLineOf_107 (by decide) ?_
  refine lv_iconst (v := nI 3) hx hb dX6_readLineOf_109 (by decide) ?_
  refine lv_aload_n hx hb dX6_readLineOf_110 rfl (lv_at hl 0 rfl) ?_
  refine va_get (D := G.1) (ci := 6) (v := .ref (ad 2)) (C := RX6) (T := TX6) (N := 29) hx hb hts hin6 hown hK.1 hP 0 rfl rfl 5 (by decide) (hts (.fieldLink RX6 17 "BackLensesModel" "draft" "[I") (List.mem_of_getElem? (i := 5) rfl)) (fun _ h9 => h9) rfl dX6_readLineOf_111 ?_
  refine lv_bipush (v := nI 16) hx hb dX6_readLineOf_114 (by decide) ?_
  refine xn_iald hx hb hK hP 1 rfl (by omega) (by omega) dX6_readLineOf_116 ?_
  refine xn_top (y := nI nc) (by exact h16) ?_
  refine xn_imul hx hb dX6_readLineOf_117 ?_
  refine xn_iadd hx hb dX6_readLineOf_118 ?_
  refine lv_istore_n (lv' := [(2, .int (nI (17 + (3 * nc)))), (0, .ref ko), (1, .int (nI 3))]) hx hb dX6_readLineOf_119 rfl hl (by decide) rfl (fun ls hl => ?_)
  refine lv_aload_n hx hb dX6_readLineOf_120 rfl (lv_at hl 1 rfl) ?_
  refine va_get (D := G.1) (ci := 6) (v := .ref (ad 2)) (C := RX6) (T := TX6) (N := 29) hx hb hts hin6 hown hK.1 hP 0 rfl rfl 5 (by decide) (hts (.fieldLink RX6 17 "BackLensesModel" "draft" "[I") (List.mem_of_getElem? (i := 5) rfl)) (fun _ h9 => h9) rfl dX6_readLineOf_121 ?_
  refine lv_iload_n hx hb dX6_readLineOf_124 rfl (lv_at hl 0 rfl) ?_
  refine lv_aload_n hx hb dX6_readLineOf_125 rfl (lv_at hl 1 rfl) ?_
  refine xw_i (As := []) (rest := [.int (nI (17 + (3 * nc))), .ref (ad 2)]) (wr := [iA G (ad 2) 85 D]) ⟨hx, hb, hml, hown, hts⟩ (c_X6_readDay l G ss.heap.size ko ad w h la tp dw dh dl tl tc hc hd ps fr so vl ft wa tr tb (by first | assumption | omega) (by first | assumption | omega) (by first | assumption | omega) (by first | assumption | omega) (by first | assumption | omega)) (cwV 0 hts gX6_readLineOf_X6_readDay rfl rfl rfl (by decide +kernel) ⟨Nat.le_of_ble_eq_true rfl, Nat.le_of_ble_eq_true rfl⟩) hK hP hD hS hA [0, 2] [1] rfl rfl (by decide) (by decide) (by decide) rfl rfl rfl hl.1 rfl (Nat.le_of_ble_eq_true rfl) dX6_readLineOf_126 ⟨Nat.le_of_ble_eq_true rfl, Nat.le_of_ble_eq_true rfl⟩ (fun r126 u H locs hp126 hP hD hS => ?_)
  obtain ⟨ps2_126, fr2_126, so2_126, vl2_126, ft2_126, wa2_126, hd2_126⟩ := u
  try dsimp only at hp126 hP hD
  obtain ⟨rfl, he126⟩ := hp126
  replace hP : xP G [iA G (ad 2) 85 D, oC ko 6 [.ref (ad 0), .ref (ad 1), .int (nI w), .int (nI h), .int (nI la), .ref (ad 2), .int (nI dw), .int (nI dh), .int (nI dl), .int tl, .int tc, .int hc, .int hd2_126, .ref (ad 3), .int (nI tp), .int (nI ps2_126), .int (nI fr2_126), .int (nI so2_126), .int vl2_126, .int (nI ft2_126), .int wa2_126, .ref (ad 4), .ref (ad 5), .ref (ad 6), .ref (ad 7), .ref (ad 8), .ref (ad 9), .ref (ad 10), .int tr], iA G (ad 3) 160 tb] H := hP
  replace hD : va_D (va_A (w_X6_readLineOf_3 G ko ad w h la tp dw dh dl tl tc hc hd ps fr so vl ft wa tr tb D) ss.heap.size) [iA G (ad 2) 85 D, oC ko 6 [.ref (ad 0), .ref (ad 1), .int (nI w), .int (nI h), .int (nI la), .ref (ad 2), .int (nI dw), .int (nI dh), .int (nI dl), .int tl, .int tc, .int hc, .int hd2_126, .ref (ad 3), .int (nI tp), .int (nI ps2_126), .int (nI fr2_126), .int (nI so2_126), .int vl2_126, .int (nI ft2_126), .int wa2_126, .ref (ad 4), .ref (ad 5), .ref (ad 6), .ref (ad 7), .ref (ad 8), .ref (ad 9), .ref (ad 10), .int tr], iA G (ad 3) 160 tb] := hD
  have ho126 : mOk tp (ps2_126, fr2_126, so2_126, vl2_126, ft2_126, wa2_126) := (by have q := (mDay_ok (t := tb) (hd := hd) ho0).1; rw [← he126] at q; exact q)
  have hps126 := ho126.1
  have hft126 := ho126.2.1
  have hso126 := ho126.2.2.1
  have hfr126 := ho126.2.2.2
  replace hps126 : ps2_126 ≤ tp := hps126
  replace hft126 : ft2_126 ≤ 6 := hft126
  replace hso126 : so2_126 ≤ 3 := hso126
  replace hfr126 : fr2_126 ≤ ps2_126 := hfr126
  refine xn_iast hx hb hK hP hD hS 0 rfl (by omega) (by omega) dX6_readLineOf_129 (fun H locs hP hD hS => ?_)
  replace hP : xP G [iA G (ad 2) 85 (upd D (17 + (3 * nc)) ((mDay tb tp hd (ps, fr, so, vl, ft, wa)).1)), oC ko 6 [.ref (ad 0), .ref (ad 1), .int (nI w), .int (nI h), .int (nI la), .ref (ad 2), .int (nI dw), .int (nI dh), .int (nI dl), .int tl, .int tc, .int hc, .int hd2_126, .ref (ad 3), .int (nI tp), .int (nI ps2_126), .int (nI fr2_126), .int (nI so2_126), .int vl2_126, .int (nI ft2_126), .int wa2_126, .ref (ad 4), .ref (ad 5), .ref (ad 6), .ref (ad 7), .ref (ad 8), .ref (ad 9), .ref (ad 10), .int tr], iA G (ad 3) 160 tb] H := hP
  replace hD : va_D (va_A (w_X6_readLineOf_3 G ko ad w h la tp dw dh dl tl tc hc hd ps fr so vl ft wa tr tb D) ss.heap.size) [iA G (ad 2) 85 (upd D (17 + (3 * nc)) ((mDay tb tp hd (ps, fr, so, vl, ft, wa)).1)), oC ko 6 [.ref (ad 0), .ref (ad 1), .int (nI w), .int (nI h), .int (nI la), .ref (ad 2), .int (nI dw), .int (nI dh), .int (nI dl), .int tl, .int tc, .int hc, .int hd2_126, .ref (ad 3), .int (nI tp), .int (nI ps2_126), .int (nI fr2_126), .int (nI so2_126), .int vl2_126, .int (nI ft2_126), .int wa2_126, .ref (ad 4), .ref (ad 5), .ref (ad 6), .ref (ad 7), .ref (ad 8), .ref (ad 9), .ref (ad 10), .int tr], iA G (ad 3) 160 tb] := hD
  refine lv_aload_n hx hb dX6_readLineOf_130 rfl (lv_at hl 1 rfl) ?_
  refine va_get (D := G.1) (ci := 6) (v := .ref (ad 2)) (C := RX6) (T := TX6) (N := 29) hx hb hts hin6 hown hK.1 hP 1 rfl rfl 5 (by decide) (hts (.fieldLink RX6 17 "BackLensesModel" "draft" "[I") (List.mem_of_getElem? (i := 5) rfl)) (fun _ h9 => h9) rfl dX6_readLineOf_131 ?_
  refine lv_iload_n hx hb dX6_readLineOf_134 rfl (lv_at hl 0 rfl) ?_
  refine lv_iconst (v := nI 1) hx hb dX6_readLineOf_135 (by decide) ?_
  refine xn_iadd hx hb dX6_readLineOf_136 ?_
  refine lv_aload_n hx hb dX6_readLineOf_137 rfl (lv_at hl 1 rfl) ?_
  refine lv_iconst (v := nI 0) hx hb dX6_readLineOf_138 (by decide) ?_
  refine xw_i (As := [.int (nI 0)]) (rest := [.int (nI ((17 + (3 * nc)) + 1)), .ref (ad 2)]) (wr := [iA G (ad 2) 85 (upd D (17 + (3 * nc)) ((mDay tb tp hd (ps, fr, so, vl, ft, wa)).1))]) ⟨hx, hb, hml, hown, hts⟩ (c_X6_readCellBut l G H.size ko ad w h la tp dw dh dl tl tc hc hd2_126 ps2_126 fr2_126 so2_126 vl2_126 ft2_126 wa2_126 tr tb (nI 0) (by first | assumption | omega) (by first | assumption | omega) (by first | assumption | omega) (by first | assumption | omega) (by first | assumption | omega)) (cwV 1 hts gX6_readLineOf_X6_readCellBut rfl rfl rfl (by decide +kernel) ⟨Nat.le_of_ble_eq_true rfl, Nat.le_of_ble_eq_true rfl⟩) hK hP hD hS hA [1, 2] [0] rfl rfl (by decide) (by decide) (by decide) rfl rfl rfl hl.1 rfl (Nat.le_of_ble_eq_true rfl) dX6_readLineOf_139 ⟨Nat.le_of_ble_eq_true rfl, Nat.le_of_ble_eq_true rfl⟩ (fun r139 u H locs hp139 hP hD hS => ?_)
  obtain ⟨ps2_139, fr2_139, so2_139, vl2_139, ft2_139, wa2_139, hc2_139⟩ := u
  try dsimp only at hp139 hP hD
  obtain ⟨rfl, he139⟩ := hp139
  replace hP : xP G [iA G (ad 2) 85 (upd D (17 + (3 * nc)) ((mDay tb tp hd (ps, fr, so, vl, ft, wa)).1)), oC ko 6 [.ref (ad 0), .ref (ad 1), .int (nI w), .int (nI h), .int (nI la), .ref (ad 2), .int (nI dw), .int (nI dh), .int (nI dl), .int tl, .int tc, .int hc2_139, .int hd2_126, .ref (ad 3), .int (nI tp), .int (nI ps2_139), .int (nI fr2_139), .int (nI so2_139), .int vl2_139, .int (nI ft2_139), .int wa2_139, .ref (ad 4), .ref (ad 5), .ref (ad 6), .ref (ad 7), .ref (ad 8), .ref (ad 9), .ref (ad 10), .int tr], iA G (ad 3) 160 tb] H := hP
  replace hD : va_D (va_A (w_X6_readLineOf_3 G ko ad w h la tp dw dh dl tl tc hc hd ps fr so vl ft wa tr tb D) ss.heap.size) [iA G (ad 2) 85 (upd D (17 + (3 * nc)) ((mDay tb tp hd (ps, fr, so, vl, ft, wa)).1)), oC ko 6 [.ref (ad 0), .ref (ad 1), .int (nI w), .int (nI h), .int (nI la), .ref (ad 2), .int (nI dw), .int (nI dh), .int (nI dl), .int tl, .int tc, .int hc2_139, .int hd2_126, .ref (ad 3), .int (nI tp), .int (nI ps2_139), .int (nI fr2_139), .int (nI so2_139), .int vl2_139, .int (nI ft2_139), .int wa2_139, .ref (ad 4), .ref (ad 5), .ref (ad 6), .ref (ad 7), .ref (ad 8), .ref (ad 9), .ref (ad 10), .int tr], iA G (ad 3) 160 tb] := hD
  have ho139 : mOk tp (ps2_139, fr2_139, so2_139, vl2_139, ft2_139, wa2_139) := (by have q := (mCel_ok (t := tb) (sm := nI 0) (hc := hc) ho126).1; rw [← he139] at q; exact q)
  have hps139 := ho139.1
  have hft139 := ho139.2.1
  have hso139 := ho139.2.2.1
  have hfr139 := ho139.2.2.2
  replace hps139 : ps2_139 ≤ tp := hps139
  replace hft139 : ft2_139 ≤ 6 := hft139
  replace hso139 : so2_139 ≤ 3 := hso139
  replace hfr139 : fr2_139 ≤ ps2_139 := hfr139
  refine xn_iast hx hb hK hP hD hS 0 rfl (by omega) (by omega) dX6_readLineOf_142 (fun H locs hP hD hS => ?_)
  replace hP : xP G [iA G (ad 2) 85 (upd (upd D (17 + (3 * nc)) ((mDay tb tp hd (ps, fr, so, vl, ft, wa)).1)) ((17 + (3 * nc)) + 1) ((mCel tb tp (nI 0) hc (ps2_126, fr2_126, so2_126, vl2_126, ft2_126, wa2_126)).1)), oC ko 6 [.ref (ad 0), .ref (ad 1), .int (nI w), .int (nI h), .int (nI la), .ref (ad 2), .int (nI dw), .int (nI dh), .int (nI dl), .int tl, .int tc, .int hc2_139, .int hd2_126, .ref (ad 3), .int (nI tp), .int (nI ps2_139), .int (nI fr2_139), .int (nI so2_139), .int vl2_139, .int (nI ft2_139), .int wa2_139, .ref (ad 4), .ref (ad 5), .ref (ad 6), .ref (ad 7), .ref (ad 8), .ref (ad 9), .ref (ad 10), .int tr], iA G (ad 3) 160 tb] H := hP
  replace hD : va_D (va_A (w_X6_readLineOf_3 G ko ad w h la tp dw dh dl tl tc hc hd ps fr so vl ft wa tr tb D) ss.heap.size) [iA G (ad 2) 85 (upd (upd D (17 + (3 * nc)) ((mDay tb tp hd (ps, fr, so, vl, ft, wa)).1)) ((17 + (3 * nc)) + 1) ((mCel tb tp (nI 0) hc (ps2_126, fr2_126, so2_126, vl2_126, ft2_126, wa2_126)).1)), oC ko 6 [.ref (ad 0), .ref (ad 1), .int (nI w), .int (nI h), .int (nI la), .ref (ad 2), .int (nI dw), .int (nI dh), .int (nI dl), .int tl, .int tc, .int hc2_139, .int hd2_126, .ref (ad 3), .int (nI tp), .int (nI ps2_139), .int (nI fr2_139), .int (nI so2_139), .int vl2_139, .int (nI ft2_139), .int wa2_139, .ref (ad 4), .ref (ad 5), .ref (ad 6), .ref (ad 7), .ref (ad 8), .ref (ad 9), .ref (ad 10), .int tr], iA G (ad 3) 160 tb] := hD
  refine lv_aload_n hx hb dX6_readLineOf_143 rfl (lv_at hl 1 rfl) ?_
  refine va_get (D := G.1) (ci := 6) (v := .ref (ad 2)) (C := RX6) (T := TX6) (N := 29) hx hb hts hin6 hown hK.1 hP 1 rfl rfl 5 (by decide) (hts (.fieldLink RX6 17 "BackLensesModel" "draft" "[I") (List.mem_of_getElem? (i := 5) rfl)) (fun _ h9 => h9) rfl dX6_readLineOf_144 ?_
  refine lv_iload_n hx hb dX6_readLineOf_147 rfl (lv_at hl 0 rfl) ?_
  refine lv_iconst (v := nI 2) hx hb dX6_readLineOf_148 (by decide) ?_
  refine xn_iadd hx hb dX6_readLineOf_149 ?_
  refine lv_aload_n hx hb dX6_readLineOf_150 rfl (lv_at hl 1 rfl) ?_
  refine lv_iconst (v := nI 0) hx hb dX6_readLineOf_151 (by decide) ?_
  refine lv_iconst (v := nI 5) hx hb dX6_readLineOf_152 (by decide) ?_
  refine xw_i (As := [.int (nI 0), .int (nI 5)]) (rest := [.int (nI ((17 + (3 * nc)) + 2)), .ref (ad 2)]) (wr := [iA G (ad 2) 85 (upd (upd D (17 + (3 * nc)) ((mDay tb tp hd (ps, fr, so, vl, ft, wa)).1)) ((17 + (3 * nc)) + 1) ((mCel tb tp (nI 0) hc (ps2_126, fr2_126, so2_126, vl2_126, ft2_126, wa2_126)).1))]) ⟨hx, hb, hml, hown, hts⟩ (c_X6_readNumber l G H.size ko ad w h la tp dw dh dl tl tc hc2_139 hd2_126 ps2_139 fr2_139 so2_139 vl2_139 ft2_139 wa2_139 tr tb 0 5 (by first | assumption | omega) (by first | assumption | omega) (by first | assumption | omega) (by first | assumption | omega) (by first | assumption | omega) (by first | assumption | omega) (by first | assumption | omega)) (cwV 2 hts gX6_readLineOf_X6_readNumber rfl rfl rfl (by decide +kernel) ⟨Nat.le_of_ble_eq_true rfl, Nat.le_of_ble_eq_true rfl⟩) hK hP hD hS hA [1, 2] [0] rfl rfl (by decide) (by decide) (by decide) rfl rfl rfl hl.1 rfl (Nat.le_of_ble_eq_true rfl) dX6_readLineOf_153 ⟨Nat.le_of_ble_eq_true rfl, Nat.le_of_ble_eq_true rfl⟩ (fun r153 u H locs hp153 hP hD hS => ?_)
  obtain ⟨ps2_153, fr2_153, so2_153, vl2_153, ft2_153, wa2_153⟩ := u
  try dsimp only at hp153 hP hD
  obtain ⟨rfl, he153⟩ := hp153
  replace hP : xP G [iA G (ad 2) 85 (upd (upd D (17 + (3 * nc)) ((mDay tb tp hd (ps, fr, so, vl, ft, wa)).1)) ((17 + (3 * nc)) + 1) ((mCel tb tp (nI 0) hc (ps2_126, fr2_126, so2_126, vl2_126, ft2_126, wa2_126)).1)), oC ko 6 [.ref (ad 0), .ref (ad 1), .int (nI w), .int (nI h), .int (nI la), .ref (ad 2), .int (nI dw), .int (nI dh), .int (nI dl), .int tl, .int tc, .int hc2_139, .int hd2_126, .ref (ad 3), .int (nI tp), .int (nI ps2_153), .int (nI fr2_153), .int (nI so2_153), .int vl2_153, .int (nI ft2_153), .int wa2_153, .ref (ad 4), .ref (ad 5), .ref (ad 6), .ref (ad 7), .ref (ad 8), .ref (ad 9), .ref (ad 10), .int tr], iA G (ad 3) 160 tb] H := hP
  replace hD : va_D (va_A (w_X6_readLineOf_3 G ko ad w h la tp dw dh dl tl tc hc hd ps fr so vl ft wa tr tb D) ss.heap.size) [iA G (ad 2) 85 (upd (upd D (17 + (3 * nc)) ((mDay tb tp hd (ps, fr, so, vl, ft, wa)).1)) ((17 + (3 * nc)) + 1) ((mCel tb tp (nI 0) hc (ps2_126, fr2_126, so2_126, vl2_126, ft2_126, wa2_126)).1)), oC ko 6 [.ref (ad 0), .ref (ad 1), .int (nI w), .int (nI h), .int (nI la), .ref (ad 2), .int (nI dw), .int (nI dh), .int (nI dl), .int tl, .int tc, .int hc2_139, .int hd2_126, .ref (ad 3), .int (nI tp), .int (nI ps2_153), .int (nI fr2_153), .int (nI so2_153), .int vl2_153, .int (nI ft2_153), .int wa2_153, .ref (ad 4), .ref (ad 5), .ref (ad 6), .ref (ad 7), .ref (ad 8), .ref (ad 9), .ref (ad 10), .int tr], iA G (ad 3) 160 tb] := hD
  have ho153 : mOk tp (ps2_153, fr2_153, so2_153, vl2_153, ft2_153, wa2_153) := (by have q := (mNum_ok (t := tb) (lo := 0) (hi := 5) ho139).1; rw [← he153] at q; exact q)
  have hps153 := ho153.1
  have hft153 := ho153.2.1
  have hso153 := ho153.2.2.1
  have hfr153 := ho153.2.2.2
  replace hps153 : ps2_153 ≤ tp := hps153
  replace hft153 : ft2_153 ≤ 6 := hft153
  replace hso153 : so2_153 ≤ 3 := hso153
  replace hfr153 : fr2_153 ≤ ps2_153 := hfr153
  refine xn_iast hx hb hK hP hD hS 0 rfl (by omega) (by omega) dX6_readLineOf_156 (fun H locs hP hD hS => ?_)
  replace hP : xP G [iA G (ad 2) 85 (upd (upd (upd D (17 + (3 * nc)) ((mDay tb tp hd (ps, fr, so, vl, ft, wa)).1)) ((17 + (3 * nc)) + 1) ((mCel tb tp (nI 0) hc (ps2_126, fr2_126, so2_126, vl2_126, ft2_126, wa2_126)).1)) ((17 + (3 * nc)) + 2) ((mNum tb tp 0 5 (ps2_139, fr2_139, so2_139, vl2_139, ft2_139, wa2_139)).1)), oC ko 6 [.ref (ad 0), .ref (ad 1), .int (nI w), .int (nI h), .int (nI la), .ref (ad 2), .int (nI dw), .int (nI dh), .int (nI dl), .int tl, .int tc, .int hc2_139, .int hd2_126, .ref (ad 3), .int (nI tp), .int (nI ps2_153), .int (nI fr2_153), .int (nI so2_153), .int vl2_153, .int (nI ft2_153), .int wa2_153, .ref (ad 4), .ref (ad 5), .ref (ad 6), .ref (ad 7), .ref (ad 8), .ref (ad 9), .ref (ad 10), .int tr], iA G (ad 3) 160 tb] H := hP
  replace hD : va_D (va_A (w_X6_readLineOf_3 G ko ad w h la tp dw dh dl tl tc hc hd ps fr so vl ft wa tr tb D) ss.heap.size) [iA G (ad 2) 85 (upd (upd (upd D (17 + (3 * nc)) ((mDay tb tp hd (ps, fr, so, vl, ft, wa)).1)) ((17 + (3 * nc)) + 1) ((mCel tb tp (nI 0) hc (ps2_126, fr2_126, so2_126, vl2_126, ft2_126, wa2_126)).1)) ((17 + (3 * nc)) + 2) ((mNum tb tp 0 5 (ps2_139, fr2_139, so2_139, vl2_139, ft2_139, wa2_139)).1)), oC ko 6 [.ref (ad 0), .ref (ad 1), .int (nI w), .int (nI h), .int (nI la), .ref (ad 2), .int (nI dw), .int (nI dh), .int (nI dl), .int tl, .int tc, .int hc2_139, .int hd2_126, .ref (ad 3), .int (nI tp), .int (nI ps2_153), .int (nI fr2_153), .int (nI so2_153), .int vl2_153, .int (nI ft2_153), .int wa2_153, .ref (ad 4), .ref (ad 5), .ref (ad 6), .ref (ad 7), .ref (ad 8), .ref (ad 9), .ref (ad 10), .int tr], iA G (ad 3) 160 tb] := hD
  refine lv_aload_n hx hb dX6_readLineOf_157 rfl (lv_at hl 1 rfl) ?_
  refine va_get (D := G.1) (ci := 6) (v := .ref (ad 2)) (C := RX6) (T := TX6) (N := 29) hx hb hts hin6 hown hK.1 hP 1 rfl rfl 5 (by decide) (hts (.fieldLink RX6 17 "BackLensesModel" "draft" "[I") (List.mem_of_getElem? (i := 5) rfl)) (fun _ h9 => h9) rfl dX6_readLineOf_158 ?_
  refine lv_bipush (v := nI 16) hx hb dX6_readLineOf_161 (by decide) ?_
  refine lv_dup2_11 hx hb dX6_readLineOf_163 rfl rfl ?_
  refine xn_iald hx hb hK hP 0 rfl (by omega) (by omega) dX6_readLineOf_164 ?_
  refine xn_top (y := nI nc) (by rw [upd_ne (by omega), upd_ne (by omega), upd_ne (by omega)]; exact h16) ?_
  refine lv_iconst (v := nI 1) hx hb dX6_readLineOf_165 (by decide) ?_
  refine xn_iadd hx hb dX6_readLineOf_166 ?_
  refine xn_iast hx hb hK hP hD hS 0 rfl (by omega) (by omega) dX6_readLineOf_167 (fun H locs hP hD hS => ?_)
  replace hP : xP G [iA G (ad 2) 85 (upd (upd (upd (upd D (17 + (3 * nc)) ((mDay tb tp hd (ps, fr, so, vl, ft, wa)).1)) ((17 + (3 * nc)) + 1) ((mCel tb tp (nI 0) hc (ps2_126, fr2_126, so2_126, vl2_126, ft2_126, wa2_126)).1)) ((17 + (3 * nc)) + 2) ((mNum tb tp 0 5 (ps2_139, fr2_139, so2_139, vl2_139, ft2_139, wa2_139)).1)) 16 (nI (nc + 1))), oC ko 6 [.ref (ad 0), .ref (ad 1), .int (nI w), .int (nI h), .int (nI la), .ref (ad 2), .int (nI dw), .int (nI dh), .int (nI dl), .int tl, .int tc, .int hc2_139, .int hd2_126, .ref (ad 3), .int (nI tp), .int (nI ps2_153), .int (nI fr2_153), .int (nI so2_153), .int vl2_153, .int (nI ft2_153), .int wa2_153, .ref (ad 4), .ref (ad 5), .ref (ad 6), .ref (ad 7), .ref (ad 8), .ref (ad 9), .ref (ad 10), .int tr], iA G (ad 3) 160 tb] H := hP
  replace hD : va_D (va_A (w_X6_readLineOf_3 G ko ad w h la tp dw dh dl tl tc hc hd ps fr so vl ft wa tr tb D) ss.heap.size) [iA G (ad 2) 85 (upd (upd (upd (upd D (17 + (3 * nc)) ((mDay tb tp hd (ps, fr, so, vl, ft, wa)).1)) ((17 + (3 * nc)) + 1) ((mCel tb tp (nI 0) hc (ps2_126, fr2_126, so2_126, vl2_126, ft2_126, wa2_126)).1)) ((17 + (3 * nc)) + 2) ((mNum tb tp 0 5 (ps2_139, fr2_139, so2_139, vl2_139, ft2_139, wa2_139)).1)) 16 (nI (nc + 1))), oC ko 6 [.ref (ad 0), .ref (ad 1), .int (nI w), .int (nI h), .int (nI la), .ref (ad 2), .int (nI dw), .int (nI dh), .int (nI dl), .int tl, .int tc, .int hc2_139, .int hd2_126, .ref (ad 3), .int (nI tp), .int (nI ps2_153), .int (nI fr2_153), .int (nI so2_153), .int vl2_153, .int (nI ft2_153), .int wa2_153, .ref (ad 4), .ref (ad 5), .ref (ad 6), .ref (ad 7), .ref (ad 8), .ref (ad 9), .ref (ad 10), .int tr], iA G (ad 3) 160 tb] := hD
  refine lv_goto (tgt := 175) hx hb dX6_readLineOf_168 rfl ?_
  have hP := hP.sub (ws' := [oC ko 6 [.ref (ad 0), .ref (ad 1), .int (nI w), .int (nI h), .int (nI la), .ref (ad 2), .int (nI dw), .int (nI dh), .int (nI dl), .int tl, .int tc, .int hc2_139, .int hd2_126, .ref (ad 3), .int (nI tp), .int (nI ps2_153), .int (nI fr2_153), .int (nI so2_153), .int vl2_153, .int (nI ft2_153), .int wa2_153, .ref (ad 4), .ref (ad 5), .ref (ad 6), .ref (ad 7), .ref (ad 8), .ref (ad 9), .ref (ad 10), .int tr], iA G (ad 2) 85 (upd (upd (upd (upd D (17 + (3 * nc)) ((mDay tb tp hd (ps, fr, so, vl, ft, wa)).1)) ((17 + (3 * nc)) + 1) ((mCel tb tp (nI 0) hc (ps2_126, fr2_126, so2_126, vl2_126, ft2_126, wa2_126)).1)) ((17 + (3 * nc)) + 2) ((mNum tb tp 0 5 (ps2_139, fr2_139, so2_139, vl2_139, ft2_139, wa2_139)).1)) 16 (nI (nc + 1))), iA G (ad 3) 160 tb]) [1, 0, 2] rfl
  have hD := hD.sub (ws' := [oC ko 6 [.ref (ad 0), .ref (ad 1), .int (nI w), .int (nI h), .int (nI la), .ref (ad 2), .int (nI dw), .int (nI dh), .int (nI dl), .int tl, .int tc, .int hc2_139, .int hd2_126, .ref (ad 3), .int (nI tp), .int (nI ps2_153), .int (nI fr2_153), .int (nI so2_153), .int vl2_153, .int (nI ft2_153), .int wa2_153, .ref (ad 4), .ref (ad 5), .ref (ad 6), .ref (ad 7), .ref (ad 8), .ref (ad 9), .ref (ad 10), .int tr], iA G (ad 2) 85 (upd (upd (upd (upd D (17 + (3 * nc)) ((mDay tb tp hd (ps, fr, so, vl, ft, wa)).1)) ((17 + (3 * nc)) + 1) ((mCel tb tp (nI 0) hc (ps2_126, fr2_126, so2_126, vl2_126, ft2_126, wa2_126)).1)) ((17 + (3 * nc)) + 2) ((mNum tb tp 0 5 (ps2_139, fr2_139, so2_139, vl2_139, ft2_139, wa2_139)).1)) 16 (nI (nc + 1))), iA G (ad 3) 160 tb]) [1, 0, 2] (by decide) rfl
  refine W.vret hx hb hr (fun t ht hW => ⟨⟨(ps2_153, fr2_153, so2_153, vl2_153, ft2_153, wa2_153, hc2_139, hd2_126, upd (upd (upd (upd D (17 + (3 * nc)) ((mDay tb tp hd (ps, fr, so, vl, ft, wa)).1)) ((17 + (3 * nc)) + 1) ((mCel tb tp (nI 0) hc (ps2_126, fr2_126, so2_126, vl2_126, ft2_126, wa2_126)).1)) ((17 + (3 * nc)) + 2) ((mNum tb tp 0 5 (ps2_139, fr2_139, so2_139, vl2_139, ft2_139, wa2_139)).1)) 16 (nI (nc + 1))), rfl, ?_, by rw [ht]; exact hP, hD⟩, hS.F ht⟩) hS.2.2 dX6_readLineOf_175
  try dsimp only
  have e1 : vI (D 16) = nc := (congrArg vI h16).trans (vI_nI (by omega)); have e2 : (mDay tb tp hd (ps, fr, so, vl, ft, wa)).2 = (hd2_126, (ps2_126, fr2_126, so2_126, vl2_126, ft2_126, wa2_126)) := he126.symm; have e3 : (mCel tb tp (nI 0) hc (ps2_126, fr2_126, so2_126, vl2_126, ft2_126, wa2_126)).2 = (hc2_139, (ps2_139, fr2_139, so2_139, vl2_139, ft2_139, wa2_139)) := he139.symm; show _ = mL3 tb tp ((ps, fr, so, vl, ft, wa), (dw, dh, dl), (tl, tc, hc, hd), D); unfold mL3 mvA mcA mdA; dsimp only; rw [e1, e2]; dsimp only; rw [e3]; dsimp only; rw [← he153]

abbrev w_X6_readLineOf_4 (G : XG) (ko : Nat) (ad : Nat → Nat) (w h la tp : Nat) (dw dh dl : Nat) (tl tc hc hd : Int32) (ps fr so : Nat) (vl : Int32) (ft : Nat) (wa tr : Int32) (tb D : Nat → Int32) : va_W := [oC ko 6 [.ref (ad 0), .ref (ad 1), .int (nI w), .int (nI h), .int (nI la), .ref (ad 2), .int (nI dw), .int (nI dh), .int (nI dl), .int tl, .int tc, .int hc, .int hd, .ref (ad 3), .int (nI tp), .int (nI ps), .int (nI fr), .int (nI so), .int vl, .int (nI ft), .int wa, .ref (ad 4), .ref (ad 5), .ref (ad 6), .ref (ad 7), .ref (ad 8), .ref (ad 9), .ref (ad 10), .int tr], iA G (ad 2) 85 D, iA G (ad 3) 160 tb]
abbrev Q_X6_readLineOf_4 (G : XG) (sz : Nat) (ko : Nat) (ad : Nat → Nat) (w h la tp : Nat) (dw dh dl : Nat) (tl tc hc hd : Int32) (ps fr so : Nat) (vl : Int32) (ft : Nat) (wa tr : Int32) (tb D : Nat → Int32) : Array Value → State → Outcome → State → Prop := (va_Qv (fun (u : Nat × Nat × Nat × Int32 × Nat × Int32 × Int32 × Int32 × (Nat → Int32)) => ((u.1, u.2.1, u.2.2.1, u.2.2.2.1, u.2.2.2.2.1, u.2.2.2.2.2.1), (dw, dh, dl), (tl, tc, u.2.2.2.2.2.2.1, u.2.2.2.2.2.2.2.1), u.2.2.2.2.2.2.2.2) = mLof tb tp 4 ((ps, fr, so, vl, ft, wa), (dw, dh, dl), (tl, tc, hc, hd), D)) (xWb G sz (w_X6_readLineOf_4 G ko ad w h la tp dw dh dl tl tc hc hd ps fr so vl ft wa tr tb D) (fun u : Nat × Nat × Nat × Int32 × Nat × Int32 × Int32 × Int32 × (Nat → Int32) => [oC ko 6 [.ref (ad 0), .ref (ad 1), .int (nI w), .int (nI h), .int (nI la), .ref (ad 2), .int (nI dw), .int (nI dh), .int (nI dl), .int tl, .int tc, .int u.2.2.2.2.2.2.1, .int u.2.2.2.2.2.2.2.1, .ref (ad 3), .int (nI tp), .int (nI u.1), .int (nI u.2.1), .int (nI u.2.2.1), .int u.2.2.2.1, .int (nI u.2.2.2.2.1), .int u.2.2.2.2.2.1, .ref (ad 4), .ref (ad 5), .ref (ad 6), .ref (ad 7), .ref (ad 8), .ref (ad 9), .ref (ad 10), .int tr], iA G (ad 2) 85 u.2.2.2.2.2.2.2.2, iA G (ad 3) 160 tb])) (va_A (w_X6_readLineOf_4 G ko ad w h la tp dw dh dl tl tc hc hd ps fr so vl ft wa tr tb D) sz))
set_option maxHeartbeats 4000000 in
set_option maxRecDepth 100000 in
theorem c_X6_readLineOf_4 (l : Launch) (G : XG) (sz : Nat) (ko : Nat) (ad : Nat → Nat) (w h la tp : Nat) (dw dh dl : Nat) (tl tc hc hd : Int32) (ps fr so : Nat) (vl : Int32) (ft : Nat) (wa tr : Int32) (tb D : Nat → Int32) (htp : tp ≤ 160) (hps : ps ≤ tp) (htk : tpOk tb tp) (hft : ft ≤ 6) (hso : so ≤ 3) (hfr : fr ≤ ps) (hD47 : inR (D 47) 6) : Met l yX6_readLineOf wsX6_readLineOf ({ frames := 4, cells := 0, slots := 0, locals := 91 } : Room) (va_Pc [.ref ko, .int (nI 4)] (xWp G sz (w_X6_readLineOf_4 G ko ad w h la tp dw dh dl tl tc hc hd ps fr so vl ft wa tr tb D))) (Q_X6_readLineOf_4 G sz ko ad w h la tp dw dh dl tl tc hc hd ps fr so vl ft wa tr tb D) 0 0 (va_A (w_X6_readLineOf_4 G ko ad w h la tp dw dh dl tl tc hc hd ps fr so vl ft wa tr tb D) sz) := by
  refine Met.ofW (cc := cX6_readLineOf) (maxL := 3) (ret := none) (by decide) rfl ?_
  intro pp ee ss mm aa below mt cd s₁ BB hml hv
  obtain ⟨rfl, hsz, hP, hK, hD0⟩ := hv
  have hx := BB.exec
  have hb := BB.bytes
  have hr := BB.returns
  have hts := atoms_spec (ws := wsX6_readLineOf) BB.pre
  have hown : ss.vm.findClass RX6 = some mm.cls := findClass_of_methodNamed BB.named
  have hlocks := BB.notSynchronized
  subst hsz
  have hD := hD0.self (sz := ss.heap.size)
  have hA : ∀ q : Nat, ss.heap.size ≤ q → va_A (w_X6_readLineOf_4 G ko ad w h la tp dw dh dl tl tc hc hd ps fr so vl ft wa tr tb D) ss.heap.size q := fun q h => Or.inr h
  have hS : va_S (va_A (w_X6_readLineOf_4 G ko ad w h la tp dw dh dl tl tc hc hd ps fr so vl ft wa tr tb D) ss.heap.size) ss.heap ss.heap [] := va_S.rf
  replace hD : va_D (va_A (w_X6_readLineOf_4 G ko ad w h la tp dw dh dl tl tc hc hd ps fr so vl ft wa tr tb D) ss.heap.size) [oC ko 6 [.ref (ad 0), .ref (ad 1), .int (nI w), .int (nI h), .int (nI la), .ref (ad 2), .int (nI dw), .int (nI dh), .int (nI dl), .int tl, .int tc, .int hc, .int hd, .ref (ad 3), .int (nI tp), .int (nI ps), .int (nI fr), .int (nI so), .int vl, .int (nI ft), .int wa, .ref (ad 4), .ref (ad 5), .ref (ad 6), .ref (ad 7), .ref (ad 8), .ref (ad 9), .ref (ad 10), .int tr], iA G (ad 2) 85 D, iA G (ad 3) 160 tb] := hD
  replace hP : xP G [oC ko 6 [.ref (ad 0), .ref (ad 1), .int (nI w), .int (nI h), .int (nI la), .ref (ad 2), .int (nI dw), .int (nI dh), .int (nI dl), .int tl, .int tc, .int hc, .int hd, .ref (ad 3), .int (nI tp), .int (nI ps), .int (nI fr), .int (nI so), .int vl, .int (nI ft), .int wa, .ref (ad 4), .ref (ad 5), .ref (ad 6), .ref (ad 7), .ref (ad 8), .ref (ad 9), .ref (ad 10), .int tr], iA G (ad 2) 85 D, iA G (ad 3) 160 tb] ss.heap := hP
  have hin6 : ∀ w ∈ u_ws RX6 TX6 29, w ∈ wsX6_readLineOf := fun w h => List.mem_cons_of_mem _ (List.mem_append_right _ h)
  have hl := lv_entry ([.ref ko, .int (nI 4)]) (n := 3) (Nat.le_of_ble_eq_true rfl)
  rw [lg_entry_eq]
  generalize (lg_sl ([.ref ko, .int (nI 4)]) ++ List.replicate (3 - (lg_sl ([.ref ko, .int (nI 4)])).length) Slot.unset).toArray = ls at hl ⊢
  replace hl : lv_has ls 3 [(0, .ref ko), (1, .int (nI 4))] := hl
  refine lv_iload_n hx hb dX6_readLineOf_0 rfl (lv_at hl 1 rfl) ?_
  refine lv_tableOut (tgt := 171) hx hb dX6_readLineOf_1 (Or.inr (by decide)) rfl ?_
  refine lv_aload_n hx hb dX6_readLineOf_171 rfl (lv_at hl 0 rfl) ?_
  refine xw_v (As := []) (rest := []) (wr := []) ⟨hx, hb, hml, hown, hts⟩ (c_X6_readLens l G ss.heap.size ko ad w h la tp dw dh dl tl tc hc hd ps fr so vl ft wa tr tb D (by first | assumption | omega) (by first | assumption | omega) (by first | assumption | omega) (by first | assumption | omega) (by first | assumption | omega) (by first | assumption | omega) (by first | assumption | omega)) (cwV 0 hts gX6_readLineOf_X6_readLens rfl rfl rfl (by decide +kernel) ⟨Nat.le_of_ble_eq_true rfl, Nat.le_of_ble_eq_true rfl⟩) hK hP hD hS hA [0, 1, 2] [] rfl rfl (by decide) (by decide) (by decide) rfl rfl rfl hl.1 rfl (Nat.le_of_ble_eq_true rfl) dX6_readLineOf_172 ⟨Nat.le_of_ble_eq_true rfl, Nat.le_of_ble_eq_true rfl⟩ (fun u H locs hp172 hP hD hS => ?_)
  obtain ⟨ps2_172, fr2_172, so2_172, vl2_172, ft2_172, wa2_172, hc2_172, hd2_172, D2_172⟩ := u
  try dsimp only at hp172 hP hD
  have he172 := hp172
  replace hP : xP G [oC ko 6 [.ref (ad 0), .ref (ad 1), .int (nI w), .int (nI h), .int (nI la), .ref (ad 2), .int (nI dw), .int (nI dh), .int (nI dl), .int tl, .int tc, .int hc2_172, .int hd2_172, .ref (ad 3), .int (nI tp), .int (nI ps2_172), .int (nI fr2_172), .int (nI so2_172), .int vl2_172, .int (nI ft2_172), .int wa2_172, .ref (ad 4), .ref (ad 5), .ref (ad 6), .ref (ad 7), .ref (ad 8), .ref (ad 9), .ref (ad 10), .int tr], iA G (ad 2) 85 D2_172, iA G (ad 3) 160 tb] H := hP
  replace hD : va_D (va_A (w_X6_readLineOf_4 G ko ad w h la tp dw dh dl tl tc hc hd ps fr so vl ft wa tr tb D) ss.heap.size) [oC ko 6 [.ref (ad 0), .ref (ad 1), .int (nI w), .int (nI h), .int (nI la), .ref (ad 2), .int (nI dw), .int (nI dh), .int (nI dl), .int tl, .int tc, .int hc2_172, .int hd2_172, .ref (ad 3), .int (nI tp), .int (nI ps2_172), .int (nI fr2_172), .int (nI so2_172), .int vl2_172, .int (nI ft2_172), .int wa2_172, .ref (ad 4), .ref (ad 5), .ref (ad 6), .ref (ad 7), .ref (ad 8), .ref (ad 9), .ref (ad 10), .int tr], iA G (ad 2) 85 D2_172, iA G (ad 3) 160 tb] := hD
  have hP := hP.sub (ws' := [oC ko 6 [.ref (ad 0), .ref (ad 1), .int (nI w), .int (nI h), .int (nI la), .ref (ad 2), .int (nI dw), .int (nI dh), .int (nI dl), .int tl, .int tc, .int hc2_172, .int hd2_172, .ref (ad 3), .int (nI tp), .int (nI ps2_172), .int (nI fr2_172), .int (nI so2_172), .int vl2_172, .int (nI ft2_172), .int wa2_172, .ref (ad 4), .ref (ad 5), .ref (ad 6), .ref (ad 7), .ref (ad 8), .ref (ad 9), .ref (ad 10), .int tr], iA G (ad 2) 85 D2_172, iA G (ad 3) 160 tb]) [0, 1, 2] rfl
  have hD := hD.sub (ws' := [oC ko 6 [.ref (ad 0), .ref (ad 1), .int (nI w), .int (nI h), .int (nI la), .ref (ad 2), .int (nI dw), .int (nI dh), .int (nI dl), .int tl, .int tc, .int hc2_172, .int hd2_172, .ref (ad 3), .int (nI tp), .int (nI ps2_172), .int (nI fr2_172), .int (nI so2_172), .int vl2_172, .int (nI ft2_172), .int wa2_172, .ref (ad 4), .ref (ad 5), .ref (ad 6), .ref (ad 7), .ref (ad 8), .ref (ad 9), .ref (ad 10), .int tr], iA G (ad 2) 85 D2_172, iA G (ad 3) 160 tb]) [0, 1, 2] (by decide) rfl
  refine W.vret hx hb hr (fun t ht hW => ⟨⟨(ps2_172, fr2_172, so2_172, vl2_172, ft2_172, wa2_172, hc2_172, hd2_172, D2_172), rfl, ?_, by rw [ht]; exact hP, hD⟩, hS.F ht⟩) hS.2.2 dX6_readLineOf_175
  try dsimp only
  show _ = mL4 tb tp ((ps, fr, so, vl, ft, wa), (dw, dh, dl), (tl, tc, hc, hd), D); unfold mL4; dsimp only; rw [← he172]
end
section
def mEnd (s : MS) : MS := if s.2.2.2.2.1 = 0 then (if s.2.2.1 = 3 then s else mF 2 s) else s
def mGo (t : Nat → Int32) (rl k : Nat) (x : XS) : XS :=
  if (mTok t rl x.1).2.2.2.2.1 = 0 then (mTok t rl (mEnd (mLof t rl k (mTok t rl x.1, x.2)).1), (mLof t rl k (mTok t rl x.1, x.2)).2) else (mTok t rl x.1, x.2)
theorem mGo_0 {t : Nat → Int32} {rl k : Nat} {x : XS} {a : MS} (he : a = mTok t rl x.1) (h : ¬ a.2.2.2.2.1 = 0) : mGo t rl k x = (a, x.2) := by
  subst he; exact if_neg h
theorem mGo_1 {t : Nat → Int32} {rl k : Nat} {x y : XS} {a b c : MS} (he : a = mTok t rl x.1) (h : a.2.2.2.2.1 = 0) (hy : y = mLof t rl k (a, x.2)) (hb : b = mEnd y.1) (hc : c = mTok t rl b) : mGo t rl k x = (c, y.2) := by
  subst he hc hb hy; exact if_pos h
abbrev mKd (t : Nat → Int32) (rl : Nat) (s : MS) : Int32 := if s.2.2.1 = 1 then mNow t rl s.1 s.2.1 else (-4)
abbrev xTl (x : XS) (tl : Int32) : XS := (x.1, x.2.1, (tl, x.2.2.1.2), x.2.2.2)
def mLk (t : Nat → Int32) (rl k : Nat) (x : XS) : XS :=
  if (k = 3 ∧ 10 ≤ vI (x.2.2.2 16)) ∨ (k = 4 ∧ 6 ≤ vI (x.2.2.2 47)) then (mF 5 x.1, x.2)
  else if k ≤ 1 then (if tdB x.2.2.1.1 k = nI 0 then mGo t rl k (xTl x (orB x.2.2.1.1 k)) else (mF 4 x.1, (xTl x (orB x.2.2.1.1 k)).2))
  else mGo t rl k x
def mLine (t : Nat → Int32) (rl : Nat) (x : XS) : XS := if mKd t rl x.1 = (-4) then (mF 2 x.1, x.2) else mLk t rl (vI (mKd t rl x.1)) x
theorem mLine_k {t : Nat → Int32} {rl j : Nat} {x : XS} (hj : j < 5) (hK : mKd t rl x.1 = nI j) : mLine t rl x = mLk t rl j x := by
  unfold mLine
  rw [hK, vI_nI (by omega)]
  refine if_neg (fun q => ?_)
  have h1 := congrArg Int32.toInt q
  rw [nI_toInt (by omega)] at h1
  have h2 : (-4 : Int32).toInt = -4 := by decide
  omega
theorem mL0_ok {t : Nat → Int32} {rl : Nat} {x : XS} (h : mOk rl x.1) : mOk rl (mL0 t rl x).1 ∧ x.1.1 ≤ (mL0 t rl x).1.1 := by
  have h1 := mNum_ok (t := t) (lo := 2) (hi := 4) h
  have h2 := mNum_ok (t := t) (lo := 2) (hi := 4) h1.1
  exact ⟨h2.1, Nat.le_trans h1.2 h2.2⟩
theorem mL1_ok {t : Nat → Int32} {rl : Nat} {x : XS} (h : mOk rl x.1) : mOk rl (mL1 t rl x).1 ∧ x.1.1 ≤ (mL1 t rl x).1.1 := mNum_ok h
theorem mL2_ok {t : Nat → Int32} {rl : Nat} {x : XS} (h : mOk rl x.1) : mOk rl (mL2 t rl x).1 ∧ x.1.1 ≤ (mL2 t rl x).1.1 := by
  have h1 := mCel_ok (t := t) (sm := x.2.2.1.2.1) (hc := x.2.2.1.2.2.1) h
  have h2 := mNum_ok (t := t) (lo := 0) (hi := 5) h1.1
  exact ⟨h2.1, Nat.le_trans h1.2.1 h2.2⟩
theorem mL3_ok {t : Nat → Int32} {rl : Nat} {x : XS} (h : mOk rl x.1) : mOk rl (mL3 t rl x).1 ∧ x.1.1 ≤ (mL3 t rl x).1.1 := by
  have h0 : mOk rl (mdA t rl x).2.2 ∧ x.1.1 ≤ (mdA t rl x).2.2.1 := mDay_ok h
  generalize hd : mdA t rl x = d at h0
  have h1 : mOk rl (mCel t rl (nI 0) x.2.2.1.2.2.1 d.2.2).2.2 ∧ d.2.2.1 ≤ (mCel t rl (nI 0) x.2.2.1.2.2.1 d.2.2).2.2.1 := ⟨(mCel_ok h0.1).1, (mCel_ok h0.1).2.1⟩
  have e1 : mcA t rl x = mCel t rl (nI 0) x.2.2.1.2.2.1 d.2.2 := by rw [← hd]
  rw [← e1] at h1
  generalize hc : mcA t rl x = c at h1
  have h2 : mOk rl (mNum t rl 0 5 c.2.2).2 ∧ c.2.2.1 ≤ (mNum t rl 0 5 c.2.2).2.1 := mNum_ok h1.1
  have e2 : mvA t rl x = mNum t rl 0 5 c.2.2 := by rw [← hc]
  rw [← e2] at h2
  have e3 : (mL3 t rl x).1 = (mvA t rl x).2 := by unfold mL3; dsimp only
  rw [e3]
  exact ⟨h2.1, Nat.le_trans h0.2 (Nat.le_trans h1.2 h2.2)⟩
theorem mL4_ok {t : Nat → Int32} {rl : Nat} {x : XS} (h : mOk rl x.1) : mOk rl (mL4 t rl x).1 ∧ x.1.1 ≤ (mL4 t rl x).1.1 := mLens_ok (D := x.2.2.2) h
theorem mLof_ok {t : Nat → Int32} {rl k : Nat} {x : XS} (h : mOk rl x.1) : mOk rl (mLof t rl k x).1 ∧ x.1.1 ≤ (mLof t rl k x).1.1 := by
  match k with
  | 0 => exact mL0_ok h
  | 1 => exact mL1_ok h
  | 2 => exact mL2_ok h
  | 3 => exact mL3_ok h
  | _ + 4 => exact mL4_ok h
theorem mTok_ok0 {t : Nat → Int32} {rl : Nat} {s : MS} (h : s.1 ≤ rl) (h0 : s.2.2.2.2.1 = 0) : mOk rl (mTok t rl s) := by
  have h1 : ruE isSp t rl s.1 ≤ rl := ruF_le _ _ h
  rw [show mTok t rl s = mTk t rl (ruE isSp t rl s.1) s from if_pos h0]
  generalize ruE isSp t rl s.1 = q at *
  unfold mTk
  have h6 : s.2.2.2.2.1 ≤ 6 := by omega
  split
  · exact ⟨h1, h6, (show 0 ≤ 3 by omega), Nat.le_refl _⟩
  · split
    · exact ⟨ruF_le _ _ h1, h6, (show 1 ≤ 3 by omega), ruF_ge _ _⟩
    · split
      · split
        · exact ⟨ruF_le _ _ h1, h6, (show 2 ≤ 3 by omega), ruF_ge _ _⟩
        · exact ⟨ruF_le _ _ h1, (show 1 ≤ 6 by omega), (show 2 ≤ 3 by omega), ruF_ge _ _⟩
      · split
        · exact ⟨(show q + 1 ≤ rl by omega), h6, (show 3 ≤ 3 by omega), (show q ≤ q + 1 by omega)⟩
        · exact ⟨(show q + 1 ≤ rl by omega), (show 1 ≤ 6 by omega), (show 3 ≤ 3 by omega), (show q ≤ q + 1 by omega)⟩
theorem mEnd_ok {rl : Nat} {s : MS} (h : mOk rl s) : mOk rl (mEnd s) ∧ (mEnd s).1 = s.1 := by
  unfold mEnd
  split
  · split
    · exact ⟨h, rfl⟩
    · exact ⟨mF_ok (by omega) h, rfl⟩
  · exact ⟨h, rfl⟩
abbrev xRest (d : Nat × Nat × Nat) (D : Nat → Int32) : Prop := (d.1 ≤ 4 ∧ d.2.1 ≤ 4 ∧ d.2.2 ≤ 9) ∧ inR (D 16) 11 ∧ inR (D 47) 7
def xOk (rl : Nat) (x : XS) : Prop := mOk rl x.1 ∧ xRest x.2.1 x.2.2.2
theorem vI_le {lo hi : Nat} {s : MS} (hh : hi < 1000) : vI (mLoo lo hi s).1 ≤ hi := by
  obtain ⟨k, hk, e⟩ := mLoo_val (lo := lo) (s := s) hh
  rw [e, vI_nI (by omega)]; exact hk
theorem mLof_rest {t : Nat → Int32} {rl k : Nat} {x : XS} (h : xRest x.2.1 x.2.2.2) (h3 : k = 3 → vI (x.2.2.2 16) < 10) (h4 : 4 ≤ k → vI (x.2.2.2 47) < 6) : xRest (mLof t rl k x).2.1 (mLof t rl k x).2.2.2 := by
  match k, h3, h4 with
  | 0, h3, h4 =>
    have e : (mLof t rl 0 x).2 = ((vI (mNum t rl 2 4 x.1).1, vI (mNum t rl 2 4 (mNum t rl 2 4 x.1).2).1, x.2.1.2.2), x.2.2) := by rw [mLof, mL0]
    rw [e]
    exact ⟨⟨vI_le (by omega), vI_le (by omega), h.1.2.2⟩, h.2⟩
  | 1, h3, h4 =>
    have e : (mLof t rl 1 x).2 = ((x.2.1.1, x.2.1.2.1, vI (mNum t rl 0 9 x.1).1), x.2.2) := by rw [mLof, mL1]
    rw [e]
    exact ⟨⟨h.1.1, h.1.2.1, vI_le (by omega)⟩, h.2⟩
  | 2, h3, h4 =>
    have hv : vI (mCel t rl x.2.2.1.2.1 x.2.2.1.2.2.1 x.1).1 ≤ 15 := vI_le (by omega)
    refine ⟨?_, ?_⟩
    · have e : (mLof t rl 2 x).2.1 = x.2.1 := by rw [mLof, mL2]
      rw [e]; exact h.1
    · have e : (mLof t rl 2 x).2.2.2 = upd x.2.2.2 (vI (mCel t rl x.2.2.1.2.1 x.2.2.1.2.2.1 x.1).1) (mNum t rl 0 5 (mCel t rl x.2.2.1.2.1 x.2.2.1.2.2.1 x.1).2.2).1 := by rw [mLof, mL2]
      rw [e, upd_ne (by omega), upd_ne (by omega)]; exact h.2
  | 3, h3, h4 =>
    have h9 := h3 rfl
    refine ⟨?_, ?_⟩
    · have e : (mLof t rl 3 x).2.1 = x.2.1 := by rw [mLof, mL3]
      rw [e]; exact h.1
    · have e : (mLof t rl 3 x).2.2.2 = upd (upd (upd (upd x.2.2.2 (17 + 3 * vI (x.2.2.2 16)) (mdA t rl x).1) (17 + 3 * vI (x.2.2.2 16) + 1) (mcA t rl x).1) (17 + 3 * vI (x.2.2.2 16) + 2) (mvA t rl x).1) 16 (nI (vI (x.2.2.2 16) + 1)) := by rw [mLof, mL3]
      rw [e, upd_eq, upd_ne (by omega), upd_ne (by omega), upd_ne (by omega), upd_ne (by omega)]
      exact ⟨inR_nI (by omega) (by omega), h.2.2⟩
  | k + 4, h3, h4 =>
    have h9 := h4 (by omega)
    refine ⟨?_, ?_⟩
    · have e : (mLof t rl (k + 4) x).2.1 = x.2.1 := (show (mL4 t rl x).2.1 = x.2.1 by rw [mL4])
      rw [e]; exact h.1
    · have e : (mLof t rl (k + 4) x).2.2.2 = (mLens t rl x.2.2.1.2.2.1 x.2.2.1.2.2.2 x.2.2.2 x.1).2.2.2 := rfl
      rw [e]
      have e2 : (mLens t rl x.2.2.1.2.2.1 x.2.2.1.2.2.2 x.2.2.2 x.1).2.2.2 = upd (upd (upd x.2.2.2 (48 + 2 * vI (x.2.2.2 47)) (mDay t rl x.2.2.1.2.2.2 x.1).1) (48 + 2 * vI (x.2.2.2 47) + 1) (mBl t rl (rl + 2) (nI 0) x.2.2.1.2.2.1 (mDay t rl x.2.2.1.2.2.2 x.1).2.2).1) 47 (nI (vI (x.2.2.2 47) + 1)) := by rw [mLens]
      rw [e2, upd_eq, upd_ne (by omega), upd_ne (by omega), upd_ne (by omega)]
      exact ⟨h.2.1, inR_nI (by omega) (by omega)⟩
theorem mGo_ok {t : Nat → Int32} {rl k : Nat} {x : XS} (h : xOk rl x) (h3 : k = 3 → vI (x.2.2.2 16) < 10) (h4 : 4 ≤ k → vI (x.2.2.2 47) < 6) : xOk rl (mGo t rl k x) ∧ ((mGo t rl k x).1.2.2.2.2.1 = 0 → ¬ (mGo t rl k x).1.2.2.1 = 0 → x.1.1 + 1 ≤ (mGo t rl k x).1.1) := by
  have h1 := mTok_ok (t := t) h.1
  unfold mGo
  split
  · have h2 := mLof_ok (t := t) (k := k) (x := (mTok t rl x.1, x.2)) h1
    have h5 := mLof_rest (t := t) (rl := rl) (k := k) (x := (mTok t rl x.1, x.2)) h.2 h3 h4
    have h6 := mEnd_ok h2.1
    have h7 := mTok_ok (t := t) h6.1
    refine ⟨⟨h7, h5⟩, fun a b => ?_⟩
    have h8 := mTok_adv (t := t) (rl := rl) a b
    have h9 : (mTok t rl x.1).1 ≤ (mLof t rl k (mTok t rl x.1, x.2)).1.1 := h2.2
    have h10 := (mTok_bd (t := t) h.1.1).2
    rw [h6.2] at h8
    exact Nat.le_trans (Nat.succ_le_succ (Nat.le_trans h10 h9)) h8
  · rename_i hne
    exact ⟨⟨h1, h.2⟩, fun a b => absurd a hne⟩
theorem mLine_ok {t : Nat → Int32} {rl : Nat} {x : XS} (h : xOk rl x) : xOk rl (mLine t rl x) ∧ ((mLine t rl x).1.2.2.2.2.1 = 0 → ¬ (mLine t rl x).1.2.2.1 = 0 → x.1.1 + 1 ≤ (mLine t rl x).1.1) := by
  unfold mLine
  split
  · exact ⟨⟨mF_ok (by omega) h.1, h.2⟩, fun a _ => absurd a (show ¬ 2 = 0 by omega)⟩
  · have hk5 : vI (mKd t rl x.1) < 5 := by
      rename_i hn
      by_cases hs : x.1.2.2.1 = 1
      · rw [show mKd t rl x.1 = mNow t rl x.1.1 x.1.2.1 from if_pos hs] at hn ⊢
        obtain ⟨k, hk, e⟩ := mNow_val hn
        rw [e, vI_nI (by omega)]; exact hk
      · exact absurd (if_neg hs) hn
    generalize vI (mKd t rl x.1) = k at *
    unfold mLk
    split
    · exact ⟨⟨mF_ok (by omega) h.1, h.2⟩, fun a _ => absurd a (show ¬ 5 = 0 by omega)⟩
    · rename_i h5
      have a3 : k = 3 → vI (x.2.2.2 16) < 10 := fun q => Nat.lt_of_not_le (fun z => h5 (Or.inl ⟨q, z⟩))
      have a4 : 4 ≤ k → vI (x.2.2.2 47) < 6 := fun q => Nat.lt_of_not_le (fun z => h5 (Or.inr ⟨by omega, z⟩))
      split
      · split
        · exact mGo_ok (x := xTl x (orB x.2.2.1.1 k)) h a3 a4
        · exact ⟨⟨mF_ok (by omega) h.1, h.2⟩, fun a _ => absurd a (show ¬ 4 = 0 by omega)⟩
      · exact mGo_ok h a3 a4
/-- the lines one after another; n were read -/
def mLp (t : Nat → Int32) (rl : Nat) : Nat → XS → Nat → XS × Nat
  | 0, x, n => (x, n)
  | k + 1, x, n => if x.1.2.2.2.2.1 = 0 ∧ ¬ x.1.2.2.1 = 0 then mLp t rl k (mLine t rl x) (n + 1) else (x, n)
theorem mLp_end {t : Nat → Int32} {rl k n : Nat} {x : XS} (h : ¬ (x.1.2.2.2.2.1 = 0 ∧ ¬ x.1.2.2.1 = 0)) : mLp t rl k x n = (x, n) := by
  cases k with
  | zero => rfl
  | succ k => exact if_neg h
theorem mLp_go {t : Nat → Int32} {rl k n : Nat} {x y : XS} (hk : 1 ≤ k) (h : x.1.2.2.2.2.1 = 0 ∧ ¬ x.1.2.2.1 = 0) (hy : y = mLine t rl x) : mLp t rl k x n = mLp t rl (k - 1) y (n + 1) := by
  obtain ⟨k, rfl⟩ : ∃ j, k = j + 1 := ⟨k - 1, by omega⟩
  subst hy; exact if_pos h
abbrev mThere (x : XS) : Prop := x.2.2.1.2.2.1.toInt < ((x.2.1.1 * x.2.1.2.1 : Nat) : Int) ∧ x.2.2.1.2.2.2.toInt ≤ (x.2.1.2.2 : Int)
def mFin (x : XS) : Nat × Int32 := if x.1.2.2.2.2.1 = 0 ∧ ¬ mThere x then (6, nI x.1.2.1) else (x.1.2.2.2.2.1, x.1.2.2.2.2.2)
end
section
abbrev w_X6_readLine (G : XG) (ko : Nat) (ad : Nat → Nat) (w h la tp : Nat) (dw dh dl : Nat) (tl tc hc hd : Int32) (ps fr so : Nat) (vl : Int32) (ft : Nat) (wa tr : Int32) (tb D : Nat → Int32) : va_W := [oC ko 6 [.ref (ad 0), .ref (ad 1), .int (nI w), .int (nI h), .int (nI la), .ref (ad 2), .int (nI dw), .int (nI dh), .int (nI dl), .int tl, .int tc, .int hc, .int hd, .ref (ad 3), .int (nI tp), .int (nI ps), .int (nI fr), .int (nI so), .int vl, .int (nI ft), .int wa, .ref (ad 4), .ref (ad 5), .ref (ad 6), .ref (ad 7), .ref (ad 8), .ref (ad 9), .ref (ad 10), .int tr], iA G (ad 2) 85 D, iA G (ad 3) 160 tb]
abbrev Q_X6_readLine (G : XG) (sz : Nat) (ko : Nat) (ad : Nat → Nat) (w h la tp : Nat) (dw dh dl : Nat) (tl tc hc hd : Int32) (ps fr so : Nat) (vl : Int32) (ft : Nat) (wa tr : Int32) (tb D : Nat → Int32) : Array Value → State → Outcome → State → Prop := (va_Qv (fun (u : Nat × Nat × Nat × Int32 × Nat × Int32 × Nat × Nat × Nat × Int32 × Int32 × Int32 × Int32 × (Nat → Int32)) => ((u.1, u.2.1, u.2.2.1, u.2.2.2.1, u.2.2.2.2.1, u.2.2.2.2.2.1), (u.2.2.2.2.2.2.1, u.2.2.2.2.2.2.2.1, u.2.2.2.2.2.2.2.2.1), (u.2.2.2.2.2.2.2.2.2.1, u.2.2.2.2.2.2.2.2.2.2.1, u.2.2.2.2.2.2.2.2.2.2.2.1, u.2.2.2.2.2.2.2.2.2.2.2.2.1), u.2.2.2.2.2.2.2.2.2.2.2.2.2) = mLine tb tp ((ps, fr, so, vl, ft, wa), (dw, dh, dl), (tl, tc, hc, hd), D)) (xWb G sz (w_X6_readLine G ko ad w h la tp dw dh dl tl tc hc hd ps fr so vl ft wa tr tb D) (fun u : Nat × Nat × Nat × Int32 × Nat × Int32 × Nat × Nat × Nat × Int32 × Int32 × Int32 × Int32 × (Nat → Int32) => [oC ko 6 [.ref (ad 0), .ref (ad 1), .int (nI w), .int (nI h), .int (nI la), .ref (ad 2), .int (nI u.2.2.2.2.2.2.1), .int (nI u.2.2.2.2.2.2.2.1), .int (nI u.2.2.2.2.2.2.2.2.1), .int u.2.2.2.2.2.2.2.2.2.1, .int u.2.2.2.2.2.2.2.2.2.2.1, .int u.2.2.2.2.2.2.2.2.2.2.2.1, .int u.2.2.2.2.2.2.2.2.2.2.2.2.1, .ref (ad 3), .int (nI tp), .int (nI u.1), .int (nI u.2.1), .int (nI u.2.2.1), .int u.2.2.2.1, .int (nI u.2.2.2.2.1), .int u.2.2.2.2.2.1, .ref (ad 4), .ref (ad 5), .ref (ad 6), .ref (ad 7), .ref (ad 8), .ref (ad 9), .ref (ad 10), .int tr], iA G (ad 2) 85 u.2.2.2.2.2.2.2.2.2.2.2.2.2, iA G (ad 3) 160 tb])) (va_A (w_X6_readLine G ko ad w h la tp dw dh dl tl tc hc hd ps fr so vl ft wa tr tb D) sz))
set_option maxHeartbeats 4000000 in
set_option maxRecDepth 100000 in
theorem c_X6_readLine (l : Launch) (G : XG) (sz : Nat) (ko : Nat) (ad : Nat → Nat) (w h la tp : Nat) (dw dh dl : Nat) (tl tc hc hd : Int32) (ps fr so : Nat) (vl : Int32) (ft : Nat) (wa tr : Int32) (tb D : Nat → Int32) (htp : tp ≤ 160) (hps : ps ≤ tp) (htk : tpOk tb tp) (hft : ft ≤ 6) (hso : so ≤ 3) (hfr : fr ≤ ps) (hD16 : inR (D 16) 11) (hD47 : inR (D 47) 7) (hf0 : ft = 0) : Met l yX6_readLine wsX6_readLine ({ frames := 5, cells := 0, slots := 0, locals := 113 } : Room) (va_Pc [.ref ko] (xWp G sz (w_X6_readLine G ko ad w h la tp dw dh dl tl tc hc hd ps fr so vl ft wa tr tb D))) (Q_X6_readLine G sz ko ad w h la tp dw dh dl tl tc hc hd ps fr so vl ft wa tr tb D) 0 0 (va_A (w_X6_readLine G ko ad w h la tp dw dh dl tl tc hc hd ps fr so vl ft wa tr tb D) sz) := by
  refine Met.ofW (cc := cX6_readLine) (maxL := 2) (ret := none) (by decide) rfl ?_
  intro pp ee ss mm aa below mt cd s₁ BB hml hv
  obtain ⟨rfl, hsz, hP, hK, hD0⟩ := hv
  have hx := BB.exec
  have hb := BB.bytes
  have hr := BB.returns
  have hts := atoms_spec (ws := wsX6_readLine) BB.pre
  have hown : ss.vm.findClass RX6 = some mm.cls := findClass_of_methodNamed BB.named
  have hlocks := BB.notSynchronized
  subst hsz
  have hD := hD0.self (sz := ss.heap.size)
  have hA : ∀ q : Nat, ss.heap.size ≤ q → va_A (w_X6_readLine G ko ad w h la tp dw dh dl tl tc hc hd ps fr so vl ft wa tr tb D) ss.heap.size q := fun q h => Or.inr h
  have hS : va_S (va_A (w_X6_readLine G ko ad w h la tp dw dh dl tl tc hc hd ps fr so vl ft wa tr tb D) ss.heap.size) ss.heap ss.heap [] := va_S.rf
  replace hD : va_D (va_A (w_X6_readLine G ko ad w h la tp dw dh dl tl tc hc hd ps fr so vl ft wa tr tb D) ss.heap.size) [oC ko 6 [.ref (ad 0), .ref (ad 1), .int (nI w), .int (nI h), .int (nI la), .ref (ad 2), .int (nI dw), .int (nI dh), .int (nI dl), .int tl, .int tc, .int hc, .int hd, .ref (ad 3), .int (nI tp), .int (nI ps), .int (nI fr), .int (nI so), .int vl, .int (nI ft), .int wa, .ref (ad 4), .ref (ad 5), .ref (ad 6), .ref (ad 7), .ref (ad 8), .ref (ad 9), .ref (ad 10), .int tr], iA G (ad 2) 85 D, iA G (ad 3) 160 tb] := hD
  replace hP : xP G [oC ko 6 [.ref (ad 0), .ref (ad 1), .int (nI w), .int (nI h), .int (nI la), .ref (ad 2), .int (nI dw), .int (nI dh), .int (nI dl), .int tl, .int tc, .int hc, .int hd, .ref (ad 3), .int (nI tp), .int (nI ps), .int (nI fr), .int (nI so), .int vl, .int (nI ft), .int wa, .ref (ad 4), .ref (ad 5), .ref (ad 6), .ref (ad 7), .ref (ad 8), .ref (ad 9), .ref (ad 10), .int tr], iA G (ad 2) 85 D, iA G (ad 3) 160 tb] ss.heap := hP
  have hin6 : ∀ w ∈ u_ws RX6 TX6 29, w ∈ wsX6_readLine := fun w h => List.mem_cons_of_mem _ (List.mem_append_right _ h)
  have hl := lv_entry ([.ref ko]) (n := 2) (Nat.le_of_ble_eq_true rfl)
  rw [lg_entry_eq]
  generalize (lg_sl ([.ref ko]) ++ List.replicate (2 - (lg_sl ([.ref ko])).length) Slot.unset).toArray = ls at hl ⊢
  replace hl : lv_has ls 2 [(0, .ref ko)] := hl
  have ho0 : mOk tp (ps, fr, so, vl, ft, wa) := ⟨hps, hft, hso, hfr⟩
  obtain ⟨nc, hnc, h16⟩ := inR_nat hD16
  obtain ⟨nl, hnl, h47⟩ := inR_nat hD47
  have e16 : vI (D 16) = nc := (congrArg vI h16).trans (vI_nI (by omega))
  have e47 : vI (D 47) = nl := (congrArg vI h47).trans (vI_nI (by omega))
  refine lv_aload_n hx hb dX6_readLine_0 rfl (lv_at hl 0 rfl) ?_
  refine va_get (D := G.1) (ci := 6) (v := .int (nI so)) (C := RX6) (T := TX6) (N := 29) hx hb hts hin6 hown hK.1 hP 0 rfl rfl 17 (by decide) (hts (.fieldLink RX6 110 "BackLensesModel" "sort" "I") (List.mem_of_getElem? (i := 1) rfl)) (fun _ h9 => h9) rfl dX6_readLine_1 ?_
  refine lv_iconst (v := nI 1) hx hb dX6_readLine_4 (by decide) ?_
  refine xn_icmp_ne (tgt := 15) hx hb (by omega) (by omega) dX6_readLine_5 rfl (fun b5 => ?_) (fun b5 => ?_)
  · skip
    refine lv_bipush (v := (-4)) hx hb dX6_readLine_15 (by decide) ?_
    refine lv_istore_n (lv' := [(1, .int (-4)), (0, .ref ko)]) hx hb dX6_readLine_17 rfl hl (by decide) rfl (fun ls hl => ?_)
    refine lv_aload_n hx hb dX6_readLine_18 rfl (lv_at hl 1 rfl) ?_
    refine lv_iload_n hx hb dX6_readLine_19 rfl (lv_at hl 0 rfl) ?_
    refine lv_bipush (v := (-4)) hx hb dX6_readLine_20 (by decide) ?_
    refine lv_icmp_eq (tgt := 29) hx hb dX6_readLine_22 rfl (fun _ => ?_) (fun b22 => absurd b22 (by decide))
    refine lv_iconst (v := nI 0) hx hb dX6_readLine_29 (by decide) ?_
    refine lv_iconst (v := nI 2) hx hb dX6_readLine_30 (by decide) ?_
    refine xw_v (As := [.int (nI 0), .int (nI 2)]) (rest := []) (wr := [iA G (ad 2) 85 D, iA G (ad 3) 160 tb]) ⟨hx, hb, hml, hown, hts⟩ (c_X6_needs_0 l G ss.heap.size ko ad w h la tp dw dh dl tl tc hc hd ps fr so vl ft wa tr 2 (by first | assumption | omega)) (cwV 2 hts gX6_readLine_X6_needs rfl rfl rfl (by decide +kernel) ⟨Nat.le_of_ble_eq_true rfl, Nat.le_of_ble_eq_true rfl⟩) hK hP hD hS hA [0] [1, 2] rfl rfl (by decide) (by decide) (by decide) rfl rfl rfl hl.1 rfl (Nat.le_of_ble_eq_true rfl) dX6_readLine_31 ⟨Nat.le_of_ble_eq_true rfl, Nat.le_of_ble_eq_true rfl⟩ (fun u H locs hp31 hP hD hS => ?_)
    replace hP : xP G [iA G (ad 2) 85 D, iA G (ad 3) 160 tb, oC ko 6 [.ref (ad 0), .ref (ad 1), .int (nI w), .int (nI h), .int (nI la), .ref (ad 2), .int (nI dw), .int (nI dh), .int (nI dl), .int tl, .int tc, .int hc, .int hd, .ref (ad 3), .int (nI tp), .int (nI ps), .int (nI fr), .int (nI so), .int vl, .int (nI 2), .int (nI fr), .ref (ad 4), .ref (ad 5), .ref (ad 6), .ref (ad 7), .ref (ad 8), .ref (ad 9), .ref (ad 10), .int tr]] H := hP
    replace hD : va_D (va_A (w_X6_readLine G ko ad w h la tp dw dh dl tl tc hc hd ps fr so vl ft wa tr tb D) ss.heap.size) [iA G (ad 2) 85 D, iA G (ad 3) 160 tb, oC ko 6 [.ref (ad 0), .ref (ad 1), .int (nI w), .int (nI h), .int (nI la), .ref (ad 2), .int (nI dw), .int (nI dh), .int (nI dl), .int tl, .int tc, .int hc, .int hd, .ref (ad 3), .int (nI tp), .int (nI ps), .int (nI fr), .int (nI so), .int vl, .int (nI 2), .int (nI fr), .ref (ad 4), .ref (ad 5), .ref (ad 6), .ref (ad 7), .ref (ad 8), .ref (ad 9), .ref (ad 10), .int tr]] := hD
    refine lv_aload_n hx hb dX6_readLine_34 rfl (lv_at hl 1 rfl) ?_
    refine lv_iload_n hx hb dX6_readLine_35 rfl (lv_at hl 0 rfl) ?_
    refine lv_iconst (v := nI 3) hx hb dX6_readLine_36 (by decide) ?_
    refine lv_icmp_ne (tgt := 52) hx hb dX6_readLine_37 rfl (fun _ => ?_) (fun b37 => absurd b37 (by decide))
    refine lv_iload_n hx hb dX6_readLine_52 rfl (lv_at hl 0 rfl) ?_
    refine lv_iconst (v := nI 4) hx hb dX6_readLine_53 (by decide) ?_
    refine lv_icmp_ne (tgt := 69) hx hb dX6_readLine_54 rfl (fun _ => ?_) (fun b54 => absurd b54 (by decide))
    refine lv_iconst (v := nI 1) hx hb dX6_readLine_69 (by decide) ?_
    refine lv_goto (tgt := 74) hx hb dX6_readLine_70 rfl ?_
    refine lv_iconst (v := nI 5) hx hb dX6_readLine_74 (by decide) ?_
    refine xw_v (As := [.int (nI 1), .int (nI 5)]) (rest := []) (wr := [iA G (ad 2) 85 D, iA G (ad 3) 160 tb]) ⟨hx, hb, hml, hown, hts⟩ (c_X6_needs_1 l G H.size ko ad w h la tp dw dh dl tl tc hc hd ps fr so vl 2 (nI fr) tr 5 ) (cwV 2 hts gX6_readLine_X6_needs rfl rfl rfl (by decide +kernel) ⟨Nat.le_of_ble_eq_true rfl, Nat.le_of_ble_eq_true rfl⟩) hK hP hD hS hA [2] [0, 1] rfl rfl (by decide) (by decide) (by decide) rfl rfl rfl hl.1 rfl (Nat.le_of_ble_eq_true rfl) dX6_readLine_75 ⟨Nat.le_of_ble_eq_true rfl, Nat.le_of_ble_eq_true rfl⟩ (fun u H locs hp75 hP hD hS => ?_)
    replace hP : xP G [iA G (ad 2) 85 D, iA G (ad 3) 160 tb, oC ko 6 [.ref (ad 0), .ref (ad 1), .int (nI w), .int (nI h), .int (nI la), .ref (ad 2), .int (nI dw), .int (nI dh), .int (nI dl), .int tl, .int tc, .int hc, .int hd, .ref (ad 3), .int (nI tp), .int (nI ps), .int (nI fr), .int (nI so), .int vl, .int (nI 2), .int (nI fr), .ref (ad 4), .ref (ad 5), .ref (ad 6), .ref (ad 7), .ref (ad 8), .ref (ad 9), .ref (ad 10), .int tr]] H := hP
    replace hD : va_D (va_A (w_X6_readLine G ko ad w h la tp dw dh dl tl tc hc hd ps fr so vl ft wa tr tb D) ss.heap.size) [iA G (ad 2) 85 D, iA G (ad 3) 160 tb, oC ko 6 [.ref (ad 0), .ref (ad 1), .int (nI w), .int (nI h), .int (nI la), .ref (ad 2), .int (nI dw), .int (nI dh), .int (nI dl), .int tl, .int tc, .int hc, .int hd, .ref (ad 3), .int (nI tp), .int (nI ps), .int (nI fr), .int (nI so), .int vl, .int (nI 2), .int (nI fr), .ref (ad 4), .ref (ad 5), .ref (ad 6), .ref (ad 7), .ref (ad 8), .ref (ad 9), .ref (ad 10), .int tr]] := hD
    refine lv_aload_n hx hb dX6_readLine_78 rfl (lv_at hl 1 rfl) ?_
    refine va_get (D := G.1) (ci := 6) (v := .int (nI 2)) (C := RX6) (T := TX6) (N := 29) hx hb hts hin6 hown hK.1 hP 2 rfl rfl 19 (by decide) (hts (.fieldLink RX6 90 "BackLensesModel" "fault" "I") (List.mem_of_getElem? (i := 3) rfl)) (fun _ h9 => h9) rfl dX6_readLine_79 ?_
    refine xn_if_ne (tgt := 123) hx hb (by omega) dX6_readLine_82 rfl (fun _ => ?_) (fun b82 => absurd b82 (by omega))
    have hL : mLine tb tp ((ps, fr, so, vl, ft, wa), (dw, dh, dl), (tl, tc, hc, hd), D) = (mF 2 (ps, fr, so, vl, ft, wa), (dw, dh, dl), (tl, tc, hc, hd), D) := if_pos (if_neg b5)
    refine lv_aload_n hx hb dX6_readLine_123 rfl (lv_at hl 1 rfl) ?_
    refine xw_v (As := []) (rest := []) (wr := [iA G (ad 2) 85 D]) ⟨hx, hb, hml, hown, hts⟩ (c_X6_nextToken l G H.size ko ad w h la tp dw dh dl tl tc hc hd ps fr so vl 2 (nI fr) tr tb (by first | assumption | omega) (by first | assumption | omega) (by first | assumption | omega) (by first | assumption | omega)) (cwV 0 hts gX6_readLine_X6_nextToken rfl rfl rfl (by decide +kernel) ⟨Nat.le_of_ble_eq_true rfl, Nat.le_of_ble_eq_true rfl⟩) hK hP hD hS hA [2, 1] [0] rfl rfl (by decide) (by decide) (by decide) rfl rfl rfl hl.1 rfl (Nat.le_of_ble_eq_true rfl) dX6_readLine_124 ⟨Nat.le_of_ble_eq_true rfl, Nat.le_of_ble_eq_true rfl⟩ (fun u H locs hp124 hP hD hS => ?_)
    obtain ⟨ps2_124, fr2_124, so2_124, vl2_124, ft2_124, wa2_124⟩ := u
    try dsimp only at hp124 hP hD
    have he124 := hp124
    replace hP : xP G [iA G (ad 2) 85 D, oC ko 6 [.ref (ad 0), .ref (ad 1), .int (nI w), .int (nI h), .int (nI la), .ref (ad 2), .int (nI dw), .int (nI dh), .int (nI dl), .int tl, .int tc, .int hc, .int hd, .ref (ad 3), .int (nI tp), .int (nI ps2_124), .int (nI fr2_124), .int (nI so2_124), .int vl2_124, .int (nI ft2_124), .int wa2_124, .ref (ad 4), .ref (ad 5), .ref (ad 6), .ref (ad 7), .ref (ad 8), .ref (ad 9), .ref (ad 10), .int tr], iA G (ad 3) 160 tb] H := hP
    replace hD : va_D (va_A (w_X6_readLine G ko ad w h la tp dw dh dl tl tc hc hd ps fr so vl ft wa tr tb D) ss.heap.size) [iA G (ad 2) 85 D, oC ko 6 [.ref (ad 0), .ref (ad 1), .int (nI w), .int (nI h), .int (nI la), .ref (ad 2), .int (nI dw), .int (nI dh), .int (nI dl), .int tl, .int tc, .int hc, .int hd, .ref (ad 3), .int (nI tp), .int (nI ps2_124), .int (nI fr2_124), .int (nI so2_124), .int vl2_124, .int (nI ft2_124), .int wa2_124, .ref (ad 4), .ref (ad 5), .ref (ad 6), .ref (ad 7), .ref (ad 8), .ref (ad 9), .ref (ad 10), .int tr], iA G (ad 3) 160 tb] := hD
    have ho124 : mOk tp (ps2_124, fr2_124, so2_124, vl2_124, ft2_124, wa2_124) := (by rw [he124]; exact mTok_ok (mF_ok (s := (ps, fr, so, vl, ft, wa)) (by omega) ho0))
    have hps124 : ps2_124 ≤ tp := ho124.1
    have hft124 : ft2_124 ≤ 6 := ho124.2.1
    have hso124 : so2_124 ≤ 3 := ho124.2.2.1
    have hfr124 : fr2_124 ≤ ps2_124 := ho124.2.2.2
    have hT := he124.trans (mTok_0 (by decide))
    have hq9 : ft2_124 = 2 := congrArg (fun a : MS => a.2.2.2.2.1) hT
    refine lv_aload_n hx hb dX6_readLine_127 rfl (lv_at hl 1 rfl) ?_
    refine va_get (D := G.1) (ci := 6) (v := .int (nI ft2_124)) (C := RX6) (T := TX6) (N := 29) hx hb hts hin6 hown hK.1 hP 1 rfl rfl 19 (by decide) (hts (.fieldLink RX6 90 "BackLensesModel" "fault" "I") (List.mem_of_getElem? (i := 3) rfl)) (fun _ h9 => h9) rfl dX6_readLine_128 ?_
    refine xn_if_le (tgt := 135) hx hb (by omega) dX6_readLine_131 rfl (fun b131 => absurd b131 (by omega)) (fun _ => ?_)
    have hP := hP.sub (ws' := [oC ko 6 [.ref (ad 0), .ref (ad 1), .int (nI w), .int (nI h), .int (nI la), .ref (ad 2), .int (nI dw), .int (nI dh), .int (nI dl), .int tl, .int tc, .int hc, .int hd, .ref (ad 3), .int (nI tp), .int (nI ps2_124), .int (nI fr2_124), .int (nI so2_124), .int vl2_124, .int (nI ft2_124), .int wa2_124, .ref (ad 4), .ref (ad 5), .ref (ad 6), .ref (ad 7), .ref (ad 8), .ref (ad 9), .ref (ad 10), .int tr], iA G (ad 2) 85 D, iA G (ad 3) 160 tb]) [1, 0, 2] rfl
    have hD := hD.sub (ws' := [oC ko 6 [.ref (ad 0), .ref (ad 1), .int (nI w), .int (nI h), .int (nI la), .ref (ad 2), .int (nI dw), .int (nI dh), .int (nI dl), .int tl, .int tc, .int hc, .int hd, .ref (ad 3), .int (nI tp), .int (nI ps2_124), .int (nI fr2_124), .int (nI so2_124), .int vl2_124, .int (nI ft2_124), .int wa2_124, .ref (ad 4), .ref (ad 5), .ref (ad 6), .ref (ad 7), .ref (ad 8), .ref (ad 9), .ref (ad 10), .int tr], iA G (ad 2) 85 D, iA G (ad 3) 160 tb]) [1, 0, 2] (by decide) rfl
    refine W.vret hx hb hr (fun t ht hW => ⟨⟨(ps2_124, fr2_124, so2_124, vl2_124, ft2_124, wa2_124, dw, dh, dl, tl, tc, hc, hd, D), rfl, ?_, by rw [ht]; exact hP, hD⟩, hS.F ht⟩) hS.2.2 dX6_readLine_134
    try dsimp only
    first | exact (hL.trans (congrArg (fun a => (a, _)) hT.symm)).symm | exact (hL.trans (mGo_0 he124 h124)).symm
  · skip
    refine lv_aload_n hx hb dX6_readLine_8 rfl (lv_at hl 0 rfl) ?_
    refine xr_i (As := []) (rest := []) ⟨hx, hb, hml, hown, hts⟩ (c_X6_lineNow l G ko ad w h la tp dw dh dl tl tc hc hd ps fr so vl ft wa tr tb (by first | assumption | omega) (by first | assumption | omega) (by first | assumption | omega)) (cwV 0 hts gX6_readLine_X6_lineNow rfl rfl rfl (by decide +kernel) ⟨Nat.le_of_ble_eq_true rfl, Nat.le_of_ble_eq_true rfl⟩) hK hP hS [0, 2] rfl rfl rfl rfl hl.1 rfl (Nat.le_of_ble_eq_true rfl) dX6_readLine_9 ⟨Nat.zero_le _, Nat.zero_le _⟩ (fun r9 H locs hp9 hP hS => ?_)
    rw [show r9 = _ from hp9]
    refine lv_goto (tgt := 17) hx hb dX6_readLine_12 rfl ?_
    refine lv_istore_n (lv' := [(1, .int (mNow tb tp ps fr)), (0, .ref ko)]) hx hb dX6_readLine_17 rfl hl (by decide) rfl (fun ls hl => ?_)
    refine lv_aload_n hx hb dX6_readLine_18 rfl (lv_at hl 1 rfl) ?_
    refine lv_iload_n hx hb dX6_readLine_19 rfl (lv_at hl 0 rfl) ?_
    refine lv_bipush (v := (-4)) hx hb dX6_readLine_20 (by decide) ?_
    refine lv_icmp_eq (tgt := 29) hx hb dX6_readLine_22 rfl (fun b22 => ?_) (fun b22 => ?_)
    · skip
      refine lv_iconst (v := nI 0) hx hb dX6_readLine_29 (by decide) ?_
      refine lv_iconst (v := nI 2) hx hb dX6_readLine_30 (by decide) ?_
      refine xw_v (As := [.int (nI 0), .int (nI 2)]) (rest := []) (wr := [iA G (ad 2) 85 D, iA G (ad 3) 160 tb]) ⟨hx, hb, hml, hown, hts⟩ (c_X6_needs_0 l G H.size ko ad w h la tp dw dh dl tl tc hc hd ps fr so vl ft wa tr 2 (by first | assumption | omega)) (cwV 2 hts gX6_readLine_X6_needs rfl rfl rfl (by decide +kernel) ⟨Nat.le_of_ble_eq_true rfl, Nat.le_of_ble_eq_true rfl⟩) hK hP hD hS hA [0] [1, 2] rfl rfl (by decide) (by decide) (by decide) rfl rfl rfl hl.1 rfl (Nat.le_of_ble_eq_true rfl) dX6_readLine_31 ⟨Nat.le_of_ble_eq_true rfl, Nat.le_of_ble_eq_true rfl⟩ (fun u H locs hp31 hP hD hS => ?_)
      replace hP : xP G [iA G (ad 2) 85 D, iA G (ad 3) 160 tb, oC ko 6 [.ref (ad 0), .ref (ad 1), .int (nI w), .int (nI h), .int (nI la), .ref (ad 2), .int (nI dw), .int (nI dh), .int (nI dl), .int tl, .int tc, .int hc, .int hd, .ref (ad 3), .int (nI tp), .int (nI ps), .int (nI fr), .int (nI so), .int vl, .int (nI 2), .int (nI fr), .ref (ad 4), .ref (ad 5), .ref (ad 6), .ref (ad 7), .ref (ad 8), .ref (ad 9), .ref (ad 10), .int tr]] H := hP
      replace hD : va_D (va_A (w_X6_readLine G ko ad w h la tp dw dh dl tl tc hc hd ps fr so vl ft wa tr tb D) ss.heap.size) [iA G (ad 2) 85 D, iA G (ad 3) 160 tb, oC ko 6 [.ref (ad 0), .ref (ad 1), .int (nI w), .int (nI h), .int (nI la), .ref (ad 2), .int (nI dw), .int (nI dh), .int (nI dl), .int tl, .int tc, .int hc, .int hd, .ref (ad 3), .int (nI tp), .int (nI ps), .int (nI fr), .int (nI so), .int vl, .int (nI 2), .int (nI fr), .ref (ad 4), .ref (ad 5), .ref (ad 6), .ref (ad 7), .ref (ad 8), .ref (ad 9), .ref (ad 10), .int tr]] := hD
      refine lv_aload_n hx hb dX6_readLine_34 rfl (lv_at hl 1 rfl) ?_
      refine lv_iload_n hx hb dX6_readLine_35 rfl (lv_at hl 0 rfl) ?_
      refine lv_iconst (v := nI 3) hx hb dX6_readLine_36 (by decide) ?_
      refine lv_icmp_ne (tgt := 52) hx hb dX6_readLine_37 rfl (fun _ => ?_) (fun b37 => absurd b37 (by rw [b22]; decide))
      refine lv_iload_n hx hb dX6_readLine_52 rfl (lv_at hl 0 rfl) ?_
      refine lv_iconst (v := nI 4) hx hb dX6_readLine_53 (by decide) ?_
      refine lv_icmp_ne (tgt := 69) hx hb dX6_readLine_54 rfl (fun _ => ?_) (fun b54 => absurd b54 (by rw [b22]; decide))
      refine lv_iconst (v := nI 1) hx hb dX6_readLine_69 (by decide) ?_
      refine lv_goto (tgt := 74) hx hb dX6_readLine_70 rfl ?_
      refine lv_iconst (v := nI 5) hx hb dX6_readLine_74 (by decide) ?_
      refine xw_v (As := [.int (nI 1), .int (nI 5)]) (rest := []) (wr := [iA G (ad 2) 85 D, iA G (ad 3) 160 tb]) ⟨hx, hb, hml, hown, hts⟩ (c_X6_needs_1 l G H.size ko ad w h la tp dw dh dl tl tc hc hd ps fr so vl 2 (nI fr) tr 5 ) (cwV 2 hts gX6_readLine_X6_needs rfl rfl rfl (by decide +kernel) ⟨Nat.le_of_ble_eq_true rfl, Nat.le_of_ble_eq_true rfl⟩) hK hP hD hS hA [2] [0, 1] rfl rfl (by decide) (by decide) (by decide) rfl rfl rfl hl.1 rfl (Nat.le_of_ble_eq_true rfl) dX6_readLine_75 ⟨Nat.le_of_ble_eq_true rfl, Nat.le_of_ble_eq_true rfl⟩ (fun u H locs hp75 hP hD hS => ?_)
      replace hP : xP G [iA G (ad 2) 85 D, iA G (ad 3) 160 tb, oC ko 6 [.ref (ad 0), .ref (ad 1), .int (nI w), .int (nI h), .int (nI la), .ref (ad 2), .int (nI dw), .int (nI dh), .int (nI dl), .int tl, .int tc, .int hc, .int hd, .ref (ad 3), .int (nI tp), .int (nI ps), .int (nI fr), .int (nI so), .int vl, .int (nI 2), .int (nI fr), .ref (ad 4), .ref (ad 5), .ref (ad 6), .ref (ad 7), .ref (ad 8), .ref (ad 9), .ref (ad 10), .int tr]] H := hP
      replace hD : va_D (va_A (w_X6_readLine G ko ad w h la tp dw dh dl tl tc hc hd ps fr so vl ft wa tr tb D) ss.heap.size) [iA G (ad 2) 85 D, iA G (ad 3) 160 tb, oC ko 6 [.ref (ad 0), .ref (ad 1), .int (nI w), .int (nI h), .int (nI la), .ref (ad 2), .int (nI dw), .int (nI dh), .int (nI dl), .int tl, .int tc, .int hc, .int hd, .ref (ad 3), .int (nI tp), .int (nI ps), .int (nI fr), .int (nI so), .int vl, .int (nI 2), .int (nI fr), .ref (ad 4), .ref (ad 5), .ref (ad 6), .ref (ad 7), .ref (ad 8), .ref (ad 9), .ref (ad 10), .int tr]] := hD
      refine lv_aload_n hx hb dX6_readLine_78 rfl (lv_at hl 1 rfl) ?_
      refine va_get (D := G.1) (ci := 6) (v := .int (nI 2)) (C := RX6) (T := TX6) (N := 29) hx hb hts hin6 hown hK.1 hP 2 rfl rfl 19 (by decide) (hts (.fieldLink RX6 90 "BackLensesModel" "fault" "I") (List.mem_of_getElem? (i := 3) rfl)) (fun _ h9 => h9) rfl dX6_readLine_79 ?_
      refine xn_if_ne (tgt := 123) hx hb (by omega) dX6_readLine_82 rfl (fun _ => ?_) (fun b82 => absurd b82 (by omega))
      have hL : mLine tb tp ((ps, fr, so, vl, ft, wa), (dw, dh, dl), (tl, tc, hc, hd), D) = (mF 2 (ps, fr, so, vl, ft, wa), (dw, dh, dl), (tl, tc, hc, hd), D) := if_pos ((if_pos b5).trans b22)
      refine lv_aload_n hx hb dX6_readLine_123 rfl (lv_at hl 1 rfl) ?_
      refine xw_v (As := []) (rest := []) (wr := [iA G (ad 2) 85 D]) ⟨hx, hb, hml, hown, hts⟩ (c_X6_nextToken l G H.size ko ad w h la tp dw dh dl tl tc hc hd ps fr so vl 2 (nI fr) tr tb (by first | assumption | omega) (by first | assumption | omega) (by first | assumption | omega) (by first | assumption | omega)) (cwV 0 hts gX6_readLine_X6_nextToken rfl rfl rfl (by decide +kernel) ⟨Nat.le_of_ble_eq_true rfl, Nat.le_of_ble_eq_true rfl⟩) hK hP hD hS hA [2, 1] [0] rfl rfl (by decide) (by decide) (by decide) rfl rfl rfl hl.1 rfl (Nat.le_of_ble_eq_true rfl) dX6_readLine_124 ⟨Nat.le_of_ble_eq_true rfl, Nat.le_of_ble_eq_true rfl⟩ (fun u H locs hp124 hP hD hS => ?_)
      obtain ⟨ps2_124, fr2_124, so2_124, vl2_124, ft2_124, wa2_124⟩ := u
      try dsimp only at hp124 hP hD
      have he124 := hp124
      replace hP : xP G [iA G (ad 2) 85 D, oC ko 6 [.ref (ad 0), .ref (ad 1), .int (nI w), .int (nI h), .int (nI la), .ref (ad 2), .int (nI dw), .int (nI dh), .int (nI dl), .int tl, .int tc, .int hc, .int hd, .ref (ad 3), .int (nI tp), .int (nI ps2_124), .int (nI fr2_124), .int (nI so2_124), .int vl2_124, .int (nI ft2_124), .int wa2_124, .ref (ad 4), .ref (ad 5), .ref (ad 6), .ref (ad 7), .ref (ad 8), .ref (ad 9), .ref (ad 10), .int tr], iA G (ad 3) 160 tb] H := hP
      replace hD : va_D (va_A (w_X6_readLine G ko ad w h la tp dw dh dl tl tc hc hd ps fr so vl ft wa tr tb D) ss.heap.size) [iA G (ad 2) 85 D, oC ko 6 [.ref (ad 0), .ref (ad 1), .int (nI w), .int (nI h), .int (nI la), .ref (ad 2), .int (nI dw), .int (nI dh), .int (nI dl), .int tl, .int tc, .int hc, .int hd, .ref (ad 3), .int (nI tp), .int (nI ps2_124), .int (nI fr2_124), .int (nI so2_124), .int vl2_124, .int (nI ft2_124), .int wa2_124, .ref (ad 4), .ref (ad 5), .ref (ad 6), .ref (ad 7), .ref (ad 8), .ref (ad 9), .ref (ad 10), .int tr], iA G (ad 3) 160 tb] := hD
      have ho124 : mOk tp (ps2_124, fr2_124, so2_124, vl2_124, ft2_124, wa2_124) := (by rw [he124]; exact mTok_ok (mF_ok (s := (ps, fr, so, vl, ft, wa)) (by omega) ho0))
      have hps124 : ps2_124 ≤ tp := ho124.1
      have hft124 : ft2_124 ≤ 6 := ho124.2.1
      have hso124 : so2_124 ≤ 3 := ho124.2.2.1
      have hfr124 : fr2_124 ≤ ps2_124 := ho124.2.2.2
      have hT := he124.trans (mTok_0 (by decide))
      have hq9 : ft2_124 = 2 := congrArg (fun a : MS => a.2.2.2.2.1) hT
      refine lv_aload_n hx hb dX6_readLine_127 rfl (lv_at hl 1 rfl) ?_
      refine va_get (D := G.1) (ci := 6) (v := .int (nI ft2_124)) (C := RX6) (T := TX6) (N := 29) hx hb hts hin6 hown hK.1 hP 1 rfl rfl 19 (by decide) (hts (.fieldLink RX6 90 "BackLensesModel" "fault" "I") (List.mem_of_getElem? (i := 3) rfl)) (fun _ h9 => h9) rfl dX6_readLine_128 ?_
      refine xn_if_le (tgt := 135) hx hb (by omega) dX6_readLine_131 rfl (fun b131 => absurd b131 (by omega)) (fun _ => ?_)
      have hP := hP.sub (ws' := [oC ko 6 [.ref (ad 0), .ref (ad 1), .int (nI w), .int (nI h), .int (nI la), .ref (ad 2), .int (nI dw), .int (nI dh), .int (nI dl), .int tl, .int tc, .int hc, .int hd, .ref (ad 3), .int (nI tp), .int (nI ps2_124), .int (nI fr2_124), .int (nI so2_124), .int vl2_124, .int (nI ft2_124), .int wa2_124, .ref (ad 4), .ref (ad 5), .ref (ad 6), .ref (ad 7), .ref (ad 8), .ref (ad 9), .ref (ad 10), .int tr], iA G (ad 2) 85 D, iA G (ad 3) 160 tb]) [1, 0, 2] rfl
      have hD := hD.sub (ws' := [oC ko 6 [.ref (ad 0), .ref (ad 1), .int (nI w), .int (nI h), .int (nI la), .ref (ad 2), .int (nI dw), .int (nI dh), .int (nI dl), .int tl, .int tc, .int hc, .int hd, .ref (ad 3), .int (nI tp), .int (nI ps2_124), .int (nI fr2_124), .int (nI so2_124), .int vl2_124, .int (nI ft2_124), .int wa2_124, .ref (ad 4), .ref (ad 5), .ref (ad 6), .ref (ad 7), .ref (ad 8), .ref (ad 9), .ref (ad 10), .int tr], iA G (ad 2) 85 D, iA G (ad 3) 160 tb]) [1, 0, 2] (by decide) rfl
      refine W.vret hx hb hr (fun t ht hW => ⟨⟨(ps2_124, fr2_124, so2_124, vl2_124, ft2_124, wa2_124, dw, dh, dl, tl, tc, hc, hd, D), rfl, ?_, by rw [ht]; exact hP, hD⟩, hS.F ht⟩) hS.2.2 dX6_readLine_134
      try dsimp only
      first | exact (hL.trans (congrArg (fun a => (a, _)) hT.symm)).symm | exact (hL.trans (mGo_0 he124 h124)).symm
    · skip
      obtain ⟨kq, hkq, hkv⟩ := mNow_val b22
      rw [hkv] at hl
      rcases (show kq = 0 ∨ kq = 1 ∨ kq = 2 ∨ kq = 3 ∨ kq = 4 by omega) with rfl | rfl | rfl | rfl | rfl
      · skip
        refine lv_iconst (v := nI 1) hx hb dX6_readLine_25 (by decide) ?_
        refine lv_goto (tgt := 30) hx hb dX6_readLine_26 rfl ?_
        refine lv_iconst (v := nI 2) hx hb dX6_readLine_30 (by decide) ?_
        refine xw_v (As := [.int (nI 1), .int (nI 2)]) (rest := []) (wr := [iA G (ad 2) 85 D, iA G (ad 3) 160 tb]) ⟨hx, hb, hml, hown, hts⟩ (c_X6_needs_1 l G H.size ko ad w h la tp dw dh dl tl tc hc hd ps fr so vl ft wa tr 2 ) (cwV 2 hts gX6_readLine_X6_needs rfl rfl rfl (by decide +kernel) ⟨Nat.le_of_ble_eq_true rfl, Nat.le_of_ble_eq_true rfl⟩) hK hP hD hS hA [0] [1, 2] rfl rfl (by decide) (by decide) (by decide) rfl rfl rfl hl.1 rfl (Nat.le_of_ble_eq_true rfl) dX6_readLine_31 ⟨Nat.le_of_ble_eq_true rfl, Nat.le_of_ble_eq_true rfl⟩ (fun u H locs hp31 hP hD hS => ?_)
        replace hP : xP G [iA G (ad 2) 85 D, iA G (ad 3) 160 tb, oC ko 6 [.ref (ad 0), .ref (ad 1), .int (nI w), .int (nI h), .int (nI la), .ref (ad 2), .int (nI dw), .int (nI dh), .int (nI dl), .int tl, .int tc, .int hc, .int hd, .ref (ad 3), .int (nI tp), .int (nI ps), .int (nI fr), .int (nI so), .int vl, .int (nI ft), .int wa, .ref (ad 4), .ref (ad 5), .ref (ad 6), .ref (ad 7), .ref (ad 8), .ref (ad 9), .ref (ad 10), .int tr]] H := hP
        replace hD : va_D (va_A (w_X6_readLine G ko ad w h la tp dw dh dl tl tc hc hd ps fr so vl ft wa tr tb D) ss.heap.size) [iA G (ad 2) 85 D, iA G (ad 3) 160 tb, oC ko 6 [.ref (ad 0), .ref (ad 1), .int (nI w), .int (nI h), .int (nI la), .ref (ad 2), .int (nI dw), .int (nI dh), .int (nI dl), .int tl, .int tc, .int hc, .int hd, .ref (ad 3), .int (nI tp), .int (nI ps), .int (nI fr), .int (nI so), .int vl, .int (nI ft), .int wa, .ref (ad 4), .ref (ad 5), .ref (ad 6), .ref (ad 7), .ref (ad 8), .ref (ad 9), .ref (ad 10), .int tr]] := hD
        refine lv_aload_n hx hb dX6_readLine_34 rfl (lv_at hl 1 rfl) ?_
        refine lv_iload_n hx hb dX6_readLine_35 rfl (lv_at hl 0 rfl) ?_
        refine lv_iconst (v := nI 3) hx hb dX6_readLine_36 (by decide) ?_
        refine xn_icmp_ne (tgt := 52) hx hb (by omega) (by omega) dX6_readLine_37 rfl (fun _ => ?_) (fun b37 => absurd b37 (by omega))
        refine lv_iload_n hx hb dX6_readLine_52 rfl (lv_at hl 0 rfl) ?_
        refine lv_iconst (v := nI 4) hx hb dX6_readLine_53 (by decide) ?_
        refine xn_icmp_ne (tgt := 69) hx hb (by omega) (by omega) dX6_readLine_54 rfl (fun _ => ?_) (fun b54 => absurd b54 (by omega))
        refine lv_iconst (v := nI 1) hx hb dX6_readLine_69 (by decide) ?_
        refine lv_goto (tgt := 74) hx hb dX6_readLine_70 rfl ?_
        refine lv_iconst (v := nI 5) hx hb dX6_readLine_74 (by decide) ?_
        refine xw_v (As := [.int (nI 1), .int (nI 5)]) (rest := []) (wr := [iA G (ad 2) 85 D, iA G (ad 3) 160 tb]) ⟨hx, hb, hml, hown, hts⟩ (c_X6_needs_1 l G H.size ko ad w h la tp dw dh dl tl tc hc hd ps fr so vl ft wa tr 5 ) (cwV 2 hts gX6_readLine_X6_needs rfl rfl rfl (by decide +kernel) ⟨Nat.le_of_ble_eq_true rfl, Nat.le_of_ble_eq_true rfl⟩) hK hP hD hS hA [2] [0, 1] rfl rfl (by decide) (by decide) (by decide) rfl rfl rfl hl.1 rfl (Nat.le_of_ble_eq_true rfl) dX6_readLine_75 ⟨Nat.le_of_ble_eq_true rfl, Nat.le_of_ble_eq_true rfl⟩ (fun u H locs hp75 hP hD hS => ?_)
        replace hP : xP G [iA G (ad 2) 85 D, iA G (ad 3) 160 tb, oC ko 6 [.ref (ad 0), .ref (ad 1), .int (nI w), .int (nI h), .int (nI la), .ref (ad 2), .int (nI dw), .int (nI dh), .int (nI dl), .int tl, .int tc, .int hc, .int hd, .ref (ad 3), .int (nI tp), .int (nI ps), .int (nI fr), .int (nI so), .int vl, .int (nI ft), .int wa, .ref (ad 4), .ref (ad 5), .ref (ad 6), .ref (ad 7), .ref (ad 8), .ref (ad 9), .ref (ad 10), .int tr]] H := hP
        replace hD : va_D (va_A (w_X6_readLine G ko ad w h la tp dw dh dl tl tc hc hd ps fr so vl ft wa tr tb D) ss.heap.size) [iA G (ad 2) 85 D, iA G (ad 3) 160 tb, oC ko 6 [.ref (ad 0), .ref (ad 1), .int (nI w), .int (nI h), .int (nI la), .ref (ad 2), .int (nI dw), .int (nI dh), .int (nI dl), .int tl, .int tc, .int hc, .int hd, .ref (ad 3), .int (nI tp), .int (nI ps), .int (nI fr), .int (nI so), .int vl, .int (nI ft), .int wa, .ref (ad 4), .ref (ad 5), .ref (ad 6), .ref (ad 7), .ref (ad 8), .ref (ad 9), .ref (ad 10), .int tr]] := hD
        refine lv_aload_n hx hb dX6_readLine_78 rfl (lv_at hl 1 rfl) ?_
        refine va_get (D := G.1) (ci := 6) (v := .int (nI ft)) (C := RX6) (T := TX6) (N := 29) hx hb hts hin6 hown hK.1 hP 2 rfl rfl 19 (by decide) (hts (.fieldLink RX6 90 "BackLensesModel" "fault" "I") (List.mem_of_getElem? (i := 3) rfl)) (fun _ h9 => h9) rfl dX6_readLine_79 ?_
        refine xn_if_ne (tgt := 123) hx hb (by omega) dX6_readLine_82 rfl (fun b82 => absurd b82 (by omega)) (fun _ => ?_)
        refine lv_iload_n hx hb dX6_readLine_85 rfl (lv_at hl 0 rfl) ?_
        refine lv_iconst (v := nI 1) hx hb dX6_readLine_86 (by decide) ?_
        refine xn_icmp_gt (tgt := 123) hx hb (by omega) (by omega) dX6_readLine_87 rfl (fun b87 => absurd b87 (by omega)) (fun _ => ?_)
        refine lv_aload_n hx hb dX6_readLine_90 rfl (lv_at hl 1 rfl) ?_
        refine lv_aload_n hx hb dX6_readLine_91 rfl (lv_at hl 1 rfl) ?_
        refine va_get (D := G.1) (ci := 6) (v := .int tl) (C := RX6) (T := TX6) (N := 29) hx hb hts hin6 hown hK.1 hP 2 rfl rfl 9 (by decide) (hts (.fieldLink RX6 60 "BackLensesModel" "toldLines" "I") (List.mem_of_getElem? (i := 4) rfl)) (fun _ h9 => h9) rfl dX6_readLine_92 ?_
        refine lv_iload_n hx hb dX6_readLine_95 rfl (lv_at hl 0 rfl) ?_
        refine lv_ishr hx hb dX6_readLine_96 ?_
        refine lv_iconst (v := nI 1) hx hb dX6_readLine_97 (by decide) ?_
        refine lv_iand hx hb dX6_readLine_98 ?_
        refine lv_if_ne (tgt := 106) hx hb dX6_readLine_99 rfl (fun b99 => ?_) (fun b99 => ?_)
        · skip
          refine lv_iconst (v := nI 0) hx hb dX6_readLine_106 (by decide) ?_
          refine lv_iconst (v := nI 4) hx hb dX6_readLine_107 (by decide) ?_
          refine xw_v (As := [.int (nI 0), .int (nI 4)]) (rest := []) (wr := [iA G (ad 2) 85 D, iA G (ad 3) 160 tb]) ⟨hx, hb, hml, hown, hts⟩ (c_X6_needs_0 l G H.size ko ad w h la tp dw dh dl tl tc hc hd ps fr so vl ft wa tr 4 (by first | assumption | omega)) (cwV 2 hts gX6_readLine_X6_needs rfl rfl rfl (by decide +kernel) ⟨Nat.le_of_ble_eq_true rfl, Nat.le_of_ble_eq_true rfl⟩) hK hP hD hS hA [2] [0, 1] rfl rfl (by decide) (by decide) (by decide) rfl rfl rfl hl.1 rfl (Nat.le_of_ble_eq_true rfl) dX6_readLine_108 ⟨Nat.le_of_ble_eq_true rfl, Nat.le_of_ble_eq_true rfl⟩ (fun u H locs hp108 hP hD hS => ?_)
          replace hP : xP G [iA G (ad 2) 85 D, iA G (ad 3) 160 tb, oC ko 6 [.ref (ad 0), .ref (ad 1), .int (nI w), .int (nI h), .int (nI la), .ref (ad 2), .int (nI dw), .int (nI dh), .int (nI dl), .int tl, .int tc, .int hc, .int hd, .ref (ad 3), .int (nI tp), .int (nI ps), .int (nI fr), .int (nI so), .int vl, .int (nI 4), .int (nI fr), .ref (ad 4), .ref (ad 5), .ref (ad 6), .ref (ad 7), .ref (ad 8), .ref (ad 9), .ref (ad 10), .int tr]] H := hP
          replace hD : va_D (va_A (w_X6_readLine G ko ad w h la tp dw dh dl tl tc hc hd ps fr so vl ft wa tr tb D) ss.heap.size) [iA G (ad 2) 85 D, iA G (ad 3) 160 tb, oC ko 6 [.ref (ad 0), .ref (ad 1), .int (nI w), .int (nI h), .int (nI la), .ref (ad 2), .int (nI dw), .int (nI dh), .int (nI dl), .int tl, .int tc, .int hc, .int hd, .ref (ad 3), .int (nI tp), .int (nI ps), .int (nI fr), .int (nI so), .int vl, .int (nI 4), .int (nI fr), .ref (ad 4), .ref (ad 5), .ref (ad 6), .ref (ad 7), .ref (ad 8), .ref (ad 9), .ref (ad 10), .int tr]] := hD
          refine lv_aload_n hx hb dX6_readLine_111 rfl (lv_at hl 1 rfl) ?_
          refine lv_dup hx hb dX6_readLine_112 rfl ?_
          refine va_get (D := G.1) (ci := 6) (v := .int tl) (C := RX6) (T := TX6) (N := 29) hx hb hts hin6 hown hK.1 hP 2 rfl rfl 9 (by decide) (hts (.fieldLink RX6 60 "BackLensesModel" "toldLines" "I") (List.mem_of_getElem? (i := 4) rfl)) (fun _ h9 => h9) rfl dX6_readLine_113 ?_
          refine lv_iconst (v := nI 1) hx hb dX6_readLine_116 (by decide) ?_
          refine lv_iload_n hx hb dX6_readLine_117 rfl (lv_at hl 0 rfl) ?_
          refine lv_ishl hx hb dX6_readLine_118 ?_
          refine lv_ior hx hb dX6_readLine_119 ?_
          refine va_put (D := G.1) (ci := 6) (v := .int (tl ||| ((nI 1) <<< ((nI 0) &&& 31)))) (ty := .int) (C := RX6) (T := TX6) (N := 29) hx hb hts hin6 tyX6 tyX6_ok nmX6 hown hK.1 hP hD hS 2 rfl rfl 9 (by decide) (hts (.fieldLink RX6 60 "BackLensesModel" "toldLines" "I") (List.mem_of_getElem? (i := 4) rfl)) (fun _ h9 => h9) rfl (by decide +kernel) rfl rfl (Nat.le_of_ble_eq_true rfl) dX6_readLine_120 (fun H locs hP hD hS => ?_)
          replace hP : xP G [iA G (ad 2) 85 D, iA G (ad 3) 160 tb, oC ko 6 [.ref (ad 0), .ref (ad 1), .int (nI w), .int (nI h), .int (nI la), .ref (ad 2), .int (nI dw), .int (nI dh), .int (nI dl), .int (tl ||| ((nI 1) <<< ((nI 0) &&& 31))), .int tc, .int hc, .int hd, .ref (ad 3), .int (nI tp), .int (nI ps), .int (nI fr), .int (nI so), .int vl, .int (nI 4), .int (nI fr), .ref (ad 4), .ref (ad 5), .ref (ad 6), .ref (ad 7), .ref (ad 8), .ref (ad 9), .ref (ad 10), .int tr]] H := hP
          replace hD : va_D (va_A (w_X6_readLine G ko ad w h la tp dw dh dl tl tc hc hd ps fr so vl ft wa tr tb D) ss.heap.size) [iA G (ad 2) 85 D, iA G (ad 3) 160 tb, oC ko 6 [.ref (ad 0), .ref (ad 1), .int (nI w), .int (nI h), .int (nI la), .ref (ad 2), .int (nI dw), .int (nI dh), .int (nI dl), .int (tl ||| ((nI 1) <<< ((nI 0) &&& 31))), .int tc, .int hc, .int hd, .ref (ad 3), .int (nI tp), .int (nI ps), .int (nI fr), .int (nI so), .int vl, .int (nI 4), .int (nI fr), .ref (ad 4), .ref (ad 5), .ref (ad 6), .ref (ad 7), .ref (ad 8), .ref (ad 9), .ref (ad 10), .int tr]] := hD
          have hKj : mKd tb tp (ps, fr, so, vl, ft, wa) = nI 0 := (if_pos b5).trans hkv
          have hL : mLine tb tp ((ps, fr, so, vl, ft, wa), (dw, dh, dl), (tl, tc, hc, hd), D) = (mF 4 (ps, fr, so, vl, ft, wa), (dw, dh, dl), (orB tl 0, tc, hc, hd), D) := (mLine_k (by omega) hKj).trans ((if_neg (by omega)).trans ((if_pos (by omega)).trans (if_neg b99)))
          refine lv_aload_n hx hb dX6_readLine_123 rfl (lv_at hl 1 rfl) ?_
          refine xw_v (As := []) (rest := []) (wr := [iA G (ad 2) 85 D]) ⟨hx, hb, hml, hown, hts⟩ (c_X6_nextToken l G H.size ko ad w h la tp dw dh dl (tl ||| ((nI 1) <<< ((nI 0) &&& 31))) tc hc hd ps fr so vl 4 (nI fr) tr tb (by first | assumption | omega) (by first | assumption | omega) (by first | assumption | omega) (by first | assumption | omega)) (cwV 0 hts gX6_readLine_X6_nextToken rfl rfl rfl (by decide +kernel) ⟨Nat.le_of_ble_eq_true rfl, Nat.le_of_ble_eq_true rfl⟩) hK hP hD hS hA [2, 1] [0] rfl rfl (by decide) (by decide) (by decide) rfl rfl rfl hl.1 rfl (Nat.le_of_ble_eq_true rfl) dX6_readLine_124 ⟨Nat.le_of_ble_eq_true rfl, Nat.le_of_ble_eq_true rfl⟩ (fun u H locs hp124 hP hD hS => ?_)
          obtain ⟨ps2_124, fr2_124, so2_124, vl2_124, ft2_124, wa2_124⟩ := u
          try dsimp only at hp124 hP hD
          have he124 := hp124
          replace hP : xP G [iA G (ad 2) 85 D, oC ko 6 [.ref (ad 0), .ref (ad 1), .int (nI w), .int (nI h), .int (nI la), .ref (ad 2), .int (nI dw), .int (nI dh), .int (nI dl), .int (tl ||| ((nI 1) <<< ((nI 0) &&& 31))), .int tc, .int hc, .int hd, .ref (ad 3), .int (nI tp), .int (nI ps2_124), .int (nI fr2_124), .int (nI so2_124), .int vl2_124, .int (nI ft2_124), .int wa2_124, .ref (ad 4), .ref (ad 5), .ref (ad 6), .ref (ad 7), .ref (ad 8), .ref (ad 9), .ref (ad 10), .int tr], iA G (ad 3) 160 tb] H := hP
          replace hD : va_D (va_A (w_X6_readLine G ko ad w h la tp dw dh dl tl tc hc hd ps fr so vl ft wa tr tb D) ss.heap.size) [iA G (ad 2) 85 D, oC ko 6 [.ref (ad 0), .ref (ad 1), .int (nI w), .int (nI h), .int (nI la), .ref (ad 2), .int (nI dw), .int (nI dh), .int (nI dl), .int (tl ||| ((nI 1) <<< ((nI 0) &&& 31))), .int tc, .int hc, .int hd, .ref (ad 3), .int (nI tp), .int (nI ps2_124), .int (nI fr2_124), .int (nI so2_124), .int vl2_124, .int (nI ft2_124), .int wa2_124, .ref (ad 4), .ref (ad 5), .ref (ad 6), .ref (ad 7), .ref (ad 8), .ref (ad 9), .ref (ad 10), .int tr], iA G (ad 3) 160 tb] := hD
          have ho124 : mOk tp (ps2_124, fr2_124, so2_124, vl2_124, ft2_124, wa2_124) := (by rw [he124]; exact mTok_ok (mF_ok (s := (ps, fr, so, vl, ft, wa)) (by omega) ho0))
          have hps124 : ps2_124 ≤ tp := ho124.1
          have hft124 : ft2_124 ≤ 6 := ho124.2.1
          have hso124 : so2_124 ≤ 3 := ho124.2.2.1
          have hfr124 : fr2_124 ≤ ps2_124 := ho124.2.2.2
          have hT := he124.trans (mTok_0 (by decide))
          have hq9 : ft2_124 = 4 := congrArg (fun a : MS => a.2.2.2.2.1) hT
          refine lv_aload_n hx hb dX6_readLine_127 rfl (lv_at hl 1 rfl) ?_
          refine va_get (D := G.1) (ci := 6) (v := .int (nI ft2_124)) (C := RX6) (T := TX6) (N := 29) hx hb hts hin6 hown hK.1 hP 1 rfl rfl 19 (by decide) (hts (.fieldLink RX6 90 "BackLensesModel" "fault" "I") (List.mem_of_getElem? (i := 3) rfl)) (fun _ h9 => h9) rfl dX6_readLine_128 ?_
          refine xn_if_le (tgt := 135) hx hb (by omega) dX6_readLine_131 rfl (fun b131 => absurd b131 (by omega)) (fun _ => ?_)
          have hP := hP.sub (ws' := [oC ko 6 [.ref (ad 0), .ref (ad 1), .int (nI w), .int (nI h), .int (nI la), .ref (ad 2), .int (nI dw), .int (nI dh), .int (nI dl), .int (tl ||| ((nI 1) <<< ((nI 0) &&& 31))), .int tc, .int hc, .int hd, .ref (ad 3), .int (nI tp), .int (nI ps2_124), .int (nI fr2_124), .int (nI so2_124), .int vl2_124, .int (nI ft2_124), .int wa2_124, .ref (ad 4), .ref (ad 5), .ref (ad 6), .ref (ad 7), .ref (ad 8), .ref (ad 9), .ref (ad 10), .int tr], iA G (ad 2) 85 D, iA G (ad 3) 160 tb]) [1, 0, 2] rfl
          have hD := hD.sub (ws' := [oC ko 6 [.ref (ad 0), .ref (ad 1), .int (nI w), .int (nI h), .int (nI la), .ref (ad 2), .int (nI dw), .int (nI dh), .int (nI dl), .int (tl ||| ((nI 1) <<< ((nI 0) &&& 31))), .int tc, .int hc, .int hd, .ref (ad 3), .int (nI tp), .int (nI ps2_124), .int (nI fr2_124), .int (nI so2_124), .int vl2_124, .int (nI ft2_124), .int wa2_124, .ref (ad 4), .ref (ad 5), .ref (ad 6), .ref (ad 7), .ref (ad 8), .ref (ad 9), .ref (ad 10), .int tr], iA G (ad 2) 85 D, iA G (ad 3) 160 tb]) [1, 0, 2] (by decide) rfl
          refine W.vret hx hb hr (fun t ht hW => ⟨⟨(ps2_124, fr2_124, so2_124, vl2_124, ft2_124, wa2_124, dw, dh, dl, (tl ||| ((nI 1) <<< ((nI 0) &&& 31))), tc, hc, hd, D), rfl, ?_, by rw [ht]; exact hP, hD⟩, hS.F ht⟩) hS.2.2 dX6_readLine_134
          try dsimp only
          first | exact (hL.trans (congrArg (fun a => (a, _)) hT.symm)).symm | exact (hL.trans (mGo_0 he124 h124)).symm
        · skip
          refine lv_iconst (v := nI 1) hx hb dX6_readLine_102 (by decide) ?_
          refine lv_goto (tgt := 107) hx hb dX6_readLine_103 rfl ?_
          refine lv_iconst (v := nI 4) hx hb dX6_readLine_107 (by decide) ?_
          refine xw_v (As := [.int (nI 1), .int (nI 4)]) (rest := []) (wr := [iA G (ad 2) 85 D, iA G (ad 3) 160 tb]) ⟨hx, hb, hml, hown, hts⟩ (c_X6_needs_1 l G H.size ko ad w h la tp dw dh dl tl tc hc hd ps fr so vl ft wa tr 4 ) (cwV 2 hts gX6_readLine_X6_needs rfl rfl rfl (by decide +kernel) ⟨Nat.le_of_ble_eq_true rfl, Nat.le_of_ble_eq_true rfl⟩) hK hP hD hS hA [2] [0, 1] rfl rfl (by decide) (by decide) (by decide) rfl rfl rfl hl.1 rfl (Nat.le_of_ble_eq_true rfl) dX6_readLine_108 ⟨Nat.le_of_ble_eq_true rfl, Nat.le_of_ble_eq_true rfl⟩ (fun u H locs hp108 hP hD hS => ?_)
          replace hP : xP G [iA G (ad 2) 85 D, iA G (ad 3) 160 tb, oC ko 6 [.ref (ad 0), .ref (ad 1), .int (nI w), .int (nI h), .int (nI la), .ref (ad 2), .int (nI dw), .int (nI dh), .int (nI dl), .int tl, .int tc, .int hc, .int hd, .ref (ad 3), .int (nI tp), .int (nI ps), .int (nI fr), .int (nI so), .int vl, .int (nI ft), .int wa, .ref (ad 4), .ref (ad 5), .ref (ad 6), .ref (ad 7), .ref (ad 8), .ref (ad 9), .ref (ad 10), .int tr]] H := hP
          replace hD : va_D (va_A (w_X6_readLine G ko ad w h la tp dw dh dl tl tc hc hd ps fr so vl ft wa tr tb D) ss.heap.size) [iA G (ad 2) 85 D, iA G (ad 3) 160 tb, oC ko 6 [.ref (ad 0), .ref (ad 1), .int (nI w), .int (nI h), .int (nI la), .ref (ad 2), .int (nI dw), .int (nI dh), .int (nI dl), .int tl, .int tc, .int hc, .int hd, .ref (ad 3), .int (nI tp), .int (nI ps), .int (nI fr), .int (nI so), .int vl, .int (nI ft), .int wa, .ref (ad 4), .ref (ad 5), .ref (ad 6), .ref (ad 7), .ref (ad 8), .ref (ad 9), .ref (ad 10), .int tr]] := hD
          refine lv_aload_n hx hb dX6_readLine_111 rfl (lv_at hl 1 rfl) ?_
          refine lv_dup hx hb dX6_readLine_112 rfl ?_
          refine va_get (D := G.1) (ci := 6) (v := .int tl) (C := RX6) (T := TX6) (N := 29) hx hb hts hin6 hown hK.1 hP 2 rfl rfl 9 (by decide) (hts (.fieldLink RX6 60 "BackLensesModel" "toldLines" "I") (List.mem_of_getElem? (i := 4) rfl)) (fun _ h9 => h9) rfl dX6_readLine_113 ?_
          refine lv_iconst (v := nI 1) hx hb dX6_readLine_116 (by decide) ?_
          refine lv_iload_n hx hb dX6_readLine_117 rfl (lv_at hl 0 rfl) ?_
          refine lv_ishl hx hb dX6_readLine_118 ?_
          refine lv_ior hx hb dX6_readLine_119 ?_
          refine va_put (D := G.1) (ci := 6) (v := .int (tl ||| ((nI 1) <<< ((nI 0) &&& 31)))) (ty := .int) (C := RX6) (T := TX6) (N := 29) hx hb hts hin6 tyX6 tyX6_ok nmX6 hown hK.1 hP hD hS 2 rfl rfl 9 (by decide) (hts (.fieldLink RX6 60 "BackLensesModel" "toldLines" "I") (List.mem_of_getElem? (i := 4) rfl)) (fun _ h9 => h9) rfl (by decide +kernel) rfl rfl (Nat.le_of_ble_eq_true rfl) dX6_readLine_120 (fun H locs hP hD hS => ?_)
          replace hP : xP G [iA G (ad 2) 85 D, iA G (ad 3) 160 tb, oC ko 6 [.ref (ad 0), .ref (ad 1), .int (nI w), .int (nI h), .int (nI la), .ref (ad 2), .int (nI dw), .int (nI dh), .int (nI dl), .int (tl ||| ((nI 1) <<< ((nI 0) &&& 31))), .int tc, .int hc, .int hd, .ref (ad 3), .int (nI tp), .int (nI ps), .int (nI fr), .int (nI so), .int vl, .int (nI ft), .int wa, .ref (ad 4), .ref (ad 5), .ref (ad 6), .ref (ad 7), .ref (ad 8), .ref (ad 9), .ref (ad 10), .int tr]] H := hP
          replace hD : va_D (va_A (w_X6_readLine G ko ad w h la tp dw dh dl tl tc hc hd ps fr so vl ft wa tr tb D) ss.heap.size) [iA G (ad 2) 85 D, iA G (ad 3) 160 tb, oC ko 6 [.ref (ad 0), .ref (ad 1), .int (nI w), .int (nI h), .int (nI la), .ref (ad 2), .int (nI dw), .int (nI dh), .int (nI dl), .int (tl ||| ((nI 1) <<< ((nI 0) &&& 31))), .int tc, .int hc, .int hd, .ref (ad 3), .int (nI tp), .int (nI ps), .int (nI fr), .int (nI so), .int vl, .int (nI ft), .int wa, .ref (ad 4), .ref (ad 5), .ref (ad 6), .ref (ad 7), .ref (ad 8), .ref (ad 9), .ref (ad 10), .int tr]] := hD
          have hKj : mKd tb tp (ps, fr, so, vl, ft, wa) = nI 0 := (if_pos b5).trans hkv
          have hL : mLine tb tp ((ps, fr, so, vl, ft, wa), (dw, dh, dl), (tl, tc, hc, hd), D) = mGo tb tp 0 ((ps, fr, so, vl, ft, wa), (dw, dh, dl), (orB tl 0, tc, hc, hd), D) := (mLine_k (by omega) hKj).trans ((if_neg (by omega)).trans ((if_pos (by omega)).trans (if_pos b99)))
          refine lv_aload_n hx hb dX6_readLine_123 rfl (lv_at hl 1 rfl) ?_
          refine xw_v (As := []) (rest := []) (wr := [iA G (ad 2) 85 D]) ⟨hx, hb, hml, hown, hts⟩ (c_X6_nextToken l G H.size ko ad w h la tp dw dh dl (tl ||| ((nI 1) <<< ((nI 0) &&& 31))) tc hc hd ps fr so vl ft wa tr tb (by first | assumption | omega) (by first | assumption | omega) (by first | assumption | omega) (by first | assumption | omega)) (cwV 0 hts gX6_readLine_X6_nextToken rfl rfl rfl (by decide +kernel) ⟨Nat.le_of_ble_eq_true rfl, Nat.le_of_ble_eq_true rfl⟩) hK hP hD hS hA [2, 1] [0] rfl rfl (by decide) (by decide) (by decide) rfl rfl rfl hl.1 rfl (Nat.le_of_ble_eq_true rfl) dX6_readLine_124 ⟨Nat.le_of_ble_eq_true rfl, Nat.le_of_ble_eq_true rfl⟩ (fun u H locs hp124 hP hD hS => ?_)
          obtain ⟨ps2_124, fr2_124, so2_124, vl2_124, ft2_124, wa2_124⟩ := u
          try dsimp only at hp124 hP hD
          have he124 := hp124
          replace hP : xP G [iA G (ad 2) 85 D, oC ko 6 [.ref (ad 0), .ref (ad 1), .int (nI w), .int (nI h), .int (nI la), .ref (ad 2), .int (nI dw), .int (nI dh), .int (nI dl), .int (tl ||| ((nI 1) <<< ((nI 0) &&& 31))), .int tc, .int hc, .int hd, .ref (ad 3), .int (nI tp), .int (nI ps2_124), .int (nI fr2_124), .int (nI so2_124), .int vl2_124, .int (nI ft2_124), .int wa2_124, .ref (ad 4), .ref (ad 5), .ref (ad 6), .ref (ad 7), .ref (ad 8), .ref (ad 9), .ref (ad 10), .int tr], iA G (ad 3) 160 tb] H := hP
          replace hD : va_D (va_A (w_X6_readLine G ko ad w h la tp dw dh dl tl tc hc hd ps fr so vl ft wa tr tb D) ss.heap.size) [iA G (ad 2) 85 D, oC ko 6 [.ref (ad 0), .ref (ad 1), .int (nI w), .int (nI h), .int (nI la), .ref (ad 2), .int (nI dw), .int (nI dh), .int (nI dl), .int (tl ||| ((nI 1) <<< ((nI 0) &&& 31))), .int tc, .int hc, .int hd, .ref (ad 3), .int (nI tp), .int (nI ps2_124), .int (nI fr2_124), .int (nI so2_124), .int vl2_124, .int (nI ft2_124), .int wa2_124, .ref (ad 4), .ref (ad 5), .ref (ad 6), .ref (ad 7), .ref (ad 8), .ref (ad 9), .ref (ad 10), .int tr], iA G (ad 3) 160 tb] := hD
          have ho124 : mOk tp (ps2_124, fr2_124, so2_124, vl2_124, ft2_124, wa2_124) := (by rw [he124]; exact mTok_ok (ho0))
          have hps124 : ps2_124 ≤ tp := ho124.1
          have hft124 : ft2_124 ≤ 6 := ho124.2.1
          have hso124 : so2_124 ≤ 3 := ho124.2.2.1
          have hfr124 : fr2_124 ≤ ps2_124 := ho124.2.2.2
          refine lv_aload_n hx hb dX6_readLine_127 rfl (lv_at hl 1 rfl) ?_
          refine va_get (D := G.1) (ci := 6) (v := .int (nI ft2_124)) (C := RX6) (T := TX6) (N := 29) hx hb hts hin6 hown hK.1 hP 1 rfl rfl 19 (by decide) (hts (.fieldLink RX6 90 "BackLensesModel" "fault" "I") (List.mem_of_getElem? (i := 3) rfl)) (fun _ h9 => h9) rfl dX6_readLine_128 ?_
          refine xn_if_le (tgt := 135) hx hb (by omega) dX6_readLine_131 rfl (fun b131 => ?_) (fun b131 => ?_)
          · skip
            have h124 : ft2_124 = 0 := (by omega)
            refine lv_aload_n hx hb dX6_readLine_135 rfl (lv_at hl 1 rfl) ?_
            refine lv_iload_n hx hb dX6_readLine_136 rfl (lv_at hl 0 rfl) ?_
            refine xw_v (As := [.int (nI 0)]) (rest := []) (wr := []) ⟨hx, hb, hml, hown, hts⟩ (c_X6_readLineOf_0 l G H.size ko ad w h la tp dw dh dl (tl ||| ((nI 1) <<< ((nI 0) &&& 31))) tc hc hd ps2_124 fr2_124 so2_124 vl2_124 ft2_124 wa2_124 tr tb D (by first | assumption | omega) (by first | assumption | omega) (by first | assumption | omega) (by first | assumption | omega) (by first | assumption | omega) (by first | assumption | omega)) (cwV 1 hts gX6_readLine_X6_readLineOf rfl rfl rfl (by decide +kernel) ⟨Nat.le_of_ble_eq_true rfl, Nat.le_of_ble_eq_true rfl⟩) hK hP hD hS hA [1, 0, 2] [] rfl rfl (by decide) (by decide) (by decide) rfl rfl rfl hl.1 rfl (Nat.le_of_ble_eq_true rfl) dX6_readLine_137 ⟨Nat.le_of_ble_eq_true rfl, Nat.le_of_ble_eq_true rfl⟩ (fun u H locs hp137 hP hD hS => ?_)
            obtain ⟨ps2_137, fr2_137, so2_137, vl2_137, ft2_137, wa2_137, dw2_137, dh2_137⟩ := u
            try dsimp only at hp137 hP hD
            have he137 := hp137
            replace hP : xP G [oC ko 6 [.ref (ad 0), .ref (ad 1), .int (nI w), .int (nI h), .int (nI la), .ref (ad 2), .int (nI dw2_137), .int (nI dh2_137), .int (nI dl), .int (tl ||| ((nI 1) <<< ((nI 0) &&& 31))), .int tc, .int hc, .int hd, .ref (ad 3), .int (nI tp), .int (nI ps2_137), .int (nI fr2_137), .int (nI so2_137), .int vl2_137, .int (nI ft2_137), .int wa2_137, .ref (ad 4), .ref (ad 5), .ref (ad 6), .ref (ad 7), .ref (ad 8), .ref (ad 9), .ref (ad 10), .int tr], iA G (ad 2) 85 D, iA G (ad 3) 160 tb] H := hP
            replace hD : va_D (va_A (w_X6_readLine G ko ad w h la tp dw dh dl tl tc hc hd ps fr so vl ft wa tr tb D) ss.heap.size) [oC ko 6 [.ref (ad 0), .ref (ad 1), .int (nI w), .int (nI h), .int (nI la), .ref (ad 2), .int (nI dw2_137), .int (nI dh2_137), .int (nI dl), .int (tl ||| ((nI 1) <<< ((nI 0) &&& 31))), .int tc, .int hc, .int hd, .ref (ad 3), .int (nI tp), .int (nI ps2_137), .int (nI fr2_137), .int (nI so2_137), .int vl2_137, .int (nI ft2_137), .int wa2_137, .ref (ad 4), .ref (ad 5), .ref (ad 6), .ref (ad 7), .ref (ad 8), .ref (ad 9), .ref (ad 10), .int tr], iA G (ad 2) 85 D, iA G (ad 3) 160 tb] := hD
            have ho137 : mOk tp (ps2_137, fr2_137, so2_137, vl2_137, ft2_137, wa2_137) := (by rw [show (ps2_137, fr2_137, so2_137, vl2_137, ft2_137, wa2_137) = (mLof tb tp 0 ((ps2_124, fr2_124, so2_124, vl2_124, ft2_124, wa2_124), (dw, dh, dl), (orB tl 0, tc, hc, hd), D)).1 from congrArg (fun a : XS => a.1) he137]; exact (mLof_ok ho124).1)
            have hps137 : ps2_137 ≤ tp := ho137.1
            have hft137 : ft2_137 ≤ 6 := ho137.2.1
            have hso137 : so2_137 ≤ 3 := ho137.2.2.1
            have hfr137 : fr2_137 ≤ ps2_137 := ho137.2.2.2
            refine lv_aload_n hx hb dX6_readLine_140 rfl (lv_at hl 1 rfl) ?_
            refine va_get (D := G.1) (ci := 6) (v := .int (nI ft2_137)) (C := RX6) (T := TX6) (N := 29) hx hb hts hin6 hown hK.1 hP 0 rfl rfl 19 (by decide) (hts (.fieldLink RX6 90 "BackLensesModel" "fault" "I") (List.mem_of_getElem? (i := 3) rfl)) (fun _ h9 => h9) rfl dX6_readLine_141 ?_
            refine xn_if_ne (tgt := 165) hx hb (by omega) dX6_readLine_144 rfl (fun b144 => ?_) (fun b144 => ?_)
            · skip
              refine lv_aload_n hx hb dX6_readLine_165 rfl (lv_at hl 1 rfl) ?_
              refine xw_v (As := []) (rest := []) (wr := [iA G (ad 2) 85 D]) ⟨hx, hb, hml, hown, hts⟩ (c_X6_nextToken l G H.size ko ad w h la tp dw2_137 dh2_137 dl (tl ||| ((nI 1) <<< ((nI 0) &&& 31))) tc hc hd ps2_137 fr2_137 so2_137 vl2_137 ft2_137 wa2_137 tr tb (by first | assumption | omega) (by first | assumption | omega) (by first | assumption | omega) (by first | assumption | omega)) (cwV 0 hts gX6_readLine_X6_nextToken rfl rfl rfl (by decide +kernel) ⟨Nat.le_of_ble_eq_true rfl, Nat.le_of_ble_eq_true rfl⟩) hK hP hD hS hA [0, 2] [1] rfl rfl (by decide) (by decide) (by decide) rfl rfl rfl hl.1 rfl (Nat.le_of_ble_eq_true rfl) dX6_readLine_166 ⟨Nat.le_of_ble_eq_true rfl, Nat.le_of_ble_eq_true rfl⟩ (fun u H locs hp166 hP hD hS => ?_)
              obtain ⟨ps2_166, fr2_166, so2_166, vl2_166, ft2_166, wa2_166⟩ := u
              try dsimp only at hp166 hP hD
              have he166 := hp166
              replace hP : xP G [iA G (ad 2) 85 D, oC ko 6 [.ref (ad 0), .ref (ad 1), .int (nI w), .int (nI h), .int (nI la), .ref (ad 2), .int (nI dw2_137), .int (nI dh2_137), .int (nI dl), .int (tl ||| ((nI 1) <<< ((nI 0) &&& 31))), .int tc, .int hc, .int hd, .ref (ad 3), .int (nI tp), .int (nI ps2_166), .int (nI fr2_166), .int (nI so2_166), .int vl2_166, .int (nI ft2_166), .int wa2_166, .ref (ad 4), .ref (ad 5), .ref (ad 6), .ref (ad 7), .ref (ad 8), .ref (ad 9), .ref (ad 10), .int tr], iA G (ad 3) 160 tb] H := hP
              replace hD : va_D (va_A (w_X6_readLine G ko ad w h la tp dw dh dl tl tc hc hd ps fr so vl ft wa tr tb D) ss.heap.size) [iA G (ad 2) 85 D, oC ko 6 [.ref (ad 0), .ref (ad 1), .int (nI w), .int (nI h), .int (nI la), .ref (ad 2), .int (nI dw2_137), .int (nI dh2_137), .int (nI dl), .int (tl ||| ((nI 1) <<< ((nI 0) &&& 31))), .int tc, .int hc, .int hd, .ref (ad 3), .int (nI tp), .int (nI ps2_166), .int (nI fr2_166), .int (nI so2_166), .int vl2_166, .int (nI ft2_166), .int wa2_166, .ref (ad 4), .ref (ad 5), .ref (ad 6), .ref (ad 7), .ref (ad 8), .ref (ad 9), .ref (ad 10), .int tr], iA G (ad 3) 160 tb] := hD
              have hP := hP.sub (ws' := [oC ko 6 [.ref (ad 0), .ref (ad 1), .int (nI w), .int (nI h), .int (nI la), .ref (ad 2), .int (nI dw2_137), .int (nI dh2_137), .int (nI dl), .int (tl ||| ((nI 1) <<< ((nI 0) &&& 31))), .int tc, .int hc, .int hd, .ref (ad 3), .int (nI tp), .int (nI ps2_166), .int (nI fr2_166), .int (nI so2_166), .int vl2_166, .int (nI ft2_166), .int wa2_166, .ref (ad 4), .ref (ad 5), .ref (ad 6), .ref (ad 7), .ref (ad 8), .ref (ad 9), .ref (ad 10), .int tr], iA G (ad 2) 85 D, iA G (ad 3) 160 tb]) [1, 0, 2] rfl
              have hD := hD.sub (ws' := [oC ko 6 [.ref (ad 0), .ref (ad 1), .int (nI w), .int (nI h), .int (nI la), .ref (ad 2), .int (nI dw2_137), .int (nI dh2_137), .int (nI dl), .int (tl ||| ((nI 1) <<< ((nI 0) &&& 31))), .int tc, .int hc, .int hd, .ref (ad 3), .int (nI tp), .int (nI ps2_166), .int (nI fr2_166), .int (nI so2_166), .int vl2_166, .int (nI ft2_166), .int wa2_166, .ref (ad 4), .ref (ad 5), .ref (ad 6), .ref (ad 7), .ref (ad 8), .ref (ad 9), .ref (ad 10), .int tr], iA G (ad 2) 85 D, iA G (ad 3) 160 tb]) [1, 0, 2] (by decide) rfl
              refine W.vret hx hb hr (fun t ht hW => ⟨⟨(ps2_166, fr2_166, so2_166, vl2_166, ft2_166, wa2_166, dw2_137, dh2_137, dl, (tl ||| ((nI 1) <<< ((nI 0) &&& 31))), tc, hc, hd, D), rfl, ?_, by rw [ht]; exact hP, hD⟩, hS.F ht⟩) hS.2.2 dX6_readLine_169
              try dsimp only
              first | exact (hL.trans (mGo_1 he124 h124 he137 (if_neg b144).symm he166)).symm | exact (hL.trans (mGo_1 he124 h124 he137 ((if_pos b144).trans (if_pos b153)).symm he166)).symm | exact (hL.trans (mGo_1 he124 h124 he137 ((if_pos b144).trans (if_neg b153)).symm he166)).symm
            · skip
              refine lv_aload_n hx hb dX6_readLine_147 rfl (lv_at hl 1 rfl) ?_
              refine lv_aload_n hx hb dX6_readLine_148 rfl (lv_at hl 1 rfl) ?_
              refine va_get (D := G.1) (ci := 6) (v := .int (nI so2_137)) (C := RX6) (T := TX6) (N := 29) hx hb hts hin6 hown hK.1 hP 0 rfl rfl 17 (by decide) (hts (.fieldLink RX6 110 "BackLensesModel" "sort" "I") (List.mem_of_getElem? (i := 1) rfl)) (fun _ h9 => h9) rfl dX6_readLine_149 ?_
              refine lv_iconst (v := nI 3) hx hb dX6_readLine_152 (by decide) ?_
              refine xn_icmp_ne (tgt := 160) hx hb (by omega) (by omega) dX6_readLine_153 rfl (fun b153 => ?_) (fun b153 => ?_)
              · skip
                refine lv_iconst (v := nI 0) hx hb dX6_readLine_160 (by decide) ?_
                refine lv_iconst (v := nI 2) hx hb dX6_readLine_161 (by decide) ?_
                refine xw_v (As := [.int (nI 0), .int (nI 2)]) (rest := []) (wr := [iA G (ad 2) 85 D, iA G (ad 3) 160 tb]) ⟨hx, hb, hml, hown, hts⟩ (c_X6_needs_0 l G H.size ko ad w h la tp dw2_137 dh2_137 dl (tl ||| ((nI 1) <<< ((nI 0) &&& 31))) tc hc hd ps2_137 fr2_137 so2_137 vl2_137 ft2_137 wa2_137 tr 2 (by first | assumption | omega)) (cwV 2 hts gX6_readLine_X6_needs rfl rfl rfl (by decide +kernel) ⟨Nat.le_of_ble_eq_true rfl, Nat.le_of_ble_eq_true rfl⟩) hK hP hD hS hA [0] [1, 2] rfl rfl (by decide) (by decide) (by decide) rfl rfl rfl hl.1 rfl (Nat.le_of_ble_eq_true rfl) dX6_readLine_162 ⟨Nat.le_of_ble_eq_true rfl, Nat.le_of_ble_eq_true rfl⟩ (fun u H locs hp162 hP hD hS => ?_)
                replace hP : xP G [iA G (ad 2) 85 D, iA G (ad 3) 160 tb, oC ko 6 [.ref (ad 0), .ref (ad 1), .int (nI w), .int (nI h), .int (nI la), .ref (ad 2), .int (nI dw2_137), .int (nI dh2_137), .int (nI dl), .int (tl ||| ((nI 1) <<< ((nI 0) &&& 31))), .int tc, .int hc, .int hd, .ref (ad 3), .int (nI tp), .int (nI ps2_137), .int (nI fr2_137), .int (nI so2_137), .int vl2_137, .int (nI 2), .int (nI fr2_137), .ref (ad 4), .ref (ad 5), .ref (ad 6), .ref (ad 7), .ref (ad 8), .ref (ad 9), .ref (ad 10), .int tr]] H := hP
                replace hD : va_D (va_A (w_X6_readLine G ko ad w h la tp dw dh dl tl tc hc hd ps fr so vl ft wa tr tb D) ss.heap.size) [iA G (ad 2) 85 D, iA G (ad 3) 160 tb, oC ko 6 [.ref (ad 0), .ref (ad 1), .int (nI w), .int (nI h), .int (nI la), .ref (ad 2), .int (nI dw2_137), .int (nI dh2_137), .int (nI dl), .int (tl ||| ((nI 1) <<< ((nI 0) &&& 31))), .int tc, .int hc, .int hd, .ref (ad 3), .int (nI tp), .int (nI ps2_137), .int (nI fr2_137), .int (nI so2_137), .int vl2_137, .int (nI 2), .int (nI fr2_137), .ref (ad 4), .ref (ad 5), .ref (ad 6), .ref (ad 7), .ref (ad 8), .ref (ad 9), .ref (ad 10), .int tr]] := hD
                refine lv_aload_n hx hb dX6_readLine_165 rfl (lv_at hl 1 rfl) ?_
                refine xw_v (As := []) (rest := []) (wr := [iA G (ad 2) 85 D]) ⟨hx, hb, hml, hown, hts⟩ (c_X6_nextToken l G H.size ko ad w h la tp dw2_137 dh2_137 dl (tl ||| ((nI 1) <<< ((nI 0) &&& 31))) tc hc hd ps2_137 fr2_137 so2_137 vl2_137 2 (nI fr2_137) tr tb (by first | assumption | omega) (by first | assumption | omega) (by first | assumption | omega) (by first | assumption | omega)) (cwV 0 hts gX6_readLine_X6_nextToken rfl rfl rfl (by decide +kernel) ⟨Nat.le_of_ble_eq_true rfl, Nat.le_of_ble_eq_true rfl⟩) hK hP hD hS hA [2, 1] [0] rfl rfl (by decide) (by decide) (by decide) rfl rfl rfl hl.1 rfl (Nat.le_of_ble_eq_true rfl) dX6_readLine_166 ⟨Nat.le_of_ble_eq_true rfl, Nat.le_of_ble_eq_true rfl⟩ (fun u H locs hp166 hP hD hS => ?_)
                obtain ⟨ps2_166, fr2_166, so2_166, vl2_166, ft2_166, wa2_166⟩ := u
                try dsimp only at hp166 hP hD
                have he166 := hp166
                replace hP : xP G [iA G (ad 2) 85 D, oC ko 6 [.ref (ad 0), .ref (ad 1), .int (nI w), .int (nI h), .int (nI la), .ref (ad 2), .int (nI dw2_137), .int (nI dh2_137), .int (nI dl), .int (tl ||| ((nI 1) <<< ((nI 0) &&& 31))), .int tc, .int hc, .int hd, .ref (ad 3), .int (nI tp), .int (nI ps2_166), .int (nI fr2_166), .int (nI so2_166), .int vl2_166, .int (nI ft2_166), .int wa2_166, .ref (ad 4), .ref (ad 5), .ref (ad 6), .ref (ad 7), .ref (ad 8), .ref (ad 9), .ref (ad 10), .int tr], iA G (ad 3) 160 tb] H := hP
                replace hD : va_D (va_A (w_X6_readLine G ko ad w h la tp dw dh dl tl tc hc hd ps fr so vl ft wa tr tb D) ss.heap.size) [iA G (ad 2) 85 D, oC ko 6 [.ref (ad 0), .ref (ad 1), .int (nI w), .int (nI h), .int (nI la), .ref (ad 2), .int (nI dw2_137), .int (nI dh2_137), .int (nI dl), .int (tl ||| ((nI 1) <<< ((nI 0) &&& 31))), .int tc, .int hc, .int hd, .ref (ad 3), .int (nI tp), .int (nI ps2_166), .int (nI fr2_166), .int (nI so2_166), .int vl2_166, .int (nI ft2_166), .int wa2_166, .ref (ad 4), .ref (ad 5), .ref (ad 6), .ref (ad 7), .ref (ad 8), .ref (ad 9), .ref (ad 10), .int tr], iA G (ad 3) 160 tb] := hD
                have hP := hP.sub (ws' := [oC ko 6 [.ref (ad 0), .ref (ad 1), .int (nI w), .int (nI h), .int (nI la), .ref (ad 2), .int (nI dw2_137), .int (nI dh2_137), .int (nI dl), .int (tl ||| ((nI 1) <<< ((nI 0) &&& 31))), .int tc, .int hc, .int hd, .ref (ad 3), .int (nI tp), .int (nI ps2_166), .int (nI fr2_166), .int (nI so2_166), .int vl2_166, .int (nI ft2_166), .int wa2_166, .ref (ad 4), .ref (ad 5), .ref (ad 6), .ref (ad 7), .ref (ad 8), .ref (ad 9), .ref (ad 10), .int tr], iA G (ad 2) 85 D, iA G (ad 3) 160 tb]) [1, 0, 2] rfl
                have hD := hD.sub (ws' := [oC ko 6 [.ref (ad 0), .ref (ad 1), .int (nI w), .int (nI h), .int (nI la), .ref (ad 2), .int (nI dw2_137), .int (nI dh2_137), .int (nI dl), .int (tl ||| ((nI 1) <<< ((nI 0) &&& 31))), .int tc, .int hc, .int hd, .ref (ad 3), .int (nI tp), .int (nI ps2_166), .int (nI fr2_166), .int (nI so2_166), .int vl2_166, .int (nI ft2_166), .int wa2_166, .ref (ad 4), .ref (ad 5), .ref (ad 6), .ref (ad 7), .ref (ad 8), .ref (ad 9), .ref (ad 10), .int tr], iA G (ad 2) 85 D, iA G (ad 3) 160 tb]) [1, 0, 2] (by decide) rfl
                refine W.vret hx hb hr (fun t ht hW => ⟨⟨(ps2_166, fr2_166, so2_166, vl2_166, ft2_166, wa2_166, dw2_137, dh2_137, dl, (tl ||| ((nI 1) <<< ((nI 0) &&& 31))), tc, hc, hd, D), rfl, ?_, by rw [ht]; exact hP, hD⟩, hS.F ht⟩) hS.2.2 dX6_readLine_169
                try dsimp only
                first | exact (hL.trans (mGo_1 he124 h124 he137 (if_neg b144).symm he166)).symm | exact (hL.trans (mGo_1 he124 h124 he137 ((if_pos b144).trans (if_pos b153)).symm he166)).symm | exact (hL.trans (mGo_1 he124 h124 he137 ((if_pos b144).trans (if_neg b153)).symm he166)).symm
              · skip
                refine lv_iconst (v := nI 1) hx hb dX6_readLine_156 (by decide) ?_
                refine lv_goto (tgt := 161) hx hb dX6_readLine_157 rfl ?_
                refine lv_iconst (v := nI 2) hx hb dX6_readLine_161 (by decide) ?_
                refine xw_v (As := [.int (nI 1), .int (nI 2)]) (rest := []) (wr := [iA G (ad 2) 85 D, iA G (ad 3) 160 tb]) ⟨hx, hb, hml, hown, hts⟩ (c_X6_needs_1 l G H.size ko ad w h la tp dw2_137 dh2_137 dl (tl ||| ((nI 1) <<< ((nI 0) &&& 31))) tc hc hd ps2_137 fr2_137 so2_137 vl2_137 ft2_137 wa2_137 tr 2 ) (cwV 2 hts gX6_readLine_X6_needs rfl rfl rfl (by decide +kernel) ⟨Nat.le_of_ble_eq_true rfl, Nat.le_of_ble_eq_true rfl⟩) hK hP hD hS hA [0] [1, 2] rfl rfl (by decide) (by decide) (by decide) rfl rfl rfl hl.1 rfl (Nat.le_of_ble_eq_true rfl) dX6_readLine_162 ⟨Nat.le_of_ble_eq_true rfl, Nat.le_of_ble_eq_true rfl⟩ (fun u H locs hp162 hP hD hS => ?_)
                replace hP : xP G [iA G (ad 2) 85 D, iA G (ad 3) 160 tb, oC ko 6 [.ref (ad 0), .ref (ad 1), .int (nI w), .int (nI h), .int (nI la), .ref (ad 2), .int (nI dw2_137), .int (nI dh2_137), .int (nI dl), .int (tl ||| ((nI 1) <<< ((nI 0) &&& 31))), .int tc, .int hc, .int hd, .ref (ad 3), .int (nI tp), .int (nI ps2_137), .int (nI fr2_137), .int (nI so2_137), .int vl2_137, .int (nI ft2_137), .int wa2_137, .ref (ad 4), .ref (ad 5), .ref (ad 6), .ref (ad 7), .ref (ad 8), .ref (ad 9), .ref (ad 10), .int tr]] H := hP
                replace hD : va_D (va_A (w_X6_readLine G ko ad w h la tp dw dh dl tl tc hc hd ps fr so vl ft wa tr tb D) ss.heap.size) [iA G (ad 2) 85 D, iA G (ad 3) 160 tb, oC ko 6 [.ref (ad 0), .ref (ad 1), .int (nI w), .int (nI h), .int (nI la), .ref (ad 2), .int (nI dw2_137), .int (nI dh2_137), .int (nI dl), .int (tl ||| ((nI 1) <<< ((nI 0) &&& 31))), .int tc, .int hc, .int hd, .ref (ad 3), .int (nI tp), .int (nI ps2_137), .int (nI fr2_137), .int (nI so2_137), .int vl2_137, .int (nI ft2_137), .int wa2_137, .ref (ad 4), .ref (ad 5), .ref (ad 6), .ref (ad 7), .ref (ad 8), .ref (ad 9), .ref (ad 10), .int tr]] := hD
                refine lv_aload_n hx hb dX6_readLine_165 rfl (lv_at hl 1 rfl) ?_
                refine xw_v (As := []) (rest := []) (wr := [iA G (ad 2) 85 D]) ⟨hx, hb, hml, hown, hts⟩ (c_X6_nextToken l G H.size ko ad w h la tp dw2_137 dh2_137 dl (tl ||| ((nI 1) <<< ((nI 0) &&& 31))) tc hc hd ps2_137 fr2_137 so2_137 vl2_137 ft2_137 wa2_137 tr tb (by first | assumption | omega) (by first | assumption | omega) (by first | assumption | omega) (by first | assumption | omega)) (cwV 0 hts gX6_readLine_X6_nextToken rfl rfl rfl (by decide +kernel) ⟨Nat.le_of_ble_eq_true rfl, Nat.le_of_ble_eq_true rfl⟩) hK hP hD hS hA [2, 1] [0] rfl rfl (by decide) (by decide) (by decide) rfl rfl rfl hl.1 rfl (Nat.le_of_ble_eq_true rfl) dX6_readLine_166 ⟨Nat.le_of_ble_eq_true rfl, Nat.le_of_ble_eq_true rfl⟩ (fun u H locs hp166 hP hD hS => ?_)
                obtain ⟨ps2_166, fr2_166, so2_166, vl2_166, ft2_166, wa2_166⟩ := u
                try dsimp only at hp166 hP hD
                have he166 := hp166
                replace hP : xP G [iA G (ad 2) 85 D, oC ko 6 [.ref (ad 0), .ref (ad 1), .int (nI w), .int (nI h), .int (nI la), .ref (ad 2), .int (nI dw2_137), .int (nI dh2_137), .int (nI dl), .int (tl ||| ((nI 1) <<< ((nI 0) &&& 31))), .int tc, .int hc, .int hd, .ref (ad 3), .int (nI tp), .int (nI ps2_166), .int (nI fr2_166), .int (nI so2_166), .int vl2_166, .int (nI ft2_166), .int wa2_166, .ref (ad 4), .ref (ad 5), .ref (ad 6), .ref (ad 7), .ref (ad 8), .ref (ad 9), .ref (ad 10), .int tr], iA G (ad 3) 160 tb] H := hP
                replace hD : va_D (va_A (w_X6_readLine G ko ad w h la tp dw dh dl tl tc hc hd ps fr so vl ft wa tr tb D) ss.heap.size) [iA G (ad 2) 85 D, oC ko 6 [.ref (ad 0), .ref (ad 1), .int (nI w), .int (nI h), .int (nI la), .ref (ad 2), .int (nI dw2_137), .int (nI dh2_137), .int (nI dl), .int (tl ||| ((nI 1) <<< ((nI 0) &&& 31))), .int tc, .int hc, .int hd, .ref (ad 3), .int (nI tp), .int (nI ps2_166), .int (nI fr2_166), .int (nI so2_166), .int vl2_166, .int (nI ft2_166), .int wa2_166, .ref (ad 4), .ref (ad 5), .ref (ad 6), .ref (ad 7), .ref (ad 8), .ref (ad 9), .ref (ad 10), .int tr], iA G (ad 3) 160 tb] := hD
                have hP := hP.sub (ws' := [oC ko 6 [.ref (ad 0), .ref (ad 1), .int (nI w), .int (nI h), .int (nI la), .ref (ad 2), .int (nI dw2_137), .int (nI dh2_137), .int (nI dl), .int (tl ||| ((nI 1) <<< ((nI 0) &&& 31))), .int tc, .int hc, .int hd, .ref (ad 3), .int (nI tp), .int (nI ps2_166), .int (nI fr2_166), .int (nI so2_166), .int vl2_166, .int (nI ft2_166), .int wa2_166, .ref (ad 4), .ref (ad 5), .ref (ad 6), .ref (ad 7), .ref (ad 8), .ref (ad 9), .ref (ad 10), .int tr], iA G (ad 2) 85 D, iA G (ad 3) 160 tb]) [1, 0, 2] rfl
                have hD := hD.sub (ws' := [oC ko 6 [.ref (ad 0), .ref (ad 1), .int (nI w), .int (nI h), .int (nI la), .ref (ad 2), .int (nI dw2_137), .int (nI dh2_137), .int (nI dl), .int (tl ||| ((nI 1) <<< ((nI 0) &&& 31))), .int tc, .int hc, .int hd, .ref (ad 3), .int (nI tp), .int (nI ps2_166), .int (nI fr2_166), .int (nI so2_166), .int vl2_166, .int (nI ft2_166), .int wa2_166, .ref (ad 4), .ref (ad 5), .ref (ad 6), .ref (ad 7), .ref (ad 8), .ref (ad 9), .ref (ad 10), .int tr], iA G (ad 2) 85 D, iA G (ad 3) 160 tb]) [1, 0, 2] (by decide) rfl
                refine W.vret hx hb hr (fun t ht hW => ⟨⟨(ps2_166, fr2_166, so2_166, vl2_166, ft2_166, wa2_166, dw2_137, dh2_137, dl, (tl ||| ((nI 1) <<< ((nI 0) &&& 31))), tc, hc, hd, D), rfl, ?_, by rw [ht]; exact hP, hD⟩, hS.F ht⟩) hS.2.2 dX6_readLine_169
                try dsimp only
                first | exact (hL.trans (mGo_1 he124 h124 he137 (if_neg b144).symm he166)).symm | exact (hL.trans (mGo_1 he124 h124 he137 ((if_pos b144).trans (if_pos b153)).symm he166)).symm | exact (hL.trans (mGo_1 he124 h124 he137 ((if_pos b144).trans (if_neg b153)).symm he166)).symm
          · skip
            have h124 : ¬ ft2_124 = 0 := (by omega)
            have hP := hP.sub (ws' := [oC ko 6 [.ref (ad 0), .ref (ad 1), .int (nI w), .int (nI h), .int (nI la), .ref (ad 2), .int (nI dw), .int (nI dh), .int (nI dl), .int (tl ||| ((nI 1) <<< ((nI 0) &&& 31))), .int tc, .int hc, .int hd, .ref (ad 3), .int (nI tp), .int (nI ps2_124), .int (nI fr2_124), .int (nI so2_124), .int vl2_124, .int (nI ft2_124), .int wa2_124, .ref (ad 4), .ref (ad 5), .ref (ad 6), .ref (ad 7), .ref (ad 8), .ref (ad 9), .ref (ad 10), .int tr], iA G (ad 2) 85 D, iA G (ad 3) 160 tb]) [1, 0, 2] rfl
            have hD := hD.sub (ws' := [oC ko 6 [.ref (ad 0), .ref (ad 1), .int (nI w), .int (nI h), .int (nI la), .ref (ad 2), .int (nI dw), .int (nI dh), .int (nI dl), .int (tl ||| ((nI 1) <<< ((nI 0) &&& 31))), .int tc, .int hc, .int hd, .ref (ad 3), .int (nI tp), .int (nI ps2_124), .int (nI fr2_124), .int (nI so2_124), .int vl2_124, .int (nI ft2_124), .int wa2_124, .ref (ad 4), .ref (ad 5), .ref (ad 6), .ref (ad 7), .ref (ad 8), .ref (ad 9), .ref (ad 10), .int tr], iA G (ad 2) 85 D, iA G (ad 3) 160 tb]) [1, 0, 2] (by decide) rfl
            refine W.vret hx hb hr (fun t ht hW => ⟨⟨(ps2_124, fr2_124, so2_124, vl2_124, ft2_124, wa2_124, dw, dh, dl, (tl ||| ((nI 1) <<< ((nI 0) &&& 31))), tc, hc, hd, D), rfl, ?_, by rw [ht]; exact hP, hD⟩, hS.F ht⟩) hS.2.2 dX6_readLine_134
            try dsimp only
            first | exact (hL.trans (congrArg (fun a => (a, _)) hT.symm)).symm | exact (hL.trans (mGo_0 he124 h124)).symm
      · skip
        refine lv_iconst (v := nI 1) hx hb dX6_readLine_25 (by decide) ?_
        refine lv_goto (tgt := 30) hx hb dX6_readLine_26 rfl ?_
        refine lv_iconst (v := nI 2) hx hb dX6_readLine_30 (by decide) ?_
        refine xw_v (As := [.int (nI 1), .int (nI 2)]) (rest := []) (wr := [iA G (ad 2) 85 D, iA G (ad 3) 160 tb]) ⟨hx, hb, hml, hown, hts⟩ (c_X6_needs_1 l G H.size ko ad w h la tp dw dh dl tl tc hc hd ps fr so vl ft wa tr 2 ) (cwV 2 hts gX6_readLine_X6_needs rfl rfl rfl (by decide +kernel) ⟨Nat.le_of_ble_eq_true rfl, Nat.le_of_ble_eq_true rfl⟩) hK hP hD hS hA [0] [1, 2] rfl rfl (by decide) (by decide) (by decide) rfl rfl rfl hl.1 rfl (Nat.le_of_ble_eq_true rfl) dX6_readLine_31 ⟨Nat.le_of_ble_eq_true rfl, Nat.le_of_ble_eq_true rfl⟩ (fun u H locs hp31 hP hD hS => ?_)
        replace hP : xP G [iA G (ad 2) 85 D, iA G (ad 3) 160 tb, oC ko 6 [.ref (ad 0), .ref (ad 1), .int (nI w), .int (nI h), .int (nI la), .ref (ad 2), .int (nI dw), .int (nI dh), .int (nI dl), .int tl, .int tc, .int hc, .int hd, .ref (ad 3), .int (nI tp), .int (nI ps), .int (nI fr), .int (nI so), .int vl, .int (nI ft), .int wa, .ref (ad 4), .ref (ad 5), .ref (ad 6), .ref (ad 7), .ref (ad 8), .ref (ad 9), .ref (ad 10), .int tr]] H := hP
        replace hD : va_D (va_A (w_X6_readLine G ko ad w h la tp dw dh dl tl tc hc hd ps fr so vl ft wa tr tb D) ss.heap.size) [iA G (ad 2) 85 D, iA G (ad 3) 160 tb, oC ko 6 [.ref (ad 0), .ref (ad 1), .int (nI w), .int (nI h), .int (nI la), .ref (ad 2), .int (nI dw), .int (nI dh), .int (nI dl), .int tl, .int tc, .int hc, .int hd, .ref (ad 3), .int (nI tp), .int (nI ps), .int (nI fr), .int (nI so), .int vl, .int (nI ft), .int wa, .ref (ad 4), .ref (ad 5), .ref (ad 6), .ref (ad 7), .ref (ad 8), .ref (ad 9), .ref (ad 10), .int tr]] := hD
        refine lv_aload_n hx hb dX6_readLine_34 rfl (lv_at hl 1 rfl) ?_
        refine lv_iload_n hx hb dX6_readLine_35 rfl (lv_at hl 0 rfl) ?_
        refine lv_iconst (v := nI 3) hx hb dX6_readLine_36 (by decide) ?_
        refine xn_icmp_ne (tgt := 52) hx hb (by omega) (by omega) dX6_readLine_37 rfl (fun _ => ?_) (fun b37 => absurd b37 (by omega))
        refine lv_iload_n hx hb dX6_readLine_52 rfl (lv_at hl 0 rfl) ?_
        refine lv_iconst (v := nI 4) hx hb dX6_readLine_53 (by decide) ?_
        refine xn_icmp_ne (tgt := 69) hx hb (by omega) (by omega) dX6_readLine_54 rfl (fun _ => ?_) (fun b54 => absurd b54 (by omega))
        refine lv_iconst (v := nI 1) hx hb dX6_readLine_69 (by decide) ?_
        refine lv_goto (tgt := 74) hx hb dX6_readLine_70 rfl ?_
        refine lv_iconst (v := nI 5) hx hb dX6_readLine_74 (by decide) ?_
        refine xw_v (As := [.int (nI 1), .int (nI 5)]) (rest := []) (wr := [iA G (ad 2) 85 D, iA G (ad 3) 160 tb]) ⟨hx, hb, hml, hown, hts⟩ (c_X6_needs_1 l G H.size ko ad w h la tp dw dh dl tl tc hc hd ps fr so vl ft wa tr 5 ) (cwV 2 hts gX6_readLine_X6_needs rfl rfl rfl (by decide +kernel) ⟨Nat.le_of_ble_eq_true rfl, Nat.le_of_ble_eq_true rfl⟩) hK hP hD hS hA [2] [0, 1] rfl rfl (by decide) (by decide) (by decide) rfl rfl rfl hl.1 rfl (Nat.le_of_ble_eq_true rfl) dX6_readLine_75 ⟨Nat.le_of_ble_eq_true rfl, Nat.le_of_ble_eq_true rfl⟩ (fun u H locs hp75 hP hD hS => ?_)
        replace hP : xP G [iA G (ad 2) 85 D, iA G (ad 3) 160 tb, oC ko 6 [.ref (ad 0), .ref (ad 1), .int (nI w), .int (nI h), .int (nI la), .ref (ad 2), .int (nI dw), .int (nI dh), .int (nI dl), .int tl, .int tc, .int hc, .int hd, .ref (ad 3), .int (nI tp), .int (nI ps), .int (nI fr), .int (nI so), .int vl, .int (nI ft), .int wa, .ref (ad 4), .ref (ad 5), .ref (ad 6), .ref (ad 7), .ref (ad 8), .ref (ad 9), .ref (ad 10), .int tr]] H := hP
        replace hD : va_D (va_A (w_X6_readLine G ko ad w h la tp dw dh dl tl tc hc hd ps fr so vl ft wa tr tb D) ss.heap.size) [iA G (ad 2) 85 D, iA G (ad 3) 160 tb, oC ko 6 [.ref (ad 0), .ref (ad 1), .int (nI w), .int (nI h), .int (nI la), .ref (ad 2), .int (nI dw), .int (nI dh), .int (nI dl), .int tl, .int tc, .int hc, .int hd, .ref (ad 3), .int (nI tp), .int (nI ps), .int (nI fr), .int (nI so), .int vl, .int (nI ft), .int wa, .ref (ad 4), .ref (ad 5), .ref (ad 6), .ref (ad 7), .ref (ad 8), .ref (ad 9), .ref (ad 10), .int tr]] := hD
        refine lv_aload_n hx hb dX6_readLine_78 rfl (lv_at hl 1 rfl) ?_
        refine va_get (D := G.1) (ci := 6) (v := .int (nI ft)) (C := RX6) (T := TX6) (N := 29) hx hb hts hin6 hown hK.1 hP 2 rfl rfl 19 (by decide) (hts (.fieldLink RX6 90 "BackLensesModel" "fault" "I") (List.mem_of_getElem? (i := 3) rfl)) (fun _ h9 => h9) rfl dX6_readLine_79 ?_
        refine xn_if_ne (tgt := 123) hx hb (by omega) dX6_readLine_82 rfl (fun b82 => absurd b82 (by omega)) (fun _ => ?_)
        refine lv_iload_n hx hb dX6_readLine_85 rfl (lv_at hl 0 rfl) ?_
        refine lv_iconst (v := nI 1) hx hb dX6_readLine_86 (by decide) ?_
        refine xn_icmp_gt (tgt := 123) hx hb (by omega) (by omega) dX6_readLine_87 rfl (fun b87 => absurd b87 (by omega)) (fun _ => ?_)
        refine lv_aload_n hx hb dX6_readLine_90 rfl (lv_at hl 1 rfl) ?_
        refine lv_aload_n hx hb dX6_readLine_91 rfl (lv_at hl 1 rfl) ?_
        refine va_get (D := G.1) (ci := 6) (v := .int tl) (C := RX6) (T := TX6) (N := 29) hx hb hts hin6 hown hK.1 hP 2 rfl rfl 9 (by decide) (hts (.fieldLink RX6 60 "BackLensesModel" "toldLines" "I") (List.mem_of_getElem? (i := 4) rfl)) (fun _ h9 => h9) rfl dX6_readLine_92 ?_
        refine lv_iload_n hx hb dX6_readLine_95 rfl (lv_at hl 0 rfl) ?_
        refine lv_ishr hx hb dX6_readLine_96 ?_
        refine lv_iconst (v := nI 1) hx hb dX6_readLine_97 (by decide) ?_
        refine lv_iand hx hb dX6_readLine_98 ?_
        refine lv_if_ne (tgt := 106) hx hb dX6_readLine_99 rfl (fun b99 => ?_) (fun b99 => ?_)
        · skip
          refine lv_iconst (v := nI 0) hx hb dX6_readLine_106 (by decide) ?_
          refine lv_iconst (v := nI 4) hx hb dX6_readLine_107 (by decide) ?_
          refine xw_v (As := [.int (nI 0), .int (nI 4)]) (rest := []) (wr := [iA G (ad 2) 85 D, iA G (ad 3) 160 tb]) ⟨hx, hb, hml, hown, hts⟩ (c_X6_needs_0 l G H.size ko ad w h la tp dw dh dl tl tc hc hd ps fr so vl ft wa tr 4 (by first | assumption | omega)) (cwV 2 hts gX6_readLine_X6_needs rfl rfl rfl (by decide +kernel) ⟨Nat.le_of_ble_eq_true rfl, Nat.le_of_ble_eq_true rfl⟩) hK hP hD hS hA [2] [0, 1] rfl rfl (by decide) (by decide) (by decide) rfl rfl rfl hl.1 rfl (Nat.le_of_ble_eq_true rfl) dX6_readLine_108 ⟨Nat.le_of_ble_eq_true rfl, Nat.le_of_ble_eq_true rfl⟩ (fun u H locs hp108 hP hD hS => ?_)
          replace hP : xP G [iA G (ad 2) 85 D, iA G (ad 3) 160 tb, oC ko 6 [.ref (ad 0), .ref (ad 1), .int (nI w), .int (nI h), .int (nI la), .ref (ad 2), .int (nI dw), .int (nI dh), .int (nI dl), .int tl, .int tc, .int hc, .int hd, .ref (ad 3), .int (nI tp), .int (nI ps), .int (nI fr), .int (nI so), .int vl, .int (nI 4), .int (nI fr), .ref (ad 4), .ref (ad 5), .ref (ad 6), .ref (ad 7), .ref (ad 8), .ref (ad 9), .ref (ad 10), .int tr]] H := hP
          replace hD : va_D (va_A (w_X6_readLine G ko ad w h la tp dw dh dl tl tc hc hd ps fr so vl ft wa tr tb D) ss.heap.size) [iA G (ad 2) 85 D, iA G (ad 3) 160 tb, oC ko 6 [.ref (ad 0), .ref (ad 1), .int (nI w), .int (nI h), .int (nI la), .ref (ad 2), .int (nI dw), .int (nI dh), .int (nI dl), .int tl, .int tc, .int hc, .int hd, .ref (ad 3), .int (nI tp), .int (nI ps), .int (nI fr), .int (nI so), .int vl, .int (nI 4), .int (nI fr), .ref (ad 4), .ref (ad 5), .ref (ad 6), .ref (ad 7), .ref (ad 8), .ref (ad 9), .ref (ad 10), .int tr]] := hD
          refine lv_aload_n hx hb dX6_readLine_111 rfl (lv_at hl 1 rfl) ?_
          refine lv_dup hx hb dX6_readLine_112 rfl ?_
          refine va_get (D := G.1) (ci := 6) (v := .int tl) (C := RX6) (T := TX6) (N := 29) hx hb hts hin6 hown hK.1 hP 2 rfl rfl 9 (by decide) (hts (.fieldLink RX6 60 "BackLensesModel" "toldLines" "I") (List.mem_of_getElem? (i := 4) rfl)) (fun _ h9 => h9) rfl dX6_readLine_113 ?_
          refine lv_iconst (v := nI 1) hx hb dX6_readLine_116 (by decide) ?_
          refine lv_iload_n hx hb dX6_readLine_117 rfl (lv_at hl 0 rfl) ?_
          refine lv_ishl hx hb dX6_readLine_118 ?_
          refine lv_ior hx hb dX6_readLine_119 ?_
          refine va_put (D := G.1) (ci := 6) (v := .int (tl ||| ((nI 1) <<< ((nI 1) &&& 31)))) (ty := .int) (C := RX6) (T := TX6) (N := 29) hx hb hts hin6 tyX6 tyX6_ok nmX6 hown hK.1 hP hD hS 2 rfl rfl 9 (by decide) (hts (.fieldLink RX6 60 "BackLensesModel" "toldLines" "I") (List.mem_of_getElem? (i := 4) rfl)) (fun _ h9 => h9) rfl (by decide +kernel) rfl rfl (Nat.le_of_ble_eq_true rfl) dX6_readLine_120 (fun H locs hP hD hS => ?_)
          replace hP : xP G [iA G (ad 2) 85 D, iA G (ad 3) 160 tb, oC ko 6 [.ref (ad 0), .ref (ad 1), .int (nI w), .int (nI h), .int (nI la), .ref (ad 2), .int (nI dw), .int (nI dh), .int (nI dl), .int (tl ||| ((nI 1) <<< ((nI 1) &&& 31))), .int tc, .int hc, .int hd, .ref (ad 3), .int (nI tp), .int (nI ps), .int (nI fr), .int (nI so), .int vl, .int (nI 4), .int (nI fr), .ref (ad 4), .ref (ad 5), .ref (ad 6), .ref (ad 7), .ref (ad 8), .ref (ad 9), .ref (ad 10), .int tr]] H := hP
          replace hD : va_D (va_A (w_X6_readLine G ko ad w h la tp dw dh dl tl tc hc hd ps fr so vl ft wa tr tb D) ss.heap.size) [iA G (ad 2) 85 D, iA G (ad 3) 160 tb, oC ko 6 [.ref (ad 0), .ref (ad 1), .int (nI w), .int (nI h), .int (nI la), .ref (ad 2), .int (nI dw), .int (nI dh), .int (nI dl), .int (tl ||| ((nI 1) <<< ((nI 1) &&& 31))), .int tc, .int hc, .int hd, .ref (ad 3), .int (nI tp), .int (nI ps), .int (nI fr), .int (nI so), .int vl, .int (nI 4), .int (nI fr), .ref (ad 4), .ref (ad 5), .ref (ad 6), .ref (ad 7), .ref (ad 8), .ref (ad 9), .ref (ad 10), .int tr]] := hD
          have hKj : mKd tb tp (ps, fr, so, vl, ft, wa) = nI 1 := (if_pos b5).trans hkv
          have hL : mLine tb tp ((ps, fr, so, vl, ft, wa), (dw, dh, dl), (tl, tc, hc, hd), D) = (mF 4 (ps, fr, so, vl, ft, wa), (dw, dh, dl), (orB tl 1, tc, hc, hd), D) := (mLine_k (by omega) hKj).trans ((if_neg (by omega)).trans ((if_pos (by omega)).trans (if_neg b99)))
          refine lv_aload_n hx hb dX6_readLine_123 rfl (lv_at hl 1 rfl) ?_
          refine xw_v (As := []) (rest := []) (wr := [iA G (ad 2) 85 D]) ⟨hx, hb, hml, hown, hts⟩ (c_X6_nextToken l G H.size ko ad w h la tp dw dh dl (tl ||| ((nI 1) <<< ((nI 1) &&& 31))) tc hc hd ps fr so vl 4 (nI fr) tr tb (by first | assumption | omega) (by first | assumption | omega) (by first | assumption | omega) (by first | assumption | omega)) (cwV 0 hts gX6_readLine_X6_nextToken rfl rfl rfl (by decide +kernel) ⟨Nat.le_of_ble_eq_true rfl, Nat.le_of_ble_eq_true rfl⟩) hK hP hD hS hA [2, 1] [0] rfl rfl (by decide) (by decide) (by decide) rfl rfl rfl hl.1 rfl (Nat.le_of_ble_eq_true rfl) dX6_readLine_124 ⟨Nat.le_of_ble_eq_true rfl, Nat.le_of_ble_eq_true rfl⟩ (fun u H locs hp124 hP hD hS => ?_)
          obtain ⟨ps2_124, fr2_124, so2_124, vl2_124, ft2_124, wa2_124⟩ := u
          try dsimp only at hp124 hP hD
          have he124 := hp124
          replace hP : xP G [iA G (ad 2) 85 D, oC ko 6 [.ref (ad 0), .ref (ad 1), .int (nI w), .int (nI h), .int (nI la), .ref (ad 2), .int (nI dw), .int (nI dh), .int (nI dl), .int (tl ||| ((nI 1) <<< ((nI 1) &&& 31))), .int tc, .int hc, .int hd, .ref (ad 3), .int (nI tp), .int (nI ps2_124), .int (nI fr2_124), .int (nI so2_124), .int vl2_124, .int (nI ft2_124), .int wa2_124, .ref (ad 4), .ref (ad 5), .ref (ad 6), .ref (ad 7), .ref (ad 8), .ref (ad 9), .ref (ad 10), .int tr], iA G (ad 3) 160 tb] H := hP
          replace hD : va_D (va_A (w_X6_readLine G ko ad w h la tp dw dh dl tl tc hc hd ps fr so vl ft wa tr tb D) ss.heap.size) [iA G (ad 2) 85 D, oC ko 6 [.ref (ad 0), .ref (ad 1), .int (nI w), .int (nI h), .int (nI la), .ref (ad 2), .int (nI dw), .int (nI dh), .int (nI dl), .int (tl ||| ((nI 1) <<< ((nI 1) &&& 31))), .int tc, .int hc, .int hd, .ref (ad 3), .int (nI tp), .int (nI ps2_124), .int (nI fr2_124), .int (nI so2_124), .int vl2_124, .int (nI ft2_124), .int wa2_124, .ref (ad 4), .ref (ad 5), .ref (ad 6), .ref (ad 7), .ref (ad 8), .ref (ad 9), .ref (ad 10), .int tr], iA G (ad 3) 160 tb] := hD
          have ho124 : mOk tp (ps2_124, fr2_124, so2_124, vl2_124, ft2_124, wa2_124) := (by rw [he124]; exact mTok_ok (mF_ok (s := (ps, fr, so, vl, ft, wa)) (by omega) ho0))
          have hps124 : ps2_124 ≤ tp := ho124.1
          have hft124 : ft2_124 ≤ 6 := ho124.2.1
          have hso124 : so2_124 ≤ 3 := ho124.2.2.1
          have hfr124 : fr2_124 ≤ ps2_124 := ho124.2.2.2
          have hT := he124.trans (mTok_0 (by decide))
          have hq9 : ft2_124 = 4 := congrArg (fun a : MS => a.2.2.2.2.1) hT
          refine lv_aload_n hx hb dX6_readLine_127 rfl (lv_at hl 1 rfl) ?_
          refine va_get (D := G.1) (ci := 6) (v := .int (nI ft2_124)) (C := RX6) (T := TX6) (N := 29) hx hb hts hin6 hown hK.1 hP 1 rfl rfl 19 (by decide) (hts (.fieldLink RX6 90 "BackLensesModel" "fault" "I") (List.mem_of_getElem? (i := 3) rfl)) (fun _ h9 => h9) rfl dX6_readLine_128 ?_
          refine xn_if_le (tgt := 135) hx hb (by omega) dX6_readLine_131 rfl (fun b131 => absurd b131 (by omega)) (fun _ => ?_)
          have hP := hP.sub (ws' := [oC ko 6 [.ref (ad 0), .ref (ad 1), .int (nI w), .int (nI h), .int (nI la), .ref (ad 2), .int (nI dw), .int (nI dh), .int (nI dl), .int (tl ||| ((nI 1) <<< ((nI 1) &&& 31))), .int tc, .int hc, .int hd, .ref (ad 3), .int (nI tp), .int (nI ps2_124), .int (nI fr2_124), .int (nI so2_124), .int vl2_124, .int (nI ft2_124), .int wa2_124, .ref (ad 4), .ref (ad 5), .ref (ad 6), .ref (ad 7), .ref (ad 8), .ref (ad 9), .ref (ad 10), .int tr], iA G (ad 2) 85 D, iA G (ad 3) 160 tb]) [1, 0, 2] rfl
          have hD := hD.sub (ws' := [oC ko 6 [.ref (ad 0), .ref (ad 1), .int (nI w), .int (nI h), .int (nI la), .ref (ad 2), .int (nI dw), .int (nI dh), .int (nI dl), .int (tl ||| ((nI 1) <<< ((nI 1) &&& 31))), .int tc, .int hc, .int hd, .ref (ad 3), .int (nI tp), .int (nI ps2_124), .int (nI fr2_124), .int (nI so2_124), .int vl2_124, .int (nI ft2_124), .int wa2_124, .ref (ad 4), .ref (ad 5), .ref (ad 6), .ref (ad 7), .ref (ad 8), .ref (ad 9), .ref (ad 10), .int tr], iA G (ad 2) 85 D, iA G (ad 3) 160 tb]) [1, 0, 2] (by decide) rfl
          refine W.vret hx hb hr (fun t ht hW => ⟨⟨(ps2_124, fr2_124, so2_124, vl2_124, ft2_124, wa2_124, dw, dh, dl, (tl ||| ((nI 1) <<< ((nI 1) &&& 31))), tc, hc, hd, D), rfl, ?_, by rw [ht]; exact hP, hD⟩, hS.F ht⟩) hS.2.2 dX6_readLine_134
          try dsimp only
          first | exact (hL.trans (congrArg (fun a => (a, _)) hT.symm)).symm | exact (hL.trans (mGo_0 he124 h124)).symm
        · skip
          refine lv_iconst (v := nI 1) hx hb dX6_readLine_102 (by decide) ?_
          refine lv_goto (tgt := 107) hx hb dX6_readLine_103 rfl ?_
          refine lv_iconst (v := nI 4) hx hb dX6_readLine_107 (by decide) ?_
          refine xw_v (As := [.int (nI 1), .int (nI 4)]) (rest := []) (wr := [iA G (ad 2) 85 D, iA G (ad 3) 160 tb]) ⟨hx, hb, hml, hown, hts⟩ (c_X6_needs_1 l G H.size ko ad w h la tp dw dh dl tl tc hc hd ps fr so vl ft wa tr 4 ) (cwV 2 hts gX6_readLine_X6_needs rfl rfl rfl (by decide +kernel) ⟨Nat.le_of_ble_eq_true rfl, Nat.le_of_ble_eq_true rfl⟩) hK hP hD hS hA [2] [0, 1] rfl rfl (by decide) (by decide) (by decide) rfl rfl rfl hl.1 rfl (Nat.le_of_ble_eq_true rfl) dX6_readLine_108 ⟨Nat.le_of_ble_eq_true rfl, Nat.le_of_ble_eq_true rfl⟩ (fun u H locs hp108 hP hD hS => ?_)
          replace hP : xP G [iA G (ad 2) 85 D, iA G (ad 3) 160 tb, oC ko 6 [.ref (ad 0), .ref (ad 1), .int (nI w), .int (nI h), .int (nI la), .ref (ad 2), .int (nI dw), .int (nI dh), .int (nI dl), .int tl, .int tc, .int hc, .int hd, .ref (ad 3), .int (nI tp), .int (nI ps), .int (nI fr), .int (nI so), .int vl, .int (nI ft), .int wa, .ref (ad 4), .ref (ad 5), .ref (ad 6), .ref (ad 7), .ref (ad 8), .ref (ad 9), .ref (ad 10), .int tr]] H := hP
          replace hD : va_D (va_A (w_X6_readLine G ko ad w h la tp dw dh dl tl tc hc hd ps fr so vl ft wa tr tb D) ss.heap.size) [iA G (ad 2) 85 D, iA G (ad 3) 160 tb, oC ko 6 [.ref (ad 0), .ref (ad 1), .int (nI w), .int (nI h), .int (nI la), .ref (ad 2), .int (nI dw), .int (nI dh), .int (nI dl), .int tl, .int tc, .int hc, .int hd, .ref (ad 3), .int (nI tp), .int (nI ps), .int (nI fr), .int (nI so), .int vl, .int (nI ft), .int wa, .ref (ad 4), .ref (ad 5), .ref (ad 6), .ref (ad 7), .ref (ad 8), .ref (ad 9), .ref (ad 10), .int tr]] := hD
          refine lv_aload_n hx hb dX6_readLine_111 rfl (lv_at hl 1 rfl) ?_
          refine lv_dup hx hb dX6_readLine_112 rfl ?_
          refine va_get (D := G.1) (ci := 6) (v := .int tl) (C := RX6) (T := TX6) (N := 29) hx hb hts hin6 hown hK.1 hP 2 rfl rfl 9 (by decide) (hts (.fieldLink RX6 60 "BackLensesModel" "toldLines" "I") (List.mem_of_getElem? (i := 4) rfl)) (fun _ h9 => h9) rfl dX6_readLine_113 ?_
          refine lv_iconst (v := nI 1) hx hb dX6_readLine_116 (by decide) ?_
          refine lv_iload_n hx hb dX6_readLine_117 rfl (lv_at hl 0 rfl) ?_
          refine lv_ishl hx hb dX6_readLine_118 ?_
          refine lv_ior hx hb dX6_readLine_119 ?_
          refine va_put (D := G.1) (ci := 6) (v := .int (tl ||| ((nI 1) <<< ((nI 1) &&& 31)))) (ty := .int) (C := RX6) (T := TX6) (N := 29) hx hb hts hin6 tyX6 tyX6_ok nmX6 hown hK.1 hP hD hS 2 rfl rfl 9 (by decide) (hts (.fieldLink RX6 60 "BackLensesModel" "toldLines" "I") (List.mem_of_getElem? (i := 4) rfl)) (fun _ h9 => h9) rfl (by decide +kernel) rfl rfl (Nat.le_of_ble_eq_true rfl) dX6_readLine_120 (fun H locs hP hD hS => ?_)
          replace hP : xP G [iA G (ad 2) 85 D, iA G (ad 3) 160 tb, oC ko 6 [.ref (ad 0), .ref (ad 1), .int (nI w), .int (nI h), .int (nI la), .ref (ad 2), .int (nI dw), .int (nI dh), .int (nI dl), .int (tl ||| ((nI 1) <<< ((nI 1) &&& 31))), .int tc, .int hc, .int hd, .ref (ad 3), .int (nI tp), .int (nI ps), .int (nI fr), .int (nI so), .int vl, .int (nI ft), .int wa, .ref (ad 4), .ref (ad 5), .ref (ad 6), .ref (ad 7), .ref (ad 8), .ref (ad 9), .ref (ad 10), .int tr]] H := hP
          replace hD : va_D (va_A (w_X6_readLine G ko ad w h la tp dw dh dl tl tc hc hd ps fr so vl ft wa tr tb D) ss.heap.size) [iA G (ad 2) 85 D, iA G (ad 3) 160 tb, oC ko 6 [.ref (ad 0), .ref (ad 1), .int (nI w), .int (nI h), .int (nI la), .ref (ad 2), .int (nI dw), .int (nI dh), .int (nI dl), .int (tl ||| ((nI 1) <<< ((nI 1) &&& 31))), .int tc, .int hc, .int hd, .ref (ad 3), .int (nI tp), .int (nI ps), .int (nI fr), .int (nI so), .int vl, .int (nI ft), .int wa, .ref (ad 4), .ref (ad 5), .ref (ad 6), .ref (ad 7), .ref (ad 8), .ref (ad 9), .ref (ad 10), .int tr]] := hD
          have hKj : mKd tb tp (ps, fr, so, vl, ft, wa) = nI 1 := (if_pos b5).trans hkv
          have hL : mLine tb tp ((ps, fr, so, vl, ft, wa), (dw, dh, dl), (tl, tc, hc, hd), D) = mGo tb tp 1 ((ps, fr, so, vl, ft, wa), (dw, dh, dl), (orB tl 1, tc, hc, hd), D) := (mLine_k (by omega) hKj).trans ((if_neg (by omega)).trans ((if_pos (by omega)).trans (if_pos b99)))
          refine lv_aload_n hx hb dX6_readLine_123 rfl (lv_at hl 1 rfl) ?_
          refine xw_v (As := []) (rest := []) (wr := [iA G (ad 2) 85 D]) ⟨hx, hb, hml, hown, hts⟩ (c_X6_nextToken l G H.size ko ad w h la tp dw dh dl (tl ||| ((nI 1) <<< ((nI 1) &&& 31))) tc hc hd ps fr so vl ft wa tr tb (by first | assumption | omega) (by first | assumption | omega) (by first | assumption | omega) (by first | assumption | omega)) (cwV 0 hts gX6_readLine_X6_nextToken rfl rfl rfl (by decide +kernel) ⟨Nat.le_of_ble_eq_true rfl, Nat.le_of_ble_eq_true rfl⟩) hK hP hD hS hA [2, 1] [0] rfl rfl (by decide) (by decide) (by decide) rfl rfl rfl hl.1 rfl (Nat.le_of_ble_eq_true rfl) dX6_readLine_124 ⟨Nat.le_of_ble_eq_true rfl, Nat.le_of_ble_eq_true rfl⟩ (fun u H locs hp124 hP hD hS => ?_)
          obtain ⟨ps2_124, fr2_124, so2_124, vl2_124, ft2_124, wa2_124⟩ := u
          try dsimp only at hp124 hP hD
          have he124 := hp124
          replace hP : xP G [iA G (ad 2) 85 D, oC ko 6 [.ref (ad 0), .ref (ad 1), .int (nI w), .int (nI h), .int (nI la), .ref (ad 2), .int (nI dw), .int (nI dh), .int (nI dl), .int (tl ||| ((nI 1) <<< ((nI 1) &&& 31))), .int tc, .int hc, .int hd, .ref (ad 3), .int (nI tp), .int (nI ps2_124), .int (nI fr2_124), .int (nI so2_124), .int vl2_124, .int (nI ft2_124), .int wa2_124, .ref (ad 4), .ref (ad 5), .ref (ad 6), .ref (ad 7), .ref (ad 8), .ref (ad 9), .ref (ad 10), .int tr], iA G (ad 3) 160 tb] H := hP
          replace hD : va_D (va_A (w_X6_readLine G ko ad w h la tp dw dh dl tl tc hc hd ps fr so vl ft wa tr tb D) ss.heap.size) [iA G (ad 2) 85 D, oC ko 6 [.ref (ad 0), .ref (ad 1), .int (nI w), .int (nI h), .int (nI la), .ref (ad 2), .int (nI dw), .int (nI dh), .int (nI dl), .int (tl ||| ((nI 1) <<< ((nI 1) &&& 31))), .int tc, .int hc, .int hd, .ref (ad 3), .int (nI tp), .int (nI ps2_124), .int (nI fr2_124), .int (nI so2_124), .int vl2_124, .int (nI ft2_124), .int wa2_124, .ref (ad 4), .ref (ad 5), .ref (ad 6), .ref (ad 7), .ref (ad 8), .ref (ad 9), .ref (ad 10), .int tr], iA G (ad 3) 160 tb] := hD
          have ho124 : mOk tp (ps2_124, fr2_124, so2_124, vl2_124, ft2_124, wa2_124) := (by rw [he124]; exact mTok_ok (ho0))
          have hps124 : ps2_124 ≤ tp := ho124.1
          have hft124 : ft2_124 ≤ 6 := ho124.2.1
          have hso124 : so2_124 ≤ 3 := ho124.2.2.1
          have hfr124 : fr2_124 ≤ ps2_124 := ho124.2.2.2
          refine lv_aload_n hx hb dX6_readLine_127 rfl (lv_at hl 1 rfl) ?_
          refine va_get (D := G.1) (ci := 6) (v := .int (nI ft2_124)) (C := RX6) (T := TX6) (N := 29) hx hb hts hin6 hown hK.1 hP 1 rfl rfl 19 (by decide) (hts (.fieldLink RX6 90 "BackLensesModel" "fault" "I") (List.mem_of_getElem? (i := 3) rfl)) (fun _ h9 => h9) rfl dX6_readLine_128 ?_
          refine xn_if_le (tgt := 135) hx hb (by omega) dX6_readLine_131 rfl (fun b131 => ?_) (fun b131 => ?_)
          · skip
            have h124 : ft2_124 = 0 := (by omega)
            refine lv_aload_n hx hb dX6_readLine_135 rfl (lv_at hl 1 rfl) ?_
            refine lv_iload_n hx hb dX6_readLine_136 rfl (lv_at hl 0 rfl) ?_
            refine xw_v (As := [.int (nI 1)]) (rest := []) (wr := []) ⟨hx, hb, hml, hown, hts⟩ (c_X6_readLineOf_1 l G H.size ko ad w h la tp dw dh dl (tl ||| ((nI 1) <<< ((nI 1) &&& 31))) tc hc hd ps2_124 fr2_124 so2_124 vl2_124 ft2_124 wa2_124 tr tb D (by first | assumption | omega) (by first | assumption | omega) (by first | assumption | omega) (by first | assumption | omega) (by first | assumption | omega) (by first | assumption | omega)) (cwV 1 hts gX6_readLine_X6_readLineOf rfl rfl rfl (by decide +kernel) ⟨Nat.le_of_ble_eq_true rfl, Nat.le_of_ble_eq_true rfl⟩) hK hP hD hS hA [1, 0, 2] [] rfl rfl (by decide) (by decide) (by decide) rfl rfl rfl hl.1 rfl (Nat.le_of_ble_eq_true rfl) dX6_readLine_137 ⟨Nat.le_of_ble_eq_true rfl, Nat.le_of_ble_eq_true rfl⟩ (fun u H locs hp137 hP hD hS => ?_)
            obtain ⟨ps2_137, fr2_137, so2_137, vl2_137, ft2_137, wa2_137, dl2_137⟩ := u
            try dsimp only at hp137 hP hD
            have he137 := hp137
            replace hP : xP G [oC ko 6 [.ref (ad 0), .ref (ad 1), .int (nI w), .int (nI h), .int (nI la), .ref (ad 2), .int (nI dw), .int (nI dh), .int (nI dl2_137), .int (tl ||| ((nI 1) <<< ((nI 1) &&& 31))), .int tc, .int hc, .int hd, .ref (ad 3), .int (nI tp), .int (nI ps2_137), .int (nI fr2_137), .int (nI so2_137), .int vl2_137, .int (nI ft2_137), .int wa2_137, .ref (ad 4), .ref (ad 5), .ref (ad 6), .ref (ad 7), .ref (ad 8), .ref (ad 9), .ref (ad 10), .int tr], iA G (ad 2) 85 D, iA G (ad 3) 160 tb] H := hP
            replace hD : va_D (va_A (w_X6_readLine G ko ad w h la tp dw dh dl tl tc hc hd ps fr so vl ft wa tr tb D) ss.heap.size) [oC ko 6 [.ref (ad 0), .ref (ad 1), .int (nI w), .int (nI h), .int (nI la), .ref (ad 2), .int (nI dw), .int (nI dh), .int (nI dl2_137), .int (tl ||| ((nI 1) <<< ((nI 1) &&& 31))), .int tc, .int hc, .int hd, .ref (ad 3), .int (nI tp), .int (nI ps2_137), .int (nI fr2_137), .int (nI so2_137), .int vl2_137, .int (nI ft2_137), .int wa2_137, .ref (ad 4), .ref (ad 5), .ref (ad 6), .ref (ad 7), .ref (ad 8), .ref (ad 9), .ref (ad 10), .int tr], iA G (ad 2) 85 D, iA G (ad 3) 160 tb] := hD
            have ho137 : mOk tp (ps2_137, fr2_137, so2_137, vl2_137, ft2_137, wa2_137) := (by rw [show (ps2_137, fr2_137, so2_137, vl2_137, ft2_137, wa2_137) = (mLof tb tp 1 ((ps2_124, fr2_124, so2_124, vl2_124, ft2_124, wa2_124), (dw, dh, dl), (orB tl 1, tc, hc, hd), D)).1 from congrArg (fun a : XS => a.1) he137]; exact (mLof_ok ho124).1)
            have hps137 : ps2_137 ≤ tp := ho137.1
            have hft137 : ft2_137 ≤ 6 := ho137.2.1
            have hso137 : so2_137 ≤ 3 := ho137.2.2.1
            have hfr137 : fr2_137 ≤ ps2_137 := ho137.2.2.2
            refine lv_aload_n hx hb dX6_readLine_140 rfl (lv_at hl 1 rfl) ?_
            refine va_get (D := G.1) (ci := 6) (v := .int (nI ft2_137)) (C := RX6) (T := TX6) (N := 29) hx hb hts hin6 hown hK.1 hP 0 rfl rfl 19 (by decide) (hts (.fieldLink RX6 90 "BackLensesModel" "fault" "I") (List.mem_of_getElem? (i := 3) rfl)) (fun _ h9 => h9) rfl dX6_readLine_141 ?_
            refine xn_if_ne (tgt := 165) hx hb (by omega) dX6_readLine_144 rfl (fun b144 => ?_) (fun b144 => ?_)
            · skip
              refine lv_aload_n hx hb dX6_readLine_165 rfl (lv_at hl 1 rfl) ?_
              refine xw_v (As := []) (rest := []) (wr := [iA G (ad 2) 85 D]) ⟨hx, hb, hml, hown, hts⟩ (c_X6_nextToken l G H.size ko ad w h la tp dw dh dl2_137 (tl ||| ((nI 1) <<< ((nI 1) &&& 31))) tc hc hd ps2_137 fr2_137 so2_137 vl2_137 ft2_137 wa2_137 tr tb (by first | assumption | omega) (by first | assumption | omega) (by first | assumption | omega) (by first | assumption | omega)) (cwV 0 hts gX6_readLine_X6_nextToken rfl rfl rfl (by decide +kernel) ⟨Nat.le_of_ble_eq_true rfl, Nat.le_of_ble_eq_true rfl⟩) hK hP hD hS hA [0, 2] [1] rfl rfl (by decide) (by decide) (by decide) rfl rfl rfl hl.1 rfl (Nat.le_of_ble_eq_true rfl) dX6_readLine_166 ⟨Nat.le_of_ble_eq_true rfl, Nat.le_of_ble_eq_true rfl⟩ (fun u H locs hp166 hP hD hS => ?_)
              obtain ⟨ps2_166, fr2_166, so2_166, vl2_166, ft2_166, wa2_166⟩ := u
              try dsimp only at hp166 hP hD
              have he166 := hp166
              replace hP : xP G [iA G (ad 2) 85 D, oC ko 6 [.ref (ad 0), .ref (ad 1), .int (nI w), .int (nI h), .int (nI la), .ref (ad 2), .int (nI dw), .int (nI dh), .int (nI dl2_137), .int (tl ||| ((nI 1) <<< ((nI 1) &&& 31))), .int tc, .int hc, .int hd, .ref (ad 3), .int (nI tp), .int (nI ps2_166), .int (nI fr2_166), .int (nI so2_166), .int vl2_166, .int (nI ft2_166), .int wa2_166, .ref (ad 4), .ref (ad 5), .ref (ad 6), .ref (ad 7), .ref (ad 8), .ref (ad 9), .ref (ad 10), .int tr], iA G (ad 3) 160 tb] H := hP
              replace hD : va_D (va_A (w_X6_readLine G ko ad w h la tp dw dh dl tl tc hc hd ps fr so vl ft wa tr tb D) ss.heap.size) [iA G (ad 2) 85 D, oC ko 6 [.ref (ad 0), .ref (ad 1), .int (nI w), .int (nI h), .int (nI la), .ref (ad 2), .int (nI dw), .int (nI dh), .int (nI dl2_137), .int (tl ||| ((nI 1) <<< ((nI 1) &&& 31))), .int tc, .int hc, .int hd, .ref (ad 3), .int (nI tp), .int (nI ps2_166), .int (nI fr2_166), .int (nI so2_166), .int vl2_166, .int (nI ft2_166), .int wa2_166, .ref (ad 4), .ref (ad 5), .ref (ad 6), .ref (ad 7), .ref (ad 8), .ref (ad 9), .ref (ad 10), .int tr], iA G (ad 3) 160 tb] := hD
              have hP := hP.sub (ws' := [oC ko 6 [.ref (ad 0), .ref (ad 1), .int (nI w), .int (nI h), .int (nI la), .ref (ad 2), .int (nI dw), .int (nI dh), .int (nI dl2_137), .int (tl ||| ((nI 1) <<< ((nI 1) &&& 31))), .int tc, .int hc, .int hd, .ref (ad 3), .int (nI tp), .int (nI ps2_166), .int (nI fr2_166), .int (nI so2_166), .int vl2_166, .int (nI ft2_166), .int wa2_166, .ref (ad 4), .ref (ad 5), .ref (ad 6), .ref (ad 7), .ref (ad 8), .ref (ad 9), .ref (ad 10), .int tr], iA G (ad 2) 85 D, iA G (ad 3) 160 tb]) [1, 0, 2] rfl
              have hD := hD.sub (ws' := [oC ko 6 [.ref (ad 0), .ref (ad 1), .int (nI w), .int (nI h), .int (nI la), .ref (ad 2), .int (nI dw), .int (nI dh), .int (nI dl2_137), .int (tl ||| ((nI 1) <<< ((nI 1) &&& 31))), .int tc, .int hc, .int hd, .ref (ad 3), .int (nI tp), .int (nI ps2_166), .int (nI fr2_166), .int (nI so2_166), .int vl2_166, .int (nI ft2_166), .int wa2_166, .ref (ad 4), .ref (ad 5), .ref (ad 6), .ref (ad 7), .ref (ad 8), .ref (ad 9), .ref (ad 10), .int tr], iA G (ad 2) 85 D, iA G (ad 3) 160 tb]) [1, 0, 2] (by decide) rfl
              refine W.vret hx hb hr (fun t ht hW => ⟨⟨(ps2_166, fr2_166, so2_166, vl2_166, ft2_166, wa2_166, dw, dh, dl2_137, (tl ||| ((nI 1) <<< ((nI 1) &&& 31))), tc, hc, hd, D), rfl, ?_, by rw [ht]; exact hP, hD⟩, hS.F ht⟩) hS.2.2 dX6_readLine_169
              try dsimp only
              first | exact (hL.trans (mGo_1 he124 h124 he137 (if_neg b144).symm he166)).symm | exact (hL.trans (mGo_1 he124 h124 he137 ((if_pos b144).trans (if_pos b153)).symm he166)).symm | exact (hL.trans (mGo_1 he124 h124 he137 ((if_pos b144).trans (if_neg b153)).symm he166)).symm
            · skip
              refine lv_aload_n hx hb dX6_readLine_147 rfl (lv_at hl 1 rfl) ?_
              refine lv_aload_n hx hb dX6_readLine_148 rfl (lv_at hl 1 rfl) ?_
              refine va_get (D := G.1) (ci := 6) (v := .int (nI so2_137)) (C := RX6) (T := TX6) (N := 29) hx hb hts hin6 hown hK.1 hP 0 rfl rfl 17 (by decide) (hts (.fieldLink RX6 110 "BackLensesModel" "sort" "I") (List.mem_of_getElem? (i := 1) rfl)) (fun _ h9 => h9) rfl dX6_readLine_149 ?_
              refine lv_iconst (v := nI 3) hx hb dX6_readLine_152 (by decide) ?_
              refine xn_icmp_ne (tgt := 160) hx hb (by omega) (by omega) dX6_readLine_153 rfl (fun b153 => ?_) (fun b153 => ?_)
              · skip
                refine lv_iconst (v := nI 0) hx hb dX6_readLine_160 (by decide) ?_
                refine lv_iconst (v := nI 2) hx hb dX6_readLine_161 (by decide) ?_
                refine xw_v (As := [.int (nI 0), .int (nI 2)]) (rest := []) (wr := [iA G (ad 2) 85 D, iA G (ad 3) 160 tb]) ⟨hx, hb, hml, hown, hts⟩ (c_X6_needs_0 l G H.size ko ad w h la tp dw dh dl2_137 (tl ||| ((nI 1) <<< ((nI 1) &&& 31))) tc hc hd ps2_137 fr2_137 so2_137 vl2_137 ft2_137 wa2_137 tr 2 (by first | assumption | omega)) (cwV 2 hts gX6_readLine_X6_needs rfl rfl rfl (by decide +kernel) ⟨Nat.le_of_ble_eq_true rfl, Nat.le_of_ble_eq_true rfl⟩) hK hP hD hS hA [0] [1, 2] rfl rfl (by decide) (by decide) (by decide) rfl rfl rfl hl.1 rfl (Nat.le_of_ble_eq_true rfl) dX6_readLine_162 ⟨Nat.le_of_ble_eq_true rfl, Nat.le_of_ble_eq_true rfl⟩ (fun u H locs hp162 hP hD hS => ?_)
                replace hP : xP G [iA G (ad 2) 85 D, iA G (ad 3) 160 tb, oC ko 6 [.ref (ad 0), .ref (ad 1), .int (nI w), .int (nI h), .int (nI la), .ref (ad 2), .int (nI dw), .int (nI dh), .int (nI dl2_137), .int (tl ||| ((nI 1) <<< ((nI 1) &&& 31))), .int tc, .int hc, .int hd, .ref (ad 3), .int (nI tp), .int (nI ps2_137), .int (nI fr2_137), .int (nI so2_137), .int vl2_137, .int (nI 2), .int (nI fr2_137), .ref (ad 4), .ref (ad 5), .ref (ad 6), .ref (ad 7), .ref (ad 8), .ref (ad 9), .ref (ad 10), .int tr]] H := hP
                replace hD : va_D (va_A (w_X6_readLine G ko ad w h la tp dw dh dl tl tc hc hd ps fr so vl ft wa tr tb D) ss.heap.size) [iA G (ad 2) 85 D, iA G (ad 3) 160 tb, oC ko 6 [.ref (ad 0), .ref (ad 1), .int (nI w), .int (nI h), .int (nI la), .ref (ad 2), .int (nI dw), .int (nI dh), .int (nI dl2_137), .int (tl ||| ((nI 1) <<< ((nI 1) &&& 31))), .int tc, .int hc, .int hd, .ref (ad 3), .int (nI tp), .int (nI ps2_137), .int (nI fr2_137), .int (nI so2_137), .int vl2_137, .int (nI 2), .int (nI fr2_137), .ref (ad 4), .ref (ad 5), .ref (ad 6), .ref (ad 7), .ref (ad 8), .ref (ad 9), .ref (ad 10), .int tr]] := hD
                refine lv_aload_n hx hb dX6_readLine_165 rfl (lv_at hl 1 rfl) ?_
                refine xw_v (As := []) (rest := []) (wr := [iA G (ad 2) 85 D]) ⟨hx, hb, hml, hown, hts⟩ (c_X6_nextToken l G H.size ko ad w h la tp dw dh dl2_137 (tl ||| ((nI 1) <<< ((nI 1) &&& 31))) tc hc hd ps2_137 fr2_137 so2_137 vl2_137 2 (nI fr2_137) tr tb (by first | assumption | omega) (by first | assumption | omega) (by first | assumption | omega) (by first | assumption | omega)) (cwV 0 hts gX6_readLine_X6_nextToken rfl rfl rfl (by decide +kernel) ⟨Nat.le_of_ble_eq_true rfl, Nat.le_of_ble_eq_true rfl⟩) hK hP hD hS hA [2, 1] [0] rfl rfl (by decide) (by decide) (by decide) rfl rfl rfl hl.1 rfl (Nat.le_of_ble_eq_true rfl) dX6_readLine_166 ⟨Nat.le_of_ble_eq_true rfl, Nat.le_of_ble_eq_true rfl⟩ (fun u H locs hp166 hP hD hS => ?_)
                obtain ⟨ps2_166, fr2_166, so2_166, vl2_166, ft2_166, wa2_166⟩ := u
                try dsimp only at hp166 hP hD
                have he166 := hp166
                replace hP : xP G [iA G (ad 2) 85 D, oC ko 6 [.ref (ad 0), .ref (ad 1), .int (nI w), .int (nI h), .int (nI la), .ref (ad 2), .int (nI dw), .int (nI dh), .int (nI dl2_137), .int (tl ||| ((nI 1) <<< ((nI 1) &&& 31))), .int tc, .int hc, .int hd, .ref (ad 3), .int (nI tp), .int (nI ps2_166), .int (nI fr2_166), .int (nI so2_166), .int vl2_166, .int (nI ft2_166), .int wa2_166, .ref (ad 4), .ref (ad 5), .ref (ad 6), .ref (ad 7), .ref (ad 8), .ref (ad 9), .ref (ad 10), .int tr], iA G (ad 3) 160 tb] H := hP
                replace hD : va_D (va_A (w_X6_readLine G ko ad w h la tp dw dh dl tl tc hc hd ps fr so vl ft wa tr tb D) ss.heap.size) [iA G (ad 2) 85 D, oC ko 6 [.ref (ad 0), .ref (ad 1), .int (nI w), .int (nI h), .int (nI la), .ref (ad 2), .int (nI dw), .int (nI dh), .int (nI dl2_137), .int (tl ||| ((nI 1) <<< ((nI 1) &&& 31))), .int tc, .int hc, .int hd, .ref (ad 3), .int (nI tp), .int (nI ps2_166), .int (nI fr2_166), .int (nI so2_166), .int vl2_166, .int (nI ft2_166), .int wa2_166, .ref (ad 4), .ref (ad 5), .ref (ad 6), .ref (ad 7), .ref (ad 8), .ref (ad 9), .ref (ad 10), .int tr], iA G (ad 3) 160 tb] := hD
                have hP := hP.sub (ws' := [oC ko 6 [.ref (ad 0), .ref (ad 1), .int (nI w), .int (nI h), .int (nI la), .ref (ad 2), .int (nI dw), .int (nI dh), .int (nI dl2_137), .int (tl ||| ((nI 1) <<< ((nI 1) &&& 31))), .int tc, .int hc, .int hd, .ref (ad 3), .int (nI tp), .int (nI ps2_166), .int (nI fr2_166), .int (nI so2_166), .int vl2_166, .int (nI ft2_166), .int wa2_166, .ref (ad 4), .ref (ad 5), .ref (ad 6), .ref (ad 7), .ref (ad 8), .ref (ad 9), .ref (ad 10), .int tr], iA G (ad 2) 85 D, iA G (ad 3) 160 tb]) [1, 0, 2] rfl
                have hD := hD.sub (ws' := [oC ko 6 [.ref (ad 0), .ref (ad 1), .int (nI w), .int (nI h), .int (nI la), .ref (ad 2), .int (nI dw), .int (nI dh), .int (nI dl2_137), .int (tl ||| ((nI 1) <<< ((nI 1) &&& 31))), .int tc, .int hc, .int hd, .ref (ad 3), .int (nI tp), .int (nI ps2_166), .int (nI fr2_166), .int (nI so2_166), .int vl2_166, .int (nI ft2_166), .int wa2_166, .ref (ad 4), .ref (ad 5), .ref (ad 6), .ref (ad 7), .ref (ad 8), .ref (ad 9), .ref (ad 10), .int tr], iA G (ad 2) 85 D, iA G (ad 3) 160 tb]) [1, 0, 2] (by decide) rfl
                refine W.vret hx hb hr (fun t ht hW => ⟨⟨(ps2_166, fr2_166, so2_166, vl2_166, ft2_166, wa2_166, dw, dh, dl2_137, (tl ||| ((nI 1) <<< ((nI 1) &&& 31))), tc, hc, hd, D), rfl, ?_, by rw [ht]; exact hP, hD⟩, hS.F ht⟩) hS.2.2 dX6_readLine_169
                try dsimp only
                first | exact (hL.trans (mGo_1 he124 h124 he137 (if_neg b144).symm he166)).symm | exact (hL.trans (mGo_1 he124 h124 he137 ((if_pos b144).trans (if_pos b153)).symm he166)).symm | exact (hL.trans (mGo_1 he124 h124 he137 ((if_pos b144).trans (if_neg b153)).symm he166)).symm
              · skip
                refine lv_iconst (v := nI 1) hx hb dX6_readLine_156 (by decide) ?_
                refine lv_goto (tgt := 161) hx hb dX6_readLine_157 rfl ?_
                refine lv_iconst (v := nI 2) hx hb dX6_readLine_161 (by decide) ?_
                refine xw_v (As := [.int (nI 1), .int (nI 2)]) (rest := []) (wr := [iA G (ad 2) 85 D, iA G (ad 3) 160 tb]) ⟨hx, hb, hml, hown, hts⟩ (c_X6_needs_1 l G H.size ko ad w h la tp dw dh dl2_137 (tl ||| ((nI 1) <<< ((nI 1) &&& 31))) tc hc hd ps2_137 fr2_137 so2_137 vl2_137 ft2_137 wa2_137 tr 2 ) (cwV 2 hts gX6_readLine_X6_needs rfl rfl rfl (by decide +kernel) ⟨Nat.le_of_ble_eq_true rfl, Nat.le_of_ble_eq_true rfl⟩) hK hP hD hS hA [0] [1, 2] rfl rfl (by decide) (by decide) (by decide) rfl rfl rfl hl.1 rfl (Nat.le_of_ble_eq_true rfl) dX6_readLine_162 ⟨Nat.le_of_ble_eq_true rfl, Nat.le_of_ble_eq_true rfl⟩ (fun u H locs hp162 hP hD hS => ?_)
                replace hP : xP G [iA G (ad 2) 85 D, iA G (ad 3) 160 tb, oC ko 6 [.ref (ad 0), .ref (ad 1), .int (nI w), .int (nI h), .int (nI la), .ref (ad 2), .int (nI dw), .int (nI dh), .int (nI dl2_137), .int (tl ||| ((nI 1) <<< ((nI 1) &&& 31))), .int tc, .int hc, .int hd, .ref (ad 3), .int (nI tp), .int (nI ps2_137), .int (nI fr2_137), .int (nI so2_137), .int vl2_137, .int (nI ft2_137), .int wa2_137, .ref (ad 4), .ref (ad 5), .ref (ad 6), .ref (ad 7), .ref (ad 8), .ref (ad 9), .ref (ad 10), .int tr]] H := hP
                replace hD : va_D (va_A (w_X6_readLine G ko ad w h la tp dw dh dl tl tc hc hd ps fr so vl ft wa tr tb D) ss.heap.size) [iA G (ad 2) 85 D, iA G (ad 3) 160 tb, oC ko 6 [.ref (ad 0), .ref (ad 1), .int (nI w), .int (nI h), .int (nI la), .ref (ad 2), .int (nI dw), .int (nI dh), .int (nI dl2_137), .int (tl ||| ((nI 1) <<< ((nI 1) &&& 31))), .int tc, .int hc, .int hd, .ref (ad 3), .int (nI tp), .int (nI ps2_137), .int (nI fr2_137), .int (nI so2_137), .int vl2_137, .int (nI ft2_137), .int wa2_137, .ref (ad 4), .ref (ad 5), .ref (ad 6), .ref (ad 7), .ref (ad 8), .ref (ad 9), .ref (ad 10), .int tr]] := hD
                refine lv_aload_n hx hb dX6_readLine_165 rfl (lv_at hl 1 rfl) ?_
                refine xw_v (As := []) (rest := []) (wr := [iA G (ad 2) 85 D]) ⟨hx, hb, hml, hown, hts⟩ (c_X6_nextToken l G H.size ko ad w h la tp dw dh dl2_137 (tl ||| ((nI 1) <<< ((nI 1) &&& 31))) tc hc hd ps2_137 fr2_137 so2_137 vl2_137 ft2_137 wa2_137 tr tb (by first | assumption | omega) (by first | assumption | omega) (by first | assumption | omega) (by first | assumption | omega)) (cwV 0 hts gX6_readLine_X6_nextToken rfl rfl rfl (by decide +kernel) ⟨Nat.le_of_ble_eq_true rfl, Nat.le_of_ble_eq_true rfl⟩) hK hP hD hS hA [2, 1] [0] rfl rfl (by decide) (by decide) (by decide) rfl rfl rfl hl.1 rfl (Nat.le_of_ble_eq_true rfl) dX6_readLine_166 ⟨Nat.le_of_ble_eq_true rfl, Nat.le_of_ble_eq_true rfl⟩ (fun u H locs hp166 hP hD hS => ?_)
                obtain ⟨ps2_166, fr2_166, so2_166, vl2_166, ft2_166, wa2_166⟩ := u
                try dsimp only at hp166 hP hD
                have he166 := hp166
                replace hP : xP G [iA G (ad 2) 85 D, oC ko 6 [.ref (ad 0), .ref (ad 1), .int (nI w), .int (nI h), .int (nI la), .ref (ad 2), .int (nI dw), .int (nI dh), .int (nI dl2_137), .int (tl ||| ((nI 1) <<< ((nI 1) &&& 31))), .int tc, .int hc, .int hd, .ref (ad 3), .int (nI tp), .int (nI ps2_166), .int (nI fr2_166), .int (nI so2_166), .int vl2_166, .int (nI ft2_166), .int wa2_166, .ref (ad 4), .ref (ad 5), .ref (ad 6), .ref (ad 7), .ref (ad 8), .ref (ad 9), .ref (ad 10), .int tr], iA G (ad 3) 160 tb] H := hP
                replace hD : va_D (va_A (w_X6_readLine G ko ad w h la tp dw dh dl tl tc hc hd ps fr so vl ft wa tr tb D) ss.heap.size) [iA G (ad 2) 85 D, oC ko 6 [.ref (ad 0), .ref (ad 1), .int (nI w), .int (nI h), .int (nI la), .ref (ad 2), .int (nI dw), .int (nI dh), .int (nI dl2_137), .int (tl ||| ((nI 1) <<< ((nI 1) &&& 31))), .int tc, .int hc, .int hd, .ref (ad 3), .int (nI tp), .int (nI ps2_166), .int (nI fr2_166), .int (nI so2_166), .int vl2_166, .int (nI ft2_166), .int wa2_166, .ref (ad 4), .ref (ad 5), .ref (ad 6), .ref (ad 7), .ref (ad 8), .ref (ad 9), .ref (ad 10), .int tr], iA G (ad 3) 160 tb] := hD
                have hP := hP.sub (ws' := [oC ko 6 [.ref (ad 0), .ref (ad 1), .int (nI w), .int (nI h), .int (nI la), .ref (ad 2), .int (nI dw), .int (nI dh), .int (nI dl2_137), .int (tl ||| ((nI 1) <<< ((nI 1) &&& 31))), .int tc, .int hc, .int hd, .ref (ad 3), .int (nI tp), .int (nI ps2_166), .int (nI fr2_166), .int (nI so2_166), .int vl2_166, .int (nI ft2_166), .int wa2_166, .ref (ad 4), .ref (ad 5), .ref (ad 6), .ref (ad 7), .ref (ad 8), .ref (ad 9), .ref (ad 10), .int tr], iA G (ad 2) 85 D, iA G (ad 3) 160 tb]) [1, 0, 2] rfl
                have hD := hD.sub (ws' := [oC ko 6 [.ref (ad 0), .ref (ad 1), .int (nI w), .int (nI h), .int (nI la), .ref (ad 2), .int (nI dw), .int (nI dh), .int (nI dl2_137), .int (tl ||| ((nI 1) <<< ((nI 1) &&& 31))), .int tc, .int hc, .int hd, .ref (ad 3), .int (nI tp), .int (nI ps2_166), .int (nI fr2_166), .int (nI so2_166), .int vl2_166, .int (nI ft2_166), .int wa2_166, .ref (ad 4), .ref (ad 5), .ref (ad 6), .ref (ad 7), .ref (ad 8), .ref (ad 9), .ref (ad 10), .int tr], iA G (ad 2) 85 D, iA G (ad 3) 160 tb]) [1, 0, 2] (by decide) rfl
                refine W.vret hx hb hr (fun t ht hW => ⟨⟨(ps2_166, fr2_166, so2_166, vl2_166, ft2_166, wa2_166, dw, dh, dl2_137, (tl ||| ((nI 1) <<< ((nI 1) &&& 31))), tc, hc, hd, D), rfl, ?_, by rw [ht]; exact hP, hD⟩, hS.F ht⟩) hS.2.2 dX6_readLine_169
                try dsimp only
                first | exact (hL.trans (mGo_1 he124 h124 he137 (if_neg b144).symm he166)).symm | exact (hL.trans (mGo_1 he124 h124 he137 ((if_pos b144).trans (if_pos b153)).symm he166)).symm | exact (hL.trans (mGo_1 he124 h124 he137 ((if_pos b144).trans (if_neg b153)).symm he166)).symm
          · skip
            have h124 : ¬ ft2_124 = 0 := (by omega)
            have hP := hP.sub (ws' := [oC ko 6 [.ref (ad 0), .ref (ad 1), .int (nI w), .int (nI h), .int (nI la), .ref (ad 2), .int (nI dw), .int (nI dh), .int (nI dl), .int (tl ||| ((nI 1) <<< ((nI 1) &&& 31))), .int tc, .int hc, .int hd, .ref (ad 3), .int (nI tp), .int (nI ps2_124), .int (nI fr2_124), .int (nI so2_124), .int vl2_124, .int (nI ft2_124), .int wa2_124, .ref (ad 4), .ref (ad 5), .ref (ad 6), .ref (ad 7), .ref (ad 8), .ref (ad 9), .ref (ad 10), .int tr], iA G (ad 2) 85 D, iA G (ad 3) 160 tb]) [1, 0, 2] rfl
            have hD := hD.sub (ws' := [oC ko 6 [.ref (ad 0), .ref (ad 1), .int (nI w), .int (nI h), .int (nI la), .ref (ad 2), .int (nI dw), .int (nI dh), .int (nI dl), .int (tl ||| ((nI 1) <<< ((nI 1) &&& 31))), .int tc, .int hc, .int hd, .ref (ad 3), .int (nI tp), .int (nI ps2_124), .int (nI fr2_124), .int (nI so2_124), .int vl2_124, .int (nI ft2_124), .int wa2_124, .ref (ad 4), .ref (ad 5), .ref (ad 6), .ref (ad 7), .ref (ad 8), .ref (ad 9), .ref (ad 10), .int tr], iA G (ad 2) 85 D, iA G (ad 3) 160 tb]) [1, 0, 2] (by decide) rfl
            refine W.vret hx hb hr (fun t ht hW => ⟨⟨(ps2_124, fr2_124, so2_124, vl2_124, ft2_124, wa2_124, dw, dh, dl, (tl ||| ((nI 1) <<< ((nI 1) &&& 31))), tc, hc, hd, D), rfl, ?_, by rw [ht]; exact hP, hD⟩, hS.F ht⟩) hS.2.2 dX6_readLine_134
            try dsimp only
            first | exact (hL.trans (congrArg (fun a => (a, _)) hT.symm)).symm | exact (hL.trans (mGo_0 he124 h124)).symm
      · skip
        refine lv_iconst (v := nI 1) hx hb dX6_readLine_25 (by decide) ?_
        refine lv_goto (tgt := 30) hx hb dX6_readLine_26 rfl ?_
        refine lv_iconst (v := nI 2) hx hb dX6_readLine_30 (by decide) ?_
        refine xw_v (As := [.int (nI 1), .int (nI 2)]) (rest := []) (wr := [iA G (ad 2) 85 D, iA G (ad 3) 160 tb]) ⟨hx, hb, hml, hown, hts⟩ (c_X6_needs_1 l G H.size ko ad w h la tp dw dh dl tl tc hc hd ps fr so vl ft wa tr 2 ) (cwV 2 hts gX6_readLine_X6_needs rfl rfl rfl (by decide +kernel) ⟨Nat.le_of_ble_eq_true rfl, Nat.le_of_ble_eq_true rfl⟩) hK hP hD hS hA [0] [1, 2] rfl rfl (by decide) (by decide) (by decide) rfl rfl rfl hl.1 rfl (Nat.le_of_ble_eq_true rfl) dX6_readLine_31 ⟨Nat.le_of_ble_eq_true rfl, Nat.le_of_ble_eq_true rfl⟩ (fun u H locs hp31 hP hD hS => ?_)
        replace hP : xP G [iA G (ad 2) 85 D, iA G (ad 3) 160 tb, oC ko 6 [.ref (ad 0), .ref (ad 1), .int (nI w), .int (nI h), .int (nI la), .ref (ad 2), .int (nI dw), .int (nI dh), .int (nI dl), .int tl, .int tc, .int hc, .int hd, .ref (ad 3), .int (nI tp), .int (nI ps), .int (nI fr), .int (nI so), .int vl, .int (nI ft), .int wa, .ref (ad 4), .ref (ad 5), .ref (ad 6), .ref (ad 7), .ref (ad 8), .ref (ad 9), .ref (ad 10), .int tr]] H := hP
        replace hD : va_D (va_A (w_X6_readLine G ko ad w h la tp dw dh dl tl tc hc hd ps fr so vl ft wa tr tb D) ss.heap.size) [iA G (ad 2) 85 D, iA G (ad 3) 160 tb, oC ko 6 [.ref (ad 0), .ref (ad 1), .int (nI w), .int (nI h), .int (nI la), .ref (ad 2), .int (nI dw), .int (nI dh), .int (nI dl), .int tl, .int tc, .int hc, .int hd, .ref (ad 3), .int (nI tp), .int (nI ps), .int (nI fr), .int (nI so), .int vl, .int (nI ft), .int wa, .ref (ad 4), .ref (ad 5), .ref (ad 6), .ref (ad 7), .ref (ad 8), .ref (ad 9), .ref (ad 10), .int tr]] := hD
        refine lv_aload_n hx hb dX6_readLine_34 rfl (lv_at hl 1 rfl) ?_
        refine lv_iload_n hx hb dX6_readLine_35 rfl (lv_at hl 0 rfl) ?_
        refine lv_iconst (v := nI 3) hx hb dX6_readLine_36 (by decide) ?_
        refine xn_icmp_ne (tgt := 52) hx hb (by omega) (by omega) dX6_readLine_37 rfl (fun _ => ?_) (fun b37 => absurd b37 (by omega))
        refine lv_iload_n hx hb dX6_readLine_52 rfl (lv_at hl 0 rfl) ?_
        refine lv_iconst (v := nI 4) hx hb dX6_readLine_53 (by decide) ?_
        refine xn_icmp_ne (tgt := 69) hx hb (by omega) (by omega) dX6_readLine_54 rfl (fun _ => ?_) (fun b54 => absurd b54 (by omega))
        refine lv_iconst (v := nI 1) hx hb dX6_readLine_69 (by decide) ?_
        refine lv_goto (tgt := 74) hx hb dX6_readLine_70 rfl ?_
        refine lv_iconst (v := nI 5) hx hb dX6_readLine_74 (by decide) ?_
        refine xw_v (As := [.int (nI 1), .int (nI 5)]) (rest := []) (wr := [iA G (ad 2) 85 D, iA G (ad 3) 160 tb]) ⟨hx, hb, hml, hown, hts⟩ (c_X6_needs_1 l G H.size ko ad w h la tp dw dh dl tl tc hc hd ps fr so vl ft wa tr 5 ) (cwV 2 hts gX6_readLine_X6_needs rfl rfl rfl (by decide +kernel) ⟨Nat.le_of_ble_eq_true rfl, Nat.le_of_ble_eq_true rfl⟩) hK hP hD hS hA [2] [0, 1] rfl rfl (by decide) (by decide) (by decide) rfl rfl rfl hl.1 rfl (Nat.le_of_ble_eq_true rfl) dX6_readLine_75 ⟨Nat.le_of_ble_eq_true rfl, Nat.le_of_ble_eq_true rfl⟩ (fun u H locs hp75 hP hD hS => ?_)
        replace hP : xP G [iA G (ad 2) 85 D, iA G (ad 3) 160 tb, oC ko 6 [.ref (ad 0), .ref (ad 1), .int (nI w), .int (nI h), .int (nI la), .ref (ad 2), .int (nI dw), .int (nI dh), .int (nI dl), .int tl, .int tc, .int hc, .int hd, .ref (ad 3), .int (nI tp), .int (nI ps), .int (nI fr), .int (nI so), .int vl, .int (nI ft), .int wa, .ref (ad 4), .ref (ad 5), .ref (ad 6), .ref (ad 7), .ref (ad 8), .ref (ad 9), .ref (ad 10), .int tr]] H := hP
        replace hD : va_D (va_A (w_X6_readLine G ko ad w h la tp dw dh dl tl tc hc hd ps fr so vl ft wa tr tb D) ss.heap.size) [iA G (ad 2) 85 D, iA G (ad 3) 160 tb, oC ko 6 [.ref (ad 0), .ref (ad 1), .int (nI w), .int (nI h), .int (nI la), .ref (ad 2), .int (nI dw), .int (nI dh), .int (nI dl), .int tl, .int tc, .int hc, .int hd, .ref (ad 3), .int (nI tp), .int (nI ps), .int (nI fr), .int (nI so), .int vl, .int (nI ft), .int wa, .ref (ad 4), .ref (ad 5), .ref (ad 6), .ref (ad 7), .ref (ad 8), .ref (ad 9), .ref (ad 10), .int tr]] := hD
        refine lv_aload_n hx hb dX6_readLine_78 rfl (lv_at hl 1 rfl) ?_
        refine va_get (D := G.1) (ci := 6) (v := .int (nI ft)) (C := RX6) (T := TX6) (N := 29) hx hb hts hin6 hown hK.1 hP 2 rfl rfl 19 (by decide) (hts (.fieldLink RX6 90 "BackLensesModel" "fault" "I") (List.mem_of_getElem? (i := 3) rfl)) (fun _ h9 => h9) rfl dX6_readLine_79 ?_
        refine xn_if_ne (tgt := 123) hx hb (by omega) dX6_readLine_82 rfl (fun b82 => absurd b82 (by omega)) (fun _ => ?_)
        refine lv_iload_n hx hb dX6_readLine_85 rfl (lv_at hl 0 rfl) ?_
        refine lv_iconst (v := nI 1) hx hb dX6_readLine_86 (by decide) ?_
        refine xn_icmp_gt (tgt := 123) hx hb (by omega) (by omega) dX6_readLine_87 rfl (fun _ => ?_) (fun b87 => absurd b87 (by omega))
        have hKj : mKd tb tp (ps, fr, so, vl, ft, wa) = nI 2 := (if_pos b5).trans hkv
        have hL : mLine tb tp ((ps, fr, so, vl, ft, wa), (dw, dh, dl), (tl, tc, hc, hd), D) = mGo tb tp 2 ((ps, fr, so, vl, ft, wa), (dw, dh, dl), (tl, tc, hc, hd), D) := (mLine_k (by omega) hKj).trans ((if_neg (show ¬ ((2 = 3 ∧ 10 ≤ vI (D 16)) ∨ (2 = 4 ∧ 6 ≤ vI (D 47))) by omega)).trans (if_neg (by omega)))
        refine lv_aload_n hx hb dX6_readLine_123 rfl (lv_at hl 1 rfl) ?_
        refine xw_v (As := []) (rest := []) (wr := [iA G (ad 2) 85 D]) ⟨hx, hb, hml, hown, hts⟩ (c_X6_nextToken l G H.size ko ad w h la tp dw dh dl tl tc hc hd ps fr so vl ft wa tr tb (by first | assumption | omega) (by first | assumption | omega) (by first | assumption | omega) (by first | assumption | omega)) (cwV 0 hts gX6_readLine_X6_nextToken rfl rfl rfl (by decide +kernel) ⟨Nat.le_of_ble_eq_true rfl, Nat.le_of_ble_eq_true rfl⟩) hK hP hD hS hA [2, 1] [0] rfl rfl (by decide) (by decide) (by decide) rfl rfl rfl hl.1 rfl (Nat.le_of_ble_eq_true rfl) dX6_readLine_124 ⟨Nat.le_of_ble_eq_true rfl, Nat.le_of_ble_eq_true rfl⟩ (fun u H locs hp124 hP hD hS => ?_)
        obtain ⟨ps2_124, fr2_124, so2_124, vl2_124, ft2_124, wa2_124⟩ := u
        try dsimp only at hp124 hP hD
        have he124 := hp124
        replace hP : xP G [iA G (ad 2) 85 D, oC ko 6 [.ref (ad 0), .ref (ad 1), .int (nI w), .int (nI h), .int (nI la), .ref (ad 2), .int (nI dw), .int (nI dh), .int (nI dl), .int tl, .int tc, .int hc, .int hd, .ref (ad 3), .int (nI tp), .int (nI ps2_124), .int (nI fr2_124), .int (nI so2_124), .int vl2_124, .int (nI ft2_124), .int wa2_124, .ref (ad 4), .ref (ad 5), .ref (ad 6), .ref (ad 7), .ref (ad 8), .ref (ad 9), .ref (ad 10), .int tr], iA G (ad 3) 160 tb] H := hP
        replace hD : va_D (va_A (w_X6_readLine G ko ad w h la tp dw dh dl tl tc hc hd ps fr so vl ft wa tr tb D) ss.heap.size) [iA G (ad 2) 85 D, oC ko 6 [.ref (ad 0), .ref (ad 1), .int (nI w), .int (nI h), .int (nI la), .ref (ad 2), .int (nI dw), .int (nI dh), .int (nI dl), .int tl, .int tc, .int hc, .int hd, .ref (ad 3), .int (nI tp), .int (nI ps2_124), .int (nI fr2_124), .int (nI so2_124), .int vl2_124, .int (nI ft2_124), .int wa2_124, .ref (ad 4), .ref (ad 5), .ref (ad 6), .ref (ad 7), .ref (ad 8), .ref (ad 9), .ref (ad 10), .int tr], iA G (ad 3) 160 tb] := hD
        have ho124 : mOk tp (ps2_124, fr2_124, so2_124, vl2_124, ft2_124, wa2_124) := (by rw [he124]; exact mTok_ok (ho0))
        have hps124 : ps2_124 ≤ tp := ho124.1
        have hft124 : ft2_124 ≤ 6 := ho124.2.1
        have hso124 : so2_124 ≤ 3 := ho124.2.2.1
        have hfr124 : fr2_124 ≤ ps2_124 := ho124.2.2.2
        refine lv_aload_n hx hb dX6_readLine_127 rfl (lv_at hl 1 rfl) ?_
        refine va_get (D := G.1) (ci := 6) (v := .int (nI ft2_124)) (C := RX6) (T := TX6) (N := 29) hx hb hts hin6 hown hK.1 hP 1 rfl rfl 19 (by decide) (hts (.fieldLink RX6 90 "BackLensesModel" "fault" "I") (List.mem_of_getElem? (i := 3) rfl)) (fun _ h9 => h9) rfl dX6_readLine_128 ?_
        refine xn_if_le (tgt := 135) hx hb (by omega) dX6_readLine_131 rfl (fun b131 => ?_) (fun b131 => ?_)
        · skip
          have h124 : ft2_124 = 0 := (by omega)
          refine lv_aload_n hx hb dX6_readLine_135 rfl (lv_at hl 1 rfl) ?_
          refine lv_iload_n hx hb dX6_readLine_136 rfl (lv_at hl 0 rfl) ?_
          refine xw_v (As := [.int (nI 2)]) (rest := []) (wr := []) ⟨hx, hb, hml, hown, hts⟩ (c_X6_readLineOf_2 l G H.size ko ad w h la tp dw dh dl tl tc hc hd ps2_124 fr2_124 so2_124 vl2_124 ft2_124 wa2_124 tr tb D (by first | assumption | omega) (by first | assumption | omega) (by first | assumption | omega) (by first | assumption | omega) (by first | assumption | omega) (by first | assumption | omega)) (cwV 1 hts gX6_readLine_X6_readLineOf rfl rfl rfl (by decide +kernel) ⟨Nat.le_of_ble_eq_true rfl, Nat.le_of_ble_eq_true rfl⟩) hK hP hD hS hA [1, 0, 2] [] rfl rfl (by decide) (by decide) (by decide) rfl rfl rfl hl.1 rfl (Nat.le_of_ble_eq_true rfl) dX6_readLine_137 ⟨Nat.le_of_ble_eq_true rfl, Nat.le_of_ble_eq_true rfl⟩ (fun u H locs hp137 hP hD hS => ?_)
          obtain ⟨ps2_137, fr2_137, so2_137, vl2_137, ft2_137, wa2_137, tc2_137, hc2_137, D2_137⟩ := u
          try dsimp only at hp137 hP hD
          have he137 := hp137
          replace hP : xP G [oC ko 6 [.ref (ad 0), .ref (ad 1), .int (nI w), .int (nI h), .int (nI la), .ref (ad 2), .int (nI dw), .int (nI dh), .int (nI dl), .int tl, .int tc2_137, .int hc2_137, .int hd, .ref (ad 3), .int (nI tp), .int (nI ps2_137), .int (nI fr2_137), .int (nI so2_137), .int vl2_137, .int (nI ft2_137), .int wa2_137, .ref (ad 4), .ref (ad 5), .ref (ad 6), .ref (ad 7), .ref (ad 8), .ref (ad 9), .ref (ad 10), .int tr], iA G (ad 2) 85 D2_137, iA G (ad 3) 160 tb] H := hP
          replace hD : va_D (va_A (w_X6_readLine G ko ad w h la tp dw dh dl tl tc hc hd ps fr so vl ft wa tr tb D) ss.heap.size) [oC ko 6 [.ref (ad 0), .ref (ad 1), .int (nI w), .int (nI h), .int (nI la), .ref (ad 2), .int (nI dw), .int (nI dh), .int (nI dl), .int tl, .int tc2_137, .int hc2_137, .int hd, .ref (ad 3), .int (nI tp), .int (nI ps2_137), .int (nI fr2_137), .int (nI so2_137), .int vl2_137, .int (nI ft2_137), .int wa2_137, .ref (ad 4), .ref (ad 5), .ref (ad 6), .ref (ad 7), .ref (ad 8), .ref (ad 9), .ref (ad 10), .int tr], iA G (ad 2) 85 D2_137, iA G (ad 3) 160 tb] := hD
          have ho137 : mOk tp (ps2_137, fr2_137, so2_137, vl2_137, ft2_137, wa2_137) := (by rw [show (ps2_137, fr2_137, so2_137, vl2_137, ft2_137, wa2_137) = (mLof tb tp 2 ((ps2_124, fr2_124, so2_124, vl2_124, ft2_124, wa2_124), (dw, dh, dl), (tl, tc, hc, hd), D)).1 from congrArg (fun a : XS => a.1) he137]; exact (mLof_ok ho124).1)
          have hps137 : ps2_137 ≤ tp := ho137.1
          have hft137 : ft2_137 ≤ 6 := ho137.2.1
          have hso137 : so2_137 ≤ 3 := ho137.2.2.1
          have hfr137 : fr2_137 ≤ ps2_137 := ho137.2.2.2
          refine lv_aload_n hx hb dX6_readLine_140 rfl (lv_at hl 1 rfl) ?_
          refine va_get (D := G.1) (ci := 6) (v := .int (nI ft2_137)) (C := RX6) (T := TX6) (N := 29) hx hb hts hin6 hown hK.1 hP 0 rfl rfl 19 (by decide) (hts (.fieldLink RX6 90 "BackLensesModel" "fault" "I") (List.mem_of_getElem? (i := 3) rfl)) (fun _ h9 => h9) rfl dX6_readLine_141 ?_
          refine xn_if_ne (tgt := 165) hx hb (by omega) dX6_readLine_144 rfl (fun b144 => ?_) (fun b144 => ?_)
          · skip
            refine lv_aload_n hx hb dX6_readLine_165 rfl (lv_at hl 1 rfl) ?_
            refine xw_v (As := []) (rest := []) (wr := [iA G (ad 2) 85 D2_137]) ⟨hx, hb, hml, hown, hts⟩ (c_X6_nextToken l G H.size ko ad w h la tp dw dh dl tl tc2_137 hc2_137 hd ps2_137 fr2_137 so2_137 vl2_137 ft2_137 wa2_137 tr tb (by first | assumption | omega) (by first | assumption | omega) (by first | assumption | omega) (by first | assumption | omega)) (cwV 0 hts gX6_readLine_X6_nextToken rfl rfl rfl (by decide +kernel) ⟨Nat.le_of_ble_eq_true rfl, Nat.le_of_ble_eq_true rfl⟩) hK hP hD hS hA [0, 2] [1] rfl rfl (by decide) (by decide) (by decide) rfl rfl rfl hl.1 rfl (Nat.le_of_ble_eq_true rfl) dX6_readLine_166 ⟨Nat.le_of_ble_eq_true rfl, Nat.le_of_ble_eq_true rfl⟩ (fun u H locs hp166 hP hD hS => ?_)
            obtain ⟨ps2_166, fr2_166, so2_166, vl2_166, ft2_166, wa2_166⟩ := u
            try dsimp only at hp166 hP hD
            have he166 := hp166
            replace hP : xP G [iA G (ad 2) 85 D2_137, oC ko 6 [.ref (ad 0), .ref (ad 1), .int (nI w), .int (nI h), .int (nI la), .ref (ad 2), .int (nI dw), .int (nI dh), .int (nI dl), .int tl, .int tc2_137, .int hc2_137, .int hd, .ref (ad 3), .int (nI tp), .int (nI ps2_166), .int (nI fr2_166), .int (nI so2_166), .int vl2_166, .int (nI ft2_166), .int wa2_166, .ref (ad 4), .ref (ad 5), .ref (ad 6), .ref (ad 7), .ref (ad 8), .ref (ad 9), .ref (ad 10), .int tr], iA G (ad 3) 160 tb] H := hP
            replace hD : va_D (va_A (w_X6_readLine G ko ad w h la tp dw dh dl tl tc hc hd ps fr so vl ft wa tr tb D) ss.heap.size) [iA G (ad 2) 85 D2_137, oC ko 6 [.ref (ad 0), .ref (ad 1), .int (nI w), .int (nI h), .int (nI la), .ref (ad 2), .int (nI dw), .int (nI dh), .int (nI dl), .int tl, .int tc2_137, .int hc2_137, .int hd, .ref (ad 3), .int (nI tp), .int (nI ps2_166), .int (nI fr2_166), .int (nI so2_166), .int vl2_166, .int (nI ft2_166), .int wa2_166, .ref (ad 4), .ref (ad 5), .ref (ad 6), .ref (ad 7), .ref (ad 8), .ref (ad 9), .ref (ad 10), .int tr], iA G (ad 3) 160 tb] := hD
            have hP := hP.sub (ws' := [oC ko 6 [.ref (ad 0), .ref (ad 1), .int (nI w), .int (nI h), .int (nI la), .ref (ad 2), .int (nI dw), .int (nI dh), .int (nI dl), .int tl, .int tc2_137, .int hc2_137, .int hd, .ref (ad 3), .int (nI tp), .int (nI ps2_166), .int (nI fr2_166), .int (nI so2_166), .int vl2_166, .int (nI ft2_166), .int wa2_166, .ref (ad 4), .ref (ad 5), .ref (ad 6), .ref (ad 7), .ref (ad 8), .ref (ad 9), .ref (ad 10), .int tr], iA G (ad 2) 85 D2_137, iA G (ad 3) 160 tb]) [1, 0, 2] rfl
            have hD := hD.sub (ws' := [oC ko 6 [.ref (ad 0), .ref (ad 1), .int (nI w), .int (nI h), .int (nI la), .ref (ad 2), .int (nI dw), .int (nI dh), .int (nI dl), .int tl, .int tc2_137, .int hc2_137, .int hd, .ref (ad 3), .int (nI tp), .int (nI ps2_166), .int (nI fr2_166), .int (nI so2_166), .int vl2_166, .int (nI ft2_166), .int wa2_166, .ref (ad 4), .ref (ad 5), .ref (ad 6), .ref (ad 7), .ref (ad 8), .ref (ad 9), .ref (ad 10), .int tr], iA G (ad 2) 85 D2_137, iA G (ad 3) 160 tb]) [1, 0, 2] (by decide) rfl
            refine W.vret hx hb hr (fun t ht hW => ⟨⟨(ps2_166, fr2_166, so2_166, vl2_166, ft2_166, wa2_166, dw, dh, dl, tl, tc2_137, hc2_137, hd, D2_137), rfl, ?_, by rw [ht]; exact hP, hD⟩, hS.F ht⟩) hS.2.2 dX6_readLine_169
            try dsimp only
            first | exact (hL.trans (mGo_1 he124 h124 he137 (if_neg b144).symm he166)).symm | exact (hL.trans (mGo_1 he124 h124 he137 ((if_pos b144).trans (if_pos b153)).symm he166)).symm | exact (hL.trans (mGo_1 he124 h124 he137 ((if_pos b144).trans (if_neg b153)).symm he166)).symm
          · skip
            refine lv_aload_n hx hb dX6_readLine_147 rfl (lv_at hl 1 rfl) ?_
            refine lv_aload_n hx hb dX6_readLine_148 rfl (lv_at hl 1 rfl) ?_
            refine va_get (D := G.1) (ci := 6) (v := .int (nI so2_137)) (C := RX6) (T := TX6) (N := 29) hx hb hts hin6 hown hK.1 hP 0 rfl rfl 17 (by decide) (hts (.fieldLink RX6 110 "BackLensesModel" "sort" "I") (List.mem_of_getElem? (i := 1) rfl)) (fun _ h9 => h9) rfl dX6_readLine_149 ?_
            refine lv_iconst (v := nI 3) hx hb dX6_readLine_152 (by decide) ?_
            refine xn_icmp_ne (tgt := 160) hx hb (by omega) (by omega) dX6_readLine_153 rfl (fun b153 => ?_) (fun b153 => ?_)
            · skip
              refine lv_iconst (v := nI 0) hx hb dX6_readLine_160 (by decide) ?_
              refine lv_iconst (v := nI 2) hx hb dX6_readLine_161 (by decide) ?_
              refine xw_v (As := [.int (nI 0), .int (nI 2)]) (rest := []) (wr := [iA G (ad 2) 85 D2_137, iA G (ad 3) 160 tb]) ⟨hx, hb, hml, hown, hts⟩ (c_X6_needs_0 l G H.size ko ad w h la tp dw dh dl tl tc2_137 hc2_137 hd ps2_137 fr2_137 so2_137 vl2_137 ft2_137 wa2_137 tr 2 (by first | assumption | omega)) (cwV 2 hts gX6_readLine_X6_needs rfl rfl rfl (by decide +kernel) ⟨Nat.le_of_ble_eq_true rfl, Nat.le_of_ble_eq_true rfl⟩) hK hP hD hS hA [0] [1, 2] rfl rfl (by decide) (by decide) (by decide) rfl rfl rfl hl.1 rfl (Nat.le_of_ble_eq_true rfl) dX6_readLine_162 ⟨Nat.le_of_ble_eq_true rfl, Nat.le_of_ble_eq_true rfl⟩ (fun u H locs hp162 hP hD hS => ?_)
              replace hP : xP G [iA G (ad 2) 85 D2_137, iA G (ad 3) 160 tb, oC ko 6 [.ref (ad 0), .ref (ad 1), .int (nI w), .int (nI h), .int (nI la), .ref (ad 2), .int (nI dw), .int (nI dh), .int (nI dl), .int tl, .int tc2_137, .int hc2_137, .int hd, .ref (ad 3), .int (nI tp), .int (nI ps2_137), .int (nI fr2_137), .int (nI so2_137), .int vl2_137, .int (nI 2), .int (nI fr2_137), .ref (ad 4), .ref (ad 5), .ref (ad 6), .ref (ad 7), .ref (ad 8), .ref (ad 9), .ref (ad 10), .int tr]] H := hP
              replace hD : va_D (va_A (w_X6_readLine G ko ad w h la tp dw dh dl tl tc hc hd ps fr so vl ft wa tr tb D) ss.heap.size) [iA G (ad 2) 85 D2_137, iA G (ad 3) 160 tb, oC ko 6 [.ref (ad 0), .ref (ad 1), .int (nI w), .int (nI h), .int (nI la), .ref (ad 2), .int (nI dw), .int (nI dh), .int (nI dl), .int tl, .int tc2_137, .int hc2_137, .int hd, .ref (ad 3), .int (nI tp), .int (nI ps2_137), .int (nI fr2_137), .int (nI so2_137), .int vl2_137, .int (nI 2), .int (nI fr2_137), .ref (ad 4), .ref (ad 5), .ref (ad 6), .ref (ad 7), .ref (ad 8), .ref (ad 9), .ref (ad 10), .int tr]] := hD
              refine lv_aload_n hx hb dX6_readLine_165 rfl (lv_at hl 1 rfl) ?_
              refine xw_v (As := []) (rest := []) (wr := [iA G (ad 2) 85 D2_137]) ⟨hx, hb, hml, hown, hts⟩ (c_X6_nextToken l G H.size ko ad w h la tp dw dh dl tl tc2_137 hc2_137 hd ps2_137 fr2_137 so2_137 vl2_137 2 (nI fr2_137) tr tb (by first | assumption | omega) (by first | assumption | omega) (by first | assumption | omega) (by first | assumption | omega)) (cwV 0 hts gX6_readLine_X6_nextToken rfl rfl rfl (by decide +kernel) ⟨Nat.le_of_ble_eq_true rfl, Nat.le_of_ble_eq_true rfl⟩) hK hP hD hS hA [2, 1] [0] rfl rfl (by decide) (by decide) (by decide) rfl rfl rfl hl.1 rfl (Nat.le_of_ble_eq_true rfl) dX6_readLine_166 ⟨Nat.le_of_ble_eq_true rfl, Nat.le_of_ble_eq_true rfl⟩ (fun u H locs hp166 hP hD hS => ?_)
              obtain ⟨ps2_166, fr2_166, so2_166, vl2_166, ft2_166, wa2_166⟩ := u
              try dsimp only at hp166 hP hD
              have he166 := hp166
              replace hP : xP G [iA G (ad 2) 85 D2_137, oC ko 6 [.ref (ad 0), .ref (ad 1), .int (nI w), .int (nI h), .int (nI la), .ref (ad 2), .int (nI dw), .int (nI dh), .int (nI dl), .int tl, .int tc2_137, .int hc2_137, .int hd, .ref (ad 3), .int (nI tp), .int (nI ps2_166), .int (nI fr2_166), .int (nI so2_166), .int vl2_166, .int (nI ft2_166), .int wa2_166, .ref (ad 4), .ref (ad 5), .ref (ad 6), .ref (ad 7), .ref (ad 8), .ref (ad 9), .ref (ad 10), .int tr], iA G (ad 3) 160 tb] H := hP
              replace hD : va_D (va_A (w_X6_readLine G ko ad w h la tp dw dh dl tl tc hc hd ps fr so vl ft wa tr tb D) ss.heap.size) [iA G (ad 2) 85 D2_137, oC ko 6 [.ref (ad 0), .ref (ad 1), .int (nI w), .int (nI h), .int (nI la), .ref (ad 2), .int (nI dw), .int (nI dh), .int (nI dl), .int tl, .int tc2_137, .int hc2_137, .int hd, .ref (ad 3), .int (nI tp), .int (nI ps2_166), .int (nI fr2_166), .int (nI so2_166), .int vl2_166, .int (nI ft2_166), .int wa2_166, .ref (ad 4), .ref (ad 5), .ref (ad 6), .ref (ad 7), .ref (ad 8), .ref (ad 9), .ref (ad 10), .int tr], iA G (ad 3) 160 tb] := hD
              have hP := hP.sub (ws' := [oC ko 6 [.ref (ad 0), .ref (ad 1), .int (nI w), .int (nI h), .int (nI la), .ref (ad 2), .int (nI dw), .int (nI dh), .int (nI dl), .int tl, .int tc2_137, .int hc2_137, .int hd, .ref (ad 3), .int (nI tp), .int (nI ps2_166), .int (nI fr2_166), .int (nI so2_166), .int vl2_166, .int (nI ft2_166), .int wa2_166, .ref (ad 4), .ref (ad 5), .ref (ad 6), .ref (ad 7), .ref (ad 8), .ref (ad 9), .ref (ad 10), .int tr], iA G (ad 2) 85 D2_137, iA G (ad 3) 160 tb]) [1, 0, 2] rfl
              have hD := hD.sub (ws' := [oC ko 6 [.ref (ad 0), .ref (ad 1), .int (nI w), .int (nI h), .int (nI la), .ref (ad 2), .int (nI dw), .int (nI dh), .int (nI dl), .int tl, .int tc2_137, .int hc2_137, .int hd, .ref (ad 3), .int (nI tp), .int (nI ps2_166), .int (nI fr2_166), .int (nI so2_166), .int vl2_166, .int (nI ft2_166), .int wa2_166, .ref (ad 4), .ref (ad 5), .ref (ad 6), .ref (ad 7), .ref (ad 8), .ref (ad 9), .ref (ad 10), .int tr], iA G (ad 2) 85 D2_137, iA G (ad 3) 160 tb]) [1, 0, 2] (by decide) rfl
              refine W.vret hx hb hr (fun t ht hW => ⟨⟨(ps2_166, fr2_166, so2_166, vl2_166, ft2_166, wa2_166, dw, dh, dl, tl, tc2_137, hc2_137, hd, D2_137), rfl, ?_, by rw [ht]; exact hP, hD⟩, hS.F ht⟩) hS.2.2 dX6_readLine_169
              try dsimp only
              first | exact (hL.trans (mGo_1 he124 h124 he137 (if_neg b144).symm he166)).symm | exact (hL.trans (mGo_1 he124 h124 he137 ((if_pos b144).trans (if_pos b153)).symm he166)).symm | exact (hL.trans (mGo_1 he124 h124 he137 ((if_pos b144).trans (if_neg b153)).symm he166)).symm
            · skip
              refine lv_iconst (v := nI 1) hx hb dX6_readLine_156 (by decide) ?_
              refine lv_goto (tgt := 161) hx hb dX6_readLine_157 rfl ?_
              refine lv_iconst (v := nI 2) hx hb dX6_readLine_161 (by decide) ?_
              refine xw_v (As := [.int (nI 1), .int (nI 2)]) (rest := []) (wr := [iA G (ad 2) 85 D2_137, iA G (ad 3) 160 tb]) ⟨hx, hb, hml, hown, hts⟩ (c_X6_needs_1 l G H.size ko ad w h la tp dw dh dl tl tc2_137 hc2_137 hd ps2_137 fr2_137 so2_137 vl2_137 ft2_137 wa2_137 tr 2 ) (cwV 2 hts gX6_readLine_X6_needs rfl rfl rfl (by decide +kernel) ⟨Nat.le_of_ble_eq_true rfl, Nat.le_of_ble_eq_true rfl⟩) hK hP hD hS hA [0] [1, 2] rfl rfl (by decide) (by decide) (by decide) rfl rfl rfl hl.1 rfl (Nat.le_of_ble_eq_true rfl) dX6_readLine_162 ⟨Nat.le_of_ble_eq_true rfl, Nat.le_of_ble_eq_true rfl⟩ (fun u H locs hp162 hP hD hS => ?_)
              replace hP : xP G [iA G (ad 2) 85 D2_137, iA G (ad 3) 160 tb, oC ko 6 [.ref (ad 0), .ref (ad 1), .int (nI w), .int (nI h), .int (nI la), .ref (ad 2), .int (nI dw), .int (nI dh), .int (nI dl), .int tl, .int tc2_137, .int hc2_137, .int hd, .ref (ad 3), .int (nI tp), .int (nI ps2_137), .int (nI fr2_137), .int (nI so2_137), .int vl2_137, .int (nI ft2_137), .int wa2_137, .ref (ad 4), .ref (ad 5), .ref (ad 6), .ref (ad 7), .ref (ad 8), .ref (ad 9), .ref (ad 10), .int tr]] H := hP
              replace hD : va_D (va_A (w_X6_readLine G ko ad w h la tp dw dh dl tl tc hc hd ps fr so vl ft wa tr tb D) ss.heap.size) [iA G (ad 2) 85 D2_137, iA G (ad 3) 160 tb, oC ko 6 [.ref (ad 0), .ref (ad 1), .int (nI w), .int (nI h), .int (nI la), .ref (ad 2), .int (nI dw), .int (nI dh), .int (nI dl), .int tl, .int tc2_137, .int hc2_137, .int hd, .ref (ad 3), .int (nI tp), .int (nI ps2_137), .int (nI fr2_137), .int (nI so2_137), .int vl2_137, .int (nI ft2_137), .int wa2_137, .ref (ad 4), .ref (ad 5), .ref (ad 6), .ref (ad 7), .ref (ad 8), .ref (ad 9), .ref (ad 10), .int tr]] := hD
              refine lv_aload_n hx hb dX6_readLine_165 rfl (lv_at hl 1 rfl) ?_
              refine xw_v (As := []) (rest := []) (wr := [iA G (ad 2) 85 D2_137]) ⟨hx, hb, hml, hown, hts⟩ (c_X6_nextToken l G H.size ko ad w h la tp dw dh dl tl tc2_137 hc2_137 hd ps2_137 fr2_137 so2_137 vl2_137 ft2_137 wa2_137 tr tb (by first | assumption | omega) (by first | assumption | omega) (by first | assumption | omega) (by first | assumption | omega)) (cwV 0 hts gX6_readLine_X6_nextToken rfl rfl rfl (by decide +kernel) ⟨Nat.le_of_ble_eq_true rfl, Nat.le_of_ble_eq_true rfl⟩) hK hP hD hS hA [2, 1] [0] rfl rfl (by decide) (by decide) (by decide) rfl rfl rfl hl.1 rfl (Nat.le_of_ble_eq_true rfl) dX6_readLine_166 ⟨Nat.le_of_ble_eq_true rfl, Nat.le_of_ble_eq_true rfl⟩ (fun u H locs hp166 hP hD hS => ?_)
              obtain ⟨ps2_166, fr2_166, so2_166, vl2_166, ft2_166, wa2_166⟩ := u
              try dsimp only at hp166 hP hD
              have he166 := hp166
              replace hP : xP G [iA G (ad 2) 85 D2_137, oC ko 6 [.ref (ad 0), .ref (ad 1), .int (nI w), .int (nI h), .int (nI la), .ref (ad 2), .int (nI dw), .int (nI dh), .int (nI dl), .int tl, .int tc2_137, .int hc2_137, .int hd, .ref (ad 3), .int (nI tp), .int (nI ps2_166), .int (nI fr2_166), .int (nI so2_166), .int vl2_166, .int (nI ft2_166), .int wa2_166, .ref (ad 4), .ref (ad 5), .ref (ad 6), .ref (ad 7), .ref (ad 8), .ref (ad 9), .ref (ad 10), .int tr], iA G (ad 3) 160 tb] H := hP
              replace hD : va_D (va_A (w_X6_readLine G ko ad w h la tp dw dh dl tl tc hc hd ps fr so vl ft wa tr tb D) ss.heap.size) [iA G (ad 2) 85 D2_137, oC ko 6 [.ref (ad 0), .ref (ad 1), .int (nI w), .int (nI h), .int (nI la), .ref (ad 2), .int (nI dw), .int (nI dh), .int (nI dl), .int tl, .int tc2_137, .int hc2_137, .int hd, .ref (ad 3), .int (nI tp), .int (nI ps2_166), .int (nI fr2_166), .int (nI so2_166), .int vl2_166, .int (nI ft2_166), .int wa2_166, .ref (ad 4), .ref (ad 5), .ref (ad 6), .ref (ad 7), .ref (ad 8), .ref (ad 9), .ref (ad 10), .int tr], iA G (ad 3) 160 tb] := hD
              have hP := hP.sub (ws' := [oC ko 6 [.ref (ad 0), .ref (ad 1), .int (nI w), .int (nI h), .int (nI la), .ref (ad 2), .int (nI dw), .int (nI dh), .int (nI dl), .int tl, .int tc2_137, .int hc2_137, .int hd, .ref (ad 3), .int (nI tp), .int (nI ps2_166), .int (nI fr2_166), .int (nI so2_166), .int vl2_166, .int (nI ft2_166), .int wa2_166, .ref (ad 4), .ref (ad 5), .ref (ad 6), .ref (ad 7), .ref (ad 8), .ref (ad 9), .ref (ad 10), .int tr], iA G (ad 2) 85 D2_137, iA G (ad 3) 160 tb]) [1, 0, 2] rfl
              have hD := hD.sub (ws' := [oC ko 6 [.ref (ad 0), .ref (ad 1), .int (nI w), .int (nI h), .int (nI la), .ref (ad 2), .int (nI dw), .int (nI dh), .int (nI dl), .int tl, .int tc2_137, .int hc2_137, .int hd, .ref (ad 3), .int (nI tp), .int (nI ps2_166), .int (nI fr2_166), .int (nI so2_166), .int vl2_166, .int (nI ft2_166), .int wa2_166, .ref (ad 4), .ref (ad 5), .ref (ad 6), .ref (ad 7), .ref (ad 8), .ref (ad 9), .ref (ad 10), .int tr], iA G (ad 2) 85 D2_137, iA G (ad 3) 160 tb]) [1, 0, 2] (by decide) rfl
              refine W.vret hx hb hr (fun t ht hW => ⟨⟨(ps2_166, fr2_166, so2_166, vl2_166, ft2_166, wa2_166, dw, dh, dl, tl, tc2_137, hc2_137, hd, D2_137), rfl, ?_, by rw [ht]; exact hP, hD⟩, hS.F ht⟩) hS.2.2 dX6_readLine_169
              try dsimp only
              first | exact (hL.trans (mGo_1 he124 h124 he137 (if_neg b144).symm he166)).symm | exact (hL.trans (mGo_1 he124 h124 he137 ((if_pos b144).trans (if_pos b153)).symm he166)).symm | exact (hL.trans (mGo_1 he124 h124 he137 ((if_pos b144).trans (if_neg b153)).symm he166)).symm
        · skip
          have h124 : ¬ ft2_124 = 0 := (by omega)
          have hP := hP.sub (ws' := [oC ko 6 [.ref (ad 0), .ref (ad 1), .int (nI w), .int (nI h), .int (nI la), .ref (ad 2), .int (nI dw), .int (nI dh), .int (nI dl), .int tl, .int tc, .int hc, .int hd, .ref (ad 3), .int (nI tp), .int (nI ps2_124), .int (nI fr2_124), .int (nI so2_124), .int vl2_124, .int (nI ft2_124), .int wa2_124, .ref (ad 4), .ref (ad 5), .ref (ad 6), .ref (ad 7), .ref (ad 8), .ref (ad 9), .ref (ad 10), .int tr], iA G (ad 2) 85 D, iA G (ad 3) 160 tb]) [1, 0, 2] rfl
          have hD := hD.sub (ws' := [oC ko 6 [.ref (ad 0), .ref (ad 1), .int (nI w), .int (nI h), .int (nI la), .ref (ad 2), .int (nI dw), .int (nI dh), .int (nI dl), .int tl, .int tc, .int hc, .int hd, .ref (ad 3), .int (nI tp), .int (nI ps2_124), .int (nI fr2_124), .int (nI so2_124), .int vl2_124, .int (nI ft2_124), .int wa2_124, .ref (ad 4), .ref (ad 5), .ref (ad 6), .ref (ad 7), .ref (ad 8), .ref (ad 9), .ref (ad 10), .int tr], iA G (ad 2) 85 D, iA G (ad 3) 160 tb]) [1, 0, 2] (by decide) rfl
          refine W.vret hx hb hr (fun t ht hW => ⟨⟨(ps2_124, fr2_124, so2_124, vl2_124, ft2_124, wa2_124, dw, dh, dl, tl, tc, hc, hd, D), rfl, ?_, by rw [ht]; exact hP, hD⟩, hS.F ht⟩) hS.2.2 dX6_readLine_134
          try dsimp only
          first | exact (hL.trans (congrArg (fun a => (a, _)) hT.symm)).symm | exact (hL.trans (mGo_0 he124 h124)).symm
      · skip
        refine lv_iconst (v := nI 1) hx hb dX6_readLine_25 (by decide) ?_
        refine lv_goto (tgt := 30) hx hb dX6_readLine_26 rfl ?_
        refine lv_iconst (v := nI 2) hx hb dX6_readLine_30 (by decide) ?_
        refine xw_v (As := [.int (nI 1), .int (nI 2)]) (rest := []) (wr := [iA G (ad 2) 85 D, iA G (ad 3) 160 tb]) ⟨hx, hb, hml, hown, hts⟩ (c_X6_needs_1 l G H.size ko ad w h la tp dw dh dl tl tc hc hd ps fr so vl ft wa tr 2 ) (cwV 2 hts gX6_readLine_X6_needs rfl rfl rfl (by decide +kernel) ⟨Nat.le_of_ble_eq_true rfl, Nat.le_of_ble_eq_true rfl⟩) hK hP hD hS hA [0] [1, 2] rfl rfl (by decide) (by decide) (by decide) rfl rfl rfl hl.1 rfl (Nat.le_of_ble_eq_true rfl) dX6_readLine_31 ⟨Nat.le_of_ble_eq_true rfl, Nat.le_of_ble_eq_true rfl⟩ (fun u H locs hp31 hP hD hS => ?_)
        replace hP : xP G [iA G (ad 2) 85 D, iA G (ad 3) 160 tb, oC ko 6 [.ref (ad 0), .ref (ad 1), .int (nI w), .int (nI h), .int (nI la), .ref (ad 2), .int (nI dw), .int (nI dh), .int (nI dl), .int tl, .int tc, .int hc, .int hd, .ref (ad 3), .int (nI tp), .int (nI ps), .int (nI fr), .int (nI so), .int vl, .int (nI ft), .int wa, .ref (ad 4), .ref (ad 5), .ref (ad 6), .ref (ad 7), .ref (ad 8), .ref (ad 9), .ref (ad 10), .int tr]] H := hP
        replace hD : va_D (va_A (w_X6_readLine G ko ad w h la tp dw dh dl tl tc hc hd ps fr so vl ft wa tr tb D) ss.heap.size) [iA G (ad 2) 85 D, iA G (ad 3) 160 tb, oC ko 6 [.ref (ad 0), .ref (ad 1), .int (nI w), .int (nI h), .int (nI la), .ref (ad 2), .int (nI dw), .int (nI dh), .int (nI dl), .int tl, .int tc, .int hc, .int hd, .ref (ad 3), .int (nI tp), .int (nI ps), .int (nI fr), .int (nI so), .int vl, .int (nI ft), .int wa, .ref (ad 4), .ref (ad 5), .ref (ad 6), .ref (ad 7), .ref (ad 8), .ref (ad 9), .ref (ad 10), .int tr]] := hD
        refine lv_aload_n hx hb dX6_readLine_34 rfl (lv_at hl 1 rfl) ?_
        refine lv_iload_n hx hb dX6_readLine_35 rfl (lv_at hl 0 rfl) ?_
        refine lv_iconst (v := nI 3) hx hb dX6_readLine_36 (by decide) ?_
        refine xn_icmp_ne (tgt := 52) hx hb (by omega) (by omega) dX6_readLine_37 rfl (fun b37 => absurd b37 (by omega)) (fun _ => ?_)
        refine lv_aload_n hx hb dX6_readLine_40 rfl (lv_at hl 1 rfl) ?_
        refine va_get (D := G.1) (ci := 6) (v := .ref (ad 2)) (C := RX6) (T := TX6) (N := 29) hx hb hts hin6 hown hK.1 hP 2 rfl rfl 5 (by decide) (hts (.fieldLink RX6 17 "BackLensesModel" "draft" "[I") (List.mem_of_getElem? (i := 2) rfl)) (fun _ h9 => h9) rfl dX6_readLine_41 ?_
        refine lv_bipush (v := nI 16) hx hb dX6_readLine_44 (by decide) ?_
        refine xn_iald hx hb hK hP 0 rfl (by omega) (by omega) dX6_readLine_46 ?_
        refine xn_top (y := nI nc) (by exact h16) ?_
        refine lv_bipush (v := nI 10) hx hb dX6_readLine_47 (by decide) ?_
        refine xn_icmp_ge (tgt := 73) hx hb (by omega) (by omega) dX6_readLine_49 rfl (fun b49 => ?_) (fun b49 => ?_)
        · skip
          refine lv_iconst (v := nI 0) hx hb dX6_readLine_73 (by decide) ?_
          refine lv_iconst (v := nI 5) hx hb dX6_readLine_74 (by decide) ?_
          refine xw_v (As := [.int (nI 0), .int (nI 5)]) (rest := []) (wr := [iA G (ad 2) 85 D, iA G (ad 3) 160 tb]) ⟨hx, hb, hml, hown, hts⟩ (c_X6_needs_0 l G H.size ko ad w h la tp dw dh dl tl tc hc hd ps fr so vl ft wa tr 5 (by first | assumption | omega)) (cwV 2 hts gX6_readLine_X6_needs rfl rfl rfl (by decide +kernel) ⟨Nat.le_of_ble_eq_true rfl, Nat.le_of_ble_eq_true rfl⟩) hK hP hD hS hA [2] [0, 1] rfl rfl (by decide) (by decide) (by decide) rfl rfl rfl hl.1 rfl (Nat.le_of_ble_eq_true rfl) dX6_readLine_75 ⟨Nat.le_of_ble_eq_true rfl, Nat.le_of_ble_eq_true rfl⟩ (fun u H locs hp75 hP hD hS => ?_)
          replace hP : xP G [iA G (ad 2) 85 D, iA G (ad 3) 160 tb, oC ko 6 [.ref (ad 0), .ref (ad 1), .int (nI w), .int (nI h), .int (nI la), .ref (ad 2), .int (nI dw), .int (nI dh), .int (nI dl), .int tl, .int tc, .int hc, .int hd, .ref (ad 3), .int (nI tp), .int (nI ps), .int (nI fr), .int (nI so), .int vl, .int (nI 5), .int (nI fr), .ref (ad 4), .ref (ad 5), .ref (ad 6), .ref (ad 7), .ref (ad 8), .ref (ad 9), .ref (ad 10), .int tr]] H := hP
          replace hD : va_D (va_A (w_X6_readLine G ko ad w h la tp dw dh dl tl tc hc hd ps fr so vl ft wa tr tb D) ss.heap.size) [iA G (ad 2) 85 D, iA G (ad 3) 160 tb, oC ko 6 [.ref (ad 0), .ref (ad 1), .int (nI w), .int (nI h), .int (nI la), .ref (ad 2), .int (nI dw), .int (nI dh), .int (nI dl), .int tl, .int tc, .int hc, .int hd, .ref (ad 3), .int (nI tp), .int (nI ps), .int (nI fr), .int (nI so), .int vl, .int (nI 5), .int (nI fr), .ref (ad 4), .ref (ad 5), .ref (ad 6), .ref (ad 7), .ref (ad 8), .ref (ad 9), .ref (ad 10), .int tr]] := hD
          refine lv_aload_n hx hb dX6_readLine_78 rfl (lv_at hl 1 rfl) ?_
          refine va_get (D := G.1) (ci := 6) (v := .int (nI 5)) (C := RX6) (T := TX6) (N := 29) hx hb hts hin6 hown hK.1 hP 2 rfl rfl 19 (by decide) (hts (.fieldLink RX6 90 "BackLensesModel" "fault" "I") (List.mem_of_getElem? (i := 3) rfl)) (fun _ h9 => h9) rfl dX6_readLine_79 ?_
          refine xn_if_ne (tgt := 123) hx hb (by omega) dX6_readLine_82 rfl (fun _ => ?_) (fun b82 => absurd b82 (by omega))
          have hKj : mKd tb tp (ps, fr, so, vl, ft, wa) = nI 3 := (if_pos b5).trans hkv
          have hL : mLine tb tp ((ps, fr, so, vl, ft, wa), (dw, dh, dl), (tl, tc, hc, hd), D) = (mF 5 (ps, fr, so, vl, ft, wa), (dw, dh, dl), (tl, tc, hc, hd), D) := (mLine_k (by omega) hKj).trans (if_pos (Or.inl ⟨rfl, (show 10 ≤ vI (D 16) by omega)⟩))
          refine lv_aload_n hx hb dX6_readLine_123 rfl (lv_at hl 1 rfl) ?_
          refine xw_v (As := []) (rest := []) (wr := [iA G (ad 2) 85 D]) ⟨hx, hb, hml, hown, hts⟩ (c_X6_nextToken l G H.size ko ad w h la tp dw dh dl tl tc hc hd ps fr so vl 5 (nI fr) tr tb (by first | assumption | omega) (by first | assumption | omega) (by first | assumption | omega) (by first | assumption | omega)) (cwV 0 hts gX6_readLine_X6_nextToken rfl rfl rfl (by decide +kernel) ⟨Nat.le_of_ble_eq_true rfl, Nat.le_of_ble_eq_true rfl⟩) hK hP hD hS hA [2, 1] [0] rfl rfl (by decide) (by decide) (by decide) rfl rfl rfl hl.1 rfl (Nat.le_of_ble_eq_true rfl) dX6_readLine_124 ⟨Nat.le_of_ble_eq_true rfl, Nat.le_of_ble_eq_true rfl⟩ (fun u H locs hp124 hP hD hS => ?_)
          obtain ⟨ps2_124, fr2_124, so2_124, vl2_124, ft2_124, wa2_124⟩ := u
          try dsimp only at hp124 hP hD
          have he124 := hp124
          replace hP : xP G [iA G (ad 2) 85 D, oC ko 6 [.ref (ad 0), .ref (ad 1), .int (nI w), .int (nI h), .int (nI la), .ref (ad 2), .int (nI dw), .int (nI dh), .int (nI dl), .int tl, .int tc, .int hc, .int hd, .ref (ad 3), .int (nI tp), .int (nI ps2_124), .int (nI fr2_124), .int (nI so2_124), .int vl2_124, .int (nI ft2_124), .int wa2_124, .ref (ad 4), .ref (ad 5), .ref (ad 6), .ref (ad 7), .ref (ad 8), .ref (ad 9), .ref (ad 10), .int tr], iA G (ad 3) 160 tb] H := hP
          replace hD : va_D (va_A (w_X6_readLine G ko ad w h la tp dw dh dl tl tc hc hd ps fr so vl ft wa tr tb D) ss.heap.size) [iA G (ad 2) 85 D, oC ko 6 [.ref (ad 0), .ref (ad 1), .int (nI w), .int (nI h), .int (nI la), .ref (ad 2), .int (nI dw), .int (nI dh), .int (nI dl), .int tl, .int tc, .int hc, .int hd, .ref (ad 3), .int (nI tp), .int (nI ps2_124), .int (nI fr2_124), .int (nI so2_124), .int vl2_124, .int (nI ft2_124), .int wa2_124, .ref (ad 4), .ref (ad 5), .ref (ad 6), .ref (ad 7), .ref (ad 8), .ref (ad 9), .ref (ad 10), .int tr], iA G (ad 3) 160 tb] := hD
          have ho124 : mOk tp (ps2_124, fr2_124, so2_124, vl2_124, ft2_124, wa2_124) := (by rw [he124]; exact mTok_ok (mF_ok (s := (ps, fr, so, vl, ft, wa)) (by omega) ho0))
          have hps124 : ps2_124 ≤ tp := ho124.1
          have hft124 : ft2_124 ≤ 6 := ho124.2.1
          have hso124 : so2_124 ≤ 3 := ho124.2.2.1
          have hfr124 : fr2_124 ≤ ps2_124 := ho124.2.2.2
          have hT := he124.trans (mTok_0 (by decide))
          have hq9 : ft2_124 = 5 := congrArg (fun a : MS => a.2.2.2.2.1) hT
          refine lv_aload_n hx hb dX6_readLine_127 rfl (lv_at hl 1 rfl) ?_
          refine va_get (D := G.1) (ci := 6) (v := .int (nI ft2_124)) (C := RX6) (T := TX6) (N := 29) hx hb hts hin6 hown hK.1 hP 1 rfl rfl 19 (by decide) (hts (.fieldLink RX6 90 "BackLensesModel" "fault" "I") (List.mem_of_getElem? (i := 3) rfl)) (fun _ h9 => h9) rfl dX6_readLine_128 ?_
          refine xn_if_le (tgt := 135) hx hb (by omega) dX6_readLine_131 rfl (fun b131 => absurd b131 (by omega)) (fun _ => ?_)
          have hP := hP.sub (ws' := [oC ko 6 [.ref (ad 0), .ref (ad 1), .int (nI w), .int (nI h), .int (nI la), .ref (ad 2), .int (nI dw), .int (nI dh), .int (nI dl), .int tl, .int tc, .int hc, .int hd, .ref (ad 3), .int (nI tp), .int (nI ps2_124), .int (nI fr2_124), .int (nI so2_124), .int vl2_124, .int (nI ft2_124), .int wa2_124, .ref (ad 4), .ref (ad 5), .ref (ad 6), .ref (ad 7), .ref (ad 8), .ref (ad 9), .ref (ad 10), .int tr], iA G (ad 2) 85 D, iA G (ad 3) 160 tb]) [1, 0, 2] rfl
          have hD := hD.sub (ws' := [oC ko 6 [.ref (ad 0), .ref (ad 1), .int (nI w), .int (nI h), .int (nI la), .ref (ad 2), .int (nI dw), .int (nI dh), .int (nI dl), .int tl, .int tc, .int hc, .int hd, .ref (ad 3), .int (nI tp), .int (nI ps2_124), .int (nI fr2_124), .int (nI so2_124), .int vl2_124, .int (nI ft2_124), .int wa2_124, .ref (ad 4), .ref (ad 5), .ref (ad 6), .ref (ad 7), .ref (ad 8), .ref (ad 9), .ref (ad 10), .int tr], iA G (ad 2) 85 D, iA G (ad 3) 160 tb]) [1, 0, 2] (by decide) rfl
          refine W.vret hx hb hr (fun t ht hW => ⟨⟨(ps2_124, fr2_124, so2_124, vl2_124, ft2_124, wa2_124, dw, dh, dl, tl, tc, hc, hd, D), rfl, ?_, by rw [ht]; exact hP, hD⟩, hS.F ht⟩) hS.2.2 dX6_readLine_134
          try dsimp only
          first | exact (hL.trans (congrArg (fun a => (a, _)) hT.symm)).symm | exact (hL.trans (mGo_0 he124 h124)).symm
        · skip
          refine lv_iload_n hx hb dX6_readLine_52 rfl (lv_at hl 0 rfl) ?_
          refine lv_iconst (v := nI 4) hx hb dX6_readLine_53 (by decide) ?_
          refine xn_icmp_ne (tgt := 69) hx hb (by omega) (by omega) dX6_readLine_54 rfl (fun _ => ?_) (fun b54 => absurd b54 (by omega))
          refine lv_iconst (v := nI 1) hx hb dX6_readLine_69 (by decide) ?_
          refine lv_goto (tgt := 74) hx hb dX6_readLine_70 rfl ?_
          refine lv_iconst (v := nI 5) hx hb dX6_readLine_74 (by decide) ?_
          refine xw_v (As := [.int (nI 1), .int (nI 5)]) (rest := []) (wr := [iA G (ad 2) 85 D, iA G (ad 3) 160 tb]) ⟨hx, hb, hml, hown, hts⟩ (c_X6_needs_1 l G H.size ko ad w h la tp dw dh dl tl tc hc hd ps fr so vl ft wa tr 5 ) (cwV 2 hts gX6_readLine_X6_needs rfl rfl rfl (by decide +kernel) ⟨Nat.le_of_ble_eq_true rfl, Nat.le_of_ble_eq_true rfl⟩) hK hP hD hS hA [2] [0, 1] rfl rfl (by decide) (by decide) (by decide) rfl rfl rfl hl.1 rfl (Nat.le_of_ble_eq_true rfl) dX6_readLine_75 ⟨Nat.le_of_ble_eq_true rfl, Nat.le_of_ble_eq_true rfl⟩ (fun u H locs hp75 hP hD hS => ?_)
          replace hP : xP G [iA G (ad 2) 85 D, iA G (ad 3) 160 tb, oC ko 6 [.ref (ad 0), .ref (ad 1), .int (nI w), .int (nI h), .int (nI la), .ref (ad 2), .int (nI dw), .int (nI dh), .int (nI dl), .int tl, .int tc, .int hc, .int hd, .ref (ad 3), .int (nI tp), .int (nI ps), .int (nI fr), .int (nI so), .int vl, .int (nI ft), .int wa, .ref (ad 4), .ref (ad 5), .ref (ad 6), .ref (ad 7), .ref (ad 8), .ref (ad 9), .ref (ad 10), .int tr]] H := hP
          replace hD : va_D (va_A (w_X6_readLine G ko ad w h la tp dw dh dl tl tc hc hd ps fr so vl ft wa tr tb D) ss.heap.size) [iA G (ad 2) 85 D, iA G (ad 3) 160 tb, oC ko 6 [.ref (ad 0), .ref (ad 1), .int (nI w), .int (nI h), .int (nI la), .ref (ad 2), .int (nI dw), .int (nI dh), .int (nI dl), .int tl, .int tc, .int hc, .int hd, .ref (ad 3), .int (nI tp), .int (nI ps), .int (nI fr), .int (nI so), .int vl, .int (nI ft), .int wa, .ref (ad 4), .ref (ad 5), .ref (ad 6), .ref (ad 7), .ref (ad 8), .ref (ad 9), .ref (ad 10), .int tr]] := hD
          refine lv_aload_n hx hb dX6_readLine_78 rfl (lv_at hl 1 rfl) ?_
          refine va_get (D := G.1) (ci := 6) (v := .int (nI ft)) (C := RX6) (T := TX6) (N := 29) hx hb hts hin6 hown hK.1 hP 2 rfl rfl 19 (by decide) (hts (.fieldLink RX6 90 "BackLensesModel" "fault" "I") (List.mem_of_getElem? (i := 3) rfl)) (fun _ h9 => h9) rfl dX6_readLine_79 ?_
          refine xn_if_ne (tgt := 123) hx hb (by omega) dX6_readLine_82 rfl (fun b82 => absurd b82 (by omega)) (fun _ => ?_)
          refine lv_iload_n hx hb dX6_readLine_85 rfl (lv_at hl 0 rfl) ?_
          refine lv_iconst (v := nI 1) hx hb dX6_readLine_86 (by decide) ?_
          refine xn_icmp_gt (tgt := 123) hx hb (by omega) (by omega) dX6_readLine_87 rfl (fun _ => ?_) (fun b87 => absurd b87 (by omega))
          have hKj : mKd tb tp (ps, fr, so, vl, ft, wa) = nI 3 := (if_pos b5).trans hkv
          have hL : mLine tb tp ((ps, fr, so, vl, ft, wa), (dw, dh, dl), (tl, tc, hc, hd), D) = mGo tb tp 3 ((ps, fr, so, vl, ft, wa), (dw, dh, dl), (tl, tc, hc, hd), D) := (mLine_k (by omega) hKj).trans ((if_neg (show ¬ ((3 = 3 ∧ 10 ≤ vI (D 16)) ∨ (3 = 4 ∧ 6 ≤ vI (D 47))) by omega)).trans (if_neg (by omega)))
          refine lv_aload_n hx hb dX6_readLine_123 rfl (lv_at hl 1 rfl) ?_
          refine xw_v (As := []) (rest := []) (wr := [iA G (ad 2) 85 D]) ⟨hx, hb, hml, hown, hts⟩ (c_X6_nextToken l G H.size ko ad w h la tp dw dh dl tl tc hc hd ps fr so vl ft wa tr tb (by first | assumption | omega) (by first | assumption | omega) (by first | assumption | omega) (by first | assumption | omega)) (cwV 0 hts gX6_readLine_X6_nextToken rfl rfl rfl (by decide +kernel) ⟨Nat.le_of_ble_eq_true rfl, Nat.le_of_ble_eq_true rfl⟩) hK hP hD hS hA [2, 1] [0] rfl rfl (by decide) (by decide) (by decide) rfl rfl rfl hl.1 rfl (Nat.le_of_ble_eq_true rfl) dX6_readLine_124 ⟨Nat.le_of_ble_eq_true rfl, Nat.le_of_ble_eq_true rfl⟩ (fun u H locs hp124 hP hD hS => ?_)
          obtain ⟨ps2_124, fr2_124, so2_124, vl2_124, ft2_124, wa2_124⟩ := u
          try dsimp only at hp124 hP hD
          have he124 := hp124
          replace hP : xP G [iA G (ad 2) 85 D, oC ko 6 [.ref (ad 0), .ref (ad 1), .int (nI w), .int (nI h), .int (nI la), .ref (ad 2), .int (nI dw), .int (nI dh), .int (nI dl), .int tl, .int tc, .int hc, .int hd, .ref (ad 3), .int (nI tp), .int (nI ps2_124), .int (nI fr2_124), .int (nI so2_124), .int vl2_124, .int (nI ft2_124), .int wa2_124, .ref (ad 4), .ref (ad 5), .ref (ad 6), .ref (ad 7), .ref (ad 8), .ref (ad 9), .ref (ad 10), .int tr], iA G (ad 3) 160 tb] H := hP
          replace hD : va_D (va_A (w_X6_readLine G ko ad w h la tp dw dh dl tl tc hc hd ps fr so vl ft wa tr tb D) ss.heap.size) [iA G (ad 2) 85 D, oC ko 6 [.ref (ad 0), .ref (ad 1), .int (nI w), .int (nI h), .int (nI la), .ref (ad 2), .int (nI dw), .int (nI dh), .int (nI dl), .int tl, .int tc, .int hc, .int hd, .ref (ad 3), .int (nI tp), .int (nI ps2_124), .int (nI fr2_124), .int (nI so2_124), .int vl2_124, .int (nI ft2_124), .int wa2_124, .ref (ad 4), .ref (ad 5), .ref (ad 6), .ref (ad 7), .ref (ad 8), .ref (ad 9), .ref (ad 10), .int tr], iA G (ad 3) 160 tb] := hD
          have ho124 : mOk tp (ps2_124, fr2_124, so2_124, vl2_124, ft2_124, wa2_124) := (by rw [he124]; exact mTok_ok (ho0))
          have hps124 : ps2_124 ≤ tp := ho124.1
          have hft124 : ft2_124 ≤ 6 := ho124.2.1
          have hso124 : so2_124 ≤ 3 := ho124.2.2.1
          have hfr124 : fr2_124 ≤ ps2_124 := ho124.2.2.2
          refine lv_aload_n hx hb dX6_readLine_127 rfl (lv_at hl 1 rfl) ?_
          refine va_get (D := G.1) (ci := 6) (v := .int (nI ft2_124)) (C := RX6) (T := TX6) (N := 29) hx hb hts hin6 hown hK.1 hP 1 rfl rfl 19 (by decide) (hts (.fieldLink RX6 90 "BackLensesModel" "fault" "I") (List.mem_of_getElem? (i := 3) rfl)) (fun _ h9 => h9) rfl dX6_readLine_128 ?_
          refine xn_if_le (tgt := 135) hx hb (by omega) dX6_readLine_131 rfl (fun b131 => ?_) (fun b131 => ?_)
          · skip
            have h124 : ft2_124 = 0 := (by omega)
            refine lv_aload_n hx hb dX6_readLine_135 rfl (lv_at hl 1 rfl) ?_
            refine lv_iload_n hx hb dX6_readLine_136 rfl (lv_at hl 0 rfl) ?_
            refine xw_v (As := [.int (nI 3)]) (rest := []) (wr := []) ⟨hx, hb, hml, hown, hts⟩ (c_X6_readLineOf_3 l G H.size ko ad w h la tp dw dh dl tl tc hc hd ps2_124 fr2_124 so2_124 vl2_124 ft2_124 wa2_124 tr tb D (by first | assumption | omega) (by first | assumption | omega) (by first | assumption | omega) (by first | assumption | omega) (by first | assumption | omega) (by first | assumption | omega) (by rw [h16]; exact inR_nI (by omega) (by omega))) (cwV 1 hts gX6_readLine_X6_readLineOf rfl rfl rfl (by decide +kernel) ⟨Nat.le_of_ble_eq_true rfl, Nat.le_of_ble_eq_true rfl⟩) hK hP hD hS hA [1, 0, 2] [] rfl rfl (by decide) (by decide) (by decide) rfl rfl rfl hl.1 rfl (Nat.le_of_ble_eq_true rfl) dX6_readLine_137 ⟨Nat.le_of_ble_eq_true rfl, Nat.le_of_ble_eq_true rfl⟩ (fun u H locs hp137 hP hD hS => ?_)
            obtain ⟨ps2_137, fr2_137, so2_137, vl2_137, ft2_137, wa2_137, hc2_137, hd2_137, D2_137⟩ := u
            try dsimp only at hp137 hP hD
            have he137 := hp137
            replace hP : xP G [oC ko 6 [.ref (ad 0), .ref (ad 1), .int (nI w), .int (nI h), .int (nI la), .ref (ad 2), .int (nI dw), .int (nI dh), .int (nI dl), .int tl, .int tc, .int hc2_137, .int hd2_137, .ref (ad 3), .int (nI tp), .int (nI ps2_137), .int (nI fr2_137), .int (nI so2_137), .int vl2_137, .int (nI ft2_137), .int wa2_137, .ref (ad 4), .ref (ad 5), .ref (ad 6), .ref (ad 7), .ref (ad 8), .ref (ad 9), .ref (ad 10), .int tr], iA G (ad 2) 85 D2_137, iA G (ad 3) 160 tb] H := hP
            replace hD : va_D (va_A (w_X6_readLine G ko ad w h la tp dw dh dl tl tc hc hd ps fr so vl ft wa tr tb D) ss.heap.size) [oC ko 6 [.ref (ad 0), .ref (ad 1), .int (nI w), .int (nI h), .int (nI la), .ref (ad 2), .int (nI dw), .int (nI dh), .int (nI dl), .int tl, .int tc, .int hc2_137, .int hd2_137, .ref (ad 3), .int (nI tp), .int (nI ps2_137), .int (nI fr2_137), .int (nI so2_137), .int vl2_137, .int (nI ft2_137), .int wa2_137, .ref (ad 4), .ref (ad 5), .ref (ad 6), .ref (ad 7), .ref (ad 8), .ref (ad 9), .ref (ad 10), .int tr], iA G (ad 2) 85 D2_137, iA G (ad 3) 160 tb] := hD
            have ho137 : mOk tp (ps2_137, fr2_137, so2_137, vl2_137, ft2_137, wa2_137) := (by rw [show (ps2_137, fr2_137, so2_137, vl2_137, ft2_137, wa2_137) = (mLof tb tp 3 ((ps2_124, fr2_124, so2_124, vl2_124, ft2_124, wa2_124), (dw, dh, dl), (tl, tc, hc, hd), D)).1 from congrArg (fun a : XS => a.1) he137]; exact (mLof_ok ho124).1)
            have hps137 : ps2_137 ≤ tp := ho137.1
            have hft137 : ft2_137 ≤ 6 := ho137.2.1
            have hso137 : so2_137 ≤ 3 := ho137.2.2.1
            have hfr137 : fr2_137 ≤ ps2_137 := ho137.2.2.2
            refine lv_aload_n hx hb dX6_readLine_140 rfl (lv_at hl 1 rfl) ?_
            refine va_get (D := G.1) (ci := 6) (v := .int (nI ft2_137)) (C := RX6) (T := TX6) (N := 29) hx hb hts hin6 hown hK.1 hP 0 rfl rfl 19 (by decide) (hts (.fieldLink RX6 90 "BackLensesModel" "fault" "I") (List.mem_of_getElem? (i := 3) rfl)) (fun _ h9 => h9) rfl dX6_readLine_141 ?_
            refine xn_if_ne (tgt := 165) hx hb (by omega) dX6_readLine_144 rfl (fun b144 => ?_) (fun b144 => ?_)
            · skip
              refine lv_aload_n hx hb dX6_readLine_165 rfl (lv_at hl 1 rfl) ?_
              refine xw_v (As := []) (rest := []) (wr := [iA G (ad 2) 85 D2_137]) ⟨hx, hb, hml, hown, hts⟩ (c_X6_nextToken l G H.size ko ad w h la tp dw dh dl tl tc hc2_137 hd2_137 ps2_137 fr2_137 so2_137 vl2_137 ft2_137 wa2_137 tr tb (by first | assumption | omega) (by first | assumption | omega) (by first | assumption | omega) (by first | assumption | omega)) (cwV 0 hts gX6_readLine_X6_nextToken rfl rfl rfl (by decide +kernel) ⟨Nat.le_of_ble_eq_true rfl, Nat.le_of_ble_eq_true rfl⟩) hK hP hD hS hA [0, 2] [1] rfl rfl (by decide) (by decide) (by decide) rfl rfl rfl hl.1 rfl (Nat.le_of_ble_eq_true rfl) dX6_readLine_166 ⟨Nat.le_of_ble_eq_true rfl, Nat.le_of_ble_eq_true rfl⟩ (fun u H locs hp166 hP hD hS => ?_)
              obtain ⟨ps2_166, fr2_166, so2_166, vl2_166, ft2_166, wa2_166⟩ := u
              try dsimp only at hp166 hP hD
              have he166 := hp166
              replace hP : xP G [iA G (ad 2) 85 D2_137, oC ko 6 [.ref (ad 0), .ref (ad 1), .int (nI w), .int (nI h), .int (nI la), .ref (ad 2), .int (nI dw), .int (nI dh), .int (nI dl), .int tl, .int tc, .int hc2_137, .int hd2_137, .ref (ad 3), .int (nI tp), .int (nI ps2_166), .int (nI fr2_166), .int (nI so2_166), .int vl2_166, .int (nI ft2_166), .int wa2_166, .ref (ad 4), .ref (ad 5), .ref (ad 6), .ref (ad 7), .ref (ad 8), .ref (ad 9), .ref (ad 10), .int tr], iA G (ad 3) 160 tb] H := hP
              replace hD : va_D (va_A (w_X6_readLine G ko ad w h la tp dw dh dl tl tc hc hd ps fr so vl ft wa tr tb D) ss.heap.size) [iA G (ad 2) 85 D2_137, oC ko 6 [.ref (ad 0), .ref (ad 1), .int (nI w), .int (nI h), .int (nI la), .ref (ad 2), .int (nI dw), .int (nI dh), .int (nI dl), .int tl, .int tc, .int hc2_137, .int hd2_137, .ref (ad 3), .int (nI tp), .int (nI ps2_166), .int (nI fr2_166), .int (nI so2_166), .int vl2_166, .int (nI ft2_166), .int wa2_166, .ref (ad 4), .ref (ad 5), .ref (ad 6), .ref (ad 7), .ref (ad 8), .ref (ad 9), .ref (ad 10), .int tr], iA G (ad 3) 160 tb] := hD
              have hP := hP.sub (ws' := [oC ko 6 [.ref (ad 0), .ref (ad 1), .int (nI w), .int (nI h), .int (nI la), .ref (ad 2), .int (nI dw), .int (nI dh), .int (nI dl), .int tl, .int tc, .int hc2_137, .int hd2_137, .ref (ad 3), .int (nI tp), .int (nI ps2_166), .int (nI fr2_166), .int (nI so2_166), .int vl2_166, .int (nI ft2_166), .int wa2_166, .ref (ad 4), .ref (ad 5), .ref (ad 6), .ref (ad 7), .ref (ad 8), .ref (ad 9), .ref (ad 10), .int tr], iA G (ad 2) 85 D2_137, iA G (ad 3) 160 tb]) [1, 0, 2] rfl
              have hD := hD.sub (ws' := [oC ko 6 [.ref (ad 0), .ref (ad 1), .int (nI w), .int (nI h), .int (nI la), .ref (ad 2), .int (nI dw), .int (nI dh), .int (nI dl), .int tl, .int tc, .int hc2_137, .int hd2_137, .ref (ad 3), .int (nI tp), .int (nI ps2_166), .int (nI fr2_166), .int (nI so2_166), .int vl2_166, .int (nI ft2_166), .int wa2_166, .ref (ad 4), .ref (ad 5), .ref (ad 6), .ref (ad 7), .ref (ad 8), .ref (ad 9), .ref (ad 10), .int tr], iA G (ad 2) 85 D2_137, iA G (ad 3) 160 tb]) [1, 0, 2] (by decide) rfl
              refine W.vret hx hb hr (fun t ht hW => ⟨⟨(ps2_166, fr2_166, so2_166, vl2_166, ft2_166, wa2_166, dw, dh, dl, tl, tc, hc2_137, hd2_137, D2_137), rfl, ?_, by rw [ht]; exact hP, hD⟩, hS.F ht⟩) hS.2.2 dX6_readLine_169
              try dsimp only
              first | exact (hL.trans (mGo_1 he124 h124 he137 (if_neg b144).symm he166)).symm | exact (hL.trans (mGo_1 he124 h124 he137 ((if_pos b144).trans (if_pos b153)).symm he166)).symm | exact (hL.trans (mGo_1 he124 h124 he137 ((if_pos b144).trans (if_neg b153)).symm he166)).symm
            · skip
              refine lv_aload_n hx hb dX6_readLine_147 rfl (lv_at hl 1 rfl) ?_
              refine lv_aload_n hx hb dX6_readLine_148 rfl (lv_at hl 1 rfl) ?_
              refine va_get (D := G.1) (ci := 6) (v := .int (nI so2_137)) (C := RX6) (T := TX6) (N := 29) hx hb hts hin6 hown hK.1 hP 0 rfl rfl 17 (by decide) (hts (.fieldLink RX6 110 "BackLensesModel" "sort" "I") (List.mem_of_getElem? (i := 1) rfl)) (fun _ h9 => h9) rfl dX6_readLine_149 ?_
              refine lv_iconst (v := nI 3) hx hb dX6_readLine_152 (by decide) ?_
              refine xn_icmp_ne (tgt := 160) hx hb (by omega) (by omega) dX6_readLine_153 rfl (fun b153 => ?_) (fun b153 => ?_)
              · skip
                refine lv_iconst (v := nI 0) hx hb dX6_readLine_160 (by decide) ?_
                refine lv_iconst (v := nI 2) hx hb dX6_readLine_161 (by decide) ?_
                refine xw_v (As := [.int (nI 0), .int (nI 2)]) (rest := []) (wr := [iA G (ad 2) 85 D2_137, iA G (ad 3) 160 tb]) ⟨hx, hb, hml, hown, hts⟩ (c_X6_needs_0 l G H.size ko ad w h la tp dw dh dl tl tc hc2_137 hd2_137 ps2_137 fr2_137 so2_137 vl2_137 ft2_137 wa2_137 tr 2 (by first | assumption | omega)) (cwV 2 hts gX6_readLine_X6_needs rfl rfl rfl (by decide +kernel) ⟨Nat.le_of_ble_eq_true rfl, Nat.le_of_ble_eq_true rfl⟩) hK hP hD hS hA [0] [1, 2] rfl rfl (by decide) (by decide) (by decide) rfl rfl rfl hl.1 rfl (Nat.le_of_ble_eq_true rfl) dX6_readLine_162 ⟨Nat.le_of_ble_eq_true rfl, Nat.le_of_ble_eq_true rfl⟩ (fun u H locs hp162 hP hD hS => ?_)
                replace hP : xP G [iA G (ad 2) 85 D2_137, iA G (ad 3) 160 tb, oC ko 6 [.ref (ad 0), .ref (ad 1), .int (nI w), .int (nI h), .int (nI la), .ref (ad 2), .int (nI dw), .int (nI dh), .int (nI dl), .int tl, .int tc, .int hc2_137, .int hd2_137, .ref (ad 3), .int (nI tp), .int (nI ps2_137), .int (nI fr2_137), .int (nI so2_137), .int vl2_137, .int (nI 2), .int (nI fr2_137), .ref (ad 4), .ref (ad 5), .ref (ad 6), .ref (ad 7), .ref (ad 8), .ref (ad 9), .ref (ad 10), .int tr]] H := hP
                replace hD : va_D (va_A (w_X6_readLine G ko ad w h la tp dw dh dl tl tc hc hd ps fr so vl ft wa tr tb D) ss.heap.size) [iA G (ad 2) 85 D2_137, iA G (ad 3) 160 tb, oC ko 6 [.ref (ad 0), .ref (ad 1), .int (nI w), .int (nI h), .int (nI la), .ref (ad 2), .int (nI dw), .int (nI dh), .int (nI dl), .int tl, .int tc, .int hc2_137, .int hd2_137, .ref (ad 3), .int (nI tp), .int (nI ps2_137), .int (nI fr2_137), .int (nI so2_137), .int vl2_137, .int (nI 2), .int (nI fr2_137), .ref (ad 4), .ref (ad 5), .ref (ad 6), .ref (ad 7), .ref (ad 8), .ref (ad 9), .ref (ad 10), .int tr]] := hD
                refine lv_aload_n hx hb dX6_readLine_165 rfl (lv_at hl 1 rfl) ?_
                refine xw_v (As := []) (rest := []) (wr := [iA G (ad 2) 85 D2_137]) ⟨hx, hb, hml, hown, hts⟩ (c_X6_nextToken l G H.size ko ad w h la tp dw dh dl tl tc hc2_137 hd2_137 ps2_137 fr2_137 so2_137 vl2_137 2 (nI fr2_137) tr tb (by first | assumption | omega) (by first | assumption | omega) (by first | assumption | omega) (by first | assumption | omega)) (cwV 0 hts gX6_readLine_X6_nextToken rfl rfl rfl (by decide +kernel) ⟨Nat.le_of_ble_eq_true rfl, Nat.le_of_ble_eq_true rfl⟩) hK hP hD hS hA [2, 1] [0] rfl rfl (by decide) (by decide) (by decide) rfl rfl rfl hl.1 rfl (Nat.le_of_ble_eq_true rfl) dX6_readLine_166 ⟨Nat.le_of_ble_eq_true rfl, Nat.le_of_ble_eq_true rfl⟩ (fun u H locs hp166 hP hD hS => ?_)
                obtain ⟨ps2_166, fr2_166, so2_166, vl2_166, ft2_166, wa2_166⟩ := u
                try dsimp only at hp166 hP hD
                have he166 := hp166
                replace hP : xP G [iA G (ad 2) 85 D2_137, oC ko 6 [.ref (ad 0), .ref (ad 1), .int (nI w), .int (nI h), .int (nI la), .ref (ad 2), .int (nI dw), .int (nI dh), .int (nI dl), .int tl, .int tc, .int hc2_137, .int hd2_137, .ref (ad 3), .int (nI tp), .int (nI ps2_166), .int (nI fr2_166), .int (nI so2_166), .int vl2_166, .int (nI ft2_166), .int wa2_166, .ref (ad 4), .ref (ad 5), .ref (ad 6), .ref (ad 7), .ref (ad 8), .ref (ad 9), .ref (ad 10), .int tr], iA G (ad 3) 160 tb] H := hP
                replace hD : va_D (va_A (w_X6_readLine G ko ad w h la tp dw dh dl tl tc hc hd ps fr so vl ft wa tr tb D) ss.heap.size) [iA G (ad 2) 85 D2_137, oC ko 6 [.ref (ad 0), .ref (ad 1), .int (nI w), .int (nI h), .int (nI la), .ref (ad 2), .int (nI dw), .int (nI dh), .int (nI dl), .int tl, .int tc, .int hc2_137, .int hd2_137, .ref (ad 3), .int (nI tp), .int (nI ps2_166), .int (nI fr2_166), .int (nI so2_166), .int vl2_166, .int (nI ft2_166), .int wa2_166, .ref (ad 4), .ref (ad 5), .ref (ad 6), .ref (ad 7), .ref (ad 8), .ref (ad 9), .ref (ad 10), .int tr], iA G (ad 3) 160 tb] := hD
                have hP := hP.sub (ws' := [oC ko 6 [.ref (ad 0), .ref (ad 1), .int (nI w), .int (nI h), .int (nI la), .ref (ad 2), .int (nI dw), .int (nI dh), .int (nI dl), .int tl, .int tc, .int hc2_137, .int hd2_137, .ref (ad 3), .int (nI tp), .int (nI ps2_166), .int (nI fr2_166), .int (nI so2_166), .int vl2_166, .int (nI ft2_166), .int wa2_166, .ref (ad 4), .ref (ad 5), .ref (ad 6), .ref (ad 7), .ref (ad 8), .ref (ad 9), .ref (ad 10), .int tr], iA G (ad 2) 85 D2_137, iA G (ad 3) 160 tb]) [1, 0, 2] rfl
                have hD := hD.sub (ws' := [oC ko 6 [.ref (ad 0), .ref (ad 1), .int (nI w), .int (nI h), .int (nI la), .ref (ad 2), .int (nI dw), .int (nI dh), .int (nI dl), .int tl, .int tc, .int hc2_137, .int hd2_137, .ref (ad 3), .int (nI tp), .int (nI ps2_166), .int (nI fr2_166), .int (nI so2_166), .int vl2_166, .int (nI ft2_166), .int wa2_166, .ref (ad 4), .ref (ad 5), .ref (ad 6), .ref (ad 7), .ref (ad 8), .ref (ad 9), .ref (ad 10), .int tr], iA G (ad 2) 85 D2_137, iA G (ad 3) 160 tb]) [1, 0, 2] (by decide) rfl
                refine W.vret hx hb hr (fun t ht hW => ⟨⟨(ps2_166, fr2_166, so2_166, vl2_166, ft2_166, wa2_166, dw, dh, dl, tl, tc, hc2_137, hd2_137, D2_137), rfl, ?_, by rw [ht]; exact hP, hD⟩, hS.F ht⟩) hS.2.2 dX6_readLine_169
                try dsimp only
                first | exact (hL.trans (mGo_1 he124 h124 he137 (if_neg b144).symm he166)).symm | exact (hL.trans (mGo_1 he124 h124 he137 ((if_pos b144).trans (if_pos b153)).symm he166)).symm | exact (hL.trans (mGo_1 he124 h124 he137 ((if_pos b144).trans (if_neg b153)).symm he166)).symm
              · skip
                refine lv_iconst (v := nI 1) hx hb dX6_readLine_156 (by decide) ?_
                refine lv_goto (tgt := 161) hx hb dX6_readLine_157 rfl ?_
                refine lv_iconst (v := nI 2) hx hb dX6_readLine_161 (by decide) ?_
                refine xw_v (As := [.int (nI 1), .int (nI 2)]) (rest := []) (wr := [iA G (ad 2) 85 D2_137, iA G (ad 3) 160 tb]) ⟨hx, hb, hml, hown, hts⟩ (c_X6_needs_1 l G H.size ko ad w h la tp dw dh dl tl tc hc2_137 hd2_137 ps2_137 fr2_137 so2_137 vl2_137 ft2_137 wa2_137 tr 2 ) (cwV 2 hts gX6_readLine_X6_needs rfl rfl rfl (by decide +kernel) ⟨Nat.le_of_ble_eq_true rfl, Nat.le_of_ble_eq_true rfl⟩) hK hP hD hS hA [0] [1, 2] rfl rfl (by decide) (by decide) (by decide) rfl rfl rfl hl.1 rfl (Nat.le_of_ble_eq_true rfl) dX6_readLine_162 ⟨Nat.le_of_ble_eq_true rfl, Nat.le_of_ble_eq_true rfl⟩ (fun u H locs hp162 hP hD hS => ?_)
                replace hP : xP G [iA G (ad 2) 85 D2_137, iA G (ad 3) 160 tb, oC ko 6 [.ref (ad 0), .ref (ad 1), .int (nI w), .int (nI h), .int (nI la), .ref (ad 2), .int (nI dw), .int (nI dh), .int (nI dl), .int tl, .int tc, .int hc2_137, .int hd2_137, .ref (ad 3), .int (nI tp), .int (nI ps2_137), .int (nI fr2_137), .int (nI so2_137), .int vl2_137, .int (nI ft2_137), .int wa2_137, .ref (ad 4), .ref (ad 5), .ref (ad 6), .ref (ad 7), .ref (ad 8), .ref (ad 9), .ref (ad 10), .int tr]] H := hP
                replace hD : va_D (va_A (w_X6_readLine G ko ad w h la tp dw dh dl tl tc hc hd ps fr so vl ft wa tr tb D) ss.heap.size) [iA G (ad 2) 85 D2_137, iA G (ad 3) 160 tb, oC ko 6 [.ref (ad 0), .ref (ad 1), .int (nI w), .int (nI h), .int (nI la), .ref (ad 2), .int (nI dw), .int (nI dh), .int (nI dl), .int tl, .int tc, .int hc2_137, .int hd2_137, .ref (ad 3), .int (nI tp), .int (nI ps2_137), .int (nI fr2_137), .int (nI so2_137), .int vl2_137, .int (nI ft2_137), .int wa2_137, .ref (ad 4), .ref (ad 5), .ref (ad 6), .ref (ad 7), .ref (ad 8), .ref (ad 9), .ref (ad 10), .int tr]] := hD
                refine lv_aload_n hx hb dX6_readLine_165 rfl (lv_at hl 1 rfl) ?_
                refine xw_v (As := []) (rest := []) (wr := [iA G (ad 2) 85 D2_137]) ⟨hx, hb, hml, hown, hts⟩ (c_X6_nextToken l G H.size ko ad w h la tp dw dh dl tl tc hc2_137 hd2_137 ps2_137 fr2_137 so2_137 vl2_137 ft2_137 wa2_137 tr tb (by first | assumption | omega) (by first | assumption | omega) (by first | assumption | omega) (by first | assumption | omega)) (cwV 0 hts gX6_readLine_X6_nextToken rfl rfl rfl (by decide +kernel) ⟨Nat.le_of_ble_eq_true rfl, Nat.le_of_ble_eq_true rfl⟩) hK hP hD hS hA [2, 1] [0] rfl rfl (by decide) (by decide) (by decide) rfl rfl rfl hl.1 rfl (Nat.le_of_ble_eq_true rfl) dX6_readLine_166 ⟨Nat.le_of_ble_eq_true rfl, Nat.le_of_ble_eq_true rfl⟩ (fun u H locs hp166 hP hD hS => ?_)
                obtain ⟨ps2_166, fr2_166, so2_166, vl2_166, ft2_166, wa2_166⟩ := u
                try dsimp only at hp166 hP hD
                have he166 := hp166
                replace hP : xP G [iA G (ad 2) 85 D2_137, oC ko 6 [.ref (ad 0), .ref (ad 1), .int (nI w), .int (nI h), .int (nI la), .ref (ad 2), .int (nI dw), .int (nI dh), .int (nI dl), .int tl, .int tc, .int hc2_137, .int hd2_137, .ref (ad 3), .int (nI tp), .int (nI ps2_166), .int (nI fr2_166), .int (nI so2_166), .int vl2_166, .int (nI ft2_166), .int wa2_166, .ref (ad 4), .ref (ad 5), .ref (ad 6), .ref (ad 7), .ref (ad 8), .ref (ad 9), .ref (ad 10), .int tr], iA G (ad 3) 160 tb] H := hP
                replace hD : va_D (va_A (w_X6_readLine G ko ad w h la tp dw dh dl tl tc hc hd ps fr so vl ft wa tr tb D) ss.heap.size) [iA G (ad 2) 85 D2_137, oC ko 6 [.ref (ad 0), .ref (ad 1), .int (nI w), .int (nI h), .int (nI la), .ref (ad 2), .int (nI dw), .int (nI dh), .int (nI dl), .int tl, .int tc, .int hc2_137, .int hd2_137, .ref (ad 3), .int (nI tp), .int (nI ps2_166), .int (nI fr2_166), .int (nI so2_166), .int vl2_166, .int (nI ft2_166), .int wa2_166, .ref (ad 4), .ref (ad 5), .ref (ad 6), .ref (ad 7), .ref (ad 8), .ref (ad 9), .ref (ad 10), .int tr], iA G (ad 3) 160 tb] := hD
                have hP := hP.sub (ws' := [oC ko 6 [.ref (ad 0), .ref (ad 1), .int (nI w), .int (nI h), .int (nI la), .ref (ad 2), .int (nI dw), .int (nI dh), .int (nI dl), .int tl, .int tc, .int hc2_137, .int hd2_137, .ref (ad 3), .int (nI tp), .int (nI ps2_166), .int (nI fr2_166), .int (nI so2_166), .int vl2_166, .int (nI ft2_166), .int wa2_166, .ref (ad 4), .ref (ad 5), .ref (ad 6), .ref (ad 7), .ref (ad 8), .ref (ad 9), .ref (ad 10), .int tr], iA G (ad 2) 85 D2_137, iA G (ad 3) 160 tb]) [1, 0, 2] rfl
                have hD := hD.sub (ws' := [oC ko 6 [.ref (ad 0), .ref (ad 1), .int (nI w), .int (nI h), .int (nI la), .ref (ad 2), .int (nI dw), .int (nI dh), .int (nI dl), .int tl, .int tc, .int hc2_137, .int hd2_137, .ref (ad 3), .int (nI tp), .int (nI ps2_166), .int (nI fr2_166), .int (nI so2_166), .int vl2_166, .int (nI ft2_166), .int wa2_166, .ref (ad 4), .ref (ad 5), .ref (ad 6), .ref (ad 7), .ref (ad 8), .ref (ad 9), .ref (ad 10), .int tr], iA G (ad 2) 85 D2_137, iA G (ad 3) 160 tb]) [1, 0, 2] (by decide) rfl
                refine W.vret hx hb hr (fun t ht hW => ⟨⟨(ps2_166, fr2_166, so2_166, vl2_166, ft2_166, wa2_166, dw, dh, dl, tl, tc, hc2_137, hd2_137, D2_137), rfl, ?_, by rw [ht]; exact hP, hD⟩, hS.F ht⟩) hS.2.2 dX6_readLine_169
                try dsimp only
                first | exact (hL.trans (mGo_1 he124 h124 he137 (if_neg b144).symm he166)).symm | exact (hL.trans (mGo_1 he124 h124 he137 ((if_pos b144).trans (if_pos b153)).symm he166)).symm | exact (hL.trans (mGo_1 he124 h124 he137 ((if_pos b144).trans (if_neg b153)).symm he166)).symm
          · skip
            have h124 : ¬ ft2_124 = 0 := (by omega)
            have hP := hP.sub (ws' := [oC ko 6 [.ref (ad 0), .ref (ad 1), .int (nI w), .int (nI h), .int (nI la), .ref (ad 2), .int (nI dw), .int (nI dh), .int (nI dl), .int tl, .int tc, .int hc, .int hd, .ref (ad 3), .int (nI tp), .int (nI ps2_124), .int (nI fr2_124), .int (nI so2_124), .int vl2_124, .int (nI ft2_124), .int wa2_124, .ref (ad 4), .ref (ad 5), .ref (ad 6), .ref (ad 7), .ref (ad 8), .ref (ad 9), .ref (ad 10), .int tr], iA G (ad 2) 85 D, iA G (ad 3) 160 tb]) [1, 0, 2] rfl
            have hD := hD.sub (ws' := [oC ko 6 [.ref (ad 0), .ref (ad 1), .int (nI w), .int (nI h), .int (nI la), .ref (ad 2), .int (nI dw), .int (nI dh), .int (nI dl), .int tl, .int tc, .int hc, .int hd, .ref (ad 3), .int (nI tp), .int (nI ps2_124), .int (nI fr2_124), .int (nI so2_124), .int vl2_124, .int (nI ft2_124), .int wa2_124, .ref (ad 4), .ref (ad 5), .ref (ad 6), .ref (ad 7), .ref (ad 8), .ref (ad 9), .ref (ad 10), .int tr], iA G (ad 2) 85 D, iA G (ad 3) 160 tb]) [1, 0, 2] (by decide) rfl
            refine W.vret hx hb hr (fun t ht hW => ⟨⟨(ps2_124, fr2_124, so2_124, vl2_124, ft2_124, wa2_124, dw, dh, dl, tl, tc, hc, hd, D), rfl, ?_, by rw [ht]; exact hP, hD⟩, hS.F ht⟩) hS.2.2 dX6_readLine_134
            try dsimp only
            first | exact (hL.trans (congrArg (fun a => (a, _)) hT.symm)).symm | exact (hL.trans (mGo_0 he124 h124)).symm
      · skip
        refine lv_iconst (v := nI 1) hx hb dX6_readLine_25 (by decide) ?_
        refine lv_goto (tgt := 30) hx hb dX6_readLine_26 rfl ?_
        refine lv_iconst (v := nI 2) hx hb dX6_readLine_30 (by decide) ?_
        refine xw_v (As := [.int (nI 1), .int (nI 2)]) (rest := []) (wr := [iA G (ad 2) 85 D, iA G (ad 3) 160 tb]) ⟨hx, hb, hml, hown, hts⟩ (c_X6_needs_1 l G H.size ko ad w h la tp dw dh dl tl tc hc hd ps fr so vl ft wa tr 2 ) (cwV 2 hts gX6_readLine_X6_needs rfl rfl rfl (by decide +kernel) ⟨Nat.le_of_ble_eq_true rfl, Nat.le_of_ble_eq_true rfl⟩) hK hP hD hS hA [0] [1, 2] rfl rfl (by decide) (by decide) (by decide) rfl rfl rfl hl.1 rfl (Nat.le_of_ble_eq_true rfl) dX6_readLine_31 ⟨Nat.le_of_ble_eq_true rfl, Nat.le_of_ble_eq_true rfl⟩ (fun u H locs hp31 hP hD hS => ?_)
        replace hP : xP G [iA G (ad 2) 85 D, iA G (ad 3) 160 tb, oC ko 6 [.ref (ad 0), .ref (ad 1), .int (nI w), .int (nI h), .int (nI la), .ref (ad 2), .int (nI dw), .int (nI dh), .int (nI dl), .int tl, .int tc, .int hc, .int hd, .ref (ad 3), .int (nI tp), .int (nI ps), .int (nI fr), .int (nI so), .int vl, .int (nI ft), .int wa, .ref (ad 4), .ref (ad 5), .ref (ad 6), .ref (ad 7), .ref (ad 8), .ref (ad 9), .ref (ad 10), .int tr]] H := hP
        replace hD : va_D (va_A (w_X6_readLine G ko ad w h la tp dw dh dl tl tc hc hd ps fr so vl ft wa tr tb D) ss.heap.size) [iA G (ad 2) 85 D, iA G (ad 3) 160 tb, oC ko 6 [.ref (ad 0), .ref (ad 1), .int (nI w), .int (nI h), .int (nI la), .ref (ad 2), .int (nI dw), .int (nI dh), .int (nI dl), .int tl, .int tc, .int hc, .int hd, .ref (ad 3), .int (nI tp), .int (nI ps), .int (nI fr), .int (nI so), .int vl, .int (nI ft), .int wa, .ref (ad 4), .ref (ad 5), .ref (ad 6), .ref (ad 7), .ref (ad 8), .ref (ad 9), .ref (ad 10), .int tr]] := hD
        refine lv_aload_n hx hb dX6_readLine_34 rfl (lv_at hl 1 rfl) ?_
        refine lv_iload_n hx hb dX6_readLine_35 rfl (lv_at hl 0 rfl) ?_
        refine lv_iconst (v := nI 3) hx hb dX6_readLine_36 (by decide) ?_
        refine xn_icmp_ne (tgt := 52) hx hb (by omega) (by omega) dX6_readLine_37 rfl (fun _ => ?_) (fun b37 => absurd b37 (by omega))
        refine lv_iload_n hx hb dX6_readLine_52 rfl (lv_at hl 0 rfl) ?_
        refine lv_iconst (v := nI 4) hx hb dX6_readLine_53 (by decide) ?_
        refine xn_icmp_ne (tgt := 69) hx hb (by omega) (by omega) dX6_readLine_54 rfl (fun b54 => absurd b54 (by omega)) (fun _ => ?_)
        refine lv_aload_n hx hb dX6_readLine_57 rfl (lv_at hl 1 rfl) ?_
        refine va_get (D := G.1) (ci := 6) (v := .ref (ad 2)) (C := RX6) (T := TX6) (N := 29) hx hb hts hin6 hown hK.1 hP 2 rfl rfl 5 (by decide) (hts (.fieldLink RX6 17 "BackLensesModel" "draft" "[I") (List.mem_of_getElem? (i := 2) rfl)) (fun _ h9 => h9) rfl dX6_readLine_58 ?_
        refine lv_bipush (v := nI 47) hx hb dX6_readLine_61 (by decide) ?_
        refine xn_iald hx hb hK hP 0 rfl (by omega) (by omega) dX6_readLine_63 ?_
        refine xn_top (y := nI nl) (by exact h47) ?_
        refine lv_bipush (v := nI 6) hx hb dX6_readLine_64 (by decide) ?_
        refine xn_icmp_ge (tgt := 73) hx hb (by omega) (by omega) dX6_readLine_66 rfl (fun b66 => ?_) (fun b66 => ?_)
        · skip
          refine lv_iconst (v := nI 0) hx hb dX6_readLine_73 (by decide) ?_
          refine lv_iconst (v := nI 5) hx hb dX6_readLine_74 (by decide) ?_
          refine xw_v (As := [.int (nI 0), .int (nI 5)]) (rest := []) (wr := [iA G (ad 2) 85 D, iA G (ad 3) 160 tb]) ⟨hx, hb, hml, hown, hts⟩ (c_X6_needs_0 l G H.size ko ad w h la tp dw dh dl tl tc hc hd ps fr so vl ft wa tr 5 (by first | assumption | omega)) (cwV 2 hts gX6_readLine_X6_needs rfl rfl rfl (by decide +kernel) ⟨Nat.le_of_ble_eq_true rfl, Nat.le_of_ble_eq_true rfl⟩) hK hP hD hS hA [2] [0, 1] rfl rfl (by decide) (by decide) (by decide) rfl rfl rfl hl.1 rfl (Nat.le_of_ble_eq_true rfl) dX6_readLine_75 ⟨Nat.le_of_ble_eq_true rfl, Nat.le_of_ble_eq_true rfl⟩ (fun u H locs hp75 hP hD hS => ?_)
          replace hP : xP G [iA G (ad 2) 85 D, iA G (ad 3) 160 tb, oC ko 6 [.ref (ad 0), .ref (ad 1), .int (nI w), .int (nI h), .int (nI la), .ref (ad 2), .int (nI dw), .int (nI dh), .int (nI dl), .int tl, .int tc, .int hc, .int hd, .ref (ad 3), .int (nI tp), .int (nI ps), .int (nI fr), .int (nI so), .int vl, .int (nI 5), .int (nI fr), .ref (ad 4), .ref (ad 5), .ref (ad 6), .ref (ad 7), .ref (ad 8), .ref (ad 9), .ref (ad 10), .int tr]] H := hP
          replace hD : va_D (va_A (w_X6_readLine G ko ad w h la tp dw dh dl tl tc hc hd ps fr so vl ft wa tr tb D) ss.heap.size) [iA G (ad 2) 85 D, iA G (ad 3) 160 tb, oC ko 6 [.ref (ad 0), .ref (ad 1), .int (nI w), .int (nI h), .int (nI la), .ref (ad 2), .int (nI dw), .int (nI dh), .int (nI dl), .int tl, .int tc, .int hc, .int hd, .ref (ad 3), .int (nI tp), .int (nI ps), .int (nI fr), .int (nI so), .int vl, .int (nI 5), .int (nI fr), .ref (ad 4), .ref (ad 5), .ref (ad 6), .ref (ad 7), .ref (ad 8), .ref (ad 9), .ref (ad 10), .int tr]] := hD
          refine lv_aload_n hx hb dX6_readLine_78 rfl (lv_at hl 1 rfl) ?_
          refine va_get (D := G.1) (ci := 6) (v := .int (nI 5)) (C := RX6) (T := TX6) (N := 29) hx hb hts hin6 hown hK.1 hP 2 rfl rfl 19 (by decide) (hts (.fieldLink RX6 90 "BackLensesModel" "fault" "I") (List.mem_of_getElem? (i := 3) rfl)) (fun _ h9 => h9) rfl dX6_readLine_79 ?_
          refine xn_if_ne (tgt := 123) hx hb (by omega) dX6_readLine_82 rfl (fun _ => ?_) (fun b82 => absurd b82 (by omega))
          have hKj : mKd tb tp (ps, fr, so, vl, ft, wa) = nI 4 := (if_pos b5).trans hkv
          have hL : mLine tb tp ((ps, fr, so, vl, ft, wa), (dw, dh, dl), (tl, tc, hc, hd), D) = (mF 5 (ps, fr, so, vl, ft, wa), (dw, dh, dl), (tl, tc, hc, hd), D) := (mLine_k (by omega) hKj).trans (if_pos (Or.inr ⟨rfl, (show 6 ≤ vI (D 47) by omega)⟩))
          refine lv_aload_n hx hb dX6_readLine_123 rfl (lv_at hl 1 rfl) ?_
          refine xw_v (As := []) (rest := []) (wr := [iA G (ad 2) 85 D]) ⟨hx, hb, hml, hown, hts⟩ (c_X6_nextToken l G H.size ko ad w h la tp dw dh dl tl tc hc hd ps fr so vl 5 (nI fr) tr tb (by first | assumption | omega) (by first | assumption | omega) (by first | assumption | omega) (by first | assumption | omega)) (cwV 0 hts gX6_readLine_X6_nextToken rfl rfl rfl (by decide +kernel) ⟨Nat.le_of_ble_eq_true rfl, Nat.le_of_ble_eq_true rfl⟩) hK hP hD hS hA [2, 1] [0] rfl rfl (by decide) (by decide) (by decide) rfl rfl rfl hl.1 rfl (Nat.le_of_ble_eq_true rfl) dX6_readLine_124 ⟨Nat.le_of_ble_eq_true rfl, Nat.le_of_ble_eq_true rfl⟩ (fun u H locs hp124 hP hD hS => ?_)
          obtain ⟨ps2_124, fr2_124, so2_124, vl2_124, ft2_124, wa2_124⟩ := u
          try dsimp only at hp124 hP hD
          have he124 := hp124
          replace hP : xP G [iA G (ad 2) 85 D, oC ko 6 [.ref (ad 0), .ref (ad 1), .int (nI w), .int (nI h), .int (nI la), .ref (ad 2), .int (nI dw), .int (nI dh), .int (nI dl), .int tl, .int tc, .int hc, .int hd, .ref (ad 3), .int (nI tp), .int (nI ps2_124), .int (nI fr2_124), .int (nI so2_124), .int vl2_124, .int (nI ft2_124), .int wa2_124, .ref (ad 4), .ref (ad 5), .ref (ad 6), .ref (ad 7), .ref (ad 8), .ref (ad 9), .ref (ad 10), .int tr], iA G (ad 3) 160 tb] H := hP
          replace hD : va_D (va_A (w_X6_readLine G ko ad w h la tp dw dh dl tl tc hc hd ps fr so vl ft wa tr tb D) ss.heap.size) [iA G (ad 2) 85 D, oC ko 6 [.ref (ad 0), .ref (ad 1), .int (nI w), .int (nI h), .int (nI la), .ref (ad 2), .int (nI dw), .int (nI dh), .int (nI dl), .int tl, .int tc, .int hc, .int hd, .ref (ad 3), .int (nI tp), .int (nI ps2_124), .int (nI fr2_124), .int (nI so2_124), .int vl2_124, .int (nI ft2_124), .int wa2_124, .ref (ad 4), .ref (ad 5), .ref (ad 6), .ref (ad 7), .ref (ad 8), .ref (ad 9), .ref (ad 10), .int tr], iA G (ad 3) 160 tb] := hD
          have ho124 : mOk tp (ps2_124, fr2_124, so2_124, vl2_124, ft2_124, wa2_124) := (by rw [he124]; exact mTok_ok (mF_ok (s := (ps, fr, so, vl, ft, wa)) (by omega) ho0))
          have hps124 : ps2_124 ≤ tp := ho124.1
          have hft124 : ft2_124 ≤ 6 := ho124.2.1
          have hso124 : so2_124 ≤ 3 := ho124.2.2.1
          have hfr124 : fr2_124 ≤ ps2_124 := ho124.2.2.2
          have hT := he124.trans (mTok_0 (by decide))
          have hq9 : ft2_124 = 5 := congrArg (fun a : MS => a.2.2.2.2.1) hT
          refine lv_aload_n hx hb dX6_readLine_127 rfl (lv_at hl 1 rfl) ?_
          refine va_get (D := G.1) (ci := 6) (v := .int (nI ft2_124)) (C := RX6) (T := TX6) (N := 29) hx hb hts hin6 hown hK.1 hP 1 rfl rfl 19 (by decide) (hts (.fieldLink RX6 90 "BackLensesModel" "fault" "I") (List.mem_of_getElem? (i := 3) rfl)) (fun _ h9 => h9) rfl dX6_readLine_128 ?_
          refine xn_if_le (tgt := 135) hx hb (by omega) dX6_readLine_131 rfl (fun b131 => absurd b131 (by omega)) (fun _ => ?_)
          have hP := hP.sub (ws' := [oC ko 6 [.ref (ad 0), .ref (ad 1), .int (nI w), .int (nI h), .int (nI la), .ref (ad 2), .int (nI dw), .int (nI dh), .int (nI dl), .int tl, .int tc, .int hc, .int hd, .ref (ad 3), .int (nI tp), .int (nI ps2_124), .int (nI fr2_124), .int (nI so2_124), .int vl2_124, .int (nI ft2_124), .int wa2_124, .ref (ad 4), .ref (ad 5), .ref (ad 6), .ref (ad 7), .ref (ad 8), .ref (ad 9), .ref (ad 10), .int tr], iA G (ad 2) 85 D, iA G (ad 3) 160 tb]) [1, 0, 2] rfl
          have hD := hD.sub (ws' := [oC ko 6 [.ref (ad 0), .ref (ad 1), .int (nI w), .int (nI h), .int (nI la), .ref (ad 2), .int (nI dw), .int (nI dh), .int (nI dl), .int tl, .int tc, .int hc, .int hd, .ref (ad 3), .int (nI tp), .int (nI ps2_124), .int (nI fr2_124), .int (nI so2_124), .int vl2_124, .int (nI ft2_124), .int wa2_124, .ref (ad 4), .ref (ad 5), .ref (ad 6), .ref (ad 7), .ref (ad 8), .ref (ad 9), .ref (ad 10), .int tr], iA G (ad 2) 85 D, iA G (ad 3) 160 tb]) [1, 0, 2] (by decide) rfl
          refine W.vret hx hb hr (fun t ht hW => ⟨⟨(ps2_124, fr2_124, so2_124, vl2_124, ft2_124, wa2_124, dw, dh, dl, tl, tc, hc, hd, D), rfl, ?_, by rw [ht]; exact hP, hD⟩, hS.F ht⟩) hS.2.2 dX6_readLine_134
          try dsimp only
          first | exact (hL.trans (congrArg (fun a => (a, _)) hT.symm)).symm | exact (hL.trans (mGo_0 he124 h124)).symm
        · skip
          refine lv_iconst (v := nI 1) hx hb dX6_readLine_69 (by decide) ?_
          refine lv_goto (tgt := 74) hx hb dX6_readLine_70 rfl ?_
          refine lv_iconst (v := nI 5) hx hb dX6_readLine_74 (by decide) ?_
          refine xw_v (As := [.int (nI 1), .int (nI 5)]) (rest := []) (wr := [iA G (ad 2) 85 D, iA G (ad 3) 160 tb]) ⟨hx, hb, hml, hown, hts⟩ (c_X6_needs_1 l G H.size ko ad w h la tp dw dh dl tl tc hc hd ps fr so vl ft wa tr 5 ) (cwV 2 hts gX6_readLine_X6_needs rfl rfl rfl (by decide +kernel) ⟨Nat.le_of_ble_eq_true rfl, Nat.le_of_ble_eq_true rfl⟩) hK hP hD hS hA [2] [0, 1] rfl rfl (by decide) (by decide) (by decide) rfl rfl rfl hl.1 rfl (Nat.le_of_ble_eq_true rfl) dX6_readLine_75 ⟨Nat.le_of_ble_eq_true rfl, Nat.le_of_ble_eq_true rfl⟩ (fun u H locs hp75 hP hD hS => ?_)
          replace hP : xP G [iA G (ad 2) 85 D, iA G (ad 3) 160 tb, oC ko 6 [.ref (ad 0), .ref (ad 1), .int (nI w), .int (nI h), .int (nI la), .ref (ad 2), .int (nI dw), .int (nI dh), .int (nI dl), .int tl, .int tc, .int hc, .int hd, .ref (ad 3), .int (nI tp), .int (nI ps), .int (nI fr), .int (nI so), .int vl, .int (nI ft), .int wa, .ref (ad 4), .ref (ad 5), .ref (ad 6), .ref (ad 7), .ref (ad 8), .ref (ad 9), .ref (ad 10), .int tr]] H := hP
          replace hD : va_D (va_A (w_X6_readLine G ko ad w h la tp dw dh dl tl tc hc hd ps fr so vl ft wa tr tb D) ss.heap.size) [iA G (ad 2) 85 D, iA G (ad 3) 160 tb, oC ko 6 [.ref (ad 0), .ref (ad 1), .int (nI w), .int (nI h), .int (nI la), .ref (ad 2), .int (nI dw), .int (nI dh), .int (nI dl), .int tl, .int tc, .int hc, .int hd, .ref (ad 3), .int (nI tp), .int (nI ps), .int (nI fr), .int (nI so), .int vl, .int (nI ft), .int wa, .ref (ad 4), .ref (ad 5), .ref (ad 6), .ref (ad 7), .ref (ad 8), .ref (ad 9), .ref (ad 10), .int tr]] := hD
          refine lv_aload_n hx hb dX6_readLine_78 rfl (lv_at hl 1 rfl) ?_
          refine va_get (D := G.1) (ci := 6) (v := .int (nI ft)) (C := RX6) (T := TX6) (N := 29) hx hb hts hin6 hown hK.1 hP 2 rfl rfl 19 (by decide) (hts (.fieldLink RX6 90 "BackLensesModel" "fault" "I") (List.mem_of_getElem? (i := 3) rfl)) (fun _ h9 => h9) rfl dX6_readLine_79 ?_
          refine xn_if_ne (tgt := 123) hx hb (by omega) dX6_readLine_82 rfl (fun b82 => absurd b82 (by omega)) (fun _ => ?_)
          refine lv_iload_n hx hb dX6_readLine_85 rfl (lv_at hl 0 rfl) ?_
          refine lv_iconst (v := nI 1) hx hb dX6_readLine_86 (by decide) ?_
          refine xn_icmp_gt (tgt := 123) hx hb (by omega) (by omega) dX6_readLine_87 rfl (fun _ => ?_) (fun b87 => absurd b87 (by omega))
          have hKj : mKd tb tp (ps, fr, so, vl, ft, wa) = nI 4 := (if_pos b5).trans hkv
          have hL : mLine tb tp ((ps, fr, so, vl, ft, wa), (dw, dh, dl), (tl, tc, hc, hd), D) = mGo tb tp 4 ((ps, fr, so, vl, ft, wa), (dw, dh, dl), (tl, tc, hc, hd), D) := (mLine_k (by omega) hKj).trans ((if_neg (show ¬ ((4 = 3 ∧ 10 ≤ vI (D 16)) ∨ (4 = 4 ∧ 6 ≤ vI (D 47))) by omega)).trans (if_neg (by omega)))
          refine lv_aload_n hx hb dX6_readLine_123 rfl (lv_at hl 1 rfl) ?_
          refine xw_v (As := []) (rest := []) (wr := [iA G (ad 2) 85 D]) ⟨hx, hb, hml, hown, hts⟩ (c_X6_nextToken l G H.size ko ad w h la tp dw dh dl tl tc hc hd ps fr so vl ft wa tr tb (by first | assumption | omega) (by first | assumption | omega) (by first | assumption | omega) (by first | assumption | omega)) (cwV 0 hts gX6_readLine_X6_nextToken rfl rfl rfl (by decide +kernel) ⟨Nat.le_of_ble_eq_true rfl, Nat.le_of_ble_eq_true rfl⟩) hK hP hD hS hA [2, 1] [0] rfl rfl (by decide) (by decide) (by decide) rfl rfl rfl hl.1 rfl (Nat.le_of_ble_eq_true rfl) dX6_readLine_124 ⟨Nat.le_of_ble_eq_true rfl, Nat.le_of_ble_eq_true rfl⟩ (fun u H locs hp124 hP hD hS => ?_)
          obtain ⟨ps2_124, fr2_124, so2_124, vl2_124, ft2_124, wa2_124⟩ := u
          try dsimp only at hp124 hP hD
          have he124 := hp124
          replace hP : xP G [iA G (ad 2) 85 D, oC ko 6 [.ref (ad 0), .ref (ad 1), .int (nI w), .int (nI h), .int (nI la), .ref (ad 2), .int (nI dw), .int (nI dh), .int (nI dl), .int tl, .int tc, .int hc, .int hd, .ref (ad 3), .int (nI tp), .int (nI ps2_124), .int (nI fr2_124), .int (nI so2_124), .int vl2_124, .int (nI ft2_124), .int wa2_124, .ref (ad 4), .ref (ad 5), .ref (ad 6), .ref (ad 7), .ref (ad 8), .ref (ad 9), .ref (ad 10), .int tr], iA G (ad 3) 160 tb] H := hP
          replace hD : va_D (va_A (w_X6_readLine G ko ad w h la tp dw dh dl tl tc hc hd ps fr so vl ft wa tr tb D) ss.heap.size) [iA G (ad 2) 85 D, oC ko 6 [.ref (ad 0), .ref (ad 1), .int (nI w), .int (nI h), .int (nI la), .ref (ad 2), .int (nI dw), .int (nI dh), .int (nI dl), .int tl, .int tc, .int hc, .int hd, .ref (ad 3), .int (nI tp), .int (nI ps2_124), .int (nI fr2_124), .int (nI so2_124), .int vl2_124, .int (nI ft2_124), .int wa2_124, .ref (ad 4), .ref (ad 5), .ref (ad 6), .ref (ad 7), .ref (ad 8), .ref (ad 9), .ref (ad 10), .int tr], iA G (ad 3) 160 tb] := hD
          have ho124 : mOk tp (ps2_124, fr2_124, so2_124, vl2_124, ft2_124, wa2_124) := (by rw [he124]; exact mTok_ok (ho0))
          have hps124 : ps2_124 ≤ tp := ho124.1
          have hft124 : ft2_124 ≤ 6 := ho124.2.1
          have hso124 : so2_124 ≤ 3 := ho124.2.2.1
          have hfr124 : fr2_124 ≤ ps2_124 := ho124.2.2.2
          refine lv_aload_n hx hb dX6_readLine_127 rfl (lv_at hl 1 rfl) ?_
          refine va_get (D := G.1) (ci := 6) (v := .int (nI ft2_124)) (C := RX6) (T := TX6) (N := 29) hx hb hts hin6 hown hK.1 hP 1 rfl rfl 19 (by decide) (hts (.fieldLink RX6 90 "BackLensesModel" "fault" "I") (List.mem_of_getElem? (i := 3) rfl)) (fun _ h9 => h9) rfl dX6_readLine_128 ?_
          refine xn_if_le (tgt := 135) hx hb (by omega) dX6_readLine_131 rfl (fun b131 => ?_) (fun b131 => ?_)
          · skip
            have h124 : ft2_124 = 0 := (by omega)
            refine lv_aload_n hx hb dX6_readLine_135 rfl (lv_at hl 1 rfl) ?_
            refine lv_iload_n hx hb dX6_readLine_136 rfl (lv_at hl 0 rfl) ?_
            refine xw_v (As := [.int (nI 4)]) (rest := []) (wr := []) ⟨hx, hb, hml, hown, hts⟩ (c_X6_readLineOf_4 l G H.size ko ad w h la tp dw dh dl tl tc hc hd ps2_124 fr2_124 so2_124 vl2_124 ft2_124 wa2_124 tr tb D (by first | assumption | omega) (by first | assumption | omega) (by first | assumption | omega) (by first | assumption | omega) (by first | assumption | omega) (by first | assumption | omega) (by rw [h47]; exact inR_nI (by omega) (by omega))) (cwV 1 hts gX6_readLine_X6_readLineOf rfl rfl rfl (by decide +kernel) ⟨Nat.le_of_ble_eq_true rfl, Nat.le_of_ble_eq_true rfl⟩) hK hP hD hS hA [1, 0, 2] [] rfl rfl (by decide) (by decide) (by decide) rfl rfl rfl hl.1 rfl (Nat.le_of_ble_eq_true rfl) dX6_readLine_137 ⟨Nat.le_of_ble_eq_true rfl, Nat.le_of_ble_eq_true rfl⟩ (fun u H locs hp137 hP hD hS => ?_)
            obtain ⟨ps2_137, fr2_137, so2_137, vl2_137, ft2_137, wa2_137, hc2_137, hd2_137, D2_137⟩ := u
            try dsimp only at hp137 hP hD
            have he137 := hp137
            replace hP : xP G [oC ko 6 [.ref (ad 0), .ref (ad 1), .int (nI w), .int (nI h), .int (nI la), .ref (ad 2), .int (nI dw), .int (nI dh), .int (nI dl), .int tl, .int tc, .int hc2_137, .int hd2_137, .ref (ad 3), .int (nI tp), .int (nI ps2_137), .int (nI fr2_137), .int (nI so2_137), .int vl2_137, .int (nI ft2_137), .int wa2_137, .ref (ad 4), .ref (ad 5), .ref (ad 6), .ref (ad 7), .ref (ad 8), .ref (ad 9), .ref (ad 10), .int tr], iA G (ad 2) 85 D2_137, iA G (ad 3) 160 tb] H := hP
            replace hD : va_D (va_A (w_X6_readLine G ko ad w h la tp dw dh dl tl tc hc hd ps fr so vl ft wa tr tb D) ss.heap.size) [oC ko 6 [.ref (ad 0), .ref (ad 1), .int (nI w), .int (nI h), .int (nI la), .ref (ad 2), .int (nI dw), .int (nI dh), .int (nI dl), .int tl, .int tc, .int hc2_137, .int hd2_137, .ref (ad 3), .int (nI tp), .int (nI ps2_137), .int (nI fr2_137), .int (nI so2_137), .int vl2_137, .int (nI ft2_137), .int wa2_137, .ref (ad 4), .ref (ad 5), .ref (ad 6), .ref (ad 7), .ref (ad 8), .ref (ad 9), .ref (ad 10), .int tr], iA G (ad 2) 85 D2_137, iA G (ad 3) 160 tb] := hD
            have ho137 : mOk tp (ps2_137, fr2_137, so2_137, vl2_137, ft2_137, wa2_137) := (by rw [show (ps2_137, fr2_137, so2_137, vl2_137, ft2_137, wa2_137) = (mLof tb tp 4 ((ps2_124, fr2_124, so2_124, vl2_124, ft2_124, wa2_124), (dw, dh, dl), (tl, tc, hc, hd), D)).1 from congrArg (fun a : XS => a.1) he137]; exact (mLof_ok ho124).1)
            have hps137 : ps2_137 ≤ tp := ho137.1
            have hft137 : ft2_137 ≤ 6 := ho137.2.1
            have hso137 : so2_137 ≤ 3 := ho137.2.2.1
            have hfr137 : fr2_137 ≤ ps2_137 := ho137.2.2.2
            refine lv_aload_n hx hb dX6_readLine_140 rfl (lv_at hl 1 rfl) ?_
            refine va_get (D := G.1) (ci := 6) (v := .int (nI ft2_137)) (C := RX6) (T := TX6) (N := 29) hx hb hts hin6 hown hK.1 hP 0 rfl rfl 19 (by decide) (hts (.fieldLink RX6 90 "BackLensesModel" "fault" "I") (List.mem_of_getElem? (i := 3) rfl)) (fun _ h9 => h9) rfl dX6_readLine_141 ?_
            refine xn_if_ne (tgt := 165) hx hb (by omega) dX6_readLine_144 rfl (fun b144 => ?_) (fun b144 => ?_)
            · skip
              refine lv_aload_n hx hb dX6_readLine_165 rfl (lv_at hl 1 rfl) ?_
              refine xw_v (As := []) (rest := []) (wr := [iA G (ad 2) 85 D2_137]) ⟨hx, hb, hml, hown, hts⟩ (c_X6_nextToken l G H.size ko ad w h la tp dw dh dl tl tc hc2_137 hd2_137 ps2_137 fr2_137 so2_137 vl2_137 ft2_137 wa2_137 tr tb (by first | assumption | omega) (by first | assumption | omega) (by first | assumption | omega) (by first | assumption | omega)) (cwV 0 hts gX6_readLine_X6_nextToken rfl rfl rfl (by decide +kernel) ⟨Nat.le_of_ble_eq_true rfl, Nat.le_of_ble_eq_true rfl⟩) hK hP hD hS hA [0, 2] [1] rfl rfl (by decide) (by decide) (by decide) rfl rfl rfl hl.1 rfl (Nat.le_of_ble_eq_true rfl) dX6_readLine_166 ⟨Nat.le_of_ble_eq_true rfl, Nat.le_of_ble_eq_true rfl⟩ (fun u H locs hp166 hP hD hS => ?_)
              obtain ⟨ps2_166, fr2_166, so2_166, vl2_166, ft2_166, wa2_166⟩ := u
              try dsimp only at hp166 hP hD
              have he166 := hp166
              replace hP : xP G [iA G (ad 2) 85 D2_137, oC ko 6 [.ref (ad 0), .ref (ad 1), .int (nI w), .int (nI h), .int (nI la), .ref (ad 2), .int (nI dw), .int (nI dh), .int (nI dl), .int tl, .int tc, .int hc2_137, .int hd2_137, .ref (ad 3), .int (nI tp), .int (nI ps2_166), .int (nI fr2_166), .int (nI so2_166), .int vl2_166, .int (nI ft2_166), .int wa2_166, .ref (ad 4), .ref (ad 5), .ref (ad 6), .ref (ad 7), .ref (ad 8), .ref (ad 9), .ref (ad 10), .int tr], iA G (ad 3) 160 tb] H := hP
              replace hD : va_D (va_A (w_X6_readLine G ko ad w h la tp dw dh dl tl tc hc hd ps fr so vl ft wa tr tb D) ss.heap.size) [iA G (ad 2) 85 D2_137, oC ko 6 [.ref (ad 0), .ref (ad 1), .int (nI w), .int (nI h), .int (nI la), .ref (ad 2), .int (nI dw), .int (nI dh), .int (nI dl), .int tl, .int tc, .int hc2_137, .int hd2_137, .ref (ad 3), .int (nI tp), .int (nI ps2_166), .int (nI fr2_166), .int (nI so2_166), .int vl2_166, .int (nI ft2_166), .int wa2_166, .ref (ad 4), .ref (ad 5), .ref (ad 6), .ref (ad 7), .ref (ad 8), .ref (ad 9), .ref (ad 10), .int tr], iA G (ad 3) 160 tb] := hD
              have hP := hP.sub (ws' := [oC ko 6 [.ref (ad 0), .ref (ad 1), .int (nI w), .int (nI h), .int (nI la), .ref (ad 2), .int (nI dw), .int (nI dh), .int (nI dl), .int tl, .int tc, .int hc2_137, .int hd2_137, .ref (ad 3), .int (nI tp), .int (nI ps2_166), .int (nI fr2_166), .int (nI so2_166), .int vl2_166, .int (nI ft2_166), .int wa2_166, .ref (ad 4), .ref (ad 5), .ref (ad 6), .ref (ad 7), .ref (ad 8), .ref (ad 9), .ref (ad 10), .int tr], iA G (ad 2) 85 D2_137, iA G (ad 3) 160 tb]) [1, 0, 2] rfl
              have hD := hD.sub (ws' := [oC ko 6 [.ref (ad 0), .ref (ad 1), .int (nI w), .int (nI h), .int (nI la), .ref (ad 2), .int (nI dw), .int (nI dh), .int (nI dl), .int tl, .int tc, .int hc2_137, .int hd2_137, .ref (ad 3), .int (nI tp), .int (nI ps2_166), .int (nI fr2_166), .int (nI so2_166), .int vl2_166, .int (nI ft2_166), .int wa2_166, .ref (ad 4), .ref (ad 5), .ref (ad 6), .ref (ad 7), .ref (ad 8), .ref (ad 9), .ref (ad 10), .int tr], iA G (ad 2) 85 D2_137, iA G (ad 3) 160 tb]) [1, 0, 2] (by decide) rfl
              refine W.vret hx hb hr (fun t ht hW => ⟨⟨(ps2_166, fr2_166, so2_166, vl2_166, ft2_166, wa2_166, dw, dh, dl, tl, tc, hc2_137, hd2_137, D2_137), rfl, ?_, by rw [ht]; exact hP, hD⟩, hS.F ht⟩) hS.2.2 dX6_readLine_169
              try dsimp only
              first | exact (hL.trans (mGo_1 he124 h124 he137 (if_neg b144).symm he166)).symm | exact (hL.trans (mGo_1 he124 h124 he137 ((if_pos b144).trans (if_pos b153)).symm he166)).symm | exact (hL.trans (mGo_1 he124 h124 he137 ((if_pos b144).trans (if_neg b153)).symm he166)).symm
            · skip
              refine lv_aload_n hx hb dX6_readLine_147 rfl (lv_at hl 1 rfl) ?_
              refine lv_aload_n hx hb dX6_readLine_148 rfl (lv_at hl 1 rfl) ?_
              refine va_get (D := G.1) (ci := 6) (v := .int (nI so2_137)) (C := RX6) (T := TX6) (N := 29) hx hb hts hin6 hown hK.1 hP 0 rfl rfl 17 (by decide) (hts (.fieldLink RX6 110 "BackLensesModel" "sort" "I") (List.mem_of_getElem? (i := 1) rfl)) (fun _ h9 => h9) rfl dX6_readLine_149 ?_
              refine lv_iconst (v := nI 3) hx hb dX6_readLine_152 (by decide) ?_
              refine xn_icmp_ne (tgt := 160) hx hb (by omega) (by omega) dX6_readLine_153 rfl (fun b153 => ?_) (fun b153 => ?_)
              · skip
                refine lv_iconst (v := nI 0) hx hb dX6_readLine_160 (by decide) ?_
                refine lv_iconst (v := nI 2) hx hb dX6_readLine_161 (by decide) ?_
                refine xw_v (As := [.int (nI 0), .int (nI 2)]) (rest := []) (wr := [iA G (ad 2) 85 D2_137, iA G (ad 3) 160 tb]) ⟨hx, hb, hml, hown, hts⟩ (c_X6_needs_0 l G H.size ko ad w h la tp dw dh dl tl tc hc2_137 hd2_137 ps2_137 fr2_137 so2_137 vl2_137 ft2_137 wa2_137 tr 2 (by first | assumption | omega)) (cwV 2 hts gX6_readLine_X6_needs rfl rfl rfl (by decide +kernel) ⟨Nat.le_of_ble_eq_true rfl, Nat.le_of_ble_eq_true rfl⟩) hK hP hD hS hA [0] [1, 2] rfl rfl (by decide) (by decide) (by decide) rfl rfl rfl hl.1 rfl (Nat.le_of_ble_eq_true rfl) dX6_readLine_162 ⟨Nat.le_of_ble_eq_true rfl, Nat.le_of_ble_eq_true rfl⟩ (fun u H locs hp162 hP hD hS => ?_)
                replace hP : xP G [iA G (ad 2) 85 D2_137, iA G (ad 3) 160 tb, oC ko 6 [.ref (ad 0), .ref (ad 1), .int (nI w), .int (nI h), .int (nI la), .ref (ad 2), .int (nI dw), .int (nI dh), .int (nI dl), .int tl, .int tc, .int hc2_137, .int hd2_137, .ref (ad 3), .int (nI tp), .int (nI ps2_137), .int (nI fr2_137), .int (nI so2_137), .int vl2_137, .int (nI 2), .int (nI fr2_137), .ref (ad 4), .ref (ad 5), .ref (ad 6), .ref (ad 7), .ref (ad 8), .ref (ad 9), .ref (ad 10), .int tr]] H := hP
                replace hD : va_D (va_A (w_X6_readLine G ko ad w h la tp dw dh dl tl tc hc hd ps fr so vl ft wa tr tb D) ss.heap.size) [iA G (ad 2) 85 D2_137, iA G (ad 3) 160 tb, oC ko 6 [.ref (ad 0), .ref (ad 1), .int (nI w), .int (nI h), .int (nI la), .ref (ad 2), .int (nI dw), .int (nI dh), .int (nI dl), .int tl, .int tc, .int hc2_137, .int hd2_137, .ref (ad 3), .int (nI tp), .int (nI ps2_137), .int (nI fr2_137), .int (nI so2_137), .int vl2_137, .int (nI 2), .int (nI fr2_137), .ref (ad 4), .ref (ad 5), .ref (ad 6), .ref (ad 7), .ref (ad 8), .ref (ad 9), .ref (ad 10), .int tr]] := hD
                refine lv_aload_n hx hb dX6_readLine_165 rfl (lv_at hl 1 rfl) ?_
                refine xw_v (As := []) (rest := []) (wr := [iA G (ad 2) 85 D2_137]) ⟨hx, hb, hml, hown, hts⟩ (c_X6_nextToken l G H.size ko ad w h la tp dw dh dl tl tc hc2_137 hd2_137 ps2_137 fr2_137 so2_137 vl2_137 2 (nI fr2_137) tr tb (by first | assumption | omega) (by first | assumption | omega) (by first | assumption | omega) (by first | assumption | omega)) (cwV 0 hts gX6_readLine_X6_nextToken rfl rfl rfl (by decide +kernel) ⟨Nat.le_of_ble_eq_true rfl, Nat.le_of_ble_eq_true rfl⟩) hK hP hD hS hA [2, 1] [0] rfl rfl (by decide) (by decide) (by decide) rfl rfl rfl hl.1 rfl (Nat.le_of_ble_eq_true rfl) dX6_readLine_166 ⟨Nat.le_of_ble_eq_true rfl, Nat.le_of_ble_eq_true rfl⟩ (fun u H locs hp166 hP hD hS => ?_)
                obtain ⟨ps2_166, fr2_166, so2_166, vl2_166, ft2_166, wa2_166⟩ := u
                try dsimp only at hp166 hP hD
                have he166 := hp166
                replace hP : xP G [iA G (ad 2) 85 D2_137, oC ko 6 [.ref (ad 0), .ref (ad 1), .int (nI w), .int (nI h), .int (nI la), .ref (ad 2), .int (nI dw), .int (nI dh), .int (nI dl), .int tl, .int tc, .int hc2_137, .int hd2_137, .ref (ad 3), .int (nI tp), .int (nI ps2_166), .int (nI fr2_166), .int (nI so2_166), .int vl2_166, .int (nI ft2_166), .int wa2_166, .ref (ad 4), .ref (ad 5), .ref (ad 6), .ref (ad 7), .ref (ad 8), .ref (ad 9), .ref (ad 10), .int tr], iA G (ad 3) 160 tb] H := hP
                replace hD : va_D (va_A (w_X6_readLine G ko ad w h la tp dw dh dl tl tc hc hd ps fr so vl ft wa tr tb D) ss.heap.size) [iA G (ad 2) 85 D2_137, oC ko 6 [.ref (ad 0), .ref (ad 1), .int (nI w), .int (nI h), .int (nI la), .ref (ad 2), .int (nI dw), .int (nI dh), .int (nI dl), .int tl, .int tc, .int hc2_137, .int hd2_137, .ref (ad 3), .int (nI tp), .int (nI ps2_166), .int (nI fr2_166), .int (nI so2_166), .int vl2_166, .int (nI ft2_166), .int wa2_166, .ref (ad 4), .ref (ad 5), .ref (ad 6), .ref (ad 7), .ref (ad 8), .ref (ad 9), .ref (ad 10), .int tr], iA G (ad 3) 160 tb] := hD
                have hP := hP.sub (ws' := [oC ko 6 [.ref (ad 0), .ref (ad 1), .int (nI w), .int (nI h), .int (nI la), .ref (ad 2), .int (nI dw), .int (nI dh), .int (nI dl), .int tl, .int tc, .int hc2_137, .int hd2_137, .ref (ad 3), .int (nI tp), .int (nI ps2_166), .int (nI fr2_166), .int (nI so2_166), .int vl2_166, .int (nI ft2_166), .int wa2_166, .ref (ad 4), .ref (ad 5), .ref (ad 6), .ref (ad 7), .ref (ad 8), .ref (ad 9), .ref (ad 10), .int tr], iA G (ad 2) 85 D2_137, iA G (ad 3) 160 tb]) [1, 0, 2] rfl
                have hD := hD.sub (ws' := [oC ko 6 [.ref (ad 0), .ref (ad 1), .int (nI w), .int (nI h), .int (nI la), .ref (ad 2), .int (nI dw), .int (nI dh), .int (nI dl), .int tl, .int tc, .int hc2_137, .int hd2_137, .ref (ad 3), .int (nI tp), .int (nI ps2_166), .int (nI fr2_166), .int (nI so2_166), .int vl2_166, .int (nI ft2_166), .int wa2_166, .ref (ad 4), .ref (ad 5), .ref (ad 6), .ref (ad 7), .ref (ad 8), .ref (ad 9), .ref (ad 10), .int tr], iA G (ad 2) 85 D2_137, iA G (ad 3) 160 tb]) [1, 0, 2] (by decide) rfl
                refine W.vret hx hb hr (fun t ht hW => ⟨⟨(ps2_166, fr2_166, so2_166, vl2_166, ft2_166, wa2_166, dw, dh, dl, tl, tc, hc2_137, hd2_137, D2_137), rfl, ?_, by rw [ht]; exact hP, hD⟩, hS.F ht⟩) hS.2.2 dX6_readLine_169
                try dsimp only
                first | exact (hL.trans (mGo_1 he124 h124 he137 (if_neg b144).symm he166)).symm | exact (hL.trans (mGo_1 he124 h124 he137 ((if_pos b144).trans (if_pos b153)).symm he166)).symm | exact (hL.trans (mGo_1 he124 h124 he137 ((if_pos b144).trans (if_neg b153)).symm he166)).symm
              · skip
                refine lv_iconst (v := nI 1) hx hb dX6_readLine_156 (by decide) ?_
                refine lv_goto (tgt := 161) hx hb dX6_readLine_157 rfl ?_
                refine lv_iconst (v := nI 2) hx hb dX6_readLine_161 (by decide) ?_
                refine xw_v (As := [.int (nI 1), .int (nI 2)]) (rest := []) (wr := [iA G (ad 2) 85 D2_137, iA G (ad 3) 160 tb]) ⟨hx, hb, hml, hown, hts⟩ (c_X6_needs_1 l G H.size ko ad w h la tp dw dh dl tl tc hc2_137 hd2_137 ps2_137 fr2_137 so2_137 vl2_137 ft2_137 wa2_137 tr 2 ) (cwV 2 hts gX6_readLine_X6_needs rfl rfl rfl (by decide +kernel) ⟨Nat.le_of_ble_eq_true rfl, Nat.le_of_ble_eq_true rfl⟩) hK hP hD hS hA [0] [1, 2] rfl rfl (by decide) (by decide) (by decide) rfl rfl rfl hl.1 rfl (Nat.le_of_ble_eq_true rfl) dX6_readLine_162 ⟨Nat.le_of_ble_eq_true rfl, Nat.le_of_ble_eq_true rfl⟩ (fun u H locs hp162 hP hD hS => ?_)
                replace hP : xP G [iA G (ad 2) 85 D2_137, iA G (ad 3) 160 tb, oC ko 6 [.ref (ad 0), .ref (ad 1), .int (nI w), .int (nI h), .int (nI la), .ref (ad 2), .int (nI dw), .int (nI dh), .int (nI dl), .int tl, .int tc, .int hc2_137, .int hd2_137, .ref (ad 3), .int (nI tp), .int (nI ps2_137), .int (nI fr2_137), .int (nI so2_137), .int vl2_137, .int (nI ft2_137), .int wa2_137, .ref (ad 4), .ref (ad 5), .ref (ad 6), .ref (ad 7), .ref (ad 8), .ref (ad 9), .ref (ad 10), .int tr]] H := hP
                replace hD : va_D (va_A (w_X6_readLine G ko ad w h la tp dw dh dl tl tc hc hd ps fr so vl ft wa tr tb D) ss.heap.size) [iA G (ad 2) 85 D2_137, iA G (ad 3) 160 tb, oC ko 6 [.ref (ad 0), .ref (ad 1), .int (nI w), .int (nI h), .int (nI la), .ref (ad 2), .int (nI dw), .int (nI dh), .int (nI dl), .int tl, .int tc, .int hc2_137, .int hd2_137, .ref (ad 3), .int (nI tp), .int (nI ps2_137), .int (nI fr2_137), .int (nI so2_137), .int vl2_137, .int (nI ft2_137), .int wa2_137, .ref (ad 4), .ref (ad 5), .ref (ad 6), .ref (ad 7), .ref (ad 8), .ref (ad 9), .ref (ad 10), .int tr]] := hD
                refine lv_aload_n hx hb dX6_readLine_165 rfl (lv_at hl 1 rfl) ?_
                refine xw_v (As := []) (rest := []) (wr := [iA G (ad 2) 85 D2_137]) ⟨hx, hb, hml, hown, hts⟩ (c_X6_nextToken l G H.size ko ad w h la tp dw dh dl tl tc hc2_137 hd2_137 ps2_137 fr2_137 so2_137 vl2_137 ft2_137 wa2_137 tr tb (by first | assumption | omega) (by first | assumption | omega) (by first | assumption | omega) (by first | assumption | omega)) (cwV 0 hts gX6_readLine_X6_nextToken rfl rfl rfl (by decide +kernel) ⟨Nat.le_of_ble_eq_true rfl, Nat.le_of_ble_eq_true rfl⟩) hK hP hD hS hA [2, 1] [0] rfl rfl (by decide) (by decide) (by decide) rfl rfl rfl hl.1 rfl (Nat.le_of_ble_eq_true rfl) dX6_readLine_166 ⟨Nat.le_of_ble_eq_true rfl, Nat.le_of_ble_eq_true rfl⟩ (fun u H locs hp166 hP hD hS => ?_)
                obtain ⟨ps2_166, fr2_166, so2_166, vl2_166, ft2_166, wa2_166⟩ := u
                try dsimp only at hp166 hP hD
                have he166 := hp166
                replace hP : xP G [iA G (ad 2) 85 D2_137, oC ko 6 [.ref (ad 0), .ref (ad 1), .int (nI w), .int (nI h), .int (nI la), .ref (ad 2), .int (nI dw), .int (nI dh), .int (nI dl), .int tl, .int tc, .int hc2_137, .int hd2_137, .ref (ad 3), .int (nI tp), .int (nI ps2_166), .int (nI fr2_166), .int (nI so2_166), .int vl2_166, .int (nI ft2_166), .int wa2_166, .ref (ad 4), .ref (ad 5), .ref (ad 6), .ref (ad 7), .ref (ad 8), .ref (ad 9), .ref (ad 10), .int tr], iA G (ad 3) 160 tb] H := hP
                replace hD : va_D (va_A (w_X6_readLine G ko ad w h la tp dw dh dl tl tc hc hd ps fr so vl ft wa tr tb D) ss.heap.size) [iA G (ad 2) 85 D2_137, oC ko 6 [.ref (ad 0), .ref (ad 1), .int (nI w), .int (nI h), .int (nI la), .ref (ad 2), .int (nI dw), .int (nI dh), .int (nI dl), .int tl, .int tc, .int hc2_137, .int hd2_137, .ref (ad 3), .int (nI tp), .int (nI ps2_166), .int (nI fr2_166), .int (nI so2_166), .int vl2_166, .int (nI ft2_166), .int wa2_166, .ref (ad 4), .ref (ad 5), .ref (ad 6), .ref (ad 7), .ref (ad 8), .ref (ad 9), .ref (ad 10), .int tr], iA G (ad 3) 160 tb] := hD
                have hP := hP.sub (ws' := [oC ko 6 [.ref (ad 0), .ref (ad 1), .int (nI w), .int (nI h), .int (nI la), .ref (ad 2), .int (nI dw), .int (nI dh), .int (nI dl), .int tl, .int tc, .int hc2_137, .int hd2_137, .ref (ad 3), .int (nI tp), .int (nI ps2_166), .int (nI fr2_166), .int (nI so2_166), .int vl2_166, .int (nI ft2_166), .int wa2_166, .ref (ad 4), .ref (ad 5), .ref (ad 6), .ref (ad 7), .ref (ad 8), .ref (ad 9), .ref (ad 10), .int tr], iA G (ad 2) 85 D2_137, iA G (ad 3) 160 tb]) [1, 0, 2] rfl
                have hD := hD.sub (ws' := [oC ko 6 [.ref (ad 0), .ref (ad 1), .int (nI w), .int (nI h), .int (nI la), .ref (ad 2), .int (nI dw), .int (nI dh), .int (nI dl), .int tl, .int tc, .int hc2_137, .int hd2_137, .ref (ad 3), .int (nI tp), .int (nI ps2_166), .int (nI fr2_166), .int (nI so2_166), .int vl2_166, .int (nI ft2_166), .int wa2_166, .ref (ad 4), .ref (ad 5), .ref (ad 6), .ref (ad 7), .ref (ad 8), .ref (ad 9), .ref (ad 10), .int tr], iA G (ad 2) 85 D2_137, iA G (ad 3) 160 tb]) [1, 0, 2] (by decide) rfl
                refine W.vret hx hb hr (fun t ht hW => ⟨⟨(ps2_166, fr2_166, so2_166, vl2_166, ft2_166, wa2_166, dw, dh, dl, tl, tc, hc2_137, hd2_137, D2_137), rfl, ?_, by rw [ht]; exact hP, hD⟩, hS.F ht⟩) hS.2.2 dX6_readLine_169
                try dsimp only
                first | exact (hL.trans (mGo_1 he124 h124 he137 (if_neg b144).symm he166)).symm | exact (hL.trans (mGo_1 he124 h124 he137 ((if_pos b144).trans (if_pos b153)).symm he166)).symm | exact (hL.trans (mGo_1 he124 h124 he137 ((if_pos b144).trans (if_neg b153)).symm he166)).symm
          · skip
            have h124 : ¬ ft2_124 = 0 := (by omega)
            have hP := hP.sub (ws' := [oC ko 6 [.ref (ad 0), .ref (ad 1), .int (nI w), .int (nI h), .int (nI la), .ref (ad 2), .int (nI dw), .int (nI dh), .int (nI dl), .int tl, .int tc, .int hc, .int hd, .ref (ad 3), .int (nI tp), .int (nI ps2_124), .int (nI fr2_124), .int (nI so2_124), .int vl2_124, .int (nI ft2_124), .int wa2_124, .ref (ad 4), .ref (ad 5), .ref (ad 6), .ref (ad 7), .ref (ad 8), .ref (ad 9), .ref (ad 10), .int tr], iA G (ad 2) 85 D, iA G (ad 3) 160 tb]) [1, 0, 2] rfl
            have hD := hD.sub (ws' := [oC ko 6 [.ref (ad 0), .ref (ad 1), .int (nI w), .int (nI h), .int (nI la), .ref (ad 2), .int (nI dw), .int (nI dh), .int (nI dl), .int tl, .int tc, .int hc, .int hd, .ref (ad 3), .int (nI tp), .int (nI ps2_124), .int (nI fr2_124), .int (nI so2_124), .int vl2_124, .int (nI ft2_124), .int wa2_124, .ref (ad 4), .ref (ad 5), .ref (ad 6), .ref (ad 7), .ref (ad 8), .ref (ad 9), .ref (ad 10), .int tr], iA G (ad 2) 85 D, iA G (ad 3) 160 tb]) [1, 0, 2] (by decide) rfl
            refine W.vret hx hb hr (fun t ht hW => ⟨⟨(ps2_124, fr2_124, so2_124, vl2_124, ft2_124, wa2_124, dw, dh, dl, tl, tc, hc, hd, D), rfl, ?_, by rw [ht]; exact hP, hD⟩, hS.F ht⟩) hS.2.2 dX6_readLine_134
            try dsimp only
            first | exact (hL.trans (congrArg (fun a => (a, _)) hT.symm)).symm | exact (hL.trans (mGo_0 he124 h124)).symm
end

abbrev w_X6_readLens (G : XG) (ko : Nat) (ad : Nat → Nat) (w h la tp : Nat) (dw dh dl : Nat) (tl tc hc hd : Int32) (ps fr so : Nat) (vl : Int32) (ft : Nat) (wa tr : Int32) (tb D : Nat → Int32) : va_W := [oC ko 6 [.ref (ad 0), .ref (ad 1), .int (nI w), .int (nI h), .int (nI la), .ref (ad 2), .int (nI dw), .int (nI dh), .int (nI dl), .int tl, .int tc, .int hc, .int hd, .ref (ad 3), .int (nI tp), .int (nI ps), .int (nI fr), .int (nI so), .int vl, .int (nI ft), .int wa, .ref (ad 4), .ref (ad 5), .ref (ad 6), .ref (ad 7), .ref (ad 8), .ref (ad 9), .ref (ad 10), .int tr], iA G (ad 2) 85 D, iA G (ad 3) 160 tb]
abbrev Q_X6_readLens (G : XG) (sz : Nat) (ko : Nat) (ad : Nat → Nat) (w h la tp : Nat) (dw dh dl : Nat) (tl tc hc hd : Int32) (ps fr so : Nat) (vl : Int32) (ft : Nat) (wa tr : Int32) (tb D : Nat → Int32) : Array Value → State → Outcome → State → Prop := (va_Qv (fun (u : Nat × Nat × Nat × Int32 × Nat × Int32 × Int32 × Int32 × (Nat → Int32)) => ((u.1, u.2.1, u.2.2.1, u.2.2.2.1, u.2.2.2.2.1, u.2.2.2.2.2.1), u.2.2.2.2.2.2.1, u.2.2.2.2.2.2.2.1, u.2.2.2.2.2.2.2.2) = mLens tb tp hc hd D (ps, fr, so, vl, ft, wa)) (xWb G sz (w_X6_readLens G ko ad w h la tp dw dh dl tl tc hc hd ps fr so vl ft wa tr tb D) (fun u : Nat × Nat × Nat × Int32 × Nat × Int32 × Int32 × Int32 × (Nat → Int32) => [oC ko 6 [.ref (ad 0), .ref (ad 1), .int (nI w), .int (nI h), .int (nI la), .ref (ad 2), .int (nI dw), .int (nI dh), .int (nI dl), .int tl, .int tc, .int u.2.2.2.2.2.2.1, .int u.2.2.2.2.2.2.2.1, .ref (ad 3), .int (nI tp), .int (nI u.1), .int (nI u.2.1), .int (nI u.2.2.1), .int u.2.2.2.1, .int (nI u.2.2.2.2.1), .int u.2.2.2.2.2.1, .ref (ad 4), .ref (ad 5), .ref (ad 6), .ref (ad 7), .ref (ad 8), .ref (ad 9), .ref (ad 10), .int tr], iA G (ad 2) 85 u.2.2.2.2.2.2.2.2, iA G (ad 3) 160 tb])) (va_A (w_X6_readLens G ko ad w h la tp dw dh dl tl tc hc hd ps fr so vl ft wa tr tb D) sz))
set_option maxHeartbeats 4000000 in
set_option maxRecDepth 100000 in
theorem c_X6_readLens (l : Launch) (G : XG) (sz : Nat) (ko : Nat) (ad : Nat → Nat) (w h la tp : Nat) (dw dh dl : Nat) (tl tc hc hd : Int32) (ps fr so : Nat) (vl : Int32) (ft : Nat) (wa tr : Int32) (tb D : Nat → Int32) (htp : tp ≤ 160) (hps : ps ≤ tp) (htk : tpOk tb tp) (hft : ft ≤ 6) (hso : so ≤ 3) (hfr : fr ≤ ps) (hD47 : inR (D 47) 6) : Met l yX6_readLens wsX6_readLens ({ frames := 3, cells := 0, slots := 0, locals := 69 } : Room) (va_Pc [.ref ko] (xWp G sz (w_X6_readLens G ko ad w h la tp dw dh dl tl tc hc hd ps fr so vl ft wa tr tb D))) (Q_X6_readLens G sz ko ad w h la tp dw dh dl tl tc hc hd ps fr so vl ft wa tr tb D) 0 0 (va_A (w_X6_readLens G ko ad w h la tp dw dh dl tl tc hc hd ps fr so vl ft wa tr tb D) sz) := by
  refine Met.ofW (cc := cX6_readLens) (maxL := 3) (ret := none) (by decide) rfl ?_
  intro pp ee ss mm aa below mt cd s₁ BB hml hv
  obtain ⟨rfl, hsz, hP, hK, hD0⟩ := hv
  have hx := BB.exec
  have hb := BB.bytes
  have hr := BB.returns
  have hts := atoms_spec (ws := wsX6_readLens) BB.pre
  have hown : ss.vm.findClass RX6 = some mm.cls := findClass_of_methodNamed BB.named
  have hlocks := BB.notSynchronized
  subst hsz
  have hD := hD0.self (sz := ss.heap.size)
  have hA : ∀ q : Nat, ss.heap.size ≤ q → va_A (w_X6_readLens G ko ad w h la tp dw dh dl tl tc hc hd ps fr so vl ft wa tr tb D) ss.heap.size q := fun q h => Or.inr h
  have hS : va_S (va_A (w_X6_readLens G ko ad w h la tp dw dh dl tl tc hc hd ps fr so vl ft wa tr tb D) ss.heap.size) ss.heap ss.heap [] := va_S.rf
  replace hD : va_D (va_A (w_X6_readLens G ko ad w h la tp dw dh dl tl tc hc hd ps fr so vl ft wa tr tb D) ss.heap.size) [oC ko 6 [.ref (ad 0), .ref (ad 1), .int (nI w), .int (nI h), .int (nI la), .ref (ad 2), .int (nI dw), .int (nI dh), .int (nI dl), .int tl, .int tc, .int hc, .int hd, .ref (ad 3), .int (nI tp), .int (nI ps), .int (nI fr), .int (nI so), .int vl, .int (nI ft), .int wa, .ref (ad 4), .ref (ad 5), .ref (ad 6), .ref (ad 7), .ref (ad 8), .ref (ad 9), .ref (ad 10), .int tr], iA G (ad 2) 85 D, iA G (ad 3) 160 tb] := hD
  replace hP : xP G [oC ko 6 [.ref (ad 0), .ref (ad 1), .int (nI w), .int (nI h), .int (nI la), .ref (ad 2), .int (nI dw), .int (nI dh), .int (nI dl), .int tl, .int tc, .int hc, .int hd, .ref (ad 3), .int (nI tp), .int (nI ps), .int (nI fr), .int (nI so), .int vl, .int (nI ft), .int wa, .ref (ad 4), .ref (ad 5), .ref (ad 6), .ref (ad 7), .ref (ad 8), .ref (ad 9), .ref (ad 10), .int tr], iA G (ad 2) 85 D, iA G (ad 3) 160 tb] ss.heap := hP
  have hin6 : ∀ w ∈ u_ws RX6 TX6 29, w ∈ wsX6_readLens := fun w h => List.mem_cons_of_mem _ (List.mem_append_right _ h)
  have hl := lv_entry ([.ref ko]) (n := 3) (Nat.le_of_ble_eq_true rfl)
  rw [lg_entry_eq]
  generalize (lg_sl ([.ref ko]) ++ List.replicate (3 - (lg_sl ([.ref ko])).length) Slot.unset).toArray = ls at hl ⊢
  replace hl : lv_has ls 3 [(0, .ref ko)] := hl
  have ho0 : mOk tp (ps, fr, so, vl, ft, wa) := ⟨hps, hft, hso, hfr⟩
  obtain ⟨nl, hnl, h47⟩ := inR_nat hD47
  refine lv_bipush (v := nI 48) hx hb dX6_readLens_0 (by decide) ?_
  refine lv_iconst (v := nI 2) hx hb dX6_readLens_2 (by decide) ?_
  refine lv_aload_n hx hb dX6_readLens_3 rfl (lv_at hl 0 rfl) ?_
  refine va_get (D := G.1) (ci := 6) (v := .ref (ad 2)) (C := RX6) (T := TX6) (N := 29) hx hb hts hin6 hown hK.1 hP 0 rfl rfl 5 (by decide) (hts (.fieldLink RX6 17 "BackLensesModel" "draft" "[I") (List.mem_of_getElem? (i := 1) rfl)) (fun _ h9 => h9) rfl dX6_readLens_4 ?_
  refine lv_bipush (v := nI 47) hx hb dX6_readLens_7 (by decide) ?_
  refine xn_iald hx hb hK hP 1 rfl (by omega) (by omega) dX6_readLens_9 ?_
  refine xn_top (y := nI nl) (by exact h47) ?_
  refine xn_imul hx hb dX6_readLens_10 ?_
  refine xn_iadd hx hb dX6_readLens_11 ?_
  refine lv_istore_n (lv' := [(1, .int (nI (48 + (2 * nl)))), (0, .ref ko)]) hx hb dX6_readLens_12 rfl hl (by decide) rfl (fun ls hl => ?_)
  refine lv_aload_n hx hb dX6_readLens_13 rfl (lv_at hl 1 rfl) ?_
  refine va_get (D := G.1) (ci := 6) (v := .ref (ad 2)) (C := RX6) (T := TX6) (N := 29) hx hb hts hin6 hown hK.1 hP 0 rfl rfl 5 (by decide) (hts (.fieldLink RX6 17 "BackLensesModel" "draft" "[I") (List.mem_of_getElem? (i := 1) rfl)) (fun _ h9 => h9) rfl dX6_readLens_14 ?_
  refine lv_iload_n hx hb dX6_readLens_17 rfl (lv_at hl 0 rfl) ?_
  refine lv_aload_n hx hb dX6_readLens_18 rfl (lv_at hl 1 rfl) ?_
  refine xw_i (As := []) (rest := [.int (nI (48 + (2 * nl))), .ref (ad 2)]) (wr := [iA G (ad 2) 85 D]) ⟨hx, hb, hml, hown, hts⟩ (c_X6_readDay l G ss.heap.size ko ad w h la tp dw dh dl tl tc hc hd ps fr so vl ft wa tr tb (by first | assumption | omega) (by first | assumption | omega) (by first | assumption | omega) (by first | assumption | omega) (by first | assumption | omega)) (cwV 0 hts gX6_readLens_X6_readDay rfl rfl rfl (by decide +kernel) ⟨Nat.le_of_ble_eq_true rfl, Nat.le_of_ble_eq_true rfl⟩) hK hP hD hS hA [0, 2] [1] rfl rfl (by decide) (by decide) (by decide) rfl rfl rfl hl.1 rfl (Nat.le_of_ble_eq_true rfl) dX6_readLens_19 ⟨Nat.le_of_ble_eq_true rfl, Nat.le_of_ble_eq_true rfl⟩ (fun r19 u H locs hp19 hP hD hS => ?_)
  obtain ⟨ps2_19, fr2_19, so2_19, vl2_19, ft2_19, wa2_19, hd2_19⟩ := u
  try dsimp only at hp19 hP hD
  obtain ⟨rfl, he19⟩ := hp19
  replace hP : xP G [iA G (ad 2) 85 D, oC ko 6 [.ref (ad 0), .ref (ad 1), .int (nI w), .int (nI h), .int (nI la), .ref (ad 2), .int (nI dw), .int (nI dh), .int (nI dl), .int tl, .int tc, .int hc, .int hd2_19, .ref (ad 3), .int (nI tp), .int (nI ps2_19), .int (nI fr2_19), .int (nI so2_19), .int vl2_19, .int (nI ft2_19), .int wa2_19, .ref (ad 4), .ref (ad 5), .ref (ad 6), .ref (ad 7), .ref (ad 8), .ref (ad 9), .ref (ad 10), .int tr], iA G (ad 3) 160 tb] H := hP
  replace hD : va_D (va_A (w_X6_readLens G ko ad w h la tp dw dh dl tl tc hc hd ps fr so vl ft wa tr tb D) ss.heap.size) [iA G (ad 2) 85 D, oC ko 6 [.ref (ad 0), .ref (ad 1), .int (nI w), .int (nI h), .int (nI la), .ref (ad 2), .int (nI dw), .int (nI dh), .int (nI dl), .int tl, .int tc, .int hc, .int hd2_19, .ref (ad 3), .int (nI tp), .int (nI ps2_19), .int (nI fr2_19), .int (nI so2_19), .int vl2_19, .int (nI ft2_19), .int wa2_19, .ref (ad 4), .ref (ad 5), .ref (ad 6), .ref (ad 7), .ref (ad 8), .ref (ad 9), .ref (ad 10), .int tr], iA G (ad 3) 160 tb] := hD
  generalize hdv : (mDay tb tp hd (ps, fr, so, vl, ft, wa)).1 = dv19
  have ho19 : mOk tp (ps2_19, fr2_19, so2_19, vl2_19, ft2_19, wa2_19) := (by have q := (mDay_ok (t := tb) (hd := hd) ho0).1; rw [← he19] at q; exact q)
  have hps19 := ho19.1
  have hft19 := ho19.2.1
  have hso19 := ho19.2.2.1
  have hfr19 := ho19.2.2.2
  replace hps19 : ps2_19 ≤ tp := hps19
  replace hft19 : ft2_19 ≤ 6 := hft19
  replace hso19 : so2_19 ≤ 3 := hso19
  replace hfr19 : fr2_19 ≤ ps2_19 := hfr19
  refine xn_iast hx hb hK hP hD hS 0 rfl (by omega) (by omega) dX6_readLens_22 (fun H locs hP hD hS => ?_)
  replace hP : xP G [iA G (ad 2) 85 (upd D (48 + (2 * nl)) dv19), oC ko 6 [.ref (ad 0), .ref (ad 1), .int (nI w), .int (nI h), .int (nI la), .ref (ad 2), .int (nI dw), .int (nI dh), .int (nI dl), .int tl, .int tc, .int hc, .int hd2_19, .ref (ad 3), .int (nI tp), .int (nI ps2_19), .int (nI fr2_19), .int (nI so2_19), .int vl2_19, .int (nI ft2_19), .int wa2_19, .ref (ad 4), .ref (ad 5), .ref (ad 6), .ref (ad 7), .ref (ad 8), .ref (ad 9), .ref (ad 10), .int tr], iA G (ad 3) 160 tb] H := hP
  replace hD : va_D (va_A (w_X6_readLens G ko ad w h la tp dw dh dl tl tc hc hd ps fr so vl ft wa tr tb D) ss.heap.size) [iA G (ad 2) 85 (upd D (48 + (2 * nl)) dv19), oC ko 6 [.ref (ad 0), .ref (ad 1), .int (nI w), .int (nI h), .int (nI la), .ref (ad 2), .int (nI dw), .int (nI dh), .int (nI dl), .int tl, .int tc, .int hc, .int hd2_19, .ref (ad 3), .int (nI tp), .int (nI ps2_19), .int (nI fr2_19), .int (nI so2_19), .int vl2_19, .int (nI ft2_19), .int wa2_19, .ref (ad 4), .ref (ad 5), .ref (ad 6), .ref (ad 7), .ref (ad 8), .ref (ad 9), .ref (ad 10), .int tr], iA G (ad 3) 160 tb] := hD
  refine lv_aload_n hx hb dX6_readLens_23 rfl (lv_at hl 1 rfl) ?_
  refine va_get (D := G.1) (ci := 6) (v := .ref (ad 2)) (C := RX6) (T := TX6) (N := 29) hx hb hts hin6 hown hK.1 hP 1 rfl rfl 5 (by decide) (hts (.fieldLink RX6 17 "BackLensesModel" "draft" "[I") (List.mem_of_getElem? (i := 1) rfl)) (fun _ h9 => h9) rfl dX6_readLens_24 ?_
  refine lv_iload_n hx hb dX6_readLens_27 rfl (lv_at hl 0 rfl) ?_
  refine lv_iconst (v := nI 1) hx hb dX6_readLens_28 (by decide) ?_
  refine xn_iadd hx hb dX6_readLens_29 ?_
  refine lv_iconst (v := nI 0) hx hb dX6_readLens_30 (by decide) ?_
  refine xn_iast hx hb hK hP hD hS 0 rfl (by omega) (by omega) dX6_readLens_31 (fun H locs hP hD hS => ?_)
  replace hP : xP G [iA G (ad 2) 85 (upd (upd D (48 + (2 * nl)) dv19) ((48 + (2 * nl)) + 1) (nI 0)), oC ko 6 [.ref (ad 0), .ref (ad 1), .int (nI w), .int (nI h), .int (nI la), .ref (ad 2), .int (nI dw), .int (nI dh), .int (nI dl), .int tl, .int tc, .int hc, .int hd2_19, .ref (ad 3), .int (nI tp), .int (nI ps2_19), .int (nI fr2_19), .int (nI so2_19), .int vl2_19, .int (nI ft2_19), .int wa2_19, .ref (ad 4), .ref (ad 5), .ref (ad 6), .ref (ad 7), .ref (ad 8), .ref (ad 9), .ref (ad 10), .int tr], iA G (ad 3) 160 tb] H := hP
  replace hD : va_D (va_A (w_X6_readLens G ko ad w h la tp dw dh dl tl tc hc hd ps fr so vl ft wa tr tb D) ss.heap.size) [iA G (ad 2) 85 (upd (upd D (48 + (2 * nl)) dv19) ((48 + (2 * nl)) + 1) (nI 0)), oC ko 6 [.ref (ad 0), .ref (ad 1), .int (nI w), .int (nI h), .int (nI la), .ref (ad 2), .int (nI dw), .int (nI dh), .int (nI dl), .int tl, .int tc, .int hc, .int hd2_19, .ref (ad 3), .int (nI tp), .int (nI ps2_19), .int (nI fr2_19), .int (nI so2_19), .int vl2_19, .int (nI ft2_19), .int wa2_19, .ref (ad 4), .ref (ad 5), .ref (ad 6), .ref (ad 7), .ref (ad 8), .ref (ad 9), .ref (ad 10), .int tr], iA G (ad 3) 160 tb] := hD
  have hL32 : ∀ k : Nat, ∀ (f : Nat) (ac : Int32) (h3 : Int32) (p3 : Nat) (f3 : Nat) (s3 : Nat) (v3 : Int32) (t3 : Nat) (a3 : Int32) (D3 : Nat → Int32) (ls : Array Slot) (H : Heap) (locs : List Loc), f = k → (mOk tp (p3, f3, s3, v3, t3, a3)) → (t3 = 0 → s3 = 2 → tp + 1 ≤ p3 + f) → (D3 = (upd (upd D (48 + 2 * nl) dv19) (48 + 2 * nl + 1) ac)) → (mBl tb tp (tp + 2) (nI 0) hc (mDay tb tp hd (ps, fr, so, vl, ft, wa)).2.2 = mBl tb tp f ac h3 (p3, f3, s3, v3, t3, a3)) → lv_has ls 3 [(0, .ref ko), (1, .int (nI (48 + (2 * nl))))] → xP G [iA G (ad 2) 85 D3, iA G (ad 3) 160 tb, oC ko 6 [.ref (ad 0), .ref (ad 1), .int (nI w), .int (nI h), .int (nI la), .ref (ad 2), .int (nI dw), .int (nI dh), .int (nI dl), .int tl, .int tc, .int h3, .int hd2_19, .ref (ad 3), .int (nI tp), .int (nI p3), .int (nI f3), .int (nI s3), .int v3, .int (nI t3), .int a3, .ref (ad 4), .ref (ad 5), .ref (ad 6), .ref (ad 7), .ref (ad 8), .ref (ad 9), .ref (ad 10), .int tr]] H → va_D (va_A (w_X6_readLens G ko ad w h la tp dw dh dl tl tc hc hd ps fr so vl ft wa tr tb D) ss.heap.size) [iA G (ad 2) 85 D3, iA G (ad 3) 160 tb, oC ko 6 [.ref (ad 0), .ref (ad 1), .int (nI w), .int (nI h), .int (nI la), .ref (ad 2), .int (nI dw), .int (nI dh), .int (nI dl), .int tl, .int tc, .int h3, .int hd2_19, .ref (ad 3), .int (nI tp), .int (nI p3), .int (nI f3), .int (nI s3), .int v3, .int (nI t3), .int a3, .ref (ad 4), .ref (ad 5), .ref (ad 6), .ref (ad 7), .ref (ad 8), .ref (ad 9), .ref (ad 10), .int tr]] → va_S (va_A (w_X6_readLens G ko ad w h la tp dw dh dl tl tc hc hd ps fr so vl ft wa tr tb D) ss.heap.size) ss.heap H locs → W pp l ee ({ frames := 3, cells := 0, slots := 0, locals := 69 } : Room) ss mm ([.ref ko] : List Value).toArray below mt cd H locs 0 0 (MQ below (Q_X6_readLens G ss.heap.size ko ad w h la tp dw dh dl tl tc hc hd ps fr so vl ft wa tr tb D) ([.ref ko] : List Value).toArray ss 0 0 (va_A (w_X6_readLens G ko ad w h la tp dw dh dl tl tc hc hd ps fr so vl ft wa tr tb D) ss.heap.size)) (F0 mm 32 ls []) := by
    intro k
    induction k using Nat.strongRecOn with
    | _ k ih32 =>
    intro f ac h3 p3 f3 s3 v3 t3 a3 D3 ls H locs hm32 ho3 hM hD3 hF hl hP hD hS
    have hp3 : p3 ≤ tp := ho3.1
    have ht3 : t3 ≤ 6 := ho3.2.1
    have hs3 : s3 ≤ 3 := ho3.2.2.1
    have hf3 : f3 ≤ p3 := ho3.2.2.2
    refine lv_aload_n hx hb dX6_readLens_32 rfl (lv_at hl 0 rfl) ?_
    refine va_get (D := G.1) (ci := 6) (v := .int (nI t3)) (C := RX6) (T := TX6) (N := 29) hx hb hts hin6 hown hK.1 hP 2 rfl rfl 19 (by decide) (hts (.fieldLink RX6 90 "BackLensesModel" "fault" "I") (List.mem_of_getElem? (i := 2) rfl)) (fun _ h9 => h9) rfl dX6_readLens_33 ?_
    refine xn_if_ne (tgt := 88) hx hb (by omega) dX6_readLens_36 rfl (fun b36 => ?_) (fun b36 => ?_)
    · skip
      have hE : mBl tb tp (tp + 2) (nI 0) hc (mDay tb tp hd (ps, fr, so, vl, ft, wa)).2.2 = (ac, h3, (p3, f3, s3, v3, t3, a3)) := hF.trans (mBl_end (fun q => b36 q.1))
      refine lv_aload_n hx hb dX6_readLens_88 rfl (lv_at hl 0 rfl) ?_
      refine va_get (D := G.1) (ci := 6) (v := .ref (ad 2)) (C := RX6) (T := TX6) (N := 29) hx hb hts hin6 hown hK.1 hP 2 rfl rfl 5 (by decide) (hts (.fieldLink RX6 17 "BackLensesModel" "draft" "[I") (List.mem_of_getElem? (i := 1) rfl)) (fun _ h9 => h9) rfl dX6_readLens_89 ?_
      refine lv_bipush (v := nI 47) hx hb dX6_readLens_92 (by decide) ?_
      refine lv_dup2_11 hx hb dX6_readLens_94 rfl rfl ?_
      refine xn_iald hx hb hK hP 0 rfl (by omega) (by omega) dX6_readLens_95 ?_
      refine xn_top (y := nI nl) (by rw [hD3, upd_ne (by omega), upd_ne (by omega)]; exact h47) ?_
      refine lv_iconst (v := nI 1) hx hb dX6_readLens_96 (by decide) ?_
      refine xn_iadd hx hb dX6_readLens_97 ?_
      refine xn_iast hx hb hK hP hD hS 0 rfl (by omega) (by omega) dX6_readLens_98 (fun H locs hP hD hS => ?_)
      replace hP : xP G [iA G (ad 2) 85 (upd D3 47 (nI (nl + 1))), iA G (ad 3) 160 tb, oC ko 6 [.ref (ad 0), .ref (ad 1), .int (nI w), .int (nI h), .int (nI la), .ref (ad 2), .int (nI dw), .int (nI dh), .int (nI dl), .int tl, .int tc, .int h3, .int hd2_19, .ref (ad 3), .int (nI tp), .int (nI p3), .int (nI f3), .int (nI s3), .int v3, .int (nI t3), .int a3, .ref (ad 4), .ref (ad 5), .ref (ad 6), .ref (ad 7), .ref (ad 8), .ref (ad 9), .ref (ad 10), .int tr]] H := hP
      replace hD : va_D (va_A (w_X6_readLens G ko ad w h la tp dw dh dl tl tc hc hd ps fr so vl ft wa tr tb D) ss.heap.size) [iA G (ad 2) 85 (upd D3 47 (nI (nl + 1))), iA G (ad 3) 160 tb, oC ko 6 [.ref (ad 0), .ref (ad 1), .int (nI w), .int (nI h), .int (nI la), .ref (ad 2), .int (nI dw), .int (nI dh), .int (nI dl), .int tl, .int tc, .int h3, .int hd2_19, .ref (ad 3), .int (nI tp), .int (nI p3), .int (nI f3), .int (nI s3), .int v3, .int (nI t3), .int a3, .ref (ad 4), .ref (ad 5), .ref (ad 6), .ref (ad 7), .ref (ad 8), .ref (ad 9), .ref (ad 10), .int tr]] := hD
      have hP := hP.sub (ws' := [oC ko 6 [.ref (ad 0), .ref (ad 1), .int (nI w), .int (nI h), .int (nI la), .ref (ad 2), .int (nI dw), .int (nI dh), .int (nI dl), .int tl, .int tc, .int h3, .int hd2_19, .ref (ad 3), .int (nI tp), .int (nI p3), .int (nI f3), .int (nI s3), .int v3, .int (nI t3), .int a3, .ref (ad 4), .ref (ad 5), .ref (ad 6), .ref (ad 7), .ref (ad 8), .ref (ad 9), .ref (ad 10), .int tr], iA G (ad 2) 85 (upd D3 47 (nI (nl + 1))), iA G (ad 3) 160 tb]) [2, 0, 1] rfl
      have hD := hD.sub (ws' := [oC ko 6 [.ref (ad 0), .ref (ad 1), .int (nI w), .int (nI h), .int (nI la), .ref (ad 2), .int (nI dw), .int (nI dh), .int (nI dl), .int tl, .int tc, .int h3, .int hd2_19, .ref (ad 3), .int (nI tp), .int (nI p3), .int (nI f3), .int (nI s3), .int v3, .int (nI t3), .int a3, .ref (ad 4), .ref (ad 5), .ref (ad 6), .ref (ad 7), .ref (ad 8), .ref (ad 9), .ref (ad 10), .int tr], iA G (ad 2) 85 (upd D3 47 (nI (nl + 1))), iA G (ad 3) 160 tb]) [2, 0, 1] (by decide) rfl
      refine W.vret hx hb hr (fun t ht hW => ⟨⟨(p3, f3, s3, v3, t3, a3, h3, hd2_19, upd D3 47 (nI (nl + 1))), rfl, ?_, by rw [ht]; exact hP, hD⟩, hS.F ht⟩) hS.2.2 dX6_readLens_99
      try dsimp only
      exact (show ((p3, f3, s3, v3, t3, a3), h3, hd2_19, upd D3 47 (nI (nl + 1))) = mLens tb tp hc hd D (ps, fr, so, vl, ft, wa) from by unfold mLens; rw [hE, hdv, h47, vI_nI (by omega), ← he19, hD3])
    · skip
      refine lv_aload_n hx hb dX6_readLens_39 rfl (lv_at hl 0 rfl) ?_
      refine va_get (D := G.1) (ci := 6) (v := .int (nI s3)) (C := RX6) (T := TX6) (N := 29) hx hb hts hin6 hown hK.1 hP 2 rfl rfl 17 (by decide) (hts (.fieldLink RX6 110 "BackLensesModel" "sort" "I") (List.mem_of_getElem? (i := 3) rfl)) (fun _ h9 => h9) rfl dX6_readLens_40 ?_
      refine lv_iconst (v := nI 2) hx hb dX6_readLens_43 (by decide) ?_
      refine xn_icmp_ne (tgt := 88) hx hb (by omega) (by omega) dX6_readLens_44 rfl (fun b44 => ?_) (fun b44 => ?_)
      · skip
        have hE : mBl tb tp (tp + 2) (nI 0) hc (mDay tb tp hd (ps, fr, so, vl, ft, wa)).2.2 = (ac, h3, (p3, f3, s3, v3, t3, a3)) := hF.trans (mBl_end (fun q => b44 q.2))
        refine lv_aload_n hx hb dX6_readLens_88 rfl (lv_at hl 0 rfl) ?_
        refine va_get (D := G.1) (ci := 6) (v := .ref (ad 2)) (C := RX6) (T := TX6) (N := 29) hx hb hts hin6 hown hK.1 hP 2 rfl rfl 5 (by decide) (hts (.fieldLink RX6 17 "BackLensesModel" "draft" "[I") (List.mem_of_getElem? (i := 1) rfl)) (fun _ h9 => h9) rfl dX6_readLens_89 ?_
        refine lv_bipush (v := nI 47) hx hb dX6_readLens_92 (by decide) ?_
        refine lv_dup2_11 hx hb dX6_readLens_94 rfl rfl ?_
        refine xn_iald hx hb hK hP 0 rfl (by omega) (by omega) dX6_readLens_95 ?_
        refine xn_top (y := nI nl) (by rw [hD3, upd_ne (by omega), upd_ne (by omega)]; exact h47) ?_
        refine lv_iconst (v := nI 1) hx hb dX6_readLens_96 (by decide) ?_
        refine xn_iadd hx hb dX6_readLens_97 ?_
        refine xn_iast hx hb hK hP hD hS 0 rfl (by omega) (by omega) dX6_readLens_98 (fun H locs hP hD hS => ?_)
        replace hP : xP G [iA G (ad 2) 85 (upd D3 47 (nI (nl + 1))), iA G (ad 3) 160 tb, oC ko 6 [.ref (ad 0), .ref (ad 1), .int (nI w), .int (nI h), .int (nI la), .ref (ad 2), .int (nI dw), .int (nI dh), .int (nI dl), .int tl, .int tc, .int h3, .int hd2_19, .ref (ad 3), .int (nI tp), .int (nI p3), .int (nI f3), .int (nI s3), .int v3, .int (nI t3), .int a3, .ref (ad 4), .ref (ad 5), .ref (ad 6), .ref (ad 7), .ref (ad 8), .ref (ad 9), .ref (ad 10), .int tr]] H := hP
        replace hD : va_D (va_A (w_X6_readLens G ko ad w h la tp dw dh dl tl tc hc hd ps fr so vl ft wa tr tb D) ss.heap.size) [iA G (ad 2) 85 (upd D3 47 (nI (nl + 1))), iA G (ad 3) 160 tb, oC ko 6 [.ref (ad 0), .ref (ad 1), .int (nI w), .int (nI h), .int (nI la), .ref (ad 2), .int (nI dw), .int (nI dh), .int (nI dl), .int tl, .int tc, .int h3, .int hd2_19, .ref (ad 3), .int (nI tp), .int (nI p3), .int (nI f3), .int (nI s3), .int v3, .int (nI t3), .int a3, .ref (ad 4), .ref (ad 5), .ref (ad 6), .ref (ad 7), .ref (ad 8), .ref (ad 9), .ref (ad 10), .int tr]] := hD
        have hP := hP.sub (ws' := [oC ko 6 [.ref (ad 0), .ref (ad 1), .int (nI w), .int (nI h), .int (nI la), .ref (ad 2), .int (nI dw), .int (nI dh), .int (nI dl), .int tl, .int tc, .int h3, .int hd2_19, .ref (ad 3), .int (nI tp), .int (nI p3), .int (nI f3), .int (nI s3), .int v3, .int (nI t3), .int a3, .ref (ad 4), .ref (ad 5), .ref (ad 6), .ref (ad 7), .ref (ad 8), .ref (ad 9), .ref (ad 10), .int tr], iA G (ad 2) 85 (upd D3 47 (nI (nl + 1))), iA G (ad 3) 160 tb]) [2, 0, 1] rfl
        have hD := hD.sub (ws' := [oC ko 6 [.ref (ad 0), .ref (ad 1), .int (nI w), .int (nI h), .int (nI la), .ref (ad 2), .int (nI dw), .int (nI dh), .int (nI dl), .int tl, .int tc, .int h3, .int hd2_19, .ref (ad 3), .int (nI tp), .int (nI p3), .int (nI f3), .int (nI s3), .int v3, .int (nI t3), .int a3, .ref (ad 4), .ref (ad 5), .ref (ad 6), .ref (ad 7), .ref (ad 8), .ref (ad 9), .ref (ad 10), .int tr], iA G (ad 2) 85 (upd D3 47 (nI (nl + 1))), iA G (ad 3) 160 tb]) [2, 0, 1] (by decide) rfl
        refine W.vret hx hb hr (fun t ht hW => ⟨⟨(p3, f3, s3, v3, t3, a3, h3, hd2_19, upd D3 47 (nI (nl + 1))), rfl, ?_, by rw [ht]; exact hP, hD⟩, hS.F ht⟩) hS.2.2 dX6_readLens_99
        try dsimp only
        exact (show ((p3, f3, s3, v3, t3, a3), h3, hd2_19, upd D3 47 (nI (nl + 1))) = mLens tb tp hc hd D (ps, fr, so, vl, ft, wa) from by unfold mLens; rw [hE, hdv, h47, vI_nI (by omega), ← he19, hD3])
      · skip
        refine lv_aload_n hx hb dX6_readLens_47 rfl (lv_at hl 0 rfl) ?_
        refine lv_aload_n hx hb dX6_readLens_48 rfl (lv_at hl 0 rfl) ?_
        refine va_get (D := G.1) (ci := 6) (v := .ref (ad 2)) (C := RX6) (T := TX6) (N := 29) hx hb hts hin6 hown hK.1 hP 2 rfl rfl 5 (by decide) (hts (.fieldLink RX6 17 "BackLensesModel" "draft" "[I") (List.mem_of_getElem? (i := 1) rfl)) (fun _ h9 => h9) rfl dX6_readLens_49 ?_
        refine lv_iload_n hx hb dX6_readLens_52 rfl (lv_at hl 1 rfl) ?_
        refine lv_iconst (v := nI 1) hx hb dX6_readLens_53 (by decide) ?_
        refine xn_iadd hx hb dX6_readLens_54 ?_
        refine xn_iald hx hb hK hP 0 rfl (by omega) (by omega) dX6_readLens_55 ?_
        refine xn_top (y := ac) (by rw [hD3]; exact upd_eq) ?_
        refine xw_i (As := [.int ac]) (rest := []) (wr := [iA G (ad 2) 85 D3]) ⟨hx, hb, hml, hown, hts⟩ (c_X6_readCellBut l G H.size ko ad w h la tp dw dh dl tl tc h3 hd2_19 p3 f3 s3 v3 t3 a3 tr tb ac (by first | assumption | omega) (by first | assumption | omega) (by first | assumption | omega) (by first | assumption | omega) (by first | assumption | omega)) (cwV 1 hts gX6_readLens_X6_readCellBut rfl rfl rfl (by decide +kernel) ⟨Nat.le_of_ble_eq_true rfl, Nat.le_of_ble_eq_true rfl⟩) hK hP hD hS hA [2, 1] [0] rfl rfl (by decide) (by decide) (by decide) rfl rfl rfl hl.1 rfl (Nat.le_of_ble_eq_true rfl) dX6_readLens_56 ⟨Nat.le_of_ble_eq_true rfl, Nat.le_of_ble_eq_true rfl⟩ (fun r56 u H locs hp56 hP hD hS => ?_)
        obtain ⟨ps2_56, fr2_56, so2_56, vl2_56, ft2_56, wa2_56, hc2_56⟩ := u
        try dsimp only at hp56 hP hD
        obtain ⟨rfl, he56⟩ := hp56
        replace hP : xP G [iA G (ad 2) 85 D3, oC ko 6 [.ref (ad 0), .ref (ad 1), .int (nI w), .int (nI h), .int (nI la), .ref (ad 2), .int (nI dw), .int (nI dh), .int (nI dl), .int tl, .int tc, .int hc2_56, .int hd2_19, .ref (ad 3), .int (nI tp), .int (nI ps2_56), .int (nI fr2_56), .int (nI so2_56), .int vl2_56, .int (nI ft2_56), .int wa2_56, .ref (ad 4), .ref (ad 5), .ref (ad 6), .ref (ad 7), .ref (ad 8), .ref (ad 9), .ref (ad 10), .int tr], iA G (ad 3) 160 tb] H := hP
        replace hD : va_D (va_A (w_X6_readLens G ko ad w h la tp dw dh dl tl tc hc hd ps fr so vl ft wa tr tb D) ss.heap.size) [iA G (ad 2) 85 D3, oC ko 6 [.ref (ad 0), .ref (ad 1), .int (nI w), .int (nI h), .int (nI la), .ref (ad 2), .int (nI dw), .int (nI dh), .int (nI dl), .int tl, .int tc, .int hc2_56, .int hd2_19, .ref (ad 3), .int (nI tp), .int (nI ps2_56), .int (nI fr2_56), .int (nI so2_56), .int vl2_56, .int (nI ft2_56), .int wa2_56, .ref (ad 4), .ref (ad 5), .ref (ad 6), .ref (ad 7), .ref (ad 8), .ref (ad 9), .ref (ad 10), .int tr], iA G (ad 3) 160 tb] := hD
        generalize hcv : (mCel tb tp ac h3 (p3, f3, s3, v3, t3, a3)).1 = cv56
        have ho56a := mCel_ok (t := tb) (sm := ac) (hc := h3) ho3
        have ho56 : mOk tp (ps2_56, fr2_56, so2_56, vl2_56, ft2_56, wa2_56) := (by have q := ho56a.1; rw [← he56] at q; exact q)
        have hps56 : ps2_56 ≤ tp := ho56.1
        have hft56 : ft2_56 ≤ 6 := ho56.2.1
        have hso56 : so2_56 ≤ 3 := ho56.2.2.1
        have had56 : ft2_56 = 0 → ¬ so2_56 = 0 → p3 + 1 ≤ ps2_56 := (by have q := ho56a.2.2; rw [← he56] at q; exact q)
        refine lv_istore_n (lv' := [(2, .int cv56), (0, .ref ko), (1, .int (nI (48 + (2 * nl))))]) hx hb dX6_readLens_59 rfl hl (by decide) rfl (fun ls hl => ?_)
        refine lv_aload_n hx hb dX6_readLens_60 rfl (lv_at hl 1 rfl) ?_
        refine va_get (D := G.1) (ci := 6) (v := .ref (ad 2)) (C := RX6) (T := TX6) (N := 29) hx hb hts hin6 hown hK.1 hP 1 rfl rfl 5 (by decide) (hts (.fieldLink RX6 17 "BackLensesModel" "draft" "[I") (List.mem_of_getElem? (i := 1) rfl)) (fun _ h9 => h9) rfl dX6_readLens_61 ?_
        refine lv_iload_n hx hb dX6_readLens_64 rfl (lv_at hl 2 rfl) ?_
        refine lv_iconst (v := nI 1) hx hb dX6_readLens_65 (by decide) ?_
        refine xn_iadd hx hb dX6_readLens_66 ?_
        refine lv_dup2_11 hx hb dX6_readLens_67 rfl rfl ?_
        refine xn_iald hx hb hK hP 0 rfl (by omega) (by omega) dX6_readLens_68 ?_
        refine xn_top (y := ac) (by rw [hD3]; exact upd_eq) ?_
        refine lv_aload_n hx hb dX6_readLens_69 rfl (lv_at hl 1 rfl) ?_
        refine va_get (D := G.1) (ci := 6) (v := .int (nI ft2_56)) (C := RX6) (T := TX6) (N := 29) hx hb hts hin6 hown hK.1 hP 1 rfl rfl 19 (by decide) (hts (.fieldLink RX6 90 "BackLensesModel" "fault" "I") (List.mem_of_getElem? (i := 2) rfl)) (fun _ h9 => h9) rfl dX6_readLens_70 ?_
        refine xn_if_ne (tgt := 82) hx hb (by omega) dX6_readLens_73 rfl (fun b73 => ?_) (fun b73 => ?_)
        · skip
          refine lv_iconst (v := nI 0) hx hb dX6_readLens_82 (by decide) ?_
          refine lv_ior hx hb dX6_readLens_83 ?_
          refine xn_iast hx hb hK hP hD hS 0 rfl (by omega) (by omega) dX6_readLens_84 (fun H locs hP hD hS => ?_)
          replace hP : xP G [iA G (ad 2) 85 (upd D3 ((48 + (2 * nl)) + 1) (ac ||| (nI 0))), oC ko 6 [.ref (ad 0), .ref (ad 1), .int (nI w), .int (nI h), .int (nI la), .ref (ad 2), .int (nI dw), .int (nI dh), .int (nI dl), .int tl, .int tc, .int hc2_56, .int hd2_19, .ref (ad 3), .int (nI tp), .int (nI ps2_56), .int (nI fr2_56), .int (nI so2_56), .int vl2_56, .int (nI ft2_56), .int wa2_56, .ref (ad 4), .ref (ad 5), .ref (ad 6), .ref (ad 7), .ref (ad 8), .ref (ad 9), .ref (ad 10), .int tr], iA G (ad 3) 160 tb] H := hP
          replace hD : va_D (va_A (w_X6_readLens G ko ad w h la tp dw dh dl tl tc hc hd ps fr so vl ft wa tr tb D) ss.heap.size) [iA G (ad 2) 85 (upd D3 ((48 + (2 * nl)) + 1) (ac ||| (nI 0))), oC ko 6 [.ref (ad 0), .ref (ad 1), .int (nI w), .int (nI h), .int (nI la), .ref (ad 2), .int (nI dw), .int (nI dh), .int (nI dl), .int tl, .int tc, .int hc2_56, .int hd2_19, .ref (ad 3), .int (nI tp), .int (nI ps2_56), .int (nI fr2_56), .int (nI so2_56), .int vl2_56, .int (nI ft2_56), .int wa2_56, .ref (ad 4), .ref (ad 5), .ref (ad 6), .ref (ad 7), .ref (ad 8), .ref (ad 9), .ref (ad 10), .int tr], iA G (ad 3) 160 tb] := hD
          refine lv_goto (tgt := 32) hx hb dX6_readLens_85 rfl ?_
          have hl := lv_sub hl (l' := [(0, .ref ko), (1, .int (nI (48 + (2 * nl))))]) [1, 2] rfl
          have hP := hP.sub (ws' := [iA G (ad 2) 85 (upd D3 ((48 + (2 * nl)) + 1) (ac ||| (nI 0))), iA G (ad 3) 160 tb, oC ko 6 [.ref (ad 0), .ref (ad 1), .int (nI w), .int (nI h), .int (nI la), .ref (ad 2), .int (nI dw), .int (nI dh), .int (nI dl), .int tl, .int tc, .int hc2_56, .int hd2_19, .ref (ad 3), .int (nI tp), .int (nI ps2_56), .int (nI fr2_56), .int (nI so2_56), .int vl2_56, .int (nI ft2_56), .int wa2_56, .ref (ad 4), .ref (ad 5), .ref (ad 6), .ref (ad 7), .ref (ad 8), .ref (ad 9), .ref (ad 10), .int tr]]) [0, 2, 1] rfl
          have hD := hD.sub (ws' := [iA G (ad 2) 85 (upd D3 ((48 + (2 * nl)) + 1) (ac ||| (nI 0))), iA G (ad 3) 160 tb, oC ko 6 [.ref (ad 0), .ref (ad 1), .int (nI w), .int (nI h), .int (nI la), .ref (ad 2), .int (nI dw), .int (nI dh), .int (nI dl), .int tl, .int tc, .int hc2_56, .int hd2_19, .ref (ad 3), .int (nI tp), .int (nI ps2_56), .int (nI fr2_56), .int (nI so2_56), .int vl2_56, .int (nI ft2_56), .int wa2_56, .ref (ad 4), .ref (ad 5), .ref (ad 6), .ref (ad 7), .ref (ad 8), .ref (ad 9), .ref (ad 10), .int tr]]) [0, 2, 1] (by decide) rfl
          exact ih32 (f - 1) (by have := hM b36 b44; omega) (f - 1) (ac ||| (nI 0)) hc2_56 ps2_56 fr2_56 so2_56 vl2_56 ft2_56 wa2_56 (upd D3 ((48 + (2 * nl)) + 1) (ac ||| (nI 0))) ls H locs rfl (by exact ho56) (by have := hM b36 b44; have := had56; omega) (by first | (rw [hD3]; exact upd_upd)) (by exact hF.trans ((mBl_go (by have := hM b36 b44; omega) ⟨b36, b44⟩ he56).trans (by first | rw [hcv, if_pos b73] | rw [hcv, if_neg b73]))) hl hP hD hS
        · skip
          refine lv_iconst (v := nI 1) hx hb dX6_readLens_76 (by decide) ?_
          refine lv_iload_n hx hb dX6_readLens_77 rfl (lv_at hl 0 rfl) ?_
          refine lv_ishl hx hb dX6_readLens_78 ?_
          refine lv_goto (tgt := 83) hx hb dX6_readLens_79 rfl ?_
          refine lv_ior hx hb dX6_readLens_83 ?_
          refine xn_iast hx hb hK hP hD hS 0 rfl (by omega) (by omega) dX6_readLens_84 (fun H locs hP hD hS => ?_)
          replace hP : xP G [iA G (ad 2) 85 (upd D3 ((48 + (2 * nl)) + 1) (ac ||| ((nI 1) <<< (cv56 &&& 31)))), oC ko 6 [.ref (ad 0), .ref (ad 1), .int (nI w), .int (nI h), .int (nI la), .ref (ad 2), .int (nI dw), .int (nI dh), .int (nI dl), .int tl, .int tc, .int hc2_56, .int hd2_19, .ref (ad 3), .int (nI tp), .int (nI ps2_56), .int (nI fr2_56), .int (nI so2_56), .int vl2_56, .int (nI ft2_56), .int wa2_56, .ref (ad 4), .ref (ad 5), .ref (ad 6), .ref (ad 7), .ref (ad 8), .ref (ad 9), .ref (ad 10), .int tr], iA G (ad 3) 160 tb] H := hP
          replace hD : va_D (va_A (w_X6_readLens G ko ad w h la tp dw dh dl tl tc hc hd ps fr so vl ft wa tr tb D) ss.heap.size) [iA G (ad 2) 85 (upd D3 ((48 + (2 * nl)) + 1) (ac ||| ((nI 1) <<< (cv56 &&& 31)))), oC ko 6 [.ref (ad 0), .ref (ad 1), .int (nI w), .int (nI h), .int (nI la), .ref (ad 2), .int (nI dw), .int (nI dh), .int (nI dl), .int tl, .int tc, .int hc2_56, .int hd2_19, .ref (ad 3), .int (nI tp), .int (nI ps2_56), .int (nI fr2_56), .int (nI so2_56), .int vl2_56, .int (nI ft2_56), .int wa2_56, .ref (ad 4), .ref (ad 5), .ref (ad 6), .ref (ad 7), .ref (ad 8), .ref (ad 9), .ref (ad 10), .int tr], iA G (ad 3) 160 tb] := hD
          refine lv_goto (tgt := 32) hx hb dX6_readLens_85 rfl ?_
          have hl := lv_sub hl (l' := [(0, .ref ko), (1, .int (nI (48 + (2 * nl))))]) [1, 2] rfl
          have hP := hP.sub (ws' := [iA G (ad 2) 85 (upd D3 ((48 + (2 * nl)) + 1) (ac ||| ((nI 1) <<< (cv56 &&& 31)))), iA G (ad 3) 160 tb, oC ko 6 [.ref (ad 0), .ref (ad 1), .int (nI w), .int (nI h), .int (nI la), .ref (ad 2), .int (nI dw), .int (nI dh), .int (nI dl), .int tl, .int tc, .int hc2_56, .int hd2_19, .ref (ad 3), .int (nI tp), .int (nI ps2_56), .int (nI fr2_56), .int (nI so2_56), .int vl2_56, .int (nI ft2_56), .int wa2_56, .ref (ad 4), .ref (ad 5), .ref (ad 6), .ref (ad 7), .ref (ad 8), .ref (ad 9), .ref (ad 10), .int tr]]) [0, 2, 1] rfl
          have hD := hD.sub (ws' := [iA G (ad 2) 85 (upd D3 ((48 + (2 * nl)) + 1) (ac ||| ((nI 1) <<< (cv56 &&& 31)))), iA G (ad 3) 160 tb, oC ko 6 [.ref (ad 0), .ref (ad 1), .int (nI w), .int (nI h), .int (nI la), .ref (ad 2), .int (nI dw), .int (nI dh), .int (nI dl), .int tl, .int tc, .int hc2_56, .int hd2_19, .ref (ad 3), .int (nI tp), .int (nI ps2_56), .int (nI fr2_56), .int (nI so2_56), .int vl2_56, .int (nI ft2_56), .int wa2_56, .ref (ad 4), .ref (ad 5), .ref (ad 6), .ref (ad 7), .ref (ad 8), .ref (ad 9), .ref (ad 10), .int tr]]) [0, 2, 1] (by decide) rfl
          exact ih32 (f - 1) (by have := hM b36 b44; omega) (f - 1) (ac ||| ((nI 1) <<< (cv56 &&& 31))) hc2_56 ps2_56 fr2_56 so2_56 vl2_56 ft2_56 wa2_56 (upd D3 ((48 + (2 * nl)) + 1) (ac ||| ((nI 1) <<< (cv56 &&& 31)))) ls H locs rfl (by exact ho56) (by have := hM b36 b44; have := had56; omega) (by first | (rw [hD3]; exact upd_upd)) (by exact hF.trans ((mBl_go (by have := hM b36 b44; omega) ⟨b36, b44⟩ he56).trans (by first | rw [hcv, if_pos b73] | rw [hcv, if_neg b73]))) hl hP hD hS
  have hl := lv_sub hl (l' := [(0, .ref ko), (1, .int (nI (48 + (2 * nl))))]) [1, 0] rfl
  have hP := hP.sub (ws' := [iA G (ad 2) 85 (upd (upd D (48 + (2 * nl)) dv19) ((48 + (2 * nl)) + 1) (nI 0)), iA G (ad 3) 160 tb, oC ko 6 [.ref (ad 0), .ref (ad 1), .int (nI w), .int (nI h), .int (nI la), .ref (ad 2), .int (nI dw), .int (nI dh), .int (nI dl), .int tl, .int tc, .int hc, .int hd2_19, .ref (ad 3), .int (nI tp), .int (nI ps2_19), .int (nI fr2_19), .int (nI so2_19), .int vl2_19, .int (nI ft2_19), .int wa2_19, .ref (ad 4), .ref (ad 5), .ref (ad 6), .ref (ad 7), .ref (ad 8), .ref (ad 9), .ref (ad 10), .int tr]]) [0, 2, 1] rfl
  have hD := hD.sub (ws' := [iA G (ad 2) 85 (upd (upd D (48 + (2 * nl)) dv19) ((48 + (2 * nl)) + 1) (nI 0)), iA G (ad 3) 160 tb, oC ko 6 [.ref (ad 0), .ref (ad 1), .int (nI w), .int (nI h), .int (nI la), .ref (ad 2), .int (nI dw), .int (nI dh), .int (nI dl), .int tl, .int tc, .int hc, .int hd2_19, .ref (ad 3), .int (nI tp), .int (nI ps2_19), .int (nI fr2_19), .int (nI so2_19), .int vl2_19, .int (nI ft2_19), .int wa2_19, .ref (ad 4), .ref (ad 5), .ref (ad 6), .ref (ad 7), .ref (ad 8), .ref (ad 9), .ref (ad 10), .int tr]]) [0, 2, 1] (by decide) rfl
  exact hL32 (tp + 2) (tp + 2) (nI 0) hc ps2_19 fr2_19 so2_19 vl2_19 ft2_19 wa2_19 (upd (upd D (48 + (2 * nl)) dv19) ((48 + (2 * nl)) + 1) (nI 0)) ls H locs rfl (by exact ho19) (by omega) (by rfl) (by rw [← he19]) hl hP hD hS

abbrev w_X5_shownBy (G : XG) (kx kim kit kre ksh kwa kta : Nat) (tf rf : Int32) (kb ka kc kcn kl kn : Nat) (w h la : Nat) (af : Nat → Int32) (nc : Nat) (fc : Nat → Int32) (kv km kg : Nat) (vw vh : Nat) (sl : Int32) (mk sg : Nat → Int32) (kln : Nat) (nl : Nat) (fl : Nat → Int32) : va_W := [oC kx 5 [.ref kb, .ref kim, .ref kit, .ref kv, .ref kre, .int tf, .ref ksh, .int rf, .ref kwa, .ref kta], oC kb 0 [.int (nI w), .int (nI h), .int (nI la), .ref ka, .ref kc, .ref kl, .ref kn], iA G ka 16 af, oC kc 2 [.ref kcn, .int (nI 10), .int (nI nc)], iA G kcn (3 * 10) fc, oC kv 4 [.ref km, .ref kg, .int (nI vw), .int (nI vh), .int sl], iA G km 176 mk, iA G kg 160 sg, oC kl 2 [.ref kln, .int (nI 6), .int (nI nl)], iA G kln (3 * 6) fl]
abbrev Q_X5_shownBy (G : XG) (sz : Nat) (kx kim kit kre ksh kwa kta : Nat) (tf rf : Int32) (kb ka kc kcn kl kn : Nat) (w h la : Nat) (af : Nat → Int32) (nc : Nat) (fc : Nat → Int32) (kv km kg : Nat) (vw vh : Nat) (sl : Int32) (mk sg : Nat → Int32) (kln : Nat) (nl : Nat) (fl : Nat → Int32) (l1 x : Nat) : Array Value → State → Outcome → State → Prop := (va_Qi (fun (r : Int32) (u : (Nat → Int32) × (Nat → Int32) × Nat × Nat × Int32) => r = shS w h af nc fc fl l1 x ∧ VOK w h la af nc fc u.1 u.2.1 u.2.2.1 u.2.2.2.1 u.2.2.2.2) (xWb G sz (w_X5_shownBy G kx kim kit kre ksh kwa kta tf rf kb ka kc kcn kl kn w h la af nc fc kv km kg vw vh sl mk sg kln nl fl) (fun u : (Nat → Int32) × (Nat → Int32) × Nat × Nat × Int32 => [oC kx 5 [.ref kb, .ref kim, .ref kit, .ref kv, .ref kre, .int tf, .ref ksh, .int rf, .ref kwa, .ref kta], oC kb 0 [.int (nI w), .int (nI h), .int (nI la), .ref ka, .ref kc, .ref kl, .ref kn], iA G ka 16 af, oC kc 2 [.ref kcn, .int (nI 10), .int (nI nc)], iA G kcn (3 * 10) fc, oC kv 4 [.ref km, .ref kg, .int (nI u.2.2.1), .int (nI u.2.2.2.1), .int u.2.2.2.2], iA G km 176 u.1, iA G kg 160 u.2.1, oC kl 2 [.ref kln, .int (nI 6), .int (nI nl)], iA G kln (3 * 6) fl])) (va_A (w_X5_shownBy G kx kim kit kre ksh kwa kta tf rf kb ka kc kcn kl kn w h la af nc fc kv km kg vw vh sl mk sg kln nl fl) sz))
set_option maxHeartbeats 4000000 in
set_option maxRecDepth 100000 in
theorem c_X5_shownBy (l : Launch) (G : XG) (sz : Nat) (kx kim kit kre ksh kwa kta : Nat) (tf rf : Int32) (kb ka kc kcn kl kn : Nat) (w h la : Nat) (af : Nat → Int32) (nc : Nat) (fc : Nat → Int32) (kv km kg : Nat) (vw vh : Nat) (sl : Int32) (mk sg : Nat → Int32) (kln : Nat) (nl : Nat) (fl : Nat → Int32) (l1 x : Nat) (hw : 1 ≤ w) (hwb : w ≤ 16) (hhb : h ≤ 16) (hwh : w * h ≤ 16) (hla : la ≤ 9) (hnc : nc ≤ 10) (hcell : ∀ i, i < nc → inR (fc (3 * i + 1)) 16) (hvok : VOK w h la af nc fc mk sg vw vh sl) (hnl : nl ≤ 6) (hlens : ∀ i, i < nl → inR (fl (3 * i)) (la + 1)) (hl1 : l1 < nl) (hxx : x < w * h) : Met l yX5_shownBy wsX5_shownBy ({ frames := 4, cells := 0, slots := 0, locals := 96 } : Room) (va_Pc [.ref kx, .int (nI l1), .int (nI x)] (xWp G sz (w_X5_shownBy G kx kim kit kre ksh kwa kta tf rf kb ka kc kcn kl kn w h la af nc fc kv km kg vw vh sl mk sg kln nl fl))) (Q_X5_shownBy G sz kx kim kit kre ksh kwa kta tf rf kb ka kc kcn kl kn w h la af nc fc kv km kg vw vh sl mk sg kln nl fl l1 x) 0 0 (va_A (w_X5_shownBy G kx kim kit kre ksh kwa kta tf rf kb ka kc kcn kl kn w h la af nc fc kv km kg vw vh sl mk sg kln nl fl) sz) := by
  refine Met.ofW (cc := cX5_shownBy) (maxL := 3) (ret := (some .int)) (by decide) rfl ?_
  intro pp ee ss mm aa below mt cd s₁ BB hml hv
  obtain ⟨rfl, hsz, hP, hK, hD0⟩ := hv
  have hx := BB.exec
  have hb := BB.bytes
  have hr := BB.returns
  have hts := atoms_spec (ws := wsX5_shownBy) BB.pre
  have hown : ss.vm.findClass RX5 = some mm.cls := findClass_of_methodNamed BB.named
  have hlocks := BB.notSynchronized
  subst hsz
  have hD := hD0.self (sz := ss.heap.size)
  have hA : ∀ q : Nat, ss.heap.size ≤ q → va_A (w_X5_shownBy G kx kim kit kre ksh kwa kta tf rf kb ka kc kcn kl kn w h la af nc fc kv km kg vw vh sl mk sg kln nl fl) ss.heap.size q := fun q h => Or.inr h
  have hS : va_S (va_A (w_X5_shownBy G kx kim kit kre ksh kwa kta tf rf kb ka kc kcn kl kn w h la af nc fc kv km kg vw vh sl mk sg kln nl fl) ss.heap.size) ss.heap ss.heap [] := va_S.rf
  replace hD : va_D (va_A (w_X5_shownBy G kx kim kit kre ksh kwa kta tf rf kb ka kc kcn kl kn w h la af nc fc kv km kg vw vh sl mk sg kln nl fl) ss.heap.size) [oC kx 5 [.ref kb, .ref kim, .ref kit, .ref kv, .ref kre, .int tf, .ref ksh, .int rf, .ref kwa, .ref kta], oC kb 0 [.int (nI w), .int (nI h), .int (nI la), .ref ka, .ref kc, .ref kl, .ref kn], iA G ka 16 af, oC kc 2 [.ref kcn, .int (nI 10), .int (nI nc)], iA G kcn (3 * 10) fc, oC kv 4 [.ref km, .ref kg, .int (nI vw), .int (nI vh), .int sl], iA G km 176 mk, iA G kg 160 sg, oC kl 2 [.ref kln, .int (nI 6), .int (nI nl)], iA G kln (3 * 6) fl] := hD
  replace hP : xP G [oC kx 5 [.ref kb, .ref kim, .ref kit, .ref kv, .ref kre, .int tf, .ref ksh, .int rf, .ref kwa, .ref kta], oC kb 0 [.int (nI w), .int (nI h), .int (nI la), .ref ka, .ref kc, .ref kl, .ref kn], iA G ka 16 af, oC kc 2 [.ref kcn, .int (nI 10), .int (nI nc)], iA G kcn (3 * 10) fc, oC kv 4 [.ref km, .ref kg, .int (nI vw), .int (nI vh), .int sl], iA G km 176 mk, iA G kg 160 sg, oC kl 2 [.ref kln, .int (nI 6), .int (nI nl)], iA G kln (3 * 6) fl] ss.heap := hP
  have hin0 : ∀ w ∈ u_ws RX0 TX0 7, w ∈ wsX5_shownBy := fun w h => List.mem_cons_of_mem _ (List.mem_append_left _ (List.mem_append_left _ (List.mem_append_right _ h)))
  have hin2 : ∀ w ∈ u_ws RX2 TX2 3, w ∈ wsX5_shownBy := fun w h => List.mem_cons_of_mem _ (List.mem_append_right _ h)
  have hin4 : ∀ w ∈ u_ws RX4 TX4 5, w ∈ wsX5_shownBy := fun w h => List.mem_cons_of_mem _ (List.mem_append_left _ (List.mem_append_right _ h))
  have hin5 : ∀ w ∈ u_ws RX5 TX5 10, w ∈ wsX5_shownBy := fun w h => List.mem_cons_of_mem _ (List.mem_append_left _ (List.mem_append_left _ (List.mem_append_left _ (List.mem_append_right _ h))))
  have hl := lv_entry ([.ref kx, .int (nI l1), .int (nI x)]) (n := 3) (Nat.le_of_ble_eq_true rfl)
  rw [lg_entry_eq]
  generalize (lg_sl ([.ref kx, .int (nI l1), .int (nI x)]) ++ List.replicate (3 - (lg_sl ([.ref kx, .int (nI l1), .int (nI x)])).length) Slot.unset).toArray = ls at hl ⊢
  replace hl : lv_has ls 3 [(0, .ref kx), (1, .int (nI l1)), (2, .int (nI x))] := hl
  refine lv_aload_n hx hb dX5_shownBy_0 rfl (lv_at hl 0 rfl) ?_
  refine xw_r (As := []) (rest := []) (wr := [oC kl 2 [.ref kln, .int (nI 6), .int (nI nl)], iA G kln (3 * 6) fl]) ⟨hx, hb, hml, hown, hts⟩ (c_X5_freshViews l G ss.heap.size kx kim kit kre ksh kwa kta tf rf kb ka kc kcn kl kn w h la af nc fc kv km kg vw vh sl mk sg (by first | assumption | omega) (by first | assumption | omega) (by first | assumption | omega) (by first | assumption | omega) (by first | assumption | omega) (by first | assumption | omega) (by first | assumption | omega) (by first | assumption | omega)) (cwV 0 hts gX5_shownBy_X5_freshViews rfl rfl rfl (by decide +kernel) ⟨Nat.le_of_ble_eq_true rfl, Nat.le_of_ble_eq_true rfl⟩) hK hP hD hS hA [0, 1, 2, 3, 4, 5, 6, 7] [8, 9] rfl rfl (by decide) (by decide) (by decide) rfl rfl rfl hl.1 rfl (Nat.le_of_ble_eq_true rfl) dX5_shownBy_1 ⟨Nat.le_of_ble_eq_true rfl, Nat.le_of_ble_eq_true rfl⟩ (fun u H locs hp1 hP hD hS => ?_)
  obtain ⟨mk2_1, sg2_1⟩ := u
  try dsimp only at hp1 hP hD
  have he1 := hp1
  replace hP : xP G [oC kl 2 [.ref kln, .int (nI 6), .int (nI nl)], iA G kln (3 * 6) fl, oC kx 5 [.ref kb, .ref kim, .ref kit, .ref kv, .ref kre, .int tf, .ref ksh, .int rf, .ref kwa, .ref kta], oC kb 0 [.int (nI w), .int (nI h), .int (nI la), .ref ka, .ref kc, .ref kl, .ref kn], iA G ka 16 af, oC kc 2 [.ref kcn, .int (nI 10), .int (nI nc)], iA G kcn (3 * 10) fc, oC kv 4 [.ref km, .ref kg, .int (nI w), .int (nI h), .int (nI 0)], iA G km 176 mk2_1, iA G kg 160 sg2_1] H := hP
  replace hD : va_D (va_A (w_X5_shownBy G kx kim kit kre ksh kwa kta tf rf kb ka kc kcn kl kn w h la af nc fc kv km kg vw vh sl mk sg kln nl fl) ss.heap.size) [oC kl 2 [.ref kln, .int (nI 6), .int (nI nl)], iA G kln (3 * 6) fl, oC kx 5 [.ref kb, .ref kim, .ref kit, .ref kv, .ref kre, .int tf, .ref ksh, .int rf, .ref kwa, .ref kta], oC kb 0 [.int (nI w), .int (nI h), .int (nI la), .ref ka, .ref kc, .ref kl, .ref kn], iA G ka 16 af, oC kc 2 [.ref kcn, .int (nI 10), .int (nI nc)], iA G kcn (3 * 10) fc, oC kv 4 [.ref km, .ref kg, .int (nI w), .int (nI h), .int (nI 0)], iA G km 176 mk2_1, iA G kg 160 sg2_1] := hD
  refine lv_iload_n hx hb dX5_shownBy_4 rfl (lv_at hl 2 rfl) ?_
  refine lv_aload_n hx hb dX5_shownBy_5 rfl (lv_at hl 0 rfl) ?_
  refine va_get (D := G.1) (ci := 5) (v := .ref kb) (C := RX5) (T := TX5) (N := 10) hx hb hts hin5 hown hK.1 hP 2 rfl rfl 0 (by decide) (hts (.fieldLink RX5 10 "BackLenses" "book" "LBackLenses$Book;") (List.mem_of_getElem? (i := 1) rfl)) (fun _ h9 => h9) rfl dX5_shownBy_6 ?_
  refine va_getN (D := G.1) (ci := 0) (v := .ref kl) (C := RX0) (T := TX0) (N := 7) hx hb hts hin0 hown hK.1 hP 3 rfl rfl 5 (by decide) (va_Nw.use rfl (hK.2 (Cond.fieldLinkNest "BackLenses" (102 : Nat) "BackLenses$Book" "lenses" "LBackLenses$Rows;" "BackLenses") (List.mem_of_getElem? (i := 20) rfl))) (fun _ h9 => h9) rfl dX5_shownBy_9 ?_
  refine lv_iload_n hx hb dX5_shownBy_12 rfl (lv_at hl 1 rfl) ?_
  refine lv_iconst (v := nI 0) hx hb dX5_shownBy_13 (by decide) ?_
  refine xr_i (As := [.int (nI l1), .int (nI 0)]) (rest := [.int (nI x), .ref kv]) ⟨hx, hb, hml, hown, hts⟩ (c_X2_number l G kl kln 6 nl fl l1 0 (by first | assumption | omega) (by first | assumption | omega)) (cwV 2 hts gX5_shownBy_X2_number rfl rfl rfl (by decide +kernel) ⟨Nat.le_of_ble_eq_true rfl, Nat.le_of_ble_eq_true rfl⟩) hK hP hS [0, 1] rfl rfl rfl rfl hl.1 rfl (Nat.le_of_ble_eq_true rfl) dX5_shownBy_14 ⟨Nat.zero_le _, Nat.zero_le _⟩ (fun r14 H locs hp14 hP hS => ?_)
  obtain rfl : r14 = fl (3 * l1 + 0) := hp14
  obtain ⟨d0, hd0, ed0⟩ := inR_nat (hlens l1 (by omega))
  refine xn_top ed0 ?_
  refine xr_i (As := [.int (nI x), .int (nI d0)]) (rest := []) ⟨hx, hb, hml, hown, hts⟩ (c_X4_sightOf l G kv km kg w h (nI 0) sg2_1 x d0 (by first | assumption | omega)) (cwV 2 hts gX5_shownBy_X4_sightOf rfl rfl rfl (by decide +kernel) ⟨Nat.le_of_ble_eq_true rfl, Nat.le_of_ble_eq_true rfl⟩) hK hP hS [7, 9] rfl rfl rfl rfl hl.1 rfl (Nat.le_of_ble_eq_true rfl) dX5_shownBy_17 ⟨Nat.zero_le _, Nat.zero_le _⟩ (fun r17 H locs hp17 hP hS => ?_)
  obtain rfl : r17 = sg2_1 (d0 * 16 + x) := hp17
  refine lv_aload_n hx hb dX5_shownBy_20 rfl (lv_at hl 0 rfl) ?_
  refine va_get (D := G.1) (ci := 5) (v := .ref kb) (C := RX5) (T := TX5) (N := 10) hx hb hts hin5 hown hK.1 hP 2 rfl rfl 0 (by decide) (hts (.fieldLink RX5 10 "BackLenses" "book" "LBackLenses$Book;") (List.mem_of_getElem? (i := 1) rfl)) (fun _ h9 => h9) rfl dX5_shownBy_21 ?_
  refine va_getN (D := G.1) (ci := 0) (v := .ref kl) (C := RX0) (T := TX0) (N := 7) hx hb hts hin0 hown hK.1 hP 3 rfl rfl 5 (by decide) (va_Nw.use rfl (hK.2 (Cond.fieldLinkNest "BackLenses" (102 : Nat) "BackLenses$Book" "lenses" "LBackLenses$Rows;" "BackLenses") (List.mem_of_getElem? (i := 20) rfl))) (fun _ h9 => h9) rfl dX5_shownBy_24 ?_
  refine lv_iload_n hx hb dX5_shownBy_27 rfl (lv_at hl 1 rfl) ?_
  refine lv_iconst (v := nI 1) hx hb dX5_shownBy_28 (by decide) ?_
  refine xr_i (As := [.int (nI l1), .int (nI 1)]) (rest := [.int (sg2_1 (d0 * 16 + x))]) ⟨hx, hb, hml, hown, hts⟩ (c_X2_number l G kl kln 6 nl fl l1 1 (by first | assumption | omega) (by first | assumption | omega)) (cwV 2 hts gX5_shownBy_X2_number rfl rfl rfl (by decide +kernel) ⟨Nat.le_of_ble_eq_true rfl, Nat.le_of_ble_eq_true rfl⟩) hK hP hS [0, 1] rfl rfl rfl rfl hl.1 rfl (Nat.le_of_ble_eq_true rfl) dX5_shownBy_29 ⟨Nat.zero_le _, Nat.zero_le _⟩ (fun r29 H locs hp29 hP hS => ?_)
  obtain rfl : r29 = fl (3 * l1 + 1) := hp29
  refine lv_iconst (v := (-1)) hx hb dX5_shownBy_32 (by decide) ?_
  refine lv_ixor hx hb dX5_shownBy_33 ?_
  refine lv_iand hx hb dX5_shownBy_34 ?_
  have hP := hP.sub (ws' := [oC kx 5 [.ref kb, .ref kim, .ref kit, .ref kv, .ref kre, .int tf, .ref ksh, .int rf, .ref kwa, .ref kta], oC kb 0 [.int (nI w), .int (nI h), .int (nI la), .ref ka, .ref kc, .ref kl, .ref kn], iA G ka 16 af, oC kc 2 [.ref kcn, .int (nI 10), .int (nI nc)], iA G kcn (3 * 10) fc, oC kv 4 [.ref km, .ref kg, .int (nI w), .int (nI h), .int (nI 0)], iA G km 176 mk2_1, iA G kg 160 sg2_1, oC kl 2 [.ref kln, .int (nI 6), .int (nI nl)], iA G kln (3 * 6) fl]) [2, 3, 4, 5, 6, 7, 8, 9, 0, 1] rfl
  have hD := hD.sub (ws' := [oC kx 5 [.ref kb, .ref kim, .ref kit, .ref kv, .ref kre, .int tf, .ref ksh, .int rf, .ref kwa, .ref kta], oC kb 0 [.int (nI w), .int (nI h), .int (nI la), .ref ka, .ref kc, .ref kl, .ref kn], iA G ka 16 af, oC kc 2 [.ref kcn, .int (nI 10), .int (nI nc)], iA G kcn (3 * 10) fc, oC kv 4 [.ref km, .ref kg, .int (nI w), .int (nI h), .int (nI 0)], iA G km 176 mk2_1, iA G kg 160 sg2_1, oC kl 2 [.ref kln, .int (nI 6), .int (nI nl)], iA G kln (3 * 6) fl]) [2, 3, 4, 5, 6, 7, 8, 9, 0, 1] (by decide) rfl
  refine W.iret (v := (sg2_1 (d0 * 16 + x)) &&& ((fl (3 * l1 + 1)) ^^^ (-1))) hx hb hr (fun t ht hW => ⟨⟨(sg2_1 (d0 * 16 + x)) &&& ((fl (3 * l1 + 1)) ^^^ (-1)), (mk2_1, sg2_1, w, h, nI 0), rfl, ?_, by rw [ht]; exact hP, hD⟩, hS.F ht⟩) hS.2.2 dX5_shownBy_35
  try dsimp only
  refine ⟨?_, VOK_fr he1⟩; rw [(he1 d0 (by omega)).2 x (by omega)]; unfold shS; rw [ed0, tn_nI (by omega)]

abbrev w_X5_fitting (G : XG) (kx kim kit kre ksh kwa kta : Nat) (tf rf : Int32) (kb ka kc kcn kl kn : Nat) (w h la : Nat) (af : Nat → Int32) (nc : Nat) (fc : Nat → Int32) (kv km kg : Nat) (vw vh : Nat) (sl : Int32) (mk sg : Nat → Int32) (knn : Nat) (ns : Nat) (fs : Nat → Int32) : va_W := [oC kx 5 [.ref kb, .ref kim, .ref kit, .ref kv, .ref kre, .int tf, .ref ksh, .int rf, .ref kwa, .ref kta], oC kb 0 [.int (nI w), .int (nI h), .int (nI la), .ref ka, .ref kc, .ref kl, .ref kn], iA G ka 16 af, oC kc 2 [.ref kcn, .int (nI 10), .int (nI nc)], iA G kcn (3 * 10) fc, oC kv 4 [.ref km, .ref kg, .int (nI vw), .int (nI vh), .int sl], iA G km 176 mk, iA G kg 160 sg, oC kn 2 [.ref knn, .int (nI 8), .int (nI ns)], iA G knn (3 * 8) fs]
abbrev Q_X5_fitting (G : XG) (sz : Nat) (kx kim kit kre ksh kwa kta : Nat) (tf rf : Int32) (kb ka kc kcn kl kn : Nat) (w h la : Nat) (af : Nat → Int32) (nc : Nat) (fc : Nat → Int32) (kv km kg : Nat) (vw vh : Nat) (sl : Int32) (mk sg : Nat → Int32) (knn : Nat) (ns : Nat) (fs : Nat → Int32) (n : Nat) : Array Value → State → Outcome → State → Prop := (va_Qi (fun (r : Int32) (u : (Nat → Int32) × (Nat → Int32) × Nat × Nat × Int32) => r = fitS w h la af nc fc fs n ∧ VOK w h la af nc fc u.1 u.2.1 u.2.2.1 u.2.2.2.1 u.2.2.2.2) (xWb G sz (w_X5_fitting G kx kim kit kre ksh kwa kta tf rf kb ka kc kcn kl kn w h la af nc fc kv km kg vw vh sl mk sg knn ns fs) (fun u : (Nat → Int32) × (Nat → Int32) × Nat × Nat × Int32 => [oC kx 5 [.ref kb, .ref kim, .ref kit, .ref kv, .ref kre, .int tf, .ref ksh, .int rf, .ref kwa, .ref kta], oC kb 0 [.int (nI w), .int (nI h), .int (nI la), .ref ka, .ref kc, .ref kl, .ref kn], iA G ka 16 af, oC kc 2 [.ref kcn, .int (nI 10), .int (nI nc)], iA G kcn (3 * 10) fc, oC kv 4 [.ref km, .ref kg, .int (nI u.2.2.1), .int (nI u.2.2.2.1), .int u.2.2.2.2], iA G km 176 u.1, iA G kg 160 u.2.1, oC kn 2 [.ref knn, .int (nI 8), .int (nI ns)], iA G knn (3 * 8) fs])) (va_A (w_X5_fitting G kx kim kit kre ksh kwa kta tf rf kb ka kc kcn kl kn w h la af nc fc kv km kg vw vh sl mk sg knn ns fs) sz))
set_option maxHeartbeats 4000000 in
set_option maxRecDepth 100000 in
theorem c_X5_fitting (l : Launch) (G : XG) (sz : Nat) (kx kim kit kre ksh kwa kta : Nat) (tf rf : Int32) (kb ka kc kcn kl kn : Nat) (w h la : Nat) (af : Nat → Int32) (nc : Nat) (fc : Nat → Int32) (kv km kg : Nat) (vw vh : Nat) (sl : Int32) (mk sg : Nat → Int32) (knn : Nat) (ns : Nat) (fs : Nat → Int32) (n : Nat) (hw : 1 ≤ w) (hwb : w ≤ 16) (hhb : h ≤ 16) (hwh : w * h ≤ 16) (hla : la ≤ 9) (hnc : nc ≤ 10) (hcell : ∀ i, i < nc → inR (fc (3 * i + 1)) 16) (hvok : VOK w h la af nc fc mk sg vw vh sl) (hns : ns ≤ 8) (hshown : ∀ i, i < ns → inR (fs (3 * i)) (w * h) ∧ inR (fs (3 * i + 1)) (w * h)) (hnn : n ≤ ns) : Met l yX5_fitting wsX5_fitting ({ frames := 4, cells := 0, slots := 0, locals := 96 } : Room) (va_Pc [.ref kx, .int (nI n)] (xWp G sz (w_X5_fitting G kx kim kit kre ksh kwa kta tf rf kb ka kc kcn kl kn w h la af nc fc kv km kg vw vh sl mk sg knn ns fs))) (Q_X5_fitting G sz kx kim kit kre ksh kwa kta tf rf kb ka kc kcn kl kn w h la af nc fc kv km kg vw vh sl mk sg knn ns fs n) 0 0 (va_A (w_X5_fitting G kx kim kit kre ksh kwa kta tf rf kb ka kc kcn kl kn w h la af nc fc kv km kg vw vh sl mk sg knn ns fs) sz) := by
  refine Met.ofW (cc := cX5_fitting) (maxL := 8) (ret := (some .int)) (by decide) rfl ?_
  intro pp ee ss mm aa below mt cd s₁ BB hml hv
  obtain ⟨rfl, hsz, hP, hK, hD0⟩ := hv
  have hx := BB.exec
  have hb := BB.bytes
  have hr := BB.returns
  have hts := atoms_spec (ws := wsX5_fitting) BB.pre
  have hown : ss.vm.findClass RX5 = some mm.cls := findClass_of_methodNamed BB.named
  have hlocks := BB.notSynchronized
  subst hsz
  have hD := hD0.self (sz := ss.heap.size)
  have hA : ∀ q : Nat, ss.heap.size ≤ q → va_A (w_X5_fitting G kx kim kit kre ksh kwa kta tf rf kb ka kc kcn kl kn w h la af nc fc kv km kg vw vh sl mk sg knn ns fs) ss.heap.size q := fun q h => Or.inr h
  have hS : va_S (va_A (w_X5_fitting G kx kim kit kre ksh kwa kta tf rf kb ka kc kcn kl kn w h la af nc fc kv km kg vw vh sl mk sg knn ns fs) ss.heap.size) ss.heap ss.heap [] := va_S.rf
  replace hD : va_D (va_A (w_X5_fitting G kx kim kit kre ksh kwa kta tf rf kb ka kc kcn kl kn w h la af nc fc kv km kg vw vh sl mk sg knn ns fs) ss.heap.size) [oC kx 5 [.ref kb, .ref kim, .ref kit, .ref kv, .ref kre, .int tf, .ref ksh, .int rf, .ref kwa, .ref kta], oC kb 0 [.int (nI w), .int (nI h), .int (nI la), .ref ka, .ref kc, .ref kl, .ref kn], iA G ka 16 af, oC kc 2 [.ref kcn, .int (nI 10), .int (nI nc)], iA G kcn (3 * 10) fc, oC kv 4 [.ref km, .ref kg, .int (nI vw), .int (nI vh), .int sl], iA G km 176 mk, iA G kg 160 sg, oC kn 2 [.ref knn, .int (nI 8), .int (nI ns)], iA G knn (3 * 8) fs] := hD
  replace hP : xP G [oC kx 5 [.ref kb, .ref kim, .ref kit, .ref kv, .ref kre, .int tf, .ref ksh, .int rf, .ref kwa, .ref kta], oC kb 0 [.int (nI w), .int (nI h), .int (nI la), .ref ka, .ref kc, .ref kl, .ref kn], iA G ka 16 af, oC kc 2 [.ref kcn, .int (nI 10), .int (nI nc)], iA G kcn (3 * 10) fc, oC kv 4 [.ref km, .ref kg, .int (nI vw), .int (nI vh), .int sl], iA G km 176 mk, iA G kg 160 sg, oC kn 2 [.ref knn, .int (nI 8), .int (nI ns)], iA G knn (3 * 8) fs] ss.heap := hP
  have hin0 : ∀ w ∈ u_ws RX0 TX0 7, w ∈ wsX5_fitting := fun w h => List.mem_cons_of_mem _ (List.mem_append_left _ (List.mem_append_left _ (List.mem_append_right _ h)))
  have hin2 : ∀ w ∈ u_ws RX2 TX2 3, w ∈ wsX5_fitting := fun w h => List.mem_cons_of_mem _ (List.mem_append_right _ h)
  have hin4 : ∀ w ∈ u_ws RX4 TX4 5, w ∈ wsX5_fitting := fun w h => List.mem_cons_of_mem _ (List.mem_append_left _ (List.mem_append_right _ h))
  have hin5 : ∀ w ∈ u_ws RX5 TX5 10, w ∈ wsX5_fitting := fun w h => List.mem_cons_of_mem _ (List.mem_append_left _ (List.mem_append_left _ (List.mem_append_left _ (List.mem_append_right _ h))))
  have hl := lv_entry ([.ref kx, .int (nI n)]) (n := 8) (Nat.le_of_ble_eq_true rfl)
  rw [lg_entry_eq]
  generalize (lg_sl ([.ref kx, .int (nI n)]) ++ List.replicate (8 - (lg_sl ([.ref kx, .int (nI n)])).length) Slot.unset).toArray = ls at hl ⊢
  replace hl : lv_has ls 8 [(0, .ref kx), (1, .int (nI n))] := hl
  refine lv_aload_n hx hb dX5_fitting_0 rfl (lv_at hl 0 rfl) ?_
  refine xw_r (As := []) (rest := []) (wr := [oC kn 2 [.ref knn, .int (nI 8), .int (nI ns)], iA G knn (3 * 8) fs]) ⟨hx, hb, hml, hown, hts⟩ (c_X5_freshViews l G ss.heap.size kx kim kit kre ksh kwa kta tf rf kb ka kc kcn kl kn w h la af nc fc kv km kg vw vh sl mk sg (by first | assumption | omega) (by first | assumption | omega) (by first | assumption | omega) (by first | assumption | omega) (by first | assumption | omega) (by first | assumption | omega) (by first | assumption | omega) (by first | assumption | omega)) (cwV 0 hts gX5_fitting_X5_freshViews rfl rfl rfl (by decide +kernel) ⟨Nat.le_of_ble_eq_true rfl, Nat.le_of_ble_eq_true rfl⟩) hK hP hD hS hA [0, 1, 2, 3, 4, 5, 6, 7] [8, 9] rfl rfl (by decide) (by decide) (by decide) rfl rfl rfl hl.1 rfl (Nat.le_of_ble_eq_true rfl) dX5_fitting_1 ⟨Nat.le_of_ble_eq_true rfl, Nat.le_of_ble_eq_true rfl⟩ (fun u H locs hp1 hP hD hS => ?_)
  obtain ⟨mk2_1, sg2_1⟩ := u
  try dsimp only at hp1 hP hD
  have he1 := hp1
  replace hP : xP G [oC kn 2 [.ref knn, .int (nI 8), .int (nI ns)], iA G knn (3 * 8) fs, oC kx 5 [.ref kb, .ref kim, .ref kit, .ref kv, .ref kre, .int tf, .ref ksh, .int rf, .ref kwa, .ref kta], oC kb 0 [.int (nI w), .int (nI h), .int (nI la), .ref ka, .ref kc, .ref kl, .ref kn], iA G ka 16 af, oC kc 2 [.ref kcn, .int (nI 10), .int (nI nc)], iA G kcn (3 * 10) fc, oC kv 4 [.ref km, .ref kg, .int (nI w), .int (nI h), .int (nI 0)], iA G km 176 mk2_1, iA G kg 160 sg2_1] H := hP
  replace hD : va_D (va_A (w_X5_fitting G kx kim kit kre ksh kwa kta tf rf kb ka kc kcn kl kn w h la af nc fc kv km kg vw vh sl mk sg knn ns fs) ss.heap.size) [oC kn 2 [.ref knn, .int (nI 8), .int (nI ns)], iA G knn (3 * 8) fs, oC kx 5 [.ref kb, .ref kim, .ref kit, .ref kv, .ref kre, .int tf, .ref ksh, .int rf, .ref kwa, .ref kta], oC kb 0 [.int (nI w), .int (nI h), .int (nI la), .ref ka, .ref kc, .ref kl, .ref kn], iA G ka 16 af, oC kc 2 [.ref kcn, .int (nI 10), .int (nI nc)], iA G kcn (3 * 10) fc, oC kv 4 [.ref km, .ref kg, .int (nI w), .int (nI h), .int (nI 0)], iA G km 176 mk2_1, iA G kg 160 sg2_1] := hD
  refine lv_astore_n (lv' := [(2, .ref kv), (0, .ref kx), (1, .int (nI n))]) hx hb dX5_fitting_4 rfl hl (by decide) rfl (fun ls hl => ?_)
  refine lv_iconst (v := nI 0) hx hb dX5_fitting_5 (by decide) ?_
  refine lv_istore_n (lv' := [(3, .int (nI 0)), (2, .ref kv), (0, .ref kx), (1, .int (nI n))]) hx hb dX5_fitting_6 rfl hl (by decide) rfl (fun ls hl => ?_)
  refine lv_iconst (v := nI 0) hx hb dX5_fitting_7 (by decide) ?_
  refine lv_istore (lv' := [(4, .int (nI 0)), (3, .int (nI 0)), (2, .ref kv), (0, .ref kx), (1, .int (nI n))]) hx hb dX5_fitting_8 hl (by decide) rfl (fun ls hl => ?_)
  have hL10 : ∀ k : Nat, ∀ (d : Nat) (bits : Int32) (ls : Array Slot) (H : Heap) (locs : List Loc), la + 1 - d = k → (d ≤ la + 1) → (bits = xbits (fun d => allF (fitP w h af nc fc fs d) n) d) → lv_has ls 8 [(0, .ref kx), (1, .int (nI n)), (2, .ref kv), (3, .int bits), (4, .int (nI d))] → xP G [iA G ka 16 af, oC kb 0 [.int (nI w), .int (nI h), .int (nI la), .ref ka, .ref kc, .ref kl, .ref kn], oC kc 2 [.ref kcn, .int (nI 10), .int (nI nc)], iA G kcn (3 * 10) fc, iA G kg 160 sg2_1, iA G km 176 mk2_1, oC kn 2 [.ref knn, .int (nI 8), .int (nI ns)], iA G knn (3 * 8) fs, oC kv 4 [.ref km, .ref kg, .int (nI w), .int (nI h), .int (nI 0)], oC kx 5 [.ref kb, .ref kim, .ref kit, .ref kv, .ref kre, .int tf, .ref ksh, .int rf, .ref kwa, .ref kta]] H → va_D (va_A (w_X5_fitting G kx kim kit kre ksh kwa kta tf rf kb ka kc kcn kl kn w h la af nc fc kv km kg vw vh sl mk sg knn ns fs) ss.heap.size) [iA G ka 16 af, oC kb 0 [.int (nI w), .int (nI h), .int (nI la), .ref ka, .ref kc, .ref kl, .ref kn], oC kc 2 [.ref kcn, .int (nI 10), .int (nI nc)], iA G kcn (3 * 10) fc, iA G kg 160 sg2_1, iA G km 176 mk2_1, oC kn 2 [.ref knn, .int (nI 8), .int (nI ns)], iA G knn (3 * 8) fs, oC kv 4 [.ref km, .ref kg, .int (nI w), .int (nI h), .int (nI 0)], oC kx 5 [.ref kb, .ref kim, .ref kit, .ref kv, .ref kre, .int tf, .ref ksh, .int rf, .ref kwa, .ref kta]] → va_S (va_A (w_X5_fitting G kx kim kit kre ksh kwa kta tf rf kb ka kc kcn kl kn w h la af nc fc kv km kg vw vh sl mk sg knn ns fs) ss.heap.size) ss.heap H locs → W pp l ee ({ frames := 4, cells := 0, slots := 0, locals := 96 } : Room) ss mm ([.ref kx, .int (nI n)] : List Value).toArray below mt cd H locs 0 0 (MQ below (Q_X5_fitting G ss.heap.size kx kim kit kre ksh kwa kta tf rf kb ka kc kcn kl kn w h la af nc fc kv km kg vw vh sl mk sg knn ns fs n) ([.ref kx, .int (nI n)] : List Value).toArray ss 0 0 (va_A (w_X5_fitting G kx kim kit kre ksh kwa kta tf rf kb ka kc kcn kl kn w h la af nc fc kv km kg vw vh sl mk sg knn ns fs) ss.heap.size)) (F0 mm 10 ls []) := by
    intro k
    induction k using Nat.strongRecOn with
    | _ k ih10 =>
    intro d bits ls H locs hm10 hd hbits hl hP hD hS
    refine lv_iload hx hb dX5_fitting_10 (lv_at hl 4 rfl) ?_
    refine lv_aload_n hx hb dX5_fitting_12 rfl (lv_at hl 0 rfl) ?_
    refine va_get (D := G.1) (ci := 5) (v := .ref kb) (C := RX5) (T := TX5) (N := 10) hx hb hts hin5 hown hK.1 hP 9 rfl rfl 0 (by decide) (hts (.fieldLink RX5 10 "BackLenses" "book" "LBackLenses$Book;") (List.mem_of_getElem? (i := 1) rfl)) (fun _ h9 => h9) rfl dX5_fitting_13 ?_
    refine va_getN (D := G.1) (ci := 0) (v := .int (nI la)) (C := RX0) (T := TX0) (N := 7) hx hb hts hin0 hown hK.1 hP 1 rfl rfl 2 (by decide) (va_Nw.use rfl (hK.2 (Cond.fieldLinkNest "BackLenses" (90 : Nat) "BackLenses$Book" "last" "I" "BackLenses") (List.mem_of_getElem? (i := 11) rfl))) (fun _ h9 => h9) rfl dX5_fitting_16 ?_
    refine xn_icmp_gt (tgt := 122) hx hb (by omega) (by omega) dX5_fitting_19 rfl (fun b19 => ?_) (fun b19 => ?_)
    · skip
      refine lv_iload_n hx hb dX5_fitting_122 rfl (lv_at hl 3 rfl) ?_
      have hP := hP.sub (ws' := [oC kx 5 [.ref kb, .ref kim, .ref kit, .ref kv, .ref kre, .int tf, .ref ksh, .int rf, .ref kwa, .ref kta], oC kb 0 [.int (nI w), .int (nI h), .int (nI la), .ref ka, .ref kc, .ref kl, .ref kn], iA G ka 16 af, oC kc 2 [.ref kcn, .int (nI 10), .int (nI nc)], iA G kcn (3 * 10) fc, oC kv 4 [.ref km, .ref kg, .int (nI w), .int (nI h), .int (nI 0)], iA G km 176 mk2_1, iA G kg 160 sg2_1, oC kn 2 [.ref knn, .int (nI 8), .int (nI ns)], iA G knn (3 * 8) fs]) [9, 1, 0, 2, 3, 8, 5, 4, 6, 7] rfl
      have hD := hD.sub (ws' := [oC kx 5 [.ref kb, .ref kim, .ref kit, .ref kv, .ref kre, .int tf, .ref ksh, .int rf, .ref kwa, .ref kta], oC kb 0 [.int (nI w), .int (nI h), .int (nI la), .ref ka, .ref kc, .ref kl, .ref kn], iA G ka 16 af, oC kc 2 [.ref kcn, .int (nI 10), .int (nI nc)], iA G kcn (3 * 10) fc, oC kv 4 [.ref km, .ref kg, .int (nI w), .int (nI h), .int (nI 0)], iA G km 176 mk2_1, iA G kg 160 sg2_1, oC kn 2 [.ref knn, .int (nI 8), .int (nI ns)], iA G knn (3 * 8) fs]) [9, 1, 0, 2, 3, 8, 5, 4, 6, 7] (by decide) rfl
      refine W.iret (v := bits) hx hb hr (fun t ht hW => ⟨⟨bits, (mk2_1, sg2_1, w, h, nI 0), rfl, ?_, by rw [ht]; exact hP, hD⟩, hS.F ht⟩) hS.2.2 dX5_fitting_123
      try dsimp only
      refine ⟨?_, VOK_fr he1⟩; rw [hbits, show d = la + 1 by omega]
    · skip
      refine lv_iconst (v := nI 1) hx hb dX5_fitting_22 (by decide) ?_
      refine lv_istore (lv' := [(5, .int (nI 1)), (0, .ref kx), (1, .int (nI n)), (2, .ref kv), (3, .int bits), (4, .int (nI d))]) hx hb dX5_fitting_23 hl (by decide) rfl (fun ls hl => ?_)
      refine lv_iconst (v := nI 0) hx hb dX5_fitting_25 (by decide) ?_
      refine lv_istore (lv' := [(6, .int (nI 0)), (5, .int (nI 1)), (0, .ref kx), (1, .int (nI n)), (2, .ref kv), (3, .int bits), (4, .int (nI d))]) hx hb dX5_fitting_26 hl (by decide) rfl (fun ls hl => ?_)
      have hL28 : ∀ k : Nat, ∀ (i : Nat) (ft : Int32) (ls : Array Slot) (H : Heap) (locs : List Loc), n - i = k → (i ≤ n) → (ft = xb (allF (fitP w h af nc fc fs d) i = true)) → lv_has ls 8 [(0, .ref kx), (1, .int (nI n)), (2, .ref kv), (3, .int bits), (4, .int (nI d)), (5, .int ft), (6, .int (nI i))] → xP G [iA G ka 16 af, oC kb 0 [.int (nI w), .int (nI h), .int (nI la), .ref ka, .ref kc, .ref kl, .ref kn], oC kc 2 [.ref kcn, .int (nI 10), .int (nI nc)], iA G kcn (3 * 10) fc, iA G kg 160 sg2_1, iA G km 176 mk2_1, oC kn 2 [.ref knn, .int (nI 8), .int (nI ns)], iA G knn (3 * 8) fs, oC kv 4 [.ref km, .ref kg, .int (nI w), .int (nI h), .int (nI 0)], oC kx 5 [.ref kb, .ref kim, .ref kit, .ref kv, .ref kre, .int tf, .ref ksh, .int rf, .ref kwa, .ref kta]] H → va_D (va_A (w_X5_fitting G kx kim kit kre ksh kwa kta tf rf kb ka kc kcn kl kn w h la af nc fc kv km kg vw vh sl mk sg knn ns fs) ss.heap.size) [iA G ka 16 af, oC kb 0 [.int (nI w), .int (nI h), .int (nI la), .ref ka, .ref kc, .ref kl, .ref kn], oC kc 2 [.ref kcn, .int (nI 10), .int (nI nc)], iA G kcn (3 * 10) fc, iA G kg 160 sg2_1, iA G km 176 mk2_1, oC kn 2 [.ref knn, .int (nI 8), .int (nI ns)], iA G knn (3 * 8) fs, oC kv 4 [.ref km, .ref kg, .int (nI w), .int (nI h), .int (nI 0)], oC kx 5 [.ref kb, .ref kim, .ref kit, .ref kv, .ref kre, .int tf, .ref ksh, .int rf, .ref kwa, .ref kta]] → va_S (va_A (w_X5_fitting G kx kim kit kre ksh kwa kta tf rf kb ka kc kcn kl kn w h la af nc fc kv km kg vw vh sl mk sg knn ns fs) ss.heap.size) ss.heap H locs → W pp l ee ({ frames := 4, cells := 0, slots := 0, locals := 96 } : Room) ss mm ([.ref kx, .int (nI n)] : List Value).toArray below mt cd H locs 0 0 (MQ below (Q_X5_fitting G ss.heap.size kx kim kit kre ksh kwa kta tf rf kb ka kc kcn kl kn w h la af nc fc kv km kg vw vh sl mk sg knn ns fs n) ([.ref kx, .int (nI n)] : List Value).toArray ss 0 0 (va_A (w_X5_fitting G kx kim kit kre ksh kwa kta tf rf kb ka kc kcn kl kn w h la af nc fc kv km kg vw vh sl mk sg knn ns fs) ss.heap.size)) (F0 mm 28 ls []) := by
        intro k
        induction k using Nat.strongRecOn with
        | _ k ih28 =>
        intro i ft ls H locs hm28 hi hft hl hP hD hS
        refine lv_iload hx hb dX5_fitting_28 (lv_at hl 6 rfl) ?_
        refine lv_iload_n hx hb dX5_fitting_30 rfl (lv_at hl 1 rfl) ?_
        refine xn_icmp_ge (tgt := 104) hx hb (by omega) (by omega) dX5_fitting_31 rfl (fun b31 => ?_) (fun b31 => ?_)
        · skip
          refine lv_iload hx hb dX5_fitting_104 (lv_at hl 5 rfl) ?_
          refine lv_if_eq (tgt := 116) hx hb dX5_fitting_106 rfl (fun b106 => ?_) (fun b106 => ?_)
          · skip
            have hno : allF (fitP w h af nc fc fs d) n = false := (by first | exact hno | (rw [hft, show i = n by omega] at b106; exact Bool.eq_false_iff.mpr (xb_0.mp b106)))
            refine lv_iinc (k := 4) (v := nI (d + 1)) (lv' := [(4, .int (nI (d + 1))), (0, .ref kx), (1, .int (nI n)), (2, .ref kv), (3, .int bits), (5, .int ft), (6, .int (nI i))]) hx hb dX5_fitting_116 hl rfl (xn_inc d 1) (by decide) rfl (fun ls hl => ?_)
            refine lv_goto (tgt := 10) hx hb dX5_fitting_119 rfl ?_
            have hl := lv_sub hl (l' := [(0, .ref kx), (1, .int (nI n)), (2, .ref kv), (3, .int bits), (4, .int (nI (d + 1)))]) [1, 2, 3, 4, 0] rfl
            exact ih10 (la + 1 - (d + 1)) (by omega) (d + 1) bits ls H locs rfl (by omega) (by first | exact xbits_N hno hbits | exact xbits_T hyes hbits) hl hP hD hS
          · skip
            have hyes : allF (fitP w h af nc fc fs d) n = true := (by first | exact absurd b36 b106 | (rw [hft, show i = n by omega] at b106; exact Decidable.not_not.mp (fun q => b106 (xb_0.mpr q))))
            refine lv_iload_n hx hb dX5_fitting_109 rfl (lv_at hl 3 rfl) ?_
            refine lv_iconst (v := nI 1) hx hb dX5_fitting_110 (by decide) ?_
            refine lv_iload hx hb dX5_fitting_111 (lv_at hl 4 rfl) ?_
            refine lv_ishl hx hb dX5_fitting_113 ?_
            refine lv_ior hx hb dX5_fitting_114 ?_
            refine lv_istore_n (lv' := [(3, .int (bits ||| ((nI 1) <<< ((nI d) &&& 31)))), (0, .ref kx), (1, .int (nI n)), (2, .ref kv), (4, .int (nI d)), (5, .int ft), (6, .int (nI i))]) hx hb dX5_fitting_115 rfl hl (by decide) rfl (fun ls hl => ?_)
            refine lv_iinc (k := 4) (v := nI (d + 1)) (lv' := [(4, .int (nI (d + 1))), (3, .int (bits ||| ((nI 1) <<< ((nI d) &&& 31)))), (0, .ref kx), (1, .int (nI n)), (2, .ref kv), (5, .int ft), (6, .int (nI i))]) hx hb dX5_fitting_116 hl rfl (xn_inc d 1) (by decide) rfl (fun ls hl => ?_)
            refine lv_goto (tgt := 10) hx hb dX5_fitting_119 rfl ?_
            have hl := lv_sub hl (l' := [(0, .ref kx), (1, .int (nI n)), (2, .ref kv), (3, .int (bits ||| ((nI 1) <<< ((nI d) &&& 31)))), (4, .int (nI (d + 1)))]) [2, 3, 4, 1, 0] rfl
            exact ih10 (la + 1 - (d + 1)) (by omega) (d + 1) (bits ||| ((nI 1) <<< ((nI d) &&& 31))) ls H locs rfl (by omega) (by first | exact xbits_N hno hbits | exact xbits_T hyes hbits) hl hP hD hS
        · skip
          refine lv_iload hx hb dX5_fitting_34 (lv_at hl 5 rfl) ?_
          refine lv_if_eq (tgt := 104) hx hb dX5_fitting_36 rfl (fun b36 => ?_) (fun b36 => ?_)
          · skip
            have hno : allF (fitP w h af nc fc fs d) n = false := (by rw [hft] at b36; exact allF_false (i := i) (by omega) (Bool.eq_false_iff.mpr (xb_0.mp b36)))
            refine lv_iload hx hb dX5_fitting_104 (lv_at hl 5 rfl) ?_
            refine lv_if_eq (tgt := 116) hx hb dX5_fitting_106 rfl (fun b106 => ?_) (fun b106 => ?_)
            · skip
              have hno : allF (fitP w h af nc fc fs d) n = false := (by first | exact hno | (rw [hft, show i = n by omega] at b106; exact Bool.eq_false_iff.mpr (xb_0.mp b106)))
              refine lv_iinc (k := 4) (v := nI (d + 1)) (lv' := [(4, .int (nI (d + 1))), (0, .ref kx), (1, .int (nI n)), (2, .ref kv), (3, .int bits), (5, .int ft), (6, .int (nI i))]) hx hb dX5_fitting_116 hl rfl (xn_inc d 1) (by decide) rfl (fun ls hl => ?_)
              refine lv_goto (tgt := 10) hx hb dX5_fitting_119 rfl ?_
              have hl := lv_sub hl (l' := [(0, .ref kx), (1, .int (nI n)), (2, .ref kv), (3, .int bits), (4, .int (nI (d + 1)))]) [1, 2, 3, 4, 0] rfl
              exact ih10 (la + 1 - (d + 1)) (by omega) (d + 1) bits ls H locs rfl (by omega) (by first | exact xbits_N hno hbits | exact xbits_T hyes hbits) hl hP hD hS
            · skip
              have hyes : allF (fitP w h af nc fc fs d) n = true := (by first | exact absurd b36 b106 | (rw [hft, show i = n by omega] at b106; exact Decidable.not_not.mp (fun q => b106 (xb_0.mpr q))))
              refine lv_iload_n hx hb dX5_fitting_109 rfl (lv_at hl 3 rfl) ?_
              refine lv_iconst (v := nI 1) hx hb dX5_fitting_110 (by decide) ?_
              refine lv_iload hx hb dX5_fitting_111 (lv_at hl 4 rfl) ?_
              refine lv_ishl hx hb dX5_fitting_113 ?_
              refine lv_ior hx hb dX5_fitting_114 ?_
              refine lv_istore_n (lv' := [(3, .int (bits ||| ((nI 1) <<< ((nI d) &&& 31)))), (0, .ref kx), (1, .int (nI n)), (2, .ref kv), (4, .int (nI d)), (5, .int ft), (6, .int (nI i))]) hx hb dX5_fitting_115 rfl hl (by decide) rfl (fun ls hl => ?_)
              refine lv_iinc (k := 4) (v := nI (d + 1)) (lv' := [(4, .int (nI (d + 1))), (3, .int (bits ||| ((nI 1) <<< ((nI d) &&& 31)))), (0, .ref kx), (1, .int (nI n)), (2, .ref kv), (5, .int ft), (6, .int (nI i))]) hx hb dX5_fitting_116 hl rfl (xn_inc d 1) (by decide) rfl (fun ls hl => ?_)
              refine lv_goto (tgt := 10) hx hb dX5_fitting_119 rfl ?_
              have hl := lv_sub hl (l' := [(0, .ref kx), (1, .int (nI n)), (2, .ref kv), (3, .int (bits ||| ((nI 1) <<< ((nI d) &&& 31)))), (4, .int (nI (d + 1)))]) [2, 3, 4, 1, 0] rfl
              exact ih10 (la + 1 - (d + 1)) (by omega) (d + 1) (bits ||| ((nI 1) <<< ((nI d) &&& 31))) ls H locs rfl (by omega) (by first | exact xbits_N hno hbits | exact xbits_T hyes hbits) hl hP hD hS
          · skip
            have hfi : allF (fitP w h af nc fc fs d) i = true := (by rw [hft] at b36; exact Decidable.not_not.mp (fun q => b36 (xb_0.mpr q)))
            refine lv_aload_n hx hb dX5_fitting_39 rfl (lv_at hl 2 rfl) ?_
            refine lv_aload_n hx hb dX5_fitting_40 rfl (lv_at hl 0 rfl) ?_
            refine va_get (D := G.1) (ci := 5) (v := .ref kb) (C := RX5) (T := TX5) (N := 10) hx hb hts hin5 hown hK.1 hP 9 rfl rfl 0 (by decide) (hts (.fieldLink RX5 10 "BackLenses" "book" "LBackLenses$Book;") (List.mem_of_getElem? (i := 1) rfl)) (fun _ h9 => h9) rfl dX5_fitting_41 ?_
            refine va_getN (D := G.1) (ci := 0) (v := .ref kn) (C := RX0) (T := TX0) (N := 7) hx hb hts hin0 hown hK.1 hP 1 rfl rfl 6 (by decide) (va_Nw.use rfl (hK.2 (Cond.fieldLinkNest "BackLenses" (161 : Nat) "BackLenses$Book" "shown" "LBackLenses$Rows;" "BackLenses") (List.mem_of_getElem? (i := 21) rfl))) (fun _ h9 => h9) rfl dX5_fitting_44 ?_
            refine lv_iload hx hb dX5_fitting_47 (lv_at hl 6 rfl) ?_
            refine lv_iconst (v := nI 0) hx hb dX5_fitting_49 (by decide) ?_
            refine xr_i (As := [.int (nI i), .int (nI 0)]) (rest := [.ref kv]) ⟨hx, hb, hml, hown, hts⟩ (c_X2_number l G kn knn 8 ns fs i 0 (by first | assumption | omega) (by first | assumption | omega)) (cwV 2 hts gX5_fitting_X2_number rfl rfl rfl (by decide +kernel) ⟨Nat.le_of_ble_eq_true rfl, Nat.le_of_ble_eq_true rfl⟩) hK hP hS [6, 7] rfl rfl rfl rfl hl.1 rfl (Nat.le_of_ble_eq_true rfl) dX5_fitting_50 ⟨Nat.zero_le _, Nat.zero_le _⟩ (fun r50 H locs hp50 hP hS => ?_)
            obtain rfl : r50 = fs (3 * i + 0) := hp50
            obtain ⟨x0, hx0, ex0⟩ := inR_nat (hshown i (by omega)).1
            refine xn_top ex0 ?_
            refine lv_aload_n hx hb dX5_fitting_53 rfl (lv_at hl 0 rfl) ?_
            refine va_get (D := G.1) (ci := 5) (v := .ref kb) (C := RX5) (T := TX5) (N := 10) hx hb hts hin5 hown hK.1 hP 9 rfl rfl 0 (by decide) (hts (.fieldLink RX5 10 "BackLenses" "book" "LBackLenses$Book;") (List.mem_of_getElem? (i := 1) rfl)) (fun _ h9 => h9) rfl dX5_fitting_54 ?_
            refine va_getN (D := G.1) (ci := 0) (v := .ref kn) (C := RX0) (T := TX0) (N := 7) hx hb hts hin0 hown hK.1 hP 1 rfl rfl 6 (by decide) (va_Nw.use rfl (hK.2 (Cond.fieldLinkNest "BackLenses" (161 : Nat) "BackLenses$Book" "shown" "LBackLenses$Rows;" "BackLenses") (List.mem_of_getElem? (i := 21) rfl))) (fun _ h9 => h9) rfl dX5_fitting_57 ?_
            refine lv_iload hx hb dX5_fitting_60 (lv_at hl 6 rfl) ?_
            refine lv_iconst (v := nI 1) hx hb dX5_fitting_62 (by decide) ?_
            refine xr_i (As := [.int (nI i), .int (nI 1)]) (rest := [.int (nI x0), .ref kv]) ⟨hx, hb, hml, hown, hts⟩ (c_X2_number l G kn knn 8 ns fs i 1 (by first | assumption | omega) (by first | assumption | omega)) (cwV 2 hts gX5_fitting_X2_number rfl rfl rfl (by decide +kernel) ⟨Nat.le_of_ble_eq_true rfl, Nat.le_of_ble_eq_true rfl⟩) hK hP hS [6, 7] rfl rfl rfl rfl hl.1 rfl (Nat.le_of_ble_eq_true rfl) dX5_fitting_63 ⟨Nat.zero_le _, Nat.zero_le _⟩ (fun r63 H locs hp63 hP hS => ?_)
            obtain rfl : r63 = fs (3 * i + 1) := hp63
            obtain ⟨c0, hc0, ec0⟩ := inR_nat (hshown i (by omega)).2
            refine xn_top ec0 ?_
            refine lv_iload hx hb dX5_fitting_66 (lv_at hl 4 rfl) ?_
            refine xr_i (As := [.int (nI x0), .int (nI c0), .int (nI d)]) (rest := []) ⟨hx, hb, hml, hown, hts⟩ (c_X4_answerOf l G kv km kg w h (nI 0) mk2_1 sg2_1 x0 c0 d (by first | assumption | omega) (by first | assumption | omega) (by first | assumption | omega)) (cwV 3 hts gX5_fitting_X4_answerOf rfl rfl rfl (by decide +kernel) ⟨Nat.le_of_ble_eq_true rfl, Nat.le_of_ble_eq_true rfl⟩) hK hP hS [8, 5, 4] rfl rfl rfl rfl hl.1 rfl (Nat.le_of_ble_eq_true rfl) dX5_fitting_68 ⟨Nat.zero_le _, Nat.zero_le _⟩ (fun r68 H locs hp68 hP hS => ?_)
            obtain rfl : r68 = (if (sg2_1 (d * 16 + x0) >>> (nI c0 &&& 31)) &&& nI 1 = 0 then (-4) else mk2_1 (d * 16 + c0)) := hp68
            refine lv_istore (lv' := [(7, .int (if (sg2_1 (d * 16 + x0) >>> (nI c0 &&& 31)) &&& nI 1 = 0 then (-4) else mk2_1 (d * 16 + c0))), (0, .ref kx), (1, .int (nI n)), (2, .ref kv), (3, .int bits), (4, .int (nI d)), (5, .int ft), (6, .int (nI i))]) hx hb dX5_fitting_71 hl (by decide) rfl (fun ls hl => ?_)
            refine lv_iload hx hb dX5_fitting_73 (lv_at hl 0 rfl) ?_
            refine lv_aload_n hx hb dX5_fitting_75 rfl (lv_at hl 1 rfl) ?_
            refine va_get (D := G.1) (ci := 5) (v := .ref kb) (C := RX5) (T := TX5) (N := 10) hx hb hts hin5 hown hK.1 hP 9 rfl rfl 0 (by decide) (hts (.fieldLink RX5 10 "BackLenses" "book" "LBackLenses$Book;") (List.mem_of_getElem? (i := 1) rfl)) (fun _ h9 => h9) rfl dX5_fitting_76 ?_
            refine va_getN (D := G.1) (ci := 0) (v := .ref kn) (C := RX0) (T := TX0) (N := 7) hx hb hts hin0 hown hK.1 hP 1 rfl rfl 6 (by decide) (va_Nw.use rfl (hK.2 (Cond.fieldLinkNest "BackLenses" (161 : Nat) "BackLenses$Book" "shown" "LBackLenses$Rows;" "BackLenses") (List.mem_of_getElem? (i := 21) rfl))) (fun _ h9 => h9) rfl dX5_fitting_79 ?_
            refine lv_iload hx hb dX5_fitting_82 (lv_at hl 7 rfl) ?_
            refine lv_iconst (v := nI 2) hx hb dX5_fitting_84 (by decide) ?_
            refine xr_i (As := [.int (nI i), .int (nI 2)]) (rest := [.int (if (sg2_1 (d * 16 + x0) >>> (nI c0 &&& 31)) &&& nI 1 = 0 then (-4) else mk2_1 (d * 16 + c0))]) ⟨hx, hb, hml, hown, hts⟩ (c_X2_number l G kn knn 8 ns fs i 2 (by first | assumption | omega) (by first | assumption | omega)) (cwV 2 hts gX5_fitting_X2_number rfl rfl rfl (by decide +kernel) ⟨Nat.le_of_ble_eq_true rfl, Nat.le_of_ble_eq_true rfl⟩) hK hP hS [6, 7] rfl rfl rfl rfl hl.1 rfl (Nat.le_of_ble_eq_true rfl) dX5_fitting_85 ⟨Nat.zero_le _, Nat.zero_le _⟩ (fun r85 H locs hp85 hP hS => ?_)
            obtain rfl : r85 = fs (3 * i + 2) := hp85
            refine lv_icmp_ne (tgt := 95) hx hb dX5_fitting_88 rfl (fun b88 => ?_) (fun b88 => ?_)
            · skip
              refine lv_iconst (v := nI 0) hx hb dX5_fitting_95 (by decide) ?_
              refine lv_istore (lv' := [(5, .int (nI 0)), (7, .int (if (sg2_1 (d * 16 + x0) >>> (nI c0 &&& 31)) &&& nI 1 = 0 then (-4) else mk2_1 (d * 16 + c0))), (0, .ref kx), (1, .int (nI n)), (2, .ref kv), (3, .int bits), (4, .int (nI d)), (6, .int (nI i))]) hx hb dX5_fitting_96 hl (by decide) rfl (fun ls hl => ?_)
              refine lv_iinc (k := 7) (v := nI (i + 1)) (lv' := [(6, .int (nI (i + 1))), (5, .int (nI 0)), (7, .int (if (sg2_1 (d * 16 + x0) >>> (nI c0 &&& 31)) &&& nI 1 = 0 then (-4) else mk2_1 (d * 16 + c0))), (0, .ref kx), (1, .int (nI n)), (2, .ref kv), (3, .int bits), (4, .int (nI d))]) hx hb dX5_fitting_98 hl rfl (xn_inc i 1) (by decide) rfl (fun ls hl => ?_)
              refine lv_goto (tgt := 28) hx hb dX5_fitting_101 rfl ?_
              have hl := lv_sub hl (l' := [(0, .ref kx), (1, .int (nI n)), (2, .ref kv), (3, .int bits), (4, .int (nI d)), (5, .int (nI 0)), (6, .int (nI (i + 1)))]) [3, 4, 5, 6, 7, 1, 0] rfl
              exact ih28 (n - (i + 1)) (by omega) (i + 1) (nI 0) ls H locs rfl (by omega) (by first | exact (xb_t (by rw [allF, hfi, Bool.true_and]; exact decide_eq_true (by rw [ex0, ec0, tn_nI (by omega), tn_nI (by omega), ← FR_ans he1 (by omega) (by omega) (by omega)]; exact b88))).symm | exact (xb_f (fun q => by rw [allF, hfi, Bool.true_and] at q; have q2 := of_decide_eq_true q; rw [ex0, ec0, tn_nI (by omega), tn_nI (by omega), ← FR_ans he1 (by omega) (by omega) (by omega)] at q2; exact b88 q2)).symm) hl hP hD hS
            · skip
              refine lv_iconst (v := nI 1) hx hb dX5_fitting_91 (by decide) ?_
              refine lv_goto (tgt := 96) hx hb dX5_fitting_92 rfl ?_
              refine lv_istore (lv' := [(5, .int (nI 1)), (7, .int (if (sg2_1 (d * 16 + x0) >>> (nI c0 &&& 31)) &&& nI 1 = 0 then (-4) else mk2_1 (d * 16 + c0))), (0, .ref kx), (1, .int (nI n)), (2, .ref kv), (3, .int bits), (4, .int (nI d)), (6, .int (nI i))]) hx hb dX5_fitting_96 hl (by decide) rfl (fun ls hl => ?_)
              refine lv_iinc (k := 7) (v := nI (i + 1)) (lv' := [(6, .int (nI (i + 1))), (5, .int (nI 1)), (7, .int (if (sg2_1 (d * 16 + x0) >>> (nI c0 &&& 31)) &&& nI 1 = 0 then (-4) else mk2_1 (d * 16 + c0))), (0, .ref kx), (1, .int (nI n)), (2, .ref kv), (3, .int bits), (4, .int (nI d))]) hx hb dX5_fitting_98 hl rfl (xn_inc i 1) (by decide) rfl (fun ls hl => ?_)
              refine lv_goto (tgt := 28) hx hb dX5_fitting_101 rfl ?_
              have hl := lv_sub hl (l' := [(0, .ref kx), (1, .int (nI n)), (2, .ref kv), (3, .int bits), (4, .int (nI d)), (5, .int (nI 1)), (6, .int (nI (i + 1)))]) [3, 4, 5, 6, 7, 1, 0] rfl
              exact ih28 (n - (i + 1)) (by omega) (i + 1) (nI 1) ls H locs rfl (by omega) (by first | exact (xb_t (by rw [allF, hfi, Bool.true_and]; exact decide_eq_true (by rw [ex0, ec0, tn_nI (by omega), tn_nI (by omega), ← FR_ans he1 (by omega) (by omega) (by omega)]; exact b88))).symm | exact (xb_f (fun q => by rw [allF, hfi, Bool.true_and] at q; have q2 := of_decide_eq_true q; rw [ex0, ec0, tn_nI (by omega), tn_nI (by omega), ← FR_ans he1 (by omega) (by omega) (by omega)] at q2; exact b88 q2)).symm) hl hP hD hS
      have hl := lv_sub hl (l' := [(0, .ref kx), (1, .int (nI n)), (2, .ref kv), (3, .int bits), (4, .int (nI d)), (5, .int (nI 1)), (6, .int (nI 0))]) [2, 3, 4, 5, 6, 1, 0] rfl
      exact hL28 (n - 0) 0 (nI 1) ls H locs rfl (by omega) (by exact (xb_t rfl).symm) hl hP hD hS
  have hl := lv_sub hl (l' := [(0, .ref kx), (1, .int (nI n)), (2, .ref kv), (3, .int (nI 0)), (4, .int (nI 0))]) [3, 4, 2, 1, 0] rfl
  have hP := hP.sub (ws' := [iA G ka 16 af, oC kb 0 [.int (nI w), .int (nI h), .int (nI la), .ref ka, .ref kc, .ref kl, .ref kn], oC kc 2 [.ref kcn, .int (nI 10), .int (nI nc)], iA G kcn (3 * 10) fc, iA G kg 160 sg2_1, iA G km 176 mk2_1, oC kn 2 [.ref knn, .int (nI 8), .int (nI ns)], iA G knn (3 * 8) fs, oC kv 4 [.ref km, .ref kg, .int (nI w), .int (nI h), .int (nI 0)], oC kx 5 [.ref kb, .ref kim, .ref kit, .ref kv, .ref kre, .int tf, .ref ksh, .int rf, .ref kwa, .ref kta]]) [4, 3, 5, 6, 9, 8, 0, 1, 7, 2] rfl
  have hD := hD.sub (ws' := [iA G ka 16 af, oC kb 0 [.int (nI w), .int (nI h), .int (nI la), .ref ka, .ref kc, .ref kl, .ref kn], oC kc 2 [.ref kcn, .int (nI 10), .int (nI nc)], iA G kcn (3 * 10) fc, iA G kg 160 sg2_1, iA G km 176 mk2_1, oC kn 2 [.ref knn, .int (nI 8), .int (nI ns)], iA G knn (3 * 8) fs, oC kv 4 [.ref km, .ref kg, .int (nI w), .int (nI h), .int (nI 0)], oC kx 5 [.ref kb, .ref kim, .ref kit, .ref kv, .ref kre, .int tf, .ref ksh, .int rf, .ref kwa, .ref kta]]) [4, 3, 5, 6, 9, 8, 0, 1, 7, 2] (by decide) rfl
  exact hL10 (la + 1 - 0) 0 (nI 0) ls H locs rfl (by omega) (by rfl) hl hP hD hS

abbrev w_X5_days (G : XG) (kx kim kit kre ksh kwa kta : Nat) (tf rf : Int32) (kb ka kc kcn kl kn : Nat) (w h la : Nat) (af : Nat → Int32) (nc : Nat) (fc : Nat → Int32) (kv km kg : Nat) (vw vh : Nat) (sl : Int32) (mk sg : Nat → Int32) (knn : Nat) (ns : Nat) (fs : Nat → Int32) : va_W := [oC kx 5 [.ref kb, .ref kim, .ref kit, .ref kv, .ref kre, .int tf, .ref ksh, .int rf, .ref kwa, .ref kta], oC kb 0 [.int (nI w), .int (nI h), .int (nI la), .ref ka, .ref kc, .ref kl, .ref kn], iA G ka 16 af, oC kc 2 [.ref kcn, .int (nI 10), .int (nI nc)], iA G kcn (3 * 10) fc, oC kv 4 [.ref km, .ref kg, .int (nI vw), .int (nI vh), .int sl], iA G km 176 mk, iA G kg 160 sg, oC kn 2 [.ref knn, .int (nI 8), .int (nI ns)], iA G knn (3 * 8) fs]
abbrev Q_X5_days (G : XG) (sz : Nat) (kx kim kit kre ksh kwa kta : Nat) (tf rf : Int32) (kb ka kc kcn kl kn : Nat) (w h la : Nat) (af : Nat → Int32) (nc : Nat) (fc : Nat → Int32) (kv km kg : Nat) (vw vh : Nat) (sl : Int32) (mk sg : Nat → Int32) (knn : Nat) (ns : Nat) (fs : Nat → Int32) : Array Value → State → Outcome → State → Prop := (va_Qi (fun (r : Int32) (u : (Nat → Int32) × (Nat → Int32) × Nat × Nat × Int32) => r = fitS w h la af nc fc fs ns ∧ VOK w h la af nc fc u.1 u.2.1 u.2.2.1 u.2.2.2.1 u.2.2.2.2) (xWb G sz (w_X5_days G kx kim kit kre ksh kwa kta tf rf kb ka kc kcn kl kn w h la af nc fc kv km kg vw vh sl mk sg knn ns fs) (fun u : (Nat → Int32) × (Nat → Int32) × Nat × Nat × Int32 => [oC kx 5 [.ref kb, .ref kim, .ref kit, .ref kv, .ref kre, .int tf, .ref ksh, .int rf, .ref kwa, .ref kta], oC kb 0 [.int (nI w), .int (nI h), .int (nI la), .ref ka, .ref kc, .ref kl, .ref kn], iA G ka 16 af, oC kc 2 [.ref kcn, .int (nI 10), .int (nI nc)], iA G kcn (3 * 10) fc, oC kv 4 [.ref km, .ref kg, .int (nI u.2.2.1), .int (nI u.2.2.2.1), .int u.2.2.2.2], iA G km 176 u.1, iA G kg 160 u.2.1, oC kn 2 [.ref knn, .int (nI 8), .int (nI ns)], iA G knn (3 * 8) fs])) (va_A (w_X5_days G kx kim kit kre ksh kwa kta tf rf kb ka kc kcn kl kn w h la af nc fc kv km kg vw vh sl mk sg knn ns fs) sz))
set_option maxHeartbeats 4000000 in
set_option maxRecDepth 100000 in
theorem c_X5_days (l : Launch) (G : XG) (sz : Nat) (kx kim kit kre ksh kwa kta : Nat) (tf rf : Int32) (kb ka kc kcn kl kn : Nat) (w h la : Nat) (af : Nat → Int32) (nc : Nat) (fc : Nat → Int32) (kv km kg : Nat) (vw vh : Nat) (sl : Int32) (mk sg : Nat → Int32) (knn : Nat) (ns : Nat) (fs : Nat → Int32) (hw : 1 ≤ w) (hwb : w ≤ 16) (hhb : h ≤ 16) (hwh : w * h ≤ 16) (hla : la ≤ 9) (hnc : nc ≤ 10) (hcell : ∀ i, i < nc → inR (fc (3 * i + 1)) 16) (hvok : VOK w h la af nc fc mk sg vw vh sl) (hns : ns ≤ 8) (hshown : ∀ i, i < ns → inR (fs (3 * i)) (w * h) ∧ inR (fs (3 * i + 1)) (w * h)) : Met l yX5_days wsX5_days ({ frames := 5, cells := 0, slots := 0, locals := 123 } : Room) (va_Pc [.ref kx] (xWp G sz (w_X5_days G kx kim kit kre ksh kwa kta tf rf kb ka kc kcn kl kn w h la af nc fc kv km kg vw vh sl mk sg knn ns fs))) (Q_X5_days G sz kx kim kit kre ksh kwa kta tf rf kb ka kc kcn kl kn w h la af nc fc kv km kg vw vh sl mk sg knn ns fs) 0 0 (va_A (w_X5_days G kx kim kit kre ksh kwa kta tf rf kb ka kc kcn kl kn w h la af nc fc kv km kg vw vh sl mk sg knn ns fs) sz) := by
  refine Met.ofW (cc := cX5_days) (maxL := 1) (ret := (some .int)) (by decide) rfl ?_
  intro pp ee ss mm aa below mt cd s₁ BB hml hv
  obtain ⟨rfl, hsz, hP, hK, hD0⟩ := hv
  have hx := BB.exec
  have hb := BB.bytes
  have hr := BB.returns
  have hts := atoms_spec (ws := wsX5_days) BB.pre
  have hown : ss.vm.findClass RX5 = some mm.cls := findClass_of_methodNamed BB.named
  have hlocks := BB.notSynchronized
  subst hsz
  have hD := hD0.self (sz := ss.heap.size)
  have hA : ∀ q : Nat, ss.heap.size ≤ q → va_A (w_X5_days G kx kim kit kre ksh kwa kta tf rf kb ka kc kcn kl kn w h la af nc fc kv km kg vw vh sl mk sg knn ns fs) ss.heap.size q := fun q h => Or.inr h
  have hS : va_S (va_A (w_X5_days G kx kim kit kre ksh kwa kta tf rf kb ka kc kcn kl kn w h la af nc fc kv km kg vw vh sl mk sg knn ns fs) ss.heap.size) ss.heap ss.heap [] := va_S.rf
  replace hD : va_D (va_A (w_X5_days G kx kim kit kre ksh kwa kta tf rf kb ka kc kcn kl kn w h la af nc fc kv km kg vw vh sl mk sg knn ns fs) ss.heap.size) [oC kx 5 [.ref kb, .ref kim, .ref kit, .ref kv, .ref kre, .int tf, .ref ksh, .int rf, .ref kwa, .ref kta], oC kb 0 [.int (nI w), .int (nI h), .int (nI la), .ref ka, .ref kc, .ref kl, .ref kn], iA G ka 16 af, oC kc 2 [.ref kcn, .int (nI 10), .int (nI nc)], iA G kcn (3 * 10) fc, oC kv 4 [.ref km, .ref kg, .int (nI vw), .int (nI vh), .int sl], iA G km 176 mk, iA G kg 160 sg, oC kn 2 [.ref knn, .int (nI 8), .int (nI ns)], iA G knn (3 * 8) fs] := hD
  replace hP : xP G [oC kx 5 [.ref kb, .ref kim, .ref kit, .ref kv, .ref kre, .int tf, .ref ksh, .int rf, .ref kwa, .ref kta], oC kb 0 [.int (nI w), .int (nI h), .int (nI la), .ref ka, .ref kc, .ref kl, .ref kn], iA G ka 16 af, oC kc 2 [.ref kcn, .int (nI 10), .int (nI nc)], iA G kcn (3 * 10) fc, oC kv 4 [.ref km, .ref kg, .int (nI vw), .int (nI vh), .int sl], iA G km 176 mk, iA G kg 160 sg, oC kn 2 [.ref knn, .int (nI 8), .int (nI ns)], iA G knn (3 * 8) fs] ss.heap := hP
  have hin0 : ∀ w ∈ u_ws RX0 TX0 7, w ∈ wsX5_days := fun w h => List.mem_cons_of_mem _ (List.mem_append_left _ (List.mem_append_left _ (List.mem_append_right _ h)))
  have hin2 : ∀ w ∈ u_ws RX2 TX2 3, w ∈ wsX5_days := fun w h => List.mem_cons_of_mem _ (List.mem_append_left _ (List.mem_append_right _ h))
  have hin4 : ∀ w ∈ u_ws RX4 TX4 5, w ∈ wsX5_days := fun w h => List.mem_cons_of_mem _ (List.mem_append_right _ h)
  have hin5 : ∀ w ∈ u_ws RX5 TX5 10, w ∈ wsX5_days := fun w h => List.mem_cons_of_mem _ (List.mem_append_left _ (List.mem_append_left _ (List.mem_append_left _ (List.mem_append_right _ h))))
  have hl := lv_entry ([.ref kx]) (n := 1) (Nat.le_of_ble_eq_true rfl)
  rw [lg_entry_eq]
  generalize (lg_sl ([.ref kx]) ++ List.replicate (1 - (lg_sl ([.ref kx])).length) Slot.unset).toArray = ls at hl ⊢
  replace hl : lv_has ls 1 [(0, .ref kx)] := hl
  refine lv_aload_n hx hb dX5_days_0 rfl (lv_at hl 0 rfl) ?_
  refine lv_aload_n hx hb dX5_days_1 rfl (lv_at hl 0 rfl) ?_
  refine va_get (D := G.1) (ci := 5) (v := .ref kb) (C := RX5) (T := TX5) (N := 10) hx hb hts hin5 hown hK.1 hP 0 rfl rfl 0 (by decide) (hts (.fieldLink RX5 10 "BackLenses" "book" "LBackLenses$Book;") (List.mem_of_getElem? (i := 1) rfl)) (fun _ h9 => h9) rfl dX5_days_2 ?_
  refine va_getN (D := G.1) (ci := 0) (v := .ref kn) (C := RX0) (T := TX0) (N := 7) hx hb hts hin0 hown hK.1 hP 1 rfl rfl 6 (by decide) (va_Nw.use rfl (hK.2 (Cond.fieldLinkNest "BackLenses" (161 : Nat) "BackLenses$Book" "shown" "LBackLenses$Rows;" "BackLenses") (List.mem_of_getElem? (i := 21) rfl))) (fun _ h9 => h9) rfl dX5_days_5 ?_
  refine va_getN (D := G.1) (ci := 2) (v := .int (nI ns)) (C := RX2) (T := TX2) (N := 3) hx hb hts hin2 hown hK.1 hP 8 rfl rfl 2 (by decide) (va_Nw.use rfl (hK.2 (Cond.fieldLinkNest "BackLenses" (97 : Nat) "BackLenses$Rows" "size" "I" "BackLenses") (List.mem_of_getElem? (i := 3) rfl))) (fun _ h9 => h9) rfl dX5_days_8 ?_
  refine xw_i (As := [.int (nI ns)]) (rest := []) (wr := []) ⟨hx, hb, hml, hown, hts⟩ (c_X5_fitting l G ss.heap.size kx kim kit kre ksh kwa kta tf rf kb ka kc kcn kl kn w h la af nc fc kv km kg vw vh sl mk sg knn ns fs ns (by first | assumption | omega) (by first | assumption | omega) (by first | assumption | omega) (by first | assumption | omega) (by first | assumption | omega) (by first | assumption | omega) (by first | assumption | omega) (by first | assumption | omega) (by first | assumption | omega) (by first | assumption | omega) (by first | assumption | omega)) (cwV 1 hts gX5_days_X5_fitting rfl rfl rfl (by decide +kernel) ⟨Nat.le_of_ble_eq_true rfl, Nat.le_of_ble_eq_true rfl⟩) hK hP hD hS hA [0, 1, 2, 3, 4, 5, 6, 7, 8, 9] [] rfl rfl (by decide) (by decide) (by decide) rfl rfl rfl hl.1 rfl (Nat.le_of_ble_eq_true rfl) dX5_days_11 ⟨Nat.le_of_ble_eq_true rfl, Nat.le_of_ble_eq_true rfl⟩ (fun r11 u H locs hp11 hP hD hS => ?_)
  obtain ⟨mk2_11, sg2_11, vw2_11, vh2_11, sl2_11⟩ := u
  try dsimp only at hp11 hP hD
  obtain ⟨rfl, he11⟩ := hp11
  replace hP : xP G [oC kx 5 [.ref kb, .ref kim, .ref kit, .ref kv, .ref kre, .int tf, .ref ksh, .int rf, .ref kwa, .ref kta], oC kb 0 [.int (nI w), .int (nI h), .int (nI la), .ref ka, .ref kc, .ref kl, .ref kn], iA G ka 16 af, oC kc 2 [.ref kcn, .int (nI 10), .int (nI nc)], iA G kcn (3 * 10) fc, oC kv 4 [.ref km, .ref kg, .int (nI vw2_11), .int (nI vh2_11), .int sl2_11], iA G km 176 mk2_11, iA G kg 160 sg2_11, oC kn 2 [.ref knn, .int (nI 8), .int (nI ns)], iA G knn (3 * 8) fs] H := hP
  replace hD : va_D (va_A (w_X5_days G kx kim kit kre ksh kwa kta tf rf kb ka kc kcn kl kn w h la af nc fc kv km kg vw vh sl mk sg knn ns fs) ss.heap.size) [oC kx 5 [.ref kb, .ref kim, .ref kit, .ref kv, .ref kre, .int tf, .ref ksh, .int rf, .ref kwa, .ref kta], oC kb 0 [.int (nI w), .int (nI h), .int (nI la), .ref ka, .ref kc, .ref kl, .ref kn], iA G ka 16 af, oC kc 2 [.ref kcn, .int (nI 10), .int (nI nc)], iA G kcn (3 * 10) fc, oC kv 4 [.ref km, .ref kg, .int (nI vw2_11), .int (nI vh2_11), .int sl2_11], iA G km 176 mk2_11, iA G kg 160 sg2_11, oC kn 2 [.ref knn, .int (nI 8), .int (nI ns)], iA G knn (3 * 8) fs] := hD
  have hP := hP.sub (ws' := [oC kx 5 [.ref kb, .ref kim, .ref kit, .ref kv, .ref kre, .int tf, .ref ksh, .int rf, .ref kwa, .ref kta], oC kb 0 [.int (nI w), .int (nI h), .int (nI la), .ref ka, .ref kc, .ref kl, .ref kn], iA G ka 16 af, oC kc 2 [.ref kcn, .int (nI 10), .int (nI nc)], iA G kcn (3 * 10) fc, oC kv 4 [.ref km, .ref kg, .int (nI vw2_11), .int (nI vh2_11), .int sl2_11], iA G km 176 mk2_11, iA G kg 160 sg2_11, oC kn 2 [.ref knn, .int (nI 8), .int (nI ns)], iA G knn (3 * 8) fs]) [0, 1, 2, 3, 4, 5, 6, 7, 8, 9] rfl
  have hD := hD.sub (ws' := [oC kx 5 [.ref kb, .ref kim, .ref kit, .ref kv, .ref kre, .int tf, .ref ksh, .int rf, .ref kwa, .ref kta], oC kb 0 [.int (nI w), .int (nI h), .int (nI la), .ref ka, .ref kc, .ref kl, .ref kn], iA G ka 16 af, oC kc 2 [.ref kcn, .int (nI 10), .int (nI nc)], iA G kcn (3 * 10) fc, oC kv 4 [.ref km, .ref kg, .int (nI vw2_11), .int (nI vh2_11), .int sl2_11], iA G km 176 mk2_11, iA G kg 160 sg2_11, oC kn 2 [.ref knn, .int (nI 8), .int (nI ns)], iA G knn (3 * 8) fs]) [0, 1, 2, 3, 4, 5, 6, 7, 8, 9] (by decide) rfl
  refine W.iret (v := fitS w h la af nc fc fs ns) hx hb hr (fun t ht hW => ⟨⟨fitS w h la af nc fc fs ns, (mk2_11, sg2_11, vw2_11, vh2_11, sl2_11), rfl, ?_, by rw [ht]; exact hP, hD⟩, hS.F ht⟩) hS.2.2 dX5_days_14
  try dsimp only
  exact ⟨rfl, he11⟩

abbrev w_X5_again (G : XG) (kx kim kit kre ksh kwa kta : Nat) (tf rf : Int32) (kb ka kc kcn kl kn : Nat) (w h la : Nat) (af : Nat → Int32) (nc : Nat) (fc : Nat → Int32) (kv km kg : Nat) (vw vh : Nat) (sl : Int32) (mk sg : Nat → Int32) : va_W := [oC kx 5 [.ref kb, .ref kim, .ref kit, .ref kv, .ref kre, .int tf, .ref ksh, .int rf, .ref kwa, .ref kta], oC kb 0 [.int (nI w), .int (nI h), .int (nI la), .ref ka, .ref kc, .ref kl, .ref kn], iA G ka 16 af, oC kc 2 [.ref kcn, .int (nI 10), .int (nI nc)], iA G kcn (3 * 10) fc, oC kv 4 [.ref km, .ref kg, .int (nI vw), .int (nI vh), .int sl], iA G km 176 mk, iA G kg 160 sg]
abbrev Q_X5_again (G : XG) (sz : Nat) (kx kim kit kre ksh kwa kta : Nat) (tf rf : Int32) (kb ka kc kcn kl kn : Nat) (w h la : Nat) (af : Nat → Int32) (nc : Nat) (fc : Nat → Int32) (kv km kg : Nat) (vw vh : Nat) (sl : Int32) (mk sg : Nat → Int32) : Array Value → State → Outcome → State → Prop := (va_Qi (fun (r : Int32) (u : (Nat → Int32) × (Nat → Int32) × Nat × Nat × Int32) => r = xbits (fun d => anyF (fun e => decide (unS w h af nc fc e d = 0)) d) (la + 1) ∧ VOK w h la af nc fc u.1 u.2.1 u.2.2.1 u.2.2.2.1 u.2.2.2.2) (xWb G sz (w_X5_again G kx kim kit kre ksh kwa kta tf rf kb ka kc kcn kl kn w h la af nc fc kv km kg vw vh sl mk sg) (fun u : (Nat → Int32) × (Nat → Int32) × Nat × Nat × Int32 => [oC kx 5 [.ref kb, .ref kim, .ref kit, .ref kv, .ref kre, .int tf, .ref ksh, .int rf, .ref kwa, .ref kta], oC kb 0 [.int (nI w), .int (nI h), .int (nI la), .ref ka, .ref kc, .ref kl, .ref kn], iA G ka 16 af, oC kc 2 [.ref kcn, .int (nI 10), .int (nI nc)], iA G kcn (3 * 10) fc, oC kv 4 [.ref km, .ref kg, .int (nI u.2.2.1), .int (nI u.2.2.2.1), .int u.2.2.2.2], iA G km 176 u.1, iA G kg 160 u.2.1])) (va_A (w_X5_again G kx kim kit kre ksh kwa kta tf rf kb ka kc kcn kl kn w h la af nc fc kv km kg vw vh sl mk sg) sz))
set_option maxHeartbeats 4000000 in
set_option maxRecDepth 100000 in
theorem c_X5_again (l : Launch) (G : XG) (sz : Nat) (kx kim kit kre ksh kwa kta : Nat) (tf rf : Int32) (kb ka kc kcn kl kn : Nat) (w h la : Nat) (af : Nat → Int32) (nc : Nat) (fc : Nat → Int32) (kv km kg : Nat) (vw vh : Nat) (sl : Int32) (mk sg : Nat → Int32) (hw : 1 ≤ w) (hwb : w ≤ 16) (hhb : h ≤ 16) (hwh : w * h ≤ 16) (hla : la ≤ 9) (hnc : nc ≤ 10) (hcell : ∀ i, i < nc → inR (fc (3 * i + 1)) 16) (hvok : VOK w h la af nc fc mk sg vw vh sl) : Met l yX5_again wsX5_again ({ frames := 4, cells := 0, slots := 0, locals := 96 } : Room) (va_Pc [.ref kx] (xWp G sz (w_X5_again G kx kim kit kre ksh kwa kta tf rf kb ka kc kcn kl kn w h la af nc fc kv km kg vw vh sl mk sg))) (Q_X5_again G sz kx kim kit kre ksh kwa kta tf rf kb ka kc kcn kl kn w h la af nc fc kv km kg vw vh sl mk sg) 0 0 (va_A (w_X5_again G kx kim kit kre ksh kwa kta tf rf kb ka kc kcn kl kn w h la af nc fc kv km kg vw vh sl mk sg) sz) := by
  refine Met.ofW (cc := cX5_again) (maxL := 5) (ret := (some .int)) (by decide) rfl ?_
  intro pp ee ss mm aa below mt cd s₁ BB hml hv
  obtain ⟨rfl, hsz, hP, hK, hD0⟩ := hv
  have hx := BB.exec
  have hb := BB.bytes
  have hr := BB.returns
  have hts := atoms_spec (ws := wsX5_again) BB.pre
  have hown : ss.vm.findClass RX5 = some mm.cls := findClass_of_methodNamed BB.named
  have hlocks := BB.notSynchronized
  subst hsz
  have hD := hD0.self (sz := ss.heap.size)
  have hA : ∀ q : Nat, ss.heap.size ≤ q → va_A (w_X5_again G kx kim kit kre ksh kwa kta tf rf kb ka kc kcn kl kn w h la af nc fc kv km kg vw vh sl mk sg) ss.heap.size q := fun q h => Or.inr h
  have hS : va_S (va_A (w_X5_again G kx kim kit kre ksh kwa kta tf rf kb ka kc kcn kl kn w h la af nc fc kv km kg vw vh sl mk sg) ss.heap.size) ss.heap ss.heap [] := va_S.rf
  replace hD : va_D (va_A (w_X5_again G kx kim kit kre ksh kwa kta tf rf kb ka kc kcn kl kn w h la af nc fc kv km kg vw vh sl mk sg) ss.heap.size) [oC kx 5 [.ref kb, .ref kim, .ref kit, .ref kv, .ref kre, .int tf, .ref ksh, .int rf, .ref kwa, .ref kta], oC kb 0 [.int (nI w), .int (nI h), .int (nI la), .ref ka, .ref kc, .ref kl, .ref kn], iA G ka 16 af, oC kc 2 [.ref kcn, .int (nI 10), .int (nI nc)], iA G kcn (3 * 10) fc, oC kv 4 [.ref km, .ref kg, .int (nI vw), .int (nI vh), .int sl], iA G km 176 mk, iA G kg 160 sg] := hD
  replace hP : xP G [oC kx 5 [.ref kb, .ref kim, .ref kit, .ref kv, .ref kre, .int tf, .ref ksh, .int rf, .ref kwa, .ref kta], oC kb 0 [.int (nI w), .int (nI h), .int (nI la), .ref ka, .ref kc, .ref kl, .ref kn], iA G ka 16 af, oC kc 2 [.ref kcn, .int (nI 10), .int (nI nc)], iA G kcn (3 * 10) fc, oC kv 4 [.ref km, .ref kg, .int (nI vw), .int (nI vh), .int sl], iA G km 176 mk, iA G kg 160 sg] ss.heap := hP
  have hin0 : ∀ w ∈ u_ws RX0 TX0 7, w ∈ wsX5_again := fun w h => List.mem_cons_of_mem _ (List.mem_append_left _ (List.mem_append_left _ (List.mem_append_right _ h)))
  have hin2 : ∀ w ∈ u_ws RX2 TX2 3, w ∈ wsX5_again := fun w h => List.mem_cons_of_mem _ (List.mem_append_right _ h)
  have hin4 : ∀ w ∈ u_ws RX4 TX4 5, w ∈ wsX5_again := fun w h => List.mem_cons_of_mem _ (List.mem_append_left _ (List.mem_append_right _ h))
  have hin5 : ∀ w ∈ u_ws RX5 TX5 10, w ∈ wsX5_again := fun w h => List.mem_cons_of_mem _ (List.mem_append_left _ (List.mem_append_left _ (List.mem_append_left _ (List.mem_append_right _ h))))
  have hl := lv_entry ([.ref kx]) (n := 5) (Nat.le_of_ble_eq_true rfl)
  rw [lg_entry_eq]
  generalize (lg_sl ([.ref kx]) ++ List.replicate (5 - (lg_sl ([.ref kx])).length) Slot.unset).toArray = ls at hl ⊢
  replace hl : lv_has ls 5 [(0, .ref kx)] := hl
  refine lv_aload_n hx hb dX5_again_0 rfl (lv_at hl 0 rfl) ?_
  refine xw_r (As := []) (rest := []) (wr := []) ⟨hx, hb, hml, hown, hts⟩ (c_X5_freshViews l G ss.heap.size kx kim kit kre ksh kwa kta tf rf kb ka kc kcn kl kn w h la af nc fc kv km kg vw vh sl mk sg (by first | assumption | omega) (by first | assumption | omega) (by first | assumption | omega) (by first | assumption | omega) (by first | assumption | omega) (by first | assumption | omega) (by first | assumption | omega) (by first | assumption | omega)) (cwV 0 hts gX5_again_X5_freshViews rfl rfl rfl (by decide +kernel) ⟨Nat.le_of_ble_eq_true rfl, Nat.le_of_ble_eq_true rfl⟩) hK hP hD hS hA [0, 1, 2, 3, 4, 5, 6, 7] [] rfl rfl (by decide) (by decide) (by decide) rfl rfl rfl hl.1 rfl (Nat.le_of_ble_eq_true rfl) dX5_again_1 ⟨Nat.le_of_ble_eq_true rfl, Nat.le_of_ble_eq_true rfl⟩ (fun u H locs hp1 hP hD hS => ?_)
  obtain ⟨mk2_1, sg2_1⟩ := u
  try dsimp only at hp1 hP hD
  have he1 := hp1
  replace hP : xP G [oC kx 5 [.ref kb, .ref kim, .ref kit, .ref kv, .ref kre, .int tf, .ref ksh, .int rf, .ref kwa, .ref kta], oC kb 0 [.int (nI w), .int (nI h), .int (nI la), .ref ka, .ref kc, .ref kl, .ref kn], iA G ka 16 af, oC kc 2 [.ref kcn, .int (nI 10), .int (nI nc)], iA G kcn (3 * 10) fc, oC kv 4 [.ref km, .ref kg, .int (nI w), .int (nI h), .int (nI 0)], iA G km 176 mk2_1, iA G kg 160 sg2_1] H := hP
  replace hD : va_D (va_A (w_X5_again G kx kim kit kre ksh kwa kta tf rf kb ka kc kcn kl kn w h la af nc fc kv km kg vw vh sl mk sg) ss.heap.size) [oC kx 5 [.ref kb, .ref kim, .ref kit, .ref kv, .ref kre, .int tf, .ref ksh, .int rf, .ref kwa, .ref kta], oC kb 0 [.int (nI w), .int (nI h), .int (nI la), .ref ka, .ref kc, .ref kl, .ref kn], iA G ka 16 af, oC kc 2 [.ref kcn, .int (nI 10), .int (nI nc)], iA G kcn (3 * 10) fc, oC kv 4 [.ref km, .ref kg, .int (nI w), .int (nI h), .int (nI 0)], iA G km 176 mk2_1, iA G kg 160 sg2_1] := hD
  refine lv_astore_n (lv' := [(1, .ref kv), (0, .ref kx)]) hx hb dX5_again_4 rfl hl (by decide) rfl (fun ls hl => ?_)
  refine lv_iconst (v := nI 0) hx hb dX5_again_5 (by decide) ?_
  refine lv_istore_n (lv' := [(2, .int (nI 0)), (1, .ref kv), (0, .ref kx)]) hx hb dX5_again_6 rfl hl (by decide) rfl (fun ls hl => ?_)
  refine lv_iconst (v := nI 1) hx hb dX5_again_7 (by decide) ?_
  refine lv_istore_n (lv' := [(3, .int (nI 1)), (2, .int (nI 0)), (1, .ref kv), (0, .ref kx)]) hx hb dX5_again_8 rfl hl (by decide) rfl (fun ls hl => ?_)
  have hL9 : ∀ k : Nat, ∀ (d : Nat) (bits : Int32) (ls : Array Slot) (H : Heap) (locs : List Loc), la + 1 - d = k → (1 ≤ d) → (d ≤ la + 1 ∨ d = 1) → (bits = xbits (fun d => anyF (fun e => decide (unS w h af nc fc e d = 0)) d) d) → lv_has ls 5 [(0, .ref kx), (1, .ref kv), (2, .int bits), (3, .int (nI d))] → xP G [iA G ka 16 af, oC kb 0 [.int (nI w), .int (nI h), .int (nI la), .ref ka, .ref kc, .ref kl, .ref kn], oC kc 2 [.ref kcn, .int (nI 10), .int (nI nc)], iA G kcn (3 * 10) fc, iA G kg 160 sg2_1, iA G km 176 mk2_1, oC kv 4 [.ref km, .ref kg, .int (nI w), .int (nI h), .int (nI 0)], oC kx 5 [.ref kb, .ref kim, .ref kit, .ref kv, .ref kre, .int tf, .ref ksh, .int rf, .ref kwa, .ref kta]] H → va_D (va_A (w_X5_again G kx kim kit kre ksh kwa kta tf rf kb ka kc kcn kl kn w h la af nc fc kv km kg vw vh sl mk sg) ss.heap.size) [iA G ka 16 af, oC kb 0 [.int (nI w), .int (nI h), .int (nI la), .ref ka, .ref kc, .ref kl, .ref kn], oC kc 2 [.ref kcn, .int (nI 10), .int (nI nc)], iA G kcn (3 * 10) fc, iA G kg 160 sg2_1, iA G km 176 mk2_1, oC kv 4 [.ref km, .ref kg, .int (nI w), .int (nI h), .int (nI 0)], oC kx 5 [.ref kb, .ref kim, .ref kit, .ref kv, .ref kre, .int tf, .ref ksh, .int rf, .ref kwa, .ref kta]] → va_S (va_A (w_X5_again G kx kim kit kre ksh kwa kta tf rf kb ka kc kcn kl kn w h la af nc fc kv km kg vw vh sl mk sg) ss.heap.size) ss.heap H locs → W pp l ee ({ frames := 4, cells := 0, slots := 0, locals := 96 } : Room) ss mm ([.ref kx] : List Value).toArray below mt cd H locs 0 0 (MQ below (Q_X5_again G ss.heap.size kx kim kit kre ksh kwa kta tf rf kb ka kc kcn kl kn w h la af nc fc kv km kg vw vh sl mk sg) ([.ref kx] : List Value).toArray ss 0 0 (va_A (w_X5_again G kx kim kit kre ksh kwa kta tf rf kb ka kc kcn kl kn w h la af nc fc kv km kg vw vh sl mk sg) ss.heap.size)) (F0 mm 9 ls []) := by
    intro k
    induction k using Nat.strongRecOn with
    | _ k ih9 =>
    intro d bits ls H locs hm9 h1d hd hbits hl hP hD hS
    refine lv_iload_n hx hb dX5_again_9 rfl (lv_at hl 3 rfl) ?_
    refine lv_aload_n hx hb dX5_again_10 rfl (lv_at hl 0 rfl) ?_
    refine va_get (D := G.1) (ci := 5) (v := .ref kb) (C := RX5) (T := TX5) (N := 10) hx hb hts hin5 hown hK.1 hP 7 rfl rfl 0 (by decide) (hts (.fieldLink RX5 10 "BackLenses" "book" "LBackLenses$Book;") (List.mem_of_getElem? (i := 1) rfl)) (fun _ h9 => h9) rfl dX5_again_11 ?_
    refine va_getN (D := G.1) (ci := 0) (v := .int (nI la)) (C := RX0) (T := TX0) (N := 7) hx hb hts hin0 hown hK.1 hP 1 rfl rfl 2 (by decide) (va_Nw.use rfl (hK.2 (Cond.fieldLinkNest "BackLenses" (90 : Nat) "BackLenses$Book" "last" "I" "BackLenses") (List.mem_of_getElem? (i := 11) rfl))) (fun _ h9 => h9) rfl dX5_again_14 ?_
    refine xn_icmp_gt (tgt := 60) hx hb (by omega) (by omega) dX5_again_17 rfl (fun b17 => ?_) (fun b17 => ?_)
    · skip
      refine lv_iload_n hx hb dX5_again_60 rfl (lv_at hl 2 rfl) ?_
      have hP := hP.sub (ws' := [oC kx 5 [.ref kb, .ref kim, .ref kit, .ref kv, .ref kre, .int tf, .ref ksh, .int rf, .ref kwa, .ref kta], oC kb 0 [.int (nI w), .int (nI h), .int (nI la), .ref ka, .ref kc, .ref kl, .ref kn], iA G ka 16 af, oC kc 2 [.ref kcn, .int (nI 10), .int (nI nc)], iA G kcn (3 * 10) fc, oC kv 4 [.ref km, .ref kg, .int (nI w), .int (nI h), .int (nI 0)], iA G km 176 mk2_1, iA G kg 160 sg2_1]) [7, 1, 0, 2, 3, 6, 5, 4] rfl
      have hD := hD.sub (ws' := [oC kx 5 [.ref kb, .ref kim, .ref kit, .ref kv, .ref kre, .int tf, .ref ksh, .int rf, .ref kwa, .ref kta], oC kb 0 [.int (nI w), .int (nI h), .int (nI la), .ref ka, .ref kc, .ref kl, .ref kn], iA G ka 16 af, oC kc 2 [.ref kcn, .int (nI 10), .int (nI nc)], iA G kcn (3 * 10) fc, oC kv 4 [.ref km, .ref kg, .int (nI w), .int (nI h), .int (nI 0)], iA G km 176 mk2_1, iA G kg 160 sg2_1]) [7, 1, 0, 2, 3, 6, 5, 4] (by decide) rfl
      refine W.iret (v := bits) hx hb hr (fun t ht hW => ⟨⟨bits, (mk2_1, sg2_1, w, h, nI 0), rfl, ?_, by rw [ht]; exact hP, hD⟩, hS.F ht⟩) hS.2.2 dX5_again_61
      try dsimp only
      refine ⟨?_, VOK_fr he1⟩; rcases hd with hd | hd; (rw [hbits, show d = la + 1 by omega]); (rw [hbits, show d = la + 1 by omega])
    · skip
      refine lv_iconst (v := nI 0) hx hb dX5_again_20 (by decide) ?_
      refine lv_istore (lv' := [(4, .int (nI 0)), (0, .ref kx), (1, .ref kv), (2, .int bits), (3, .int (nI d))]) hx hb dX5_again_21 hl (by decide) rfl (fun ls hl => ?_)
      have hL23 : ∀ k : Nat, ∀ (e : Nat) (ls : Array Slot) (H : Heap) (locs : List Loc), d - e = k → (e ≤ d) → (anyF (fun e => decide (unS w h af nc fc e d = 0)) e = false) → lv_has ls 5 [(0, .ref kx), (1, .ref kv), (2, .int bits), (3, .int (nI d)), (4, .int (nI e))] → xP G [iA G ka 16 af, oC kb 0 [.int (nI w), .int (nI h), .int (nI la), .ref ka, .ref kc, .ref kl, .ref kn], oC kc 2 [.ref kcn, .int (nI 10), .int (nI nc)], iA G kcn (3 * 10) fc, iA G kg 160 sg2_1, iA G km 176 mk2_1, oC kv 4 [.ref km, .ref kg, .int (nI w), .int (nI h), .int (nI 0)], oC kx 5 [.ref kb, .ref kim, .ref kit, .ref kv, .ref kre, .int tf, .ref ksh, .int rf, .ref kwa, .ref kta]] H → va_D (va_A (w_X5_again G kx kim kit kre ksh kwa kta tf rf kb ka kc kcn kl kn w h la af nc fc kv km kg vw vh sl mk sg) ss.heap.size) [iA G ka 16 af, oC kb 0 [.int (nI w), .int (nI h), .int (nI la), .ref ka, .ref kc, .ref kl, .ref kn], oC kc 2 [.ref kcn, .int (nI 10), .int (nI nc)], iA G kcn (3 * 10) fc, iA G kg 160 sg2_1, iA G km 176 mk2_1, oC kv 4 [.ref km, .ref kg, .int (nI w), .int (nI h), .int (nI 0)], oC kx 5 [.ref kb, .ref kim, .ref kit, .ref kv, .ref kre, .int tf, .ref ksh, .int rf, .ref kwa, .ref kta]] → va_S (va_A (w_X5_again G kx kim kit kre ksh kwa kta tf rf kb ka kc kcn kl kn w h la af nc fc kv km kg vw vh sl mk sg) ss.heap.size) ss.heap H locs → W pp l ee ({ frames := 4, cells := 0, slots := 0, locals := 96 } : Room) ss mm ([.ref kx] : List Value).toArray below mt cd H locs 0 0 (MQ below (Q_X5_again G ss.heap.size kx kim kit kre ksh kwa kta tf rf kb ka kc kcn kl kn w h la af nc fc kv km kg vw vh sl mk sg) ([.ref kx] : List Value).toArray ss 0 0 (va_A (w_X5_again G kx kim kit kre ksh kwa kta tf rf kb ka kc kcn kl kn w h la af nc fc kv km kg vw vh sl mk sg) ss.heap.size)) (F0 mm 23 ls []) := by
        intro k
        induction k using Nat.strongRecOn with
        | _ k ih23 =>
        intro e ls H locs hm23 hei hne hl hP hD hS
        refine lv_iload hx hb dX5_again_23 (lv_at hl 4 rfl) ?_
        refine lv_iload_n hx hb dX5_again_25 rfl (lv_at hl 3 rfl) ?_
        refine xn_icmp_ge (tgt := 54) hx hb (by omega) (by omega) dX5_again_26 rfl (fun b26 => ?_) (fun b26 => ?_)
        · skip
          refine lv_iinc (k := 3) (v := nI (d + 1)) (lv' := [(3, .int (nI (d + 1))), (0, .ref kx), (1, .ref kv), (2, .int bits), (4, .int (nI e))]) hx hb dX5_again_54 hl rfl (xn_inc d 1) (by decide) rfl (fun ls hl => ?_)
          refine lv_goto (tgt := 9) hx hb dX5_again_57 rfl ?_
          have hl := lv_sub hl (l' := [(0, .ref kx), (1, .ref kv), (2, .int bits), (3, .int (nI (d + 1)))]) [1, 2, 3, 0] rfl
          exact ih9 (la + 1 - (d + 1)) (by omega) (d + 1) bits ls H locs rfl (by omega) (by omega) (by first | exact xbits_T hyes hbits | exact xbits_N (by rw [show e = d by omega] at hne; exact hne) hbits) hl hP hD hS
        · skip
          refine lv_aload_n hx hb dX5_again_29 rfl (lv_at hl 1 rfl) ?_
          refine lv_iload hx hb dX5_again_30 (lv_at hl 4 rfl) ?_
          refine lv_iload_n hx hb dX5_again_32 rfl (lv_at hl 3 rfl) ?_
          refine xr_i (As := [.int (nI e), .int (nI d)]) (rest := []) ⟨hx, hb, hml, hown, hts⟩ (c_X4_unlike l G kv km kg w h (nI 0) mk2_1 e d (by first | assumption | omega) (by first | assumption | omega) (by first | assumption | omega)) (cwV 2 hts gX5_again_X4_unlike rfl rfl rfl (by decide +kernel) ⟨Nat.le_of_ble_eq_true rfl, Nat.le_of_ble_eq_true rfl⟩) hK hP hS [6, 5] rfl rfl rfl rfl hl.1 rfl (Nat.le_of_ble_eq_true rfl) dX5_again_33 ⟨Nat.zero_le _, Nat.zero_le _⟩ (fun r33 H locs hp33 hP hS => ?_)
          obtain rfl : r33 = xbits (fun c => !decide (mk2_1 (e * 16 + c) = mk2_1 (d * 16 + c))) (w * h) := hp33
          refine xn_top (FR_unl he1 hwh (by omega) (by omega)) ?_
          refine lv_if_ne (tgt := 48) hx hb dX5_again_36 rfl (fun b36 => ?_) (fun b36 => ?_)
          · skip
            refine lv_iinc (k := 4) (v := nI (e + 1)) (lv' := [(4, .int (nI (e + 1))), (0, .ref kx), (1, .ref kv), (2, .int bits), (3, .int (nI d))]) hx hb dX5_again_48 hl rfl (xn_inc e 1) (by decide) rfl (fun ls hl => ?_)
            refine lv_goto (tgt := 23) hx hb dX5_again_51 rfl ?_
            have hl := lv_sub hl (l' := [(0, .ref kx), (1, .ref kv), (2, .int bits), (3, .int (nI d)), (4, .int (nI (e + 1)))]) [1, 2, 3, 4, 0] rfl
            exact ih23 (d - (e + 1)) (by omega) (e + 1) ls H locs rfl (by omega) (by rw [anyF, hne, Bool.false_or]; exact decide_eq_false b36) hl hP hD hS
          · skip
            have hyes : anyF (fun e => decide (unS w h af nc fc e d = 0)) d = true := anyF_true (i := e) (by omega) (decide_eq_true b36)
            refine lv_iload_n hx hb dX5_again_39 rfl (lv_at hl 2 rfl) ?_
            refine lv_iconst (v := nI 1) hx hb dX5_again_40 (by decide) ?_
            refine lv_iload_n hx hb dX5_again_41 rfl (lv_at hl 3 rfl) ?_
            refine lv_ishl hx hb dX5_again_42 ?_
            refine lv_ior hx hb dX5_again_43 ?_
            refine lv_istore_n (lv' := [(2, .int (bits ||| ((nI 1) <<< ((nI d) &&& 31)))), (0, .ref kx), (1, .ref kv), (3, .int (nI d)), (4, .int (nI e))]) hx hb dX5_again_44 rfl hl (by decide) rfl (fun ls hl => ?_)
            refine lv_goto (tgt := 54) hx hb dX5_again_45 rfl ?_
            refine lv_iinc (k := 3) (v := nI (d + 1)) (lv' := [(3, .int (nI (d + 1))), (2, .int (bits ||| ((nI 1) <<< ((nI d) &&& 31)))), (0, .ref kx), (1, .ref kv), (4, .int (nI e))]) hx hb dX5_again_54 hl rfl (xn_inc d 1) (by decide) rfl (fun ls hl => ?_)
            refine lv_goto (tgt := 9) hx hb dX5_again_57 rfl ?_
            have hl := lv_sub hl (l' := [(0, .ref kx), (1, .ref kv), (2, .int (bits ||| ((nI 1) <<< ((nI d) &&& 31)))), (3, .int (nI (d + 1)))]) [2, 3, 1, 0] rfl
            exact ih9 (la + 1 - (d + 1)) (by omega) (d + 1) (bits ||| ((nI 1) <<< ((nI d) &&& 31))) ls H locs rfl (by omega) (by omega) (by first | exact xbits_T hyes hbits | exact xbits_N (by rw [show e = d by omega] at hne; exact hne) hbits) hl hP hD hS
      have hl := lv_sub hl (l' := [(0, .ref kx), (1, .ref kv), (2, .int bits), (3, .int (nI d)), (4, .int (nI 0))]) [1, 2, 3, 4, 0] rfl
      exact hL23 (d - 0) 0 ls H locs rfl (by omega) (by rfl) hl hP hD hS
  have hl := lv_sub hl (l' := [(0, .ref kx), (1, .ref kv), (2, .int (nI 0)), (3, .int (nI 1))]) [3, 2, 1, 0] rfl
  have hP := hP.sub (ws' := [iA G ka 16 af, oC kb 0 [.int (nI w), .int (nI h), .int (nI la), .ref ka, .ref kc, .ref kl, .ref kn], oC kc 2 [.ref kcn, .int (nI 10), .int (nI nc)], iA G kcn (3 * 10) fc, iA G kg 160 sg2_1, iA G km 176 mk2_1, oC kv 4 [.ref km, .ref kg, .int (nI w), .int (nI h), .int (nI 0)], oC kx 5 [.ref kb, .ref kim, .ref kit, .ref kv, .ref kre, .int tf, .ref ksh, .int rf, .ref kwa, .ref kta]]) [2, 1, 3, 4, 7, 6, 5, 0] rfl
  have hD := hD.sub (ws' := [iA G ka 16 af, oC kb 0 [.int (nI w), .int (nI h), .int (nI la), .ref ka, .ref kc, .ref kl, .ref kn], oC kc 2 [.ref kcn, .int (nI 10), .int (nI nc)], iA G kcn (3 * 10) fc, iA G kg 160 sg2_1, iA G km 176 mk2_1, oC kv 4 [.ref km, .ref kg, .int (nI w), .int (nI h), .int (nI 0)], oC kx 5 [.ref kb, .ref kim, .ref kit, .ref kv, .ref kre, .int tf, .ref ksh, .int rf, .ref kwa, .ref kta]]) [2, 1, 3, 4, 7, 6, 5, 0] (by decide) rfl
  exact hL9 (la + 1 - 1) 1 (nI 0) ls H locs rfl (by omega) (by omega) (by rfl) hl hP hD hS

abbrev w_X5_daysOfChange (G : XG) (kx kim kit kre ksh kwa kta : Nat) (tf rf : Int32) (kb ka kc kcn kl kn : Nat) (w h la : Nat) (af : Nat → Int32) (nc : Nat) (fc : Nat → Int32) (kv km kg : Nat) (vw vh : Nat) (sl : Int32) (mk sg : Nat → Int32) : va_W := [oC kx 5 [.ref kb, .ref kim, .ref kit, .ref kv, .ref kre, .int tf, .ref ksh, .int rf, .ref kwa, .ref kta], oC kb 0 [.int (nI w), .int (nI h), .int (nI la), .ref ka, .ref kc, .ref kl, .ref kn], iA G ka 16 af, oC kc 2 [.ref kcn, .int (nI 10), .int (nI nc)], iA G kcn (3 * 10) fc, oC kv 4 [.ref km, .ref kg, .int (nI vw), .int (nI vh), .int sl], iA G km 176 mk, iA G kg 160 sg]
abbrev Q_X5_daysOfChange (G : XG) (sz : Nat) (kx kim kit kre ksh kwa kta : Nat) (tf rf : Int32) (kb ka kc kcn kl kn : Nat) (w h la : Nat) (af : Nat → Int32) (nc : Nat) (fc : Nat → Int32) (kv km kg : Nat) (vw vh : Nat) (sl : Int32) (mk sg : Nat → Int32) : Array Value → State → Outcome → State → Prop := (va_Qi (fun (r : Int32) (u : (Nat → Int32) × (Nat → Int32) × Nat × Nat × Int32) => r = nI (cntF (fun d => decide (¬ unS w h af nc fc d (d + 1) = 0)) la) ∧ VOK w h la af nc fc u.1 u.2.1 u.2.2.1 u.2.2.2.1 u.2.2.2.2) (xWb G sz (w_X5_daysOfChange G kx kim kit kre ksh kwa kta tf rf kb ka kc kcn kl kn w h la af nc fc kv km kg vw vh sl mk sg) (fun u : (Nat → Int32) × (Nat → Int32) × Nat × Nat × Int32 => [oC kx 5 [.ref kb, .ref kim, .ref kit, .ref kv, .ref kre, .int tf, .ref ksh, .int rf, .ref kwa, .ref kta], oC kb 0 [.int (nI w), .int (nI h), .int (nI la), .ref ka, .ref kc, .ref kl, .ref kn], iA G ka 16 af, oC kc 2 [.ref kcn, .int (nI 10), .int (nI nc)], iA G kcn (3 * 10) fc, oC kv 4 [.ref km, .ref kg, .int (nI u.2.2.1), .int (nI u.2.2.2.1), .int u.2.2.2.2], iA G km 176 u.1, iA G kg 160 u.2.1])) (va_A (w_X5_daysOfChange G kx kim kit kre ksh kwa kta tf rf kb ka kc kcn kl kn w h la af nc fc kv km kg vw vh sl mk sg) sz))
set_option maxHeartbeats 4000000 in
set_option maxRecDepth 100000 in
theorem c_X5_daysOfChange (l : Launch) (G : XG) (sz : Nat) (kx kim kit kre ksh kwa kta : Nat) (tf rf : Int32) (kb ka kc kcn kl kn : Nat) (w h la : Nat) (af : Nat → Int32) (nc : Nat) (fc : Nat → Int32) (kv km kg : Nat) (vw vh : Nat) (sl : Int32) (mk sg : Nat → Int32) (hw : 1 ≤ w) (hwb : w ≤ 16) (hhb : h ≤ 16) (hwh : w * h ≤ 16) (hla : la ≤ 9) (hnc : nc ≤ 10) (hcell : ∀ i, i < nc → inR (fc (3 * i + 1)) 16) (hvok : VOK w h la af nc fc mk sg vw vh sl) : Met l yX5_daysOfChange wsX5_daysOfChange ({ frames := 4, cells := 0, slots := 0, locals := 96 } : Room) (va_Pc [.ref kx] (xWp G sz (w_X5_daysOfChange G kx kim kit kre ksh kwa kta tf rf kb ka kc kcn kl kn w h la af nc fc kv km kg vw vh sl mk sg))) (Q_X5_daysOfChange G sz kx kim kit kre ksh kwa kta tf rf kb ka kc kcn kl kn w h la af nc fc kv km kg vw vh sl mk sg) 0 0 (va_A (w_X5_daysOfChange G kx kim kit kre ksh kwa kta tf rf kb ka kc kcn kl kn w h la af nc fc kv km kg vw vh sl mk sg) sz) := by
  refine Met.ofW (cc := cX5_daysOfChange) (maxL := 4) (ret := (some .int)) (by decide) rfl ?_
  intro pp ee ss mm aa below mt cd s₁ BB hml hv
  obtain ⟨rfl, hsz, hP, hK, hD0⟩ := hv
  have hx := BB.exec
  have hb := BB.bytes
  have hr := BB.returns
  have hts := atoms_spec (ws := wsX5_daysOfChange) BB.pre
  have hown : ss.vm.findClass RX5 = some mm.cls := findClass_of_methodNamed BB.named
  have hlocks := BB.notSynchronized
  subst hsz
  have hD := hD0.self (sz := ss.heap.size)
  have hA : ∀ q : Nat, ss.heap.size ≤ q → va_A (w_X5_daysOfChange G kx kim kit kre ksh kwa kta tf rf kb ka kc kcn kl kn w h la af nc fc kv km kg vw vh sl mk sg) ss.heap.size q := fun q h => Or.inr h
  have hS : va_S (va_A (w_X5_daysOfChange G kx kim kit kre ksh kwa kta tf rf kb ka kc kcn kl kn w h la af nc fc kv km kg vw vh sl mk sg) ss.heap.size) ss.heap ss.heap [] := va_S.rf
  replace hD : va_D (va_A (w_X5_daysOfChange G kx kim kit kre ksh kwa kta tf rf kb ka kc kcn kl kn w h la af nc fc kv km kg vw vh sl mk sg) ss.heap.size) [oC kx 5 [.ref kb, .ref kim, .ref kit, .ref kv, .ref kre, .int tf, .ref ksh, .int rf, .ref kwa, .ref kta], oC kb 0 [.int (nI w), .int (nI h), .int (nI la), .ref ka, .ref kc, .ref kl, .ref kn], iA G ka 16 af, oC kc 2 [.ref kcn, .int (nI 10), .int (nI nc)], iA G kcn (3 * 10) fc, oC kv 4 [.ref km, .ref kg, .int (nI vw), .int (nI vh), .int sl], iA G km 176 mk, iA G kg 160 sg] := hD
  replace hP : xP G [oC kx 5 [.ref kb, .ref kim, .ref kit, .ref kv, .ref kre, .int tf, .ref ksh, .int rf, .ref kwa, .ref kta], oC kb 0 [.int (nI w), .int (nI h), .int (nI la), .ref ka, .ref kc, .ref kl, .ref kn], iA G ka 16 af, oC kc 2 [.ref kcn, .int (nI 10), .int (nI nc)], iA G kcn (3 * 10) fc, oC kv 4 [.ref km, .ref kg, .int (nI vw), .int (nI vh), .int sl], iA G km 176 mk, iA G kg 160 sg] ss.heap := hP
  have hin0 : ∀ w ∈ u_ws RX0 TX0 7, w ∈ wsX5_daysOfChange := fun w h => List.mem_cons_of_mem _ (List.mem_append_left _ (List.mem_append_left _ (List.mem_append_right _ h)))
  have hin2 : ∀ w ∈ u_ws RX2 TX2 3, w ∈ wsX5_daysOfChange := fun w h => List.mem_cons_of_mem _ (List.mem_append_right _ h)
  have hin4 : ∀ w ∈ u_ws RX4 TX4 5, w ∈ wsX5_daysOfChange := fun w h => List.mem_cons_of_mem _ (List.mem_append_left _ (List.mem_append_right _ h))
  have hin5 : ∀ w ∈ u_ws RX5 TX5 10, w ∈ wsX5_daysOfChange := fun w h => List.mem_cons_of_mem _ (List.mem_append_left _ (List.mem_append_left _ (List.mem_append_left _ (List.mem_append_right _ h))))
  have hl := lv_entry ([.ref kx]) (n := 4) (Nat.le_of_ble_eq_true rfl)
  rw [lg_entry_eq]
  generalize (lg_sl ([.ref kx]) ++ List.replicate (4 - (lg_sl ([.ref kx])).length) Slot.unset).toArray = ls at hl ⊢
  replace hl : lv_has ls 4 [(0, .ref kx)] := hl
  refine lv_aload_n hx hb dX5_daysOfChange_0 rfl (lv_at hl 0 rfl) ?_
  refine xw_r (As := []) (rest := []) (wr := []) ⟨hx, hb, hml, hown, hts⟩ (c_X5_freshViews l G ss.heap.size kx kim kit kre ksh kwa kta tf rf kb ka kc kcn kl kn w h la af nc fc kv km kg vw vh sl mk sg (by first | assumption | omega) (by first | assumption | omega) (by first | assumption | omega) (by first | assumption | omega) (by first | assumption | omega) (by first | assumption | omega) (by first | assumption | omega) (by first | assumption | omega)) (cwV 0 hts gX5_daysOfChange_X5_freshViews rfl rfl rfl (by decide +kernel) ⟨Nat.le_of_ble_eq_true rfl, Nat.le_of_ble_eq_true rfl⟩) hK hP hD hS hA [0, 1, 2, 3, 4, 5, 6, 7] [] rfl rfl (by decide) (by decide) (by decide) rfl rfl rfl hl.1 rfl (Nat.le_of_ble_eq_true rfl) dX5_daysOfChange_1 ⟨Nat.le_of_ble_eq_true rfl, Nat.le_of_ble_eq_true rfl⟩ (fun u H locs hp1 hP hD hS => ?_)
  obtain ⟨mk2_1, sg2_1⟩ := u
  try dsimp only at hp1 hP hD
  have he1 := hp1
  replace hP : xP G [oC kx 5 [.ref kb, .ref kim, .ref kit, .ref kv, .ref kre, .int tf, .ref ksh, .int rf, .ref kwa, .ref kta], oC kb 0 [.int (nI w), .int (nI h), .int (nI la), .ref ka, .ref kc, .ref kl, .ref kn], iA G ka 16 af, oC kc 2 [.ref kcn, .int (nI 10), .int (nI nc)], iA G kcn (3 * 10) fc, oC kv 4 [.ref km, .ref kg, .int (nI w), .int (nI h), .int (nI 0)], iA G km 176 mk2_1, iA G kg 160 sg2_1] H := hP
  replace hD : va_D (va_A (w_X5_daysOfChange G kx kim kit kre ksh kwa kta tf rf kb ka kc kcn kl kn w h la af nc fc kv km kg vw vh sl mk sg) ss.heap.size) [oC kx 5 [.ref kb, .ref kim, .ref kit, .ref kv, .ref kre, .int tf, .ref ksh, .int rf, .ref kwa, .ref kta], oC kb 0 [.int (nI w), .int (nI h), .int (nI la), .ref ka, .ref kc, .ref kl, .ref kn], iA G ka 16 af, oC kc 2 [.ref kcn, .int (nI 10), .int (nI nc)], iA G kcn (3 * 10) fc, oC kv 4 [.ref km, .ref kg, .int (nI w), .int (nI h), .int (nI 0)], iA G km 176 mk2_1, iA G kg 160 sg2_1] := hD
  refine lv_astore_n (lv' := [(1, .ref kv), (0, .ref kx)]) hx hb dX5_daysOfChange_4 rfl hl (by decide) rfl (fun ls hl => ?_)
  refine lv_iconst (v := nI 0) hx hb dX5_daysOfChange_5 (by decide) ?_
  refine lv_istore_n (lv' := [(2, .int (nI 0)), (1, .ref kv), (0, .ref kx)]) hx hb dX5_daysOfChange_6 rfl hl (by decide) rfl (fun ls hl => ?_)
  refine lv_iconst (v := nI 1) hx hb dX5_daysOfChange_7 (by decide) ?_
  refine lv_istore_n (lv' := [(3, .int (nI 1)), (2, .int (nI 0)), (1, .ref kv), (0, .ref kx)]) hx hb dX5_daysOfChange_8 rfl hl (by decide) rfl (fun ls hl => ?_)
  have hL9 : ∀ k : Nat, ∀ (d : Nat) (n : Nat) (ls : Array Slot) (H : Heap) (locs : List Loc), la - d = k → (d ≤ la) → (n = cntF (fun d => decide (¬ unS w h af nc fc d (d + 1) = 0)) d) → lv_has ls 4 [(0, .ref kx), (1, .ref kv), (2, .int (nI n)), (3, .int (nI (d + 1)))] → xP G [iA G ka 16 af, oC kb 0 [.int (nI w), .int (nI h), .int (nI la), .ref ka, .ref kc, .ref kl, .ref kn], oC kc 2 [.ref kcn, .int (nI 10), .int (nI nc)], iA G kcn (3 * 10) fc, iA G kg 160 sg2_1, iA G km 176 mk2_1, oC kv 4 [.ref km, .ref kg, .int (nI w), .int (nI h), .int (nI 0)], oC kx 5 [.ref kb, .ref kim, .ref kit, .ref kv, .ref kre, .int tf, .ref ksh, .int rf, .ref kwa, .ref kta]] H → va_D (va_A (w_X5_daysOfChange G kx kim kit kre ksh kwa kta tf rf kb ka kc kcn kl kn w h la af nc fc kv km kg vw vh sl mk sg) ss.heap.size) [iA G ka 16 af, oC kb 0 [.int (nI w), .int (nI h), .int (nI la), .ref ka, .ref kc, .ref kl, .ref kn], oC kc 2 [.ref kcn, .int (nI 10), .int (nI nc)], iA G kcn (3 * 10) fc, iA G kg 160 sg2_1, iA G km 176 mk2_1, oC kv 4 [.ref km, .ref kg, .int (nI w), .int (nI h), .int (nI 0)], oC kx 5 [.ref kb, .ref kim, .ref kit, .ref kv, .ref kre, .int tf, .ref ksh, .int rf, .ref kwa, .ref kta]] → va_S (va_A (w_X5_daysOfChange G kx kim kit kre ksh kwa kta tf rf kb ka kc kcn kl kn w h la af nc fc kv km kg vw vh sl mk sg) ss.heap.size) ss.heap H locs → W pp l ee ({ frames := 4, cells := 0, slots := 0, locals := 96 } : Room) ss mm ([.ref kx] : List Value).toArray below mt cd H locs 0 0 (MQ below (Q_X5_daysOfChange G ss.heap.size kx kim kit kre ksh kwa kta tf rf kb ka kc kcn kl kn w h la af nc fc kv km kg vw vh sl mk sg) ([.ref kx] : List Value).toArray ss 0 0 (va_A (w_X5_daysOfChange G kx kim kit kre ksh kwa kta tf rf kb ka kc kcn kl kn w h la af nc fc kv km kg vw vh sl mk sg) ss.heap.size)) (F0 mm 9 ls []) := by
    intro k
    induction k using Nat.strongRecOn with
    | _ k ih9 =>
    intro d n ls H locs hm9 hd hn hl hP hD hS
    refine lv_iload_n hx hb dX5_daysOfChange_9 rfl (lv_at hl 3 rfl) ?_
    refine lv_aload_n hx hb dX5_daysOfChange_10 rfl (lv_at hl 0 rfl) ?_
    refine va_get (D := G.1) (ci := 5) (v := .ref kb) (C := RX5) (T := TX5) (N := 10) hx hb hts hin5 hown hK.1 hP 7 rfl rfl 0 (by decide) (hts (.fieldLink RX5 10 "BackLenses" "book" "LBackLenses$Book;") (List.mem_of_getElem? (i := 1) rfl)) (fun _ h9 => h9) rfl dX5_daysOfChange_11 ?_
    refine va_getN (D := G.1) (ci := 0) (v := .int (nI la)) (C := RX0) (T := TX0) (N := 7) hx hb hts hin0 hown hK.1 hP 1 rfl rfl 2 (by decide) (va_Nw.use rfl (hK.2 (Cond.fieldLinkNest "BackLenses" (90 : Nat) "BackLenses$Book" "last" "I" "BackLenses") (List.mem_of_getElem? (i := 11) rfl))) (fun _ h9 => h9) rfl dX5_daysOfChange_14 ?_
    refine xn_icmp_gt (tgt := 40) hx hb (by omega) (by omega) dX5_daysOfChange_17 rfl (fun b17 => ?_) (fun b17 => ?_)
    · skip
      refine lv_iload_n hx hb dX5_daysOfChange_40 rfl (lv_at hl 2 rfl) ?_
      have hP := hP.sub (ws' := [oC kx 5 [.ref kb, .ref kim, .ref kit, .ref kv, .ref kre, .int tf, .ref ksh, .int rf, .ref kwa, .ref kta], oC kb 0 [.int (nI w), .int (nI h), .int (nI la), .ref ka, .ref kc, .ref kl, .ref kn], iA G ka 16 af, oC kc 2 [.ref kcn, .int (nI 10), .int (nI nc)], iA G kcn (3 * 10) fc, oC kv 4 [.ref km, .ref kg, .int (nI w), .int (nI h), .int (nI 0)], iA G km 176 mk2_1, iA G kg 160 sg2_1]) [7, 1, 0, 2, 3, 6, 5, 4] rfl
      have hD := hD.sub (ws' := [oC kx 5 [.ref kb, .ref kim, .ref kit, .ref kv, .ref kre, .int tf, .ref ksh, .int rf, .ref kwa, .ref kta], oC kb 0 [.int (nI w), .int (nI h), .int (nI la), .ref ka, .ref kc, .ref kl, .ref kn], iA G ka 16 af, oC kc 2 [.ref kcn, .int (nI 10), .int (nI nc)], iA G kcn (3 * 10) fc, oC kv 4 [.ref km, .ref kg, .int (nI w), .int (nI h), .int (nI 0)], iA G km 176 mk2_1, iA G kg 160 sg2_1]) [7, 1, 0, 2, 3, 6, 5, 4] (by decide) rfl
      refine W.iret (v := nI n) hx hb hr (fun t ht hW => ⟨⟨nI n, (mk2_1, sg2_1, w, h, nI 0), rfl, ?_, by rw [ht]; exact hP, hD⟩, hS.F ht⟩) hS.2.2 dX5_daysOfChange_41
      try dsimp only
      refine ⟨?_, VOK_fr he1⟩; rw [hn, show d = la by omega]
    · skip
      refine lv_aload_n hx hb dX5_daysOfChange_20 rfl (lv_at hl 1 rfl) ?_
      refine lv_iload_n hx hb dX5_daysOfChange_21 rfl (lv_at hl 3 rfl) ?_
      refine lv_iconst (v := nI 1) hx hb dX5_daysOfChange_22 (by decide) ?_
      refine xn_isub hx hb (by omega) dX5_daysOfChange_23 ?_
      refine lv_iload_n hx hb dX5_daysOfChange_24 rfl (lv_at hl 3 rfl) ?_
      refine xr_i (As := [.int (nI ((d + 1) - 1)), .int (nI (d + 1))]) (rest := []) ⟨hx, hb, hml, hown, hts⟩ (c_X4_unlike l G kv km kg w h (nI 0) mk2_1 ((d + 1) - 1) (d + 1) (by first | assumption | omega) (by first | assumption | omega) (by first | assumption | omega)) (cwV 2 hts gX5_daysOfChange_X4_unlike rfl rfl rfl (by decide +kernel) ⟨Nat.le_of_ble_eq_true rfl, Nat.le_of_ble_eq_true rfl⟩) hK hP hS [6, 5] rfl rfl rfl rfl hl.1 rfl (Nat.le_of_ble_eq_true rfl) dX5_daysOfChange_25 ⟨Nat.zero_le _, Nat.zero_le _⟩ (fun r25 H locs hp25 hP hS => ?_)
      obtain rfl : r25 = xbits (fun c => !decide (mk2_1 (((d + 1) - 1) * 16 + c) = mk2_1 ((d + 1) * 16 + c))) (w * h) := hp25
      refine xn_top (FR_unl he1 hwh (by omega) (by omega)) ?_
      refine lv_if_eq (tgt := 34) hx hb dX5_daysOfChange_28 rfl (fun b28 => ?_) (fun b28 => ?_)
      · skip
        refine lv_iinc (k := 3) (v := nI (d + 1 + 1)) (lv' := [(3, .int (nI (d + 1 + 1))), (0, .ref kx), (1, .ref kv), (2, .int (nI n))]) hx hb dX5_daysOfChange_34 hl rfl (xn_inc (d + 1) 1) (by decide) rfl (fun ls hl => ?_)
        refine lv_goto (tgt := 9) hx hb dX5_daysOfChange_37 rfl ?_
        have hl := lv_sub hl (l' := [(0, .ref kx), (1, .ref kv), (2, .int (nI n)), (3, .int (nI (d + 1 + 1)))]) [1, 2, 3, 0] rfl
        exact ih9 (la - (d + 1)) (by omega) (d + 1) n ls H locs rfl (by omega) (by first | exact cntF_T (decide_eq_true b28) hn | exact cntF_N (decide_eq_false (fun q => q b28)) hn) hl hP hD hS
      · skip
        refine lv_iinc (k := 2) (v := nI (n + 1)) (lv' := [(2, .int (nI (n + 1))), (0, .ref kx), (1, .ref kv), (3, .int (nI (d + 1)))]) hx hb dX5_daysOfChange_31 hl rfl (xn_inc n 1) (by decide) rfl (fun ls hl => ?_)
        refine lv_iinc (k := 3) (v := nI (d + 1 + 1)) (lv' := [(3, .int (nI (d + 1 + 1))), (2, .int (nI (n + 1))), (0, .ref kx), (1, .ref kv)]) hx hb dX5_daysOfChange_34 hl rfl (xn_inc (d + 1) 1) (by decide) rfl (fun ls hl => ?_)
        refine lv_goto (tgt := 9) hx hb dX5_daysOfChange_37 rfl ?_
        have hl := lv_sub hl (l' := [(0, .ref kx), (1, .ref kv), (2, .int (nI (n + 1))), (3, .int (nI (d + 1 + 1)))]) [2, 3, 1, 0] rfl
        exact ih9 (la - (d + 1)) (by omega) (d + 1) (n + 1) ls H locs rfl (by omega) (by first | exact cntF_T (decide_eq_true b28) hn | exact cntF_N (decide_eq_false (fun q => q b28)) hn) hl hP hD hS
  have hl := lv_sub hl (l' := [(0, .ref kx), (1, .ref kv), (2, .int (nI 0)), (3, .int (nI 1))]) [3, 2, 1, 0] rfl
  have hP := hP.sub (ws' := [iA G ka 16 af, oC kb 0 [.int (nI w), .int (nI h), .int (nI la), .ref ka, .ref kc, .ref kl, .ref kn], oC kc 2 [.ref kcn, .int (nI 10), .int (nI nc)], iA G kcn (3 * 10) fc, iA G kg 160 sg2_1, iA G km 176 mk2_1, oC kv 4 [.ref km, .ref kg, .int (nI w), .int (nI h), .int (nI 0)], oC kx 5 [.ref kb, .ref kim, .ref kit, .ref kv, .ref kre, .int tf, .ref ksh, .int rf, .ref kwa, .ref kta]]) [2, 1, 3, 4, 7, 6, 5, 0] rfl
  have hD := hD.sub (ws' := [iA G ka 16 af, oC kb 0 [.int (nI w), .int (nI h), .int (nI la), .ref ka, .ref kc, .ref kl, .ref kn], oC kc 2 [.ref kcn, .int (nI 10), .int (nI nc)], iA G kcn (3 * 10) fc, iA G kg 160 sg2_1, iA G km 176 mk2_1, oC kv 4 [.ref km, .ref kg, .int (nI w), .int (nI h), .int (nI 0)], oC kx 5 [.ref kb, .ref kim, .ref kit, .ref kv, .ref kre, .int tf, .ref ksh, .int rf, .ref kwa, .ref kta]]) [2, 1, 3, 4, 7, 6, 5, 0] (by decide) rfl
  exact hL9 (la - 0) 0 0 ls H locs rfl (by omega) (by rfl) hl hP hD hS

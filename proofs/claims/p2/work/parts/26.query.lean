abbrev w_X5_freshViews (G : XG) (kx kim kit kre ksh kwa kta : Nat) (tf rf : Int32) (kb ka kc kcn kl kn : Nat) (w h la : Nat) (af : Nat → Int32) (nc : Nat) (fc : Nat → Int32) (kv km kg : Nat) (vw vh : Nat) (sl : Int32) (mk sg : Nat → Int32) : va_W := [oC kx 5 [.ref kb, .ref kim, .ref kit, .ref kv, .ref kre, .int tf, .ref ksh, .int rf, .ref kwa, .ref kta], oC kb 0 [.int (nI w), .int (nI h), .int (nI la), .ref ka, .ref kc, .ref kl, .ref kn], iA G ka 16 af, oC kc 2 [.ref kcn, .int (nI 10), .int (nI nc)], iA G kcn (3 * 10) fc, oC kv 4 [.ref km, .ref kg, .int (nI vw), .int (nI vh), .int sl], iA G km 176 mk, iA G kg 160 sg]
abbrev Q_X5_freshViews (G : XG) (sz : Nat) (kx kim kit kre ksh kwa kta : Nat) (tf rf : Int32) (kb ka kc kcn kl kn : Nat) (w h la : Nat) (af : Nat → Int32) (nc : Nat) (fc : Nat → Int32) (kv km kg : Nat) (vw vh : Nat) (sl : Int32) (mk sg : Nat → Int32) : Array Value → State → Outcome → State → Prop := (va_Qr (fun (u : (Nat → Int32) × (Nat → Int32)) => FR w h la af nc fc u.1 u.2) (fun (u : (Nat → Int32) × (Nat → Int32)) (a : Nat) (t : State) => a = kv ∧ xWb G sz (w_X5_freshViews G kx kim kit kre ksh kwa kta tf rf kb ka kc kcn kl kn w h la af nc fc kv km kg vw vh sl mk sg) (fun u : (Nat → Int32) × (Nat → Int32) => [oC kx 5 [.ref kb, .ref kim, .ref kit, .ref kv, .ref kre, .int tf, .ref ksh, .int rf, .ref kwa, .ref kta], oC kb 0 [.int (nI w), .int (nI h), .int (nI la), .ref ka, .ref kc, .ref kl, .ref kn], iA G ka 16 af, oC kc 2 [.ref kcn, .int (nI 10), .int (nI nc)], iA G kcn (3 * 10) fc, oC kv 4 [.ref km, .ref kg, .int (nI w), .int (nI h), .int (nI 0)], iA G km 176 u.1, iA G kg 160 u.2]) u t) (va_A (w_X5_freshViews G kx kim kit kre ksh kwa kta tf rf kb ka kc kcn kl kn w h la af nc fc kv km kg vw vh sl mk sg) sz))
set_option maxHeartbeats 4000000 in
set_option maxRecDepth 100000 in
theorem c_X5_freshViews (l : Launch) (G : XG) (sz : Nat) (kx kim kit kre ksh kwa kta : Nat) (tf rf : Int32) (kb ka kc kcn kl kn : Nat) (w h la : Nat) (af : Nat → Int32) (nc : Nat) (fc : Nat → Int32) (kv km kg : Nat) (vw vh : Nat) (sl : Int32) (mk sg : Nat → Int32) (hw : 1 ≤ w) (hwb : w ≤ 16) (hhb : h ≤ 16) (hwh : w * h ≤ 16) (hla : la ≤ 9) (hnc : nc ≤ 10) (hcell : ∀ i, i < nc → inR (fc (3 * i + 1)) 16) (hvok : VOK w h la af nc fc mk sg vw vh sl) : Met l yX5_freshViews wsX5_freshViews ({ frames := 3, cells := 0, slots := 0, locals := 76 } : Room) (va_Pc [.ref kx] (xWp G sz (w_X5_freshViews G kx kim kit kre ksh kwa kta tf rf kb ka kc kcn kl kn w h la af nc fc kv km kg vw vh sl mk sg))) (Q_X5_freshViews G sz kx kim kit kre ksh kwa kta tf rf kb ka kc kcn kl kn w h la af nc fc kv km kg vw vh sl mk sg) 0 0 (va_A (w_X5_freshViews G kx kim kit kre ksh kwa kta tf rf kb ka kc kcn kl kn w h la af nc fc kv km kg vw vh sl mk sg) sz) := by
  refine Met.ofW (cc := cX5_freshViews) (maxL := 1) (ret := (some (.object "BackLenses$Views"))) (by decide) rfl ?_
  intro pp ee ss mm aa below mt cd s₁ BB hml hv
  obtain ⟨rfl, hsz, hP, hK, hD0⟩ := hv
  have hx := BB.exec
  have hb := BB.bytes
  have hr := BB.returns
  have hts := atoms_spec (ws := wsX5_freshViews) BB.pre
  have hown : ss.vm.findClass RX5 = some mm.cls := findClass_of_methodNamed BB.named
  have hlocks := BB.notSynchronized
  subst hsz
  have hD := hD0.self (sz := ss.heap.size)
  have hA : ∀ q : Nat, ss.heap.size ≤ q → va_A (w_X5_freshViews G kx kim kit kre ksh kwa kta tf rf kb ka kc kcn kl kn w h la af nc fc kv km kg vw vh sl mk sg) ss.heap.size q := fun q h => Or.inr h
  have hS : va_S (va_A (w_X5_freshViews G kx kim kit kre ksh kwa kta tf rf kb ka kc kcn kl kn w h la af nc fc kv km kg vw vh sl mk sg) ss.heap.size) ss.heap ss.heap [] := va_S.rf
  replace hD : va_D (va_A (w_X5_freshViews G kx kim kit kre ksh kwa kta tf rf kb ka kc kcn kl kn w h la af nc fc kv km kg vw vh sl mk sg) ss.heap.size) [oC kx 5 [.ref kb, .ref kim, .ref kit, .ref kv, .ref kre, .int tf, .ref ksh, .int rf, .ref kwa, .ref kta], oC kb 0 [.int (nI w), .int (nI h), .int (nI la), .ref ka, .ref kc, .ref kl, .ref kn], iA G ka 16 af, oC kc 2 [.ref kcn, .int (nI 10), .int (nI nc)], iA G kcn (3 * 10) fc, oC kv 4 [.ref km, .ref kg, .int (nI vw), .int (nI vh), .int sl], iA G km 176 mk, iA G kg 160 sg] := hD
  replace hP : xP G [oC kx 5 [.ref kb, .ref kim, .ref kit, .ref kv, .ref kre, .int tf, .ref ksh, .int rf, .ref kwa, .ref kta], oC kb 0 [.int (nI w), .int (nI h), .int (nI la), .ref ka, .ref kc, .ref kl, .ref kn], iA G ka 16 af, oC kc 2 [.ref kcn, .int (nI 10), .int (nI nc)], iA G kcn (3 * 10) fc, oC kv 4 [.ref km, .ref kg, .int (nI vw), .int (nI vh), .int sl], iA G km 176 mk, iA G kg 160 sg] ss.heap := hP
  have hin0 : ∀ w ∈ u_ws RX0 TX0 7, w ∈ wsX5_freshViews := fun w h => List.mem_cons_of_mem _ (List.mem_append_left _ (List.mem_append_right _ h))
  have hin2 : ∀ w ∈ u_ws RX2 TX2 3, w ∈ wsX5_freshViews := fun w h => List.mem_cons_of_mem _ (List.mem_append_right _ h)
  have hin4 : ∀ w ∈ u_ws RX4 TX4 5, w ∈ wsX5_freshViews := fun w h => List.mem_cons_of_mem _ (List.mem_append_left _ (List.mem_append_left _ (List.mem_append_right _ h)))
  have hin5 : ∀ w ∈ u_ws RX5 TX5 10, w ∈ wsX5_freshViews := fun w h => List.mem_cons_of_mem _ (List.mem_append_left _ (List.mem_append_left _ (List.mem_append_left _ (List.mem_append_right _ h))))
  have hl := lv_entry ([.ref kx]) (n := 1) (Nat.le_of_ble_eq_true rfl)
  rw [lg_entry_eq]
  generalize (lg_sl ([.ref kx]) ++ List.replicate (1 - (lg_sl ([.ref kx])).length) Slot.unset).toArray = ls at hl ⊢
  replace hl : lv_has ls 1 [(0, .ref kx)] := hl
  refine lv_aload_n hx hb dX5_freshViews_0 rfl (lv_at hl 0 rfl) ?_
  refine va_get (D := G.1) (ci := 5) (v := .ref kv) (C := RX5) (T := TX5) (N := 10) hx hb hts hin5 hown hK.1 hP 0 rfl rfl 3 (by decide) (hts (.fieldLink RX5 27 "BackLenses" "views" "LBackLenses$Views;") (List.mem_of_getElem? (i := 1) rfl)) (fun _ h9 => h9) rfl dX5_freshViews_1 ?_
  refine va_getN (D := G.1) (ci := 4) (v := .int sl) (C := RX4) (T := TX4) (N := 5) hx hb hts hin4 hown hK.1 hP 5 rfl rfl 4 (by decide) (va_Nw.use rfl (hK.2 (Cond.fieldLinkNest "BackLenses" (77 : Nat) "BackLenses$Views" "stale" "Z" "BackLenses") (List.mem_of_getElem? (i := 22) rfl))) (fun _ h9 => h9) rfl dX5_freshViews_4 ?_
  refine lv_if_eq (tgt := 21) hx hb dX5_freshViews_7 rfl (fun b7 => ?_) (fun b7 => ?_)
  · skip
    obtain ⟨e1, e2, e3⟩ := hvok b7
    have e1 := e1.symm
    have e2 := e2.symm
    subst e1
    subst e2
    subst b7
    refine lv_aload_n hx hb dX5_freshViews_21 rfl (lv_at hl 0 rfl) ?_
    refine va_get (D := G.1) (ci := 5) (v := .ref kv) (C := RX5) (T := TX5) (N := 10) hx hb hts hin5 hown hK.1 hP 0 rfl rfl 3 (by decide) (hts (.fieldLink RX5 27 "BackLenses" "views" "LBackLenses$Views;") (List.mem_of_getElem? (i := 1) rfl)) (fun _ h9 => h9) rfl dX5_freshViews_22 ?_
    have hP := hP.sub (ws' := [oC kx 5 [.ref kb, .ref kim, .ref kit, .ref kv, .ref kre, .int tf, .ref ksh, .int rf, .ref kwa, .ref kta], oC kb 0 [.int (nI w), .int (nI h), .int (nI la), .ref ka, .ref kc, .ref kl, .ref kn], iA G ka 16 af, oC kc 2 [.ref kcn, .int (nI 10), .int (nI nc)], iA G kcn (3 * 10) fc, oC kv 4 [.ref km, .ref kg, .int (nI w), .int (nI h), .int 0], iA G km 176 mk, iA G kg 160 sg]) [0, 1, 2, 3, 4, 5, 6, 7] rfl
    have hD := hD.sub (ws' := [oC kx 5 [.ref kb, .ref kim, .ref kit, .ref kv, .ref kre, .int tf, .ref ksh, .int rf, .ref kwa, .ref kta], oC kb 0 [.int (nI w), .int (nI h), .int (nI la), .ref ka, .ref kc, .ref kl, .ref kn], iA G ka 16 af, oC kc 2 [.ref kcn, .int (nI 10), .int (nI nc)], iA G kcn (3 * 10) fc, oC kv 4 [.ref km, .ref kg, .int (nI w), .int (nI h), .int 0], iA G km 176 mk, iA G kg 160 sg]) [0, 1, 2, 3, 4, 5, 6, 7] (by decide) rfl
    refine W.aret (v := .ref kv) hx hb hr (Or.inl ⟨_, rfl⟩) (Or.inr ⟨_, rfl⟩) (fun t ht hW => ⟨⟨(mk, sg), _, rfl, ?_, rfl, by rw [ht]; exact hP, hD⟩, hS.F ht⟩) hS.2.2 dX5_freshViews_25
    try dsimp only
    first | exact e3 | exact he18
  · skip
    refine lv_aload_n hx hb dX5_freshViews_10 rfl (lv_at hl 0 rfl) ?_
    refine va_get (D := G.1) (ci := 5) (v := .ref kv) (C := RX5) (T := TX5) (N := 10) hx hb hts hin5 hown hK.1 hP 0 rfl rfl 3 (by decide) (hts (.fieldLink RX5 27 "BackLenses" "views" "LBackLenses$Views;") (List.mem_of_getElem? (i := 1) rfl)) (fun _ h9 => h9) rfl dX5_freshViews_11 ?_
    refine lv_aload_n hx hb dX5_freshViews_14 rfl (lv_at hl 0 rfl) ?_
    refine va_get (D := G.1) (ci := 5) (v := .ref kb) (C := RX5) (T := TX5) (N := 10) hx hb hts hin5 hown hK.1 hP 0 rfl rfl 0 (by decide) (hts (.fieldLink RX5 10 "BackLenses" "book" "LBackLenses$Book;") (List.mem_of_getElem? (i := 2) rfl)) (fun _ h9 => h9) rfl dX5_freshViews_15 ?_
    refine xw_v (As := [.ref kb]) (rest := []) (wr := [oC kx 5 [.ref kb, .ref kim, .ref kit, .ref kv, .ref kre, .int tf, .ref ksh, .int rf, .ref kwa, .ref kta]]) ⟨hx, hb, hml, hown, hts⟩ (c_X4_build l G ss.heap.size kv km kg vw vh sl mk sg kb ka kc kcn kl kn w h la af nc fc (by first | assumption | omega) (by first | assumption | omega) (by first | assumption | omega) (by first | assumption | omega) (by first | assumption | omega) (by first | assumption | omega) (by first | assumption | omega)) (cwV 1 hts gX5_freshViews_X4_build rfl rfl rfl (by decide +kernel) ⟨Nat.le_of_ble_eq_true rfl, Nat.le_of_ble_eq_true rfl⟩) hK hP hD hS hA [5, 6, 7, 1, 2, 3, 4] [0] rfl rfl (by decide) (by decide) (by decide) rfl rfl rfl hl.1 rfl (Nat.le_of_ble_eq_true rfl) dX5_freshViews_18 ⟨Nat.le_of_ble_eq_true rfl, Nat.le_of_ble_eq_true rfl⟩ (fun u H locs hp18 hP hD hS => ?_)
    obtain ⟨mk2_18, sg2_18⟩ := u
    try dsimp only at hp18 hP hD
    have he18 := hp18
    replace hP : xP G [oC kx 5 [.ref kb, .ref kim, .ref kit, .ref kv, .ref kre, .int tf, .ref ksh, .int rf, .ref kwa, .ref kta], oC kv 4 [.ref km, .ref kg, .int (nI w), .int (nI h), .int (nI 0)], iA G km 176 mk2_18, iA G kg 160 sg2_18, oC kb 0 [.int (nI w), .int (nI h), .int (nI la), .ref ka, .ref kc, .ref kl, .ref kn], iA G ka 16 af, oC kc 2 [.ref kcn, .int (nI 10), .int (nI nc)], iA G kcn (3 * 10) fc] H := hP
    replace hD : va_D (va_A (w_X5_freshViews G kx kim kit kre ksh kwa kta tf rf kb ka kc kcn kl kn w h la af nc fc kv km kg vw vh sl mk sg) ss.heap.size) [oC kx 5 [.ref kb, .ref kim, .ref kit, .ref kv, .ref kre, .int tf, .ref ksh, .int rf, .ref kwa, .ref kta], oC kv 4 [.ref km, .ref kg, .int (nI w), .int (nI h), .int (nI 0)], iA G km 176 mk2_18, iA G kg 160 sg2_18, oC kb 0 [.int (nI w), .int (nI h), .int (nI la), .ref ka, .ref kc, .ref kl, .ref kn], iA G ka 16 af, oC kc 2 [.ref kcn, .int (nI 10), .int (nI nc)], iA G kcn (3 * 10) fc] := hD
    refine lv_aload_n hx hb dX5_freshViews_21 rfl (lv_at hl 0 rfl) ?_
    refine va_get (D := G.1) (ci := 5) (v := .ref kv) (C := RX5) (T := TX5) (N := 10) hx hb hts hin5 hown hK.1 hP 0 rfl rfl 3 (by decide) (hts (.fieldLink RX5 27 "BackLenses" "views" "LBackLenses$Views;") (List.mem_of_getElem? (i := 1) rfl)) (fun _ h9 => h9) rfl dX5_freshViews_22 ?_
    have hP := hP.sub (ws' := [oC kx 5 [.ref kb, .ref kim, .ref kit, .ref kv, .ref kre, .int tf, .ref ksh, .int rf, .ref kwa, .ref kta], oC kb 0 [.int (nI w), .int (nI h), .int (nI la), .ref ka, .ref kc, .ref kl, .ref kn], iA G ka 16 af, oC kc 2 [.ref kcn, .int (nI 10), .int (nI nc)], iA G kcn (3 * 10) fc, oC kv 4 [.ref km, .ref kg, .int (nI w), .int (nI h), .int (nI 0)], iA G km 176 mk2_18, iA G kg 160 sg2_18]) [0, 4, 5, 6, 7, 1, 2, 3] rfl
    have hD := hD.sub (ws' := [oC kx 5 [.ref kb, .ref kim, .ref kit, .ref kv, .ref kre, .int tf, .ref ksh, .int rf, .ref kwa, .ref kta], oC kb 0 [.int (nI w), .int (nI h), .int (nI la), .ref ka, .ref kc, .ref kl, .ref kn], iA G ka 16 af, oC kc 2 [.ref kcn, .int (nI 10), .int (nI nc)], iA G kcn (3 * 10) fc, oC kv 4 [.ref km, .ref kg, .int (nI w), .int (nI h), .int (nI 0)], iA G km 176 mk2_18, iA G kg 160 sg2_18]) [0, 4, 5, 6, 7, 1, 2, 3] (by decide) rfl
    refine W.aret (v := .ref kv) hx hb hr (Or.inl ⟨_, rfl⟩) (Or.inr ⟨_, rfl⟩) (fun t ht hW => ⟨⟨(mk2_18, sg2_18), _, rfl, ?_, rfl, by rw [ht]; exact hP, hD⟩, hS.F ht⟩) hS.2.2 dX5_freshViews_25
    try dsimp only
    first | exact e3 | exact he18

abbrev w_X5_mark (G : XG) (kx kim kit kre ksh kwa kta : Nat) (tf rf : Int32) (kb ka kc kcn kl kn : Nat) (w h la : Nat) (af : Nat → Int32) (nc : Nat) (fc : Nat → Int32) (kv km kg : Nat) (vw vh : Nat) (sl : Int32) (mk sg : Nat → Int32) : va_W := [oC kx 5 [.ref kb, .ref kim, .ref kit, .ref kv, .ref kre, .int tf, .ref ksh, .int rf, .ref kwa, .ref kta], oC kb 0 [.int (nI w), .int (nI h), .int (nI la), .ref ka, .ref kc, .ref kl, .ref kn], iA G ka 16 af, oC kc 2 [.ref kcn, .int (nI 10), .int (nI nc)], iA G kcn (3 * 10) fc, oC kv 4 [.ref km, .ref kg, .int (nI vw), .int (nI vh), .int sl], iA G km 176 mk, iA G kg 160 sg]
abbrev Q_X5_mark (G : XG) (sz : Nat) (kx kim kit kre ksh kwa kta : Nat) (tf rf : Int32) (kb ka kc kcn kl kn : Nat) (w h la : Nat) (af : Nat → Int32) (nc : Nat) (fc : Nat → Int32) (kv km kg : Nat) (vw vh : Nat) (sl : Int32) (mk sg : Nat → Int32) (c d : Int32) : Array Value → State → Outcome → State → Prop := (va_Qi (fun (r : Int32) (u : (Nat → Int32) × (Nat → Int32) × Nat × Nat × Int32) => r = (if inR c (w * h) ∧ inR d (la + 1) then mkS af nc fc (tn c) (tn d) else (-1)) ∧ VOK w h la af nc fc u.1 u.2.1 u.2.2.1 u.2.2.2.1 u.2.2.2.2) (xWb G sz (w_X5_mark G kx kim kit kre ksh kwa kta tf rf kb ka kc kcn kl kn w h la af nc fc kv km kg vw vh sl mk sg) (fun u : (Nat → Int32) × (Nat → Int32) × Nat × Nat × Int32 => [oC kx 5 [.ref kb, .ref kim, .ref kit, .ref kv, .ref kre, .int tf, .ref ksh, .int rf, .ref kwa, .ref kta], oC kb 0 [.int (nI w), .int (nI h), .int (nI la), .ref ka, .ref kc, .ref kl, .ref kn], iA G ka 16 af, oC kc 2 [.ref kcn, .int (nI 10), .int (nI nc)], iA G kcn (3 * 10) fc, oC kv 4 [.ref km, .ref kg, .int (nI u.2.2.1), .int (nI u.2.2.2.1), .int u.2.2.2.2], iA G km 176 u.1, iA G kg 160 u.2.1])) (va_A (w_X5_mark G kx kim kit kre ksh kwa kta tf rf kb ka kc kcn kl kn w h la af nc fc kv km kg vw vh sl mk sg) sz))
set_option maxHeartbeats 4000000 in
set_option maxRecDepth 100000 in
theorem c_X5_mark (l : Launch) (G : XG) (sz : Nat) (kx kim kit kre ksh kwa kta : Nat) (tf rf : Int32) (kb ka kc kcn kl kn : Nat) (w h la : Nat) (af : Nat → Int32) (nc : Nat) (fc : Nat → Int32) (kv km kg : Nat) (vw vh : Nat) (sl : Int32) (mk sg : Nat → Int32) (c d : Int32) (hw : 1 ≤ w) (hwb : w ≤ 16) (hhb : h ≤ 16) (hwh : w * h ≤ 16) (hla : la ≤ 9) (hnc : nc ≤ 10) (hcell : ∀ i, i < nc → inR (fc (3 * i + 1)) 16) (hvok : VOK w h la af nc fc mk sg vw vh sl) : Met l yX5_mark wsX5_mark ({ frames := 4, cells := 0, slots := 0, locals := 96 } : Room) (va_Pc [.ref kx, .int c, .int d] (xWp G sz (w_X5_mark G kx kim kit kre ksh kwa kta tf rf kb ka kc kcn kl kn w h la af nc fc kv km kg vw vh sl mk sg))) (Q_X5_mark G sz kx kim kit kre ksh kwa kta tf rf kb ka kc kcn kl kn w h la af nc fc kv km kg vw vh sl mk sg c d) 0 0 (va_A (w_X5_mark G kx kim kit kre ksh kwa kta tf rf kb ka kc kcn kl kn w h la af nc fc kv km kg vw vh sl mk sg) sz) := by
  refine Met.ofW (cc := cX5_mark) (maxL := 3) (ret := (some .int)) (by decide) rfl ?_
  intro pp ee ss mm aa below mt cd s₁ BB hml hv
  obtain ⟨rfl, hsz, hP, hK, hD0⟩ := hv
  have hx := BB.exec
  have hb := BB.bytes
  have hr := BB.returns
  have hts := atoms_spec (ws := wsX5_mark) BB.pre
  have hown : ss.vm.findClass RX5 = some mm.cls := findClass_of_methodNamed BB.named
  have hlocks := BB.notSynchronized
  subst hsz
  have hD := hD0.self (sz := ss.heap.size)
  have hA : ∀ q : Nat, ss.heap.size ≤ q → va_A (w_X5_mark G kx kim kit kre ksh kwa kta tf rf kb ka kc kcn kl kn w h la af nc fc kv km kg vw vh sl mk sg) ss.heap.size q := fun q h => Or.inr h
  have hS : va_S (va_A (w_X5_mark G kx kim kit kre ksh kwa kta tf rf kb ka kc kcn kl kn w h la af nc fc kv km kg vw vh sl mk sg) ss.heap.size) ss.heap ss.heap [] := va_S.rf
  replace hD : va_D (va_A (w_X5_mark G kx kim kit kre ksh kwa kta tf rf kb ka kc kcn kl kn w h la af nc fc kv km kg vw vh sl mk sg) ss.heap.size) [oC kx 5 [.ref kb, .ref kim, .ref kit, .ref kv, .ref kre, .int tf, .ref ksh, .int rf, .ref kwa, .ref kta], oC kb 0 [.int (nI w), .int (nI h), .int (nI la), .ref ka, .ref kc, .ref kl, .ref kn], iA G ka 16 af, oC kc 2 [.ref kcn, .int (nI 10), .int (nI nc)], iA G kcn (3 * 10) fc, oC kv 4 [.ref km, .ref kg, .int (nI vw), .int (nI vh), .int sl], iA G km 176 mk, iA G kg 160 sg] := hD
  replace hP : xP G [oC kx 5 [.ref kb, .ref kim, .ref kit, .ref kv, .ref kre, .int tf, .ref ksh, .int rf, .ref kwa, .ref kta], oC kb 0 [.int (nI w), .int (nI h), .int (nI la), .ref ka, .ref kc, .ref kl, .ref kn], iA G ka 16 af, oC kc 2 [.ref kcn, .int (nI 10), .int (nI nc)], iA G kcn (3 * 10) fc, oC kv 4 [.ref km, .ref kg, .int (nI vw), .int (nI vh), .int sl], iA G km 176 mk, iA G kg 160 sg] ss.heap := hP
  have hin0 : ∀ w ∈ u_ws RX0 TX0 7, w ∈ wsX5_mark := fun w h => List.mem_cons_of_mem _ (List.mem_append_left _ (List.mem_append_left _ (List.mem_append_right _ h)))
  have hin2 : ∀ w ∈ u_ws RX2 TX2 3, w ∈ wsX5_mark := fun w h => List.mem_cons_of_mem _ (List.mem_append_right _ h)
  have hin4 : ∀ w ∈ u_ws RX4 TX4 5, w ∈ wsX5_mark := fun w h => List.mem_cons_of_mem _ (List.mem_append_left _ (List.mem_append_right _ h))
  have hin5 : ∀ w ∈ u_ws RX5 TX5 10, w ∈ wsX5_mark := fun w h => List.mem_cons_of_mem _ (List.mem_append_left _ (List.mem_append_left _ (List.mem_append_left _ (List.mem_append_right _ h))))
  have hl := lv_entry ([.ref kx, .int c, .int d]) (n := 3) (Nat.le_of_ble_eq_true rfl)
  rw [lg_entry_eq]
  generalize (lg_sl ([.ref kx, .int c, .int d]) ++ List.replicate (3 - (lg_sl ([.ref kx, .int c, .int d])).length) Slot.unset).toArray = ls at hl ⊢
  replace hl : lv_has ls 3 [(0, .ref kx), (1, .int c), (2, .int d)] := hl
  refine lv_aload_n hx hb dX5_mark_0 rfl (lv_at hl 0 rfl) ?_
  refine va_get (D := G.1) (ci := 5) (v := .ref kb) (C := RX5) (T := TX5) (N := 10) hx hb hts hin5 hown hK.1 hP 0 rfl rfl 0 (by decide) (hts (.fieldLink RX5 10 "BackLenses" "book" "LBackLenses$Book;") (List.mem_of_getElem? (i := 1) rfl)) (fun _ h9 => h9) rfl dX5_mark_1 ?_
  refine lv_iload_n hx hb dX5_mark_4 rfl (lv_at hl 1 rfl) ?_
  refine xr_i (As := [.int c]) (rest := []) ⟨hx, hb, hml, hown, hts⟩ (c_X0_hasCell l G kb ka kc kl kn w h la c (by first | assumption | omega)) (cwV 1 hts gX5_mark_X0_hasCell rfl rfl rfl (by decide +kernel) ⟨Nat.le_of_ble_eq_true rfl, Nat.le_of_ble_eq_true rfl⟩) hK hP hS [1] rfl rfl rfl rfl hl.1 rfl (Nat.le_of_ble_eq_true rfl) dX5_mark_5 ⟨Nat.zero_le _, Nat.zero_le _⟩ (fun r5 H locs hp5 hP hS => ?_)
  obtain rfl : r5 = xb (inR c (w * h)) := hp5
  refine xb_if_eq (tgt := 22) hx hb dX5_mark_8 rfl (fun b8 => ?_) (fun b8 => ?_)
  · skip
    refine lv_iconst (v := (-1)) hx hb dX5_mark_22 (by decide) ?_
    have hP := hP.sub (ws' := [oC kx 5 [.ref kb, .ref kim, .ref kit, .ref kv, .ref kre, .int tf, .ref ksh, .int rf, .ref kwa, .ref kta], oC kb 0 [.int (nI w), .int (nI h), .int (nI la), .ref ka, .ref kc, .ref kl, .ref kn], iA G ka 16 af, oC kc 2 [.ref kcn, .int (nI 10), .int (nI nc)], iA G kcn (3 * 10) fc, oC kv 4 [.ref km, .ref kg, .int (nI vw), .int (nI vh), .int sl], iA G km 176 mk, iA G kg 160 sg]) [0, 1, 2, 3, 4, 5, 6, 7] rfl
    have hD := hD.sub (ws' := [oC kx 5 [.ref kb, .ref kim, .ref kit, .ref kv, .ref kre, .int tf, .ref ksh, .int rf, .ref kwa, .ref kta], oC kb 0 [.int (nI w), .int (nI h), .int (nI la), .ref ka, .ref kc, .ref kl, .ref kn], iA G ka 16 af, oC kc 2 [.ref kcn, .int (nI 10), .int (nI nc)], iA G kcn (3 * 10) fc, oC kv 4 [.ref km, .ref kg, .int (nI vw), .int (nI vh), .int sl], iA G km 176 mk, iA G kg 160 sg]) [0, 1, 2, 3, 4, 5, 6, 7] (by decide) rfl
    refine W.iret (v := (-1)) hx hb hr (fun t ht hW => ⟨⟨(-1), (mk, sg, vw, vh, sl), rfl, ?_, by rw [ht]; exact hP, hD⟩, hS.F ht⟩) hS.2.2 dX5_mark_23
    try dsimp only
    first | exact ⟨(if_neg (fun q => b8 q.1)).symm, hvok⟩ | exact ⟨(if_neg (fun q => b19 q.2)).symm, hvok⟩ | (refine ⟨?_, VOK_fr he25⟩; rw [if_pos ⟨inR_nI hc0 (by omega), inR_nI hd0 (by omega)⟩, tn_nI (by omega), tn_nI (by omega)]; exact (he25 d0 (by omega)).1 c0 (by omega))
  · skip
    refine lv_aload_n hx hb dX5_mark_11 rfl (lv_at hl 0 rfl) ?_
    refine va_get (D := G.1) (ci := 5) (v := .ref kb) (C := RX5) (T := TX5) (N := 10) hx hb hts hin5 hown hK.1 hP 0 rfl rfl 0 (by decide) (hts (.fieldLink RX5 10 "BackLenses" "book" "LBackLenses$Book;") (List.mem_of_getElem? (i := 1) rfl)) (fun _ h9 => h9) rfl dX5_mark_12 ?_
    refine lv_iload_n hx hb dX5_mark_15 rfl (lv_at hl 2 rfl) ?_
    refine xr_i (As := [.int d]) (rest := []) ⟨hx, hb, hml, hown, hts⟩ (c_X0_hasDay l G kb ka kc kl kn w h la d (by first | assumption | omega)) (cwV 1 hts gX5_mark_X0_hasDay rfl rfl rfl (by decide +kernel) ⟨Nat.le_of_ble_eq_true rfl, Nat.le_of_ble_eq_true rfl⟩) hK hP hS [1] rfl rfl rfl rfl hl.1 rfl (Nat.le_of_ble_eq_true rfl) dX5_mark_16 ⟨Nat.zero_le _, Nat.zero_le _⟩ (fun r16 H locs hp16 hP hS => ?_)
    obtain rfl : r16 = xb (inR d (la + 1)) := hp16
    refine xb_if_ne (tgt := 24) hx hb dX5_mark_19 rfl (fun b19 => ?_) (fun b19 => ?_)
    · skip
      obtain ⟨c0, hc0, rfl⟩ := inR_nat b8
      obtain ⟨d0, hd0, rfl⟩ := inR_nat b19
      refine lv_aload_n hx hb dX5_mark_24 rfl (lv_at hl 0 rfl) ?_
      refine xw_r (As := []) (rest := []) (wr := []) ⟨hx, hb, hml, hown, hts⟩ (c_X5_freshViews l G H.size kx kim kit kre ksh kwa kta tf rf kb ka kc kcn kl kn w h la af nc fc kv km kg vw vh sl mk sg (by first | assumption | omega) (by first | assumption | omega) (by first | assumption | omega) (by first | assumption | omega) (by first | assumption | omega) (by first | assumption | omega) (by first | assumption | omega) (by first | assumption | omega)) (cwV 0 hts gX5_mark_X5_freshViews rfl rfl rfl (by decide +kernel) ⟨Nat.le_of_ble_eq_true rfl, Nat.le_of_ble_eq_true rfl⟩) hK hP hD hS hA [0, 1, 2, 3, 4, 5, 6, 7] [] rfl rfl (by decide) (by decide) (by decide) rfl rfl rfl hl.1 rfl (Nat.le_of_ble_eq_true rfl) dX5_mark_25 ⟨Nat.le_of_ble_eq_true rfl, Nat.le_of_ble_eq_true rfl⟩ (fun u H locs hp25 hP hD hS => ?_)
      obtain ⟨mk2_25, sg2_25⟩ := u
      try dsimp only at hp25 hP hD
      have he25 := hp25
      replace hP : xP G [oC kx 5 [.ref kb, .ref kim, .ref kit, .ref kv, .ref kre, .int tf, .ref ksh, .int rf, .ref kwa, .ref kta], oC kb 0 [.int (nI w), .int (nI h), .int (nI la), .ref ka, .ref kc, .ref kl, .ref kn], iA G ka 16 af, oC kc 2 [.ref kcn, .int (nI 10), .int (nI nc)], iA G kcn (3 * 10) fc, oC kv 4 [.ref km, .ref kg, .int (nI w), .int (nI h), .int (nI 0)], iA G km 176 mk2_25, iA G kg 160 sg2_25] H := hP
      replace hD : va_D (va_A (w_X5_mark G kx kim kit kre ksh kwa kta tf rf kb ka kc kcn kl kn w h la af nc fc kv km kg vw vh sl mk sg) ss.heap.size) [oC kx 5 [.ref kb, .ref kim, .ref kit, .ref kv, .ref kre, .int tf, .ref ksh, .int rf, .ref kwa, .ref kta], oC kb 0 [.int (nI w), .int (nI h), .int (nI la), .ref ka, .ref kc, .ref kl, .ref kn], iA G ka 16 af, oC kc 2 [.ref kcn, .int (nI 10), .int (nI nc)], iA G kcn (3 * 10) fc, oC kv 4 [.ref km, .ref kg, .int (nI w), .int (nI h), .int (nI 0)], iA G km 176 mk2_25, iA G kg 160 sg2_25] := hD
      refine lv_iload_n hx hb dX5_mark_28 rfl (lv_at hl 1 rfl) ?_
      refine lv_iload_n hx hb dX5_mark_29 rfl (lv_at hl 2 rfl) ?_
      refine xr_i (As := [.int (nI c0), .int (nI d0)]) (rest := []) ⟨hx, hb, hml, hown, hts⟩ (c_X4_markOf l G kv km kg w h (nI 0) mk2_25 c0 d0 (by first | assumption | omega)) (cwV 2 hts gX5_mark_X4_markOf rfl rfl rfl (by decide +kernel) ⟨Nat.le_of_ble_eq_true rfl, Nat.le_of_ble_eq_true rfl⟩) hK hP hS [5, 6] rfl rfl rfl rfl hl.1 rfl (Nat.le_of_ble_eq_true rfl) dX5_mark_30 ⟨Nat.zero_le _, Nat.zero_le _⟩ (fun r30 H locs hp30 hP hS => ?_)
      obtain rfl : r30 = mk2_25 (d0 * 16 + c0) := hp30
      have hP := hP.sub (ws' := [oC kx 5 [.ref kb, .ref kim, .ref kit, .ref kv, .ref kre, .int tf, .ref ksh, .int rf, .ref kwa, .ref kta], oC kb 0 [.int (nI w), .int (nI h), .int (nI la), .ref ka, .ref kc, .ref kl, .ref kn], iA G ka 16 af, oC kc 2 [.ref kcn, .int (nI 10), .int (nI nc)], iA G kcn (3 * 10) fc, oC kv 4 [.ref km, .ref kg, .int (nI w), .int (nI h), .int (nI 0)], iA G km 176 mk2_25, iA G kg 160 sg2_25]) [0, 1, 2, 3, 4, 5, 6, 7] rfl
      have hD := hD.sub (ws' := [oC kx 5 [.ref kb, .ref kim, .ref kit, .ref kv, .ref kre, .int tf, .ref ksh, .int rf, .ref kwa, .ref kta], oC kb 0 [.int (nI w), .int (nI h), .int (nI la), .ref ka, .ref kc, .ref kl, .ref kn], iA G ka 16 af, oC kc 2 [.ref kcn, .int (nI 10), .int (nI nc)], iA G kcn (3 * 10) fc, oC kv 4 [.ref km, .ref kg, .int (nI w), .int (nI h), .int (nI 0)], iA G km 176 mk2_25, iA G kg 160 sg2_25]) [0, 1, 2, 3, 4, 5, 6, 7] (by decide) rfl
      refine W.iret (v := mk2_25 (d0 * 16 + c0)) hx hb hr (fun t ht hW => ⟨⟨mk2_25 (d0 * 16 + c0), (mk2_25, sg2_25, w, h, nI 0), rfl, ?_, by rw [ht]; exact hP, hD⟩, hS.F ht⟩) hS.2.2 dX5_mark_33
      try dsimp only
      first | exact ⟨(if_neg (fun q => b8 q.1)).symm, hvok⟩ | exact ⟨(if_neg (fun q => b19 q.2)).symm, hvok⟩ | (refine ⟨?_, VOK_fr he25⟩; rw [if_pos ⟨inR_nI hc0 (by omega), inR_nI hd0 (by omega)⟩, tn_nI (by omega), tn_nI (by omega)]; exact (he25 d0 (by omega)).1 c0 (by omega))
    · skip
      refine lv_iconst (v := (-1)) hx hb dX5_mark_22 (by decide) ?_
      have hP := hP.sub (ws' := [oC kx 5 [.ref kb, .ref kim, .ref kit, .ref kv, .ref kre, .int tf, .ref ksh, .int rf, .ref kwa, .ref kta], oC kb 0 [.int (nI w), .int (nI h), .int (nI la), .ref ka, .ref kc, .ref kl, .ref kn], iA G ka 16 af, oC kc 2 [.ref kcn, .int (nI 10), .int (nI nc)], iA G kcn (3 * 10) fc, oC kv 4 [.ref km, .ref kg, .int (nI vw), .int (nI vh), .int sl], iA G km 176 mk, iA G kg 160 sg]) [0, 1, 2, 3, 4, 5, 6, 7] rfl
      have hD := hD.sub (ws' := [oC kx 5 [.ref kb, .ref kim, .ref kit, .ref kv, .ref kre, .int tf, .ref ksh, .int rf, .ref kwa, .ref kta], oC kb 0 [.int (nI w), .int (nI h), .int (nI la), .ref ka, .ref kc, .ref kl, .ref kn], iA G ka 16 af, oC kc 2 [.ref kcn, .int (nI 10), .int (nI nc)], iA G kcn (3 * 10) fc, oC kv 4 [.ref km, .ref kg, .int (nI vw), .int (nI vh), .int sl], iA G km 176 mk, iA G kg 160 sg]) [0, 1, 2, 3, 4, 5, 6, 7] (by decide) rfl
      refine W.iret (v := (-1)) hx hb hr (fun t ht hW => ⟨⟨(-1), (mk, sg, vw, vh, sl), rfl, ?_, by rw [ht]; exact hP, hD⟩, hS.F ht⟩) hS.2.2 dX5_mark_23
      try dsimp only
      first | exact ⟨(if_neg (fun q => b8 q.1)).symm, hvok⟩ | exact ⟨(if_neg (fun q => b19 q.2)).symm, hvok⟩ | (refine ⟨?_, VOK_fr he25⟩; rw [if_pos ⟨inR_nI hc0 (by omega), inR_nI hd0 (by omega)⟩, tn_nI (by omega), tn_nI (by omega)]; exact (he25 d0 (by omega)).1 c0 (by omega))

abbrev w_X5_sees (G : XG) (kx kim kit kre ksh kwa kta : Nat) (tf rf : Int32) (kb ka kc kcn kl kn : Nat) (w h la : Nat) (af : Nat → Int32) (nc : Nat) (fc : Nat → Int32) (kv km kg : Nat) (vw vh : Nat) (sl : Int32) (mk sg : Nat → Int32) : va_W := [oC kx 5 [.ref kb, .ref kim, .ref kit, .ref kv, .ref kre, .int tf, .ref ksh, .int rf, .ref kwa, .ref kta], oC kb 0 [.int (nI w), .int (nI h), .int (nI la), .ref ka, .ref kc, .ref kl, .ref kn], iA G ka 16 af, oC kc 2 [.ref kcn, .int (nI 10), .int (nI nc)], iA G kcn (3 * 10) fc, oC kv 4 [.ref km, .ref kg, .int (nI vw), .int (nI vh), .int sl], iA G km 176 mk, iA G kg 160 sg]
abbrev Q_X5_sees (G : XG) (sz : Nat) (kx kim kit kre ksh kwa kta : Nat) (tf rf : Int32) (kb ka kc kcn kl kn : Nat) (w h la : Nat) (af : Nat → Int32) (nc : Nat) (fc : Nat → Int32) (kv km kg : Nat) (vw vh : Nat) (sl : Int32) (mk sg : Nat → Int32) (c d : Int32) : Array Value → State → Outcome → State → Prop := (va_Qi (fun (r : Int32) (u : (Nat → Int32) × (Nat → Int32) × Nat × Nat × Int32) => r = (if inR c (w * h) ∧ inR d (la + 1) then sgS w h af nc fc (tn c) (tn d) else (-1)) ∧ VOK w h la af nc fc u.1 u.2.1 u.2.2.1 u.2.2.2.1 u.2.2.2.2) (xWb G sz (w_X5_sees G kx kim kit kre ksh kwa kta tf rf kb ka kc kcn kl kn w h la af nc fc kv km kg vw vh sl mk sg) (fun u : (Nat → Int32) × (Nat → Int32) × Nat × Nat × Int32 => [oC kx 5 [.ref kb, .ref kim, .ref kit, .ref kv, .ref kre, .int tf, .ref ksh, .int rf, .ref kwa, .ref kta], oC kb 0 [.int (nI w), .int (nI h), .int (nI la), .ref ka, .ref kc, .ref kl, .ref kn], iA G ka 16 af, oC kc 2 [.ref kcn, .int (nI 10), .int (nI nc)], iA G kcn (3 * 10) fc, oC kv 4 [.ref km, .ref kg, .int (nI u.2.2.1), .int (nI u.2.2.2.1), .int u.2.2.2.2], iA G km 176 u.1, iA G kg 160 u.2.1])) (va_A (w_X5_sees G kx kim kit kre ksh kwa kta tf rf kb ka kc kcn kl kn w h la af nc fc kv km kg vw vh sl mk sg) sz))
set_option maxHeartbeats 4000000 in
set_option maxRecDepth 100000 in
theorem c_X5_sees (l : Launch) (G : XG) (sz : Nat) (kx kim kit kre ksh kwa kta : Nat) (tf rf : Int32) (kb ka kc kcn kl kn : Nat) (w h la : Nat) (af : Nat → Int32) (nc : Nat) (fc : Nat → Int32) (kv km kg : Nat) (vw vh : Nat) (sl : Int32) (mk sg : Nat → Int32) (c d : Int32) (hw : 1 ≤ w) (hwb : w ≤ 16) (hhb : h ≤ 16) (hwh : w * h ≤ 16) (hla : la ≤ 9) (hnc : nc ≤ 10) (hcell : ∀ i, i < nc → inR (fc (3 * i + 1)) 16) (hvok : VOK w h la af nc fc mk sg vw vh sl) : Met l yX5_sees wsX5_sees ({ frames := 4, cells := 0, slots := 0, locals := 96 } : Room) (va_Pc [.ref kx, .int c, .int d] (xWp G sz (w_X5_sees G kx kim kit kre ksh kwa kta tf rf kb ka kc kcn kl kn w h la af nc fc kv km kg vw vh sl mk sg))) (Q_X5_sees G sz kx kim kit kre ksh kwa kta tf rf kb ka kc kcn kl kn w h la af nc fc kv km kg vw vh sl mk sg c d) 0 0 (va_A (w_X5_sees G kx kim kit kre ksh kwa kta tf rf kb ka kc kcn kl kn w h la af nc fc kv km kg vw vh sl mk sg) sz) := by
  refine Met.ofW (cc := cX5_sees) (maxL := 3) (ret := (some .int)) (by decide) rfl ?_
  intro pp ee ss mm aa below mt cd s₁ BB hml hv
  obtain ⟨rfl, hsz, hP, hK, hD0⟩ := hv
  have hx := BB.exec
  have hb := BB.bytes
  have hr := BB.returns
  have hts := atoms_spec (ws := wsX5_sees) BB.pre
  have hown : ss.vm.findClass RX5 = some mm.cls := findClass_of_methodNamed BB.named
  have hlocks := BB.notSynchronized
  subst hsz
  have hD := hD0.self (sz := ss.heap.size)
  have hA : ∀ q : Nat, ss.heap.size ≤ q → va_A (w_X5_sees G kx kim kit kre ksh kwa kta tf rf kb ka kc kcn kl kn w h la af nc fc kv km kg vw vh sl mk sg) ss.heap.size q := fun q h => Or.inr h
  have hS : va_S (va_A (w_X5_sees G kx kim kit kre ksh kwa kta tf rf kb ka kc kcn kl kn w h la af nc fc kv km kg vw vh sl mk sg) ss.heap.size) ss.heap ss.heap [] := va_S.rf
  replace hD : va_D (va_A (w_X5_sees G kx kim kit kre ksh kwa kta tf rf kb ka kc kcn kl kn w h la af nc fc kv km kg vw vh sl mk sg) ss.heap.size) [oC kx 5 [.ref kb, .ref kim, .ref kit, .ref kv, .ref kre, .int tf, .ref ksh, .int rf, .ref kwa, .ref kta], oC kb 0 [.int (nI w), .int (nI h), .int (nI la), .ref ka, .ref kc, .ref kl, .ref kn], iA G ka 16 af, oC kc 2 [.ref kcn, .int (nI 10), .int (nI nc)], iA G kcn (3 * 10) fc, oC kv 4 [.ref km, .ref kg, .int (nI vw), .int (nI vh), .int sl], iA G km 176 mk, iA G kg 160 sg] := hD
  replace hP : xP G [oC kx 5 [.ref kb, .ref kim, .ref kit, .ref kv, .ref kre, .int tf, .ref ksh, .int rf, .ref kwa, .ref kta], oC kb 0 [.int (nI w), .int (nI h), .int (nI la), .ref ka, .ref kc, .ref kl, .ref kn], iA G ka 16 af, oC kc 2 [.ref kcn, .int (nI 10), .int (nI nc)], iA G kcn (3 * 10) fc, oC kv 4 [.ref km, .ref kg, .int (nI vw), .int (nI vh), .int sl], iA G km 176 mk, iA G kg 160 sg] ss.heap := hP
  have hin0 : ∀ w ∈ u_ws RX0 TX0 7, w ∈ wsX5_sees := fun w h => List.mem_cons_of_mem _ (List.mem_append_left _ (List.mem_append_left _ (List.mem_append_right _ h)))
  have hin2 : ∀ w ∈ u_ws RX2 TX2 3, w ∈ wsX5_sees := fun w h => List.mem_cons_of_mem _ (List.mem_append_right _ h)
  have hin4 : ∀ w ∈ u_ws RX4 TX4 5, w ∈ wsX5_sees := fun w h => List.mem_cons_of_mem _ (List.mem_append_left _ (List.mem_append_right _ h))
  have hin5 : ∀ w ∈ u_ws RX5 TX5 10, w ∈ wsX5_sees := fun w h => List.mem_cons_of_mem _ (List.mem_append_left _ (List.mem_append_left _ (List.mem_append_left _ (List.mem_append_right _ h))))
  have hl := lv_entry ([.ref kx, .int c, .int d]) (n := 3) (Nat.le_of_ble_eq_true rfl)
  rw [lg_entry_eq]
  generalize (lg_sl ([.ref kx, .int c, .int d]) ++ List.replicate (3 - (lg_sl ([.ref kx, .int c, .int d])).length) Slot.unset).toArray = ls at hl ⊢
  replace hl : lv_has ls 3 [(0, .ref kx), (1, .int c), (2, .int d)] := hl
  refine lv_aload_n hx hb dX5_sees_0 rfl (lv_at hl 0 rfl) ?_
  refine va_get (D := G.1) (ci := 5) (v := .ref kb) (C := RX5) (T := TX5) (N := 10) hx hb hts hin5 hown hK.1 hP 0 rfl rfl 0 (by decide) (hts (.fieldLink RX5 10 "BackLenses" "book" "LBackLenses$Book;") (List.mem_of_getElem? (i := 1) rfl)) (fun _ h9 => h9) rfl dX5_sees_1 ?_
  refine lv_iload_n hx hb dX5_sees_4 rfl (lv_at hl 1 rfl) ?_
  refine xr_i (As := [.int c]) (rest := []) ⟨hx, hb, hml, hown, hts⟩ (c_X0_hasCell l G kb ka kc kl kn w h la c (by first | assumption | omega)) (cwV 1 hts gX5_sees_X0_hasCell rfl rfl rfl (by decide +kernel) ⟨Nat.le_of_ble_eq_true rfl, Nat.le_of_ble_eq_true rfl⟩) hK hP hS [1] rfl rfl rfl rfl hl.1 rfl (Nat.le_of_ble_eq_true rfl) dX5_sees_5 ⟨Nat.zero_le _, Nat.zero_le _⟩ (fun r5 H locs hp5 hP hS => ?_)
  obtain rfl : r5 = xb (inR c (w * h)) := hp5
  refine xb_if_eq (tgt := 22) hx hb dX5_sees_8 rfl (fun b8 => ?_) (fun b8 => ?_)
  · skip
    refine lv_iconst (v := (-1)) hx hb dX5_sees_22 (by decide) ?_
    have hP := hP.sub (ws' := [oC kx 5 [.ref kb, .ref kim, .ref kit, .ref kv, .ref kre, .int tf, .ref ksh, .int rf, .ref kwa, .ref kta], oC kb 0 [.int (nI w), .int (nI h), .int (nI la), .ref ka, .ref kc, .ref kl, .ref kn], iA G ka 16 af, oC kc 2 [.ref kcn, .int (nI 10), .int (nI nc)], iA G kcn (3 * 10) fc, oC kv 4 [.ref km, .ref kg, .int (nI vw), .int (nI vh), .int sl], iA G km 176 mk, iA G kg 160 sg]) [0, 1, 2, 3, 4, 5, 6, 7] rfl
    have hD := hD.sub (ws' := [oC kx 5 [.ref kb, .ref kim, .ref kit, .ref kv, .ref kre, .int tf, .ref ksh, .int rf, .ref kwa, .ref kta], oC kb 0 [.int (nI w), .int (nI h), .int (nI la), .ref ka, .ref kc, .ref kl, .ref kn], iA G ka 16 af, oC kc 2 [.ref kcn, .int (nI 10), .int (nI nc)], iA G kcn (3 * 10) fc, oC kv 4 [.ref km, .ref kg, .int (nI vw), .int (nI vh), .int sl], iA G km 176 mk, iA G kg 160 sg]) [0, 1, 2, 3, 4, 5, 6, 7] (by decide) rfl
    refine W.iret (v := (-1)) hx hb hr (fun t ht hW => ⟨⟨(-1), (mk, sg, vw, vh, sl), rfl, ?_, by rw [ht]; exact hP, hD⟩, hS.F ht⟩) hS.2.2 dX5_sees_23
    try dsimp only
    first | exact ⟨(if_neg (fun q => b8 q.1)).symm, hvok⟩ | exact ⟨(if_neg (fun q => b19 q.2)).symm, hvok⟩ | (refine ⟨?_, VOK_fr he25⟩; rw [if_pos ⟨inR_nI hc0 (by omega), inR_nI hd0 (by omega)⟩, tn_nI (by omega), tn_nI (by omega)]; exact (he25 d0 (by omega)).2 c0 (by omega))
  · skip
    refine lv_aload_n hx hb dX5_sees_11 rfl (lv_at hl 0 rfl) ?_
    refine va_get (D := G.1) (ci := 5) (v := .ref kb) (C := RX5) (T := TX5) (N := 10) hx hb hts hin5 hown hK.1 hP 0 rfl rfl 0 (by decide) (hts (.fieldLink RX5 10 "BackLenses" "book" "LBackLenses$Book;") (List.mem_of_getElem? (i := 1) rfl)) (fun _ h9 => h9) rfl dX5_sees_12 ?_
    refine lv_iload_n hx hb dX5_sees_15 rfl (lv_at hl 2 rfl) ?_
    refine xr_i (As := [.int d]) (rest := []) ⟨hx, hb, hml, hown, hts⟩ (c_X0_hasDay l G kb ka kc kl kn w h la d (by first | assumption | omega)) (cwV 1 hts gX5_sees_X0_hasDay rfl rfl rfl (by decide +kernel) ⟨Nat.le_of_ble_eq_true rfl, Nat.le_of_ble_eq_true rfl⟩) hK hP hS [1] rfl rfl rfl rfl hl.1 rfl (Nat.le_of_ble_eq_true rfl) dX5_sees_16 ⟨Nat.zero_le _, Nat.zero_le _⟩ (fun r16 H locs hp16 hP hS => ?_)
    obtain rfl : r16 = xb (inR d (la + 1)) := hp16
    refine xb_if_ne (tgt := 24) hx hb dX5_sees_19 rfl (fun b19 => ?_) (fun b19 => ?_)
    · skip
      obtain ⟨c0, hc0, rfl⟩ := inR_nat b8
      obtain ⟨d0, hd0, rfl⟩ := inR_nat b19
      refine lv_aload_n hx hb dX5_sees_24 rfl (lv_at hl 0 rfl) ?_
      refine xw_r (As := []) (rest := []) (wr := []) ⟨hx, hb, hml, hown, hts⟩ (c_X5_freshViews l G H.size kx kim kit kre ksh kwa kta tf rf kb ka kc kcn kl kn w h la af nc fc kv km kg vw vh sl mk sg (by first | assumption | omega) (by first | assumption | omega) (by first | assumption | omega) (by first | assumption | omega) (by first | assumption | omega) (by first | assumption | omega) (by first | assumption | omega) (by first | assumption | omega)) (cwV 0 hts gX5_sees_X5_freshViews rfl rfl rfl (by decide +kernel) ⟨Nat.le_of_ble_eq_true rfl, Nat.le_of_ble_eq_true rfl⟩) hK hP hD hS hA [0, 1, 2, 3, 4, 5, 6, 7] [] rfl rfl (by decide) (by decide) (by decide) rfl rfl rfl hl.1 rfl (Nat.le_of_ble_eq_true rfl) dX5_sees_25 ⟨Nat.le_of_ble_eq_true rfl, Nat.le_of_ble_eq_true rfl⟩ (fun u H locs hp25 hP hD hS => ?_)
      obtain ⟨mk2_25, sg2_25⟩ := u
      try dsimp only at hp25 hP hD
      have he25 := hp25
      replace hP : xP G [oC kx 5 [.ref kb, .ref kim, .ref kit, .ref kv, .ref kre, .int tf, .ref ksh, .int rf, .ref kwa, .ref kta], oC kb 0 [.int (nI w), .int (nI h), .int (nI la), .ref ka, .ref kc, .ref kl, .ref kn], iA G ka 16 af, oC kc 2 [.ref kcn, .int (nI 10), .int (nI nc)], iA G kcn (3 * 10) fc, oC kv 4 [.ref km, .ref kg, .int (nI w), .int (nI h), .int (nI 0)], iA G km 176 mk2_25, iA G kg 160 sg2_25] H := hP
      replace hD : va_D (va_A (w_X5_sees G kx kim kit kre ksh kwa kta tf rf kb ka kc kcn kl kn w h la af nc fc kv km kg vw vh sl mk sg) ss.heap.size) [oC kx 5 [.ref kb, .ref kim, .ref kit, .ref kv, .ref kre, .int tf, .ref ksh, .int rf, .ref kwa, .ref kta], oC kb 0 [.int (nI w), .int (nI h), .int (nI la), .ref ka, .ref kc, .ref kl, .ref kn], iA G ka 16 af, oC kc 2 [.ref kcn, .int (nI 10), .int (nI nc)], iA G kcn (3 * 10) fc, oC kv 4 [.ref km, .ref kg, .int (nI w), .int (nI h), .int (nI 0)], iA G km 176 mk2_25, iA G kg 160 sg2_25] := hD
      refine lv_iload_n hx hb dX5_sees_28 rfl (lv_at hl 1 rfl) ?_
      refine lv_iload_n hx hb dX5_sees_29 rfl (lv_at hl 2 rfl) ?_
      refine xr_i (As := [.int (nI c0), .int (nI d0)]) (rest := []) ⟨hx, hb, hml, hown, hts⟩ (c_X4_sightOf l G kv km kg w h (nI 0) sg2_25 c0 d0 (by first | assumption | omega)) (cwV 2 hts gX5_sees_X4_sightOf rfl rfl rfl (by decide +kernel) ⟨Nat.le_of_ble_eq_true rfl, Nat.le_of_ble_eq_true rfl⟩) hK hP hS [5, 7] rfl rfl rfl rfl hl.1 rfl (Nat.le_of_ble_eq_true rfl) dX5_sees_30 ⟨Nat.zero_le _, Nat.zero_le _⟩ (fun r30 H locs hp30 hP hS => ?_)
      obtain rfl : r30 = sg2_25 (d0 * 16 + c0) := hp30
      have hP := hP.sub (ws' := [oC kx 5 [.ref kb, .ref kim, .ref kit, .ref kv, .ref kre, .int tf, .ref ksh, .int rf, .ref kwa, .ref kta], oC kb 0 [.int (nI w), .int (nI h), .int (nI la), .ref ka, .ref kc, .ref kl, .ref kn], iA G ka 16 af, oC kc 2 [.ref kcn, .int (nI 10), .int (nI nc)], iA G kcn (3 * 10) fc, oC kv 4 [.ref km, .ref kg, .int (nI w), .int (nI h), .int (nI 0)], iA G km 176 mk2_25, iA G kg 160 sg2_25]) [0, 1, 2, 3, 4, 5, 6, 7] rfl
      have hD := hD.sub (ws' := [oC kx 5 [.ref kb, .ref kim, .ref kit, .ref kv, .ref kre, .int tf, .ref ksh, .int rf, .ref kwa, .ref kta], oC kb 0 [.int (nI w), .int (nI h), .int (nI la), .ref ka, .ref kc, .ref kl, .ref kn], iA G ka 16 af, oC kc 2 [.ref kcn, .int (nI 10), .int (nI nc)], iA G kcn (3 * 10) fc, oC kv 4 [.ref km, .ref kg, .int (nI w), .int (nI h), .int (nI 0)], iA G km 176 mk2_25, iA G kg 160 sg2_25]) [0, 1, 2, 3, 4, 5, 6, 7] (by decide) rfl
      refine W.iret (v := sg2_25 (d0 * 16 + c0)) hx hb hr (fun t ht hW => ⟨⟨sg2_25 (d0 * 16 + c0), (mk2_25, sg2_25, w, h, nI 0), rfl, ?_, by rw [ht]; exact hP, hD⟩, hS.F ht⟩) hS.2.2 dX5_sees_33
      try dsimp only
      first | exact ⟨(if_neg (fun q => b8 q.1)).symm, hvok⟩ | exact ⟨(if_neg (fun q => b19 q.2)).symm, hvok⟩ | (refine ⟨?_, VOK_fr he25⟩; rw [if_pos ⟨inR_nI hc0 (by omega), inR_nI hd0 (by omega)⟩, tn_nI (by omega), tn_nI (by omega)]; exact (he25 d0 (by omega)).2 c0 (by omega))
    · skip
      refine lv_iconst (v := (-1)) hx hb dX5_sees_22 (by decide) ?_
      have hP := hP.sub (ws' := [oC kx 5 [.ref kb, .ref kim, .ref kit, .ref kv, .ref kre, .int tf, .ref ksh, .int rf, .ref kwa, .ref kta], oC kb 0 [.int (nI w), .int (nI h), .int (nI la), .ref ka, .ref kc, .ref kl, .ref kn], iA G ka 16 af, oC kc 2 [.ref kcn, .int (nI 10), .int (nI nc)], iA G kcn (3 * 10) fc, oC kv 4 [.ref km, .ref kg, .int (nI vw), .int (nI vh), .int sl], iA G km 176 mk, iA G kg 160 sg]) [0, 1, 2, 3, 4, 5, 6, 7] rfl
      have hD := hD.sub (ws' := [oC kx 5 [.ref kb, .ref kim, .ref kit, .ref kv, .ref kre, .int tf, .ref ksh, .int rf, .ref kwa, .ref kta], oC kb 0 [.int (nI w), .int (nI h), .int (nI la), .ref ka, .ref kc, .ref kl, .ref kn], iA G ka 16 af, oC kc 2 [.ref kcn, .int (nI 10), .int (nI nc)], iA G kcn (3 * 10) fc, oC kv 4 [.ref km, .ref kg, .int (nI vw), .int (nI vh), .int sl], iA G km 176 mk, iA G kg 160 sg]) [0, 1, 2, 3, 4, 5, 6, 7] (by decide) rfl
      refine W.iret (v := (-1)) hx hb hr (fun t ht hW => ⟨⟨(-1), (mk, sg, vw, vh, sl), rfl, ?_, by rw [ht]; exact hP, hD⟩, hS.F ht⟩) hS.2.2 dX5_sees_23
      try dsimp only
      first | exact ⟨(if_neg (fun q => b8 q.1)).symm, hvok⟩ | exact ⟨(if_neg (fun q => b19 q.2)).symm, hvok⟩ | (refine ⟨?_, VOK_fr he25⟩; rw [if_pos ⟨inR_nI hc0 (by omega), inR_nI hd0 (by omega)⟩, tn_nI (by omega), tn_nI (by omega)]; exact (he25 d0 (by omega)).2 c0 (by omega))

abbrev w_X5_between (G : XG) (kx kim kit kre ksh kwa kta : Nat) (tf rf : Int32) (kb ka kc kcn kl kn : Nat) (w h la : Nat) (af : Nat → Int32) (nc : Nat) (fc : Nat → Int32) (kv km kg : Nat) (vw vh : Nat) (sl : Int32) (mk sg : Nat → Int32) : va_W := [oC kx 5 [.ref kb, .ref kim, .ref kit, .ref kv, .ref kre, .int tf, .ref ksh, .int rf, .ref kwa, .ref kta], oC kb 0 [.int (nI w), .int (nI h), .int (nI la), .ref ka, .ref kc, .ref kl, .ref kn], iA G ka 16 af, oC kc 2 [.ref kcn, .int (nI 10), .int (nI nc)], iA G kcn (3 * 10) fc, oC kv 4 [.ref km, .ref kg, .int (nI vw), .int (nI vh), .int sl], iA G km 176 mk, iA G kg 160 sg]
abbrev Q_X5_between (G : XG) (sz : Nat) (kx kim kit kre ksh kwa kta : Nat) (tf rf : Int32) (kb ka kc kcn kl kn : Nat) (w h la : Nat) (af : Nat → Int32) (nc : Nat) (fc : Nat → Int32) (kv km kg : Nat) (vw vh : Nat) (sl : Int32) (mk sg : Nat → Int32) (d e : Int32) : Array Value → State → Outcome → State → Prop := (va_Qi (fun (r : Int32) (u : (Nat → Int32) × (Nat → Int32) × Nat × Nat × Int32) => r = (if inR d (la + 1) ∧ inR e (la + 1) then unS w h af nc fc (tn d) (tn e) else (-1)) ∧ VOK w h la af nc fc u.1 u.2.1 u.2.2.1 u.2.2.2.1 u.2.2.2.2) (xWb G sz (w_X5_between G kx kim kit kre ksh kwa kta tf rf kb ka kc kcn kl kn w h la af nc fc kv km kg vw vh sl mk sg) (fun u : (Nat → Int32) × (Nat → Int32) × Nat × Nat × Int32 => [oC kx 5 [.ref kb, .ref kim, .ref kit, .ref kv, .ref kre, .int tf, .ref ksh, .int rf, .ref kwa, .ref kta], oC kb 0 [.int (nI w), .int (nI h), .int (nI la), .ref ka, .ref kc, .ref kl, .ref kn], iA G ka 16 af, oC kc 2 [.ref kcn, .int (nI 10), .int (nI nc)], iA G kcn (3 * 10) fc, oC kv 4 [.ref km, .ref kg, .int (nI u.2.2.1), .int (nI u.2.2.2.1), .int u.2.2.2.2], iA G km 176 u.1, iA G kg 160 u.2.1])) (va_A (w_X5_between G kx kim kit kre ksh kwa kta tf rf kb ka kc kcn kl kn w h la af nc fc kv km kg vw vh sl mk sg) sz))
set_option maxHeartbeats 4000000 in
set_option maxRecDepth 100000 in
theorem c_X5_between (l : Launch) (G : XG) (sz : Nat) (kx kim kit kre ksh kwa kta : Nat) (tf rf : Int32) (kb ka kc kcn kl kn : Nat) (w h la : Nat) (af : Nat → Int32) (nc : Nat) (fc : Nat → Int32) (kv km kg : Nat) (vw vh : Nat) (sl : Int32) (mk sg : Nat → Int32) (d e : Int32) (hw : 1 ≤ w) (hwb : w ≤ 16) (hhb : h ≤ 16) (hwh : w * h ≤ 16) (hla : la ≤ 9) (hnc : nc ≤ 10) (hcell : ∀ i, i < nc → inR (fc (3 * i + 1)) 16) (hvok : VOK w h la af nc fc mk sg vw vh sl) : Met l yX5_between wsX5_between ({ frames := 4, cells := 0, slots := 0, locals := 96 } : Room) (va_Pc [.ref kx, .int d, .int e] (xWp G sz (w_X5_between G kx kim kit kre ksh kwa kta tf rf kb ka kc kcn kl kn w h la af nc fc kv km kg vw vh sl mk sg))) (Q_X5_between G sz kx kim kit kre ksh kwa kta tf rf kb ka kc kcn kl kn w h la af nc fc kv km kg vw vh sl mk sg d e) 0 0 (va_A (w_X5_between G kx kim kit kre ksh kwa kta tf rf kb ka kc kcn kl kn w h la af nc fc kv km kg vw vh sl mk sg) sz) := by
  refine Met.ofW (cc := cX5_between) (maxL := 3) (ret := (some .int)) (by decide) rfl ?_
  intro pp ee ss mm aa below mt cd s₁ BB hml hv
  obtain ⟨rfl, hsz, hP, hK, hD0⟩ := hv
  have hx := BB.exec
  have hb := BB.bytes
  have hr := BB.returns
  have hts := atoms_spec (ws := wsX5_between) BB.pre
  have hown : ss.vm.findClass RX5 = some mm.cls := findClass_of_methodNamed BB.named
  have hlocks := BB.notSynchronized
  subst hsz
  have hD := hD0.self (sz := ss.heap.size)
  have hA : ∀ q : Nat, ss.heap.size ≤ q → va_A (w_X5_between G kx kim kit kre ksh kwa kta tf rf kb ka kc kcn kl kn w h la af nc fc kv km kg vw vh sl mk sg) ss.heap.size q := fun q h => Or.inr h
  have hS : va_S (va_A (w_X5_between G kx kim kit kre ksh kwa kta tf rf kb ka kc kcn kl kn w h la af nc fc kv km kg vw vh sl mk sg) ss.heap.size) ss.heap ss.heap [] := va_S.rf
  replace hD : va_D (va_A (w_X5_between G kx kim kit kre ksh kwa kta tf rf kb ka kc kcn kl kn w h la af nc fc kv km kg vw vh sl mk sg) ss.heap.size) [oC kx 5 [.ref kb, .ref kim, .ref kit, .ref kv, .ref kre, .int tf, .ref ksh, .int rf, .ref kwa, .ref kta], oC kb 0 [.int (nI w), .int (nI h), .int (nI la), .ref ka, .ref kc, .ref kl, .ref kn], iA G ka 16 af, oC kc 2 [.ref kcn, .int (nI 10), .int (nI nc)], iA G kcn (3 * 10) fc, oC kv 4 [.ref km, .ref kg, .int (nI vw), .int (nI vh), .int sl], iA G km 176 mk, iA G kg 160 sg] := hD
  replace hP : xP G [oC kx 5 [.ref kb, .ref kim, .ref kit, .ref kv, .ref kre, .int tf, .ref ksh, .int rf, .ref kwa, .ref kta], oC kb 0 [.int (nI w), .int (nI h), .int (nI la), .ref ka, .ref kc, .ref kl, .ref kn], iA G ka 16 af, oC kc 2 [.ref kcn, .int (nI 10), .int (nI nc)], iA G kcn (3 * 10) fc, oC kv 4 [.ref km, .ref kg, .int (nI vw), .int (nI vh), .int sl], iA G km 176 mk, iA G kg 160 sg] ss.heap := hP
  have hin0 : ∀ w ∈ u_ws RX0 TX0 7, w ∈ wsX5_between := fun w h => List.mem_cons_of_mem _ (List.mem_append_left _ (List.mem_append_left _ (List.mem_append_right _ h)))
  have hin2 : ∀ w ∈ u_ws RX2 TX2 3, w ∈ wsX5_between := fun w h => List.mem_cons_of_mem _ (List.mem_append_right _ h)
  have hin4 : ∀ w ∈ u_ws RX4 TX4 5, w ∈ wsX5_between := fun w h => List.mem_cons_of_mem _ (List.mem_append_left _ (List.mem_append_right _ h))
  have hin5 : ∀ w ∈ u_ws RX5 TX5 10, w ∈ wsX5_between := fun w h => List.mem_cons_of_mem _ (List.mem_append_left _ (List.mem_append_left _ (List.mem_append_left _ (List.mem_append_right _ h))))
  have hl := lv_entry ([.ref kx, .int d, .int e]) (n := 3) (Nat.le_of_ble_eq_true rfl)
  rw [lg_entry_eq]
  generalize (lg_sl ([.ref kx, .int d, .int e]) ++ List.replicate (3 - (lg_sl ([.ref kx, .int d, .int e])).length) Slot.unset).toArray = ls at hl ⊢
  replace hl : lv_has ls 3 [(0, .ref kx), (1, .int d), (2, .int e)] := hl
  refine lv_aload_n hx hb dX5_between_0 rfl (lv_at hl 0 rfl) ?_
  refine va_get (D := G.1) (ci := 5) (v := .ref kb) (C := RX5) (T := TX5) (N := 10) hx hb hts hin5 hown hK.1 hP 0 rfl rfl 0 (by decide) (hts (.fieldLink RX5 10 "BackLenses" "book" "LBackLenses$Book;") (List.mem_of_getElem? (i := 1) rfl)) (fun _ h9 => h9) rfl dX5_between_1 ?_
  refine lv_iload_n hx hb dX5_between_4 rfl (lv_at hl 1 rfl) ?_
  refine xr_i (As := [.int d]) (rest := []) ⟨hx, hb, hml, hown, hts⟩ (c_X0_hasDay l G kb ka kc kl kn w h la d (by first | assumption | omega)) (cwV 1 hts gX5_between_X0_hasDay rfl rfl rfl (by decide +kernel) ⟨Nat.le_of_ble_eq_true rfl, Nat.le_of_ble_eq_true rfl⟩) hK hP hS [1] rfl rfl rfl rfl hl.1 rfl (Nat.le_of_ble_eq_true rfl) dX5_between_5 ⟨Nat.zero_le _, Nat.zero_le _⟩ (fun r5 H locs hp5 hP hS => ?_)
  obtain rfl : r5 = xb (inR d (la + 1)) := hp5
  refine xb_if_eq (tgt := 22) hx hb dX5_between_8 rfl (fun b8 => ?_) (fun b8 => ?_)
  · skip
    refine lv_iconst (v := (-1)) hx hb dX5_between_22 (by decide) ?_
    have hP := hP.sub (ws' := [oC kx 5 [.ref kb, .ref kim, .ref kit, .ref kv, .ref kre, .int tf, .ref ksh, .int rf, .ref kwa, .ref kta], oC kb 0 [.int (nI w), .int (nI h), .int (nI la), .ref ka, .ref kc, .ref kl, .ref kn], iA G ka 16 af, oC kc 2 [.ref kcn, .int (nI 10), .int (nI nc)], iA G kcn (3 * 10) fc, oC kv 4 [.ref km, .ref kg, .int (nI vw), .int (nI vh), .int sl], iA G km 176 mk, iA G kg 160 sg]) [0, 1, 2, 3, 4, 5, 6, 7] rfl
    have hD := hD.sub (ws' := [oC kx 5 [.ref kb, .ref kim, .ref kit, .ref kv, .ref kre, .int tf, .ref ksh, .int rf, .ref kwa, .ref kta], oC kb 0 [.int (nI w), .int (nI h), .int (nI la), .ref ka, .ref kc, .ref kl, .ref kn], iA G ka 16 af, oC kc 2 [.ref kcn, .int (nI 10), .int (nI nc)], iA G kcn (3 * 10) fc, oC kv 4 [.ref km, .ref kg, .int (nI vw), .int (nI vh), .int sl], iA G km 176 mk, iA G kg 160 sg]) [0, 1, 2, 3, 4, 5, 6, 7] (by decide) rfl
    refine W.iret (v := (-1)) hx hb hr (fun t ht hW => ⟨⟨(-1), (mk, sg, vw, vh, sl), rfl, ?_, by rw [ht]; exact hP, hD⟩, hS.F ht⟩) hS.2.2 dX5_between_23
    try dsimp only
    first | exact ⟨(if_neg (fun q => b8 q.1)).symm, hvok⟩ | exact ⟨(if_neg (fun q => b19 q.2)).symm, hvok⟩ | (refine ⟨?_, VOK_fr he25⟩; rw [if_pos ⟨inR_nI hd0 (by omega), inR_nI he0 (by omega)⟩, tn_nI (by omega), tn_nI (by omega)]; exact FR_unl he25 hwh (by omega) (by omega))
  · skip
    refine lv_aload_n hx hb dX5_between_11 rfl (lv_at hl 0 rfl) ?_
    refine va_get (D := G.1) (ci := 5) (v := .ref kb) (C := RX5) (T := TX5) (N := 10) hx hb hts hin5 hown hK.1 hP 0 rfl rfl 0 (by decide) (hts (.fieldLink RX5 10 "BackLenses" "book" "LBackLenses$Book;") (List.mem_of_getElem? (i := 1) rfl)) (fun _ h9 => h9) rfl dX5_between_12 ?_
    refine lv_iload_n hx hb dX5_between_15 rfl (lv_at hl 2 rfl) ?_
    refine xr_i (As := [.int e]) (rest := []) ⟨hx, hb, hml, hown, hts⟩ (c_X0_hasDay l G kb ka kc kl kn w h la e (by first | assumption | omega)) (cwV 1 hts gX5_between_X0_hasDay rfl rfl rfl (by decide +kernel) ⟨Nat.le_of_ble_eq_true rfl, Nat.le_of_ble_eq_true rfl⟩) hK hP hS [1] rfl rfl rfl rfl hl.1 rfl (Nat.le_of_ble_eq_true rfl) dX5_between_16 ⟨Nat.zero_le _, Nat.zero_le _⟩ (fun r16 H locs hp16 hP hS => ?_)
    obtain rfl : r16 = xb (inR e (la + 1)) := hp16
    refine xb_if_ne (tgt := 24) hx hb dX5_between_19 rfl (fun b19 => ?_) (fun b19 => ?_)
    · skip
      obtain ⟨d0, hd0, rfl⟩ := inR_nat b8
      obtain ⟨e0, he0, rfl⟩ := inR_nat b19
      refine lv_aload_n hx hb dX5_between_24 rfl (lv_at hl 0 rfl) ?_
      refine xw_r (As := []) (rest := []) (wr := []) ⟨hx, hb, hml, hown, hts⟩ (c_X5_freshViews l G H.size kx kim kit kre ksh kwa kta tf rf kb ka kc kcn kl kn w h la af nc fc kv km kg vw vh sl mk sg (by first | assumption | omega) (by first | assumption | omega) (by first | assumption | omega) (by first | assumption | omega) (by first | assumption | omega) (by first | assumption | omega) (by first | assumption | omega) (by first | assumption | omega)) (cwV 0 hts gX5_between_X5_freshViews rfl rfl rfl (by decide +kernel) ⟨Nat.le_of_ble_eq_true rfl, Nat.le_of_ble_eq_true rfl⟩) hK hP hD hS hA [0, 1, 2, 3, 4, 5, 6, 7] [] rfl rfl (by decide) (by decide) (by decide) rfl rfl rfl hl.1 rfl (Nat.le_of_ble_eq_true rfl) dX5_between_25 ⟨Nat.le_of_ble_eq_true rfl, Nat.le_of_ble_eq_true rfl⟩ (fun u H locs hp25 hP hD hS => ?_)
      obtain ⟨mk2_25, sg2_25⟩ := u
      try dsimp only at hp25 hP hD
      have he25 := hp25
      replace hP : xP G [oC kx 5 [.ref kb, .ref kim, .ref kit, .ref kv, .ref kre, .int tf, .ref ksh, .int rf, .ref kwa, .ref kta], oC kb 0 [.int (nI w), .int (nI h), .int (nI la), .ref ka, .ref kc, .ref kl, .ref kn], iA G ka 16 af, oC kc 2 [.ref kcn, .int (nI 10), .int (nI nc)], iA G kcn (3 * 10) fc, oC kv 4 [.ref km, .ref kg, .int (nI w), .int (nI h), .int (nI 0)], iA G km 176 mk2_25, iA G kg 160 sg2_25] H := hP
      replace hD : va_D (va_A (w_X5_between G kx kim kit kre ksh kwa kta tf rf kb ka kc kcn kl kn w h la af nc fc kv km kg vw vh sl mk sg) ss.heap.size) [oC kx 5 [.ref kb, .ref kim, .ref kit, .ref kv, .ref kre, .int tf, .ref ksh, .int rf, .ref kwa, .ref kta], oC kb 0 [.int (nI w), .int (nI h), .int (nI la), .ref ka, .ref kc, .ref kl, .ref kn], iA G ka 16 af, oC kc 2 [.ref kcn, .int (nI 10), .int (nI nc)], iA G kcn (3 * 10) fc, oC kv 4 [.ref km, .ref kg, .int (nI w), .int (nI h), .int (nI 0)], iA G km 176 mk2_25, iA G kg 160 sg2_25] := hD
      refine lv_iload_n hx hb dX5_between_28 rfl (lv_at hl 1 rfl) ?_
      refine lv_iload_n hx hb dX5_between_29 rfl (lv_at hl 2 rfl) ?_
      refine xr_i (As := [.int (nI d0), .int (nI e0)]) (rest := []) ⟨hx, hb, hml, hown, hts⟩ (c_X4_unlike l G kv km kg w h (nI 0) mk2_25 d0 e0 (by first | assumption | omega) (by first | assumption | omega) (by first | assumption | omega)) (cwV 2 hts gX5_between_X4_unlike rfl rfl rfl (by decide +kernel) ⟨Nat.le_of_ble_eq_true rfl, Nat.le_of_ble_eq_true rfl⟩) hK hP hS [5, 6] rfl rfl rfl rfl hl.1 rfl (Nat.le_of_ble_eq_true rfl) dX5_between_30 ⟨Nat.zero_le _, Nat.zero_le _⟩ (fun r30 H locs hp30 hP hS => ?_)
      obtain rfl : r30 = xbits (fun c => !decide (mk2_25 (d0 * 16 + c) = mk2_25 (e0 * 16 + c))) (w * h) := hp30
      have hP := hP.sub (ws' := [oC kx 5 [.ref kb, .ref kim, .ref kit, .ref kv, .ref kre, .int tf, .ref ksh, .int rf, .ref kwa, .ref kta], oC kb 0 [.int (nI w), .int (nI h), .int (nI la), .ref ka, .ref kc, .ref kl, .ref kn], iA G ka 16 af, oC kc 2 [.ref kcn, .int (nI 10), .int (nI nc)], iA G kcn (3 * 10) fc, oC kv 4 [.ref km, .ref kg, .int (nI w), .int (nI h), .int (nI 0)], iA G km 176 mk2_25, iA G kg 160 sg2_25]) [0, 1, 2, 3, 4, 5, 6, 7] rfl
      have hD := hD.sub (ws' := [oC kx 5 [.ref kb, .ref kim, .ref kit, .ref kv, .ref kre, .int tf, .ref ksh, .int rf, .ref kwa, .ref kta], oC kb 0 [.int (nI w), .int (nI h), .int (nI la), .ref ka, .ref kc, .ref kl, .ref kn], iA G ka 16 af, oC kc 2 [.ref kcn, .int (nI 10), .int (nI nc)], iA G kcn (3 * 10) fc, oC kv 4 [.ref km, .ref kg, .int (nI w), .int (nI h), .int (nI 0)], iA G km 176 mk2_25, iA G kg 160 sg2_25]) [0, 1, 2, 3, 4, 5, 6, 7] (by decide) rfl
      refine W.iret (v := xbits (fun c => !decide (mk2_25 (d0 * 16 + c) = mk2_25 (e0 * 16 + c))) (w * h)) hx hb hr (fun t ht hW => ⟨⟨xbits (fun c => !decide (mk2_25 (d0 * 16 + c) = mk2_25 (e0 * 16 + c))) (w * h), (mk2_25, sg2_25, w, h, nI 0), rfl, ?_, by rw [ht]; exact hP, hD⟩, hS.F ht⟩) hS.2.2 dX5_between_33
      try dsimp only
      first | exact ⟨(if_neg (fun q => b8 q.1)).symm, hvok⟩ | exact ⟨(if_neg (fun q => b19 q.2)).symm, hvok⟩ | (refine ⟨?_, VOK_fr he25⟩; rw [if_pos ⟨inR_nI hd0 (by omega), inR_nI he0 (by omega)⟩, tn_nI (by omega), tn_nI (by omega)]; exact FR_unl he25 hwh (by omega) (by omega))
    · skip
      refine lv_iconst (v := (-1)) hx hb dX5_between_22 (by decide) ?_
      have hP := hP.sub (ws' := [oC kx 5 [.ref kb, .ref kim, .ref kit, .ref kv, .ref kre, .int tf, .ref ksh, .int rf, .ref kwa, .ref kta], oC kb 0 [.int (nI w), .int (nI h), .int (nI la), .ref ka, .ref kc, .ref kl, .ref kn], iA G ka 16 af, oC kc 2 [.ref kcn, .int (nI 10), .int (nI nc)], iA G kcn (3 * 10) fc, oC kv 4 [.ref km, .ref kg, .int (nI vw), .int (nI vh), .int sl], iA G km 176 mk, iA G kg 160 sg]) [0, 1, 2, 3, 4, 5, 6, 7] rfl
      have hD := hD.sub (ws' := [oC kx 5 [.ref kb, .ref kim, .ref kit, .ref kv, .ref kre, .int tf, .ref ksh, .int rf, .ref kwa, .ref kta], oC kb 0 [.int (nI w), .int (nI h), .int (nI la), .ref ka, .ref kc, .ref kl, .ref kn], iA G ka 16 af, oC kc 2 [.ref kcn, .int (nI 10), .int (nI nc)], iA G kcn (3 * 10) fc, oC kv 4 [.ref km, .ref kg, .int (nI vw), .int (nI vh), .int sl], iA G km 176 mk, iA G kg 160 sg]) [0, 1, 2, 3, 4, 5, 6, 7] (by decide) rfl
      refine W.iret (v := (-1)) hx hb hr (fun t ht hW => ⟨⟨(-1), (mk, sg, vw, vh, sl), rfl, ?_, by rw [ht]; exact hP, hD⟩, hS.F ht⟩) hS.2.2 dX5_between_23
      try dsimp only
      first | exact ⟨(if_neg (fun q => b8 q.1)).symm, hvok⟩ | exact ⟨(if_neg (fun q => b19 q.2)).symm, hvok⟩ | (refine ⟨?_, VOK_fr he25⟩; rw [if_pos ⟨inR_nI hd0 (by omega), inR_nI he0 (by omega)⟩, tn_nI (by omega), tn_nI (by omega)]; exact FR_unl he25 hwh (by omega) (by omega))

abbrev w_X5_all (G : XG) (kx kim kit kre ksh kwa kta : Nat) (tf rf : Int32) (kb ka kc kcn kl kn : Nat) (w h la : Nat) (af : Nat → Int32) (nc : Nat) (fc : Nat → Int32) (kv km kg : Nat) (vw vh : Nat) (sl : Int32) (mk sg : Nat → Int32) : va_W := [oC kx 5 [.ref kb, .ref kim, .ref kit, .ref kv, .ref kre, .int tf, .ref ksh, .int rf, .ref kwa, .ref kta], oC kb 0 [.int (nI w), .int (nI h), .int (nI la), .ref ka, .ref kc, .ref kl, .ref kn], iA G ka 16 af, oC kc 2 [.ref kcn, .int (nI 10), .int (nI nc)], iA G kcn (3 * 10) fc, oC kv 4 [.ref km, .ref kg, .int (nI vw), .int (nI vh), .int sl], iA G km 176 mk, iA G kg 160 sg]
abbrev Q_X5_all (G : XG) (sz : Nat) (kx kim kit kre ksh kwa kta : Nat) (tf rf : Int32) (kb ka kc kcn kl kn : Nat) (w h la : Nat) (af : Nat → Int32) (nc : Nat) (fc : Nat → Int32) (kv km kg : Nat) (vw vh : Nat) (sl : Int32) (mk sg : Nat → Int32) (m d : Int32) : Array Value → State → Outcome → State → Prop := (va_Qi (fun (r : Int32) (u : (Nat → Int32) × (Nat → Int32) × Nat × Nat × Int32) => r = (if inR m 6 ∧ inR d (la + 1) then xbits (fun c => decide (mkS af nc fc c (tn d) = m)) (w * h) else (-1)) ∧ VOK w h la af nc fc u.1 u.2.1 u.2.2.1 u.2.2.2.1 u.2.2.2.2) (xWb G sz (w_X5_all G kx kim kit kre ksh kwa kta tf rf kb ka kc kcn kl kn w h la af nc fc kv km kg vw vh sl mk sg) (fun u : (Nat → Int32) × (Nat → Int32) × Nat × Nat × Int32 => [oC kx 5 [.ref kb, .ref kim, .ref kit, .ref kv, .ref kre, .int tf, .ref ksh, .int rf, .ref kwa, .ref kta], oC kb 0 [.int (nI w), .int (nI h), .int (nI la), .ref ka, .ref kc, .ref kl, .ref kn], iA G ka 16 af, oC kc 2 [.ref kcn, .int (nI 10), .int (nI nc)], iA G kcn (3 * 10) fc, oC kv 4 [.ref km, .ref kg, .int (nI u.2.2.1), .int (nI u.2.2.2.1), .int u.2.2.2.2], iA G km 176 u.1, iA G kg 160 u.2.1])) (va_A (w_X5_all G kx kim kit kre ksh kwa kta tf rf kb ka kc kcn kl kn w h la af nc fc kv km kg vw vh sl mk sg) sz))
set_option maxHeartbeats 4000000 in
set_option maxRecDepth 100000 in
theorem c_X5_all (l : Launch) (G : XG) (sz : Nat) (kx kim kit kre ksh kwa kta : Nat) (tf rf : Int32) (kb ka kc kcn kl kn : Nat) (w h la : Nat) (af : Nat → Int32) (nc : Nat) (fc : Nat → Int32) (kv km kg : Nat) (vw vh : Nat) (sl : Int32) (mk sg : Nat → Int32) (m d : Int32) (hw : 1 ≤ w) (hwb : w ≤ 16) (hhb : h ≤ 16) (hwh : w * h ≤ 16) (hla : la ≤ 9) (hnc : nc ≤ 10) (hcell : ∀ i, i < nc → inR (fc (3 * i + 1)) 16) (hvok : VOK w h la af nc fc mk sg vw vh sl) : Met l yX5_all wsX5_all ({ frames := 4, cells := 0, slots := 0, locals := 96 } : Room) (va_Pc [.ref kx, .int m, .int d] (xWp G sz (w_X5_all G kx kim kit kre ksh kwa kta tf rf kb ka kc kcn kl kn w h la af nc fc kv km kg vw vh sl mk sg))) (Q_X5_all G sz kx kim kit kre ksh kwa kta tf rf kb ka kc kcn kl kn w h la af nc fc kv km kg vw vh sl mk sg m d) 0 0 (va_A (w_X5_all G kx kim kit kre ksh kwa kta tf rf kb ka kc kcn kl kn w h la af nc fc kv km kg vw vh sl mk sg) sz) := by
  refine Met.ofW (cc := cX5_all) (maxL := 3) (ret := (some .int)) (by decide) rfl ?_
  intro pp ee ss mm aa below mt cd s₁ BB hml hv
  obtain ⟨rfl, hsz, hP, hK, hD0⟩ := hv
  have hx := BB.exec
  have hb := BB.bytes
  have hr := BB.returns
  have hts := atoms_spec (ws := wsX5_all) BB.pre
  have hown : ss.vm.findClass RX5 = some mm.cls := findClass_of_methodNamed BB.named
  have hlocks := BB.notSynchronized
  subst hsz
  have hD := hD0.self (sz := ss.heap.size)
  have hA : ∀ q : Nat, ss.heap.size ≤ q → va_A (w_X5_all G kx kim kit kre ksh kwa kta tf rf kb ka kc kcn kl kn w h la af nc fc kv km kg vw vh sl mk sg) ss.heap.size q := fun q h => Or.inr h
  have hS : va_S (va_A (w_X5_all G kx kim kit kre ksh kwa kta tf rf kb ka kc kcn kl kn w h la af nc fc kv km kg vw vh sl mk sg) ss.heap.size) ss.heap ss.heap [] := va_S.rf
  replace hD : va_D (va_A (w_X5_all G kx kim kit kre ksh kwa kta tf rf kb ka kc kcn kl kn w h la af nc fc kv km kg vw vh sl mk sg) ss.heap.size) [oC kx 5 [.ref kb, .ref kim, .ref kit, .ref kv, .ref kre, .int tf, .ref ksh, .int rf, .ref kwa, .ref kta], oC kb 0 [.int (nI w), .int (nI h), .int (nI la), .ref ka, .ref kc, .ref kl, .ref kn], iA G ka 16 af, oC kc 2 [.ref kcn, .int (nI 10), .int (nI nc)], iA G kcn (3 * 10) fc, oC kv 4 [.ref km, .ref kg, .int (nI vw), .int (nI vh), .int sl], iA G km 176 mk, iA G kg 160 sg] := hD
  replace hP : xP G [oC kx 5 [.ref kb, .ref kim, .ref kit, .ref kv, .ref kre, .int tf, .ref ksh, .int rf, .ref kwa, .ref kta], oC kb 0 [.int (nI w), .int (nI h), .int (nI la), .ref ka, .ref kc, .ref kl, .ref kn], iA G ka 16 af, oC kc 2 [.ref kcn, .int (nI 10), .int (nI nc)], iA G kcn (3 * 10) fc, oC kv 4 [.ref km, .ref kg, .int (nI vw), .int (nI vh), .int sl], iA G km 176 mk, iA G kg 160 sg] ss.heap := hP
  have hin0 : ∀ w ∈ u_ws RX0 TX0 7, w ∈ wsX5_all := fun w h => List.mem_cons_of_mem _ (List.mem_append_left _ (List.mem_append_left _ (List.mem_append_right _ h)))
  have hin2 : ∀ w ∈ u_ws RX2 TX2 3, w ∈ wsX5_all := fun w h => List.mem_cons_of_mem _ (List.mem_append_right _ h)
  have hin4 : ∀ w ∈ u_ws RX4 TX4 5, w ∈ wsX5_all := fun w h => List.mem_cons_of_mem _ (List.mem_append_left _ (List.mem_append_right _ h))
  have hin5 : ∀ w ∈ u_ws RX5 TX5 10, w ∈ wsX5_all := fun w h => List.mem_cons_of_mem _ (List.mem_append_left _ (List.mem_append_left _ (List.mem_append_left _ (List.mem_append_right _ h))))
  have hl := lv_entry ([.ref kx, .int m, .int d]) (n := 3) (Nat.le_of_ble_eq_true rfl)
  rw [lg_entry_eq]
  generalize (lg_sl ([.ref kx, .int m, .int d]) ++ List.replicate (3 - (lg_sl ([.ref kx, .int m, .int d])).length) Slot.unset).toArray = ls at hl ⊢
  replace hl : lv_has ls 3 [(0, .ref kx), (1, .int m), (2, .int d)] := hl
  refine lv_iload_n hx hb dX5_all_0 rfl (lv_at hl 1 rfl) ?_
  refine xs_i (As := [.int m]) (rest := []) ⟨hx, hb, hml, hown, hts⟩ (c_X5_isMark l G m ) (va_cwS 1 hts gX5_all_X5_isMark rfl rfl rfl (by decide +kernel) ⟨Nat.le_of_ble_eq_true rfl, Nat.le_of_ble_eq_true rfl⟩) hP hS rfl hl.1 rfl (Nat.le_of_ble_eq_true rfl) dX5_all_1 ⟨Nat.zero_le _, Nat.zero_le _⟩ (fun r1 H locs hp1 hP hS => ?_)
  obtain rfl : r1 = xb (inR m 6) := hp1
  refine xb_if_eq (tgt := 18) hx hb dX5_all_4 rfl (fun b4 => ?_) (fun b4 => ?_)
  · skip
    refine lv_iconst (v := (-1)) hx hb dX5_all_18 (by decide) ?_
    have hP := hP.sub (ws' := [oC kx 5 [.ref kb, .ref kim, .ref kit, .ref kv, .ref kre, .int tf, .ref ksh, .int rf, .ref kwa, .ref kta], oC kb 0 [.int (nI w), .int (nI h), .int (nI la), .ref ka, .ref kc, .ref kl, .ref kn], iA G ka 16 af, oC kc 2 [.ref kcn, .int (nI 10), .int (nI nc)], iA G kcn (3 * 10) fc, oC kv 4 [.ref km, .ref kg, .int (nI vw), .int (nI vh), .int sl], iA G km 176 mk, iA G kg 160 sg]) [0, 1, 2, 3, 4, 5, 6, 7] rfl
    have hD := hD.sub (ws' := [oC kx 5 [.ref kb, .ref kim, .ref kit, .ref kv, .ref kre, .int tf, .ref ksh, .int rf, .ref kwa, .ref kta], oC kb 0 [.int (nI w), .int (nI h), .int (nI la), .ref ka, .ref kc, .ref kl, .ref kn], iA G ka 16 af, oC kc 2 [.ref kcn, .int (nI 10), .int (nI nc)], iA G kcn (3 * 10) fc, oC kv 4 [.ref km, .ref kg, .int (nI vw), .int (nI vh), .int sl], iA G km 176 mk, iA G kg 160 sg]) [0, 1, 2, 3, 4, 5, 6, 7] (by decide) rfl
    refine W.iret (v := (-1)) hx hb hr (fun t ht hW => ⟨⟨(-1), (mk, sg, vw, vh, sl), rfl, ?_, by rw [ht]; exact hP, hD⟩, hS.F ht⟩) hS.2.2 dX5_all_19
    try dsimp only
    first | exact ⟨(if_neg (fun q => b4 q.1)).symm, hvok⟩ | exact ⟨(if_neg (fun q => b15 q.2)).symm, hvok⟩ | (refine ⟨?_, VOK_fr he21⟩; rw [if_pos ⟨b4, inR_nI hd0 (by omega)⟩, tn_nI (by omega)]; exact FR_all he21 hwh (by omega) m)
  · skip
    refine lv_aload_n hx hb dX5_all_7 rfl (lv_at hl 0 rfl) ?_
    refine va_get (D := G.1) (ci := 5) (v := .ref kb) (C := RX5) (T := TX5) (N := 10) hx hb hts hin5 hown hK.1 hP 0 rfl rfl 0 (by decide) (hts (.fieldLink RX5 10 "BackLenses" "book" "LBackLenses$Book;") (List.mem_of_getElem? (i := 1) rfl)) (fun _ h9 => h9) rfl dX5_all_8 ?_
    refine lv_iload_n hx hb dX5_all_11 rfl (lv_at hl 2 rfl) ?_
    refine xr_i (As := [.int d]) (rest := []) ⟨hx, hb, hml, hown, hts⟩ (c_X0_hasDay l G kb ka kc kl kn w h la d (by first | assumption | omega)) (cwV 1 hts gX5_all_X0_hasDay rfl rfl rfl (by decide +kernel) ⟨Nat.le_of_ble_eq_true rfl, Nat.le_of_ble_eq_true rfl⟩) hK hP hS [1] rfl rfl rfl rfl hl.1 rfl (Nat.le_of_ble_eq_true rfl) dX5_all_12 ⟨Nat.zero_le _, Nat.zero_le _⟩ (fun r12 H locs hp12 hP hS => ?_)
    obtain rfl : r12 = xb (inR d (la + 1)) := hp12
    refine xb_if_ne (tgt := 20) hx hb dX5_all_15 rfl (fun b15 => ?_) (fun b15 => ?_)
    · skip
      obtain ⟨d0, hd0, rfl⟩ := inR_nat b15
      refine lv_aload_n hx hb dX5_all_20 rfl (lv_at hl 0 rfl) ?_
      refine xw_r (As := []) (rest := []) (wr := []) ⟨hx, hb, hml, hown, hts⟩ (c_X5_freshViews l G H.size kx kim kit kre ksh kwa kta tf rf kb ka kc kcn kl kn w h la af nc fc kv km kg vw vh sl mk sg (by first | assumption | omega) (by first | assumption | omega) (by first | assumption | omega) (by first | assumption | omega) (by first | assumption | omega) (by first | assumption | omega) (by first | assumption | omega) (by first | assumption | omega)) (cwV 0 hts gX5_all_X5_freshViews rfl rfl rfl (by decide +kernel) ⟨Nat.le_of_ble_eq_true rfl, Nat.le_of_ble_eq_true rfl⟩) hK hP hD hS hA [0, 1, 2, 3, 4, 5, 6, 7] [] rfl rfl (by decide) (by decide) (by decide) rfl rfl rfl hl.1 rfl (Nat.le_of_ble_eq_true rfl) dX5_all_21 ⟨Nat.le_of_ble_eq_true rfl, Nat.le_of_ble_eq_true rfl⟩ (fun u H locs hp21 hP hD hS => ?_)
      obtain ⟨mk2_21, sg2_21⟩ := u
      try dsimp only at hp21 hP hD
      have he21 := hp21
      replace hP : xP G [oC kx 5 [.ref kb, .ref kim, .ref kit, .ref kv, .ref kre, .int tf, .ref ksh, .int rf, .ref kwa, .ref kta], oC kb 0 [.int (nI w), .int (nI h), .int (nI la), .ref ka, .ref kc, .ref kl, .ref kn], iA G ka 16 af, oC kc 2 [.ref kcn, .int (nI 10), .int (nI nc)], iA G kcn (3 * 10) fc, oC kv 4 [.ref km, .ref kg, .int (nI w), .int (nI h), .int (nI 0)], iA G km 176 mk2_21, iA G kg 160 sg2_21] H := hP
      replace hD : va_D (va_A (w_X5_all G kx kim kit kre ksh kwa kta tf rf kb ka kc kcn kl kn w h la af nc fc kv km kg vw vh sl mk sg) ss.heap.size) [oC kx 5 [.ref kb, .ref kim, .ref kit, .ref kv, .ref kre, .int tf, .ref ksh, .int rf, .ref kwa, .ref kta], oC kb 0 [.int (nI w), .int (nI h), .int (nI la), .ref ka, .ref kc, .ref kl, .ref kn], iA G ka 16 af, oC kc 2 [.ref kcn, .int (nI 10), .int (nI nc)], iA G kcn (3 * 10) fc, oC kv 4 [.ref km, .ref kg, .int (nI w), .int (nI h), .int (nI 0)], iA G km 176 mk2_21, iA G kg 160 sg2_21] := hD
      refine lv_iload_n hx hb dX5_all_24 rfl (lv_at hl 1 rfl) ?_
      refine lv_iload_n hx hb dX5_all_25 rfl (lv_at hl 2 rfl) ?_
      refine xr_i (As := [.int m, .int (nI d0)]) (rest := []) ⟨hx, hb, hml, hown, hts⟩ (c_X4_cellsWith l G kv km kg w h (nI 0) mk2_21 m d0 (by first | assumption | omega) (by first | assumption | omega)) (cwV 2 hts gX5_all_X4_cellsWith rfl rfl rfl (by decide +kernel) ⟨Nat.le_of_ble_eq_true rfl, Nat.le_of_ble_eq_true rfl⟩) hK hP hS [5, 6] rfl rfl rfl rfl hl.1 rfl (Nat.le_of_ble_eq_true rfl) dX5_all_26 ⟨Nat.zero_le _, Nat.zero_le _⟩ (fun r26 H locs hp26 hP hS => ?_)
      obtain rfl : r26 = xbits (fun c => decide (mk2_21 (d0 * 16 + c) = m)) (w * h) := hp26
      have hP := hP.sub (ws' := [oC kx 5 [.ref kb, .ref kim, .ref kit, .ref kv, .ref kre, .int tf, .ref ksh, .int rf, .ref kwa, .ref kta], oC kb 0 [.int (nI w), .int (nI h), .int (nI la), .ref ka, .ref kc, .ref kl, .ref kn], iA G ka 16 af, oC kc 2 [.ref kcn, .int (nI 10), .int (nI nc)], iA G kcn (3 * 10) fc, oC kv 4 [.ref km, .ref kg, .int (nI w), .int (nI h), .int (nI 0)], iA G km 176 mk2_21, iA G kg 160 sg2_21]) [0, 1, 2, 3, 4, 5, 6, 7] rfl
      have hD := hD.sub (ws' := [oC kx 5 [.ref kb, .ref kim, .ref kit, .ref kv, .ref kre, .int tf, .ref ksh, .int rf, .ref kwa, .ref kta], oC kb 0 [.int (nI w), .int (nI h), .int (nI la), .ref ka, .ref kc, .ref kl, .ref kn], iA G ka 16 af, oC kc 2 [.ref kcn, .int (nI 10), .int (nI nc)], iA G kcn (3 * 10) fc, oC kv 4 [.ref km, .ref kg, .int (nI w), .int (nI h), .int (nI 0)], iA G km 176 mk2_21, iA G kg 160 sg2_21]) [0, 1, 2, 3, 4, 5, 6, 7] (by decide) rfl
      refine W.iret (v := xbits (fun c => decide (mk2_21 (d0 * 16 + c) = m)) (w * h)) hx hb hr (fun t ht hW => ⟨⟨xbits (fun c => decide (mk2_21 (d0 * 16 + c) = m)) (w * h), (mk2_21, sg2_21, w, h, nI 0), rfl, ?_, by rw [ht]; exact hP, hD⟩, hS.F ht⟩) hS.2.2 dX5_all_29
      try dsimp only
      first | exact ⟨(if_neg (fun q => b4 q.1)).symm, hvok⟩ | exact ⟨(if_neg (fun q => b15 q.2)).symm, hvok⟩ | (refine ⟨?_, VOK_fr he21⟩; rw [if_pos ⟨b4, inR_nI hd0 (by omega)⟩, tn_nI (by omega)]; exact FR_all he21 hwh (by omega) m)
    · skip
      refine lv_iconst (v := (-1)) hx hb dX5_all_18 (by decide) ?_
      have hP := hP.sub (ws' := [oC kx 5 [.ref kb, .ref kim, .ref kit, .ref kv, .ref kre, .int tf, .ref ksh, .int rf, .ref kwa, .ref kta], oC kb 0 [.int (nI w), .int (nI h), .int (nI la), .ref ka, .ref kc, .ref kl, .ref kn], iA G ka 16 af, oC kc 2 [.ref kcn, .int (nI 10), .int (nI nc)], iA G kcn (3 * 10) fc, oC kv 4 [.ref km, .ref kg, .int (nI vw), .int (nI vh), .int sl], iA G km 176 mk, iA G kg 160 sg]) [0, 1, 2, 3, 4, 5, 6, 7] rfl
      have hD := hD.sub (ws' := [oC kx 5 [.ref kb, .ref kim, .ref kit, .ref kv, .ref kre, .int tf, .ref ksh, .int rf, .ref kwa, .ref kta], oC kb 0 [.int (nI w), .int (nI h), .int (nI la), .ref ka, .ref kc, .ref kl, .ref kn], iA G ka 16 af, oC kc 2 [.ref kcn, .int (nI 10), .int (nI nc)], iA G kcn (3 * 10) fc, oC kv 4 [.ref km, .ref kg, .int (nI vw), .int (nI vh), .int sl], iA G km 176 mk, iA G kg 160 sg]) [0, 1, 2, 3, 4, 5, 6, 7] (by decide) rfl
      refine W.iret (v := (-1)) hx hb hr (fun t ht hW => ⟨⟨(-1), (mk, sg, vw, vh, sl), rfl, ?_, by rw [ht]; exact hP, hD⟩, hS.F ht⟩) hS.2.2 dX5_all_19
      try dsimp only
      first | exact ⟨(if_neg (fun q => b4 q.1)).symm, hvok⟩ | exact ⟨(if_neg (fun q => b15 q.2)).symm, hvok⟩ | (refine ⟨?_, VOK_fr he21⟩; rw [if_pos ⟨b4, inR_nI hd0 (by omega)⟩, tn_nI (by omega)]; exact FR_all he21 hwh (by omega) m)

abbrev w_X5_apart (G : XG) (kx kim kit kre ksh kwa kta : Nat) (tf rf : Int32) (kb ka kc kcn kl kn : Nat) (w h la : Nat) (af : Nat → Int32) (nc : Nat) (fc : Nat → Int32) (kv km kg : Nat) (vw vh : Nat) (sl : Int32) (mk sg : Nat → Int32) : va_W := [oC kx 5 [.ref kb, .ref kim, .ref kit, .ref kv, .ref kre, .int tf, .ref ksh, .int rf, .ref kwa, .ref kta], oC kb 0 [.int (nI w), .int (nI h), .int (nI la), .ref ka, .ref kc, .ref kl, .ref kn], iA G ka 16 af, oC kc 2 [.ref kcn, .int (nI 10), .int (nI nc)], iA G kcn (3 * 10) fc, oC kv 4 [.ref km, .ref kg, .int (nI vw), .int (nI vh), .int sl], iA G km 176 mk, iA G kg 160 sg]
abbrev Q_X5_apart (G : XG) (sz : Nat) (kx kim kit kre ksh kwa kta : Nat) (tf rf : Int32) (kb ka kc kcn kl kn : Nat) (w h la : Nat) (af : Nat → Int32) (nc : Nat) (fc : Nat → Int32) (kv km kg : Nat) (vw vh : Nat) (sl : Int32) (mk sg : Nat → Int32) (d e : Int32) : Array Value → State → Outcome → State → Prop := (va_Qi (fun (r : Int32) (u : (Nat → Int32) × (Nat → Int32) × Nat × Nat × Int32) => r = (if inR d (la + 1) ∧ inR e (la + 1) then apS w h af nc fc (tn d) (tn e) else (-1)) ∧ VOK w h la af nc fc u.1 u.2.1 u.2.2.1 u.2.2.2.1 u.2.2.2.2) (xWb G sz (w_X5_apart G kx kim kit kre ksh kwa kta tf rf kb ka kc kcn kl kn w h la af nc fc kv km kg vw vh sl mk sg) (fun u : (Nat → Int32) × (Nat → Int32) × Nat × Nat × Int32 => [oC kx 5 [.ref kb, .ref kim, .ref kit, .ref kv, .ref kre, .int tf, .ref ksh, .int rf, .ref kwa, .ref kta], oC kb 0 [.int (nI w), .int (nI h), .int (nI la), .ref ka, .ref kc, .ref kl, .ref kn], iA G ka 16 af, oC kc 2 [.ref kcn, .int (nI 10), .int (nI nc)], iA G kcn (3 * 10) fc, oC kv 4 [.ref km, .ref kg, .int (nI u.2.2.1), .int (nI u.2.2.2.1), .int u.2.2.2.2], iA G km 176 u.1, iA G kg 160 u.2.1])) (va_A (w_X5_apart G kx kim kit kre ksh kwa kta tf rf kb ka kc kcn kl kn w h la af nc fc kv km kg vw vh sl mk sg) sz))
set_option maxHeartbeats 4000000 in
set_option maxRecDepth 100000 in
theorem c_X5_apart (l : Launch) (G : XG) (sz : Nat) (kx kim kit kre ksh kwa kta : Nat) (tf rf : Int32) (kb ka kc kcn kl kn : Nat) (w h la : Nat) (af : Nat → Int32) (nc : Nat) (fc : Nat → Int32) (kv km kg : Nat) (vw vh : Nat) (sl : Int32) (mk sg : Nat → Int32) (d e : Int32) (hw : 1 ≤ w) (hwb : w ≤ 16) (hhb : h ≤ 16) (hwh : w * h ≤ 16) (hla : la ≤ 9) (hnc : nc ≤ 10) (hcell : ∀ i, i < nc → inR (fc (3 * i + 1)) 16) (hvok : VOK w h la af nc fc mk sg vw vh sl) : Met l yX5_apart wsX5_apart ({ frames := 4, cells := 0, slots := 0, locals := 96 } : Room) (va_Pc [.ref kx, .int d, .int e] (xWp G sz (w_X5_apart G kx kim kit kre ksh kwa kta tf rf kb ka kc kcn kl kn w h la af nc fc kv km kg vw vh sl mk sg))) (Q_X5_apart G sz kx kim kit kre ksh kwa kta tf rf kb ka kc kcn kl kn w h la af nc fc kv km kg vw vh sl mk sg d e) 0 0 (va_A (w_X5_apart G kx kim kit kre ksh kwa kta tf rf kb ka kc kcn kl kn w h la af nc fc kv km kg vw vh sl mk sg) sz) := by
  refine Met.ofW (cc := cX5_apart) (maxL := 3) (ret := (some .int)) (by decide) rfl ?_
  intro pp ee ss mm aa below mt cd s₁ BB hml hv
  obtain ⟨rfl, hsz, hP, hK, hD0⟩ := hv
  have hx := BB.exec
  have hb := BB.bytes
  have hr := BB.returns
  have hts := atoms_spec (ws := wsX5_apart) BB.pre
  have hown : ss.vm.findClass RX5 = some mm.cls := findClass_of_methodNamed BB.named
  have hlocks := BB.notSynchronized
  subst hsz
  have hD := hD0.self (sz := ss.heap.size)
  have hA : ∀ q : Nat, ss.heap.size ≤ q → va_A (w_X5_apart G kx kim kit kre ksh kwa kta tf rf kb ka kc kcn kl kn w h la af nc fc kv km kg vw vh sl mk sg) ss.heap.size q := fun q h => Or.inr h
  have hS : va_S (va_A (w_X5_apart G kx kim kit kre ksh kwa kta tf rf kb ka kc kcn kl kn w h la af nc fc kv km kg vw vh sl mk sg) ss.heap.size) ss.heap ss.heap [] := va_S.rf
  replace hD : va_D (va_A (w_X5_apart G kx kim kit kre ksh kwa kta tf rf kb ka kc kcn kl kn w h la af nc fc kv km kg vw vh sl mk sg) ss.heap.size) [oC kx 5 [.ref kb, .ref kim, .ref kit, .ref kv, .ref kre, .int tf, .ref ksh, .int rf, .ref kwa, .ref kta], oC kb 0 [.int (nI w), .int (nI h), .int (nI la), .ref ka, .ref kc, .ref kl, .ref kn], iA G ka 16 af, oC kc 2 [.ref kcn, .int (nI 10), .int (nI nc)], iA G kcn (3 * 10) fc, oC kv 4 [.ref km, .ref kg, .int (nI vw), .int (nI vh), .int sl], iA G km 176 mk, iA G kg 160 sg] := hD
  replace hP : xP G [oC kx 5 [.ref kb, .ref kim, .ref kit, .ref kv, .ref kre, .int tf, .ref ksh, .int rf, .ref kwa, .ref kta], oC kb 0 [.int (nI w), .int (nI h), .int (nI la), .ref ka, .ref kc, .ref kl, .ref kn], iA G ka 16 af, oC kc 2 [.ref kcn, .int (nI 10), .int (nI nc)], iA G kcn (3 * 10) fc, oC kv 4 [.ref km, .ref kg, .int (nI vw), .int (nI vh), .int sl], iA G km 176 mk, iA G kg 160 sg] ss.heap := hP
  have hin0 : ∀ w ∈ u_ws RX0 TX0 7, w ∈ wsX5_apart := fun w h => List.mem_cons_of_mem _ (List.mem_append_left _ (List.mem_append_left _ (List.mem_append_right _ h)))
  have hin2 : ∀ w ∈ u_ws RX2 TX2 3, w ∈ wsX5_apart := fun w h => List.mem_cons_of_mem _ (List.mem_append_right _ h)
  have hin4 : ∀ w ∈ u_ws RX4 TX4 5, w ∈ wsX5_apart := fun w h => List.mem_cons_of_mem _ (List.mem_append_left _ (List.mem_append_right _ h))
  have hin5 : ∀ w ∈ u_ws RX5 TX5 10, w ∈ wsX5_apart := fun w h => List.mem_cons_of_mem _ (List.mem_append_left _ (List.mem_append_left _ (List.mem_append_left _ (List.mem_append_right _ h))))
  have hl := lv_entry ([.ref kx, .int d, .int e]) (n := 3) (Nat.le_of_ble_eq_true rfl)
  rw [lg_entry_eq]
  generalize (lg_sl ([.ref kx, .int d, .int e]) ++ List.replicate (3 - (lg_sl ([.ref kx, .int d, .int e])).length) Slot.unset).toArray = ls at hl ⊢
  replace hl : lv_has ls 3 [(0, .ref kx), (1, .int d), (2, .int e)] := hl
  refine lv_aload_n hx hb dX5_apart_0 rfl (lv_at hl 0 rfl) ?_
  refine va_get (D := G.1) (ci := 5) (v := .ref kb) (C := RX5) (T := TX5) (N := 10) hx hb hts hin5 hown hK.1 hP 0 rfl rfl 0 (by decide) (hts (.fieldLink RX5 10 "BackLenses" "book" "LBackLenses$Book;") (List.mem_of_getElem? (i := 1) rfl)) (fun _ h9 => h9) rfl dX5_apart_1 ?_
  refine lv_iload_n hx hb dX5_apart_4 rfl (lv_at hl 1 rfl) ?_
  refine xr_i (As := [.int d]) (rest := []) ⟨hx, hb, hml, hown, hts⟩ (c_X0_hasDay l G kb ka kc kl kn w h la d (by first | assumption | omega)) (cwV 1 hts gX5_apart_X0_hasDay rfl rfl rfl (by decide +kernel) ⟨Nat.le_of_ble_eq_true rfl, Nat.le_of_ble_eq_true rfl⟩) hK hP hS [1] rfl rfl rfl rfl hl.1 rfl (Nat.le_of_ble_eq_true rfl) dX5_apart_5 ⟨Nat.zero_le _, Nat.zero_le _⟩ (fun r5 H locs hp5 hP hS => ?_)
  obtain rfl : r5 = xb (inR d (la + 1)) := hp5
  refine xb_if_eq (tgt := 22) hx hb dX5_apart_8 rfl (fun b8 => ?_) (fun b8 => ?_)
  · skip
    refine lv_iconst (v := (-1)) hx hb dX5_apart_22 (by decide) ?_
    have hP := hP.sub (ws' := [oC kx 5 [.ref kb, .ref kim, .ref kit, .ref kv, .ref kre, .int tf, .ref ksh, .int rf, .ref kwa, .ref kta], oC kb 0 [.int (nI w), .int (nI h), .int (nI la), .ref ka, .ref kc, .ref kl, .ref kn], iA G ka 16 af, oC kc 2 [.ref kcn, .int (nI 10), .int (nI nc)], iA G kcn (3 * 10) fc, oC kv 4 [.ref km, .ref kg, .int (nI vw), .int (nI vh), .int sl], iA G km 176 mk, iA G kg 160 sg]) [0, 1, 2, 3, 4, 5, 6, 7] rfl
    have hD := hD.sub (ws' := [oC kx 5 [.ref kb, .ref kim, .ref kit, .ref kv, .ref kre, .int tf, .ref ksh, .int rf, .ref kwa, .ref kta], oC kb 0 [.int (nI w), .int (nI h), .int (nI la), .ref ka, .ref kc, .ref kl, .ref kn], iA G ka 16 af, oC kc 2 [.ref kcn, .int (nI 10), .int (nI nc)], iA G kcn (3 * 10) fc, oC kv 4 [.ref km, .ref kg, .int (nI vw), .int (nI vh), .int sl], iA G km 176 mk, iA G kg 160 sg]) [0, 1, 2, 3, 4, 5, 6, 7] (by decide) rfl
    refine W.iret (v := (-1)) hx hb hr (fun t ht hW => ⟨⟨(-1), (mk, sg, vw, vh, sl), rfl, ?_, by rw [ht]; exact hP, hD⟩, hS.F ht⟩) hS.2.2 dX5_apart_23
    try dsimp only
    first | exact ⟨(if_neg (fun q => b8 q.1)).symm, hvok⟩ | exact ⟨(if_neg (fun q => b19 q.2)).symm, hvok⟩ | (refine ⟨?_, VOK_fr he25⟩; rw [if_pos ⟨inR_nI hd0 (by omega), inR_nI he0 (by omega)⟩, tn_nI (by omega), tn_nI (by omega)]; exact FR_apart he25 hwh (by omega) (by omega))
  · skip
    refine lv_aload_n hx hb dX5_apart_11 rfl (lv_at hl 0 rfl) ?_
    refine va_get (D := G.1) (ci := 5) (v := .ref kb) (C := RX5) (T := TX5) (N := 10) hx hb hts hin5 hown hK.1 hP 0 rfl rfl 0 (by decide) (hts (.fieldLink RX5 10 "BackLenses" "book" "LBackLenses$Book;") (List.mem_of_getElem? (i := 1) rfl)) (fun _ h9 => h9) rfl dX5_apart_12 ?_
    refine lv_iload_n hx hb dX5_apart_15 rfl (lv_at hl 2 rfl) ?_
    refine xr_i (As := [.int e]) (rest := []) ⟨hx, hb, hml, hown, hts⟩ (c_X0_hasDay l G kb ka kc kl kn w h la e (by first | assumption | omega)) (cwV 1 hts gX5_apart_X0_hasDay rfl rfl rfl (by decide +kernel) ⟨Nat.le_of_ble_eq_true rfl, Nat.le_of_ble_eq_true rfl⟩) hK hP hS [1] rfl rfl rfl rfl hl.1 rfl (Nat.le_of_ble_eq_true rfl) dX5_apart_16 ⟨Nat.zero_le _, Nat.zero_le _⟩ (fun r16 H locs hp16 hP hS => ?_)
    obtain rfl : r16 = xb (inR e (la + 1)) := hp16
    refine xb_if_ne (tgt := 24) hx hb dX5_apart_19 rfl (fun b19 => ?_) (fun b19 => ?_)
    · skip
      obtain ⟨d0, hd0, rfl⟩ := inR_nat b8
      obtain ⟨e0, he0, rfl⟩ := inR_nat b19
      refine lv_aload_n hx hb dX5_apart_24 rfl (lv_at hl 0 rfl) ?_
      refine xw_r (As := []) (rest := []) (wr := []) ⟨hx, hb, hml, hown, hts⟩ (c_X5_freshViews l G H.size kx kim kit kre ksh kwa kta tf rf kb ka kc kcn kl kn w h la af nc fc kv km kg vw vh sl mk sg (by first | assumption | omega) (by first | assumption | omega) (by first | assumption | omega) (by first | assumption | omega) (by first | assumption | omega) (by first | assumption | omega) (by first | assumption | omega) (by first | assumption | omega)) (cwV 0 hts gX5_apart_X5_freshViews rfl rfl rfl (by decide +kernel) ⟨Nat.le_of_ble_eq_true rfl, Nat.le_of_ble_eq_true rfl⟩) hK hP hD hS hA [0, 1, 2, 3, 4, 5, 6, 7] [] rfl rfl (by decide) (by decide) (by decide) rfl rfl rfl hl.1 rfl (Nat.le_of_ble_eq_true rfl) dX5_apart_25 ⟨Nat.le_of_ble_eq_true rfl, Nat.le_of_ble_eq_true rfl⟩ (fun u H locs hp25 hP hD hS => ?_)
      obtain ⟨mk2_25, sg2_25⟩ := u
      try dsimp only at hp25 hP hD
      have he25 := hp25
      replace hP : xP G [oC kx 5 [.ref kb, .ref kim, .ref kit, .ref kv, .ref kre, .int tf, .ref ksh, .int rf, .ref kwa, .ref kta], oC kb 0 [.int (nI w), .int (nI h), .int (nI la), .ref ka, .ref kc, .ref kl, .ref kn], iA G ka 16 af, oC kc 2 [.ref kcn, .int (nI 10), .int (nI nc)], iA G kcn (3 * 10) fc, oC kv 4 [.ref km, .ref kg, .int (nI w), .int (nI h), .int (nI 0)], iA G km 176 mk2_25, iA G kg 160 sg2_25] H := hP
      replace hD : va_D (va_A (w_X5_apart G kx kim kit kre ksh kwa kta tf rf kb ka kc kcn kl kn w h la af nc fc kv km kg vw vh sl mk sg) ss.heap.size) [oC kx 5 [.ref kb, .ref kim, .ref kit, .ref kv, .ref kre, .int tf, .ref ksh, .int rf, .ref kwa, .ref kta], oC kb 0 [.int (nI w), .int (nI h), .int (nI la), .ref ka, .ref kc, .ref kl, .ref kn], iA G ka 16 af, oC kc 2 [.ref kcn, .int (nI 10), .int (nI nc)], iA G kcn (3 * 10) fc, oC kv 4 [.ref km, .ref kg, .int (nI w), .int (nI h), .int (nI 0)], iA G km 176 mk2_25, iA G kg 160 sg2_25] := hD
      refine lv_iload_n hx hb dX5_apart_28 rfl (lv_at hl 1 rfl) ?_
      refine lv_iload_n hx hb dX5_apart_29 rfl (lv_at hl 2 rfl) ?_
      refine lv_aload_n hx hb dX5_apart_30 rfl (lv_at hl 0 rfl) ?_
      refine va_get (D := G.1) (ci := 5) (v := .ref kb) (C := RX5) (T := TX5) (N := 10) hx hb hts hin5 hown hK.1 hP 0 rfl rfl 0 (by decide) (hts (.fieldLink RX5 10 "BackLenses" "book" "LBackLenses$Book;") (List.mem_of_getElem? (i := 1) rfl)) (fun _ h9 => h9) rfl dX5_apart_31 ?_
      refine xr_i (As := []) (rest := [.int (nI e0), .int (nI d0), .ref kv]) ⟨hx, hb, hml, hown, hts⟩ (c_X0_cells l G kb ka kc kl kn w h la ) (cwV 0 hts gX5_apart_X0_cells rfl rfl rfl (by decide +kernel) ⟨Nat.le_of_ble_eq_true rfl, Nat.le_of_ble_eq_true rfl⟩) hK hP hS [1] rfl rfl rfl rfl hl.1 rfl (Nat.le_of_ble_eq_true rfl) dX5_apart_34 ⟨Nat.zero_le _, Nat.zero_le _⟩ (fun r34 H locs hp34 hP hS => ?_)
      obtain rfl : r34 = nI (w * h) := hp34
      refine xr_i (As := [.int (nI d0), .int (nI e0), .int (nI (w * h))]) (rest := []) ⟨hx, hb, hml, hown, hts⟩ (c_X4_tellingApart l G kv km kg w h (nI 0) mk2_25 sg2_25 d0 e0 (w * h) (by first | assumption | omega) (by first | assumption | omega) (by first | assumption | omega) (by first | assumption | omega)) (cwV 3 hts gX5_apart_X4_tellingApart rfl rfl rfl (by decide +kernel) ⟨Nat.le_of_ble_eq_true rfl, Nat.le_of_ble_eq_true rfl⟩) hK hP hS [5, 6, 7] rfl rfl rfl rfl hl.1 rfl (Nat.le_of_ble_eq_true rfl) dX5_apart_37 ⟨Nat.zero_le _, Nat.zero_le _⟩ (fun r37 H locs hp37 hP hS => ?_)
      obtain rfl : r37 = xbits (fun x => !decide (sg2_25 (d0 * 16 + x) = sg2_25 (e0 * 16 + x)) || !decide (sg2_25 (d0 * 16 + x) &&& xbits (fun c => !decide (mk2_25 (d0 * 16 + c) = mk2_25 (e0 * 16 + c))) (w * h) = 0)) (w * h) := hp37
      have hP := hP.sub (ws' := [oC kx 5 [.ref kb, .ref kim, .ref kit, .ref kv, .ref kre, .int tf, .ref ksh, .int rf, .ref kwa, .ref kta], oC kb 0 [.int (nI w), .int (nI h), .int (nI la), .ref ka, .ref kc, .ref kl, .ref kn], iA G ka 16 af, oC kc 2 [.ref kcn, .int (nI 10), .int (nI nc)], iA G kcn (3 * 10) fc, oC kv 4 [.ref km, .ref kg, .int (nI w), .int (nI h), .int (nI 0)], iA G km 176 mk2_25, iA G kg 160 sg2_25]) [0, 1, 2, 3, 4, 5, 6, 7] rfl
      have hD := hD.sub (ws' := [oC kx 5 [.ref kb, .ref kim, .ref kit, .ref kv, .ref kre, .int tf, .ref ksh, .int rf, .ref kwa, .ref kta], oC kb 0 [.int (nI w), .int (nI h), .int (nI la), .ref ka, .ref kc, .ref kl, .ref kn], iA G ka 16 af, oC kc 2 [.ref kcn, .int (nI 10), .int (nI nc)], iA G kcn (3 * 10) fc, oC kv 4 [.ref km, .ref kg, .int (nI w), .int (nI h), .int (nI 0)], iA G km 176 mk2_25, iA G kg 160 sg2_25]) [0, 1, 2, 3, 4, 5, 6, 7] (by decide) rfl
      refine W.iret (v := xbits (fun x => !decide (sg2_25 (d0 * 16 + x) = sg2_25 (e0 * 16 + x)) || !decide (sg2_25 (d0 * 16 + x) &&& xbits (fun c => !decide (mk2_25 (d0 * 16 + c) = mk2_25 (e0 * 16 + c))) (w * h) = 0)) (w * h)) hx hb hr (fun t ht hW => ⟨⟨xbits (fun x => !decide (sg2_25 (d0 * 16 + x) = sg2_25 (e0 * 16 + x)) || !decide (sg2_25 (d0 * 16 + x) &&& xbits (fun c => !decide (mk2_25 (d0 * 16 + c) = mk2_25 (e0 * 16 + c))) (w * h) = 0)) (w * h), (mk2_25, sg2_25, w, h, nI 0), rfl, ?_, by rw [ht]; exact hP, hD⟩, hS.F ht⟩) hS.2.2 dX5_apart_40
      try dsimp only
      first | exact ⟨(if_neg (fun q => b8 q.1)).symm, hvok⟩ | exact ⟨(if_neg (fun q => b19 q.2)).symm, hvok⟩ | (refine ⟨?_, VOK_fr he25⟩; rw [if_pos ⟨inR_nI hd0 (by omega), inR_nI he0 (by omega)⟩, tn_nI (by omega), tn_nI (by omega)]; exact FR_apart he25 hwh (by omega) (by omega))
    · skip
      refine lv_iconst (v := (-1)) hx hb dX5_apart_22 (by decide) ?_
      have hP := hP.sub (ws' := [oC kx 5 [.ref kb, .ref kim, .ref kit, .ref kv, .ref kre, .int tf, .ref ksh, .int rf, .ref kwa, .ref kta], oC kb 0 [.int (nI w), .int (nI h), .int (nI la), .ref ka, .ref kc, .ref kl, .ref kn], iA G ka 16 af, oC kc 2 [.ref kcn, .int (nI 10), .int (nI nc)], iA G kcn (3 * 10) fc, oC kv 4 [.ref km, .ref kg, .int (nI vw), .int (nI vh), .int sl], iA G km 176 mk, iA G kg 160 sg]) [0, 1, 2, 3, 4, 5, 6, 7] rfl
      have hD := hD.sub (ws' := [oC kx 5 [.ref kb, .ref kim, .ref kit, .ref kv, .ref kre, .int tf, .ref ksh, .int rf, .ref kwa, .ref kta], oC kb 0 [.int (nI w), .int (nI h), .int (nI la), .ref ka, .ref kc, .ref kl, .ref kn], iA G ka 16 af, oC kc 2 [.ref kcn, .int (nI 10), .int (nI nc)], iA G kcn (3 * 10) fc, oC kv 4 [.ref km, .ref kg, .int (nI vw), .int (nI vh), .int sl], iA G km 176 mk, iA G kg 160 sg]) [0, 1, 2, 3, 4, 5, 6, 7] (by decide) rfl
      refine W.iret (v := (-1)) hx hb hr (fun t ht hW => ⟨⟨(-1), (mk, sg, vw, vh, sl), rfl, ?_, by rw [ht]; exact hP, hD⟩, hS.F ht⟩) hS.2.2 dX5_apart_23
      try dsimp only
      first | exact ⟨(if_neg (fun q => b8 q.1)).symm, hvok⟩ | exact ⟨(if_neg (fun q => b19 q.2)).symm, hvok⟩ | (refine ⟨?_, VOK_fr he25⟩; rw [if_pos ⟨inR_nI hd0 (by omega), inR_nI he0 (by omega)⟩, tn_nI (by omega), tn_nI (by omega)]; exact FR_apart he25 hwh (by omega) (by omega))

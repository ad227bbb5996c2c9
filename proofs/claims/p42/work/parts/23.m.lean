section
abbrev w_X5_places (G : XG) (kx kim kit kre ksh kwa kta : Nat) (tf rf : Int32) (kb ka kc kcn kl kn : Nat) (w h la : Nat) (af : Nat → Int32) (nc : Nat) (fc : Nat → Int32) (kv km kg : Nat) (vw vh : Nat) (sl : Int32) (mk sg : Nat → Int32) (wf : Nat → Int32) : va_W := [oC kx 5 [.ref kb, .ref kim, .ref kit, .ref kv, .ref kre, .int tf, .ref ksh, .int rf, .ref kwa, .ref kta], oC kb 0 [.int (nI w), .int (nI h), .int (nI la), .ref ka, .ref kc, .ref kl, .ref kn], iA G ka 16 af, oC kc 2 [.ref kcn, .int (nI 10), .int (nI nc)], iA G kcn (3 * 10) fc, oC kv 4 [.ref km, .ref kg, .int (nI vw), .int (nI vh), .int sl], iA G km 176 mk, iA G kg 160 sg, iA G kwa 45 wf]
abbrev Q_X5_places (G : XG) (sz : Nat) (kx kim kit kre ksh kwa kta : Nat) (tf rf : Int32) (kb ka kc kcn kl kn : Nat) (w h la : Nat) (af : Nat → Int32) (nc : Nat) (fc : Nat → Int32) (kv km kg : Nat) (vw vh : Nat) (sl : Int32) (mk sg : Nat → Int32) (wf : Nat → Int32) (a : Int32) : Array Value → State → Outcome → State → Prop := (va_Qi (fun (r : Int32) (u : (Nat → Int32) × (Nat → Int32) × (Nat → Int32) × Nat × Nat × Int32) => r = (if inR a 2 then (if a = 0 then bcI (lsS (plS w h la af nc fc) (w * h)) else lsS (plS w h la af nc fc) (w * h)) else (-1)) ∧ VOK w h la af nc fc u.2.1 u.2.2.1 u.2.2.2.1 u.2.2.2.2.1 u.2.2.2.2.2) (xWb G sz (w_X5_places G kx kim kit kre ksh kwa kta tf rf kb ka kc kcn kl kn w h la af nc fc kv km kg vw vh sl mk sg wf) (fun u : (Nat → Int32) × (Nat → Int32) × (Nat → Int32) × Nat × Nat × Int32 => [oC kx 5 [.ref kb, .ref kim, .ref kit, .ref kv, .ref kre, .int tf, .ref ksh, .int rf, .ref kwa, .ref kta], oC kb 0 [.int (nI w), .int (nI h), .int (nI la), .ref ka, .ref kc, .ref kl, .ref kn], iA G ka 16 af, oC kc 2 [.ref kcn, .int (nI 10), .int (nI nc)], iA G kcn (3 * 10) fc, oC kv 4 [.ref km, .ref kg, .int (nI u.2.2.2.1), .int (nI u.2.2.2.2.1), .int u.2.2.2.2.2], iA G km 176 u.2.1, iA G kg 160 u.2.2.1, iA G kwa 45 u.1])) (va_A (w_X5_places G kx kim kit kre ksh kwa kta tf rf kb ka kc kcn kl kn w h la af nc fc kv km kg vw vh sl mk sg wf) sz))
set_option maxHeartbeats 4000000 in
set_option maxRecDepth 100000 in
theorem c_X5_places (l : Launch) (G : XG) (sz : Nat) (kx kim kit kre ksh kwa kta : Nat) (tf rf : Int32) (kb ka kc kcn kl kn : Nat) (w h la : Nat) (af : Nat → Int32) (nc : Nat) (fc : Nat → Int32) (kv km kg : Nat) (vw vh : Nat) (sl : Int32) (mk sg : Nat → Int32) (wf : Nat → Int32) (a : Int32) (hw : 1 ≤ w) (hwb : w ≤ 16) (hhb : h ≤ 16) (hwh : w * h ≤ 16) (hla : la ≤ 9) (hnc : nc ≤ 10) (hcell : ∀ i, i < nc → inR (fc (3 * i + 1)) 16) (hvok : VOK w h la af nc fc mk sg vw vh sl) : Met l yX5_places wsX5_places ({ frames := 4, cells := 0, slots := 0, locals := 96 } : Room) (va_Pc [.ref kx, .int a] (xWp G sz (w_X5_places G kx kim kit kre ksh kwa kta tf rf kb ka kc kcn kl kn w h la af nc fc kv km kg vw vh sl mk sg wf))) (Q_X5_places G sz kx kim kit kre ksh kwa kta tf rf kb ka kc kcn kl kn w h la af nc fc kv km kg vw vh sl mk sg wf a) 0 0 (va_A (w_X5_places G kx kim kit kre ksh kwa kta tf rf kb ka kc kcn kl kn w h la af nc fc kv km kg vw vh sl mk sg wf) sz) := by
  refine Met.ofW (cc := cX5_places) (maxL := 8) (ret := (some .int)) (by decide) rfl ?_
  intro pp ee ss mm aa below mt cd s₁ BB hml hv
  obtain ⟨rfl, hsz, hP, hK, hD0⟩ := hv
  have hx := BB.exec
  have hb := BB.bytes
  have hr := BB.returns
  have hts := atoms_spec (ws := wsX5_places) BB.pre
  have hown : ss.vm.findClass RX5 = some mm.cls := findClass_of_methodNamed BB.named
  have hlocks := BB.notSynchronized
  subst hsz
  have hD := hD0.self (sz := ss.heap.size)
  have hA : ∀ q : Nat, ss.heap.size ≤ q → va_A (w_X5_places G kx kim kit kre ksh kwa kta tf rf kb ka kc kcn kl kn w h la af nc fc kv km kg vw vh sl mk sg wf) ss.heap.size q := fun q h => Or.inr h
  have hS : va_S (va_A (w_X5_places G kx kim kit kre ksh kwa kta tf rf kb ka kc kcn kl kn w h la af nc fc kv km kg vw vh sl mk sg wf) ss.heap.size) ss.heap ss.heap [] := va_S.rf
  replace hD : va_D (va_A (w_X5_places G kx kim kit kre ksh kwa kta tf rf kb ka kc kcn kl kn w h la af nc fc kv km kg vw vh sl mk sg wf) ss.heap.size) [oC kx 5 [.ref kb, .ref kim, .ref kit, .ref kv, .ref kre, .int tf, .ref ksh, .int rf, .ref kwa, .ref kta], oC kb 0 [.int (nI w), .int (nI h), .int (nI la), .ref ka, .ref kc, .ref kl, .ref kn], iA G ka 16 af, oC kc 2 [.ref kcn, .int (nI 10), .int (nI nc)], iA G kcn (3 * 10) fc, oC kv 4 [.ref km, .ref kg, .int (nI vw), .int (nI vh), .int sl], iA G km 176 mk, iA G kg 160 sg, iA G kwa 45 wf] := hD
  replace hP : xP G [oC kx 5 [.ref kb, .ref kim, .ref kit, .ref kv, .ref kre, .int tf, .ref ksh, .int rf, .ref kwa, .ref kta], oC kb 0 [.int (nI w), .int (nI h), .int (nI la), .ref ka, .ref kc, .ref kl, .ref kn], iA G ka 16 af, oC kc 2 [.ref kcn, .int (nI 10), .int (nI nc)], iA G kcn (3 * 10) fc, oC kv 4 [.ref km, .ref kg, .int (nI vw), .int (nI vh), .int sl], iA G km 176 mk, iA G kg 160 sg, iA G kwa 45 wf] ss.heap := hP
  have hin0 : ∀ w ∈ u_ws RX0 TX0 7, w ∈ wsX5_places := fun w h => List.mem_cons_of_mem _ (List.mem_append_left _ (List.mem_append_left _ (List.mem_append_right _ h)))
  have hin2 : ∀ w ∈ u_ws RX2 TX2 3, w ∈ wsX5_places := fun w h => List.mem_cons_of_mem _ (List.mem_append_right _ h)
  have hin4 : ∀ w ∈ u_ws RX4 TX4 5, w ∈ wsX5_places := fun w h => List.mem_cons_of_mem _ (List.mem_append_left _ (List.mem_append_right _ h))
  have hin5 : ∀ w ∈ u_ws RX5 TX5 10, w ∈ wsX5_places := fun w h => List.mem_cons_of_mem _ (List.mem_append_left _ (List.mem_append_left _ (List.mem_append_left _ (List.mem_append_right _ h))))
  have hl := lv_entry ([.ref kx, .int a]) (n := 8) (Nat.le_of_ble_eq_true rfl)
  rw [lg_entry_eq]
  generalize (lg_sl ([.ref kx, .int a]) ++ List.replicate (8 - (lg_sl ([.ref kx, .int a])).length) Slot.unset).toArray = ls at hl ⊢
  replace hl : lv_has ls 8 [(0, .ref kx), (1, .int a)] := hl
  refine lv_iload_n hx hb dX5_places_0 rfl (lv_at hl 1 rfl) ?_
  refine xs_i (As := [.int a]) (rest := []) ⟨hx, hb, hml, hown, hts⟩ (c_X5_isChoice l G a ) (va_cwS 1 hts gX5_places_X5_isChoice rfl rfl rfl (by decide +kernel) ⟨Nat.le_of_ble_eq_true rfl, Nat.le_of_ble_eq_true rfl⟩) hP hS rfl hl.1 rfl (Nat.le_of_ble_eq_true rfl) dX5_places_1 ⟨Nat.zero_le _, Nat.zero_le _⟩ (fun r1 H locs hp1 hP hS => ?_)
  rw [show r1 = _ from hp1]
  refine xb_if_ne (tgt := 9) hx hb dX5_places_4 rfl (fun b4 => ?_) (fun b4 => ?_)
  · skip
    refine lv_aload_n hx hb dX5_places_9 rfl (lv_at hl 0 rfl) ?_
    refine xw_r (As := []) (rest := []) (wr := [iA G kwa 45 wf]) ⟨hx, hb, hml, hown, hts⟩ (c_X5_freshViews l G H.size kx kim kit kre ksh kwa kta tf rf kb ka kc kcn kl kn w h la af nc fc kv km kg vw vh sl mk sg (by first | assumption | omega) (by first | assumption | omega) (by first | assumption | omega) (by first | assumption | omega) (by first | assumption | omega) (by first | assumption | omega) (by first | assumption | omega) (by first | assumption | omega)) (cwV 0 hts gX5_places_X5_freshViews rfl rfl rfl (by decide +kernel) ⟨Nat.le_of_ble_eq_true rfl, Nat.le_of_ble_eq_true rfl⟩) hK hP hD hS hA [0, 1, 2, 3, 4, 5, 6, 7] [8] rfl rfl (by decide) (by decide) (by decide) rfl rfl rfl hl.1 rfl (Nat.le_of_ble_eq_true rfl) dX5_places_10 ⟨Nat.le_of_ble_eq_true rfl, Nat.le_of_ble_eq_true rfl⟩ (fun u H locs hp10 hP hD hS => ?_)
    obtain ⟨mk2_10, sg2_10⟩ := u
    try dsimp only at hp10 hP hD
    have he10 := hp10
    replace hP : xP G [iA G kwa 45 wf, oC kx 5 [.ref kb, .ref kim, .ref kit, .ref kv, .ref kre, .int tf, .ref ksh, .int rf, .ref kwa, .ref kta], oC kb 0 [.int (nI w), .int (nI h), .int (nI la), .ref ka, .ref kc, .ref kl, .ref kn], iA G ka 16 af, oC kc 2 [.ref kcn, .int (nI 10), .int (nI nc)], iA G kcn (3 * 10) fc, oC kv 4 [.ref km, .ref kg, .int (nI w), .int (nI h), .int (nI 0)], iA G km 176 mk2_10, iA G kg 160 sg2_10] H := hP
    replace hD : va_D (va_A (w_X5_places G kx kim kit kre ksh kwa kta tf rf kb ka kc kcn kl kn w h la af nc fc kv km kg vw vh sl mk sg wf) ss.heap.size) [iA G kwa 45 wf, oC kx 5 [.ref kb, .ref kim, .ref kit, .ref kv, .ref kre, .int tf, .ref ksh, .int rf, .ref kwa, .ref kta], oC kb 0 [.int (nI w), .int (nI h), .int (nI la), .ref ka, .ref kc, .ref kl, .ref kn], iA G ka 16 af, oC kc 2 [.ref kcn, .int (nI 10), .int (nI nc)], iA G kcn (3 * 10) fc, oC kv 4 [.ref km, .ref kg, .int (nI w), .int (nI h), .int (nI 0)], iA G km 176 mk2_10, iA G kg 160 sg2_10] := hD
    refine lv_astore_n (lv' := [(2, .ref kv), (0, .ref kx), (1, .int a)]) hx hb dX5_places_13 rfl hl (by decide) rfl (fun ls hl => ?_)
    refine lv_aload_n hx hb dX5_places_14 rfl (lv_at hl 1 rfl) ?_
    refine va_get (D := G.1) (ci := 5) (v := .ref kb) (C := RX5) (T := TX5) (N := 10) hx hb hts hin5 hown hK.1 hP 1 rfl rfl 0 (by decide) (hts (.fieldLink RX5 10 "BackLenses" "book" "LBackLenses$Book;") (List.mem_of_getElem? (i := 1) rfl)) (fun _ h9 => h9) rfl dX5_places_15 ?_
    refine xr_i (As := []) (rest := []) ⟨hx, hb, hml, hown, hts⟩ (c_X0_cells l G kb ka kc kl kn w h la ) (cwV 0 hts gX5_places_X0_cells rfl rfl rfl (by decide +kernel) ⟨Nat.le_of_ble_eq_true rfl, Nat.le_of_ble_eq_true rfl⟩) hK hP hS [2] rfl rfl rfl rfl hl.1 rfl (Nat.le_of_ble_eq_true rfl) dX5_places_18 ⟨Nat.zero_le _, Nat.zero_le _⟩ (fun r18 H locs hp18 hP hS => ?_)
    rw [show r18 = _ from hp18]
    refine lv_istore_n (lv' := [(3, .int (nI (w * h))), (2, .ref kv), (0, .ref kx), (1, .int a)]) hx hb dX5_places_21 rfl hl (by decide) rfl (fun ls hl => ?_)
    refine lv_iconst (v := nI 0) hx hb dX5_places_22 (by decide) ?_
    refine lv_istore (lv' := [(4, .int (nI 0)), (3, .int (nI (w * h))), (2, .ref kv), (0, .ref kx), (1, .int a)]) hx hb dX5_places_23 hl (by decide) rfl (fun ls hl => ?_)
    refine lv_iconst (v := nI 0) hx hb dX5_places_25 (by decide) ?_
    refine lv_istore (lv' := [(5, .int (nI 0)), (4, .int (nI 0)), (3, .int (nI (w * h))), (2, .ref kv), (0, .ref kx), (1, .int a)]) hx hb dX5_places_26 hl (by decide) rfl (fun ls hl => ?_)
    have hL28 : ∀ k : Nat, ∀ (d : Nat) (n : Nat) (wf3 : Nat → Int32) (ls : Array Slot) (H : Heap) (locs : List Loc), la - d = k → (d ≤ la) → (n ≤ triF la d) → (∀ s, allF (fun i => !decide (wf3 i &&& s = 0)) n = allF (fun d => allF (fun j => pairP w h af nc fc d (d + 1 + j) s) (la - d)) d) → lv_has ls 8 [(0, .ref kx), (1, .int a), (2, .ref kv), (3, .int (nI (w * h))), (4, .int (nI n)), (5, .int (nI d))] → xP G [iA G ka 16 af, oC kb 0 [.int (nI w), .int (nI h), .int (nI la), .ref ka, .ref kc, .ref kl, .ref kn], oC kc 2 [.ref kcn, .int (nI 10), .int (nI nc)], iA G kcn (3 * 10) fc, iA G kg 160 sg2_10, iA G km 176 mk2_10, oC kv 4 [.ref km, .ref kg, .int (nI w), .int (nI h), .int (nI 0)], iA G kwa 45 wf3, oC kx 5 [.ref kb, .ref kim, .ref kit, .ref kv, .ref kre, .int tf, .ref ksh, .int rf, .ref kwa, .ref kta]] H → va_D (va_A (w_X5_places G kx kim kit kre ksh kwa kta tf rf kb ka kc kcn kl kn w h la af nc fc kv km kg vw vh sl mk sg wf) ss.heap.size) [iA G ka 16 af, oC kb 0 [.int (nI w), .int (nI h), .int (nI la), .ref ka, .ref kc, .ref kl, .ref kn], oC kc 2 [.ref kcn, .int (nI 10), .int (nI nc)], iA G kcn (3 * 10) fc, iA G kg 160 sg2_10, iA G km 176 mk2_10, oC kv 4 [.ref km, .ref kg, .int (nI w), .int (nI h), .int (nI 0)], iA G kwa 45 wf3, oC kx 5 [.ref kb, .ref kim, .ref kit, .ref kv, .ref kre, .int tf, .ref ksh, .int rf, .ref kwa, .ref kta]] → va_S (va_A (w_X5_places G kx kim kit kre ksh kwa kta tf rf kb ka kc kcn kl kn w h la af nc fc kv km kg vw vh sl mk sg wf) ss.heap.size) ss.heap H locs → W pp l ee ({ frames := 4, cells := 0, slots := 0, locals := 96 } : Room) ss mm ([.ref kx, .int a] : List Value).toArray below mt cd H locs 0 0 (MQ below (Q_X5_places G ss.heap.size kx kim kit kre ksh kwa kta tf rf kb ka kc kcn kl kn w h la af nc fc kv km kg vw vh sl mk sg wf a) ([.ref kx, .int a] : List Value).toArray ss 0 0 (va_A (w_X5_places G kx kim kit kre ksh kwa kta tf rf kb ka kc kcn kl kn w h la af nc fc kv km kg vw vh sl mk sg wf) ss.heap.size)) (F0 mm 28 ls []) := by
      intro k
      induction k using Nat.strongRecOn with
      | _ k ih28 =>
      intro d n wf3 ls H locs hm28 hd hn hp hl hP hD hS
      have htl := triF_le hla hd
      refine lv_iload hx hb dX5_places_28 (lv_at hl 5 rfl) ?_
      refine lv_aload_n hx hb dX5_places_30 rfl (lv_at hl 0 rfl) ?_
      refine va_get (D := G.1) (ci := 5) (v := .ref kb) (C := RX5) (T := TX5) (N := 10) hx hb hts hin5 hown hK.1 hP 8 rfl rfl 0 (by decide) (hts (.fieldLink RX5 10 "BackLenses" "book" "LBackLenses$Book;") (List.mem_of_getElem? (i := 1) rfl)) (fun _ h9 => h9) rfl dX5_places_31 ?_
      refine va_getN (D := G.1) (ci := 0) (v := .int (nI la)) (C := RX0) (T := TX0) (N := 7) hx hb hts hin0 hown hK.1 hP 1 rfl rfl 2 (by decide) (va_Nw.use rfl (hK.2 (Cond.fieldLinkNest "BackLenses" (90 : Nat) "BackLenses$Book" "last" "I" "BackLenses") (List.mem_of_getElem? (i := 11) rfl))) (fun _ h9 => h9) rfl dX5_places_34 ?_
      refine xn_icmp_ge (tgt := 105) hx hb (by omega) (by omega) dX5_places_37 rfl (fun b37 => ?_) (fun b37 => ?_)
      · skip
        refine lv_aload_n hx hb dX5_places_105 rfl (lv_at hl 0 rfl) ?_
        refine lv_iload hx hb dX5_places_106 (lv_at hl 4 rfl) ?_
        refine lv_iload_n hx hb dX5_places_108 rfl (lv_at hl 3 rfl) ?_
        refine xr_i (As := [.int (nI n), .int (nI (w * h))]) (rest := []) ⟨hx, hb, hml, hown, hts⟩ (c_X5_leastSet l G kx kb kim kit kv kre ksh kwa kta tf rf wf3 n (w * h) (by first | assumption | omega) (by first | assumption | omega)) (cwV 2 hts gX5_places_X5_leastSet rfl rfl rfl (by decide +kernel) ⟨Nat.le_of_ble_eq_true rfl, Nat.le_of_ble_eq_true rfl⟩) hK hP hS [8, 7] rfl rfl rfl rfl hl.1 rfl (Nat.le_of_ble_eq_true rfl) dX5_places_109 ⟨Nat.zero_le _, Nat.zero_le _⟩ (fun r109 H locs hp109 hP hS => ?_)
        rw [show r109 = _ from hp109]
        refine lv_istore (lv' := [(5, .int (lsS (fun s => allF (fun i => !decide (wf3 i &&& s = 0)) n) (w * h))), (0, .ref kx), (1, .int a), (2, .ref kv), (3, .int (nI (w * h))), (4, .int (nI n))]) hx hb dX5_places_112 hl (by decide) rfl (fun ls hl => ?_)
        refine lv_iload_n hx hb dX5_places_114 rfl (lv_at hl 2 rfl) ?_
        refine lv_if_ne (tgt := 126) hx hb dX5_places_115 rfl (fun b115 => ?_) (fun b115 => ?_)
        · skip
          refine lv_iload hx hb dX5_places_126 (lv_at hl 0 rfl) ?_
          have hP := hP.sub (ws' := [oC kx 5 [.ref kb, .ref kim, .ref kit, .ref kv, .ref kre, .int tf, .ref ksh, .int rf, .ref kwa, .ref kta], oC kb 0 [.int (nI w), .int (nI h), .int (nI la), .ref ka, .ref kc, .ref kl, .ref kn], iA G ka 16 af, oC kc 2 [.ref kcn, .int (nI 10), .int (nI nc)], iA G kcn (3 * 10) fc, oC kv 4 [.ref km, .ref kg, .int (nI w), .int (nI h), .int (nI 0)], iA G km 176 mk2_10, iA G kg 160 sg2_10, iA G kwa 45 wf3]) [8, 1, 0, 2, 3, 6, 5, 4, 7] rfl
          have hD := hD.sub (ws' := [oC kx 5 [.ref kb, .ref kim, .ref kit, .ref kv, .ref kre, .int tf, .ref ksh, .int rf, .ref kwa, .ref kta], oC kb 0 [.int (nI w), .int (nI h), .int (nI la), .ref ka, .ref kc, .ref kl, .ref kn], iA G ka 16 af, oC kc 2 [.ref kcn, .int (nI 10), .int (nI nc)], iA G kcn (3 * 10) fc, oC kv 4 [.ref km, .ref kg, .int (nI w), .int (nI h), .int (nI 0)], iA G km 176 mk2_10, iA G kg 160 sg2_10, iA G kwa 45 wf3]) [8, 1, 0, 2, 3, 6, 5, 4, 7] (by decide) rfl
          refine W.iret (v := lsS (fun s => allF (fun i => !decide (wf3 i &&& s = 0)) n) (w * h)) hx hb hr (fun t ht hW => ⟨⟨lsS (fun s => allF (fun i => !decide (wf3 i &&& s = 0)) n) (w * h), (wf3, mk2_10, sg2_10, w, h, nI 0), rfl, ?_, by rw [ht]; exact hP, hD⟩, hS.F ht⟩) hS.2.2 dX5_places_128
          try dsimp only
          first | exact ⟨(if_neg b4).symm, hvok⟩ | (have hls := lsS_congr (w * h) (P := fun s => allF (fun i => !decide (wf3 i &&& s = 0)) n) (P' := plS w h la af nc fc) (fun s => (hp s).trans (by rw [show d = la by omega]; rfl)); rw [if_pos b4, ← hls]; first | (rw [if_pos b115]; exact ⟨rfl, VOK_fr he10⟩) | (rw [if_neg b115]; exact ⟨rfl, VOK_fr he10⟩))
        · skip
          refine lv_iload hx hb dX5_places_118 (lv_at hl 0 rfl) ?_
          refine xs_i (As := [.int (lsS (fun s => allF (fun i => !decide (wf3 i &&& s = 0)) n) (w * h))]) (rest := []) ⟨hx, hb, hml, hown, hts⟩ (c_J6_bitCount_0f7a4 l G (lsS (fun s => allF (fun i => !decide (wf3 i &&& s = 0)) n) (w * h)) ) (va_cwS 1 hts gX5_places_J6_bitCount_0f7a4 rfl rfl rfl (by decide +kernel) ⟨Nat.le_of_ble_eq_true rfl, Nat.le_of_ble_eq_true rfl⟩) hP hS rfl hl.1 rfl (Nat.le_of_ble_eq_true rfl) dX5_places_120 ⟨Nat.zero_le _, Nat.zero_le _⟩ (fun r120 H locs hp120 hP hS => ?_)
          rw [show r120 = _ from hp120]
          refine lv_goto (tgt := 128) hx hb dX5_places_123 rfl ?_
          have hP := hP.sub (ws' := [oC kx 5 [.ref kb, .ref kim, .ref kit, .ref kv, .ref kre, .int tf, .ref ksh, .int rf, .ref kwa, .ref kta], oC kb 0 [.int (nI w), .int (nI h), .int (nI la), .ref ka, .ref kc, .ref kl, .ref kn], iA G ka 16 af, oC kc 2 [.ref kcn, .int (nI 10), .int (nI nc)], iA G kcn (3 * 10) fc, oC kv 4 [.ref km, .ref kg, .int (nI w), .int (nI h), .int (nI 0)], iA G km 176 mk2_10, iA G kg 160 sg2_10, iA G kwa 45 wf3]) [8, 1, 0, 2, 3, 6, 5, 4, 7] rfl
          have hD := hD.sub (ws' := [oC kx 5 [.ref kb, .ref kim, .ref kit, .ref kv, .ref kre, .int tf, .ref ksh, .int rf, .ref kwa, .ref kta], oC kb 0 [.int (nI w), .int (nI h), .int (nI la), .ref ka, .ref kc, .ref kl, .ref kn], iA G ka 16 af, oC kc 2 [.ref kcn, .int (nI 10), .int (nI nc)], iA G kcn (3 * 10) fc, oC kv 4 [.ref km, .ref kg, .int (nI w), .int (nI h), .int (nI 0)], iA G km 176 mk2_10, iA G kg 160 sg2_10, iA G kwa 45 wf3]) [8, 1, 0, 2, 3, 6, 5, 4, 7] (by decide) rfl
          refine W.iret (v := bcI (lsS (fun s => allF (fun i => !decide (wf3 i &&& s = 0)) n) (w * h))) hx hb hr (fun t ht hW => ⟨⟨bcI (lsS (fun s => allF (fun i => !decide (wf3 i &&& s = 0)) n) (w * h)), (wf3, mk2_10, sg2_10, w, h, nI 0), rfl, ?_, by rw [ht]; exact hP, hD⟩, hS.F ht⟩) hS.2.2 dX5_places_128
          try dsimp only
          first | exact ⟨(if_neg b4).symm, hvok⟩ | (have hls := lsS_congr (w * h) (P := fun s => allF (fun i => !decide (wf3 i &&& s = 0)) n) (P' := plS w h la af nc fc) (fun s => (hp s).trans (by rw [show d = la by omega]; rfl)); rw [if_pos b4, ← hls]; first | (rw [if_pos b115]; exact ⟨rfl, VOK_fr he10⟩) | (rw [if_neg b115]; exact ⟨rfl, VOK_fr he10⟩))
      · skip
        refine lv_iload hx hb dX5_places_40 (lv_at hl 5 rfl) ?_
        refine lv_iconst (v := nI 1) hx hb dX5_places_42 (by decide) ?_
        refine xn_iadd hx hb dX5_places_43 ?_
        refine lv_istore (lv' := [(6, .int (nI (d + 1))), (0, .ref kx), (1, .int a), (2, .ref kv), (3, .int (nI (w * h))), (4, .int (nI n)), (5, .int (nI d))]) hx hb dX5_places_44 hl (by decide) rfl (fun ls hl => ?_)
        have hL46 : ∀ k : Nat, ∀ (e : Nat) (n4 : Nat) (wf4 : Nat → Int32) (ls : Array Slot) (H : Heap) (locs : List Loc), la + 1 - e = k → (d + 1 ≤ e) → (e ≤ la + 1) → (n4 ≤ triF la d + (e - (d + 1))) → (∀ s, allF (fun i => !decide (wf4 i &&& s = 0)) n4 = (allF (fun d => allF (fun j => pairP w h af nc fc d (d + 1 + j) s) (la - d)) d && allF (fun j => pairP w h af nc fc d (d + 1 + j) s) (e - (d + 1)))) → lv_has ls 8 [(0, .ref kx), (1, .int a), (2, .ref kv), (3, .int (nI (w * h))), (4, .int (nI n4)), (5, .int (nI d)), (6, .int (nI e))] → xP G [iA G ka 16 af, oC kb 0 [.int (nI w), .int (nI h), .int (nI la), .ref ka, .ref kc, .ref kl, .ref kn], oC kc 2 [.ref kcn, .int (nI 10), .int (nI nc)], iA G kcn (3 * 10) fc, iA G kg 160 sg2_10, iA G km 176 mk2_10, oC kv 4 [.ref km, .ref kg, .int (nI w), .int (nI h), .int (nI 0)], iA G kwa 45 wf4, oC kx 5 [.ref kb, .ref kim, .ref kit, .ref kv, .ref kre, .int tf, .ref ksh, .int rf, .ref kwa, .ref kta]] H → va_D (va_A (w_X5_places G kx kim kit kre ksh kwa kta tf rf kb ka kc kcn kl kn w h la af nc fc kv km kg vw vh sl mk sg wf) ss.heap.size) [iA G ka 16 af, oC kb 0 [.int (nI w), .int (nI h), .int (nI la), .ref ka, .ref kc, .ref kl, .ref kn], oC kc 2 [.ref kcn, .int (nI 10), .int (nI nc)], iA G kcn (3 * 10) fc, iA G kg 160 sg2_10, iA G km 176 mk2_10, oC kv 4 [.ref km, .ref kg, .int (nI w), .int (nI h), .int (nI 0)], iA G kwa 45 wf4, oC kx 5 [.ref kb, .ref kim, .ref kit, .ref kv, .ref kre, .int tf, .ref ksh, .int rf, .ref kwa, .ref kta]] → va_S (va_A (w_X5_places G kx kim kit kre ksh kwa kta tf rf kb ka kc kcn kl kn w h la af nc fc kv km kg vw vh sl mk sg wf) ss.heap.size) ss.heap H locs → W pp l ee ({ frames := 4, cells := 0, slots := 0, locals := 96 } : Room) ss mm ([.ref kx, .int a] : List Value).toArray below mt cd H locs 0 0 (MQ below (Q_X5_places G ss.heap.size kx kim kit kre ksh kwa kta tf rf kb ka kc kcn kl kn w h la af nc fc kv km kg vw vh sl mk sg wf a) ([.ref kx, .int a] : List Value).toArray ss 0 0 (va_A (w_X5_places G kx kim kit kre ksh kwa kta tf rf kb ka kc kcn kl kn w h la af nc fc kv km kg vw vh sl mk sg wf) ss.heap.size)) (F0 mm 46 ls []) := by
          intro k
          induction k using Nat.strongRecOn with
          | _ k ih46 =>
          intro e n4 wf4 ls H locs hm46 he1e hela hn4 hp4 hl hP hD hS
          refine lv_iload hx hb dX5_places_46 (lv_at hl 6 rfl) ?_
          refine lv_aload_n hx hb dX5_places_48 rfl (lv_at hl 0 rfl) ?_
          refine va_get (D := G.1) (ci := 5) (v := .ref kb) (C := RX5) (T := TX5) (N := 10) hx hb hts hin5 hown hK.1 hP 8 rfl rfl 0 (by decide) (hts (.fieldLink RX5 10 "BackLenses" "book" "LBackLenses$Book;") (List.mem_of_getElem? (i := 1) rfl)) (fun _ h9 => h9) rfl dX5_places_49 ?_
          refine va_getN (D := G.1) (ci := 0) (v := .int (nI la)) (C := RX0) (T := TX0) (N := 7) hx hb hts hin0 hown hK.1 hP 1 rfl rfl 2 (by decide) (va_Nw.use rfl (hK.2 (Cond.fieldLinkNest "BackLenses" (90 : Nat) "BackLenses$Book" "last" "I" "BackLenses") (List.mem_of_getElem? (i := 11) rfl))) (fun _ h9 => h9) rfl dX5_places_52 ?_
          refine xn_icmp_gt (tgt := 99) hx hb (by omega) (by omega) dX5_places_55 rfl (fun b55 => ?_) (fun b55 => ?_)
          · skip
            refine lv_iinc (k := 5) (v := nI (d + 1)) (lv' := [(5, .int (nI (d + 1))), (0, .ref kx), (1, .int a), (2, .ref kv), (3, .int (nI (w * h))), (4, .int (nI n4)), (6, .int (nI e))]) hx hb dX5_places_99 hl rfl (xn_inc d 1) (by decide) rfl (fun ls hl => ?_)
            refine lv_goto (tgt := 28) hx hb dX5_places_102 rfl ?_
            have hl := lv_sub hl (l' := [(0, .ref kx), (1, .int a), (2, .ref kv), (3, .int (nI (w * h))), (4, .int (nI n4)), (5, .int (nI (d + 1)))]) [1, 2, 3, 4, 5, 0] rfl
            exact ih28 (la - (d + 1)) (by omega) (d + 1) n4 wf4 ls H locs rfl (by omega) (by rw [triF]; omega) (by intro s; rw [allF.eq_2 _ d, hp4 s, show e - (d + 1) = la - d by omega]) hl hP hD hS
          · skip
            refine lv_aload_n hx hb dX5_places_58 rfl (lv_at hl 2 rfl) ?_
            refine lv_iload hx hb dX5_places_59 (lv_at hl 5 rfl) ?_
            refine lv_iload hx hb dX5_places_61 (lv_at hl 6 rfl) ?_
            refine lv_iload_n hx hb dX5_places_63 rfl (lv_at hl 3 rfl) ?_
            refine xr_i (As := [.int (nI d), .int (nI e), .int (nI (w * h))]) (rest := []) ⟨hx, hb, hml, hown, hts⟩ (c_X4_tellingApart l G kv km kg w h (nI 0) mk2_10 sg2_10 d e (w * h) (by first | assumption | omega) (by first | assumption | omega) (by first | assumption | omega) (by first | assumption | omega)) (cwV 3 hts gX5_places_X4_tellingApart rfl rfl rfl (by decide +kernel) ⟨Nat.le_of_ble_eq_true rfl, Nat.le_of_ble_eq_true rfl⟩) hK hP hS [6, 5, 4] rfl rfl rfl rfl hl.1 rfl (Nat.le_of_ble_eq_true rfl) dX5_places_64 ⟨Nat.zero_le _, Nat.zero_le _⟩ (fun r64 H locs hp64 hP hS => ?_)
            rw [show r64 = _ from hp64]
            refine xn_top (FR_apart he10 hwh (by omega) (by omega)) ?_
            refine lv_istore (lv' := [(7, .int (apS w h af nc fc d e)), (0, .ref kx), (1, .int a), (2, .ref kv), (3, .int (nI (w * h))), (4, .int (nI n4)), (5, .int (nI d)), (6, .int (nI e))]) hx hb dX5_places_67 hl (by decide) rfl (fun ls hl => ?_)
            refine lv_iload hx hb dX5_places_69 (lv_at hl 0 rfl) ?_
            refine lv_if_eq (tgt := 93) hx hb dX5_places_71 rfl (fun b71 => ?_) (fun b71 => ?_)
            · skip
              refine lv_iinc (k := 7) (v := nI (e + 1)) (lv' := [(6, .int (nI (e + 1))), (7, .int (apS w h af nc fc d e)), (0, .ref kx), (1, .int a), (2, .ref kv), (3, .int (nI (w * h))), (4, .int (nI n4)), (5, .int (nI d))]) hx hb dX5_places_93 hl rfl (xn_inc e 1) (by decide) rfl (fun ls hl => ?_)
              refine lv_goto (tgt := 46) hx hb dX5_places_96 rfl ?_
              have hl := lv_sub hl (l' := [(0, .ref kx), (1, .int a), (2, .ref kv), (3, .int (nI (w * h))), (4, .int (nI n4)), (5, .int (nI d)), (6, .int (nI (e + 1)))]) [2, 3, 4, 5, 6, 7, 0] rfl
              exact ih46 (la + 1 - (e + 1)) (by omega) (e + 1) n4 wf4 ls H locs rfl (by omega) (by omega) (by omega) (by first | exact pl_skip (by omega) b71 hp4 | exact pl_add (by omega) b71 hp4) hl hP hD hS
            · skip
              have htri := triF_lt (d := d) (e := e) hla (by omega) (by omega) (by omega)
              refine lv_iload hx hb dX5_places_74 (lv_at hl 5 rfl) ?_
              refine lv_bipush (v := nI 45) hx hb dX5_places_76 (by decide) ?_
              refine xn_icmp_ge (tgt := 93) hx hb (by omega) (by omega) dX5_places_78 rfl (fun b78 => absurd b78 (by omega)) (fun _ => ?_)
              refine lv_aload_n hx hb dX5_places_81 rfl (lv_at hl 1 rfl) ?_
              refine va_get (D := G.1) (ci := 5) (v := .ref kwa) (C := RX5) (T := TX5) (N := 10) hx hb hts hin5 hown hK.1 hP 8 rfl rfl 8 (by decide) (hts (.fieldLink RX5 45 "BackLenses" "wants" "[I") (List.mem_of_getElem? (i := 2) rfl)) (fun _ h9 => h9) rfl dX5_places_82 ?_
              refine lv_iload hx hb dX5_places_85 (lv_at hl 5 rfl) ?_
              refine lv_iload hx hb dX5_places_87 (lv_at hl 0 rfl) ?_
              refine xn_iast hx hb hK hP hD hS 7 rfl (by omega) (by omega) dX5_places_89 (fun H locs hP hD hS => ?_)
              replace hP : xP G [iA G ka 16 af, oC kb 0 [.int (nI w), .int (nI h), .int (nI la), .ref ka, .ref kc, .ref kl, .ref kn], oC kc 2 [.ref kcn, .int (nI 10), .int (nI nc)], iA G kcn (3 * 10) fc, iA G kg 160 sg2_10, iA G km 176 mk2_10, oC kv 4 [.ref km, .ref kg, .int (nI w), .int (nI h), .int (nI 0)], iA G kwa 45 (upd wf4 n4 (apS w h af nc fc d e)), oC kx 5 [.ref kb, .ref kim, .ref kit, .ref kv, .ref kre, .int tf, .ref ksh, .int rf, .ref kwa, .ref kta]] H := hP
              replace hD : va_D (va_A (w_X5_places G kx kim kit kre ksh kwa kta tf rf kb ka kc kcn kl kn w h la af nc fc kv km kg vw vh sl mk sg wf) ss.heap.size) [iA G ka 16 af, oC kb 0 [.int (nI w), .int (nI h), .int (nI la), .ref ka, .ref kc, .ref kl, .ref kn], oC kc 2 [.ref kcn, .int (nI 10), .int (nI nc)], iA G kcn (3 * 10) fc, iA G kg 160 sg2_10, iA G km 176 mk2_10, oC kv 4 [.ref km, .ref kg, .int (nI w), .int (nI h), .int (nI 0)], iA G kwa 45 (upd wf4 n4 (apS w h af nc fc d e)), oC kx 5 [.ref kb, .ref kim, .ref kit, .ref kv, .ref kre, .int tf, .ref ksh, .int rf, .ref kwa, .ref kta]] := hD
              refine lv_iinc (k := 5) (v := nI (n4 + 1)) (lv' := [(4, .int (nI (n4 + 1))), (7, .int (apS w h af nc fc d e)), (0, .ref kx), (1, .int a), (2, .ref kv), (3, .int (nI (w * h))), (5, .int (nI d)), (6, .int (nI e))]) hx hb dX5_places_90 hl rfl (xn_inc n4 1) (by decide) rfl (fun ls hl => ?_)
              refine lv_iinc (k := 7) (v := nI (e + 1)) (lv' := [(6, .int (nI (e + 1))), (4, .int (nI (n4 + 1))), (7, .int (apS w h af nc fc d e)), (0, .ref kx), (1, .int a), (2, .ref kv), (3, .int (nI (w * h))), (5, .int (nI d))]) hx hb dX5_places_93 hl rfl (xn_inc e 1) (by decide) rfl (fun ls hl => ?_)
              refine lv_goto (tgt := 46) hx hb dX5_places_96 rfl ?_
              have hl := lv_sub hl (l' := [(0, .ref kx), (1, .int a), (2, .ref kv), (3, .int (nI (w * h))), (4, .int (nI (n4 + 1))), (5, .int (nI d)), (6, .int (nI (e + 1)))]) [3, 4, 5, 6, 1, 7, 0] rfl
              exact ih46 (la + 1 - (e + 1)) (by omega) (e + 1) (n4 + 1) (upd wf4 n4 (apS w h af nc fc d e)) ls H locs rfl (by omega) (by omega) (by omega) (by first | exact pl_skip (by omega) b71 hp4 | exact pl_add (by omega) b71 hp4) hl hP hD hS
        have hl := lv_sub hl (l' := [(0, .ref kx), (1, .int a), (2, .ref kv), (3, .int (nI (w * h))), (4, .int (nI n)), (5, .int (nI d)), (6, .int (nI (d + 1)))]) [1, 2, 3, 4, 5, 6, 0] rfl
        exact hL46 (la + 1 - (d + 1)) (d + 1) n wf3 ls H locs rfl (by omega) (by omega) (by omega) (by intro s; rw [hp s, Nat.sub_self]; exact (Bool.and_true _).symm) hl hP hD hS
    have hl := lv_sub hl (l' := [(0, .ref kx), (1, .int a), (2, .ref kv), (3, .int (nI (w * h))), (4, .int (nI 0)), (5, .int (nI 0))]) [4, 5, 3, 2, 1, 0] rfl
    have hP := hP.sub (ws' := [iA G ka 16 af, oC kb 0 [.int (nI w), .int (nI h), .int (nI la), .ref ka, .ref kc, .ref kl, .ref kn], oC kc 2 [.ref kcn, .int (nI 10), .int (nI nc)], iA G kcn (3 * 10) fc, iA G kg 160 sg2_10, iA G km 176 mk2_10, oC kv 4 [.ref km, .ref kg, .int (nI w), .int (nI h), .int (nI 0)], iA G kwa 45 wf, oC kx 5 [.ref kb, .ref kim, .ref kit, .ref kv, .ref kre, .int tf, .ref ksh, .int rf, .ref kwa, .ref kta]]) [3, 2, 4, 5, 8, 7, 6, 0, 1] rfl
    have hD := hD.sub (ws' := [iA G ka 16 af, oC kb 0 [.int (nI w), .int (nI h), .int (nI la), .ref ka, .ref kc, .ref kl, .ref kn], oC kc 2 [.ref kcn, .int (nI 10), .int (nI nc)], iA G kcn (3 * 10) fc, iA G kg 160 sg2_10, iA G km 176 mk2_10, oC kv 4 [.ref km, .ref kg, .int (nI w), .int (nI h), .int (nI 0)], iA G kwa 45 wf, oC kx 5 [.ref kb, .ref kim, .ref kit, .ref kv, .ref kre, .int tf, .ref ksh, .int rf, .ref kwa, .ref kta]]) [3, 2, 4, 5, 8, 7, 6, 0, 1] (by decide) rfl
    exact hL28 (la - 0) 0 0 wf ls H locs rfl (by omega) (by exact Nat.le_refl _) (by intro s; rfl) hl hP hD hS
  · skip
    refine lv_iconst (v := (-1)) hx hb dX5_places_7 (by decide) ?_
    have hP := hP.sub (ws' := [oC kx 5 [.ref kb, .ref kim, .ref kit, .ref kv, .ref kre, .int tf, .ref ksh, .int rf, .ref kwa, .ref kta], oC kb 0 [.int (nI w), .int (nI h), .int (nI la), .ref ka, .ref kc, .ref kl, .ref kn], iA G ka 16 af, oC kc 2 [.ref kcn, .int (nI 10), .int (nI nc)], iA G kcn (3 * 10) fc, oC kv 4 [.ref km, .ref kg, .int (nI vw), .int (nI vh), .int sl], iA G km 176 mk, iA G kg 160 sg, iA G kwa 45 wf]) [0, 1, 2, 3, 4, 5, 6, 7, 8] rfl
    have hD := hD.sub (ws' := [oC kx 5 [.ref kb, .ref kim, .ref kit, .ref kv, .ref kre, .int tf, .ref ksh, .int rf, .ref kwa, .ref kta], oC kb 0 [.int (nI w), .int (nI h), .int (nI la), .ref ka, .ref kc, .ref kl, .ref kn], iA G ka 16 af, oC kc 2 [.ref kcn, .int (nI 10), .int (nI nc)], iA G kcn (3 * 10) fc, oC kv 4 [.ref km, .ref kg, .int (nI vw), .int (nI vh), .int sl], iA G km 176 mk, iA G kg 160 sg, iA G kwa 45 wf]) [0, 1, 2, 3, 4, 5, 6, 7, 8] (by decide) rfl
    refine W.iret (v := (-1)) hx hb hr (fun t ht hW => ⟨⟨(-1), (wf, mk, sg, vw, vh, sl), rfl, ?_, by rw [ht]; exact hP, hD⟩, hS.F ht⟩) hS.2.2 dX5_places_8
    try dsimp only
    first | exact ⟨(if_neg b4).symm, hvok⟩ | (have hls := lsS_congr (w * h) (P := fun s => allF (fun i => !decide (wf3 i &&& s = 0)) n) (P' := plS w h la af nc fc) (fun s => (hp s).trans (by rw [show d = la by omega]; rfl)); rw [if_pos b4, ← hls]; first | (rw [if_pos b115]; exact ⟨rfl, VOK_fr he10⟩) | (rw [if_neg b115]; exact ⟨rfl, VOK_fr he10⟩))

abbrev w_X5_guard (G : XG) (kx kim kit kre ksh kwa kta : Nat) (tf rf : Int32) (kb ka kc kcn kl kn : Nat) (w h la : Nat) (af : Nat → Int32) (nc : Nat) (fc : Nat → Int32) (kv km kg : Nat) (vw vh : Nat) (sl : Int32) (mk sg : Nat → Int32) (wf : Nat → Int32) : va_W := [oC kx 5 [.ref kb, .ref kim, .ref kit, .ref kv, .ref kre, .int tf, .ref ksh, .int rf, .ref kwa, .ref kta], oC kb 0 [.int (nI w), .int (nI h), .int (nI la), .ref ka, .ref kc, .ref kl, .ref kn], iA G ka 16 af, oC kc 2 [.ref kcn, .int (nI 10), .int (nI nc)], iA G kcn (3 * 10) fc, oC kv 4 [.ref km, .ref kg, .int (nI vw), .int (nI vh), .int sl], iA G km 176 mk, iA G kg 160 sg, iA G kwa 45 wf]
abbrev Q_X5_guard (G : XG) (sz : Nat) (kx kim kit kre ksh kwa kta : Nat) (tf rf : Int32) (kb ka kc kcn kl kn : Nat) (w h la : Nat) (af : Nat → Int32) (nc : Nat) (fc : Nat → Int32) (kv km kg : Nat) (vw vh : Nat) (sl : Int32) (mk sg : Nat → Int32) (wf : Nat → Int32) (d a : Int32) : Array Value → State → Outcome → State → Prop := (va_Qi (fun (r : Int32) (u : (Nat → Int32) × (Nat → Int32) × (Nat → Int32) × Nat × Nat × Int32) => r = (if inR d (la + 1) ∧ inR a 2 then (if a = 0 then bcI (lsS (fun s => allF (fun c => !decide (waS w h af nc fc (tn d) c &&& s = 0)) (w * h)) (w * h)) else lsS (fun s => allF (fun c => !decide (waS w h af nc fc (tn d) c &&& s = 0)) (w * h)) (w * h)) else (-1)) ∧ VOK w h la af nc fc u.2.1 u.2.2.1 u.2.2.2.1 u.2.2.2.2.1 u.2.2.2.2.2) (xWb G sz (w_X5_guard G kx kim kit kre ksh kwa kta tf rf kb ka kc kcn kl kn w h la af nc fc kv km kg vw vh sl mk sg wf) (fun u : (Nat → Int32) × (Nat → Int32) × (Nat → Int32) × Nat × Nat × Int32 => [oC kx 5 [.ref kb, .ref kim, .ref kit, .ref kv, .ref kre, .int tf, .ref ksh, .int rf, .ref kwa, .ref kta], oC kb 0 [.int (nI w), .int (nI h), .int (nI la), .ref ka, .ref kc, .ref kl, .ref kn], iA G ka 16 af, oC kc 2 [.ref kcn, .int (nI 10), .int (nI nc)], iA G kcn (3 * 10) fc, oC kv 4 [.ref km, .ref kg, .int (nI u.2.2.2.1), .int (nI u.2.2.2.2.1), .int u.2.2.2.2.2], iA G km 176 u.2.1, iA G kg 160 u.2.2.1, iA G kwa 45 u.1])) (va_A (w_X5_guard G kx kim kit kre ksh kwa kta tf rf kb ka kc kcn kl kn w h la af nc fc kv km kg vw vh sl mk sg wf) sz))
set_option maxHeartbeats 4000000 in
set_option maxRecDepth 100000 in
theorem c_X5_guard (l : Launch) (G : XG) (sz : Nat) (kx kim kit kre ksh kwa kta : Nat) (tf rf : Int32) (kb ka kc kcn kl kn : Nat) (w h la : Nat) (af : Nat → Int32) (nc : Nat) (fc : Nat → Int32) (kv km kg : Nat) (vw vh : Nat) (sl : Int32) (mk sg : Nat → Int32) (wf : Nat → Int32) (d a : Int32) (hw : 1 ≤ w) (hwb : w ≤ 16) (hhb : h ≤ 16) (hwh : w * h ≤ 16) (hla : la ≤ 9) (hnc : nc ≤ 10) (hcell : ∀ i, i < nc → inR (fc (3 * i + 1)) 16) (hvok : VOK w h la af nc fc mk sg vw vh sl) : Met l yX5_guard wsX5_guard ({ frames := 4, cells := 0, slots := 0, locals := 96 } : Room) (va_Pc [.ref kx, .int d, .int a] (xWp G sz (w_X5_guard G kx kim kit kre ksh kwa kta tf rf kb ka kc kcn kl kn w h la af nc fc kv km kg vw vh sl mk sg wf))) (Q_X5_guard G sz kx kim kit kre ksh kwa kta tf rf kb ka kc kcn kl kn w h la af nc fc kv km kg vw vh sl mk sg wf d a) 0 0 (va_A (w_X5_guard G kx kim kit kre ksh kwa kta tf rf kb ka kc kcn kl kn w h la af nc fc kv km kg vw vh sl mk sg wf) sz) := by
  refine Met.ofW (cc := cX5_guard) (maxL := 8) (ret := (some .int)) (by decide) rfl ?_
  intro pp ee ss mm aa below mt cd s₁ BB hml hv
  obtain ⟨rfl, hsz, hP, hK, hD0⟩ := hv
  have hx := BB.exec
  have hb := BB.bytes
  have hr := BB.returns
  have hts := atoms_spec (ws := wsX5_guard) BB.pre
  have hown : ss.vm.findClass RX5 = some mm.cls := findClass_of_methodNamed BB.named
  have hlocks := BB.notSynchronized
  subst hsz
  have hD := hD0.self (sz := ss.heap.size)
  have hA : ∀ q : Nat, ss.heap.size ≤ q → va_A (w_X5_guard G kx kim kit kre ksh kwa kta tf rf kb ka kc kcn kl kn w h la af nc fc kv km kg vw vh sl mk sg wf) ss.heap.size q := fun q h => Or.inr h
  have hS : va_S (va_A (w_X5_guard G kx kim kit kre ksh kwa kta tf rf kb ka kc kcn kl kn w h la af nc fc kv km kg vw vh sl mk sg wf) ss.heap.size) ss.heap ss.heap [] := va_S.rf
  replace hD : va_D (va_A (w_X5_guard G kx kim kit kre ksh kwa kta tf rf kb ka kc kcn kl kn w h la af nc fc kv km kg vw vh sl mk sg wf) ss.heap.size) [oC kx 5 [.ref kb, .ref kim, .ref kit, .ref kv, .ref kre, .int tf, .ref ksh, .int rf, .ref kwa, .ref kta], oC kb 0 [.int (nI w), .int (nI h), .int (nI la), .ref ka, .ref kc, .ref kl, .ref kn], iA G ka 16 af, oC kc 2 [.ref kcn, .int (nI 10), .int (nI nc)], iA G kcn (3 * 10) fc, oC kv 4 [.ref km, .ref kg, .int (nI vw), .int (nI vh), .int sl], iA G km 176 mk, iA G kg 160 sg, iA G kwa 45 wf] := hD
  replace hP : xP G [oC kx 5 [.ref kb, .ref kim, .ref kit, .ref kv, .ref kre, .int tf, .ref ksh, .int rf, .ref kwa, .ref kta], oC kb 0 [.int (nI w), .int (nI h), .int (nI la), .ref ka, .ref kc, .ref kl, .ref kn], iA G ka 16 af, oC kc 2 [.ref kcn, .int (nI 10), .int (nI nc)], iA G kcn (3 * 10) fc, oC kv 4 [.ref km, .ref kg, .int (nI vw), .int (nI vh), .int sl], iA G km 176 mk, iA G kg 160 sg, iA G kwa 45 wf] ss.heap := hP
  have hin0 : ∀ w ∈ u_ws RX0 TX0 7, w ∈ wsX5_guard := fun w h => List.mem_cons_of_mem _ (List.mem_append_left _ (List.mem_append_left _ (List.mem_append_right _ h)))
  have hin2 : ∀ w ∈ u_ws RX2 TX2 3, w ∈ wsX5_guard := fun w h => List.mem_cons_of_mem _ (List.mem_append_right _ h)
  have hin4 : ∀ w ∈ u_ws RX4 TX4 5, w ∈ wsX5_guard := fun w h => List.mem_cons_of_mem _ (List.mem_append_left _ (List.mem_append_right _ h))
  have hin5 : ∀ w ∈ u_ws RX5 TX5 10, w ∈ wsX5_guard := fun w h => List.mem_cons_of_mem _ (List.mem_append_left _ (List.mem_append_left _ (List.mem_append_left _ (List.mem_append_right _ h))))
  have hl := lv_entry ([.ref kx, .int d, .int a]) (n := 8) (Nat.le_of_ble_eq_true rfl)
  rw [lg_entry_eq]
  generalize (lg_sl ([.ref kx, .int d, .int a]) ++ List.replicate (8 - (lg_sl ([.ref kx, .int d, .int a])).length) Slot.unset).toArray = ls at hl ⊢
  replace hl : lv_has ls 8 [(0, .ref kx), (1, .int d), (2, .int a)] := hl
  refine lv_aload_n hx hb dX5_guard_0 rfl (lv_at hl 0 rfl) ?_
  refine va_get (D := G.1) (ci := 5) (v := .ref kb) (C := RX5) (T := TX5) (N := 10) hx hb hts hin5 hown hK.1 hP 0 rfl rfl 0 (by decide) (hts (.fieldLink RX5 10 "BackLenses" "book" "LBackLenses$Book;") (List.mem_of_getElem? (i := 1) rfl)) (fun _ h9 => h9) rfl dX5_guard_1 ?_
  refine lv_iload_n hx hb dX5_guard_4 rfl (lv_at hl 1 rfl) ?_
  refine xr_i (As := [.int d]) (rest := []) ⟨hx, hb, hml, hown, hts⟩ (c_X0_hasDay l G kb ka kc kl kn w h la d (by first | assumption | omega)) (cwV 1 hts gX5_guard_X0_hasDay rfl rfl rfl (by decide +kernel) ⟨Nat.le_of_ble_eq_true rfl, Nat.le_of_ble_eq_true rfl⟩) hK hP hS [1] rfl rfl rfl rfl hl.1 rfl (Nat.le_of_ble_eq_true rfl) dX5_guard_5 ⟨Nat.zero_le _, Nat.zero_le _⟩ (fun r5 H locs hp5 hP hS => ?_)
  rw [show r5 = _ from hp5]
  refine xb_if_eq (tgt := 18) hx hb dX5_guard_8 rfl (fun b8 => ?_) (fun b8 => ?_)
  · skip
    refine lv_iconst (v := (-1)) hx hb dX5_guard_18 (by decide) ?_
    have hP := hP.sub (ws' := [oC kx 5 [.ref kb, .ref kim, .ref kit, .ref kv, .ref kre, .int tf, .ref ksh, .int rf, .ref kwa, .ref kta], oC kb 0 [.int (nI w), .int (nI h), .int (nI la), .ref ka, .ref kc, .ref kl, .ref kn], iA G ka 16 af, oC kc 2 [.ref kcn, .int (nI 10), .int (nI nc)], iA G kcn (3 * 10) fc, oC kv 4 [.ref km, .ref kg, .int (nI vw), .int (nI vh), .int sl], iA G km 176 mk, iA G kg 160 sg, iA G kwa 45 wf]) [0, 1, 2, 3, 4, 5, 6, 7, 8] rfl
    have hD := hD.sub (ws' := [oC kx 5 [.ref kb, .ref kim, .ref kit, .ref kv, .ref kre, .int tf, .ref ksh, .int rf, .ref kwa, .ref kta], oC kb 0 [.int (nI w), .int (nI h), .int (nI la), .ref ka, .ref kc, .ref kl, .ref kn], iA G ka 16 af, oC kc 2 [.ref kcn, .int (nI 10), .int (nI nc)], iA G kcn (3 * 10) fc, oC kv 4 [.ref km, .ref kg, .int (nI vw), .int (nI vh), .int sl], iA G km 176 mk, iA G kg 160 sg, iA G kwa 45 wf]) [0, 1, 2, 3, 4, 5, 6, 7, 8] (by decide) rfl
    refine W.iret (v := (-1)) hx hb hr (fun t ht hW => ⟨⟨(-1), (wf, mk, sg, vw, vh, sl), rfl, ?_, by rw [ht]; exact hP, hD⟩, hS.F ht⟩) hS.2.2 dX5_guard_19
    try dsimp only
    first | exact ⟨(if_neg (fun q => b8 q.1)).symm, hvok⟩ | exact ⟨(if_neg (fun q => b15 q.2)).symm, hvok⟩ | (have hls := lsS_congr (w * h) (P := fun s => allF (fun i => !decide (wf3 i &&& s = 0)) (w * h)) (P' := fun s => allF (fun c => !decide (waS w h af nc fc d0 c &&& s = 0)) (w * h)) (fun s => allF_congr _ (fun i hi => by rw [hwf i (by omega)])); rw [if_pos ⟨inR_nI hd0 (by omega), b15⟩, tn_nI (by omega), ← hls]; first | (rw [if_pos b109]; exact ⟨rfl, VOK_fr he21⟩) | (rw [if_neg b109]; exact ⟨rfl, VOK_fr he21⟩))
  · skip
    refine lv_iload_n hx hb dX5_guard_11 rfl (lv_at hl 2 rfl) ?_
    refine xs_i (As := [.int a]) (rest := []) ⟨hx, hb, hml, hown, hts⟩ (c_X5_isChoice l G a ) (va_cwS 1 hts gX5_guard_X5_isChoice rfl rfl rfl (by decide +kernel) ⟨Nat.le_of_ble_eq_true rfl, Nat.le_of_ble_eq_true rfl⟩) hP hS rfl hl.1 rfl (Nat.le_of_ble_eq_true rfl) dX5_guard_12 ⟨Nat.zero_le _, Nat.zero_le _⟩ (fun r12 H locs hp12 hP hS => ?_)
    rw [show r12 = _ from hp12]
    refine xb_if_ne (tgt := 20) hx hb dX5_guard_15 rfl (fun b15 => ?_) (fun b15 => ?_)
    · skip
      obtain ⟨d0, hd0, rfl⟩ := inR_nat b8
      refine lv_aload_n hx hb dX5_guard_20 rfl (lv_at hl 0 rfl) ?_
      refine xw_r (As := []) (rest := []) (wr := [iA G kwa 45 wf]) ⟨hx, hb, hml, hown, hts⟩ (c_X5_freshViews l G H.size kx kim kit kre ksh kwa kta tf rf kb ka kc kcn kl kn w h la af nc fc kv km kg vw vh sl mk sg (by first | assumption | omega) (by first | assumption | omega) (by first | assumption | omega) (by first | assumption | omega) (by first | assumption | omega) (by first | assumption | omega) (by first | assumption | omega) (by first | assumption | omega)) (cwV 0 hts gX5_guard_X5_freshViews rfl rfl rfl (by decide +kernel) ⟨Nat.le_of_ble_eq_true rfl, Nat.le_of_ble_eq_true rfl⟩) hK hP hD hS hA [0, 1, 2, 3, 4, 5, 6, 7] [8] rfl rfl (by decide) (by decide) (by decide) rfl rfl rfl hl.1 rfl (Nat.le_of_ble_eq_true rfl) dX5_guard_21 ⟨Nat.le_of_ble_eq_true rfl, Nat.le_of_ble_eq_true rfl⟩ (fun u H locs hp21 hP hD hS => ?_)
      obtain ⟨mk2_21, sg2_21⟩ := u
      try dsimp only at hp21 hP hD
      have he21 := hp21
      replace hP : xP G [iA G kwa 45 wf, oC kx 5 [.ref kb, .ref kim, .ref kit, .ref kv, .ref kre, .int tf, .ref ksh, .int rf, .ref kwa, .ref kta], oC kb 0 [.int (nI w), .int (nI h), .int (nI la), .ref ka, .ref kc, .ref kl, .ref kn], iA G ka 16 af, oC kc 2 [.ref kcn, .int (nI 10), .int (nI nc)], iA G kcn (3 * 10) fc, oC kv 4 [.ref km, .ref kg, .int (nI w), .int (nI h), .int (nI 0)], iA G km 176 mk2_21, iA G kg 160 sg2_21] H := hP
      replace hD : va_D (va_A (w_X5_guard G kx kim kit kre ksh kwa kta tf rf kb ka kc kcn kl kn w h la af nc fc kv km kg vw vh sl mk sg wf) ss.heap.size) [iA G kwa 45 wf, oC kx 5 [.ref kb, .ref kim, .ref kit, .ref kv, .ref kre, .int tf, .ref ksh, .int rf, .ref kwa, .ref kta], oC kb 0 [.int (nI w), .int (nI h), .int (nI la), .ref ka, .ref kc, .ref kl, .ref kn], iA G ka 16 af, oC kc 2 [.ref kcn, .int (nI 10), .int (nI nc)], iA G kcn (3 * 10) fc, oC kv 4 [.ref km, .ref kg, .int (nI w), .int (nI h), .int (nI 0)], iA G km 176 mk2_21, iA G kg 160 sg2_21] := hD
      refine lv_astore_n (lv' := [(3, .ref kv), (0, .ref kx), (1, .int (nI d0)), (2, .int a)]) hx hb dX5_guard_24 rfl hl (by decide) rfl (fun ls hl => ?_)
      refine lv_aload_n hx hb dX5_guard_25 rfl (lv_at hl 1 rfl) ?_
      refine va_get (D := G.1) (ci := 5) (v := .ref kb) (C := RX5) (T := TX5) (N := 10) hx hb hts hin5 hown hK.1 hP 1 rfl rfl 0 (by decide) (hts (.fieldLink RX5 10 "BackLenses" "book" "LBackLenses$Book;") (List.mem_of_getElem? (i := 1) rfl)) (fun _ h9 => h9) rfl dX5_guard_26 ?_
      refine xr_i (As := []) (rest := []) ⟨hx, hb, hml, hown, hts⟩ (c_X0_cells l G kb ka kc kl kn w h la ) (cwV 0 hts gX5_guard_X0_cells rfl rfl rfl (by decide +kernel) ⟨Nat.le_of_ble_eq_true rfl, Nat.le_of_ble_eq_true rfl⟩) hK hP hS [2] rfl rfl rfl rfl hl.1 rfl (Nat.le_of_ble_eq_true rfl) dX5_guard_29 ⟨Nat.zero_le _, Nat.zero_le _⟩ (fun r29 H locs hp29 hP hS => ?_)
      rw [show r29 = _ from hp29]
      refine lv_istore (lv' := [(4, .int (nI (w * h))), (3, .ref kv), (0, .ref kx), (1, .int (nI d0)), (2, .int a)]) hx hb dX5_guard_32 hl (by decide) rfl (fun ls hl => ?_)
      refine lv_iconst (v := nI 0) hx hb dX5_guard_34 (by decide) ?_
      refine lv_istore (lv' := [(5, .int (nI 0)), (4, .int (nI (w * h))), (3, .ref kv), (0, .ref kx), (1, .int (nI d0)), (2, .int a)]) hx hb dX5_guard_35 hl (by decide) rfl (fun ls hl => ?_)
      have hL37 : ∀ k : Nat, ∀ (c : Nat) (wf3 : Nat → Int32) (ls : Array Slot) (H : Heap) (locs : List Loc), w * h - c = k → (c ≤ w * h) → (∀ i, i < c → wf3 i = waS w h af nc fc d0 i) → lv_has ls 8 [(0, .ref kx), (1, .int (nI d0)), (2, .int a), (3, .ref kv), (4, .int (nI (w * h))), (5, .int (nI c))] → xP G [iA G ka 16 af, oC kb 0 [.int (nI w), .int (nI h), .int (nI la), .ref ka, .ref kc, .ref kl, .ref kn], oC kc 2 [.ref kcn, .int (nI 10), .int (nI nc)], iA G kcn (3 * 10) fc, iA G kg 160 sg2_21, iA G km 176 mk2_21, oC kv 4 [.ref km, .ref kg, .int (nI w), .int (nI h), .int (nI 0)], iA G kwa 45 wf3, oC kx 5 [.ref kb, .ref kim, .ref kit, .ref kv, .ref kre, .int tf, .ref ksh, .int rf, .ref kwa, .ref kta]] H → va_D (va_A (w_X5_guard G kx kim kit kre ksh kwa kta tf rf kb ka kc kcn kl kn w h la af nc fc kv km kg vw vh sl mk sg wf) ss.heap.size) [iA G ka 16 af, oC kb 0 [.int (nI w), .int (nI h), .int (nI la), .ref ka, .ref kc, .ref kl, .ref kn], oC kc 2 [.ref kcn, .int (nI 10), .int (nI nc)], iA G kcn (3 * 10) fc, iA G kg 160 sg2_21, iA G km 176 mk2_21, oC kv 4 [.ref km, .ref kg, .int (nI w), .int (nI h), .int (nI 0)], iA G kwa 45 wf3, oC kx 5 [.ref kb, .ref kim, .ref kit, .ref kv, .ref kre, .int tf, .ref ksh, .int rf, .ref kwa, .ref kta]] → va_S (va_A (w_X5_guard G kx kim kit kre ksh kwa kta tf rf kb ka kc kcn kl kn w h la af nc fc kv km kg vw vh sl mk sg wf) ss.heap.size) ss.heap H locs → W pp l ee ({ frames := 4, cells := 0, slots := 0, locals := 96 } : Room) ss mm ([.ref kx, .int (nI d0), .int a] : List Value).toArray below mt cd H locs 0 0 (MQ below (Q_X5_guard G ss.heap.size kx kim kit kre ksh kwa kta tf rf kb ka kc kcn kl kn w h la af nc fc kv km kg vw vh sl mk sg wf (nI d0) a) ([.ref kx, .int (nI d0), .int a] : List Value).toArray ss 0 0 (va_A (w_X5_guard G kx kim kit kre ksh kwa kta tf rf kb ka kc kcn kl kn w h la af nc fc kv km kg vw vh sl mk sg wf) ss.heap.size)) (F0 mm 37 ls []) := by
        intro k
        induction k using Nat.strongRecOn with
        | _ k ih37 =>
        intro c wf3 ls H locs hm37 hci hwf hl hP hD hS
        refine lv_iload hx hb dX5_guard_37 (lv_at hl 5 rfl) ?_
        refine lv_iload hx hb dX5_guard_39 (lv_at hl 4 rfl) ?_
        refine xn_icmp_ge (tgt := 98) hx hb (by omega) (by omega) dX5_guard_41 rfl (fun b41 => ?_) (fun b41 => ?_)
        · skip
          refine lv_aload_n hx hb dX5_guard_98 rfl (lv_at hl 0 rfl) ?_
          refine lv_iload hx hb dX5_guard_99 (lv_at hl 4 rfl) ?_
          refine lv_iload hx hb dX5_guard_101 (lv_at hl 4 rfl) ?_
          refine xr_i (As := [.int (nI (w * h)), .int (nI (w * h))]) (rest := []) ⟨hx, hb, hml, hown, hts⟩ (c_X5_leastSet l G kx kb kim kit kv kre ksh kwa kta tf rf wf3 (w * h) (w * h) (by first | assumption | omega) (by first | assumption | omega)) (cwV 2 hts gX5_guard_X5_leastSet rfl rfl rfl (by decide +kernel) ⟨Nat.le_of_ble_eq_true rfl, Nat.le_of_ble_eq_true rfl⟩) hK hP hS [8, 7] rfl rfl rfl rfl hl.1 rfl (Nat.le_of_ble_eq_true rfl) dX5_guard_103 ⟨Nat.zero_le _, Nat.zero_le _⟩ (fun r103 H locs hp103 hP hS => ?_)
          rw [show r103 = _ from hp103]
          refine lv_istore (lv' := [(5, .int (lsS (fun s => allF (fun i => !decide (wf3 i &&& s = 0)) (w * h)) (w * h))), (0, .ref kx), (1, .int (nI d0)), (2, .int a), (3, .ref kv), (4, .int (nI (w * h)))]) hx hb dX5_guard_106 hl (by decide) rfl (fun ls hl => ?_)
          refine lv_iload_n hx hb dX5_guard_108 rfl (lv_at hl 3 rfl) ?_
          refine lv_if_ne (tgt := 120) hx hb dX5_guard_109 rfl (fun b109 => ?_) (fun b109 => ?_)
          · skip
            refine lv_iload hx hb dX5_guard_120 (lv_at hl 0 rfl) ?_
            have hP := hP.sub (ws' := [oC kx 5 [.ref kb, .ref kim, .ref kit, .ref kv, .ref kre, .int tf, .ref ksh, .int rf, .ref kwa, .ref kta], oC kb 0 [.int (nI w), .int (nI h), .int (nI la), .ref ka, .ref kc, .ref kl, .ref kn], iA G ka 16 af, oC kc 2 [.ref kcn, .int (nI 10), .int (nI nc)], iA G kcn (3 * 10) fc, oC kv 4 [.ref km, .ref kg, .int (nI w), .int (nI h), .int (nI 0)], iA G km 176 mk2_21, iA G kg 160 sg2_21, iA G kwa 45 wf3]) [8, 1, 0, 2, 3, 6, 5, 4, 7] rfl
            have hD := hD.sub (ws' := [oC kx 5 [.ref kb, .ref kim, .ref kit, .ref kv, .ref kre, .int tf, .ref ksh, .int rf, .ref kwa, .ref kta], oC kb 0 [.int (nI w), .int (nI h), .int (nI la), .ref ka, .ref kc, .ref kl, .ref kn], iA G ka 16 af, oC kc 2 [.ref kcn, .int (nI 10), .int (nI nc)], iA G kcn (3 * 10) fc, oC kv 4 [.ref km, .ref kg, .int (nI w), .int (nI h), .int (nI 0)], iA G km 176 mk2_21, iA G kg 160 sg2_21, iA G kwa 45 wf3]) [8, 1, 0, 2, 3, 6, 5, 4, 7] (by decide) rfl
            refine W.iret (v := lsS (fun s => allF (fun i => !decide (wf3 i &&& s = 0)) (w * h)) (w * h)) hx hb hr (fun t ht hW => ⟨⟨lsS (fun s => allF (fun i => !decide (wf3 i &&& s = 0)) (w * h)) (w * h), (wf3, mk2_21, sg2_21, w, h, nI 0), rfl, ?_, by rw [ht]; exact hP, hD⟩, hS.F ht⟩) hS.2.2 dX5_guard_122
            try dsimp only
            first | exact ⟨(if_neg (fun q => b8 q.1)).symm, hvok⟩ | exact ⟨(if_neg (fun q => b15 q.2)).symm, hvok⟩ | (have hls := lsS_congr (w * h) (P := fun s => allF (fun i => !decide (wf3 i &&& s = 0)) (w * h)) (P' := fun s => allF (fun c => !decide (waS w h af nc fc d0 c &&& s = 0)) (w * h)) (fun s => allF_congr _ (fun i hi => by rw [hwf i (by omega)])); rw [if_pos ⟨inR_nI hd0 (by omega), b15⟩, tn_nI (by omega), ← hls]; first | (rw [if_pos b109]; exact ⟨rfl, VOK_fr he21⟩) | (rw [if_neg b109]; exact ⟨rfl, VOK_fr he21⟩))
          · skip
            refine lv_iload hx hb dX5_guard_112 (lv_at hl 0 rfl) ?_
            refine xs_i (As := [.int (lsS (fun s => allF (fun i => !decide (wf3 i &&& s = 0)) (w * h)) (w * h))]) (rest := []) ⟨hx, hb, hml, hown, hts⟩ (c_J6_bitCount_0f7a4 l G (lsS (fun s => allF (fun i => !decide (wf3 i &&& s = 0)) (w * h)) (w * h)) ) (va_cwS 1 hts gX5_guard_J6_bitCount_0f7a4 rfl rfl rfl (by decide +kernel) ⟨Nat.le_of_ble_eq_true rfl, Nat.le_of_ble_eq_true rfl⟩) hP hS rfl hl.1 rfl (Nat.le_of_ble_eq_true rfl) dX5_guard_114 ⟨Nat.zero_le _, Nat.zero_le _⟩ (fun r114 H locs hp114 hP hS => ?_)
            rw [show r114 = _ from hp114]
            refine lv_goto (tgt := 122) hx hb dX5_guard_117 rfl ?_
            have hP := hP.sub (ws' := [oC kx 5 [.ref kb, .ref kim, .ref kit, .ref kv, .ref kre, .int tf, .ref ksh, .int rf, .ref kwa, .ref kta], oC kb 0 [.int (nI w), .int (nI h), .int (nI la), .ref ka, .ref kc, .ref kl, .ref kn], iA G ka 16 af, oC kc 2 [.ref kcn, .int (nI 10), .int (nI nc)], iA G kcn (3 * 10) fc, oC kv 4 [.ref km, .ref kg, .int (nI w), .int (nI h), .int (nI 0)], iA G km 176 mk2_21, iA G kg 160 sg2_21, iA G kwa 45 wf3]) [8, 1, 0, 2, 3, 6, 5, 4, 7] rfl
            have hD := hD.sub (ws' := [oC kx 5 [.ref kb, .ref kim, .ref kit, .ref kv, .ref kre, .int tf, .ref ksh, .int rf, .ref kwa, .ref kta], oC kb 0 [.int (nI w), .int (nI h), .int (nI la), .ref ka, .ref kc, .ref kl, .ref kn], iA G ka 16 af, oC kc 2 [.ref kcn, .int (nI 10), .int (nI nc)], iA G kcn (3 * 10) fc, oC kv 4 [.ref km, .ref kg, .int (nI w), .int (nI h), .int (nI 0)], iA G km 176 mk2_21, iA G kg 160 sg2_21, iA G kwa 45 wf3]) [8, 1, 0, 2, 3, 6, 5, 4, 7] (by decide) rfl
            refine W.iret (v := bcI (lsS (fun s => allF (fun i => !decide (wf3 i &&& s = 0)) (w * h)) (w * h))) hx hb hr (fun t ht hW => ⟨⟨bcI (lsS (fun s => allF (fun i => !decide (wf3 i &&& s = 0)) (w * h)) (w * h)), (wf3, mk2_21, sg2_21, w, h, nI 0), rfl, ?_, by rw [ht]; exact hP, hD⟩, hS.F ht⟩) hS.2.2 dX5_guard_122
            try dsimp only
            first | exact ⟨(if_neg (fun q => b8 q.1)).symm, hvok⟩ | exact ⟨(if_neg (fun q => b15 q.2)).symm, hvok⟩ | (have hls := lsS_congr (w * h) (P := fun s => allF (fun i => !decide (wf3 i &&& s = 0)) (w * h)) (P' := fun s => allF (fun c => !decide (waS w h af nc fc d0 c &&& s = 0)) (w * h)) (fun s => allF_congr _ (fun i hi => by rw [hwf i (by omega)])); rw [if_pos ⟨inR_nI hd0 (by omega), b15⟩, tn_nI (by omega), ← hls]; first | (rw [if_pos b109]; exact ⟨rfl, VOK_fr he21⟩) | (rw [if_neg b109]; exact ⟨rfl, VOK_fr he21⟩))
        · skip
          refine lv_iconst (v := nI 0) hx hb dX5_guard_44 (by decide) ?_
          refine lv_istore (lv' := [(6, .int (nI 0)), (0, .ref kx), (1, .int (nI d0)), (2, .int a), (3, .ref kv), (4, .int (nI (w * h))), (5, .int (nI c))]) hx hb dX5_guard_45 hl (by decide) rfl (fun ls hl => ?_)
          refine lv_iconst (v := nI 0) hx hb dX5_guard_47 (by decide) ?_
          refine lv_istore (lv' := [(7, .int (nI 0)), (6, .int (nI 0)), (0, .ref kx), (1, .int (nI d0)), (2, .int a), (3, .ref kv), (4, .int (nI (w * h))), (5, .int (nI c))]) hx hb dX5_guard_48 hl (by decide) rfl (fun ls hl => ?_)
          have hL50 : ∀ k : Nat, ∀ (x : Nat) (wt : Int32) (ls : Array Slot) (H : Heap) (locs : List Loc), w * h - x = k → (x ≤ w * h) → (wt = orF (fun x => ((sgS w h af nc fc x d0 >>> (nI c &&& 31)) &&& nI 1) <<< (nI x &&& 31)) x) → lv_has ls 8 [(0, .ref kx), (1, .int (nI d0)), (2, .int a), (3, .ref kv), (4, .int (nI (w * h))), (5, .int (nI c)), (6, .int wt), (7, .int (nI x))] → xP G [iA G ka 16 af, oC kb 0 [.int (nI w), .int (nI h), .int (nI la), .ref ka, .ref kc, .ref kl, .ref kn], oC kc 2 [.ref kcn, .int (nI 10), .int (nI nc)], iA G kcn (3 * 10) fc, iA G kg 160 sg2_21, iA G km 176 mk2_21, oC kv 4 [.ref km, .ref kg, .int (nI w), .int (nI h), .int (nI 0)], iA G kwa 45 wf3, oC kx 5 [.ref kb, .ref kim, .ref kit, .ref kv, .ref kre, .int tf, .ref ksh, .int rf, .ref kwa, .ref kta]] H → va_D (va_A (w_X5_guard G kx kim kit kre ksh kwa kta tf rf kb ka kc kcn kl kn w h la af nc fc kv km kg vw vh sl mk sg wf) ss.heap.size) [iA G ka 16 af, oC kb 0 [.int (nI w), .int (nI h), .int (nI la), .ref ka, .ref kc, .ref kl, .ref kn], oC kc 2 [.ref kcn, .int (nI 10), .int (nI nc)], iA G kcn (3 * 10) fc, iA G kg 160 sg2_21, iA G km 176 mk2_21, oC kv 4 [.ref km, .ref kg, .int (nI w), .int (nI h), .int (nI 0)], iA G kwa 45 wf3, oC kx 5 [.ref kb, .ref kim, .ref kit, .ref kv, .ref kre, .int tf, .ref ksh, .int rf, .ref kwa, .ref kta]] → va_S (va_A (w_X5_guard G kx kim kit kre ksh kwa kta tf rf kb ka kc kcn kl kn w h la af nc fc kv km kg vw vh sl mk sg wf) ss.heap.size) ss.heap H locs → W pp l ee ({ frames := 4, cells := 0, slots := 0, locals := 96 } : Room) ss mm ([.ref kx, .int (nI d0), .int a] : List Value).toArray below mt cd H locs 0 0 (MQ below (Q_X5_guard G ss.heap.size kx kim kit kre ksh kwa kta tf rf kb ka kc kcn kl kn w h la af nc fc kv km kg vw vh sl mk sg wf (nI d0) a) ([.ref kx, .int (nI d0), .int a] : List Value).toArray ss 0 0 (va_A (w_X5_guard G kx kim kit kre ksh kwa kta tf rf kb ka kc kcn kl kn w h la af nc fc kv km kg vw vh sl mk sg wf) ss.heap.size)) (F0 mm 50 ls []) := by
            intro k
            induction k using Nat.strongRecOn with
            | _ k ih50 =>
            intro x wt ls H locs hm50 hxi hwt hl hP hD hS
            refine lv_iload hx hb dX5_guard_50 (lv_at hl 7 rfl) ?_
            refine lv_iload hx hb dX5_guard_52 (lv_at hl 4 rfl) ?_
            refine xn_icmp_ge (tgt := 83) hx hb (by omega) (by omega) dX5_guard_54 rfl (fun b54 => ?_) (fun b54 => ?_)
            · skip
              refine lv_aload_n hx hb dX5_guard_83 rfl (lv_at hl 0 rfl) ?_
              refine va_get (D := G.1) (ci := 5) (v := .ref kwa) (C := RX5) (T := TX5) (N := 10) hx hb hts hin5 hown hK.1 hP 8 rfl rfl 8 (by decide) (hts (.fieldLink RX5 45 "BackLenses" "wants" "[I") (List.mem_of_getElem? (i := 2) rfl)) (fun _ h9 => h9) rfl dX5_guard_84 ?_
              refine lv_iload hx hb dX5_guard_87 (lv_at hl 5 rfl) ?_
              refine lv_iload hx hb dX5_guard_89 (lv_at hl 6 rfl) ?_
              refine xn_iast hx hb hK hP hD hS 7 rfl (by omega) (by omega) dX5_guard_91 (fun H locs hP hD hS => ?_)
              replace hP : xP G [iA G ka 16 af, oC kb 0 [.int (nI w), .int (nI h), .int (nI la), .ref ka, .ref kc, .ref kl, .ref kn], oC kc 2 [.ref kcn, .int (nI 10), .int (nI nc)], iA G kcn (3 * 10) fc, iA G kg 160 sg2_21, iA G km 176 mk2_21, oC kv 4 [.ref km, .ref kg, .int (nI w), .int (nI h), .int (nI 0)], iA G kwa 45 (upd wf3 c wt), oC kx 5 [.ref kb, .ref kim, .ref kit, .ref kv, .ref kre, .int tf, .ref ksh, .int rf, .ref kwa, .ref kta]] H := hP
              replace hD : va_D (va_A (w_X5_guard G kx kim kit kre ksh kwa kta tf rf kb ka kc kcn kl kn w h la af nc fc kv km kg vw vh sl mk sg wf) ss.heap.size) [iA G ka 16 af, oC kb 0 [.int (nI w), .int (nI h), .int (nI la), .ref ka, .ref kc, .ref kl, .ref kn], oC kc 2 [.ref kcn, .int (nI 10), .int (nI nc)], iA G kcn (3 * 10) fc, iA G kg 160 sg2_21, iA G km 176 mk2_21, oC kv 4 [.ref km, .ref kg, .int (nI w), .int (nI h), .int (nI 0)], iA G kwa 45 (upd wf3 c wt), oC kx 5 [.ref kb, .ref kim, .ref kit, .ref kv, .ref kre, .int tf, .ref ksh, .int rf, .ref kwa, .ref kta]] := hD
              refine lv_iinc (k := 5) (v := nI (c + 1)) (lv' := [(5, .int (nI (c + 1))), (0, .ref kx), (1, .int (nI d0)), (2, .int a), (3, .ref kv), (4, .int (nI (w * h))), (6, .int wt), (7, .int (nI x))]) hx hb dX5_guard_92 hl rfl (xn_inc c 1) (by decide) rfl (fun ls hl => ?_)
              refine lv_goto (tgt := 37) hx hb dX5_guard_95 rfl ?_
              have hl := lv_sub hl (l' := [(0, .ref kx), (1, .int (nI d0)), (2, .int a), (3, .ref kv), (4, .int (nI (w * h))), (5, .int (nI (c + 1)))]) [1, 2, 3, 4, 5, 0] rfl
              exact ih37 (w * h - (c + 1)) (by omega) (c + 1) (upd wf3 c wt) ls H locs rfl (by omega) (by intro i hi; unfold upd; by_cases hq : i = c; (subst hq; rw [if_pos rfl, hwt, show x = w * h by omega]); (rw [if_neg hq]; exact hwf i (by omega))) hl hP hD hS
            · skip
              refine lv_iload hx hb dX5_guard_57 (lv_at hl 6 rfl) ?_
              refine lv_aload_n hx hb dX5_guard_59 rfl (lv_at hl 3 rfl) ?_
              refine lv_iload hx hb dX5_guard_60 (lv_at hl 7 rfl) ?_
              refine lv_iload_n hx hb dX5_guard_62 rfl (lv_at hl 1 rfl) ?_
              refine xr_i (As := [.int (nI x), .int (nI d0)]) (rest := [.int wt]) ⟨hx, hb, hml, hown, hts⟩ (c_X4_sightOf l G kv km kg w h (nI 0) sg2_21 x d0 (by first | assumption | omega)) (cwV 2 hts gX5_guard_X4_sightOf rfl rfl rfl (by decide +kernel) ⟨Nat.le_of_ble_eq_true rfl, Nat.le_of_ble_eq_true rfl⟩) hK hP hS [6, 4] rfl rfl rfl rfl hl.1 rfl (Nat.le_of_ble_eq_true rfl) dX5_guard_63 ⟨Nat.zero_le _, Nat.zero_le _⟩ (fun r63 H locs hp63 hP hS => ?_)
              rw [show r63 = _ from hp63]
              refine xn_top ((he21 d0 (by omega)).2 x (by omega)) ?_
              refine lv_iload hx hb dX5_guard_66 (lv_at hl 5 rfl) ?_
              refine lv_ishr hx hb dX5_guard_68 ?_
              refine lv_iconst (v := nI 1) hx hb dX5_guard_69 (by decide) ?_
              refine lv_iand hx hb dX5_guard_70 ?_
              refine lv_iload hx hb dX5_guard_71 (lv_at hl 7 rfl) ?_
              refine lv_ishl hx hb dX5_guard_73 ?_
              refine lv_ior hx hb dX5_guard_74 ?_
              refine lv_istore (lv' := [(6, .int (wt ||| ((((sgS w h af nc fc x d0) >>> ((nI c) &&& 31)) &&& (nI 1)) <<< ((nI x) &&& 31)))), (0, .ref kx), (1, .int (nI d0)), (2, .int a), (3, .ref kv), (4, .int (nI (w * h))), (5, .int (nI c)), (7, .int (nI x))]) hx hb dX5_guard_75 hl (by decide) rfl (fun ls hl => ?_)
              refine lv_iinc (k := 7) (v := nI (x + 1)) (lv' := [(7, .int (nI (x + 1))), (6, .int (wt ||| ((((sgS w h af nc fc x d0) >>> ((nI c) &&& 31)) &&& (nI 1)) <<< ((nI x) &&& 31)))), (0, .ref kx), (1, .int (nI d0)), (2, .int a), (3, .ref kv), (4, .int (nI (w * h))), (5, .int (nI c))]) hx hb dX5_guard_77 hl rfl (xn_inc x 1) (by decide) rfl (fun ls hl => ?_)
              refine lv_goto (tgt := 50) hx hb dX5_guard_80 rfl ?_
              have hl := lv_sub hl (l' := [(0, .ref kx), (1, .int (nI d0)), (2, .int a), (3, .ref kv), (4, .int (nI (w * h))), (5, .int (nI c)), (6, .int (wt ||| ((((sgS w h af nc fc x d0) >>> ((nI c) &&& 31)) &&& (nI 1)) <<< ((nI x) &&& 31)))), (7, .int (nI (x + 1)))]) [2, 3, 4, 5, 6, 7, 1, 0] rfl
              exact ih50 (w * h - (x + 1)) (by omega) (x + 1) (wt ||| ((((sgS w h af nc fc x d0) >>> ((nI c) &&& 31)) &&& (nI 1)) <<< ((nI x) &&& 31))) ls H locs rfl (by omega) (by rw [hwt]; rfl) hl hP hD hS
          have hl := lv_sub hl (l' := [(0, .ref kx), (1, .int (nI d0)), (2, .int a), (3, .ref kv), (4, .int (nI (w * h))), (5, .int (nI c)), (6, .int (nI 0)), (7, .int (nI 0))]) [2, 3, 4, 5, 6, 7, 1, 0] rfl
          exact hL50 (w * h - 0) 0 (nI 0) ls H locs rfl (by omega) (by rfl) hl hP hD hS
      have hl := lv_sub hl (l' := [(0, .ref kx), (1, .int (nI d0)), (2, .int a), (3, .ref kv), (4, .int (nI (w * h))), (5, .int (nI 0))]) [3, 4, 5, 2, 1, 0] rfl
      have hP := hP.sub (ws' := [iA G ka 16 af, oC kb 0 [.int (nI w), .int (nI h), .int (nI la), .ref ka, .ref kc, .ref kl, .ref kn], oC kc 2 [.ref kcn, .int (nI 10), .int (nI nc)], iA G kcn (3 * 10) fc, iA G kg 160 sg2_21, iA G km 176 mk2_21, oC kv 4 [.ref km, .ref kg, .int (nI w), .int (nI h), .int (nI 0)], iA G kwa 45 wf, oC kx 5 [.ref kb, .ref kim, .ref kit, .ref kv, .ref kre, .int tf, .ref ksh, .int rf, .ref kwa, .ref kta]]) [3, 2, 4, 5, 8, 7, 6, 0, 1] rfl
      have hD := hD.sub (ws' := [iA G ka 16 af, oC kb 0 [.int (nI w), .int (nI h), .int (nI la), .ref ka, .ref kc, .ref kl, .ref kn], oC kc 2 [.ref kcn, .int (nI 10), .int (nI nc)], iA G kcn (3 * 10) fc, iA G kg 160 sg2_21, iA G km 176 mk2_21, oC kv 4 [.ref km, .ref kg, .int (nI w), .int (nI h), .int (nI 0)], iA G kwa 45 wf, oC kx 5 [.ref kb, .ref kim, .ref kit, .ref kv, .ref kre, .int tf, .ref ksh, .int rf, .ref kwa, .ref kta]]) [3, 2, 4, 5, 8, 7, 6, 0, 1] (by decide) rfl
      exact hL37 (w * h - 0) 0 wf ls H locs rfl (by omega) (by intro i hi; omega) hl hP hD hS
    · skip
      refine lv_iconst (v := (-1)) hx hb dX5_guard_18 (by decide) ?_
      have hP := hP.sub (ws' := [oC kx 5 [.ref kb, .ref kim, .ref kit, .ref kv, .ref kre, .int tf, .ref ksh, .int rf, .ref kwa, .ref kta], oC kb 0 [.int (nI w), .int (nI h), .int (nI la), .ref ka, .ref kc, .ref kl, .ref kn], iA G ka 16 af, oC kc 2 [.ref kcn, .int (nI 10), .int (nI nc)], iA G kcn (3 * 10) fc, oC kv 4 [.ref km, .ref kg, .int (nI vw), .int (nI vh), .int sl], iA G km 176 mk, iA G kg 160 sg, iA G kwa 45 wf]) [0, 1, 2, 3, 4, 5, 6, 7, 8] rfl
      have hD := hD.sub (ws' := [oC kx 5 [.ref kb, .ref kim, .ref kit, .ref kv, .ref kre, .int tf, .ref ksh, .int rf, .ref kwa, .ref kta], oC kb 0 [.int (nI w), .int (nI h), .int (nI la), .ref ka, .ref kc, .ref kl, .ref kn], iA G ka 16 af, oC kc 2 [.ref kcn, .int (nI 10), .int (nI nc)], iA G kcn (3 * 10) fc, oC kv 4 [.ref km, .ref kg, .int (nI vw), .int (nI vh), .int sl], iA G km 176 mk, iA G kg 160 sg, iA G kwa 45 wf]) [0, 1, 2, 3, 4, 5, 6, 7, 8] (by decide) rfl
      refine W.iret (v := (-1)) hx hb hr (fun t ht hW => ⟨⟨(-1), (wf, mk, sg, vw, vh, sl), rfl, ?_, by rw [ht]; exact hP, hD⟩, hS.F ht⟩) hS.2.2 dX5_guard_19
      try dsimp only
      first | exact ⟨(if_neg (fun q => b8 q.1)).symm, hvok⟩ | exact ⟨(if_neg (fun q => b15 q.2)).symm, hvok⟩ | (have hls := lsS_congr (w * h) (P := fun s => allF (fun i => !decide (wf3 i &&& s = 0)) (w * h)) (P' := fun s => allF (fun c => !decide (waS w h af nc fc d0 c &&& s = 0)) (w * h)) (fun s => allF_congr _ (fun i hi => by rw [hwf i (by omega)])); rw [if_pos ⟨inR_nI hd0 (by omega), b15⟩, tn_nI (by omega), ← hls]; first | (rw [if_pos b109]; exact ⟨rfl, VOK_fr he21⟩) | (rw [if_neg b109]; exact ⟨rfl, VOK_fr he21⟩))

abbrev w_X5_best (G : XG) (kx kim kit kre ksh kwa kta : Nat) (tf rf : Int32) (kb ka kc kcn kl kn : Nat) (w h la : Nat) (af : Nat → Int32) (nc : Nat) (fc : Nat → Int32) (kv km kg : Nat) (vw vh : Nat) (sl : Int32) (mk sg : Nat → Int32) (kln : Nat) (nl : Nat) (fl : Nat → Int32) : va_W := [oC kx 5 [.ref kb, .ref kim, .ref kit, .ref kv, .ref kre, .int tf, .ref ksh, .int rf, .ref kwa, .ref kta], oC kb 0 [.int (nI w), .int (nI h), .int (nI la), .ref ka, .ref kc, .ref kl, .ref kn], iA G ka 16 af, oC kc 2 [.ref kcn, .int (nI 10), .int (nI nc)], iA G kcn (3 * 10) fc, oC kv 4 [.ref km, .ref kg, .int (nI vw), .int (nI vh), .int sl], iA G km 176 mk, iA G kg 160 sg, oC kl 2 [.ref kln, .int (nI 6), .int (nI nl)], iA G kln (3 * 6) fl]
abbrev Q_X5_best (G : XG) (sz : Nat) (kx kim kit kre ksh kwa kta : Nat) (tf rf : Int32) (kb ka kc kcn kl kn : Nat) (w h la : Nat) (af : Nat → Int32) (nc : Nat) (fc : Nat → Int32) (kv km kg : Nat) (vw vh : Nat) (sl : Int32) (mk sg : Nat → Int32) (kln : Nat) (nl : Nat) (fl : Nat → Int32) (a : Int32) : Array Value → State → Outcome → State → Prop := (va_Qi (fun (r : Int32) (u : (Nat → Int32) × (Nat → Int32) × Nat × Nat × Int32) => r = (if inR a 2 then (if nl = 0 then (-2) else if a = 0 then (bsF (fun x => orF (fun l => shS w h af nc fc fl l x) nl) (w * h)).2 else (bsF (fun x => orF (fun l => shS w h af nc fc fl l x) nl) (w * h)).1) else (-1)) ∧ VOK w h la af nc fc u.1 u.2.1 u.2.2.1 u.2.2.2.1 u.2.2.2.2) (xWb G sz (w_X5_best G kx kim kit kre ksh kwa kta tf rf kb ka kc kcn kl kn w h la af nc fc kv km kg vw vh sl mk sg kln nl fl) (fun u : (Nat → Int32) × (Nat → Int32) × Nat × Nat × Int32 => [oC kx 5 [.ref kb, .ref kim, .ref kit, .ref kv, .ref kre, .int tf, .ref ksh, .int rf, .ref kwa, .ref kta], oC kb 0 [.int (nI w), .int (nI h), .int (nI la), .ref ka, .ref kc, .ref kl, .ref kn], iA G ka 16 af, oC kc 2 [.ref kcn, .int (nI 10), .int (nI nc)], iA G kcn (3 * 10) fc, oC kv 4 [.ref km, .ref kg, .int (nI u.2.2.1), .int (nI u.2.2.2.1), .int u.2.2.2.2], iA G km 176 u.1, iA G kg 160 u.2.1, oC kl 2 [.ref kln, .int (nI 6), .int (nI nl)], iA G kln (3 * 6) fl])) (va_A (w_X5_best G kx kim kit kre ksh kwa kta tf rf kb ka kc kcn kl kn w h la af nc fc kv km kg vw vh sl mk sg kln nl fl) sz))
set_option maxHeartbeats 4000000 in
set_option maxRecDepth 100000 in
theorem c_X5_best (l : Launch) (G : XG) (sz : Nat) (kx kim kit kre ksh kwa kta : Nat) (tf rf : Int32) (kb ka kc kcn kl kn : Nat) (w h la : Nat) (af : Nat → Int32) (nc : Nat) (fc : Nat → Int32) (kv km kg : Nat) (vw vh : Nat) (sl : Int32) (mk sg : Nat → Int32) (kln : Nat) (nl : Nat) (fl : Nat → Int32) (a : Int32) (hw : 1 ≤ w) (hwb : w ≤ 16) (hhb : h ≤ 16) (hwh : w * h ≤ 16) (hla : la ≤ 9) (hnc : nc ≤ 10) (hcell : ∀ i, i < nc → inR (fc (3 * i + 1)) 16) (hvok : VOK w h la af nc fc mk sg vw vh sl) (hnl : nl ≤ 6) (hlens : ∀ i, i < nl → inR (fl (3 * i)) (la + 1)) : Met l yX5_best wsX5_best ({ frames := 5, cells := 0, slots := 0, locals := 118 } : Room) (va_Pc [.ref kx, .int a] (xWp G sz (w_X5_best G kx kim kit kre ksh kwa kta tf rf kb ka kc kcn kl kn w h la af nc fc kv km kg vw vh sl mk sg kln nl fl))) (Q_X5_best G sz kx kim kit kre ksh kwa kta tf rf kb ka kc kcn kl kn w h la af nc fc kv km kg vw vh sl mk sg kln nl fl a) 0 0 (va_A (w_X5_best G kx kim kit kre ksh kwa kta tf rf kb ka kc kcn kl kn w h la af nc fc kv km kg vw vh sl mk sg kln nl fl) sz) := by
  refine Met.ofW (cc := cX5_best) (maxL := 7) (ret := (some .int)) (by decide) rfl ?_
  intro pp ee ss mm aa below mt cd s₁ BB hml hv
  obtain ⟨rfl, hsz, hP, hK, hD0⟩ := hv
  have hx := BB.exec
  have hb := BB.bytes
  have hr := BB.returns
  have hts := atoms_spec (ws := wsX5_best) BB.pre
  have hown : ss.vm.findClass RX5 = some mm.cls := findClass_of_methodNamed BB.named
  have hlocks := BB.notSynchronized
  subst hsz
  have hD := hD0.self (sz := ss.heap.size)
  have hA : ∀ q : Nat, ss.heap.size ≤ q → va_A (w_X5_best G kx kim kit kre ksh kwa kta tf rf kb ka kc kcn kl kn w h la af nc fc kv km kg vw vh sl mk sg kln nl fl) ss.heap.size q := fun q h => Or.inr h
  have hS : va_S (va_A (w_X5_best G kx kim kit kre ksh kwa kta tf rf kb ka kc kcn kl kn w h la af nc fc kv km kg vw vh sl mk sg kln nl fl) ss.heap.size) ss.heap ss.heap [] := va_S.rf
  replace hD : va_D (va_A (w_X5_best G kx kim kit kre ksh kwa kta tf rf kb ka kc kcn kl kn w h la af nc fc kv km kg vw vh sl mk sg kln nl fl) ss.heap.size) [oC kx 5 [.ref kb, .ref kim, .ref kit, .ref kv, .ref kre, .int tf, .ref ksh, .int rf, .ref kwa, .ref kta], oC kb 0 [.int (nI w), .int (nI h), .int (nI la), .ref ka, .ref kc, .ref kl, .ref kn], iA G ka 16 af, oC kc 2 [.ref kcn, .int (nI 10), .int (nI nc)], iA G kcn (3 * 10) fc, oC kv 4 [.ref km, .ref kg, .int (nI vw), .int (nI vh), .int sl], iA G km 176 mk, iA G kg 160 sg, oC kl 2 [.ref kln, .int (nI 6), .int (nI nl)], iA G kln (3 * 6) fl] := hD
  replace hP : xP G [oC kx 5 [.ref kb, .ref kim, .ref kit, .ref kv, .ref kre, .int tf, .ref ksh, .int rf, .ref kwa, .ref kta], oC kb 0 [.int (nI w), .int (nI h), .int (nI la), .ref ka, .ref kc, .ref kl, .ref kn], iA G ka 16 af, oC kc 2 [.ref kcn, .int (nI 10), .int (nI nc)], iA G kcn (3 * 10) fc, oC kv 4 [.ref km, .ref kg, .int (nI vw), .int (nI vh), .int sl], iA G km 176 mk, iA G kg 160 sg, oC kl 2 [.ref kln, .int (nI 6), .int (nI nl)], iA G kln (3 * 6) fl] ss.heap := hP
  have hin0 : ∀ w ∈ u_ws RX0 TX0 7, w ∈ wsX5_best := fun w h => List.mem_cons_of_mem _ (List.mem_append_left _ (List.mem_append_left _ (List.mem_append_right _ h)))
  have hin2 : ∀ w ∈ u_ws RX2 TX2 3, w ∈ wsX5_best := fun w h => List.mem_cons_of_mem _ (List.mem_append_left _ (List.mem_append_right _ h))
  have hin4 : ∀ w ∈ u_ws RX4 TX4 5, w ∈ wsX5_best := fun w h => List.mem_cons_of_mem _ (List.mem_append_right _ h)
  have hin5 : ∀ w ∈ u_ws RX5 TX5 10, w ∈ wsX5_best := fun w h => List.mem_cons_of_mem _ (List.mem_append_left _ (List.mem_append_left _ (List.mem_append_left _ (List.mem_append_right _ h))))
  have hl := lv_entry ([.ref kx, .int a]) (n := 7) (Nat.le_of_ble_eq_true rfl)
  rw [lg_entry_eq]
  generalize (lg_sl ([.ref kx, .int a]) ++ List.replicate (7 - (lg_sl ([.ref kx, .int a])).length) Slot.unset).toArray = ls at hl ⊢
  replace hl : lv_has ls 7 [(0, .ref kx), (1, .int a)] := hl
  refine lv_iload_n hx hb dX5_best_0 rfl (lv_at hl 1 rfl) ?_
  refine xs_i (As := [.int a]) (rest := []) ⟨hx, hb, hml, hown, hts⟩ (c_X5_isChoice l G a ) (va_cwS 1 hts gX5_best_X5_isChoice rfl rfl rfl (by decide +kernel) ⟨Nat.le_of_ble_eq_true rfl, Nat.le_of_ble_eq_true rfl⟩) hP hS rfl hl.1 rfl (Nat.le_of_ble_eq_true rfl) dX5_best_1 ⟨Nat.zero_le _, Nat.zero_le _⟩ (fun r1 H locs hp1 hP hS => ?_)
  rw [show r1 = _ from hp1]
  refine xb_if_ne (tgt := 9) hx hb dX5_best_4 rfl (fun b4 => ?_) (fun b4 => ?_)
  · skip
    refine lv_aload_n hx hb dX5_best_9 rfl (lv_at hl 0 rfl) ?_
    refine va_get (D := G.1) (ci := 5) (v := .ref kb) (C := RX5) (T := TX5) (N := 10) hx hb hts hin5 hown hK.1 hP 0 rfl rfl 0 (by decide) (hts (.fieldLink RX5 10 "BackLenses" "book" "LBackLenses$Book;") (List.mem_of_getElem? (i := 1) rfl)) (fun _ h9 => h9) rfl dX5_best_10 ?_
    refine va_getN (D := G.1) (ci := 0) (v := .ref kl) (C := RX0) (T := TX0) (N := 7) hx hb hts hin0 hown hK.1 hP 1 rfl rfl 5 (by decide) (va_Nw.use rfl (hK.2 (Cond.fieldLinkNest "BackLenses" (102 : Nat) "BackLenses$Book" "lenses" "LBackLenses$Rows;" "BackLenses") (List.mem_of_getElem? (i := 20) rfl))) (fun _ h9 => h9) rfl dX5_best_13 ?_
    refine va_getN (D := G.1) (ci := 2) (v := .int (nI nl)) (C := RX2) (T := TX2) (N := 3) hx hb hts hin2 hown hK.1 hP 8 rfl rfl 2 (by decide) (va_Nw.use rfl (hK.2 (Cond.fieldLinkNest "BackLenses" (97 : Nat) "BackLenses$Rows" "size" "I" "BackLenses") (List.mem_of_getElem? (i := 3) rfl))) (fun _ h9 => h9) rfl dX5_best_16 ?_
    refine xn_if_ne (tgt := 25) hx hb (by omega) dX5_best_19 rfl (fun b19 => ?_) (fun b19 => ?_)
    · skip
      refine lv_iconst (v := (-1)) hx hb dX5_best_25 (by decide) ?_
      refine lv_istore_n (lv' := [(2, .int (-1)), (0, .ref kx), (1, .int a)]) hx hb dX5_best_26 rfl hl (by decide) rfl (fun ls hl => ?_)
      refine lv_iconst (v := nI 0) hx hb dX5_best_27 (by decide) ?_
      refine lv_istore_n (lv' := [(3, .int (nI 0)), (2, .int (-1)), (0, .ref kx), (1, .int a)]) hx hb dX5_best_28 rfl hl (by decide) rfl (fun ls hl => ?_)
      refine lv_iconst (v := nI 0) hx hb dX5_best_29 (by decide) ?_
      refine lv_istore (lv' := [(4, .int (nI 0)), (3, .int (nI 0)), (2, .int (-1)), (0, .ref kx), (1, .int a)]) hx hb dX5_best_30 hl (by decide) rfl (fun ls hl => ?_)
      have hL32 : ∀ k : Nat, ∀ (x : Nat) (mo : Int32) (wh : Int32) (mk3 : Nat → Int32) (sg3 : Nat → Int32) (vw3 : Nat) (vh3 : Nat) (sl3 : Int32) (ls : Array Slot) (H : Heap) (locs : List Loc), w * h - x = k → (x ≤ w * h) → ((mo, wh) = bsF (fun x => orF (fun l => shS w h af nc fc fl l x) nl) x) → (VOK w h la af nc fc mk3 sg3 vw3 vh3 sl3) → lv_has ls 7 [(0, .ref kx), (1, .int a), (2, .int mo), (3, .int wh), (4, .int (nI x))] → xP G [iA G ka 16 af, oC kb 0 [.int (nI w), .int (nI h), .int (nI la), .ref ka, .ref kc, .ref kl, .ref kn], oC kc 2 [.ref kcn, .int (nI 10), .int (nI nc)], iA G kcn (3 * 10) fc, iA G kg 160 sg3, oC kl 2 [.ref kln, .int (nI 6), .int (nI nl)], iA G kln (3 * 6) fl, iA G km 176 mk3, oC kv 4 [.ref km, .ref kg, .int (nI vw3), .int (nI vh3), .int sl3], oC kx 5 [.ref kb, .ref kim, .ref kit, .ref kv, .ref kre, .int tf, .ref ksh, .int rf, .ref kwa, .ref kta]] H → va_D (va_A (w_X5_best G kx kim kit kre ksh kwa kta tf rf kb ka kc kcn kl kn w h la af nc fc kv km kg vw vh sl mk sg kln nl fl) ss.heap.size) [iA G ka 16 af, oC kb 0 [.int (nI w), .int (nI h), .int (nI la), .ref ka, .ref kc, .ref kl, .ref kn], oC kc 2 [.ref kcn, .int (nI 10), .int (nI nc)], iA G kcn (3 * 10) fc, iA G kg 160 sg3, oC kl 2 [.ref kln, .int (nI 6), .int (nI nl)], iA G kln (3 * 6) fl, iA G km 176 mk3, oC kv 4 [.ref km, .ref kg, .int (nI vw3), .int (nI vh3), .int sl3], oC kx 5 [.ref kb, .ref kim, .ref kit, .ref kv, .ref kre, .int tf, .ref ksh, .int rf, .ref kwa, .ref kta]] → va_S (va_A (w_X5_best G kx kim kit kre ksh kwa kta tf rf kb ka kc kcn kl kn w h la af nc fc kv km kg vw vh sl mk sg kln nl fl) ss.heap.size) ss.heap H locs → W pp l ee ({ frames := 5, cells := 0, slots := 0, locals := 118 } : Room) ss mm ([.ref kx, .int a] : List Value).toArray below mt cd H locs 0 0 (MQ below (Q_X5_best G ss.heap.size kx kim kit kre ksh kwa kta tf rf kb ka kc kcn kl kn w h la af nc fc kv km kg vw vh sl mk sg kln nl fl a) ([.ref kx, .int a] : List Value).toArray ss 0 0 (va_A (w_X5_best G kx kim kit kre ksh kwa kta tf rf kb ka kc kcn kl kn w h la af nc fc kv km kg vw vh sl mk sg kln nl fl) ss.heap.size)) (F0 mm 32 ls []) := by
        intro k
        induction k using Nat.strongRecOn with
        | _ k ih32 =>
        intro x mo wh mk3 sg3 vw3 vh3 sl3 ls H locs hm32 hxi hbs hv3 hl hP hD hS
        refine lv_iload hx hb dX5_best_32 (lv_at hl 4 rfl) ?_
        refine lv_aload_n hx hb dX5_best_34 rfl (lv_at hl 0 rfl) ?_
        refine va_get (D := G.1) (ci := 5) (v := .ref kb) (C := RX5) (T := TX5) (N := 10) hx hb hts hin5 hown hK.1 hP 9 rfl rfl 0 (by decide) (hts (.fieldLink RX5 10 "BackLenses" "book" "LBackLenses$Book;") (List.mem_of_getElem? (i := 1) rfl)) (fun _ h9 => h9) rfl dX5_best_35 ?_
        refine xr_i (As := []) (rest := [.int (nI x)]) ⟨hx, hb, hml, hown, hts⟩ (c_X0_cells l G kb ka kc kl kn w h la ) (cwV 0 hts gX5_best_X0_cells rfl rfl rfl (by decide +kernel) ⟨Nat.le_of_ble_eq_true rfl, Nat.le_of_ble_eq_true rfl⟩) hK hP hS [1] rfl rfl rfl rfl hl.1 rfl (Nat.le_of_ble_eq_true rfl) dX5_best_38 ⟨Nat.zero_le _, Nat.zero_le _⟩ (fun r38 H locs hp38 hP hS => ?_)
        rw [show r38 = _ from hp38]
        refine xn_icmp_ge (tgt := 108) hx hb (by omega) (by omega) dX5_best_41 rfl (fun b41 => ?_) (fun b41 => ?_)
        · skip
          refine lv_iload_n hx hb dX5_best_108 rfl (lv_at hl 1 rfl) ?_
          refine lv_if_ne (tgt := 116) hx hb dX5_best_109 rfl (fun b109 => ?_) (fun b109 => ?_)
          · skip
            refine lv_iload_n hx hb dX5_best_116 rfl (lv_at hl 2 rfl) ?_
            have hP := hP.sub (ws' := [oC kx 5 [.ref kb, .ref kim, .ref kit, .ref kv, .ref kre, .int tf, .ref ksh, .int rf, .ref kwa, .ref kta], oC kb 0 [.int (nI w), .int (nI h), .int (nI la), .ref ka, .ref kc, .ref kl, .ref kn], iA G ka 16 af, oC kc 2 [.ref kcn, .int (nI 10), .int (nI nc)], iA G kcn (3 * 10) fc, oC kv 4 [.ref km, .ref kg, .int (nI vw3), .int (nI vh3), .int sl3], iA G km 176 mk3, iA G kg 160 sg3, oC kl 2 [.ref kln, .int (nI 6), .int (nI nl)], iA G kln (3 * 6) fl]) [9, 1, 0, 2, 3, 8, 7, 4, 5, 6] rfl
            have hD := hD.sub (ws' := [oC kx 5 [.ref kb, .ref kim, .ref kit, .ref kv, .ref kre, .int tf, .ref ksh, .int rf, .ref kwa, .ref kta], oC kb 0 [.int (nI w), .int (nI h), .int (nI la), .ref ka, .ref kc, .ref kl, .ref kn], iA G ka 16 af, oC kc 2 [.ref kcn, .int (nI 10), .int (nI nc)], iA G kcn (3 * 10) fc, oC kv 4 [.ref km, .ref kg, .int (nI vw3), .int (nI vh3), .int sl3], iA G km 176 mk3, iA G kg 160 sg3, oC kl 2 [.ref kln, .int (nI 6), .int (nI nl)], iA G kln (3 * 6) fl]) [9, 1, 0, 2, 3, 8, 7, 4, 5, 6] (by decide) rfl
            refine W.iret (v := mo) hx hb hr (fun t ht hW => ⟨⟨mo, (mk3, sg3, vw3, vh3, sl3), rfl, ?_, by rw [ht]; exact hP, hD⟩, hS.F ht⟩) hS.2.2 dX5_best_117
            try dsimp only
            first | exact ⟨(if_neg b4).symm, hvok⟩ | (rw [if_pos b4]; first | exact ⟨(if_pos b19).symm, hvok⟩ | (rw [if_neg b19, show bsF (fun x => orF (fun l => shS w h af nc fc fl l x) nl) (w * h) = (mo, wh) from (by rw [hbs, show x = w * h by omega])]; first | exact ⟨(if_pos b109).symm, hv3⟩ | exact ⟨(if_neg b109).symm, hv3⟩))
          · skip
            refine lv_iload_n hx hb dX5_best_112 rfl (lv_at hl 3 rfl) ?_
            refine lv_goto (tgt := 117) hx hb dX5_best_113 rfl ?_
            have hP := hP.sub (ws' := [oC kx 5 [.ref kb, .ref kim, .ref kit, .ref kv, .ref kre, .int tf, .ref ksh, .int rf, .ref kwa, .ref kta], oC kb 0 [.int (nI w), .int (nI h), .int (nI la), .ref ka, .ref kc, .ref kl, .ref kn], iA G ka 16 af, oC kc 2 [.ref kcn, .int (nI 10), .int (nI nc)], iA G kcn (3 * 10) fc, oC kv 4 [.ref km, .ref kg, .int (nI vw3), .int (nI vh3), .int sl3], iA G km 176 mk3, iA G kg 160 sg3, oC kl 2 [.ref kln, .int (nI 6), .int (nI nl)], iA G kln (3 * 6) fl]) [9, 1, 0, 2, 3, 8, 7, 4, 5, 6] rfl
            have hD := hD.sub (ws' := [oC kx 5 [.ref kb, .ref kim, .ref kit, .ref kv, .ref kre, .int tf, .ref ksh, .int rf, .ref kwa, .ref kta], oC kb 0 [.int (nI w), .int (nI h), .int (nI la), .ref ka, .ref kc, .ref kl, .ref kn], iA G ka 16 af, oC kc 2 [.ref kcn, .int (nI 10), .int (nI nc)], iA G kcn (3 * 10) fc, oC kv 4 [.ref km, .ref kg, .int (nI vw3), .int (nI vh3), .int sl3], iA G km 176 mk3, iA G kg 160 sg3, oC kl 2 [.ref kln, .int (nI 6), .int (nI nl)], iA G kln (3 * 6) fl]) [9, 1, 0, 2, 3, 8, 7, 4, 5, 6] (by decide) rfl
            refine W.iret (v := wh) hx hb hr (fun t ht hW => ⟨⟨wh, (mk3, sg3, vw3, vh3, sl3), rfl, ?_, by rw [ht]; exact hP, hD⟩, hS.F ht⟩) hS.2.2 dX5_best_117
            try dsimp only
            first | exact ⟨(if_neg b4).symm, hvok⟩ | (rw [if_pos b4]; first | exact ⟨(if_pos b19).symm, hvok⟩ | (rw [if_neg b19, show bsF (fun x => orF (fun l => shS w h af nc fc fl l x) nl) (w * h) = (mo, wh) from (by rw [hbs, show x = w * h by omega])]; first | exact ⟨(if_pos b109).symm, hv3⟩ | exact ⟨(if_neg b109).symm, hv3⟩))
        · skip
          refine lv_iconst (v := nI 0) hx hb dX5_best_44 (by decide) ?_
          refine lv_istore (lv' := [(5, .int (nI 0)), (0, .ref kx), (1, .int a), (2, .int mo), (3, .int wh), (4, .int (nI x))]) hx hb dX5_best_45 hl (by decide) rfl (fun ls hl => ?_)
          refine lv_iconst (v := nI 0) hx hb dX5_best_47 (by decide) ?_
          refine lv_istore (lv' := [(6, .int (nI 0)), (5, .int (nI 0)), (0, .ref kx), (1, .int a), (2, .int mo), (3, .int wh), (4, .int (nI x))]) hx hb dX5_best_48 hl (by decide) rfl (fun ls hl => ?_)
          have hL50 : ∀ k : Nat, ∀ (i : Nat) (bits : Int32) (mk4 : Nat → Int32) (sg4 : Nat → Int32) (vw4 : Nat) (vh4 : Nat) (sl4 : Int32) (ls : Array Slot) (H : Heap) (locs : List Loc), nl - i = k → (i ≤ nl) → (bits = orF (fun l => shS w h af nc fc fl l x) i) → (VOK w h la af nc fc mk4 sg4 vw4 vh4 sl4) → lv_has ls 7 [(0, .ref kx), (1, .int a), (2, .int mo), (3, .int wh), (4, .int (nI x)), (5, .int bits), (6, .int (nI i))] → xP G [iA G ka 16 af, oC kb 0 [.int (nI w), .int (nI h), .int (nI la), .ref ka, .ref kc, .ref kl, .ref kn], oC kc 2 [.ref kcn, .int (nI 10), .int (nI nc)], iA G kcn (3 * 10) fc, iA G kg 160 sg4, oC kl 2 [.ref kln, .int (nI 6), .int (nI nl)], iA G kln (3 * 6) fl, iA G km 176 mk4, oC kv 4 [.ref km, .ref kg, .int (nI vw4), .int (nI vh4), .int sl4], oC kx 5 [.ref kb, .ref kim, .ref kit, .ref kv, .ref kre, .int tf, .ref ksh, .int rf, .ref kwa, .ref kta]] H → va_D (va_A (w_X5_best G kx kim kit kre ksh kwa kta tf rf kb ka kc kcn kl kn w h la af nc fc kv km kg vw vh sl mk sg kln nl fl) ss.heap.size) [iA G ka 16 af, oC kb 0 [.int (nI w), .int (nI h), .int (nI la), .ref ka, .ref kc, .ref kl, .ref kn], oC kc 2 [.ref kcn, .int (nI 10), .int (nI nc)], iA G kcn (3 * 10) fc, iA G kg 160 sg4, oC kl 2 [.ref kln, .int (nI 6), .int (nI nl)], iA G kln (3 * 6) fl, iA G km 176 mk4, oC kv 4 [.ref km, .ref kg, .int (nI vw4), .int (nI vh4), .int sl4], oC kx 5 [.ref kb, .ref kim, .ref kit, .ref kv, .ref kre, .int tf, .ref ksh, .int rf, .ref kwa, .ref kta]] → va_S (va_A (w_X5_best G kx kim kit kre ksh kwa kta tf rf kb ka kc kcn kl kn w h la af nc fc kv km kg vw vh sl mk sg kln nl fl) ss.heap.size) ss.heap H locs → W pp l ee ({ frames := 5, cells := 0, slots := 0, locals := 118 } : Room) ss mm ([.ref kx, .int a] : List Value).toArray below mt cd H locs 0 0 (MQ below (Q_X5_best G ss.heap.size kx kim kit kre ksh kwa kta tf rf kb ka kc kcn kl kn w h la af nc fc kv km kg vw vh sl mk sg kln nl fl a) ([.ref kx, .int a] : List Value).toArray ss 0 0 (va_A (w_X5_best G kx kim kit kre ksh kwa kta tf rf kb ka kc kcn kl kn w h la af nc fc kv km kg vw vh sl mk sg kln nl fl) ss.heap.size)) (F0 mm 50 ls []) := by
            intro k
            induction k using Nat.strongRecOn with
            | _ k ih50 =>
            intro i bits mk4 sg4 vw4 vh4 sl4 ls H locs hm50 hi hbits hv4 hl hP hD hS
            refine lv_iload hx hb dX5_best_50 (lv_at hl 6 rfl) ?_
            refine lv_aload_n hx hb dX5_best_52 rfl (lv_at hl 0 rfl) ?_
            refine va_get (D := G.1) (ci := 5) (v := .ref kb) (C := RX5) (T := TX5) (N := 10) hx hb hts hin5 hown hK.1 hP 9 rfl rfl 0 (by decide) (hts (.fieldLink RX5 10 "BackLenses" "book" "LBackLenses$Book;") (List.mem_of_getElem? (i := 1) rfl)) (fun _ h9 => h9) rfl dX5_best_53 ?_
            refine va_getN (D := G.1) (ci := 0) (v := .ref kl) (C := RX0) (T := TX0) (N := 7) hx hb hts hin0 hown hK.1 hP 1 rfl rfl 5 (by decide) (va_Nw.use rfl (hK.2 (Cond.fieldLinkNest "BackLenses" (102 : Nat) "BackLenses$Book" "lenses" "LBackLenses$Rows;" "BackLenses") (List.mem_of_getElem? (i := 20) rfl))) (fun _ h9 => h9) rfl dX5_best_56 ?_
            refine va_getN (D := G.1) (ci := 2) (v := .int (nI nl)) (C := RX2) (T := TX2) (N := 3) hx hb hts hin2 hown hK.1 hP 5 rfl rfl 2 (by decide) (va_Nw.use rfl (hK.2 (Cond.fieldLinkNest "BackLenses" (97 : Nat) "BackLenses$Rows" "size" "I" "BackLenses") (List.mem_of_getElem? (i := 3) rfl))) (fun _ h9 => h9) rfl dX5_best_59 ?_
            refine xn_icmp_ge (tgt := 84) hx hb (by omega) (by omega) dX5_best_62 rfl (fun b62 => ?_) (fun b62 => ?_)
            · skip
              refine lv_iload hx hb dX5_best_84 (lv_at hl 5 rfl) ?_
              refine xs_i (As := [.int bits]) (rest := []) ⟨hx, hb, hml, hown, hts⟩ (c_J6_bitCount_0f7a4 l G bits ) (va_cwS 1 hts gX5_best_J6_bitCount_0f7a4 rfl rfl rfl (by decide +kernel) ⟨Nat.le_of_ble_eq_true rfl, Nat.le_of_ble_eq_true rfl⟩) hP hS rfl hl.1 rfl (Nat.le_of_ble_eq_true rfl) dX5_best_86 ⟨Nat.zero_le _, Nat.zero_le _⟩ (fun r86 H locs hp86 hP hS => ?_)
              rw [show r86 = _ from hp86]
              refine lv_iload_n hx hb dX5_best_89 rfl (lv_at hl 2 rfl) ?_
              refine xi_icmp_le (tgt := 102) hx hb dX5_best_90 rfl (fun b90 => ?_) (fun b90 => ?_)
              · skip
                refine lv_iinc (k := 4) (v := nI (x + 1)) (lv' := [(4, .int (nI (x + 1))), (0, .ref kx), (1, .int a), (2, .int mo), (3, .int wh), (5, .int bits), (6, .int (nI i))]) hx hb dX5_best_102 hl rfl (xn_inc x 1) (by decide) rfl (fun ls hl => ?_)
                refine lv_goto (tgt := 32) hx hb dX5_best_105 rfl ?_
                have hl := lv_sub hl (l' := [(0, .ref kx), (1, .int a), (2, .int mo), (3, .int wh), (4, .int (nI (x + 1)))]) [1, 2, 3, 4, 0] rfl
                exact ih32 (w * h - (x + 1)) (by omega) (x + 1) mo wh mk4 sg4 vw4 vh4 sl4 ls H locs rfl (by omega) (by rw [bsF, ← hbs]; first | (rw [if_pos (by rw [hbits, show i = nl by omega] at b90; exact b90)]) | (rw [if_neg (by rw [hbits, show i = nl by omega] at b90; exact b90), hbits, show i = nl by omega])) (by assumption) hl hP hD hS
              · skip
                refine lv_iload hx hb dX5_best_93 (lv_at hl 5 rfl) ?_
                refine xs_i (As := [.int bits]) (rest := []) ⟨hx, hb, hml, hown, hts⟩ (c_J6_bitCount_0f7a4 l G bits ) (va_cwS 1 hts gX5_best_J6_bitCount_0f7a4 rfl rfl rfl (by decide +kernel) ⟨Nat.le_of_ble_eq_true rfl, Nat.le_of_ble_eq_true rfl⟩) hP hS rfl hl.1 rfl (Nat.le_of_ble_eq_true rfl) dX5_best_95 ⟨Nat.zero_le _, Nat.zero_le _⟩ (fun r95 H locs hp95 hP hS => ?_)
                rw [show r95 = _ from hp95]
                refine lv_istore_n (lv' := [(2, .int (bcI bits)), (0, .ref kx), (1, .int a), (3, .int wh), (4, .int (nI x)), (5, .int bits), (6, .int (nI i))]) hx hb dX5_best_98 rfl hl (by decide) rfl (fun ls hl => ?_)
                refine lv_iload hx hb dX5_best_99 (lv_at hl 4 rfl) ?_
                refine lv_istore_n (lv' := [(3, .int (nI x)), (2, .int (bcI bits)), (0, .ref kx), (1, .int a), (4, .int (nI x)), (5, .int bits), (6, .int (nI i))]) hx hb dX5_best_101 rfl hl (by decide) rfl (fun ls hl => ?_)
                refine lv_iinc (k := 4) (v := nI (x + 1)) (lv' := [(4, .int (nI (x + 1))), (3, .int (nI x)), (2, .int (bcI bits)), (0, .ref kx), (1, .int a), (5, .int bits), (6, .int (nI i))]) hx hb dX5_best_102 hl rfl (xn_inc x 1) (by decide) rfl (fun ls hl => ?_)
                refine lv_goto (tgt := 32) hx hb dX5_best_105 rfl ?_
                have hl := lv_sub hl (l' := [(0, .ref kx), (1, .int a), (2, .int (bcI bits)), (3, .int (nI x)), (4, .int (nI (x + 1)))]) [3, 4, 2, 1, 0] rfl
                exact ih32 (w * h - (x + 1)) (by omega) (x + 1) (bcI bits) (nI x) mk4 sg4 vw4 vh4 sl4 ls H locs rfl (by omega) (by rw [bsF, ← hbs]; first | (rw [if_pos (by rw [hbits, show i = nl by omega] at b90; exact b90)]) | (rw [if_neg (by rw [hbits, show i = nl by omega] at b90; exact b90), hbits, show i = nl by omega])) (by assumption) hl hP hD hS
            · skip
              refine lv_iload hx hb dX5_best_65 (lv_at hl 5 rfl) ?_
              refine lv_aload_n hx hb dX5_best_67 rfl (lv_at hl 0 rfl) ?_
              refine lv_iload hx hb dX5_best_68 (lv_at hl 6 rfl) ?_
              refine lv_iload hx hb dX5_best_70 (lv_at hl 4 rfl) ?_
              refine xw_i (As := [.int (nI i), .int (nI x)]) (rest := [.int bits]) (wr := []) ⟨hx, hb, hml, hown, hts⟩ (c_X5_shownBy l G H.size kx kim kit kre ksh kwa kta tf rf kb ka kc kcn kl kn w h la af nc fc kv km kg vw4 vh4 sl4 mk4 sg4 kln nl fl i x (by first | assumption | omega) (by first | assumption | omega) (by first | assumption | omega) (by first | assumption | omega) (by first | assumption | omega) (by first | assumption | omega) (by first | assumption | omega) (by first | assumption | omega) (by first | assumption | omega) (by first | assumption | omega) (by first | assumption | omega) (by first | assumption | omega)) (cwV 2 hts gX5_best_X5_shownBy rfl rfl rfl (by decide +kernel) ⟨Nat.le_of_ble_eq_true rfl, Nat.le_of_ble_eq_true rfl⟩) hK hP hD hS hA [9, 1, 0, 2, 3, 8, 7, 4, 5, 6] [] rfl rfl (by decide) (by decide) (by decide) rfl rfl rfl hl.1 rfl (Nat.le_of_ble_eq_true rfl) dX5_best_72 ⟨Nat.le_of_ble_eq_true rfl, Nat.le_of_ble_eq_true rfl⟩ (fun r72 u H locs hp72 hP hD hS => ?_)
              obtain ⟨mk2_72, sg2_72, vw2_72, vh2_72, sl2_72⟩ := u
              try dsimp only at hp72 hP hD
              obtain ⟨rfl, he72⟩ := hp72
              replace hP : xP G [oC kx 5 [.ref kb, .ref kim, .ref kit, .ref kv, .ref kre, .int tf, .ref ksh, .int rf, .ref kwa, .ref kta], oC kb 0 [.int (nI w), .int (nI h), .int (nI la), .ref ka, .ref kc, .ref kl, .ref kn], iA G ka 16 af, oC kc 2 [.ref kcn, .int (nI 10), .int (nI nc)], iA G kcn (3 * 10) fc, oC kv 4 [.ref km, .ref kg, .int (nI vw2_72), .int (nI vh2_72), .int sl2_72], iA G km 176 mk2_72, iA G kg 160 sg2_72, oC kl 2 [.ref kln, .int (nI 6), .int (nI nl)], iA G kln (3 * 6) fl] H := hP
              replace hD : va_D (va_A (w_X5_best G kx kim kit kre ksh kwa kta tf rf kb ka kc kcn kl kn w h la af nc fc kv km kg vw vh sl mk sg kln nl fl) ss.heap.size) [oC kx 5 [.ref kb, .ref kim, .ref kit, .ref kv, .ref kre, .int tf, .ref ksh, .int rf, .ref kwa, .ref kta], oC kb 0 [.int (nI w), .int (nI h), .int (nI la), .ref ka, .ref kc, .ref kl, .ref kn], iA G ka 16 af, oC kc 2 [.ref kcn, .int (nI 10), .int (nI nc)], iA G kcn (3 * 10) fc, oC kv 4 [.ref km, .ref kg, .int (nI vw2_72), .int (nI vh2_72), .int sl2_72], iA G km 176 mk2_72, iA G kg 160 sg2_72, oC kl 2 [.ref kln, .int (nI 6), .int (nI nl)], iA G kln (3 * 6) fl] := hD
              refine lv_ior hx hb dX5_best_75 ?_
              refine lv_istore (lv' := [(5, .int (bits ||| (shS w h af nc fc fl i x))), (0, .ref kx), (1, .int a), (2, .int mo), (3, .int wh), (4, .int (nI x)), (6, .int (nI i))]) hx hb dX5_best_76 hl (by decide) rfl (fun ls hl => ?_)
              refine lv_iinc (k := 6) (v := nI (i + 1)) (lv' := [(6, .int (nI (i + 1))), (5, .int (bits ||| (shS w h af nc fc fl i x))), (0, .ref kx), (1, .int a), (2, .int mo), (3, .int wh), (4, .int (nI x))]) hx hb dX5_best_78 hl rfl (xn_inc i 1) (by decide) rfl (fun ls hl => ?_)
              refine lv_goto (tgt := 50) hx hb dX5_best_81 rfl ?_
              have hl := lv_sub hl (l' := [(0, .ref kx), (1, .int a), (2, .int mo), (3, .int wh), (4, .int (nI x)), (5, .int (bits ||| (shS w h af nc fc fl i x))), (6, .int (nI (i + 1)))]) [2, 3, 4, 5, 6, 1, 0] rfl
              have hP := hP.sub (ws' := [iA G ka 16 af, oC kb 0 [.int (nI w), .int (nI h), .int (nI la), .ref ka, .ref kc, .ref kl, .ref kn], oC kc 2 [.ref kcn, .int (nI 10), .int (nI nc)], iA G kcn (3 * 10) fc, iA G kg 160 sg2_72, oC kl 2 [.ref kln, .int (nI 6), .int (nI nl)], iA G kln (3 * 6) fl, iA G km 176 mk2_72, oC kv 4 [.ref km, .ref kg, .int (nI vw2_72), .int (nI vh2_72), .int sl2_72], oC kx 5 [.ref kb, .ref kim, .ref kit, .ref kv, .ref kre, .int tf, .ref ksh, .int rf, .ref kwa, .ref kta]]) [2, 1, 3, 4, 7, 8, 9, 6, 5, 0] rfl
              have hD := hD.sub (ws' := [iA G ka 16 af, oC kb 0 [.int (nI w), .int (nI h), .int (nI la), .ref ka, .ref kc, .ref kl, .ref kn], oC kc 2 [.ref kcn, .int (nI 10), .int (nI nc)], iA G kcn (3 * 10) fc, iA G kg 160 sg2_72, oC kl 2 [.ref kln, .int (nI 6), .int (nI nl)], iA G kln (3 * 6) fl, iA G km 176 mk2_72, oC kv 4 [.ref km, .ref kg, .int (nI vw2_72), .int (nI vh2_72), .int sl2_72], oC kx 5 [.ref kb, .ref kim, .ref kit, .ref kv, .ref kre, .int tf, .ref ksh, .int rf, .ref kwa, .ref kta]]) [2, 1, 3, 4, 7, 8, 9, 6, 5, 0] (by decide) rfl
              exact ih50 (nl - (i + 1)) (by omega) (i + 1) (bits ||| (shS w h af nc fc fl i x)) mk2_72 sg2_72 vw2_72 vh2_72 sl2_72 ls H locs rfl (by omega) (by rw [hbits]; rfl) (by assumption) hl hP hD hS
          have hl := lv_sub hl (l' := [(0, .ref kx), (1, .int a), (2, .int mo), (3, .int wh), (4, .int (nI x)), (5, .int (nI 0)), (6, .int (nI 0))]) [2, 3, 4, 5, 6, 1, 0] rfl
          exact hL50 (nl - 0) 0 (nI 0) mk3 sg3 vw3 vh3 sl3 ls H locs rfl (by omega) (by rfl) (by assumption) hl hP hD hS
      have hl := lv_sub hl (l' := [(0, .ref kx), (1, .int a), (2, .int (-1)), (3, .int (nI 0)), (4, .int (nI 0))]) [3, 4, 2, 1, 0] rfl
      have hP := hP.sub (ws' := [iA G ka 16 af, oC kb 0 [.int (nI w), .int (nI h), .int (nI la), .ref ka, .ref kc, .ref kl, .ref kn], oC kc 2 [.ref kcn, .int (nI 10), .int (nI nc)], iA G kcn (3 * 10) fc, iA G kg 160 sg, oC kl 2 [.ref kln, .int (nI 6), .int (nI nl)], iA G kln (3 * 6) fl, iA G km 176 mk, oC kv 4 [.ref km, .ref kg, .int (nI vw), .int (nI vh), .int sl], oC kx 5 [.ref kb, .ref kim, .ref kit, .ref kv, .ref kre, .int tf, .ref ksh, .int rf, .ref kwa, .ref kta]]) [2, 1, 3, 4, 7, 8, 9, 6, 5, 0] rfl
      have hD := hD.sub (ws' := [iA G ka 16 af, oC kb 0 [.int (nI w), .int (nI h), .int (nI la), .ref ka, .ref kc, .ref kl, .ref kn], oC kc 2 [.ref kcn, .int (nI 10), .int (nI nc)], iA G kcn (3 * 10) fc, iA G kg 160 sg, oC kl 2 [.ref kln, .int (nI 6), .int (nI nl)], iA G kln (3 * 6) fl, iA G km 176 mk, oC kv 4 [.ref km, .ref kg, .int (nI vw), .int (nI vh), .int sl], oC kx 5 [.ref kb, .ref kim, .ref kit, .ref kv, .ref kre, .int tf, .ref ksh, .int rf, .ref kwa, .ref kta]]) [2, 1, 3, 4, 7, 8, 9, 6, 5, 0] (by decide) rfl
      exact hL32 (w * h - 0) 0 (-1) (nI 0) mk sg vw vh sl ls H locs rfl (by omega) (by rfl) (by assumption) hl hP hD hS
    · skip
      refine lv_bipush (v := (-2)) hx hb dX5_best_22 (by decide) ?_
      have hP := hP.sub (ws' := [oC kx 5 [.ref kb, .ref kim, .ref kit, .ref kv, .ref kre, .int tf, .ref ksh, .int rf, .ref kwa, .ref kta], oC kb 0 [.int (nI w), .int (nI h), .int (nI la), .ref ka, .ref kc, .ref kl, .ref kn], iA G ka 16 af, oC kc 2 [.ref kcn, .int (nI 10), .int (nI nc)], iA G kcn (3 * 10) fc, oC kv 4 [.ref km, .ref kg, .int (nI vw), .int (nI vh), .int sl], iA G km 176 mk, iA G kg 160 sg, oC kl 2 [.ref kln, .int (nI 6), .int (nI nl)], iA G kln (3 * 6) fl]) [0, 1, 2, 3, 4, 5, 6, 7, 8, 9] rfl
      have hD := hD.sub (ws' := [oC kx 5 [.ref kb, .ref kim, .ref kit, .ref kv, .ref kre, .int tf, .ref ksh, .int rf, .ref kwa, .ref kta], oC kb 0 [.int (nI w), .int (nI h), .int (nI la), .ref ka, .ref kc, .ref kl, .ref kn], iA G ka 16 af, oC kc 2 [.ref kcn, .int (nI 10), .int (nI nc)], iA G kcn (3 * 10) fc, oC kv 4 [.ref km, .ref kg, .int (nI vw), .int (nI vh), .int sl], iA G km 176 mk, iA G kg 160 sg, oC kl 2 [.ref kln, .int (nI 6), .int (nI nl)], iA G kln (3 * 6) fl]) [0, 1, 2, 3, 4, 5, 6, 7, 8, 9] (by decide) rfl
      refine W.iret (v := (-2)) hx hb hr (fun t ht hW => ⟨⟨(-2), (mk, sg, vw, vh, sl), rfl, ?_, by rw [ht]; exact hP, hD⟩, hS.F ht⟩) hS.2.2 dX5_best_24
      try dsimp only
      first | exact ⟨(if_neg b4).symm, hvok⟩ | (rw [if_pos b4]; first | exact ⟨(if_pos b19).symm, hvok⟩ | (rw [if_neg b19, show bsF (fun x => orF (fun l => shS w h af nc fc fl l x) nl) (w * h) = (mo, wh) from (by rw [hbs, show x = w * h by omega])]; first | exact ⟨(if_pos b109).symm, hv3⟩ | exact ⟨(if_neg b109).symm, hv3⟩))
  · skip
    refine lv_iconst (v := (-1)) hx hb dX5_best_7 (by decide) ?_
    have hP := hP.sub (ws' := [oC kx 5 [.ref kb, .ref kim, .ref kit, .ref kv, .ref kre, .int tf, .ref ksh, .int rf, .ref kwa, .ref kta], oC kb 0 [.int (nI w), .int (nI h), .int (nI la), .ref ka, .ref kc, .ref kl, .ref kn], iA G ka 16 af, oC kc 2 [.ref kcn, .int (nI 10), .int (nI nc)], iA G kcn (3 * 10) fc, oC kv 4 [.ref km, .ref kg, .int (nI vw), .int (nI vh), .int sl], iA G km 176 mk, iA G kg 160 sg, oC kl 2 [.ref kln, .int (nI 6), .int (nI nl)], iA G kln (3 * 6) fl]) [0, 1, 2, 3, 4, 5, 6, 7, 8, 9] rfl
    have hD := hD.sub (ws' := [oC kx 5 [.ref kb, .ref kim, .ref kit, .ref kv, .ref kre, .int tf, .ref ksh, .int rf, .ref kwa, .ref kta], oC kb 0 [.int (nI w), .int (nI h), .int (nI la), .ref ka, .ref kc, .ref kl, .ref kn], iA G ka 16 af, oC kc 2 [.ref kcn, .int (nI 10), .int (nI nc)], iA G kcn (3 * 10) fc, oC kv 4 [.ref km, .ref kg, .int (nI vw), .int (nI vh), .int sl], iA G km 176 mk, iA G kg 160 sg, oC kl 2 [.ref kln, .int (nI 6), .int (nI nl)], iA G kln (3 * 6) fl]) [0, 1, 2, 3, 4, 5, 6, 7, 8, 9] (by decide) rfl
    refine W.iret (v := (-1)) hx hb hr (fun t ht hW => ⟨⟨(-1), (mk, sg, vw, vh, sl), rfl, ?_, by rw [ht]; exact hP, hD⟩, hS.F ht⟩) hS.2.2 dX5_best_8
    try dsimp only
    first | exact ⟨(if_neg b4).symm, hvok⟩ | (rw [if_pos b4]; first | exact ⟨(if_pos b19).symm, hvok⟩ | (rw [if_neg b19, show bsF (fun x => orF (fun l => shS w h af nc fc fl l x) nl) (w * h) = (mo, wh) from (by rw [hbs, show x = w * h by omega])]; first | exact ⟨(if_pos b109).symm, hv3⟩ | exact ⟨(if_neg b109).symm, hv3⟩))

abbrev Q_X5_nextSeed_n (G : XG) (i : Int32) : Array Value → State → Outcome → State → Prop := (xRi (fun r => r = nxD i))
set_option maxHeartbeats 4000000 in
set_option maxRecDepth 100000 in
theorem c_X5_nextSeed_n (l : Launch) (G : XG) (i : Int32)  : Met l yX5_nextSeed wsX5_nextSeed ({ frames := 0, cells := 0, slots := 0, locals := 0 } : Room) (va_Pc [.int i] (fun _ => True)) (Q_X5_nextSeed_n G i) 0 0 (fun _ => False) := by
  refine Met.ofW (cc := cX5_nextSeed) (maxL := 1) (ret := (some .int)) (by decide) rfl ?_
  intro pp ee ss mm aa below mt cd s₁ BB hml hv
  obtain ⟨rfl, -⟩ := hv
  have hx := BB.exec
  have hb := BB.bytes
  have hr := BB.returns
  have hts := atoms_spec (ws := wsX5_nextSeed) BB.pre
  have hown : ss.vm.findClass RX5 = some mm.cls := findClass_of_methodNamed BB.named
  have hlocks := BB.notSynchronized
  have hS : va_S (fun _ => False) ss.heap ss.heap [] := va_S.rf
  have hP : xP (G) [] ss.heap := fun k q h => by cases h
  have hl := lv_entry ([.int i]) (n := 1) (Nat.le_of_ble_eq_true rfl)
  rw [lg_entry_eq]
  generalize (lg_sl ([.int i]) ++ List.replicate (1 - (lg_sl ([.int i])).length) Slot.unset).toArray = ls at hl ⊢
  replace hl : lv_has ls 1 [(0, .int i)] := hl
  refine lv_iload_n hx hb dX5_nextSeed_0 rfl (lv_at hl 0 rfl) ?_
  refine lv_ldcw (v := nI 1103515245) hx hb hown (hts (.constant RX5 277 (nI 1103515245)) (List.mem_of_getElem? (i := 1) rfl)) dX5_nextSeed_1 ?_
  refine lv_imul hx hb dX5_nextSeed_4 ?_
  refine lv_sipush (v := nI 12345) hx hb dX5_nextSeed_5 (by decide) ?_
  refine lv_iadd hx hb dX5_nextSeed_8 ?_
  refine W.iret (v := (i * (nI 1103515245)) + (nI 12345)) hx hb hr (fun t ht hW => ⟨⟨(i * (nI 1103515245)) + (nI 12345), (), rfl, ?_, trivial⟩, hS.F ht⟩) hS.2.2 dX5_nextSeed_9
  rfl

abbrev w_X5_drift (G : XG) (kx kim kit kre ksh kwa kta : Nat) (tf rf : Int32) (kb ka kc kcn kl kn : Nat) (w h la : Nat) (af : Nat → Int32) (nc : Nat) (fc : Nat → Int32) (kv km kg : Nat) (vw vh : Nat) (sl : Int32) (mk sg : Nat → Int32) : va_W := [oC kx 5 [.ref kb, .ref kim, .ref kit, .ref kv, .ref kre, .int tf, .ref ksh, .int rf, .ref kwa, .ref kta], oC kb 0 [.int (nI w), .int (nI h), .int (nI la), .ref ka, .ref kc, .ref kl, .ref kn], iA G ka 16 af, oC kc 2 [.ref kcn, .int (nI 10), .int (nI nc)], iA G kcn (3 * 10) fc, oC kv 4 [.ref km, .ref kg, .int (nI vw), .int (nI vh), .int sl], iA G km 176 mk, iA G kg 160 sg]
abbrev Q_X5_drift (G : XG) (sz : Nat) (kx kim kit kre ksh kwa kta : Nat) (tf rf : Int32) (kb ka kc kcn kl kn : Nat) (w h la : Nat) (af : Nat → Int32) (nc : Nat) (fc : Nat → Int32) (kv km kg : Nat) (vw vh : Nat) (sl : Int32) (mk sg : Nat → Int32) (seed n a : Int32) : Array Value → State → Outcome → State → Prop := (va_Qi (fun (r : Int32) (u : (Nat → Int32) × (Nat → Int32) × Nat × Nat × Int32) => r = (if (1 ≤ n.toInt ∧ n.toInt ≤ 60) ∧ inR a 2 then (if a = 0 then xbits (fun c => decide ((drF (w * h) (tn n) seed (fun c => mkS af nc fc c la)) c = nI 0)) (w * h) else sgF w h (drF (w * h) (tn n) seed (fun c => mkS af nc fc c la)) 0) else (-1)) ∧ VOK w h la af nc fc u.1 u.2.1 u.2.2.1 u.2.2.2.1 u.2.2.2.2) (xWb G sz (w_X5_drift G kx kim kit kre ksh kwa kta tf rf kb ka kc kcn kl kn w h la af nc fc kv km kg vw vh sl mk sg) (fun u : (Nat → Int32) × (Nat → Int32) × Nat × Nat × Int32 => [oC kx 5 [.ref kb, .ref kim, .ref kit, .ref kv, .ref kre, .int tf, .ref ksh, .int rf, .ref kwa, .ref kta], oC kb 0 [.int (nI w), .int (nI h), .int (nI la), .ref ka, .ref kc, .ref kl, .ref kn], iA G ka 16 af, oC kc 2 [.ref kcn, .int (nI 10), .int (nI nc)], iA G kcn (3 * 10) fc, oC kv 4 [.ref km, .ref kg, .int (nI u.2.2.1), .int (nI u.2.2.2.1), .int u.2.2.2.2], iA G km 176 u.1, iA G kg 160 u.2.1])) (va_A (w_X5_drift G kx kim kit kre ksh kwa kta tf rf kb ka kc kcn kl kn w h la af nc fc kv km kg vw vh sl mk sg) sz))
set_option maxHeartbeats 4000000 in
set_option maxRecDepth 100000 in
theorem c_X5_drift (l : Launch) (G : XG) (sz : Nat) (kx kim kit kre ksh kwa kta : Nat) (tf rf : Int32) (kb ka kc kcn kl kn : Nat) (w h la : Nat) (af : Nat → Int32) (nc : Nat) (fc : Nat → Int32) (kv km kg : Nat) (vw vh : Nat) (sl : Int32) (mk sg : Nat → Int32) (seed n a : Int32) (hw : 1 ≤ w) (hwb : w ≤ 16) (hhb : h ≤ 16) (hwh : w * h ≤ 16) (hla : la ≤ 9) (hnc : nc ≤ 10) (hcell : ∀ i, i < nc → inR (fc (3 * i + 1)) 16) (hvok : VOK w h la af nc fc mk sg vw vh sl) (hh1 : 1 ≤ h) : Met l yX5_drift wsX5_drift ({ frames := 4, cells := 0, slots := 0, locals := 96 } : Room) (va_Pc [.ref kx, .int seed, .int n, .int a] (xWp G sz (w_X5_drift G kx kim kit kre ksh kwa kta tf rf kb ka kc kcn kl kn w h la af nc fc kv km kg vw vh sl mk sg))) (Q_X5_drift G sz kx kim kit kre ksh kwa kta tf rf kb ka kc kcn kl kn w h la af nc fc kv km kg vw vh sl mk sg seed n a) 0 0 (va_A (w_X5_drift G kx kim kit kre ksh kwa kta tf rf kb ka kc kcn kl kn w h la af nc fc kv km kg vw vh sl mk sg) sz) := by
  refine Met.ofW (cc := cX5_drift) (maxL := 9) (ret := (some .int)) (by decide) rfl ?_
  intro pp ee ss mm aa below mt cd s₁ BB hml hv
  obtain ⟨rfl, hsz, hP, hK, hD0⟩ := hv
  have hx := BB.exec
  have hb := BB.bytes
  have hr := BB.returns
  have hts := atoms_spec (ws := wsX5_drift) BB.pre
  have hown : ss.vm.findClass RX5 = some mm.cls := findClass_of_methodNamed BB.named
  have hlocks := BB.notSynchronized
  subst hsz
  have hD := hD0.self (sz := ss.heap.size)
  have hA : ∀ q : Nat, ss.heap.size ≤ q → va_A (w_X5_drift G kx kim kit kre ksh kwa kta tf rf kb ka kc kcn kl kn w h la af nc fc kv km kg vw vh sl mk sg) ss.heap.size q := fun q h => Or.inr h
  have hS : va_S (va_A (w_X5_drift G kx kim kit kre ksh kwa kta tf rf kb ka kc kcn kl kn w h la af nc fc kv km kg vw vh sl mk sg) ss.heap.size) ss.heap ss.heap [] := va_S.rf
  replace hD : va_D (va_A (w_X5_drift G kx kim kit kre ksh kwa kta tf rf kb ka kc kcn kl kn w h la af nc fc kv km kg vw vh sl mk sg) ss.heap.size) [oC kx 5 [.ref kb, .ref kim, .ref kit, .ref kv, .ref kre, .int tf, .ref ksh, .int rf, .ref kwa, .ref kta], oC kb 0 [.int (nI w), .int (nI h), .int (nI la), .ref ka, .ref kc, .ref kl, .ref kn], iA G ka 16 af, oC kc 2 [.ref kcn, .int (nI 10), .int (nI nc)], iA G kcn (3 * 10) fc, oC kv 4 [.ref km, .ref kg, .int (nI vw), .int (nI vh), .int sl], iA G km 176 mk, iA G kg 160 sg] := hD
  replace hP : xP G [oC kx 5 [.ref kb, .ref kim, .ref kit, .ref kv, .ref kre, .int tf, .ref ksh, .int rf, .ref kwa, .ref kta], oC kb 0 [.int (nI w), .int (nI h), .int (nI la), .ref ka, .ref kc, .ref kl, .ref kn], iA G ka 16 af, oC kc 2 [.ref kcn, .int (nI 10), .int (nI nc)], iA G kcn (3 * 10) fc, oC kv 4 [.ref km, .ref kg, .int (nI vw), .int (nI vh), .int sl], iA G km 176 mk, iA G kg 160 sg] ss.heap := hP
  have hin0 : ∀ w ∈ u_ws RX0 TX0 7, w ∈ wsX5_drift := fun w h => List.mem_cons_of_mem _ (List.mem_append_left _ (List.mem_append_left _ (List.mem_append_right _ h)))
  have hin2 : ∀ w ∈ u_ws RX2 TX2 3, w ∈ wsX5_drift := fun w h => List.mem_cons_of_mem _ (List.mem_append_right _ h)
  have hin4 : ∀ w ∈ u_ws RX4 TX4 5, w ∈ wsX5_drift := fun w h => List.mem_cons_of_mem _ (List.mem_append_left _ (List.mem_append_right _ h))
  have hin5 : ∀ w ∈ u_ws RX5 TX5 10, w ∈ wsX5_drift := fun w h => List.mem_cons_of_mem _ (List.mem_append_left _ (List.mem_append_left _ (List.mem_append_left _ (List.mem_append_right _ h))))
  have hl := lv_entry ([.ref kx, .int seed, .int n, .int a]) (n := 9) (Nat.le_of_ble_eq_true rfl)
  rw [lg_entry_eq]
  generalize (lg_sl ([.ref kx, .int seed, .int n, .int a]) ++ List.replicate (9 - (lg_sl ([.ref kx, .int seed, .int n, .int a])).length) Slot.unset).toArray = ls at hl ⊢
  replace hl : lv_has ls 9 [(0, .ref kx), (1, .int seed), (2, .int n), (3, .int a)] := hl
  refine lv_iload_n hx hb dX5_drift_0 rfl (lv_at hl 2 rfl) ?_
  refine lv_iconst (v := nI 1) hx hb dX5_drift_1 (by decide) ?_
  refine xm_icmp_lt (tgt := 18) hx hb (by omega) dX5_drift_2 rfl (fun b2 => ?_) (fun b2 => ?_)
  · skip
    refine lv_iconst (v := (-1)) hx hb dX5_drift_18 (by decide) ?_
    have hP := hP.sub (ws' := [oC kx 5 [.ref kb, .ref kim, .ref kit, .ref kv, .ref kre, .int tf, .ref ksh, .int rf, .ref kwa, .ref kta], oC kb 0 [.int (nI w), .int (nI h), .int (nI la), .ref ka, .ref kc, .ref kl, .ref kn], iA G ka 16 af, oC kc 2 [.ref kcn, .int (nI 10), .int (nI nc)], iA G kcn (3 * 10) fc, oC kv 4 [.ref km, .ref kg, .int (nI vw), .int (nI vh), .int sl], iA G km 176 mk, iA G kg 160 sg]) [0, 1, 2, 3, 4, 5, 6, 7] rfl
    have hD := hD.sub (ws' := [oC kx 5 [.ref kb, .ref kim, .ref kit, .ref kv, .ref kre, .int tf, .ref ksh, .int rf, .ref kwa, .ref kta], oC kb 0 [.int (nI w), .int (nI h), .int (nI la), .ref ka, .ref kc, .ref kl, .ref kn], iA G ka 16 af, oC kc 2 [.ref kcn, .int (nI 10), .int (nI nc)], iA G kcn (3 * 10) fc, oC kv 4 [.ref km, .ref kg, .int (nI vw), .int (nI vh), .int sl], iA G km 176 mk, iA G kg 160 sg]) [0, 1, 2, 3, 4, 5, 6, 7] (by decide) rfl
    refine W.iret (v := (-1)) hx hb hr (fun t ht hW => ⟨⟨(-1), (mk, sg, vw, vh, sl), rfl, ?_, by rw [ht]; exact hP, hD⟩, hS.F ht⟩) hS.2.2 dX5_drift_19
    try dsimp only
    first | exact ⟨(if_neg (fun q => (show ¬ (1 ≤ n.toInt ∧ n.toInt ≤ 60) by omega) q.1)).symm, hvok⟩ | exact ⟨(if_neg (fun q => b15 q.2)).symm, hvok⟩ | (have hfr : FR w h la af nc fc mk3 sg2_21 := fun d q => ⟨fun c q2 => by rw [hold _ (by omega)]; exact (he21 d q).1 c q2, (he21 d q).2⟩; have hrow : ∀ c, c < 16 → mk3 (160 + c) = drF (w * h) n0 seed (fun c => mkS af nc fc c la) c := fun c q => (by rw [hdr c q, show n0 - i = 0 by omega, drF]); rw [if_pos ⟨by omega, b15⟩, tn_nI (by omega)]; first | (rw [if_pos b103]; exact ⟨xbits_congr _ (fun c q => by rw [← hrow c (by omega)]), VOK_fr hfr⟩) | (rw [if_neg b103]; exact ⟨sgF_congr (by omega) (by omega) (fun c q => hrow c (by omega)), VOK_fr hfr⟩))
  · skip
    refine lv_iload_n hx hb dX5_drift_5 rfl (lv_at hl 2 rfl) ?_
    refine lv_bipush (v := nI 60) hx hb dX5_drift_6 (by decide) ?_
    refine xm_icmp_gt (tgt := 18) hx hb (by omega) dX5_drift_8 rfl (fun b8 => ?_) (fun b8 => ?_)
    · skip
      refine lv_iconst (v := (-1)) hx hb dX5_drift_18 (by decide) ?_
      have hP := hP.sub (ws' := [oC kx 5 [.ref kb, .ref kim, .ref kit, .ref kv, .ref kre, .int tf, .ref ksh, .int rf, .ref kwa, .ref kta], oC kb 0 [.int (nI w), .int (nI h), .int (nI la), .ref ka, .ref kc, .ref kl, .ref kn], iA G ka 16 af, oC kc 2 [.ref kcn, .int (nI 10), .int (nI nc)], iA G kcn (3 * 10) fc, oC kv 4 [.ref km, .ref kg, .int (nI vw), .int (nI vh), .int sl], iA G km 176 mk, iA G kg 160 sg]) [0, 1, 2, 3, 4, 5, 6, 7] rfl
      have hD := hD.sub (ws' := [oC kx 5 [.ref kb, .ref kim, .ref kit, .ref kv, .ref kre, .int tf, .ref ksh, .int rf, .ref kwa, .ref kta], oC kb 0 [.int (nI w), .int (nI h), .int (nI la), .ref ka, .ref kc, .ref kl, .ref kn], iA G ka 16 af, oC kc 2 [.ref kcn, .int (nI 10), .int (nI nc)], iA G kcn (3 * 10) fc, oC kv 4 [.ref km, .ref kg, .int (nI vw), .int (nI vh), .int sl], iA G km 176 mk, iA G kg 160 sg]) [0, 1, 2, 3, 4, 5, 6, 7] (by decide) rfl
      refine W.iret (v := (-1)) hx hb hr (fun t ht hW => ⟨⟨(-1), (mk, sg, vw, vh, sl), rfl, ?_, by rw [ht]; exact hP, hD⟩, hS.F ht⟩) hS.2.2 dX5_drift_19
      try dsimp only
      first | exact ⟨(if_neg (fun q => (show ¬ (1 ≤ n.toInt ∧ n.toInt ≤ 60) by omega) q.1)).symm, hvok⟩ | exact ⟨(if_neg (fun q => b15 q.2)).symm, hvok⟩ | (have hfr : FR w h la af nc fc mk3 sg2_21 := fun d q => ⟨fun c q2 => by rw [hold _ (by omega)]; exact (he21 d q).1 c q2, (he21 d q).2⟩; have hrow : ∀ c, c < 16 → mk3 (160 + c) = drF (w * h) n0 seed (fun c => mkS af nc fc c la) c := fun c q => (by rw [hdr c q, show n0 - i = 0 by omega, drF]); rw [if_pos ⟨by omega, b15⟩, tn_nI (by omega)]; first | (rw [if_pos b103]; exact ⟨xbits_congr _ (fun c q => by rw [← hrow c (by omega)]), VOK_fr hfr⟩) | (rw [if_neg b103]; exact ⟨sgF_congr (by omega) (by omega) (fun c q => hrow c (by omega)), VOK_fr hfr⟩))
    · skip
      refine lv_iload_n hx hb dX5_drift_11 rfl (lv_at hl 3 rfl) ?_
      refine xs_i (As := [.int a]) (rest := []) ⟨hx, hb, hml, hown, hts⟩ (c_X5_isChoice l G a ) (va_cwS 1 hts gX5_drift_X5_isChoice rfl rfl rfl (by decide +kernel) ⟨Nat.le_of_ble_eq_true rfl, Nat.le_of_ble_eq_true rfl⟩) hP hS rfl hl.1 rfl (Nat.le_of_ble_eq_true rfl) dX5_drift_12 ⟨Nat.zero_le _, Nat.zero_le _⟩ (fun r12 H locs hp12 hP hS => ?_)
      rw [show r12 = _ from hp12]
      refine xb_if_ne (tgt := 20) hx hb dX5_drift_15 rfl (fun b15 => ?_) (fun b15 => ?_)
      · skip
        have hnn : inR n 61 := (by unfold inR; omega)
        obtain ⟨n0, hn0, rfl⟩ := inR_nat hnn
        have hn1 := nI_toInt (n := n0) (by omega)
        have hcp : 1 ≤ w * h := Nat.mul_le_mul hw hh1
        refine lv_aload_n hx hb dX5_drift_20 rfl (lv_at hl 0 rfl) ?_
        refine xw_r (As := []) (rest := []) (wr := []) ⟨hx, hb, hml, hown, hts⟩ (c_X5_freshViews l G H.size kx kim kit kre ksh kwa kta tf rf kb ka kc kcn kl kn w h la af nc fc kv km kg vw vh sl mk sg (by first | assumption | omega) (by first | assumption | omega) (by first | assumption | omega) (by first | assumption | omega) (by first | assumption | omega) (by first | assumption | omega) (by first | assumption | omega) (by first | assumption | omega)) (cwV 0 hts gX5_drift_X5_freshViews rfl rfl rfl (by decide +kernel) ⟨Nat.le_of_ble_eq_true rfl, Nat.le_of_ble_eq_true rfl⟩) hK hP hD hS hA [0, 1, 2, 3, 4, 5, 6, 7] [] rfl rfl (by decide) (by decide) (by decide) rfl rfl rfl hl.1 rfl (Nat.le_of_ble_eq_true rfl) dX5_drift_21 ⟨Nat.le_of_ble_eq_true rfl, Nat.le_of_ble_eq_true rfl⟩ (fun u H locs hp21 hP hD hS => ?_)
        obtain ⟨mk2_21, sg2_21⟩ := u
        try dsimp only at hp21 hP hD
        have he21 := hp21
        replace hP : xP G [oC kx 5 [.ref kb, .ref kim, .ref kit, .ref kv, .ref kre, .int tf, .ref ksh, .int rf, .ref kwa, .ref kta], oC kb 0 [.int (nI w), .int (nI h), .int (nI la), .ref ka, .ref kc, .ref kl, .ref kn], iA G ka 16 af, oC kc 2 [.ref kcn, .int (nI 10), .int (nI nc)], iA G kcn (3 * 10) fc, oC kv 4 [.ref km, .ref kg, .int (nI w), .int (nI h), .int (nI 0)], iA G km 176 mk2_21, iA G kg 160 sg2_21] H := hP
        replace hD : va_D (va_A (w_X5_drift G kx kim kit kre ksh kwa kta tf rf kb ka kc kcn kl kn w h la af nc fc kv km kg vw vh sl mk sg) ss.heap.size) [oC kx 5 [.ref kb, .ref kim, .ref kit, .ref kv, .ref kre, .int tf, .ref ksh, .int rf, .ref kwa, .ref kta], oC kb 0 [.int (nI w), .int (nI h), .int (nI la), .ref ka, .ref kc, .ref kl, .ref kn], iA G ka 16 af, oC kc 2 [.ref kcn, .int (nI 10), .int (nI nc)], iA G kcn (3 * 10) fc, oC kv 4 [.ref km, .ref kg, .int (nI w), .int (nI h), .int (nI 0)], iA G km 176 mk2_21, iA G kg 160 sg2_21] := hD
        refine lv_astore (lv' := [(4, .ref kv), (0, .ref kx), (1, .int seed), (2, .int (nI n0)), (3, .int a)]) hx hb dX5_drift_24 hl (by decide) rfl (fun ls hl => ?_)
        refine lv_aload_n hx hb dX5_drift_26 rfl (lv_at hl 1 rfl) ?_
        refine va_get (D := G.1) (ci := 5) (v := .ref kb) (C := RX5) (T := TX5) (N := 10) hx hb hts hin5 hown hK.1 hP 0 rfl rfl 0 (by decide) (hts (.fieldLink RX5 10 "BackLenses" "book" "LBackLenses$Book;") (List.mem_of_getElem? (i := 1) rfl)) (fun _ h9 => h9) rfl dX5_drift_27 ?_
        refine xr_i (As := []) (rest := []) ⟨hx, hb, hml, hown, hts⟩ (c_X0_cells l G kb ka kc kl kn w h la ) (cwV 0 hts gX5_drift_X0_cells rfl rfl rfl (by decide +kernel) ⟨Nat.le_of_ble_eq_true rfl, Nat.le_of_ble_eq_true rfl⟩) hK hP hS [1] rfl rfl rfl rfl hl.1 rfl (Nat.le_of_ble_eq_true rfl) dX5_drift_30 ⟨Nat.zero_le _, Nat.zero_le _⟩ (fun r30 H locs hp30 hP hS => ?_)
        rw [show r30 = _ from hp30]
        refine lv_istore (lv' := [(5, .int (nI (w * h))), (4, .ref kv), (0, .ref kx), (1, .int seed), (2, .int (nI n0)), (3, .int a)]) hx hb dX5_drift_33 hl (by decide) rfl (fun ls hl => ?_)
        refine lv_aload hx hb dX5_drift_35 (lv_at hl 1 rfl) ?_
        refine lv_aload_n hx hb dX5_drift_37 rfl (lv_at hl 2 rfl) ?_
        refine va_get (D := G.1) (ci := 5) (v := .ref kb) (C := RX5) (T := TX5) (N := 10) hx hb hts hin5 hown hK.1 hP 0 rfl rfl 0 (by decide) (hts (.fieldLink RX5 10 "BackLenses" "book" "LBackLenses$Book;") (List.mem_of_getElem? (i := 1) rfl)) (fun _ h9 => h9) rfl dX5_drift_38 ?_
        refine va_getN (D := G.1) (ci := 0) (v := .int (nI la)) (C := RX0) (T := TX0) (N := 7) hx hb hts hin0 hown hK.1 hP 1 rfl rfl 2 (by decide) (va_Nw.use rfl (hK.2 (Cond.fieldLinkNest "BackLenses" (90 : Nat) "BackLenses$Book" "last" "I" "BackLenses") (List.mem_of_getElem? (i := 11) rfl))) (fun _ h9 => h9) rfl dX5_drift_41 ?_
        refine xw_v (As := [.int (nI la)]) (rest := []) (wr := [oC kx 5 [.ref kb, .ref kim, .ref kit, .ref kv, .ref kre, .int tf, .ref ksh, .int rf, .ref kwa, .ref kta], oC kb 0 [.int (nI w), .int (nI h), .int (nI la), .ref ka, .ref kc, .ref kl, .ref kn], iA G ka 16 af, oC kc 2 [.ref kcn, .int (nI 10), .int (nI nc)], iA G kcn (3 * 10) fc, iA G kg 160 sg2_21]) ⟨hx, hb, hml, hown, hts⟩ (c_X4_copyToSpareDay l G H.size kv km kg w h (nI 0) mk2_21 la (by first | assumption | omega)) (cwV 1 hts gX5_drift_X4_copyToSpareDay rfl rfl rfl (by decide +kernel) ⟨Nat.le_of_ble_eq_true rfl, Nat.le_of_ble_eq_true rfl⟩) hK hP hD hS hA [5, 6] [0, 1, 2, 3, 4, 7] rfl rfl (by decide) (by decide) (by decide) rfl rfl rfl hl.1 rfl (Nat.le_of_ble_eq_true rfl) dX5_drift_44 ⟨Nat.le_of_ble_eq_true rfl, Nat.le_of_ble_eq_true rfl⟩ (fun u H locs hp44 hP hD hS => ?_)
        obtain ⟨u0_44, rfl⟩ : ∃ z, z = u := ⟨_, rfl⟩
        try dsimp only at hp44 hP hD
        obtain rfl := hp44
        replace hP : xP G [oC kx 5 [.ref kb, .ref kim, .ref kit, .ref kv, .ref kre, .int tf, .ref ksh, .int rf, .ref kwa, .ref kta], oC kb 0 [.int (nI w), .int (nI h), .int (nI la), .ref ka, .ref kc, .ref kl, .ref kn], iA G ka 16 af, oC kc 2 [.ref kcn, .int (nI 10), .int (nI nc)], iA G kcn (3 * 10) fc, iA G kg 160 sg2_21, oC kv 4 [.ref km, .ref kg, .int (nI w), .int (nI h), .int (nI 0)], iA G km 176 (va_cpy mk2_21 mk2_21 (la * 16) 160 16)] H := hP
        replace hD : va_D (va_A (w_X5_drift G kx kim kit kre ksh kwa kta tf rf kb ka kc kcn kl kn w h la af nc fc kv km kg vw vh sl mk sg) ss.heap.size) [oC kx 5 [.ref kb, .ref kim, .ref kit, .ref kv, .ref kre, .int tf, .ref ksh, .int rf, .ref kwa, .ref kta], oC kb 0 [.int (nI w), .int (nI h), .int (nI la), .ref ka, .ref kc, .ref kl, .ref kn], iA G ka 16 af, oC kc 2 [.ref kcn, .int (nI 10), .int (nI nc)], iA G kcn (3 * 10) fc, iA G kg 160 sg2_21, oC kv 4 [.ref km, .ref kg, .int (nI w), .int (nI h), .int (nI 0)], iA G km 176 (va_cpy mk2_21 mk2_21 (la * 16) 160 16)] := hD
        refine lv_iload_n hx hb dX5_drift_47 rfl (lv_at hl 3 rfl) ?_
        refine lv_istore (lv' := [(6, .int seed), (5, .int (nI (w * h))), (4, .ref kv), (0, .ref kx), (1, .int seed), (2, .int (nI n0)), (3, .int a)]) hx hb dX5_drift_48 hl (by decide) rfl (fun ls hl => ?_)
        refine lv_iconst (v := nI 0) hx hb dX5_drift_50 (by decide) ?_
        refine lv_istore (lv' := [(7, .int (nI 0)), (6, .int seed), (5, .int (nI (w * h))), (4, .ref kv), (0, .ref kx), (1, .int seed), (2, .int (nI n0)), (3, .int a)]) hx hb dX5_drift_51 hl (by decide) rfl (fun ls hl => ?_)
        have hL53 : ∀ k : Nat, ∀ (i : Nat) (s : Int32) (mk3 : Nat → Int32) (ls : Array Slot) (H : Heap) (locs : List Loc), n0 - i = k → (i ≤ n0) → (∀ j, j < 160 → mk3 j = mk2_21 j) → (∀ c, c < 16 → drF (w * h) n0 seed (fun c => mkS af nc fc c la) c = drF (w * h) (n0 - i) s (fun c => mk3 (160 + c)) c) → lv_has ls 9 [(0, .ref kx), (1, .int seed), (2, .int (nI n0)), (3, .int a), (4, .ref kv), (5, .int (nI (w * h))), (6, .int s), (7, .int (nI i))] → xP G [iA G ka 16 af, oC kb 0 [.int (nI w), .int (nI h), .int (nI la), .ref ka, .ref kc, .ref kl, .ref kn], oC kc 2 [.ref kcn, .int (nI 10), .int (nI nc)], iA G kcn (3 * 10) fc, iA G kg 160 sg2_21, iA G km 176 mk3, oC kv 4 [.ref km, .ref kg, .int (nI w), .int (nI h), .int (nI 0)], oC kx 5 [.ref kb, .ref kim, .ref kit, .ref kv, .ref kre, .int tf, .ref ksh, .int rf, .ref kwa, .ref kta]] H → va_D (va_A (w_X5_drift G kx kim kit kre ksh kwa kta tf rf kb ka kc kcn kl kn w h la af nc fc kv km kg vw vh sl mk sg) ss.heap.size) [iA G ka 16 af, oC kb 0 [.int (nI w), .int (nI h), .int (nI la), .ref ka, .ref kc, .ref kl, .ref kn], oC kc 2 [.ref kcn, .int (nI 10), .int (nI nc)], iA G kcn (3 * 10) fc, iA G kg 160 sg2_21, iA G km 176 mk3, oC kv 4 [.ref km, .ref kg, .int (nI w), .int (nI h), .int (nI 0)], oC kx 5 [.ref kb, .ref kim, .ref kit, .ref kv, .ref kre, .int tf, .ref ksh, .int rf, .ref kwa, .ref kta]] → va_S (va_A (w_X5_drift G kx kim kit kre ksh kwa kta tf rf kb ka kc kcn kl kn w h la af nc fc kv km kg vw vh sl mk sg) ss.heap.size) ss.heap H locs → W pp l ee ({ frames := 4, cells := 0, slots := 0, locals := 96 } : Room) ss mm ([.ref kx, .int seed, .int (nI n0), .int a] : List Value).toArray below mt cd H locs 0 0 (MQ below (Q_X5_drift G ss.heap.size kx kim kit kre ksh kwa kta tf rf kb ka kc kcn kl kn w h la af nc fc kv km kg vw vh sl mk sg seed (nI n0) a) ([.ref kx, .int seed, .int (nI n0), .int a] : List Value).toArray ss 0 0 (va_A (w_X5_drift G kx kim kit kre ksh kwa kta tf rf kb ka kc kcn kl kn w h la af nc fc kv km kg vw vh sl mk sg) ss.heap.size)) (F0 mm 53 ls []) := by
          intro k
          induction k using Nat.strongRecOn with
          | _ k ih53 =>
          intro i s mk3 ls H locs hm53 hi hold hdr hl hP hD hS
          refine lv_iload hx hb dX5_drift_53 (lv_at hl 7 rfl) ?_
          refine lv_iload_n hx hb dX5_drift_55 rfl (lv_at hl 2 rfl) ?_
          refine xn_icmp_ge (tgt := 102) hx hb (by omega) (by omega) dX5_drift_56 rfl (fun b56 => ?_) (fun b56 => ?_)
          · skip
            refine lv_iload_n hx hb dX5_drift_102 rfl (lv_at hl 3 rfl) ?_
            refine lv_if_ne (tgt := 117) hx hb dX5_drift_103 rfl (fun b103 => ?_) (fun b103 => ?_)
            · skip
              refine lv_aload hx hb dX5_drift_117 (lv_at hl 4 rfl) ?_
              refine lv_iconst (v := nI 0) hx hb dX5_drift_119 (by decide) ?_
              refine xr_i (As := [.int (nI 0)]) (rest := []) ⟨hx, hb, hml, hown, hts⟩ (c_X4_sightOnSpareDay l G kv km kg w h (nI 0) mk3 0 (by first | assumption | omega) (by first | assumption | omega) (by first | assumption | omega) (by first | assumption | omega) (by first | assumption | omega)) (cwV 1 hts gX5_drift_X4_sightOnSpareDay rfl rfl rfl (by decide +kernel) ⟨Nat.le_of_ble_eq_true rfl, Nat.le_of_ble_eq_true rfl⟩) hK hP hS [6, 5] rfl rfl rfl rfl hl.1 rfl (Nat.le_of_ble_eq_true rfl) dX5_drift_120 ⟨Nat.zero_le _, Nat.zero_le _⟩ (fun r120 H locs hp120 hP hS => ?_)
              rw [show r120 = _ from hp120]
              have hP := hP.sub (ws' := [oC kx 5 [.ref kb, .ref kim, .ref kit, .ref kv, .ref kre, .int tf, .ref ksh, .int rf, .ref kwa, .ref kta], oC kb 0 [.int (nI w), .int (nI h), .int (nI la), .ref ka, .ref kc, .ref kl, .ref kn], iA G ka 16 af, oC kc 2 [.ref kcn, .int (nI 10), .int (nI nc)], iA G kcn (3 * 10) fc, oC kv 4 [.ref km, .ref kg, .int (nI w), .int (nI h), .int (nI 0)], iA G km 176 mk3, iA G kg 160 sg2_21]) [7, 1, 0, 2, 3, 6, 5, 4] rfl
              have hD := hD.sub (ws' := [oC kx 5 [.ref kb, .ref kim, .ref kit, .ref kv, .ref kre, .int tf, .ref ksh, .int rf, .ref kwa, .ref kta], oC kb 0 [.int (nI w), .int (nI h), .int (nI la), .ref ka, .ref kc, .ref kl, .ref kn], iA G ka 16 af, oC kc 2 [.ref kcn, .int (nI 10), .int (nI nc)], iA G kcn (3 * 10) fc, oC kv 4 [.ref km, .ref kg, .int (nI w), .int (nI h), .int (nI 0)], iA G km 176 mk3, iA G kg 160 sg2_21]) [7, 1, 0, 2, 3, 6, 5, 4] (by decide) rfl
              refine W.iret (v := sgF w h (fun c => mk3 (160 + c)) 0) hx hb hr (fun t ht hW => ⟨⟨sgF w h (fun c => mk3 (160 + c)) 0, (mk3, sg2_21, w, h, (nI 0)), rfl, ?_, by rw [ht]; exact hP, hD⟩, hS.F ht⟩) hS.2.2 dX5_drift_123
              try dsimp only
              first | exact ⟨(if_neg (fun q => (show ¬ (1 ≤ n.toInt ∧ n.toInt ≤ 60) by omega) q.1)).symm, hvok⟩ | exact ⟨(if_neg (fun q => b15 q.2)).symm, hvok⟩ | (have hfr : FR w h la af nc fc mk3 sg2_21 := fun d q => ⟨fun c q2 => by rw [hold _ (by omega)]; exact (he21 d q).1 c q2, (he21 d q).2⟩; have hrow : ∀ c, c < 16 → mk3 (160 + c) = drF (w * h) n0 seed (fun c => mkS af nc fc c la) c := fun c q => (by rw [hdr c q, show n0 - i = 0 by omega, drF]); rw [if_pos ⟨by omega, b15⟩, tn_nI (by omega)]; first | (rw [if_pos b103]; exact ⟨xbits_congr _ (fun c q => by rw [← hrow c (by omega)]), VOK_fr hfr⟩) | (rw [if_neg b103]; exact ⟨sgF_congr (by omega) (by omega) (fun c q => hrow c (by omega)), VOK_fr hfr⟩))
            · skip
              refine lv_aload hx hb dX5_drift_106 (lv_at hl 4 rfl) ?_
              refine lv_iconst (v := nI 0) hx hb dX5_drift_108 (by decide) ?_
              refine lv_bipush (v := nI 10) hx hb dX5_drift_109 (by decide) ?_
              refine xr_i (As := [.int (nI 0), .int (nI 10)]) (rest := []) ⟨hx, hb, hml, hown, hts⟩ (c_X4_cellsWith l G kv km kg w h (nI 0) mk3 (nI 0) 10 (by first | assumption | omega) (by first | assumption | omega)) (cwV 2 hts gX5_drift_X4_cellsWith rfl rfl rfl (by decide +kernel) ⟨Nat.le_of_ble_eq_true rfl, Nat.le_of_ble_eq_true rfl⟩) hK hP hS [6, 5] rfl rfl rfl rfl hl.1 rfl (Nat.le_of_ble_eq_true rfl) dX5_drift_111 ⟨Nat.zero_le _, Nat.zero_le _⟩ (fun r111 H locs hp111 hP hS => ?_)
              rw [show r111 = _ from hp111]
              refine lv_goto (tgt := 123) hx hb dX5_drift_114 rfl ?_
              have hP := hP.sub (ws' := [oC kx 5 [.ref kb, .ref kim, .ref kit, .ref kv, .ref kre, .int tf, .ref ksh, .int rf, .ref kwa, .ref kta], oC kb 0 [.int (nI w), .int (nI h), .int (nI la), .ref ka, .ref kc, .ref kl, .ref kn], iA G ka 16 af, oC kc 2 [.ref kcn, .int (nI 10), .int (nI nc)], iA G kcn (3 * 10) fc, oC kv 4 [.ref km, .ref kg, .int (nI w), .int (nI h), .int (nI 0)], iA G km 176 mk3, iA G kg 160 sg2_21]) [7, 1, 0, 2, 3, 6, 5, 4] rfl
              have hD := hD.sub (ws' := [oC kx 5 [.ref kb, .ref kim, .ref kit, .ref kv, .ref kre, .int tf, .ref ksh, .int rf, .ref kwa, .ref kta], oC kb 0 [.int (nI w), .int (nI h), .int (nI la), .ref ka, .ref kc, .ref kl, .ref kn], iA G ka 16 af, oC kc 2 [.ref kcn, .int (nI 10), .int (nI nc)], iA G kcn (3 * 10) fc, oC kv 4 [.ref km, .ref kg, .int (nI w), .int (nI h), .int (nI 0)], iA G km 176 mk3, iA G kg 160 sg2_21]) [7, 1, 0, 2, 3, 6, 5, 4] (by decide) rfl
              refine W.iret (v := xbits (fun c => decide (mk3 (10 * 16 + c) = (nI 0))) (w * h)) hx hb hr (fun t ht hW => ⟨⟨xbits (fun c => decide (mk3 (10 * 16 + c) = (nI 0))) (w * h), (mk3, sg2_21, w, h, (nI 0)), rfl, ?_, by rw [ht]; exact hP, hD⟩, hS.F ht⟩) hS.2.2 dX5_drift_123
              try dsimp only
              first | exact ⟨(if_neg (fun q => (show ¬ (1 ≤ n.toInt ∧ n.toInt ≤ 60) by omega) q.1)).symm, hvok⟩ | exact ⟨(if_neg (fun q => b15 q.2)).symm, hvok⟩ | (have hfr : FR w h la af nc fc mk3 sg2_21 := fun d q => ⟨fun c q2 => by rw [hold _ (by omega)]; exact (he21 d q).1 c q2, (he21 d q).2⟩; have hrow : ∀ c, c < 16 → mk3 (160 + c) = drF (w * h) n0 seed (fun c => mkS af nc fc c la) c := fun c q => (by rw [hdr c q, show n0 - i = 0 by omega, drF]); rw [if_pos ⟨by omega, b15⟩, tn_nI (by omega)]; first | (rw [if_pos b103]; exact ⟨xbits_congr _ (fun c q => by rw [← hrow c (by omega)]), VOK_fr hfr⟩) | (rw [if_neg b103]; exact ⟨sgF_congr (by omega) (by omega) (fun c q => hrow c (by omega)), VOK_fr hfr⟩))
          · skip
            refine lv_iload hx hb dX5_drift_59 (lv_at hl 6 rfl) ?_
            refine xs_i (As := [.int s]) (rest := []) ⟨hx, hb, hml, hown, hts⟩ (c_X5_nextSeed_n l G s ) (va_cwS 1 hts gX5_drift_X5_nextSeed rfl rfl rfl (by decide +kernel) ⟨Nat.le_of_ble_eq_true rfl, Nat.le_of_ble_eq_true rfl⟩) hP hS rfl hl.1 rfl (Nat.le_of_ble_eq_true rfl) dX5_drift_61 ⟨Nat.zero_le _, Nat.zero_le _⟩ (fun r61 H locs hp61 hP hS => ?_)
            rw [show r61 = _ from hp61]
            refine lv_istore (lv' := [(6, .int (nxD s)), (0, .ref kx), (1, .int seed), (2, .int (nI n0)), (3, .int a), (4, .ref kv), (5, .int (nI (w * h))), (7, .int (nI i))]) hx hb dX5_drift_64 hl (by decide) rfl (fun ls hl => ?_)
            refine lv_iload hx hb dX5_drift_66 (lv_at hl 0 rfl) ?_
            refine lv_iload hx hb dX5_drift_68 (lv_at hl 6 rfl) ?_
            refine xs_i (As := [.int (nxD s), .int (nI (w * h))]) (rest := []) ⟨hx, hb, hml, hown, hts⟩ (c_X5_drawn l G (nxD s) (w * h) (by first | assumption | omega) (by first | assumption | omega)) (va_cwS 2 hts gX5_drift_X5_drawn rfl rfl rfl (by decide +kernel) ⟨Nat.le_of_ble_eq_true rfl, Nat.le_of_ble_eq_true rfl⟩) hP hS rfl hl.1 rfl (Nat.le_of_ble_eq_true rfl) dX5_drift_70 ⟨Nat.zero_le _, Nat.zero_le _⟩ (fun r70 H locs hp70 hP hS => ?_)
            rw [show r70 = _ from hp70]
            have hdm := Nat.mod_lt (drw (nxD s)) (show 0 < w * h by omega)
            refine lv_istore (lv' := [(8, .int (nI (drw (nxD s) % (w * h)))), (6, .int (nxD s)), (0, .ref kx), (1, .int seed), (2, .int (nI n0)), (3, .int a), (4, .ref kv), (5, .int (nI (w * h))), (7, .int (nI i))]) hx hb dX5_drift_73 hl (by decide) rfl (fun ls hl => ?_)
            refine lv_iload hx hb dX5_drift_75 (lv_at hl 1 rfl) ?_
            refine xs_i (As := [.int (nxD s)]) (rest := []) ⟨hx, hb, hml, hown, hts⟩ (c_X5_nextSeed_n l G (nxD s) ) (va_cwS 1 hts gX5_drift_X5_nextSeed rfl rfl rfl (by decide +kernel) ⟨Nat.le_of_ble_eq_true rfl, Nat.le_of_ble_eq_true rfl⟩) hP hS rfl hl.1 rfl (Nat.le_of_ble_eq_true rfl) dX5_drift_77 ⟨Nat.zero_le _, Nat.zero_le _⟩ (fun r77 H locs hp77 hP hS => ?_)
            rw [show r77 = _ from hp77]
            refine lv_istore (lv' := [(6, .int (nxD (nxD s))), (8, .int (nI (drw (nxD s) % (w * h)))), (0, .ref kx), (1, .int seed), (2, .int (nI n0)), (3, .int a), (4, .ref kv), (5, .int (nI (w * h))), (7, .int (nI i))]) hx hb dX5_drift_80 hl (by decide) rfl (fun ls hl => ?_)
            refine lv_aload hx hb dX5_drift_82 (lv_at hl 6 rfl) ?_
            refine lv_iload hx hb dX5_drift_84 (lv_at hl 1 rfl) ?_
            refine lv_iload hx hb dX5_drift_86 (lv_at hl 0 rfl) ?_
            refine lv_bipush (v := nI 6) hx hb dX5_drift_88 (by decide) ?_
            refine xs_i (As := [.int (nxD (nxD s)), .int (nI 6)]) (rest := [.int (nI (drw (nxD s) % (w * h))), .ref kv]) ⟨hx, hb, hml, hown, hts⟩ (c_X5_drawn l G (nxD (nxD s)) 6 (by first | assumption | omega) (by first | assumption | omega)) (va_cwS 2 hts gX5_drift_X5_drawn rfl rfl rfl (by decide +kernel) ⟨Nat.le_of_ble_eq_true rfl, Nat.le_of_ble_eq_true rfl⟩) hP hS rfl hl.1 rfl (Nat.le_of_ble_eq_true rfl) dX5_drift_90 ⟨Nat.zero_le _, Nat.zero_le _⟩ (fun r90 H locs hp90 hP hS => ?_)
            rw [show r90 = _ from hp90]
            have hdm2 := Nat.mod_lt (drw (nxD (nxD s))) (show 0 < 6 by omega)
            refine xw_v (As := [.int (nI (drw (nxD s) % (w * h))), .int (nI (drw (nxD (nxD s)) % 6))]) (rest := []) (wr := [iA G ka 16 af, oC kb 0 [.int (nI w), .int (nI h), .int (nI la), .ref ka, .ref kc, .ref kl, .ref kn], oC kc 2 [.ref kcn, .int (nI 10), .int (nI nc)], iA G kcn (3 * 10) fc, iA G kg 160 sg2_21, oC kx 5 [.ref kb, .ref kim, .ref kit, .ref kv, .ref kre, .int tf, .ref ksh, .int rf, .ref kwa, .ref kta]]) ⟨hx, hb, hml, hown, hts⟩ (c_X4_markOnSpareDay l G H.size kv km kg w h (nI 0) mk3 (drw (nxD s) % (w * h)) (nI (drw (nxD (nxD s)) % 6)) (by omega)) (cwV 2 hts gX5_drift_X4_markOnSpareDay rfl rfl rfl (by decide +kernel) ⟨Nat.le_of_ble_eq_true rfl, Nat.le_of_ble_eq_true rfl⟩) hK hP hD hS hA [6, 5] [0, 1, 2, 3, 4, 7] rfl rfl (by decide) (by decide) (by decide) rfl rfl rfl hl.1 rfl (Nat.le_of_ble_eq_true rfl) dX5_drift_93 ⟨Nat.le_of_ble_eq_true rfl, Nat.le_of_ble_eq_true rfl⟩ (fun u H locs hp93 hP hD hS => ?_)
            obtain ⟨u0_93, rfl⟩ : ∃ z, z = u := ⟨_, rfl⟩
            try dsimp only at hp93 hP hD
            obtain rfl := hp93
            replace hP : xP G [iA G ka 16 af, oC kb 0 [.int (nI w), .int (nI h), .int (nI la), .ref ka, .ref kc, .ref kl, .ref kn], oC kc 2 [.ref kcn, .int (nI 10), .int (nI nc)], iA G kcn (3 * 10) fc, iA G kg 160 sg2_21, oC kx 5 [.ref kb, .ref kim, .ref kit, .ref kv, .ref kre, .int tf, .ref ksh, .int rf, .ref kwa, .ref kta], oC kv 4 [.ref km, .ref kg, .int (nI w), .int (nI h), .int (nI 0)], iA G km 176 (upd mk3 (160 + (drw (nxD s) % (w * h))) (nI (drw (nxD (nxD s)) % 6)))] H := hP
            replace hD : va_D (va_A (w_X5_drift G kx kim kit kre ksh kwa kta tf rf kb ka kc kcn kl kn w h la af nc fc kv km kg vw vh sl mk sg) ss.heap.size) [iA G ka 16 af, oC kb 0 [.int (nI w), .int (nI h), .int (nI la), .ref ka, .ref kc, .ref kl, .ref kn], oC kc 2 [.ref kcn, .int (nI 10), .int (nI nc)], iA G kcn (3 * 10) fc, iA G kg 160 sg2_21, oC kx 5 [.ref kb, .ref kim, .ref kit, .ref kv, .ref kre, .int tf, .ref ksh, .int rf, .ref kwa, .ref kta], oC kv 4 [.ref km, .ref kg, .int (nI w), .int (nI h), .int (nI 0)], iA G km 176 (upd mk3 (160 + (drw (nxD s) % (w * h))) (nI (drw (nxD (nxD s)) % 6)))] := hD
            refine lv_iinc (k := 8) (v := nI (i + 1)) (lv' := [(7, .int (nI (i + 1))), (6, .int (nxD (nxD s))), (8, .int (nI (drw (nxD s) % (w * h)))), (0, .ref kx), (1, .int seed), (2, .int (nI n0)), (3, .int a), (4, .ref kv), (5, .int (nI (w * h)))]) hx hb dX5_drift_96 hl rfl (xn_inc i 1) (by decide) rfl (fun ls hl => ?_)
            refine lv_goto (tgt := 53) hx hb dX5_drift_99 rfl ?_
            have hl := lv_sub hl (l' := [(0, .ref kx), (1, .int seed), (2, .int (nI n0)), (3, .int a), (4, .ref kv), (5, .int (nI (w * h))), (6, .int (nxD (nxD s))), (7, .int (nI (i + 1)))]) [3, 4, 5, 6, 7, 8, 1, 0] rfl
            have hP := hP.sub (ws' := [iA G ka 16 af, oC kb 0 [.int (nI w), .int (nI h), .int (nI la), .ref ka, .ref kc, .ref kl, .ref kn], oC kc 2 [.ref kcn, .int (nI 10), .int (nI nc)], iA G kcn (3 * 10) fc, iA G kg 160 sg2_21, iA G km 176 (upd mk3 (160 + (drw (nxD s) % (w * h))) (nI (drw (nxD (nxD s)) % 6))), oC kv 4 [.ref km, .ref kg, .int (nI w), .int (nI h), .int (nI 0)], oC kx 5 [.ref kb, .ref kim, .ref kit, .ref kv, .ref kre, .int tf, .ref ksh, .int rf, .ref kwa, .ref kta]]) [0, 1, 2, 3, 4, 7, 6, 5] rfl
            have hD := hD.sub (ws' := [iA G ka 16 af, oC kb 0 [.int (nI w), .int (nI h), .int (nI la), .ref ka, .ref kc, .ref kl, .ref kn], oC kc 2 [.ref kcn, .int (nI 10), .int (nI nc)], iA G kcn (3 * 10) fc, iA G kg 160 sg2_21, iA G km 176 (upd mk3 (160 + (drw (nxD s) % (w * h))) (nI (drw (nxD (nxD s)) % 6))), oC kv 4 [.ref km, .ref kg, .int (nI w), .int (nI h), .int (nI 0)], oC kx 5 [.ref kb, .ref kim, .ref kit, .ref kv, .ref kre, .int tf, .ref ksh, .int rf, .ref kwa, .ref kta]]) [0, 1, 2, 3, 4, 7, 6, 5] (by decide) rfl
            exact ih53 (n0 - (i + 1)) (by omega) (i + 1) (nxD (nxD s)) (upd mk3 (160 + (drw (nxD s) % (w * h))) (nI (drw (nxD (nxD s)) % 6))) ls H locs rfl (by omega) (by intro j hj; unfold upd; rw [if_neg (by omega)]; exact hold j hj) (by intro c hc; rw [hdr c hc, show n0 - i = (n0 - (i + 1)) + 1 by omega, drF]; exact drF_congr _ _ (fun c hc => by unfold upd; by_cases hq : c = drw (nxD s) % (w * h); (rw [if_pos hq, if_pos (by omega)]); (rw [if_neg hq, if_neg (by omega)])) c hc) hl hP hD hS
        have hl := lv_sub hl (l' := [(0, .ref kx), (1, .int seed), (2, .int (nI n0)), (3, .int a), (4, .ref kv), (5, .int (nI (w * h))), (6, .int seed), (7, .int (nI 0))]) [4, 5, 6, 7, 3, 2, 1, 0] rfl
        have hP := hP.sub (ws' := [iA G ka 16 af, oC kb 0 [.int (nI w), .int (nI h), .int (nI la), .ref ka, .ref kc, .ref kl, .ref kn], oC kc 2 [.ref kcn, .int (nI 10), .int (nI nc)], iA G kcn (3 * 10) fc, iA G kg 160 sg2_21, iA G km 176 (va_cpy mk2_21 mk2_21 (la * 16) 160 16), oC kv 4 [.ref km, .ref kg, .int (nI w), .int (nI h), .int (nI 0)], oC kx 5 [.ref kb, .ref kim, .ref kit, .ref kv, .ref kre, .int tf, .ref ksh, .int rf, .ref kwa, .ref kta]]) [2, 1, 3, 4, 5, 7, 6, 0] rfl
        have hD := hD.sub (ws' := [iA G ka 16 af, oC kb 0 [.int (nI w), .int (nI h), .int (nI la), .ref ka, .ref kc, .ref kl, .ref kn], oC kc 2 [.ref kcn, .int (nI 10), .int (nI nc)], iA G kcn (3 * 10) fc, iA G kg 160 sg2_21, iA G km 176 (va_cpy mk2_21 mk2_21 (la * 16) 160 16), oC kv 4 [.ref km, .ref kg, .int (nI w), .int (nI h), .int (nI 0)], oC kx 5 [.ref kb, .ref kim, .ref kit, .ref kv, .ref kre, .int tf, .ref ksh, .int rf, .ref kwa, .ref kta]]) [2, 1, 3, 4, 5, 7, 6, 0] (by decide) rfl
        exact hL53 (n0 - 0) 0 seed (va_cpy mk2_21 mk2_21 (la * 16) 160 16) ls H locs rfl (by omega) (by intro j hj; unfold va_cpy; rw [if_neg (by omega)]) (by intro c hc; exact drF_congr _ _ (fun c hc => by unfold va_cpy; rw [if_pos (by omega), show la * 16 + (160 + c - 160) = la * 16 + c by omega]; exact ((he21 la (by omega)).1 c hc).symm) c hc) hl hP hD hS
      · skip
        refine lv_iconst (v := (-1)) hx hb dX5_drift_18 (by decide) ?_
        have hP := hP.sub (ws' := [oC kx 5 [.ref kb, .ref kim, .ref kit, .ref kv, .ref kre, .int tf, .ref ksh, .int rf, .ref kwa, .ref kta], oC kb 0 [.int (nI w), .int (nI h), .int (nI la), .ref ka, .ref kc, .ref kl, .ref kn], iA G ka 16 af, oC kc 2 [.ref kcn, .int (nI 10), .int (nI nc)], iA G kcn (3 * 10) fc, oC kv 4 [.ref km, .ref kg, .int (nI vw), .int (nI vh), .int sl], iA G km 176 mk, iA G kg 160 sg]) [0, 1, 2, 3, 4, 5, 6, 7] rfl
        have hD := hD.sub (ws' := [oC kx 5 [.ref kb, .ref kim, .ref kit, .ref kv, .ref kre, .int tf, .ref ksh, .int rf, .ref kwa, .ref kta], oC kb 0 [.int (nI w), .int (nI h), .int (nI la), .ref ka, .ref kc, .ref kl, .ref kn], iA G ka 16 af, oC kc 2 [.ref kcn, .int (nI 10), .int (nI nc)], iA G kcn (3 * 10) fc, oC kv 4 [.ref km, .ref kg, .int (nI vw), .int (nI vh), .int sl], iA G km 176 mk, iA G kg 160 sg]) [0, 1, 2, 3, 4, 5, 6, 7] (by decide) rfl
        refine W.iret (v := (-1)) hx hb hr (fun t ht hW => ⟨⟨(-1), (mk, sg, vw, vh, sl), rfl, ?_, by rw [ht]; exact hP, hD⟩, hS.F ht⟩) hS.2.2 dX5_drift_19
        try dsimp only
        first | exact ⟨(if_neg (fun q => (show ¬ (1 ≤ n.toInt ∧ n.toInt ≤ 60) by omega) q.1)).symm, hvok⟩ | exact ⟨(if_neg (fun q => b15 q.2)).symm, hvok⟩ | (have hfr : FR w h la af nc fc mk3 sg2_21 := fun d q => ⟨fun c q2 => by rw [hold _ (by omega)]; exact (he21 d q).1 c q2, (he21 d q).2⟩; have hrow : ∀ c, c < 16 → mk3 (160 + c) = drF (w * h) n0 seed (fun c => mkS af nc fc c la) c := fun c q => (by rw [hdr c q, show n0 - i = 0 by omega, drF]); rw [if_pos ⟨by omega, b15⟩, tn_nI (by omega)]; first | (rw [if_pos b103]; exact ⟨xbits_congr _ (fun c q => by rw [← hrow c (by omega)]), VOK_fr hfr⟩) | (rw [if_neg b103]; exact ⟨sgF_congr (by omega) (by omega) (fun c q => hrow c (by omega)), VOK_fr hfr⟩))

abbrev w_X5_since (G : XG) (kx kim kit kre ksh kwa kta : Nat) (tf rf : Int32) (kb ka kc kcn kl kn : Nat) (w h la : Nat) (af : Nat → Int32) (nc : Nat) (fc : Nat → Int32) (kv km kg : Nat) (vw vh : Nat) (sl : Int32) (mk sg : Nat → Int32) : va_W := [oC kx 5 [.ref kb, .ref kim, .ref kit, .ref kv, .ref kre, .int tf, .ref ksh, .int rf, .ref kwa, .ref kta], oC kb 0 [.int (nI w), .int (nI h), .int (nI la), .ref ka, .ref kc, .ref kl, .ref kn], iA G ka 16 af, oC kc 2 [.ref kcn, .int (nI 10), .int (nI nc)], iA G kcn (3 * 10) fc, oC kv 4 [.ref km, .ref kg, .int (nI vw), .int (nI vh), .int sl], iA G km 176 mk, iA G kg 160 sg]
abbrev Q_X5_since (G : XG) (sz : Nat) (kx kim kit kre ksh kwa kta : Nat) (tf rf : Int32) (kb ka kc kcn kl kn : Nat) (w h la : Nat) (af : Nat → Int32) (nc : Nat) (fc : Nat → Int32) (kv km kg : Nat) (vw vh : Nat) (sl : Int32) (mk sg : Nat → Int32) (c d a : Int32) : Array Value → State → Outcome → State → Prop := (va_Qi (fun (r : Int32) (u : (Nat → Int32) × (Nat → Int32) × Nat × Nat × Int32) => r = (if inR c (w * h) ∧ inR d (la + 1) ∧ inR a 2 then (if a = 0 then nI (sinDn (fun e => decide (mkS af nc fc (tn c) e = mkS af nc fc (tn c) (tn d))) (tn d)) else nI (sinUp (fun e => decide (mkS af nc fc (tn c) e = mkS af nc fc (tn c) (tn d))) (la - tn d) (tn d))) else (-1)) ∧ VOK w h la af nc fc u.1 u.2.1 u.2.2.1 u.2.2.2.1 u.2.2.2.2) (xWb G sz (w_X5_since G kx kim kit kre ksh kwa kta tf rf kb ka kc kcn kl kn w h la af nc fc kv km kg vw vh sl mk sg) (fun u : (Nat → Int32) × (Nat → Int32) × Nat × Nat × Int32 => [oC kx 5 [.ref kb, .ref kim, .ref kit, .ref kv, .ref kre, .int tf, .ref ksh, .int rf, .ref kwa, .ref kta], oC kb 0 [.int (nI w), .int (nI h), .int (nI la), .ref ka, .ref kc, .ref kl, .ref kn], iA G ka 16 af, oC kc 2 [.ref kcn, .int (nI 10), .int (nI nc)], iA G kcn (3 * 10) fc, oC kv 4 [.ref km, .ref kg, .int (nI u.2.2.1), .int (nI u.2.2.2.1), .int u.2.2.2.2], iA G km 176 u.1, iA G kg 160 u.2.1])) (va_A (w_X5_since G kx kim kit kre ksh kwa kta tf rf kb ka kc kcn kl kn w h la af nc fc kv km kg vw vh sl mk sg) sz))
set_option maxHeartbeats 4000000 in
set_option maxRecDepth 100000 in
theorem c_X5_since (l : Launch) (G : XG) (sz : Nat) (kx kim kit kre ksh kwa kta : Nat) (tf rf : Int32) (kb ka kc kcn kl kn : Nat) (w h la : Nat) (af : Nat → Int32) (nc : Nat) (fc : Nat → Int32) (kv km kg : Nat) (vw vh : Nat) (sl : Int32) (mk sg : Nat → Int32) (c d a : Int32) (hw : 1 ≤ w) (hwb : w ≤ 16) (hhb : h ≤ 16) (hwh : w * h ≤ 16) (hla : la ≤ 9) (hnc : nc ≤ 10) (hcell : ∀ i, i < nc → inR (fc (3 * i + 1)) 16) (hvok : VOK w h la af nc fc mk sg vw vh sl) : Met l yX5_since wsX5_since ({ frames := 4, cells := 0, slots := 0, locals := 96 } : Room) (va_Pc [.ref kx, .int c, .int d, .int a] (xWp G sz (w_X5_since G kx kim kit kre ksh kwa kta tf rf kb ka kc kcn kl kn w h la af nc fc kv km kg vw vh sl mk sg))) (Q_X5_since G sz kx kim kit kre ksh kwa kta tf rf kb ka kc kcn kl kn w h la af nc fc kv km kg vw vh sl mk sg c d a) 0 0 (va_A (w_X5_since G kx kim kit kre ksh kwa kta tf rf kb ka kc kcn kl kn w h la af nc fc kv km kg vw vh sl mk sg) sz) := by
  refine Met.ofW (cc := cX5_since) (maxL := 9) (ret := (some .int)) (by decide) rfl ?_
  intro pp ee ss mm aa below mt cd s₁ BB hml hv
  obtain ⟨rfl, hsz, hP, hK, hD0⟩ := hv
  have hx := BB.exec
  have hb := BB.bytes
  have hr := BB.returns
  have hts := atoms_spec (ws := wsX5_since) BB.pre
  have hown : ss.vm.findClass RX5 = some mm.cls := findClass_of_methodNamed BB.named
  have hlocks := BB.notSynchronized
  subst hsz
  have hD := hD0.self (sz := ss.heap.size)
  have hA : ∀ q : Nat, ss.heap.size ≤ q → va_A (w_X5_since G kx kim kit kre ksh kwa kta tf rf kb ka kc kcn kl kn w h la af nc fc kv km kg vw vh sl mk sg) ss.heap.size q := fun q h => Or.inr h
  have hS : va_S (va_A (w_X5_since G kx kim kit kre ksh kwa kta tf rf kb ka kc kcn kl kn w h la af nc fc kv km kg vw vh sl mk sg) ss.heap.size) ss.heap ss.heap [] := va_S.rf
  replace hD : va_D (va_A (w_X5_since G kx kim kit kre ksh kwa kta tf rf kb ka kc kcn kl kn w h la af nc fc kv km kg vw vh sl mk sg) ss.heap.size) [oC kx 5 [.ref kb, .ref kim, .ref kit, .ref kv, .ref kre, .int tf, .ref ksh, .int rf, .ref kwa, .ref kta], oC kb 0 [.int (nI w), .int (nI h), .int (nI la), .ref ka, .ref kc, .ref kl, .ref kn], iA G ka 16 af, oC kc 2 [.ref kcn, .int (nI 10), .int (nI nc)], iA G kcn (3 * 10) fc, oC kv 4 [.ref km, .ref kg, .int (nI vw), .int (nI vh), .int sl], iA G km 176 mk, iA G kg 160 sg] := hD
  replace hP : xP G [oC kx 5 [.ref kb, .ref kim, .ref kit, .ref kv, .ref kre, .int tf, .ref ksh, .int rf, .ref kwa, .ref kta], oC kb 0 [.int (nI w), .int (nI h), .int (nI la), .ref ka, .ref kc, .ref kl, .ref kn], iA G ka 16 af, oC kc 2 [.ref kcn, .int (nI 10), .int (nI nc)], iA G kcn (3 * 10) fc, oC kv 4 [.ref km, .ref kg, .int (nI vw), .int (nI vh), .int sl], iA G km 176 mk, iA G kg 160 sg] ss.heap := hP
  have hin0 : ∀ w ∈ u_ws RX0 TX0 7, w ∈ wsX5_since := fun w h => List.mem_cons_of_mem _ (List.mem_append_left _ (List.mem_append_left _ (List.mem_append_right _ h)))
  have hin2 : ∀ w ∈ u_ws RX2 TX2 3, w ∈ wsX5_since := fun w h => List.mem_cons_of_mem _ (List.mem_append_right _ h)
  have hin4 : ∀ w ∈ u_ws RX4 TX4 5, w ∈ wsX5_since := fun w h => List.mem_cons_of_mem _ (List.mem_append_left _ (List.mem_append_right _ h))
  have hin5 : ∀ w ∈ u_ws RX5 TX5 10, w ∈ wsX5_since := fun w h => List.mem_cons_of_mem _ (List.mem_append_left _ (List.mem_append_left _ (List.mem_append_left _ (List.mem_append_right _ h))))
  have hl := lv_entry ([.ref kx, .int c, .int d, .int a]) (n := 9) (Nat.le_of_ble_eq_true rfl)
  rw [lg_entry_eq]
  generalize (lg_sl ([.ref kx, .int c, .int d, .int a]) ++ List.replicate (9 - (lg_sl ([.ref kx, .int c, .int d, .int a])).length) Slot.unset).toArray = ls at hl ⊢
  replace hl : lv_has ls 9 [(0, .ref kx), (1, .int c), (2, .int d), (3, .int a)] := hl
  refine lv_aload_n hx hb dX5_since_0 rfl (lv_at hl 0 rfl) ?_
  refine va_get (D := G.1) (ci := 5) (v := .ref kb) (C := RX5) (T := TX5) (N := 10) hx hb hts hin5 hown hK.1 hP 0 rfl rfl 0 (by decide) (hts (.fieldLink RX5 10 "BackLenses" "book" "LBackLenses$Book;") (List.mem_of_getElem? (i := 1) rfl)) (fun _ h9 => h9) rfl dX5_since_1 ?_
  refine lv_iload_n hx hb dX5_since_4 rfl (lv_at hl 1 rfl) ?_
  refine xr_i (As := [.int c]) (rest := []) ⟨hx, hb, hml, hown, hts⟩ (c_X0_hasCell l G kb ka kc kl kn w h la c (by first | assumption | omega)) (cwV 1 hts gX5_since_X0_hasCell rfl rfl rfl (by decide +kernel) ⟨Nat.le_of_ble_eq_true rfl, Nat.le_of_ble_eq_true rfl⟩) hK hP hS [1] rfl rfl rfl rfl hl.1 rfl (Nat.le_of_ble_eq_true rfl) dX5_since_5 ⟨Nat.zero_le _, Nat.zero_le _⟩ (fun r5 H locs hp5 hP hS => ?_)
  rw [show r5 = _ from hp5]
  refine xb_if_eq (tgt := 29) hx hb dX5_since_8 rfl (fun b8 => ?_) (fun b8 => ?_)
  · skip
    refine lv_iconst (v := (-1)) hx hb dX5_since_29 (by decide) ?_
    have hP := hP.sub (ws' := [oC kx 5 [.ref kb, .ref kim, .ref kit, .ref kv, .ref kre, .int tf, .ref ksh, .int rf, .ref kwa, .ref kta], oC kb 0 [.int (nI w), .int (nI h), .int (nI la), .ref ka, .ref kc, .ref kl, .ref kn], iA G ka 16 af, oC kc 2 [.ref kcn, .int (nI 10), .int (nI nc)], iA G kcn (3 * 10) fc, oC kv 4 [.ref km, .ref kg, .int (nI vw), .int (nI vh), .int sl], iA G km 176 mk, iA G kg 160 sg]) [0, 1, 2, 3, 4, 5, 6, 7] rfl
    have hD := hD.sub (ws' := [oC kx 5 [.ref kb, .ref kim, .ref kit, .ref kv, .ref kre, .int tf, .ref ksh, .int rf, .ref kwa, .ref kta], oC kb 0 [.int (nI w), .int (nI h), .int (nI la), .ref ka, .ref kc, .ref kl, .ref kn], iA G ka 16 af, oC kc 2 [.ref kcn, .int (nI 10), .int (nI nc)], iA G kcn (3 * 10) fc, oC kv 4 [.ref km, .ref kg, .int (nI vw), .int (nI vh), .int sl], iA G km 176 mk, iA G kg 160 sg]) [0, 1, 2, 3, 4, 5, 6, 7] (by decide) rfl
    refine W.iret (v := (-1)) hx hb hr (fun t ht hW => ⟨⟨(-1), (mk, sg, vw, vh, sl), rfl, ?_, by rw [ht]; exact hP, hD⟩, hS.F ht⟩) hS.2.2 dX5_since_30
    try dsimp only
    first | exact ⟨(if_neg (fun q => b8 q.1)).symm, hvok⟩ | exact ⟨(if_neg (fun q => b19 q.2.1)).symm, hvok⟩ | exact ⟨(if_neg (fun q => b26 q.2.2)).symm, hvok⟩ | (exfalso; omega) | (have hok : inR (nI c0) (w * h) ∧ inR (nI d0) (la + 1) ∧ inR a 2 := ⟨inR_nI hc0 (by omega), inR_nI hd0 (by omega), b26⟩; rw [if_pos hok, tn_nI (by omega), tn_nI (by omega)]; refine ⟨?_, VOK_fr he32⟩; first | (rw [if_pos b47, hsin]; first | (rw [hrz]; rfl) | (obtain ⟨r2, rfl⟩ : ∃ z, rc = z + 1 := ⟨rc - 1, by omega⟩; rw [sinDn]; exact congrArg nI (if_neg (fun q => b93 (of_decide_eq_true q))).symm)) | (rw [if_neg b47, hsin]; first | (rw [show la - rc = 0 by omega]; rfl) | (rw [show la - rc = (la - (rc + 1)) + 1 by omega, sinUp, if_neg (by rw [decide_eq_false b93]; decide)])))
  · skip
    refine lv_aload_n hx hb dX5_since_11 rfl (lv_at hl 0 rfl) ?_
    refine va_get (D := G.1) (ci := 5) (v := .ref kb) (C := RX5) (T := TX5) (N := 10) hx hb hts hin5 hown hK.1 hP 0 rfl rfl 0 (by decide) (hts (.fieldLink RX5 10 "BackLenses" "book" "LBackLenses$Book;") (List.mem_of_getElem? (i := 1) rfl)) (fun _ h9 => h9) rfl dX5_since_12 ?_
    refine lv_iload_n hx hb dX5_since_15 rfl (lv_at hl 2 rfl) ?_
    refine xr_i (As := [.int d]) (rest := []) ⟨hx, hb, hml, hown, hts⟩ (c_X0_hasDay l G kb ka kc kl kn w h la d (by first | assumption | omega)) (cwV 1 hts gX5_since_X0_hasDay rfl rfl rfl (by decide +kernel) ⟨Nat.le_of_ble_eq_true rfl, Nat.le_of_ble_eq_true rfl⟩) hK hP hS [1] rfl rfl rfl rfl hl.1 rfl (Nat.le_of_ble_eq_true rfl) dX5_since_16 ⟨Nat.zero_le _, Nat.zero_le _⟩ (fun r16 H locs hp16 hP hS => ?_)
    rw [show r16 = _ from hp16]
    refine xb_if_eq (tgt := 29) hx hb dX5_since_19 rfl (fun b19 => ?_) (fun b19 => ?_)
    · skip
      refine lv_iconst (v := (-1)) hx hb dX5_since_29 (by decide) ?_
      have hP := hP.sub (ws' := [oC kx 5 [.ref kb, .ref kim, .ref kit, .ref kv, .ref kre, .int tf, .ref ksh, .int rf, .ref kwa, .ref kta], oC kb 0 [.int (nI w), .int (nI h), .int (nI la), .ref ka, .ref kc, .ref kl, .ref kn], iA G ka 16 af, oC kc 2 [.ref kcn, .int (nI 10), .int (nI nc)], iA G kcn (3 * 10) fc, oC kv 4 [.ref km, .ref kg, .int (nI vw), .int (nI vh), .int sl], iA G km 176 mk, iA G kg 160 sg]) [0, 1, 2, 3, 4, 5, 6, 7] rfl
      have hD := hD.sub (ws' := [oC kx 5 [.ref kb, .ref kim, .ref kit, .ref kv, .ref kre, .int tf, .ref ksh, .int rf, .ref kwa, .ref kta], oC kb 0 [.int (nI w), .int (nI h), .int (nI la), .ref ka, .ref kc, .ref kl, .ref kn], iA G ka 16 af, oC kc 2 [.ref kcn, .int (nI 10), .int (nI nc)], iA G kcn (3 * 10) fc, oC kv 4 [.ref km, .ref kg, .int (nI vw), .int (nI vh), .int sl], iA G km 176 mk, iA G kg 160 sg]) [0, 1, 2, 3, 4, 5, 6, 7] (by decide) rfl
      refine W.iret (v := (-1)) hx hb hr (fun t ht hW => ⟨⟨(-1), (mk, sg, vw, vh, sl), rfl, ?_, by rw [ht]; exact hP, hD⟩, hS.F ht⟩) hS.2.2 dX5_since_30
      try dsimp only
      first | exact ⟨(if_neg (fun q => b8 q.1)).symm, hvok⟩ | exact ⟨(if_neg (fun q => b19 q.2.1)).symm, hvok⟩ | exact ⟨(if_neg (fun q => b26 q.2.2)).symm, hvok⟩ | (exfalso; omega) | (have hok : inR (nI c0) (w * h) ∧ inR (nI d0) (la + 1) ∧ inR a 2 := ⟨inR_nI hc0 (by omega), inR_nI hd0 (by omega), b26⟩; rw [if_pos hok, tn_nI (by omega), tn_nI (by omega)]; refine ⟨?_, VOK_fr he32⟩; first | (rw [if_pos b47, hsin]; first | (rw [hrz]; rfl) | (obtain ⟨r2, rfl⟩ : ∃ z, rc = z + 1 := ⟨rc - 1, by omega⟩; rw [sinDn]; exact congrArg nI (if_neg (fun q => b93 (of_decide_eq_true q))).symm)) | (rw [if_neg b47, hsin]; first | (rw [show la - rc = 0 by omega]; rfl) | (rw [show la - rc = (la - (rc + 1)) + 1 by omega, sinUp, if_neg (by rw [decide_eq_false b93]; decide)])))
    · skip
      refine lv_iload_n hx hb dX5_since_22 rfl (lv_at hl 3 rfl) ?_
      refine xs_i (As := [.int a]) (rest := []) ⟨hx, hb, hml, hown, hts⟩ (c_X5_isChoice l G a ) (va_cwS 1 hts gX5_since_X5_isChoice rfl rfl rfl (by decide +kernel) ⟨Nat.le_of_ble_eq_true rfl, Nat.le_of_ble_eq_true rfl⟩) hP hS rfl hl.1 rfl (Nat.le_of_ble_eq_true rfl) dX5_since_23 ⟨Nat.zero_le _, Nat.zero_le _⟩ (fun r23 H locs hp23 hP hS => ?_)
      rw [show r23 = _ from hp23]
      refine xb_if_ne (tgt := 31) hx hb dX5_since_26 rfl (fun b26 => ?_) (fun b26 => ?_)
      · skip
        obtain ⟨c0, hc0, rfl⟩ := inR_nat b8
        obtain ⟨d0, hd0, rfl⟩ := inR_nat b19
        refine lv_aload_n hx hb dX5_since_31 rfl (lv_at hl 0 rfl) ?_
        refine xw_r (As := []) (rest := []) (wr := []) ⟨hx, hb, hml, hown, hts⟩ (c_X5_freshViews l G H.size kx kim kit kre ksh kwa kta tf rf kb ka kc kcn kl kn w h la af nc fc kv km kg vw vh sl mk sg (by first | assumption | omega) (by first | assumption | omega) (by first | assumption | omega) (by first | assumption | omega) (by first | assumption | omega) (by first | assumption | omega) (by first | assumption | omega) (by first | assumption | omega)) (cwV 0 hts gX5_since_X5_freshViews rfl rfl rfl (by decide +kernel) ⟨Nat.le_of_ble_eq_true rfl, Nat.le_of_ble_eq_true rfl⟩) hK hP hD hS hA [0, 1, 2, 3, 4, 5, 6, 7] [] rfl rfl (by decide) (by decide) (by decide) rfl rfl rfl hl.1 rfl (Nat.le_of_ble_eq_true rfl) dX5_since_32 ⟨Nat.le_of_ble_eq_true rfl, Nat.le_of_ble_eq_true rfl⟩ (fun u H locs hp32 hP hD hS => ?_)
        obtain ⟨mk2_32, sg2_32⟩ := u
        try dsimp only at hp32 hP hD
        have he32 := hp32
        replace hP : xP G [oC kx 5 [.ref kb, .ref kim, .ref kit, .ref kv, .ref kre, .int tf, .ref ksh, .int rf, .ref kwa, .ref kta], oC kb 0 [.int (nI w), .int (nI h), .int (nI la), .ref ka, .ref kc, .ref kl, .ref kn], iA G ka 16 af, oC kc 2 [.ref kcn, .int (nI 10), .int (nI nc)], iA G kcn (3 * 10) fc, oC kv 4 [.ref km, .ref kg, .int (nI w), .int (nI h), .int (nI 0)], iA G km 176 mk2_32, iA G kg 160 sg2_32] H := hP
        replace hD : va_D (va_A (w_X5_since G kx kim kit kre ksh kwa kta tf rf kb ka kc kcn kl kn w h la af nc fc kv km kg vw vh sl mk sg) ss.heap.size) [oC kx 5 [.ref kb, .ref kim, .ref kit, .ref kv, .ref kre, .int tf, .ref ksh, .int rf, .ref kwa, .ref kta], oC kb 0 [.int (nI w), .int (nI h), .int (nI la), .ref ka, .ref kc, .ref kl, .ref kn], iA G ka 16 af, oC kc 2 [.ref kcn, .int (nI 10), .int (nI nc)], iA G kcn (3 * 10) fc, oC kv 4 [.ref km, .ref kg, .int (nI w), .int (nI h), .int (nI 0)], iA G km 176 mk2_32, iA G kg 160 sg2_32] := hD
        refine lv_astore (lv' := [(4, .ref kv), (0, .ref kx), (1, .int (nI c0)), (2, .int (nI d0)), (3, .int a)]) hx hb dX5_since_35 hl (by decide) rfl (fun ls hl => ?_)
        refine lv_aload hx hb dX5_since_37 (lv_at hl 0 rfl) ?_
        refine lv_iload_n hx hb dX5_since_39 rfl (lv_at hl 2 rfl) ?_
        refine lv_iload_n hx hb dX5_since_40 rfl (lv_at hl 3 rfl) ?_
        refine xr_i (As := [.int (nI c0), .int (nI d0)]) (rest := []) ⟨hx, hb, hml, hown, hts⟩ (c_X4_markOf l G kv km kg w h (nI 0) mk2_32 c0 d0 (by first | assumption | omega)) (cwV 2 hts gX5_since_X4_markOf rfl rfl rfl (by decide +kernel) ⟨Nat.le_of_ble_eq_true rfl, Nat.le_of_ble_eq_true rfl⟩) hK hP hS [5, 6] rfl rfl rfl rfl hl.1 rfl (Nat.le_of_ble_eq_true rfl) dX5_since_41 ⟨Nat.zero_le _, Nat.zero_le _⟩ (fun r41 H locs hp41 hP hS => ?_)
        rw [show r41 = _ from hp41]
        refine xn_top ((he32 d0 (by omega)).1 c0 (by omega)) ?_
        refine lv_istore (lv' := [(5, .int (mkS af nc fc c0 d0)), (4, .ref kv), (0, .ref kx), (1, .int (nI c0)), (2, .int (nI d0)), (3, .int a)]) hx hb dX5_since_44 hl (by decide) rfl (fun ls hl => ?_)
        refine lv_iload_n hx hb dX5_since_46 rfl (lv_at hl 5 rfl) ?_
        refine lv_if_ne (tgt := 54) hx hb dX5_since_47 rfl (fun b47 => ?_) (fun b47 => ?_)
        · skip
          refine lv_iconst (v := nI 1) hx hb dX5_since_54 (by decide) ?_
          refine lv_istore (lv' := [(6, .int (nI 1)), (5, .int (mkS af nc fc c0 d0)), (4, .ref kv), (0, .ref kx), (1, .int (nI c0)), (2, .int (nI d0)), (3, .int a)]) hx hb dX5_since_55 hl (by decide) rfl (fun ls hl => ?_)
          refine lv_iload_n hx hb dX5_since_57 rfl (lv_at hl 5 rfl) ?_
          refine lv_istore (lv' := [(7, .int (nI d0)), (6, .int (nI 1)), (5, .int (mkS af nc fc c0 d0)), (4, .ref kv), (0, .ref kx), (1, .int (nI c0)), (2, .int (nI d0)), (3, .int a)]) hx hb dX5_since_58 hl (by decide) rfl (fun ls hl => ?_)
          refine lv_iload_n hx hb dX5_since_60 rfl (lv_at hl 6 rfl) ?_
          refine lv_iload hx hb dX5_since_61 (lv_at hl 1 rfl) ?_
          refine xn_iadd hx hb dX5_since_63 ?_
          refine lv_istore (lv' := [(8, .int (nI (d0 + 1))), (7, .int (nI d0)), (6, .int (nI 1)), (5, .int (mkS af nc fc c0 d0)), (4, .ref kv), (0, .ref kx), (1, .int (nI c0)), (2, .int (nI d0)), (3, .int a)]) hx hb dX5_since_64 hl (by decide) rfl (fun ls hl => ?_)
          have hL66 : ∀ k : Nat, ∀ (rc : Nat) (ls : Array Slot) (H : Heap) (locs : List Loc), la - rc = k → (rc ≤ la) → (sinUp (fun e => decide (mkS af nc fc c0 e = mkS af nc fc c0 d0)) (la - d0) d0 = sinUp (fun e => decide (mkS af nc fc c0 e = mkS af nc fc c0 d0)) (la - rc) rc) → lv_has ls 9 [(0, .ref kx), (1, .int (nI c0)), (2, .int (nI d0)), (3, .int a), (4, .ref kv), (5, .int (mkS af nc fc c0 d0)), (6, .int (nI 1)), (7, .int (nI rc)), (8, .int (nI (rc + 1)))] → xP G [iA G ka 16 af, oC kb 0 [.int (nI w), .int (nI h), .int (nI la), .ref ka, .ref kc, .ref kl, .ref kn], oC kc 2 [.ref kcn, .int (nI 10), .int (nI nc)], iA G kcn (3 * 10) fc, iA G kg 160 sg2_32, iA G km 176 mk2_32, oC kv 4 [.ref km, .ref kg, .int (nI w), .int (nI h), .int (nI 0)], oC kx 5 [.ref kb, .ref kim, .ref kit, .ref kv, .ref kre, .int tf, .ref ksh, .int rf, .ref kwa, .ref kta]] H → va_D (va_A (w_X5_since G kx kim kit kre ksh kwa kta tf rf kb ka kc kcn kl kn w h la af nc fc kv km kg vw vh sl mk sg) ss.heap.size) [iA G ka 16 af, oC kb 0 [.int (nI w), .int (nI h), .int (nI la), .ref ka, .ref kc, .ref kl, .ref kn], oC kc 2 [.ref kcn, .int (nI 10), .int (nI nc)], iA G kcn (3 * 10) fc, iA G kg 160 sg2_32, iA G km 176 mk2_32, oC kv 4 [.ref km, .ref kg, .int (nI w), .int (nI h), .int (nI 0)], oC kx 5 [.ref kb, .ref kim, .ref kit, .ref kv, .ref kre, .int tf, .ref ksh, .int rf, .ref kwa, .ref kta]] → va_S (va_A (w_X5_since G kx kim kit kre ksh kwa kta tf rf kb ka kc kcn kl kn w h la af nc fc kv km kg vw vh sl mk sg) ss.heap.size) ss.heap H locs → W pp l ee ({ frames := 4, cells := 0, slots := 0, locals := 96 } : Room) ss mm ([.ref kx, .int (nI c0), .int (nI d0), .int a] : List Value).toArray below mt cd H locs 0 0 (MQ below (Q_X5_since G ss.heap.size kx kim kit kre ksh kwa kta tf rf kb ka kc kcn kl kn w h la af nc fc kv km kg vw vh sl mk sg (nI c0) (nI d0) a) ([.ref kx, .int (nI c0), .int (nI d0), .int a] : List Value).toArray ss 0 0 (va_A (w_X5_since G kx kim kit kre ksh kwa kta tf rf kb ka kc kcn kl kn w h la af nc fc kv km kg vw vh sl mk sg) ss.heap.size)) (F0 mm 66 ls []) := by
            intro k
            induction k using Nat.strongRecOn with
            | _ k ih66 =>
            intro rc ls H locs hm66 hrc hsin hl hP hD hS
            refine lv_iload hx hb dX5_since_66 (lv_at hl 8 rfl) ?_
            refine xn_if_lt (tgt := 110) hx hb (by omega) dX5_since_68 rfl (fun b68 => ?_) (fun b68 => ?_)
            · skip
              exfalso; omega
            · skip
              refine lv_iload hx hb dX5_since_71 (lv_at hl 8 rfl) ?_
              refine lv_aload_n hx hb dX5_since_73 rfl (lv_at hl 0 rfl) ?_
              refine va_get (D := G.1) (ci := 5) (v := .ref kb) (C := RX5) (T := TX5) (N := 10) hx hb hts hin5 hown hK.1 hP 7 rfl rfl 0 (by decide) (hts (.fieldLink RX5 10 "BackLenses" "book" "LBackLenses$Book;") (List.mem_of_getElem? (i := 1) rfl)) (fun _ h9 => h9) rfl dX5_since_74 ?_
              refine va_getN (D := G.1) (ci := 0) (v := .int (nI la)) (C := RX0) (T := TX0) (N := 7) hx hb hts hin0 hown hK.1 hP 1 rfl rfl 2 (by decide) (va_Nw.use rfl (hK.2 (Cond.fieldLinkNest "BackLenses" (90 : Nat) "BackLenses$Book" "last" "I" "BackLenses") (List.mem_of_getElem? (i := 11) rfl))) (fun _ h9 => h9) rfl dX5_since_77 ?_
              refine xn_icmp_gt (tgt := 110) hx hb (by omega) (by omega) dX5_since_80 rfl (fun b80 => ?_) (fun b80 => ?_)
              · skip
                refine lv_iload hx hb dX5_since_110 (lv_at hl 7 rfl) ?_
                have hP := hP.sub (ws' := [oC kx 5 [.ref kb, .ref kim, .ref kit, .ref kv, .ref kre, .int tf, .ref ksh, .int rf, .ref kwa, .ref kta], oC kb 0 [.int (nI w), .int (nI h), .int (nI la), .ref ka, .ref kc, .ref kl, .ref kn], iA G ka 16 af, oC kc 2 [.ref kcn, .int (nI 10), .int (nI nc)], iA G kcn (3 * 10) fc, oC kv 4 [.ref km, .ref kg, .int (nI w), .int (nI h), .int (nI 0)], iA G km 176 mk2_32, iA G kg 160 sg2_32]) [7, 1, 0, 2, 3, 6, 5, 4] rfl
                have hD := hD.sub (ws' := [oC kx 5 [.ref kb, .ref kim, .ref kit, .ref kv, .ref kre, .int tf, .ref ksh, .int rf, .ref kwa, .ref kta], oC kb 0 [.int (nI w), .int (nI h), .int (nI la), .ref ka, .ref kc, .ref kl, .ref kn], iA G ka 16 af, oC kc 2 [.ref kcn, .int (nI 10), .int (nI nc)], iA G kcn (3 * 10) fc, oC kv 4 [.ref km, .ref kg, .int (nI w), .int (nI h), .int (nI 0)], iA G km 176 mk2_32, iA G kg 160 sg2_32]) [7, 1, 0, 2, 3, 6, 5, 4] (by decide) rfl
                refine W.iret (v := nI rc) hx hb hr (fun t ht hW => ⟨⟨nI rc, (mk2_32, sg2_32, w, h, nI 0), rfl, ?_, by rw [ht]; exact hP, hD⟩, hS.F ht⟩) hS.2.2 dX5_since_112
                try dsimp only
                first | exact ⟨(if_neg (fun q => b8 q.1)).symm, hvok⟩ | exact ⟨(if_neg (fun q => b19 q.2.1)).symm, hvok⟩ | exact ⟨(if_neg (fun q => b26 q.2.2)).symm, hvok⟩ | (exfalso; omega) | (have hok : inR (nI c0) (w * h) ∧ inR (nI d0) (la + 1) ∧ inR a 2 := ⟨inR_nI hc0 (by omega), inR_nI hd0 (by omega), b26⟩; rw [if_pos hok, tn_nI (by omega), tn_nI (by omega)]; refine ⟨?_, VOK_fr he32⟩; first | (rw [if_pos b47, hsin]; first | (rw [hrz]; rfl) | (obtain ⟨r2, rfl⟩ : ∃ z, rc = z + 1 := ⟨rc - 1, by omega⟩; rw [sinDn]; exact congrArg nI (if_neg (fun q => b93 (of_decide_eq_true q))).symm)) | (rw [if_neg b47, hsin]; first | (rw [show la - rc = 0 by omega]; rfl) | (rw [show la - rc = (la - (rc + 1)) + 1 by omega, sinUp, if_neg (by rw [decide_eq_false b93]; decide)])))
              · skip
                refine lv_aload hx hb dX5_since_83 (lv_at hl 4 rfl) ?_
                refine lv_iload_n hx hb dX5_since_85 rfl (lv_at hl 1 rfl) ?_
                refine lv_iload hx hb dX5_since_86 (lv_at hl 8 rfl) ?_
                refine xr_i (As := [.int (nI c0), .int (nI (rc + 1))]) (rest := []) ⟨hx, hb, hml, hown, hts⟩ (c_X4_markOf l G kv km kg w h (nI 0) mk2_32 c0 (rc + 1) (by first | assumption | omega)) (cwV 2 hts gX5_since_X4_markOf rfl rfl rfl (by decide +kernel) ⟨Nat.le_of_ble_eq_true rfl, Nat.le_of_ble_eq_true rfl⟩) hK hP hS [6, 5] rfl rfl rfl rfl hl.1 rfl (Nat.le_of_ble_eq_true rfl) dX5_since_88 ⟨Nat.zero_le _, Nat.zero_le _⟩ (fun r88 H locs hp88 hP hS => ?_)
                rw [show r88 = _ from hp88]
                refine xn_top ((he32 (rc + 1) (by omega)).1 c0 (by omega)) ?_
                refine lv_iload hx hb dX5_since_91 (lv_at hl 5 rfl) ?_
                refine lv_icmp_ne (tgt := 110) hx hb dX5_since_93 rfl (fun b93 => ?_) (fun b93 => ?_)
                · skip
                  refine lv_iload hx hb dX5_since_110 (lv_at hl 7 rfl) ?_
                  have hP := hP.sub (ws' := [oC kx 5 [.ref kb, .ref kim, .ref kit, .ref kv, .ref kre, .int tf, .ref ksh, .int rf, .ref kwa, .ref kta], oC kb 0 [.int (nI w), .int (nI h), .int (nI la), .ref ka, .ref kc, .ref kl, .ref kn], iA G ka 16 af, oC kc 2 [.ref kcn, .int (nI 10), .int (nI nc)], iA G kcn (3 * 10) fc, oC kv 4 [.ref km, .ref kg, .int (nI w), .int (nI h), .int (nI 0)], iA G km 176 mk2_32, iA G kg 160 sg2_32]) [7, 1, 0, 2, 3, 6, 5, 4] rfl
                  have hD := hD.sub (ws' := [oC kx 5 [.ref kb, .ref kim, .ref kit, .ref kv, .ref kre, .int tf, .ref ksh, .int rf, .ref kwa, .ref kta], oC kb 0 [.int (nI w), .int (nI h), .int (nI la), .ref ka, .ref kc, .ref kl, .ref kn], iA G ka 16 af, oC kc 2 [.ref kcn, .int (nI 10), .int (nI nc)], iA G kcn (3 * 10) fc, oC kv 4 [.ref km, .ref kg, .int (nI w), .int (nI h), .int (nI 0)], iA G km 176 mk2_32, iA G kg 160 sg2_32]) [7, 1, 0, 2, 3, 6, 5, 4] (by decide) rfl
                  refine W.iret (v := nI rc) hx hb hr (fun t ht hW => ⟨⟨nI rc, (mk2_32, sg2_32, w, h, nI 0), rfl, ?_, by rw [ht]; exact hP, hD⟩, hS.F ht⟩) hS.2.2 dX5_since_112
                  try dsimp only
                  first | exact ⟨(if_neg (fun q => b8 q.1)).symm, hvok⟩ | exact ⟨(if_neg (fun q => b19 q.2.1)).symm, hvok⟩ | exact ⟨(if_neg (fun q => b26 q.2.2)).symm, hvok⟩ | (exfalso; omega) | (have hok : inR (nI c0) (w * h) ∧ inR (nI d0) (la + 1) ∧ inR a 2 := ⟨inR_nI hc0 (by omega), inR_nI hd0 (by omega), b26⟩; rw [if_pos hok, tn_nI (by omega), tn_nI (by omega)]; refine ⟨?_, VOK_fr he32⟩; first | (rw [if_pos b47, hsin]; first | (rw [hrz]; rfl) | (obtain ⟨r2, rfl⟩ : ∃ z, rc = z + 1 := ⟨rc - 1, by omega⟩; rw [sinDn]; exact congrArg nI (if_neg (fun q => b93 (of_decide_eq_true q))).symm)) | (rw [if_neg b47, hsin]; first | (rw [show la - rc = 0 by omega]; rfl) | (rw [show la - rc = (la - (rc + 1)) + 1 by omega, sinUp, if_neg (by rw [decide_eq_false b93]; decide)])))
                · skip
                  refine lv_iload hx hb dX5_since_96 (lv_at hl 8 rfl) ?_
                  refine lv_istore (lv' := [(7, .int (nI (rc + 1))), (0, .ref kx), (1, .int (nI c0)), (2, .int (nI d0)), (3, .int a), (4, .ref kv), (5, .int (mkS af nc fc c0 d0)), (6, .int (nI 1)), (8, .int (nI (rc + 1)))]) hx hb dX5_since_98 hl (by decide) rfl (fun ls hl => ?_)
                  refine lv_iload hx hb dX5_since_100 (lv_at hl 8 rfl) ?_
                  refine lv_iload hx hb dX5_since_102 (lv_at hl 7 rfl) ?_
                  refine xn_iadd hx hb dX5_since_104 ?_
                  refine lv_istore (lv' := [(8, .int (nI ((rc + 1) + 1))), (7, .int (nI (rc + 1))), (0, .ref kx), (1, .int (nI c0)), (2, .int (nI d0)), (3, .int a), (4, .ref kv), (5, .int (mkS af nc fc c0 d0)), (6, .int (nI 1))]) hx hb dX5_since_105 hl (by decide) rfl (fun ls hl => ?_)
                  refine lv_goto (tgt := 66) hx hb dX5_since_107 rfl ?_
                  have hl := lv_sub hl (l' := [(0, .ref kx), (1, .int (nI c0)), (2, .int (nI d0)), (3, .int a), (4, .ref kv), (5, .int (mkS af nc fc c0 d0)), (6, .int (nI 1)), (7, .int (nI (rc + 1))), (8, .int (nI ((rc + 1) + 1)))]) [2, 3, 4, 5, 6, 7, 8, 1, 0] rfl
                  exact ih66 (la - (rc + 1)) (by omega) (rc + 1) ls H locs rfl (by omega) (by rw [hsin, show la - rc = (la - (rc + 1)) + 1 by omega, sinUp, if_pos (decide_eq_true b93)]) hl hP hD hS
          have hl := lv_sub hl (l' := [(0, .ref kx), (1, .int (nI c0)), (2, .int (nI d0)), (3, .int a), (4, .ref kv), (5, .int (mkS af nc fc c0 d0)), (6, .int (nI 1)), (7, .int (nI d0)), (8, .int (nI (d0 + 1)))]) [5, 6, 7, 8, 4, 3, 2, 1, 0] rfl
          have hP := hP.sub (ws' := [iA G ka 16 af, oC kb 0 [.int (nI w), .int (nI h), .int (nI la), .ref ka, .ref kc, .ref kl, .ref kn], oC kc 2 [.ref kcn, .int (nI 10), .int (nI nc)], iA G kcn (3 * 10) fc, iA G kg 160 sg2_32, iA G km 176 mk2_32, oC kv 4 [.ref km, .ref kg, .int (nI w), .int (nI h), .int (nI 0)], oC kx 5 [.ref kb, .ref kim, .ref kit, .ref kv, .ref kre, .int tf, .ref ksh, .int rf, .ref kwa, .ref kta]]) [2, 1, 3, 4, 7, 6, 5, 0] rfl
          have hD := hD.sub (ws' := [iA G ka 16 af, oC kb 0 [.int (nI w), .int (nI h), .int (nI la), .ref ka, .ref kc, .ref kl, .ref kn], oC kc 2 [.ref kcn, .int (nI 10), .int (nI nc)], iA G kcn (3 * 10) fc, iA G kg 160 sg2_32, iA G km 176 mk2_32, oC kv 4 [.ref km, .ref kg, .int (nI w), .int (nI h), .int (nI 0)], oC kx 5 [.ref kb, .ref kim, .ref kit, .ref kv, .ref kre, .int tf, .ref ksh, .int rf, .ref kwa, .ref kta]]) [2, 1, 3, 4, 7, 6, 5, 0] (by decide) rfl
          exact hL66 (la - d0) d0 ls H locs rfl (by omega) (by rfl) hl hP hD hS
        · skip
          refine lv_iconst (v := (-1)) hx hb dX5_since_50 (by decide) ?_
          refine lv_goto (tgt := 55) hx hb dX5_since_51 rfl ?_
          refine lv_istore (lv' := [(6, .int (-1)), (5, .int (mkS af nc fc c0 d0)), (4, .ref kv), (0, .ref kx), (1, .int (nI c0)), (2, .int (nI d0)), (3, .int a)]) hx hb dX5_since_55 hl (by decide) rfl (fun ls hl => ?_)
          refine lv_iload_n hx hb dX5_since_57 rfl (lv_at hl 5 rfl) ?_
          refine lv_istore (lv' := [(7, .int (nI d0)), (6, .int (-1)), (5, .int (mkS af nc fc c0 d0)), (4, .ref kv), (0, .ref kx), (1, .int (nI c0)), (2, .int (nI d0)), (3, .int a)]) hx hb dX5_since_58 hl (by decide) rfl (fun ls hl => ?_)
          refine lv_iload_n hx hb dX5_since_60 rfl (lv_at hl 6 rfl) ?_
          refine lv_iload hx hb dX5_since_61 (lv_at hl 1 rfl) ?_
          refine lv_iadd hx hb dX5_since_63 ?_
          refine lv_istore (lv' := [(8, .int ((nI d0) + (-1))), (7, .int (nI d0)), (6, .int (-1)), (5, .int (mkS af nc fc c0 d0)), (4, .ref kv), (0, .ref kx), (1, .int (nI c0)), (2, .int (nI d0)), (3, .int a)]) hx hb dX5_since_64 hl (by decide) rfl (fun ls hl => ?_)
          have hL66 : ∀ k : Nat, ∀ (rc : Nat) (ls : Array Slot) (H : Heap) (locs : List Loc), rc = k → (rc ≤ la) → (sinDn (fun e => decide (mkS af nc fc c0 e = mkS af nc fc c0 d0)) d0 = sinDn (fun e => decide (mkS af nc fc c0 e = mkS af nc fc c0 d0)) rc) → lv_has ls 9 [(0, .ref kx), (1, .int (nI c0)), (2, .int (nI d0)), (3, .int a), (4, .ref kv), (5, .int (mkS af nc fc c0 d0)), (6, .int (-1)), (7, .int (nI rc)), (8, .int ((nI rc) + (-1)))] → xP G [iA G ka 16 af, oC kb 0 [.int (nI w), .int (nI h), .int (nI la), .ref ka, .ref kc, .ref kl, .ref kn], oC kc 2 [.ref kcn, .int (nI 10), .int (nI nc)], iA G kcn (3 * 10) fc, iA G kg 160 sg2_32, iA G km 176 mk2_32, oC kv 4 [.ref km, .ref kg, .int (nI w), .int (nI h), .int (nI 0)], oC kx 5 [.ref kb, .ref kim, .ref kit, .ref kv, .ref kre, .int tf, .ref ksh, .int rf, .ref kwa, .ref kta]] H → va_D (va_A (w_X5_since G kx kim kit kre ksh kwa kta tf rf kb ka kc kcn kl kn w h la af nc fc kv km kg vw vh sl mk sg) ss.heap.size) [iA G ka 16 af, oC kb 0 [.int (nI w), .int (nI h), .int (nI la), .ref ka, .ref kc, .ref kl, .ref kn], oC kc 2 [.ref kcn, .int (nI 10), .int (nI nc)], iA G kcn (3 * 10) fc, iA G kg 160 sg2_32, iA G km 176 mk2_32, oC kv 4 [.ref km, .ref kg, .int (nI w), .int (nI h), .int (nI 0)], oC kx 5 [.ref kb, .ref kim, .ref kit, .ref kv, .ref kre, .int tf, .ref ksh, .int rf, .ref kwa, .ref kta]] → va_S (va_A (w_X5_since G kx kim kit kre ksh kwa kta tf rf kb ka kc kcn kl kn w h la af nc fc kv km kg vw vh sl mk sg) ss.heap.size) ss.heap H locs → W pp l ee ({ frames := 4, cells := 0, slots := 0, locals := 96 } : Room) ss mm ([.ref kx, .int (nI c0), .int (nI d0), .int a] : List Value).toArray below mt cd H locs 0 0 (MQ below (Q_X5_since G ss.heap.size kx kim kit kre ksh kwa kta tf rf kb ka kc kcn kl kn w h la af nc fc kv km kg vw vh sl mk sg (nI c0) (nI d0) a) ([.ref kx, .int (nI c0), .int (nI d0), .int a] : List Value).toArray ss 0 0 (va_A (w_X5_since G kx kim kit kre ksh kwa kta tf rf kb ka kc kcn kl kn w h la af nc fc kv km kg vw vh sl mk sg) ss.heap.size)) (F0 mm 66 ls []) := by
            intro k
            induction k using Nat.strongRecOn with
            | _ k ih66 =>
            intro rc ls H locs hm66 hrc hsin hl hP hD hS
            refine lv_iload hx hb dX5_since_66 (lv_at hl 8 rfl) ?_
            refine xi_if_lt (tgt := 110) hx hb dX5_since_68 rfl (fun b68 => ?_) (fun b68 => ?_)
            · skip
              have hrz : rc = 0 := (by rw [dn_toInt (by omega)] at b68; omega)
              refine lv_iload hx hb dX5_since_110 (lv_at hl 7 rfl) ?_
              have hP := hP.sub (ws' := [oC kx 5 [.ref kb, .ref kim, .ref kit, .ref kv, .ref kre, .int tf, .ref ksh, .int rf, .ref kwa, .ref kta], oC kb 0 [.int (nI w), .int (nI h), .int (nI la), .ref ka, .ref kc, .ref kl, .ref kn], iA G ka 16 af, oC kc 2 [.ref kcn, .int (nI 10), .int (nI nc)], iA G kcn (3 * 10) fc, oC kv 4 [.ref km, .ref kg, .int (nI w), .int (nI h), .int (nI 0)], iA G km 176 mk2_32, iA G kg 160 sg2_32]) [7, 1, 0, 2, 3, 6, 5, 4] rfl
              have hD := hD.sub (ws' := [oC kx 5 [.ref kb, .ref kim, .ref kit, .ref kv, .ref kre, .int tf, .ref ksh, .int rf, .ref kwa, .ref kta], oC kb 0 [.int (nI w), .int (nI h), .int (nI la), .ref ka, .ref kc, .ref kl, .ref kn], iA G ka 16 af, oC kc 2 [.ref kcn, .int (nI 10), .int (nI nc)], iA G kcn (3 * 10) fc, oC kv 4 [.ref km, .ref kg, .int (nI w), .int (nI h), .int (nI 0)], iA G km 176 mk2_32, iA G kg 160 sg2_32]) [7, 1, 0, 2, 3, 6, 5, 4] (by decide) rfl
              refine W.iret (v := nI rc) hx hb hr (fun t ht hW => ⟨⟨nI rc, (mk2_32, sg2_32, w, h, nI 0), rfl, ?_, by rw [ht]; exact hP, hD⟩, hS.F ht⟩) hS.2.2 dX5_since_112
              try dsimp only
              first | exact ⟨(if_neg (fun q => b8 q.1)).symm, hvok⟩ | exact ⟨(if_neg (fun q => b19 q.2.1)).symm, hvok⟩ | exact ⟨(if_neg (fun q => b26 q.2.2)).symm, hvok⟩ | (exfalso; omega) | (have hok : inR (nI c0) (w * h) ∧ inR (nI d0) (la + 1) ∧ inR a 2 := ⟨inR_nI hc0 (by omega), inR_nI hd0 (by omega), b26⟩; rw [if_pos hok, tn_nI (by omega), tn_nI (by omega)]; refine ⟨?_, VOK_fr he32⟩; first | (rw [if_pos b47, hsin]; first | (rw [hrz]; rfl) | (obtain ⟨r2, rfl⟩ : ∃ z, rc = z + 1 := ⟨rc - 1, by omega⟩; rw [sinDn]; exact congrArg nI (if_neg (fun q => b93 (of_decide_eq_true q))).symm)) | (rw [if_neg b47, hsin]; first | (rw [show la - rc = 0 by omega]; rfl) | (rw [show la - rc = (la - (rc + 1)) + 1 by omega, sinUp, if_neg (by rw [decide_eq_false b93]; decide)])))
            · skip
              refine lv_iload hx hb dX5_since_71 (lv_at hl 8 rfl) ?_
              refine lv_aload_n hx hb dX5_since_73 rfl (lv_at hl 0 rfl) ?_
              refine va_get (D := G.1) (ci := 5) (v := .ref kb) (C := RX5) (T := TX5) (N := 10) hx hb hts hin5 hown hK.1 hP 7 rfl rfl 0 (by decide) (hts (.fieldLink RX5 10 "BackLenses" "book" "LBackLenses$Book;") (List.mem_of_getElem? (i := 1) rfl)) (fun _ h9 => h9) rfl dX5_since_74 ?_
              refine va_getN (D := G.1) (ci := 0) (v := .int (nI la)) (C := RX0) (T := TX0) (N := 7) hx hb hts hin0 hown hK.1 hP 1 rfl rfl 2 (by decide) (va_Nw.use rfl (hK.2 (Cond.fieldLinkNest "BackLenses" (90 : Nat) "BackLenses$Book" "last" "I" "BackLenses") (List.mem_of_getElem? (i := 11) rfl))) (fun _ h9 => h9) rfl dX5_since_77 ?_
              refine xm_icmp_gt (tgt := 110) hx hb (by omega) dX5_since_80 rfl (fun b80 => ?_) (fun b80 => ?_)
              · skip
                exfalso; rw [dn_toInt (by omega)] at b80; omega
              · skip
                have hr1 : 0 < rc := (by rw [dn_toInt (by omega)] at b68; omega)
                rw [sb_m1 hr1] at hl
                refine lv_aload hx hb dX5_since_83 (lv_at hl 4 rfl) ?_
                refine lv_iload_n hx hb dX5_since_85 rfl (lv_at hl 1 rfl) ?_
                refine lv_iload hx hb dX5_since_86 (lv_at hl 8 rfl) ?_
                refine xr_i (As := [.int (nI c0), .int (nI (rc - 1))]) (rest := []) ⟨hx, hb, hml, hown, hts⟩ (c_X4_markOf l G kv km kg w h (nI 0) mk2_32 c0 (rc - 1) (by first | assumption | omega)) (cwV 2 hts gX5_since_X4_markOf rfl rfl rfl (by decide +kernel) ⟨Nat.le_of_ble_eq_true rfl, Nat.le_of_ble_eq_true rfl⟩) hK hP hS [6, 5] rfl rfl rfl rfl hl.1 rfl (Nat.le_of_ble_eq_true rfl) dX5_since_88 ⟨Nat.zero_le _, Nat.zero_le _⟩ (fun r88 H locs hp88 hP hS => ?_)
                rw [show r88 = _ from hp88]
                refine xn_top ((he32 (rc - 1) (by omega)).1 c0 (by omega)) ?_
                refine lv_iload hx hb dX5_since_91 (lv_at hl 5 rfl) ?_
                refine lv_icmp_ne (tgt := 110) hx hb dX5_since_93 rfl (fun b93 => ?_) (fun b93 => ?_)
                · skip
                  refine lv_iload hx hb dX5_since_110 (lv_at hl 7 rfl) ?_
                  have hP := hP.sub (ws' := [oC kx 5 [.ref kb, .ref kim, .ref kit, .ref kv, .ref kre, .int tf, .ref ksh, .int rf, .ref kwa, .ref kta], oC kb 0 [.int (nI w), .int (nI h), .int (nI la), .ref ka, .ref kc, .ref kl, .ref kn], iA G ka 16 af, oC kc 2 [.ref kcn, .int (nI 10), .int (nI nc)], iA G kcn (3 * 10) fc, oC kv 4 [.ref km, .ref kg, .int (nI w), .int (nI h), .int (nI 0)], iA G km 176 mk2_32, iA G kg 160 sg2_32]) [7, 1, 0, 2, 3, 6, 5, 4] rfl
                  have hD := hD.sub (ws' := [oC kx 5 [.ref kb, .ref kim, .ref kit, .ref kv, .ref kre, .int tf, .ref ksh, .int rf, .ref kwa, .ref kta], oC kb 0 [.int (nI w), .int (nI h), .int (nI la), .ref ka, .ref kc, .ref kl, .ref kn], iA G ka 16 af, oC kc 2 [.ref kcn, .int (nI 10), .int (nI nc)], iA G kcn (3 * 10) fc, oC kv 4 [.ref km, .ref kg, .int (nI w), .int (nI h), .int (nI 0)], iA G km 176 mk2_32, iA G kg 160 sg2_32]) [7, 1, 0, 2, 3, 6, 5, 4] (by decide) rfl
                  refine W.iret (v := nI rc) hx hb hr (fun t ht hW => ⟨⟨nI rc, (mk2_32, sg2_32, w, h, nI 0), rfl, ?_, by rw [ht]; exact hP, hD⟩, hS.F ht⟩) hS.2.2 dX5_since_112
                  try dsimp only
                  first | exact ⟨(if_neg (fun q => b8 q.1)).symm, hvok⟩ | exact ⟨(if_neg (fun q => b19 q.2.1)).symm, hvok⟩ | exact ⟨(if_neg (fun q => b26 q.2.2)).symm, hvok⟩ | (exfalso; omega) | (have hok : inR (nI c0) (w * h) ∧ inR (nI d0) (la + 1) ∧ inR a 2 := ⟨inR_nI hc0 (by omega), inR_nI hd0 (by omega), b26⟩; rw [if_pos hok, tn_nI (by omega), tn_nI (by omega)]; refine ⟨?_, VOK_fr he32⟩; first | (rw [if_pos b47, hsin]; first | (rw [hrz]; rfl) | (obtain ⟨r2, rfl⟩ : ∃ z, rc = z + 1 := ⟨rc - 1, by omega⟩; rw [sinDn]; exact congrArg nI (if_neg (fun q => b93 (of_decide_eq_true q))).symm)) | (rw [if_neg b47, hsin]; first | (rw [show la - rc = 0 by omega]; rfl) | (rw [show la - rc = (la - (rc + 1)) + 1 by omega, sinUp, if_neg (by rw [decide_eq_false b93]; decide)])))
                · skip
                  refine lv_iload hx hb dX5_since_96 (lv_at hl 8 rfl) ?_
                  refine lv_istore (lv' := [(7, .int (nI (rc - 1))), (0, .ref kx), (1, .int (nI c0)), (2, .int (nI d0)), (3, .int a), (4, .ref kv), (5, .int (mkS af nc fc c0 d0)), (6, .int (-1)), (8, .int (nI (rc - 1)))]) hx hb dX5_since_98 hl (by decide) rfl (fun ls hl => ?_)
                  refine lv_iload hx hb dX5_since_100 (lv_at hl 8 rfl) ?_
                  refine lv_iload hx hb dX5_since_102 (lv_at hl 7 rfl) ?_
                  refine lv_iadd hx hb dX5_since_104 ?_
                  refine lv_istore (lv' := [(8, .int ((nI (rc - 1)) + (-1))), (7, .int (nI (rc - 1))), (0, .ref kx), (1, .int (nI c0)), (2, .int (nI d0)), (3, .int a), (4, .ref kv), (5, .int (mkS af nc fc c0 d0)), (6, .int (-1))]) hx hb dX5_since_105 hl (by decide) rfl (fun ls hl => ?_)
                  refine lv_goto (tgt := 66) hx hb dX5_since_107 rfl ?_
                  have hl := lv_sub hl (l' := [(0, .ref kx), (1, .int (nI c0)), (2, .int (nI d0)), (3, .int a), (4, .ref kv), (5, .int (mkS af nc fc c0 d0)), (6, .int (-1)), (7, .int (nI (rc - 1))), (8, .int ((nI (rc - 1)) + (-1)))]) [2, 3, 4, 5, 6, 7, 8, 1, 0] rfl
                  exact ih66 (rc - 1) (by omega) (rc - 1) ls H locs rfl (by omega) (by have hpe : (fun e => decide (mkS af nc fc c0 e = mkS af nc fc c0 d0)) (rc - 1) = true := decide_eq_true b93; rw [hsin]; obtain ⟨r2, rfl⟩ : ∃ z, rc = z + 1 := ⟨rc - 1, by omega⟩; rw [sinDn]; exact if_pos hpe) hl hP hD hS
          have hl := lv_sub hl (l' := [(0, .ref kx), (1, .int (nI c0)), (2, .int (nI d0)), (3, .int a), (4, .ref kv), (5, .int (mkS af nc fc c0 d0)), (6, .int (-1)), (7, .int (nI d0)), (8, .int ((nI d0) + (-1)))]) [5, 6, 7, 8, 4, 3, 2, 1, 0] rfl
          have hP := hP.sub (ws' := [iA G ka 16 af, oC kb 0 [.int (nI w), .int (nI h), .int (nI la), .ref ka, .ref kc, .ref kl, .ref kn], oC kc 2 [.ref kcn, .int (nI 10), .int (nI nc)], iA G kcn (3 * 10) fc, iA G kg 160 sg2_32, iA G km 176 mk2_32, oC kv 4 [.ref km, .ref kg, .int (nI w), .int (nI h), .int (nI 0)], oC kx 5 [.ref kb, .ref kim, .ref kit, .ref kv, .ref kre, .int tf, .ref ksh, .int rf, .ref kwa, .ref kta]]) [2, 1, 3, 4, 7, 6, 5, 0] rfl
          have hD := hD.sub (ws' := [iA G ka 16 af, oC kb 0 [.int (nI w), .int (nI h), .int (nI la), .ref ka, .ref kc, .ref kl, .ref kn], oC kc 2 [.ref kcn, .int (nI 10), .int (nI nc)], iA G kcn (3 * 10) fc, iA G kg 160 sg2_32, iA G km 176 mk2_32, oC kv 4 [.ref km, .ref kg, .int (nI w), .int (nI h), .int (nI 0)], oC kx 5 [.ref kb, .ref kim, .ref kit, .ref kv, .ref kre, .int tf, .ref ksh, .int rf, .ref kwa, .ref kta]]) [2, 1, 3, 4, 7, 6, 5, 0] (by decide) rfl
          exact hL66 d0 d0 ls H locs rfl (by omega) (by rfl) hl hP hD hS
      · skip
        refine lv_iconst (v := (-1)) hx hb dX5_since_29 (by decide) ?_
        have hP := hP.sub (ws' := [oC kx 5 [.ref kb, .ref kim, .ref kit, .ref kv, .ref kre, .int tf, .ref ksh, .int rf, .ref kwa, .ref kta], oC kb 0 [.int (nI w), .int (nI h), .int (nI la), .ref ka, .ref kc, .ref kl, .ref kn], iA G ka 16 af, oC kc 2 [.ref kcn, .int (nI 10), .int (nI nc)], iA G kcn (3 * 10) fc, oC kv 4 [.ref km, .ref kg, .int (nI vw), .int (nI vh), .int sl], iA G km 176 mk, iA G kg 160 sg]) [0, 1, 2, 3, 4, 5, 6, 7] rfl
        have hD := hD.sub (ws' := [oC kx 5 [.ref kb, .ref kim, .ref kit, .ref kv, .ref kre, .int tf, .ref ksh, .int rf, .ref kwa, .ref kta], oC kb 0 [.int (nI w), .int (nI h), .int (nI la), .ref ka, .ref kc, .ref kl, .ref kn], iA G ka 16 af, oC kc 2 [.ref kcn, .int (nI 10), .int (nI nc)], iA G kcn (3 * 10) fc, oC kv 4 [.ref km, .ref kg, .int (nI vw), .int (nI vh), .int sl], iA G km 176 mk, iA G kg 160 sg]) [0, 1, 2, 3, 4, 5, 6, 7] (by decide) rfl
        refine W.iret (v := (-1)) hx hb hr (fun t ht hW => ⟨⟨(-1), (mk, sg, vw, vh, sl), rfl, ?_, by rw [ht]; exact hP, hD⟩, hS.F ht⟩) hS.2.2 dX5_since_30
        try dsimp only
        first | exact ⟨(if_neg (fun q => b8 q.1)).symm, hvok⟩ | exact ⟨(if_neg (fun q => b19 q.2.1)).symm, hvok⟩ | exact ⟨(if_neg (fun q => b26 q.2.2)).symm, hvok⟩ | (exfalso; omega) | (have hok : inR (nI c0) (w * h) ∧ inR (nI d0) (la + 1) ∧ inR a 2 := ⟨inR_nI hc0 (by omega), inR_nI hd0 (by omega), b26⟩; rw [if_pos hok, tn_nI (by omega), tn_nI (by omega)]; refine ⟨?_, VOK_fr he32⟩; first | (rw [if_pos b47, hsin]; first | (rw [hrz]; rfl) | (obtain ⟨r2, rfl⟩ : ∃ z, rc = z + 1 := ⟨rc - 1, by omega⟩; rw [sinDn]; exact congrArg nI (if_neg (fun q => b93 (of_decide_eq_true q))).symm)) | (rw [if_neg b47, hsin]; first | (rw [show la - rc = 0 by omega]; rfl) | (rw [show la - rc = (la - (rc + 1)) + 1 by omega, sinUp, if_neg (by rw [decide_eq_false b93]; decide)])))
end
section
section XQ
variable {p : Program} {l : Launch} {e : Env} {R : Room} {s : State} {m : MethodId} {args : Array Value} {below : List Frame} {meth : Method} {c : Code} {H : Heap} {locs : List Loc} {cells slots : Nat} {Q : State → Prop}
variable {cc : ByteArray} {pc : Nat} {ls : Array Slot} {rest : List Value} {G : XG} {ws : va_W} {A : Nat → Prop} {H0 : Heap} {a : Nat}
theorem xn_aaldk (hexec : p.tables.exec = Jvm.exec) (hb : c.code = cc) (hK : xK G s) (hP : xP G ws H) (q0 : Nat) {n i b : Nat} {f : Nat → Option Nat} (ha : ws[q0]? = some (kA G a n f)) (hi : i < n) (hn : n < 2 ^ 31) (hf : f i = some b) (hdg : decode cc pc = .ok (.aaload, 1)) (kk : W p l e R s m args below meth c H locs cells slots Q (F0 m (pc + 1) ls (.ref b :: rest))) : W p l e R s m args below meth c H locs cells slots Q (F0 m pc ls (.int (nI i) :: .ref a :: rest)) :=
  va_aldq hexec hb hK.1 hP q0 3 ha rfl (vp_in_nI hi hn) hdg (by rw [nI_clamp (Nat.lt_trans hi hn), hf]; exact kk)
theorem xn_aalds (hexec : p.tables.exec = Jvm.exec) (hb : c.code = cc) (hK : xK G s) (hP : xP G ws H) (q0 : Nat) {n i b : Nat} {f : Nat → Option Nat} (ha : ws[q0]? = some (sA G a n f)) (hi : i < n) (hn : n < 2 ^ 31) (hf : f i = some b) (hdg : decode cc pc = .ok (.aaload, 1)) (kk : W p l e R s m args below meth c H locs cells slots Q (F0 m (pc + 1) ls (.ref b :: rest))) : W p l e R s m args below meth c H locs cells slots Q (F0 m pc ls (.int (nI i) :: .ref a :: rest)) :=
  va_aldq hexec hb hK.1 hP q0 4 ha rfl (vp_in_nI hi hn) hdg (by rw [nI_clamp (Nat.lt_trans hi hn), hf]; exact kk)
theorem xn_zast (hexec : p.tables.exec = Jvm.exec) (hb : c.code = cc) (hK : xK G s) (hP : xP G ws H) (hD : va_D A ws) (hS : va_S A H0 H locs) (q0 : Nat) {n i : Nat} {f : Nat → Int32} {x y : Int32} (ha : ws[q0]? = some (zA G a n f)) (hi : i < n) (hn : n < 2 ^ 31) (hy : vp_nar .boolean x = y) (hdg : decode cc pc = .ok (.bastore, 1)) (kk : ∀ (H1 : Heap) (locs1 : List Loc), xP G (ws.set q0 (zA G a n (upd f i y))) H1 → va_D A (ws.set q0 (zA G a n (upd f i y))) → va_S A H0 H1 locs1 → W p l e R s m args below meth c H1 locs1 cells slots Q (F0 m (pc + 1) ls rest)) : W p l e R s m args below meth c H locs cells slots Q (F0 m pc ls (.int x :: .int (nI i) :: .ref a :: rest)) :=
  va_zast hexec hb hK.1 hP hD hS q0 2 ha rfl (vp_in_nI hi hn) hdg (by rw [nI_clamp (Nat.lt_trans hi hn), hy]; exact kk)
theorem xn_bast (hexec : p.tables.exec = Jvm.exec) (hb : c.code = cc) (hK : xK G s) (hP : xP G ws H) (hD : va_D A ws) (hS : va_S A H0 H locs) (q0 : Nat) {n i : Nat} {f : Nat → Int32} {x y : Int32} (ha : ws[q0]? = some (bA G a n f)) (hi : i < n) (hn : n < 2 ^ 31) (hy : vp_nar .byte x = y) (hdg : decode cc pc = .ok (.bastore, 1)) (kk : ∀ (H1 : Heap) (locs1 : List Loc), xP G (ws.set q0 (bA G a n (upd f i y))) H1 → va_D A (ws.set q0 (bA G a n (upd f i y))) → va_S A H0 H1 locs1 → W p l e R s m args below meth c H1 locs1 cells slots Q (F0 m (pc + 1) ls rest)) : W p l e R s m args below meth c H locs cells slots Q (F0 m pc ls (.int x :: .int (nI i) :: .ref a :: rest)) :=
  va_bast hexec hb hK.1 hP hD hS q0 1 ha rfl (vp_in_nI hi hn) hdg (by rw [nI_clamp (Nat.lt_trans hi hn), hy]; exact kk)
end XQ
set_option maxRecDepth 20000 in
theorem nar_byte : ∀ k, k < 128 → vp_nar .byte (nI k).toInt8.toInt32 = nI k := by decide +kernel
abbrev faA (sz0 i : Int32) : Int32 := (if sz0 = (-1) then nI 1 else if 0 ≤ (i).toInt ∧ (i).toInt < sz0.toInt then nI 0 else nI 2)
abbrev faT (sz0 i : Int32) : Int32 := (if faA sz0 i = 0 then faA sz0 (i + nI 2) else faA sz0 i)
theorem faA_ok {sz0 i : Int32} (h : faA sz0 i = 0) : 0 ≤ i.toInt ∧ i.toInt < sz0.toInt := by
  unfold faA at h
  split at h
  · exact absurd h (by decide)
  · split at h
    · assumption
    · exact absurd h (by decide)
theorem faT_ok {sz0 i : Int32} (hz : sz0.toInt ≤ 40) (h : faT sz0 i = 0) : ∃ a, a + 2 < 40 ∧ i = nI a := by
  unfold faT at h
  split at h
  · rename_i h1
    have h2 := faA_ok h1
    have h3 := faA_ok h
    obtain ⟨k, hk, rfl⟩ := inR_nat (x := i) (n := 40) (by unfold inR; omega)
    refine ⟨k, ?_, rfl⟩
    rw [nI_add, nI_toInt (by omega)] at h3
    omega
  · contradiction
/-- what read does, from the i-th row on: the row that was refused, the fault that was found, the changes -/
def rdF (la wh : Nat) (sz0 : Int32) (sf : Nat → Int32) (f0 : Int32) : Nat → Nat → Int32 → Nat → (Nat → Int32) → Option Nat × Int32 × Nat × (Nat → Int32)
  | 0, _, fd, nc, fc => (none, fd, nc, fc)
  | k + 1, i, fd, nc, fc =>
    if fd = 0 then
      if faT sz0 (f0 + nI (3 * i)) = 0 then
        if (inR (sf (tn (f0 + nI (3 * i)))) (la + 1) ∧ inR (sf (tn (f0 + nI (3 * i)) + 1)) wh ∧ inR (sf (tn (f0 + nI (3 * i)) + 2)) 6 ∧ nc < 10) then
          rdF la wh sz0 sf f0 k (i + 1) (nI 0) (nc + 1) (upd (upd (upd fc (3 * nc) (sf (tn (f0 + nI (3 * i))))) (3 * nc + 1) (sf (tn (f0 + nI (3 * i)) + 1))) (3 * nc + 2) (sf (tn (f0 + nI (3 * i)) + 2)))
        else (some i, nI 0, nc, fc)
      else rdF la wh sz0 sf f0 k (i + 1) (faT sz0 (f0 + nI (3 * i))) nc fc
    else (none, fd, nc, fc)
theorem tk_ok {P : Prop} {iP : Decidable P} {n3 : Nat} (h : 0 ≤ (if P then (if n3 < 10 then nI (n3 + 1) else (-3)) else (-1) : Int32).toInt) : P ∧ n3 < 10 := by
  by_cases hp : P
  · rw [if_pos hp] at h
    by_cases hn : n3 < 10
    · exact ⟨hp, hn⟩
    · rw [if_neg hn] at h; exact absurd h (by decide)
  · rw [if_neg hp] at h; exact absurd h (by decide)
theorem tk_no {P : Prop} {iP : Decidable P} {n3 : Nat} (h : ¬ 0 ≤ (if P then (if n3 < 10 then nI (n3 + 1) else (-3)) else (-1) : Int32).toInt) : ¬ (P ∧ n3 < 10) := fun q => h (by rw [if_pos q.1, if_pos q.2, nI_toInt (by omega)]; omega)
end
section
abbrev w_X5_keep (G : XG) (kx kim kit kv kre ksh kwa kta : Nat) (tf rf : Int32) (gi : Nat → Option Nat) (it : Nat → Int32) (kb ka kc kcn kl kln kn knn : Nat) (w h la : Nat) (af : Nat → Int32) (nc : Nat) (fc : Nat → Int32) (nl : Nat) (fl : Nat → Int32) (ns : Nat) (fs : Nat → Int32) (kbq kaq kcq kcnq klq klnq knq knnq : Nat) (wq hq laq : Nat) (afq : Nat → Int32) (ncq : Nat) (fcq : Nat → Int32) (nlq : Nat) (flq : Nat → Int32) (nsq : Nat) (fsq : Nat → Int32) : va_W := [oC kx 5 [.ref kb, .ref kim, .ref kit, .ref kv, .ref kre, .int tf, .ref ksh, .int rf, .ref kwa, .ref kta], kA G kim 2 gi, zA G kit 2 it, oC kb 0 [.int (nI w), .int (nI h), .int (nI la), .ref ka, .ref kc, .ref kl, .ref kn], iA G ka 16 af, oC kc 2 [.ref kcn, .int (nI 10), .int (nI nc)], iA G kcn (3 * 10) fc, oC kl 2 [.ref kln, .int (nI 6), .int (nI nl)], iA G kln (3 * 6) fl, oC kn 2 [.ref knn, .int (nI 8), .int (nI ns)], iA G knn (3 * 8) fs, oC kbq 0 [.int (nI wq), .int (nI hq), .int (nI laq), .ref kaq, .ref kcq, .ref klq, .ref knq], iA G kaq 16 afq, oC kcq 2 [.ref kcnq, .int (nI 10), .int (nI ncq)], iA G kcnq (3 * 10) fcq, oC klq 2 [.ref klnq, .int (nI 6), .int (nI nlq)], iA G klnq (3 * 6) flq, oC knq 2 [.ref knnq, .int (nI 8), .int (nI nsq)], iA G knnq (3 * 8) fsq]
abbrev Q_X5_keep (G : XG) (sz : Nat) (kx kim kit kv kre ksh kwa kta : Nat) (tf rf : Int32) (gi : Nat → Option Nat) (it : Nat → Int32) (kb ka kc kcn kl kln kn knn : Nat) (w h la : Nat) (af : Nat → Int32) (nc : Nat) (fc : Nat → Int32) (nl : Nat) (fl : Nat → Int32) (ns : Nat) (fs : Nat → Int32) (kbq kaq kcq kcnq klq klnq knq knnq : Nat) (wq hq laq : Nat) (afq : Nat → Int32) (ncq : Nat) (fcq : Nat → Int32) (nlq : Nat) (flq : Nat → Int32) (nsq : Nat) (fsq : Nat → Int32) (j : Nat) : Array Value → State → Outcome → State → Prop := (va_Qi (fun (r : Int32) (u : (Nat → Int32) × (Nat → Int32) × (Nat → Int32) × (Nat → Int32) × (Nat → Int32)) => r = (if it j = 0 then nI 0 else nI 1) ∧ u.1 = upd it j (nI 1) ∧ u.2.1 = va_cpy af afq 0 0 16 ∧ u.2.2.1 = va_cpy fc fcq 0 0 (3 * 10) ∧ u.2.2.2.1 = va_cpy fl flq 0 0 (3 * 6) ∧ u.2.2.2.2 = va_cpy fs fsq 0 0 (3 * 8)) (xWb G sz (w_X5_keep G kx kim kit kv kre ksh kwa kta tf rf gi it kb ka kc kcn kl kln kn knn w h la af nc fc nl fl ns fs kbq kaq kcq kcnq klq klnq knq knnq wq hq laq afq ncq fcq nlq flq nsq fsq) (fun u : (Nat → Int32) × (Nat → Int32) × (Nat → Int32) × (Nat → Int32) × (Nat → Int32) => [oC kx 5 [.ref kb, .ref kim, .ref kit, .ref kv, .ref kre, .int tf, .ref ksh, .int rf, .ref kwa, .ref kta], kA G kim 2 gi, zA G kit 2 u.1, oC kb 0 [.int (nI w), .int (nI h), .int (nI la), .ref ka, .ref kc, .ref kl, .ref kn], iA G ka 16 af, oC kc 2 [.ref kcn, .int (nI 10), .int (nI nc)], iA G kcn (3 * 10) fc, oC kl 2 [.ref kln, .int (nI 6), .int (nI nl)], iA G kln (3 * 6) fl, oC kn 2 [.ref knn, .int (nI 8), .int (nI ns)], iA G knn (3 * 8) fs, oC kbq 0 [.int (nI w), .int (nI h), .int (nI la), .ref kaq, .ref kcq, .ref klq, .ref knq], iA G kaq 16 u.2.1, oC kcq 2 [.ref kcnq, .int (nI 10), .int (nI nc)], iA G kcnq (3 * 10) u.2.2.1, oC klq 2 [.ref klnq, .int (nI 6), .int (nI nl)], iA G klnq (3 * 6) u.2.2.2.1, oC knq 2 [.ref knnq, .int (nI 8), .int (nI ns)], iA G knnq (3 * 8) u.2.2.2.2])) (va_A (w_X5_keep G kx kim kit kv kre ksh kwa kta tf rf gi it kb ka kc kcn kl kln kn knn w h la af nc fc nl fl ns fs kbq kaq kcq kcnq klq klnq knq knnq wq hq laq afq ncq fcq nlq flq nsq fsq) sz))
set_option maxHeartbeats 4000000 in
set_option maxRecDepth 100000 in
theorem c_X5_keep (l : Launch) (G : XG) (sz : Nat) (kx kim kit kv kre ksh kwa kta : Nat) (tf rf : Int32) (gi : Nat → Option Nat) (it : Nat → Int32) (kb ka kc kcn kl kln kn knn : Nat) (w h la : Nat) (af : Nat → Int32) (nc : Nat) (fc : Nat → Int32) (nl : Nat) (fl : Nat → Int32) (ns : Nat) (fs : Nat → Int32) (kbq kaq kcq kcnq klq klnq knq knnq : Nat) (wq hq laq : Nat) (afq : Nat → Int32) (ncq : Nat) (fcq : Nat → Int32) (nlq : Nat) (flq : Nat → Int32) (nsq : Nat) (fsq : Nat → Int32) (j : Nat) (hj : j < 2) (hgj : gi j = some kbq) : Met l yX5_keep wsX5_keep ({ frames := 3, cells := 0, slots := 0, locals := 60 } : Room) (va_Pc [.ref kx, .int (nI j)] (xWp G sz (w_X5_keep G kx kim kit kv kre ksh kwa kta tf rf gi it kb ka kc kcn kl kln kn knn w h la af nc fc nl fl ns fs kbq kaq kcq kcnq klq klnq knq knnq wq hq laq afq ncq fcq nlq flq nsq fsq))) (Q_X5_keep G sz kx kim kit kv kre ksh kwa kta tf rf gi it kb ka kc kcn kl kln kn knn w h la af nc fc nl fl ns fs kbq kaq kcq kcnq klq klnq knq knnq wq hq laq afq ncq fcq nlq flq nsq fsq j) 0 0 (va_A (w_X5_keep G kx kim kit kv kre ksh kwa kta tf rf gi it kb ka kc kcn kl kln kn knn w h la af nc fc nl fl ns fs kbq kaq kcq kcnq klq klnq knq knnq wq hq laq afq ncq fcq nlq flq nsq fsq) sz) := by
  refine Met.ofW (cc := cX5_keep) (maxL := 3) (ret := (some .int)) (by decide) rfl ?_
  intro pp ee ss mm aa below mt cd s₁ BB hml hv
  obtain ⟨rfl, hsz, hP, hK, hD0⟩ := hv
  have hx := BB.exec
  have hb := BB.bytes
  have hr := BB.returns
  have hts := atoms_spec (ws := wsX5_keep) BB.pre
  have hown : ss.vm.findClass RX5 = some mm.cls := findClass_of_methodNamed BB.named
  have hlocks := BB.notSynchronized
  subst hsz
  have hD := hD0.self (sz := ss.heap.size)
  have hA : ∀ q : Nat, ss.heap.size ≤ q → va_A (w_X5_keep G kx kim kit kv kre ksh kwa kta tf rf gi it kb ka kc kcn kl kln kn knn w h la af nc fc nl fl ns fs kbq kaq kcq kcnq klq klnq knq knnq wq hq laq afq ncq fcq nlq flq nsq fsq) ss.heap.size q := fun q h => Or.inr h
  have hS : va_S (va_A (w_X5_keep G kx kim kit kv kre ksh kwa kta tf rf gi it kb ka kc kcn kl kln kn knn w h la af nc fc nl fl ns fs kbq kaq kcq kcnq klq klnq knq knnq wq hq laq afq ncq fcq nlq flq nsq fsq) ss.heap.size) ss.heap ss.heap [] := va_S.rf
  replace hD : va_D (va_A (w_X5_keep G kx kim kit kv kre ksh kwa kta tf rf gi it kb ka kc kcn kl kln kn knn w h la af nc fc nl fl ns fs kbq kaq kcq kcnq klq klnq knq knnq wq hq laq afq ncq fcq nlq flq nsq fsq) ss.heap.size) [oC kx 5 [.ref kb, .ref kim, .ref kit, .ref kv, .ref kre, .int tf, .ref ksh, .int rf, .ref kwa, .ref kta], kA G kim 2 gi, zA G kit 2 it, oC kb 0 [.int (nI w), .int (nI h), .int (nI la), .ref ka, .ref kc, .ref kl, .ref kn], iA G ka 16 af, oC kc 2 [.ref kcn, .int (nI 10), .int (nI nc)], iA G kcn (3 * 10) fc, oC kl 2 [.ref kln, .int (nI 6), .int (nI nl)], iA G kln (3 * 6) fl, oC kn 2 [.ref knn, .int (nI 8), .int (nI ns)], iA G knn (3 * 8) fs, oC kbq 0 [.int (nI wq), .int (nI hq), .int (nI laq), .ref kaq, .ref kcq, .ref klq, .ref knq], iA G kaq 16 afq, oC kcq 2 [.ref kcnq, .int (nI 10), .int (nI ncq)], iA G kcnq (3 * 10) fcq, oC klq 2 [.ref klnq, .int (nI 6), .int (nI nlq)], iA G klnq (3 * 6) flq, oC knq 2 [.ref knnq, .int (nI 8), .int (nI nsq)], iA G knnq (3 * 8) fsq] := hD
  replace hP : xP G [oC kx 5 [.ref kb, .ref kim, .ref kit, .ref kv, .ref kre, .int tf, .ref ksh, .int rf, .ref kwa, .ref kta], kA G kim 2 gi, zA G kit 2 it, oC kb 0 [.int (nI w), .int (nI h), .int (nI la), .ref ka, .ref kc, .ref kl, .ref kn], iA G ka 16 af, oC kc 2 [.ref kcn, .int (nI 10), .int (nI nc)], iA G kcn (3 * 10) fc, oC kl 2 [.ref kln, .int (nI 6), .int (nI nl)], iA G kln (3 * 6) fl, oC kn 2 [.ref knn, .int (nI 8), .int (nI ns)], iA G knn (3 * 8) fs, oC kbq 0 [.int (nI wq), .int (nI hq), .int (nI laq), .ref kaq, .ref kcq, .ref klq, .ref knq], iA G kaq 16 afq, oC kcq 2 [.ref kcnq, .int (nI 10), .int (nI ncq)], iA G kcnq (3 * 10) fcq, oC klq 2 [.ref klnq, .int (nI 6), .int (nI nlq)], iA G klnq (3 * 6) flq, oC knq 2 [.ref knnq, .int (nI 8), .int (nI nsq)], iA G knnq (3 * 8) fsq] ss.heap := hP
  have hin0 : ∀ w ∈ u_ws RX0 TX0 7, w ∈ wsX5_keep := fun w h => List.mem_cons_of_mem _ (List.mem_append_left _ (List.mem_append_right _ h))
  have hin2 : ∀ w ∈ u_ws RX2 TX2 3, w ∈ wsX5_keep := fun w h => List.mem_cons_of_mem _ (List.mem_append_right _ h)
  have hin5 : ∀ w ∈ u_ws RX5 TX5 10, w ∈ wsX5_keep := fun w h => List.mem_cons_of_mem _ (List.mem_append_left _ (List.mem_append_left _ (List.mem_append_right _ h)))
  have hl := lv_entry ([.ref kx, .int (nI j)]) (n := 3) (Nat.le_of_ble_eq_true rfl)
  rw [lg_entry_eq]
  generalize (lg_sl ([.ref kx, .int (nI j)]) ++ List.replicate (3 - (lg_sl ([.ref kx, .int (nI j)])).length) Slot.unset).toArray = ls at hl ⊢
  replace hl : lv_has ls 3 [(0, .ref kx), (1, .int (nI j))] := hl
  refine lv_iload_n hx hb dX5_keep_0 rfl (lv_at hl 1 rfl) ?_
  refine xn_if_lt (tgt := 9) hx hb (by omega) dX5_keep_1 rfl (fun b1 => absurd b1 (by omega)) (fun _ => ?_)
  refine lv_iload_n hx hb dX5_keep_4 rfl (lv_at hl 1 rfl) ?_
  refine lv_iconst (v := nI 2) hx hb dX5_keep_5 (by decide) ?_
  refine xn_icmp_lt (tgt := 11) hx hb (by omega) (by omega) dX5_keep_6 rfl (fun _ => ?_) (fun b6 => absurd b6 (by omega))
  refine lv_aload_n hx hb dX5_keep_11 rfl (lv_at hl 0 rfl) ?_
  refine va_get (D := G.1) (ci := 5) (v := .ref kit) (C := RX5) (T := TX5) (N := 10) hx hb hts hin5 hown hK.1 hP 0 rfl rfl 2 (by decide) (hts (.fieldLink RX5 20 "BackLenses" "imageThere" "[Z") (List.mem_of_getElem? (i := 1) rfl)) (fun _ h9 => h9) rfl dX5_keep_12 ?_
  refine lv_iload_n hx hb dX5_keep_15 rfl (lv_at hl 1 rfl) ?_
  refine xn_zald hx hb hK hP 2 rfl (by omega) (by omega) dX5_keep_16 ?_
  refine lv_if_eq (tgt := 24) hx hb dX5_keep_17 rfl (fun b17 => ?_) (fun b17 => ?_)
  · skip
    refine lv_iconst (v := nI 0) hx hb dX5_keep_24 (by decide) ?_
    refine lv_istore_n (lv' := [(2, .int (nI 0)), (0, .ref kx), (1, .int (nI j))]) hx hb dX5_keep_25 rfl hl (by decide) rfl (fun ls hl => ?_)
    refine lv_aload_n hx hb dX5_keep_26 rfl (lv_at hl 1 rfl) ?_
    refine va_get (D := G.1) (ci := 5) (v := .ref kim) (C := RX5) (T := TX5) (N := 10) hx hb hts hin5 hown hK.1 hP 0 rfl rfl 1 (by decide) (hts (.fieldLink RX5 16 "BackLenses" "images" "[LBackLenses$Book;") (List.mem_of_getElem? (i := 2) rfl)) (fun _ h9 => h9) rfl dX5_keep_27 ?_
    refine lv_iload_n hx hb dX5_keep_30 rfl (lv_at hl 2 rfl) ?_
    refine xn_aaldk hx hb hK hP 1 rfl (by omega) (by omega) (show _ = some kbq by assumption) dX5_keep_31 ?_
    refine lv_aload_n hx hb dX5_keep_32 rfl (lv_at hl 1 rfl) ?_
    refine va_get (D := G.1) (ci := 5) (v := .ref kb) (C := RX5) (T := TX5) (N := 10) hx hb hts hin5 hown hK.1 hP 0 rfl rfl 0 (by decide) (hts (.fieldLink RX5 10 "BackLenses" "book" "LBackLenses$Book;") (List.mem_of_getElem? (i := 3) rfl)) (fun _ h9 => h9) rfl dX5_keep_33 ?_
    refine xw_v (As := [.ref kb]) (rest := []) (wr := [oC kx 5 [.ref kb, .ref kim, .ref kit, .ref kv, .ref kre, .int tf, .ref ksh, .int rf, .ref kwa, .ref kta], kA G kim 2 gi, zA G kit 2 it]) ⟨hx, hb, hml, hown, hts⟩ (c_X0_become l G ss.heap.size kbq kaq kcq kcnq klq klnq knq knnq wq hq laq afq ncq fcq nlq flq nsq fsq kb ka kc kcn kl kln kn knn w h la af nc fc nl fl ns fs ) (cwV 1 hts gX5_keep_X0_become rfl rfl rfl (by decide +kernel) ⟨Nat.le_of_ble_eq_true rfl, Nat.le_of_ble_eq_true rfl⟩) hK hP hD hS hA [11, 12, 13, 14, 15, 16, 17, 18, 3, 4, 5, 6, 7, 8, 9, 10] [0, 1, 2] rfl rfl (by decide) (by decide) (by decide) rfl rfl rfl hl.1 rfl (Nat.le_of_ble_eq_true rfl) dX5_keep_36 ⟨Nat.le_of_ble_eq_true rfl, Nat.le_of_ble_eq_true rfl⟩ (fun u H locs hp36 hP hD hS => ?_)
    obtain ⟨u0_36, u1_36, u2_36, u3_36⟩ := u
    try dsimp only at hp36 hP hD
    obtain ⟨rfl, rfl, rfl, rfl⟩ := hp36
    replace hP : xP G [oC kx 5 [.ref kb, .ref kim, .ref kit, .ref kv, .ref kre, .int tf, .ref ksh, .int rf, .ref kwa, .ref kta], kA G kim 2 gi, zA G kit 2 it, oC kbq 0 [.int (nI w), .int (nI h), .int (nI la), .ref kaq, .ref kcq, .ref klq, .ref knq], iA G kaq 16 (va_cpy af afq 0 0 16), oC kcq 2 [.ref kcnq, .int (nI 10), .int (nI nc)], iA G kcnq (3 * 10) (va_cpy fc fcq 0 0 (3 * 10)), oC klq 2 [.ref klnq, .int (nI 6), .int (nI nl)], iA G klnq (3 * 6) (va_cpy fl flq 0 0 (3 * 6)), oC knq 2 [.ref knnq, .int (nI 8), .int (nI ns)], iA G knnq (3 * 8) (va_cpy fs fsq 0 0 (3 * 8)), oC kb 0 [.int (nI w), .int (nI h), .int (nI la), .ref ka, .ref kc, .ref kl, .ref kn], iA G ka 16 af, oC kc 2 [.ref kcn, .int (nI 10), .int (nI nc)], iA G kcn (3 * 10) fc, oC kl 2 [.ref kln, .int (nI 6), .int (nI nl)], iA G kln (3 * 6) fl, oC kn 2 [.ref knn, .int (nI 8), .int (nI ns)], iA G knn (3 * 8) fs] H := hP
    replace hD : va_D (va_A (w_X5_keep G kx kim kit kv kre ksh kwa kta tf rf gi it kb ka kc kcn kl kln kn knn w h la af nc fc nl fl ns fs kbq kaq kcq kcnq klq klnq knq knnq wq hq laq afq ncq fcq nlq flq nsq fsq) ss.heap.size) [oC kx 5 [.ref kb, .ref kim, .ref kit, .ref kv, .ref kre, .int tf, .ref ksh, .int rf, .ref kwa, .ref kta], kA G kim 2 gi, zA G kit 2 it, oC kbq 0 [.int (nI w), .int (nI h), .int (nI la), .ref kaq, .ref kcq, .ref klq, .ref knq], iA G kaq 16 (va_cpy af afq 0 0 16), oC kcq 2 [.ref kcnq, .int (nI 10), .int (nI nc)], iA G kcnq (3 * 10) (va_cpy fc fcq 0 0 (3 * 10)), oC klq 2 [.ref klnq, .int (nI 6), .int (nI nl)], iA G klnq (3 * 6) (va_cpy fl flq 0 0 (3 * 6)), oC knq 2 [.ref knnq, .int (nI 8), .int (nI ns)], iA G knnq (3 * 8) (va_cpy fs fsq 0 0 (3 * 8)), oC kb 0 [.int (nI w), .int (nI h), .int (nI la), .ref ka, .ref kc, .ref kl, .ref kn], iA G ka 16 af, oC kc 2 [.ref kcn, .int (nI 10), .int (nI nc)], iA G kcn (3 * 10) fc, oC kl 2 [.ref kln, .int (nI 6), .int (nI nl)], iA G kln (3 * 6) fl, oC kn 2 [.ref knn, .int (nI 8), .int (nI ns)], iA G knn (3 * 8) fs] := hD
    refine lv_aload_n hx hb dX5_keep_39 rfl (lv_at hl 1 rfl) ?_
    refine va_get (D := G.1) (ci := 5) (v := .ref kit) (C := RX5) (T := TX5) (N := 10) hx hb hts hin5 hown hK.1 hP 0 rfl rfl 2 (by decide) (hts (.fieldLink RX5 20 "BackLenses" "imageThere" "[Z") (List.mem_of_getElem? (i := 1) rfl)) (fun _ h9 => h9) rfl dX5_keep_40 ?_
    refine lv_iload_n hx hb dX5_keep_43 rfl (lv_at hl 2 rfl) ?_
    refine lv_iconst (v := nI 1) hx hb dX5_keep_44 (by decide) ?_
    refine xn_zast (y := nI 1) hx hb hK hP hD hS 2 rfl (by omega) (by omega) (by decide) dX5_keep_45 (fun H locs hP hD hS => ?_)
    replace hP : xP G [oC kx 5 [.ref kb, .ref kim, .ref kit, .ref kv, .ref kre, .int tf, .ref ksh, .int rf, .ref kwa, .ref kta], kA G kim 2 gi, zA G kit 2 (upd it j (nI 1)), oC kbq 0 [.int (nI w), .int (nI h), .int (nI la), .ref kaq, .ref kcq, .ref klq, .ref knq], iA G kaq 16 (va_cpy af afq 0 0 16), oC kcq 2 [.ref kcnq, .int (nI 10), .int (nI nc)], iA G kcnq (3 * 10) (va_cpy fc fcq 0 0 (3 * 10)), oC klq 2 [.ref klnq, .int (nI 6), .int (nI nl)], iA G klnq (3 * 6) (va_cpy fl flq 0 0 (3 * 6)), oC knq 2 [.ref knnq, .int (nI 8), .int (nI ns)], iA G knnq (3 * 8) (va_cpy fs fsq 0 0 (3 * 8)), oC kb 0 [.int (nI w), .int (nI h), .int (nI la), .ref ka, .ref kc, .ref kl, .ref kn], iA G ka 16 af, oC kc 2 [.ref kcn, .int (nI 10), .int (nI nc)], iA G kcn (3 * 10) fc, oC kl 2 [.ref kln, .int (nI 6), .int (nI nl)], iA G kln (3 * 6) fl, oC kn 2 [.ref knn, .int (nI 8), .int (nI ns)], iA G knn (3 * 8) fs] H := hP
    replace hD : va_D (va_A (w_X5_keep G kx kim kit kv kre ksh kwa kta tf rf gi it kb ka kc kcn kl kln kn knn w h la af nc fc nl fl ns fs kbq kaq kcq kcnq klq klnq knq knnq wq hq laq afq ncq fcq nlq flq nsq fsq) ss.heap.size) [oC kx 5 [.ref kb, .ref kim, .ref kit, .ref kv, .ref kre, .int tf, .ref ksh, .int rf, .ref kwa, .ref kta], kA G kim 2 gi, zA G kit 2 (upd it j (nI 1)), oC kbq 0 [.int (nI w), .int (nI h), .int (nI la), .ref kaq, .ref kcq, .ref klq, .ref knq], iA G kaq 16 (va_cpy af afq 0 0 16), oC kcq 2 [.ref kcnq, .int (nI 10), .int (nI nc)], iA G kcnq (3 * 10) (va_cpy fc fcq 0 0 (3 * 10)), oC klq 2 [.ref klnq, .int (nI 6), .int (nI nl)], iA G klnq (3 * 6) (va_cpy fl flq 0 0 (3 * 6)), oC knq 2 [.ref knnq, .int (nI 8), .int (nI ns)], iA G knnq (3 * 8) (va_cpy fs fsq 0 0 (3 * 8)), oC kb 0 [.int (nI w), .int (nI h), .int (nI la), .ref ka, .ref kc, .ref kl, .ref kn], iA G ka 16 af, oC kc 2 [.ref kcn, .int (nI 10), .int (nI nc)], iA G kcn (3 * 10) fc, oC kl 2 [.ref kln, .int (nI 6), .int (nI nl)], iA G kln (3 * 6) fl, oC kn 2 [.ref knn, .int (nI 8), .int (nI ns)], iA G knn (3 * 8) fs] := hD
    refine lv_iload_n hx hb dX5_keep_46 rfl (lv_at hl 0 rfl) ?_
    have hP := hP.sub (ws' := [oC kx 5 [.ref kb, .ref kim, .ref kit, .ref kv, .ref kre, .int tf, .ref ksh, .int rf, .ref kwa, .ref kta], kA G kim 2 gi, zA G kit 2 (upd it j (nI 1)), oC kb 0 [.int (nI w), .int (nI h), .int (nI la), .ref ka, .ref kc, .ref kl, .ref kn], iA G ka 16 af, oC kc 2 [.ref kcn, .int (nI 10), .int (nI nc)], iA G kcn (3 * 10) fc, oC kl 2 [.ref kln, .int (nI 6), .int (nI nl)], iA G kln (3 * 6) fl, oC kn 2 [.ref knn, .int (nI 8), .int (nI ns)], iA G knn (3 * 8) fs, oC kbq 0 [.int (nI w), .int (nI h), .int (nI la), .ref kaq, .ref kcq, .ref klq, .ref knq], iA G kaq 16 (va_cpy af afq 0 0 16), oC kcq 2 [.ref kcnq, .int (nI 10), .int (nI nc)], iA G kcnq (3 * 10) (va_cpy fc fcq 0 0 (3 * 10)), oC klq 2 [.ref klnq, .int (nI 6), .int (nI nl)], iA G klnq (3 * 6) (va_cpy fl flq 0 0 (3 * 6)), oC knq 2 [.ref knnq, .int (nI 8), .int (nI ns)], iA G knnq (3 * 8) (va_cpy fs fsq 0 0 (3 * 8))]) [0, 1, 2, 11, 12, 13, 14, 15, 16, 17, 18, 3, 4, 5, 6, 7, 8, 9, 10] rfl
    have hD := hD.sub (ws' := [oC kx 5 [.ref kb, .ref kim, .ref kit, .ref kv, .ref kre, .int tf, .ref ksh, .int rf, .ref kwa, .ref kta], kA G kim 2 gi, zA G kit 2 (upd it j (nI 1)), oC kb 0 [.int (nI w), .int (nI h), .int (nI la), .ref ka, .ref kc, .ref kl, .ref kn], iA G ka 16 af, oC kc 2 [.ref kcn, .int (nI 10), .int (nI nc)], iA G kcn (3 * 10) fc, oC kl 2 [.ref kln, .int (nI 6), .int (nI nl)], iA G kln (3 * 6) fl, oC kn 2 [.ref knn, .int (nI 8), .int (nI ns)], iA G knn (3 * 8) fs, oC kbq 0 [.int (nI w), .int (nI h), .int (nI la), .ref kaq, .ref kcq, .ref klq, .ref knq], iA G kaq 16 (va_cpy af afq 0 0 16), oC kcq 2 [.ref kcnq, .int (nI 10), .int (nI nc)], iA G kcnq (3 * 10) (va_cpy fc fcq 0 0 (3 * 10)), oC klq 2 [.ref klnq, .int (nI 6), .int (nI nl)], iA G klnq (3 * 6) (va_cpy fl flq 0 0 (3 * 6)), oC knq 2 [.ref knnq, .int (nI 8), .int (nI ns)], iA G knnq (3 * 8) (va_cpy fs fsq 0 0 (3 * 8))]) [0, 1, 2, 11, 12, 13, 14, 15, 16, 17, 18, 3, 4, 5, 6, 7, 8, 9, 10] (by decide) rfl
    refine W.iret (v := nI 0) hx hb hr (fun t ht hW => ⟨⟨nI 0, (upd it j (nI 1), (va_cpy af afq 0 0 16), (va_cpy fc fcq 0 0 (3 * 10)), (va_cpy fl flq 0 0 (3 * 6)), (va_cpy fs fsq 0 0 (3 * 8))), rfl, ?_, by rw [ht]; exact hP, hD⟩, hS.F ht⟩) hS.2.2 dX5_keep_47
    try dsimp only
    first | exact ⟨(if_pos b17).symm, rfl, rfl, rfl, rfl, rfl⟩ | exact ⟨(if_neg b17).symm, rfl, rfl, rfl, rfl, rfl⟩
  · skip
    refine lv_iconst (v := nI 1) hx hb dX5_keep_20 (by decide) ?_
    refine lv_goto (tgt := 25) hx hb dX5_keep_21 rfl ?_
    refine lv_istore_n (lv' := [(2, .int (nI 1)), (0, .ref kx), (1, .int (nI j))]) hx hb dX5_keep_25 rfl hl (by decide) rfl (fun ls hl => ?_)
    refine lv_aload_n hx hb dX5_keep_26 rfl (lv_at hl 1 rfl) ?_
    refine va_get (D := G.1) (ci := 5) (v := .ref kim) (C := RX5) (T := TX5) (N := 10) hx hb hts hin5 hown hK.1 hP 0 rfl rfl 1 (by decide) (hts (.fieldLink RX5 16 "BackLenses" "images" "[LBackLenses$Book;") (List.mem_of_getElem? (i := 2) rfl)) (fun _ h9 => h9) rfl dX5_keep_27 ?_
    refine lv_iload_n hx hb dX5_keep_30 rfl (lv_at hl 2 rfl) ?_
    refine xn_aaldk hx hb hK hP 1 rfl (by omega) (by omega) (show _ = some kbq by assumption) dX5_keep_31 ?_
    refine lv_aload_n hx hb dX5_keep_32 rfl (lv_at hl 1 rfl) ?_
    refine va_get (D := G.1) (ci := 5) (v := .ref kb) (C := RX5) (T := TX5) (N := 10) hx hb hts hin5 hown hK.1 hP 0 rfl rfl 0 (by decide) (hts (.fieldLink RX5 10 "BackLenses" "book" "LBackLenses$Book;") (List.mem_of_getElem? (i := 3) rfl)) (fun _ h9 => h9) rfl dX5_keep_33 ?_
    refine xw_v (As := [.ref kb]) (rest := []) (wr := [oC kx 5 [.ref kb, .ref kim, .ref kit, .ref kv, .ref kre, .int tf, .ref ksh, .int rf, .ref kwa, .ref kta], kA G kim 2 gi, zA G kit 2 it]) ⟨hx, hb, hml, hown, hts⟩ (c_X0_become l G ss.heap.size kbq kaq kcq kcnq klq klnq knq knnq wq hq laq afq ncq fcq nlq flq nsq fsq kb ka kc kcn kl kln kn knn w h la af nc fc nl fl ns fs ) (cwV 1 hts gX5_keep_X0_become rfl rfl rfl (by decide +kernel) ⟨Nat.le_of_ble_eq_true rfl, Nat.le_of_ble_eq_true rfl⟩) hK hP hD hS hA [11, 12, 13, 14, 15, 16, 17, 18, 3, 4, 5, 6, 7, 8, 9, 10] [0, 1, 2] rfl rfl (by decide) (by decide) (by decide) rfl rfl rfl hl.1 rfl (Nat.le_of_ble_eq_true rfl) dX5_keep_36 ⟨Nat.le_of_ble_eq_true rfl, Nat.le_of_ble_eq_true rfl⟩ (fun u H locs hp36 hP hD hS => ?_)
    obtain ⟨u0_36, u1_36, u2_36, u3_36⟩ := u
    try dsimp only at hp36 hP hD
    obtain ⟨rfl, rfl, rfl, rfl⟩ := hp36
    replace hP : xP G [oC kx 5 [.ref kb, .ref kim, .ref kit, .ref kv, .ref kre, .int tf, .ref ksh, .int rf, .ref kwa, .ref kta], kA G kim 2 gi, zA G kit 2 it, oC kbq 0 [.int (nI w), .int (nI h), .int (nI la), .ref kaq, .ref kcq, .ref klq, .ref knq], iA G kaq 16 (va_cpy af afq 0 0 16), oC kcq 2 [.ref kcnq, .int (nI 10), .int (nI nc)], iA G kcnq (3 * 10) (va_cpy fc fcq 0 0 (3 * 10)), oC klq 2 [.ref klnq, .int (nI 6), .int (nI nl)], iA G klnq (3 * 6) (va_cpy fl flq 0 0 (3 * 6)), oC knq 2 [.ref knnq, .int (nI 8), .int (nI ns)], iA G knnq (3 * 8) (va_cpy fs fsq 0 0 (3 * 8)), oC kb 0 [.int (nI w), .int (nI h), .int (nI la), .ref ka, .ref kc, .ref kl, .ref kn], iA G ka 16 af, oC kc 2 [.ref kcn, .int (nI 10), .int (nI nc)], iA G kcn (3 * 10) fc, oC kl 2 [.ref kln, .int (nI 6), .int (nI nl)], iA G kln (3 * 6) fl, oC kn 2 [.ref knn, .int (nI 8), .int (nI ns)], iA G knn (3 * 8) fs] H := hP
    replace hD : va_D (va_A (w_X5_keep G kx kim kit kv kre ksh kwa kta tf rf gi it kb ka kc kcn kl kln kn knn w h la af nc fc nl fl ns fs kbq kaq kcq kcnq klq klnq knq knnq wq hq laq afq ncq fcq nlq flq nsq fsq) ss.heap.size) [oC kx 5 [.ref kb, .ref kim, .ref kit, .ref kv, .ref kre, .int tf, .ref ksh, .int rf, .ref kwa, .ref kta], kA G kim 2 gi, zA G kit 2 it, oC kbq 0 [.int (nI w), .int (nI h), .int (nI la), .ref kaq, .ref kcq, .ref klq, .ref knq], iA G kaq 16 (va_cpy af afq 0 0 16), oC kcq 2 [.ref kcnq, .int (nI 10), .int (nI nc)], iA G kcnq (3 * 10) (va_cpy fc fcq 0 0 (3 * 10)), oC klq 2 [.ref klnq, .int (nI 6), .int (nI nl)], iA G klnq (3 * 6) (va_cpy fl flq 0 0 (3 * 6)), oC knq 2 [.ref knnq, .int (nI 8), .int (nI ns)], iA G knnq (3 * 8) (va_cpy fs fsq 0 0 (3 * 8)), oC kb 0 [.int (nI w), .int (nI h), .int (nI la), .ref ka, .ref kc, .ref kl, .ref kn], iA G ka 16 af, oC kc 2 [.ref kcn, .int (nI 10), .int (nI nc)], iA G kcn (3 * 10) fc, oC kl 2 [.ref kln, .int (nI 6), .int (nI nl)], iA G kln (3 * 6) fl, oC kn 2 [.ref knn, .int (nI 8), .int (nI ns)], iA G knn (3 * 8) fs] := hD
    refine lv_aload_n hx hb dX5_keep_39 rfl (lv_at hl 1 rfl) ?_
    refine va_get (D := G.1) (ci := 5) (v := .ref kit) (C := RX5) (T := TX5) (N := 10) hx hb hts hin5 hown hK.1 hP 0 rfl rfl 2 (by decide) (hts (.fieldLink RX5 20 "BackLenses" "imageThere" "[Z") (List.mem_of_getElem? (i := 1) rfl)) (fun _ h9 => h9) rfl dX5_keep_40 ?_
    refine lv_iload_n hx hb dX5_keep_43 rfl (lv_at hl 2 rfl) ?_
    refine lv_iconst (v := nI 1) hx hb dX5_keep_44 (by decide) ?_
    refine xn_zast (y := nI 1) hx hb hK hP hD hS 2 rfl (by omega) (by omega) (by decide) dX5_keep_45 (fun H locs hP hD hS => ?_)
    replace hP : xP G [oC kx 5 [.ref kb, .ref kim, .ref kit, .ref kv, .ref kre, .int tf, .ref ksh, .int rf, .ref kwa, .ref kta], kA G kim 2 gi, zA G kit 2 (upd it j (nI 1)), oC kbq 0 [.int (nI w), .int (nI h), .int (nI la), .ref kaq, .ref kcq, .ref klq, .ref knq], iA G kaq 16 (va_cpy af afq 0 0 16), oC kcq 2 [.ref kcnq, .int (nI 10), .int (nI nc)], iA G kcnq (3 * 10) (va_cpy fc fcq 0 0 (3 * 10)), oC klq 2 [.ref klnq, .int (nI 6), .int (nI nl)], iA G klnq (3 * 6) (va_cpy fl flq 0 0 (3 * 6)), oC knq 2 [.ref knnq, .int (nI 8), .int (nI ns)], iA G knnq (3 * 8) (va_cpy fs fsq 0 0 (3 * 8)), oC kb 0 [.int (nI w), .int (nI h), .int (nI la), .ref ka, .ref kc, .ref kl, .ref kn], iA G ka 16 af, oC kc 2 [.ref kcn, .int (nI 10), .int (nI nc)], iA G kcn (3 * 10) fc, oC kl 2 [.ref kln, .int (nI 6), .int (nI nl)], iA G kln (3 * 6) fl, oC kn 2 [.ref knn, .int (nI 8), .int (nI ns)], iA G knn (3 * 8) fs] H := hP
    replace hD : va_D (va_A (w_X5_keep G kx kim kit kv kre ksh kwa kta tf rf gi it kb ka kc kcn kl kln kn knn w h la af nc fc nl fl ns fs kbq kaq kcq kcnq klq klnq knq knnq wq hq laq afq ncq fcq nlq flq nsq fsq) ss.heap.size) [oC kx 5 [.ref kb, .ref kim, .ref kit, .ref kv, .ref kre, .int tf, .ref ksh, .int rf, .ref kwa, .ref kta], kA G kim 2 gi, zA G kit 2 (upd it j (nI 1)), oC kbq 0 [.int (nI w), .int (nI h), .int (nI la), .ref kaq, .ref kcq, .ref klq, .ref knq], iA G kaq 16 (va_cpy af afq 0 0 16), oC kcq 2 [.ref kcnq, .int (nI 10), .int (nI nc)], iA G kcnq (3 * 10) (va_cpy fc fcq 0 0 (3 * 10)), oC klq 2 [.ref klnq, .int (nI 6), .int (nI nl)], iA G klnq (3 * 6) (va_cpy fl flq 0 0 (3 * 6)), oC knq 2 [.ref knnq, .int (nI 8), .int (nI ns)], iA G knnq (3 * 8) (va_cpy fs fsq 0 0 (3 * 8)), oC kb 0 [.int (nI w), .int (nI h), .int (nI la), .ref ka, .ref kc, .ref kl, .ref kn], iA G ka 16 af, oC kc 2 [.ref kcn, .int (nI 10), .int (nI nc)], iA G kcn (3 * 10) fc, oC kl 2 [.ref kln, .int (nI 6), .int (nI nl)], iA G kln (3 * 6) fl, oC kn 2 [.ref knn, .int (nI 8), .int (nI ns)], iA G knn (3 * 8) fs] := hD
    refine lv_iload_n hx hb dX5_keep_46 rfl (lv_at hl 0 rfl) ?_
    have hP := hP.sub (ws' := [oC kx 5 [.ref kb, .ref kim, .ref kit, .ref kv, .ref kre, .int tf, .ref ksh, .int rf, .ref kwa, .ref kta], kA G kim 2 gi, zA G kit 2 (upd it j (nI 1)), oC kb 0 [.int (nI w), .int (nI h), .int (nI la), .ref ka, .ref kc, .ref kl, .ref kn], iA G ka 16 af, oC kc 2 [.ref kcn, .int (nI 10), .int (nI nc)], iA G kcn (3 * 10) fc, oC kl 2 [.ref kln, .int (nI 6), .int (nI nl)], iA G kln (3 * 6) fl, oC kn 2 [.ref knn, .int (nI 8), .int (nI ns)], iA G knn (3 * 8) fs, oC kbq 0 [.int (nI w), .int (nI h), .int (nI la), .ref kaq, .ref kcq, .ref klq, .ref knq], iA G kaq 16 (va_cpy af afq 0 0 16), oC kcq 2 [.ref kcnq, .int (nI 10), .int (nI nc)], iA G kcnq (3 * 10) (va_cpy fc fcq 0 0 (3 * 10)), oC klq 2 [.ref klnq, .int (nI 6), .int (nI nl)], iA G klnq (3 * 6) (va_cpy fl flq 0 0 (3 * 6)), oC knq 2 [.ref knnq, .int (nI 8), .int (nI ns)], iA G knnq (3 * 8) (va_cpy fs fsq 0 0 (3 * 8))]) [0, 1, 2, 11, 12, 13, 14, 15, 16, 17, 18, 3, 4, 5, 6, 7, 8, 9, 10] rfl
    have hD := hD.sub (ws' := [oC kx 5 [.ref kb, .ref kim, .ref kit, .ref kv, .ref kre, .int tf, .ref ksh, .int rf, .ref kwa, .ref kta], kA G kim 2 gi, zA G kit 2 (upd it j (nI 1)), oC kb 0 [.int (nI w), .int (nI h), .int (nI la), .ref ka, .ref kc, .ref kl, .ref kn], iA G ka 16 af, oC kc 2 [.ref kcn, .int (nI 10), .int (nI nc)], iA G kcn (3 * 10) fc, oC kl 2 [.ref kln, .int (nI 6), .int (nI nl)], iA G kln (3 * 6) fl, oC kn 2 [.ref knn, .int (nI 8), .int (nI ns)], iA G knn (3 * 8) fs, oC kbq 0 [.int (nI w), .int (nI h), .int (nI la), .ref kaq, .ref kcq, .ref klq, .ref knq], iA G kaq 16 (va_cpy af afq 0 0 16), oC kcq 2 [.ref kcnq, .int (nI 10), .int (nI nc)], iA G kcnq (3 * 10) (va_cpy fc fcq 0 0 (3 * 10)), oC klq 2 [.ref klnq, .int (nI 6), .int (nI nl)], iA G klnq (3 * 6) (va_cpy fl flq 0 0 (3 * 6)), oC knq 2 [.ref knnq, .int (nI 8), .int (nI ns)], iA G knnq (3 * 8) (va_cpy fs fsq 0 0 (3 * 8))]) [0, 1, 2, 11, 12, 13, 14, 15, 16, 17, 18, 3, 4, 5, 6, 7, 8, 9, 10] (by decide) rfl
    refine W.iret (v := nI 1) hx hb hr (fun t ht hW => ⟨⟨nI 1, (upd it j (nI 1), (va_cpy af afq 0 0 16), (va_cpy fc fcq 0 0 (3 * 10)), (va_cpy fl flq 0 0 (3 * 6)), (va_cpy fs fsq 0 0 (3 * 8))), rfl, ?_, by rw [ht]; exact hP, hD⟩, hS.F ht⟩) hS.2.2 dX5_keep_47
    try dsimp only
    first | exact ⟨(if_pos b17).symm, rfl, rfl, rfl, rfl, rfl⟩ | exact ⟨(if_neg b17).symm, rfl, rfl, rfl, rfl, rfl⟩

abbrev w_X5_back (G : XG) (kx kim kit kv kre ksh kwa kta : Nat) (tf rf : Int32) (gi : Nat → Option Nat) (it : Nat → Int32) (kb ka kc kcn kl kln kn knn : Nat) (w h la : Nat) (af : Nat → Int32) (nc : Nat) (fc : Nat → Int32) (nl : Nat) (fl : Nat → Int32) (ns : Nat) (fs : Nat → Int32) (kbq kaq kcq kcnq klq klnq knq knnq : Nat) (wq hq laq : Nat) (afq : Nat → Int32) (ncq : Nat) (fcq : Nat → Int32) (nlq : Nat) (flq : Nat → Int32) (nsq : Nat) (fsq : Nat → Int32) (km kg : Nat) (vw vh : Nat) (sl : Int32) : va_W := [oC kx 5 [.ref kb, .ref kim, .ref kit, .ref kv, .ref kre, .int tf, .ref ksh, .int rf, .ref kwa, .ref kta], kA G kim 2 gi, zA G kit 2 it, oC kb 0 [.int (nI w), .int (nI h), .int (nI la), .ref ka, .ref kc, .ref kl, .ref kn], iA G ka 16 af, oC kc 2 [.ref kcn, .int (nI 10), .int (nI nc)], iA G kcn (3 * 10) fc, oC kl 2 [.ref kln, .int (nI 6), .int (nI nl)], iA G kln (3 * 6) fl, oC kn 2 [.ref knn, .int (nI 8), .int (nI ns)], iA G knn (3 * 8) fs, oC kbq 0 [.int (nI wq), .int (nI hq), .int (nI laq), .ref kaq, .ref kcq, .ref klq, .ref knq], iA G kaq 16 afq, oC kcq 2 [.ref kcnq, .int (nI 10), .int (nI ncq)], iA G kcnq (3 * 10) fcq, oC klq 2 [.ref klnq, .int (nI 6), .int (nI nlq)], iA G klnq (3 * 6) flq, oC knq 2 [.ref knnq, .int (nI 8), .int (nI nsq)], iA G knnq (3 * 8) fsq, oC kv 4 [.ref km, .ref kg, .int (nI vw), .int (nI vh), .int sl]]
abbrev Q_X5_back (G : XG) (sz : Nat) (kx kim kit kv kre ksh kwa kta : Nat) (tf rf : Int32) (gi : Nat → Option Nat) (it : Nat → Int32) (kb ka kc kcn kl kln kn knn : Nat) (w h la : Nat) (af : Nat → Int32) (nc : Nat) (fc : Nat → Int32) (nl : Nat) (fl : Nat → Int32) (ns : Nat) (fs : Nat → Int32) (kbq kaq kcq kcnq klq klnq knq knnq : Nat) (wq hq laq : Nat) (afq : Nat → Int32) (ncq : Nat) (fcq : Nat → Int32) (nlq : Nat) (flq : Nat → Int32) (nsq : Nat) (fsq : Nat → Int32) (j : Nat) (km kg : Nat) (vw vh : Nat) (sl : Int32) : Array Value → State → Outcome → State → Prop := (va_Qi (fun (r : Int32) (u : (Nat → Int32) × (Nat → Int32) × (Nat → Int32) × (Nat → Int32)) => r = nI ncq ∧ u.1 = va_cpy afq af 0 0 16 ∧ u.2.1 = va_cpy fcq fc 0 0 (3 * 10) ∧ u.2.2.1 = va_cpy flq fl 0 0 (3 * 6) ∧ u.2.2.2 = va_cpy fsq fs 0 0 (3 * 8)) (xWb G sz (w_X5_back G kx kim kit kv kre ksh kwa kta tf rf gi it kb ka kc kcn kl kln kn knn w h la af nc fc nl fl ns fs kbq kaq kcq kcnq klq klnq knq knnq wq hq laq afq ncq fcq nlq flq nsq fsq km kg vw vh sl) (fun u : (Nat → Int32) × (Nat → Int32) × (Nat → Int32) × (Nat → Int32) => [oC kx 5 [.ref kb, .ref kim, .ref kit, .ref kv, .ref kre, .int tf, .ref ksh, .int rf, .ref kwa, .ref kta], kA G kim 2 gi, zA G kit 2 it, oC kb 0 [.int (nI wq), .int (nI hq), .int (nI laq), .ref ka, .ref kc, .ref kl, .ref kn], iA G ka 16 u.1, oC kc 2 [.ref kcn, .int (nI 10), .int (nI ncq)], iA G kcn (3 * 10) u.2.1, oC kl 2 [.ref kln, .int (nI 6), .int (nI nlq)], iA G kln (3 * 6) u.2.2.1, oC kn 2 [.ref knn, .int (nI 8), .int (nI nsq)], iA G knn (3 * 8) u.2.2.2, oC kbq 0 [.int (nI wq), .int (nI hq), .int (nI laq), .ref kaq, .ref kcq, .ref klq, .ref knq], iA G kaq 16 afq, oC kcq 2 [.ref kcnq, .int (nI 10), .int (nI ncq)], iA G kcnq (3 * 10) fcq, oC klq 2 [.ref klnq, .int (nI 6), .int (nI nlq)], iA G klnq (3 * 6) flq, oC knq 2 [.ref knnq, .int (nI 8), .int (nI nsq)], iA G knnq (3 * 8) fsq, oC kv 4 [.ref km, .ref kg, .int (nI vw), .int (nI vh), .int (nI 1)]])) (va_A (w_X5_back G kx kim kit kv kre ksh kwa kta tf rf gi it kb ka kc kcn kl kln kn knn w h la af nc fc nl fl ns fs kbq kaq kcq kcnq klq klnq knq knnq wq hq laq afq ncq fcq nlq flq nsq fsq km kg vw vh sl) sz))
set_option maxHeartbeats 4000000 in
set_option maxRecDepth 100000 in
theorem c_X5_back (l : Launch) (G : XG) (sz : Nat) (kx kim kit kv kre ksh kwa kta : Nat) (tf rf : Int32) (gi : Nat → Option Nat) (it : Nat → Int32) (kb ka kc kcn kl kln kn knn : Nat) (w h la : Nat) (af : Nat → Int32) (nc : Nat) (fc : Nat → Int32) (nl : Nat) (fl : Nat → Int32) (ns : Nat) (fs : Nat → Int32) (kbq kaq kcq kcnq klq klnq knq knnq : Nat) (wq hq laq : Nat) (afq : Nat → Int32) (ncq : Nat) (fcq : Nat → Int32) (nlq : Nat) (flq : Nat → Int32) (nsq : Nat) (fsq : Nat → Int32) (j : Nat) (km kg : Nat) (vw vh : Nat) (sl : Int32) (hj : j < 2) (hgj : gi j = some kbq) (hit : ¬ it j = 0) : Met l yX5_back wsX5_back ({ frames := 3, cells := 0, slots := 0, locals := 60 } : Room) (va_Pc [.ref kx, .int (nI j)] (xWp G sz (w_X5_back G kx kim kit kv kre ksh kwa kta tf rf gi it kb ka kc kcn kl kln kn knn w h la af nc fc nl fl ns fs kbq kaq kcq kcnq klq klnq knq knnq wq hq laq afq ncq fcq nlq flq nsq fsq km kg vw vh sl))) (Q_X5_back G sz kx kim kit kv kre ksh kwa kta tf rf gi it kb ka kc kcn kl kln kn knn w h la af nc fc nl fl ns fs kbq kaq kcq kcnq klq klnq knq knnq wq hq laq afq ncq fcq nlq flq nsq fsq j km kg vw vh sl) 0 0 (va_A (w_X5_back G kx kim kit kv kre ksh kwa kta tf rf gi it kb ka kc kcn kl kln kn knn w h la af nc fc nl fl ns fs kbq kaq kcq kcnq klq klnq knq knnq wq hq laq afq ncq fcq nlq flq nsq fsq km kg vw vh sl) sz) := by
  refine Met.ofW (cc := cX5_back) (maxL := 2) (ret := (some .int)) (by decide) rfl ?_
  intro pp ee ss mm aa below mt cd s₁ BB hml hv
  obtain ⟨rfl, hsz, hP, hK, hD0⟩ := hv
  have hx := BB.exec
  have hb := BB.bytes
  have hr := BB.returns
  have hts := atoms_spec (ws := wsX5_back) BB.pre
  have hown : ss.vm.findClass RX5 = some mm.cls := findClass_of_methodNamed BB.named
  have hlocks := BB.notSynchronized
  subst hsz
  have hD := hD0.self (sz := ss.heap.size)
  have hA : ∀ q : Nat, ss.heap.size ≤ q → va_A (w_X5_back G kx kim kit kv kre ksh kwa kta tf rf gi it kb ka kc kcn kl kln kn knn w h la af nc fc nl fl ns fs kbq kaq kcq kcnq klq klnq knq knnq wq hq laq afq ncq fcq nlq flq nsq fsq km kg vw vh sl) ss.heap.size q := fun q h => Or.inr h
  have hS : va_S (va_A (w_X5_back G kx kim kit kv kre ksh kwa kta tf rf gi it kb ka kc kcn kl kln kn knn w h la af nc fc nl fl ns fs kbq kaq kcq kcnq klq klnq knq knnq wq hq laq afq ncq fcq nlq flq nsq fsq km kg vw vh sl) ss.heap.size) ss.heap ss.heap [] := va_S.rf
  replace hD : va_D (va_A (w_X5_back G kx kim kit kv kre ksh kwa kta tf rf gi it kb ka kc kcn kl kln kn knn w h la af nc fc nl fl ns fs kbq kaq kcq kcnq klq klnq knq knnq wq hq laq afq ncq fcq nlq flq nsq fsq km kg vw vh sl) ss.heap.size) [oC kx 5 [.ref kb, .ref kim, .ref kit, .ref kv, .ref kre, .int tf, .ref ksh, .int rf, .ref kwa, .ref kta], kA G kim 2 gi, zA G kit 2 it, oC kb 0 [.int (nI w), .int (nI h), .int (nI la), .ref ka, .ref kc, .ref kl, .ref kn], iA G ka 16 af, oC kc 2 [.ref kcn, .int (nI 10), .int (nI nc)], iA G kcn (3 * 10) fc, oC kl 2 [.ref kln, .int (nI 6), .int (nI nl)], iA G kln (3 * 6) fl, oC kn 2 [.ref knn, .int (nI 8), .int (nI ns)], iA G knn (3 * 8) fs, oC kbq 0 [.int (nI wq), .int (nI hq), .int (nI laq), .ref kaq, .ref kcq, .ref klq, .ref knq], iA G kaq 16 afq, oC kcq 2 [.ref kcnq, .int (nI 10), .int (nI ncq)], iA G kcnq (3 * 10) fcq, oC klq 2 [.ref klnq, .int (nI 6), .int (nI nlq)], iA G klnq (3 * 6) flq, oC knq 2 [.ref knnq, .int (nI 8), .int (nI nsq)], iA G knnq (3 * 8) fsq, oC kv 4 [.ref km, .ref kg, .int (nI vw), .int (nI vh), .int sl]] := hD
  replace hP : xP G [oC kx 5 [.ref kb, .ref kim, .ref kit, .ref kv, .ref kre, .int tf, .ref ksh, .int rf, .ref kwa, .ref kta], kA G kim 2 gi, zA G kit 2 it, oC kb 0 [.int (nI w), .int (nI h), .int (nI la), .ref ka, .ref kc, .ref kl, .ref kn], iA G ka 16 af, oC kc 2 [.ref kcn, .int (nI 10), .int (nI nc)], iA G kcn (3 * 10) fc, oC kl 2 [.ref kln, .int (nI 6), .int (nI nl)], iA G kln (3 * 6) fl, oC kn 2 [.ref knn, .int (nI 8), .int (nI ns)], iA G knn (3 * 8) fs, oC kbq 0 [.int (nI wq), .int (nI hq), .int (nI laq), .ref kaq, .ref kcq, .ref klq, .ref knq], iA G kaq 16 afq, oC kcq 2 [.ref kcnq, .int (nI 10), .int (nI ncq)], iA G kcnq (3 * 10) fcq, oC klq 2 [.ref klnq, .int (nI 6), .int (nI nlq)], iA G klnq (3 * 6) flq, oC knq 2 [.ref knnq, .int (nI 8), .int (nI nsq)], iA G knnq (3 * 8) fsq, oC kv 4 [.ref km, .ref kg, .int (nI vw), .int (nI vh), .int sl]] ss.heap := hP
  have hin0 : ∀ w ∈ u_ws RX0 TX0 7, w ∈ wsX5_back := fun w h => List.mem_cons_of_mem _ (List.mem_append_left _ (List.mem_append_right _ h))
  have hin2 : ∀ w ∈ u_ws RX2 TX2 3, w ∈ wsX5_back := fun w h => List.mem_cons_of_mem _ (List.mem_append_right _ h)
  have hin4 : ∀ w ∈ u_ws RX4 TX4 5, w ∈ wsX5_back := fun w h => List.mem_cons_of_mem _ (List.mem_append_left _ (List.mem_append_left _ (List.mem_append_right _ h)))
  have hin5 : ∀ w ∈ u_ws RX5 TX5 10, w ∈ wsX5_back := fun w h => List.mem_cons_of_mem _ (List.mem_append_left _ (List.mem_append_left _ (List.mem_append_left _ (List.mem_append_right _ h))))
  have hl := lv_entry ([.ref kx, .int (nI j)]) (n := 2) (Nat.le_of_ble_eq_true rfl)
  rw [lg_entry_eq]
  generalize (lg_sl ([.ref kx, .int (nI j)]) ++ List.replicate (2 - (lg_sl ([.ref kx, .int (nI j)])).length) Slot.unset).toArray = ls at hl ⊢
  replace hl : lv_has ls 2 [(0, .ref kx), (1, .int (nI j))] := hl
  refine lv_iload_n hx hb dX5_back_0 rfl (lv_at hl 1 rfl) ?_
  refine xn_if_lt (tgt := 9) hx hb (by omega) dX5_back_1 rfl (fun b1 => absurd b1 (by omega)) (fun _ => ?_)
  refine lv_iload_n hx hb dX5_back_4 rfl (lv_at hl 1 rfl) ?_
  refine lv_iconst (v := nI 2) hx hb dX5_back_5 (by decide) ?_
  refine xn_icmp_lt (tgt := 11) hx hb (by omega) (by omega) dX5_back_6 rfl (fun _ => ?_) (fun b6 => absurd b6 (by omega))
  refine lv_aload_n hx hb dX5_back_11 rfl (lv_at hl 0 rfl) ?_
  refine va_get (D := G.1) (ci := 5) (v := .ref kit) (C := RX5) (T := TX5) (N := 10) hx hb hts hin5 hown hK.1 hP 0 rfl rfl 2 (by decide) (hts (.fieldLink RX5 20 "BackLenses" "imageThere" "[Z") (List.mem_of_getElem? (i := 1) rfl)) (fun _ h9 => h9) rfl dX5_back_12 ?_
  refine lv_iload_n hx hb dX5_back_15 rfl (lv_at hl 1 rfl) ?_
  refine xn_zald hx hb hK hP 2 rfl (by omega) (by omega) dX5_back_16 ?_
  refine lv_if_ne (tgt := 23) hx hb dX5_back_17 rfl (fun _ => ?_) (fun b17 => absurd b17 (by first | exact hit | exact absurd b17 hit))
  refine lv_aload_n hx hb dX5_back_23 rfl (lv_at hl 0 rfl) ?_
  refine va_get (D := G.1) (ci := 5) (v := .ref kb) (C := RX5) (T := TX5) (N := 10) hx hb hts hin5 hown hK.1 hP 0 rfl rfl 0 (by decide) (hts (.fieldLink RX5 10 "BackLenses" "book" "LBackLenses$Book;") (List.mem_of_getElem? (i := 2) rfl)) (fun _ h9 => h9) rfl dX5_back_24 ?_
  refine lv_aload_n hx hb dX5_back_27 rfl (lv_at hl 0 rfl) ?_
  refine va_get (D := G.1) (ci := 5) (v := .ref kim) (C := RX5) (T := TX5) (N := 10) hx hb hts hin5 hown hK.1 hP 0 rfl rfl 1 (by decide) (hts (.fieldLink RX5 16 "BackLenses" "images" "[LBackLenses$Book;") (List.mem_of_getElem? (i := 3) rfl)) (fun _ h9 => h9) rfl dX5_back_28 ?_
  refine lv_iload_n hx hb dX5_back_31 rfl (lv_at hl 1 rfl) ?_
  refine xn_aaldk hx hb hK hP 1 rfl (by omega) (by omega) (show _ = some kbq by assumption) dX5_back_32 ?_
  refine xw_v (As := [.ref kbq]) (rest := []) (wr := [oC kx 5 [.ref kb, .ref kim, .ref kit, .ref kv, .ref kre, .int tf, .ref ksh, .int rf, .ref kwa, .ref kta], kA G kim 2 gi, zA G kit 2 it, oC kv 4 [.ref km, .ref kg, .int (nI vw), .int (nI vh), .int sl]]) ⟨hx, hb, hml, hown, hts⟩ (c_X0_become l G ss.heap.size kb ka kc kcn kl kln kn knn w h la af nc fc nl fl ns fs kbq kaq kcq kcnq klq klnq knq knnq wq hq laq afq ncq fcq nlq flq nsq fsq ) (cwV 1 hts gX5_back_X0_become rfl rfl rfl (by decide +kernel) ⟨Nat.le_of_ble_eq_true rfl, Nat.le_of_ble_eq_true rfl⟩) hK hP hD hS hA [3, 4, 5, 6, 7, 8, 9, 10, 11, 12, 13, 14, 15, 16, 17, 18] [0, 1, 2, 19] rfl rfl (by decide) (by decide) (by decide) rfl rfl rfl hl.1 rfl (Nat.le_of_ble_eq_true rfl) dX5_back_33 ⟨Nat.le_of_ble_eq_true rfl, Nat.le_of_ble_eq_true rfl⟩ (fun u H locs hp33 hP hD hS => ?_)
  obtain ⟨u0_33, u1_33, u2_33, u3_33⟩ := u
  try dsimp only at hp33 hP hD
  obtain ⟨rfl, rfl, rfl, rfl⟩ := hp33
  replace hP : xP G [oC kx 5 [.ref kb, .ref kim, .ref kit, .ref kv, .ref kre, .int tf, .ref ksh, .int rf, .ref kwa, .ref kta], kA G kim 2 gi, zA G kit 2 it, oC kv 4 [.ref km, .ref kg, .int (nI vw), .int (nI vh), .int sl], oC kb 0 [.int (nI wq), .int (nI hq), .int (nI laq), .ref ka, .ref kc, .ref kl, .ref kn], iA G ka 16 (va_cpy afq af 0 0 16), oC kc 2 [.ref kcn, .int (nI 10), .int (nI ncq)], iA G kcn (3 * 10) (va_cpy fcq fc 0 0 (3 * 10)), oC kl 2 [.ref kln, .int (nI 6), .int (nI nlq)], iA G kln (3 * 6) (va_cpy flq fl 0 0 (3 * 6)), oC kn 2 [.ref knn, .int (nI 8), .int (nI nsq)], iA G knn (3 * 8) (va_cpy fsq fs 0 0 (3 * 8)), oC kbq 0 [.int (nI wq), .int (nI hq), .int (nI laq), .ref kaq, .ref kcq, .ref klq, .ref knq], iA G kaq 16 afq, oC kcq 2 [.ref kcnq, .int (nI 10), .int (nI ncq)], iA G kcnq (3 * 10) fcq, oC klq 2 [.ref klnq, .int (nI 6), .int (nI nlq)], iA G klnq (3 * 6) flq, oC knq 2 [.ref knnq, .int (nI 8), .int (nI nsq)], iA G knnq (3 * 8) fsq] H := hP
  replace hD : va_D (va_A (w_X5_back G kx kim kit kv kre ksh kwa kta tf rf gi it kb ka kc kcn kl kln kn knn w h la af nc fc nl fl ns fs kbq kaq kcq kcnq klq klnq knq knnq wq hq laq afq ncq fcq nlq flq nsq fsq km kg vw vh sl) ss.heap.size) [oC kx 5 [.ref kb, .ref kim, .ref kit, .ref kv, .ref kre, .int tf, .ref ksh, .int rf, .ref kwa, .ref kta], kA G kim 2 gi, zA G kit 2 it, oC kv 4 [.ref km, .ref kg, .int (nI vw), .int (nI vh), .int sl], oC kb 0 [.int (nI wq), .int (nI hq), .int (nI laq), .ref ka, .ref kc, .ref kl, .ref kn], iA G ka 16 (va_cpy afq af 0 0 16), oC kc 2 [.ref kcn, .int (nI 10), .int (nI ncq)], iA G kcn (3 * 10) (va_cpy fcq fc 0 0 (3 * 10)), oC kl 2 [.ref kln, .int (nI 6), .int (nI nlq)], iA G kln (3 * 6) (va_cpy flq fl 0 0 (3 * 6)), oC kn 2 [.ref knn, .int (nI 8), .int (nI nsq)], iA G knn (3 * 8) (va_cpy fsq fs 0 0 (3 * 8)), oC kbq 0 [.int (nI wq), .int (nI hq), .int (nI laq), .ref kaq, .ref kcq, .ref klq, .ref knq], iA G kaq 16 afq, oC kcq 2 [.ref kcnq, .int (nI 10), .int (nI ncq)], iA G kcnq (3 * 10) fcq, oC klq 2 [.ref klnq, .int (nI 6), .int (nI nlq)], iA G klnq (3 * 6) flq, oC knq 2 [.ref knnq, .int (nI 8), .int (nI nsq)], iA G knnq (3 * 8) fsq] := hD
  refine lv_aload_n hx hb dX5_back_36 rfl (lv_at hl 0 rfl) ?_
  refine va_get (D := G.1) (ci := 5) (v := .ref kv) (C := RX5) (T := TX5) (N := 10) hx hb hts hin5 hown hK.1 hP 0 rfl rfl 3 (by decide) (hts (.fieldLink RX5 27 "BackLenses" "views" "LBackLenses$Views;") (List.mem_of_getElem? (i := 4) rfl)) (fun _ h9 => h9) rfl dX5_back_37 ?_
  refine lv_iconst (v := nI 1) hx hb dX5_back_40 (by decide) ?_
  refine va_putN (D := G.1) (ci := 4) (v := .int (nI 1)) (ty := .boolean) (C := RX4) (T := TX4) (N := 5) hx hb hts hin4 tyX4 tyX4_ok nmX4 hown hK.1 hP hD hS 3 rfl rfl 4 (by decide) (va_Nw.use rfl (hK.2 (Cond.fieldLinkNest "BackLenses" (77 : Nat) "BackLenses$Views" "stale" "Z" "BackLenses") (List.mem_of_getElem? (i := 22) rfl))) (fun _ h9 => h9) rfl (by decide +kernel) (by decide) (by decide) (Nat.le_of_ble_eq_true rfl) dX5_back_41 (fun H locs hP hD hS => ?_)
  replace hP : xP G [oC kx 5 [.ref kb, .ref kim, .ref kit, .ref kv, .ref kre, .int tf, .ref ksh, .int rf, .ref kwa, .ref kta], kA G kim 2 gi, zA G kit 2 it, oC kv 4 [.ref km, .ref kg, .int (nI vw), .int (nI vh), .int (nI 1)], oC kb 0 [.int (nI wq), .int (nI hq), .int (nI laq), .ref ka, .ref kc, .ref kl, .ref kn], iA G ka 16 (va_cpy afq af 0 0 16), oC kc 2 [.ref kcn, .int (nI 10), .int (nI ncq)], iA G kcn (3 * 10) (va_cpy fcq fc 0 0 (3 * 10)), oC kl 2 [.ref kln, .int (nI 6), .int (nI nlq)], iA G kln (3 * 6) (va_cpy flq fl 0 0 (3 * 6)), oC kn 2 [.ref knn, .int (nI 8), .int (nI nsq)], iA G knn (3 * 8) (va_cpy fsq fs 0 0 (3 * 8)), oC kbq 0 [.int (nI wq), .int (nI hq), .int (nI laq), .ref kaq, .ref kcq, .ref klq, .ref knq], iA G kaq 16 afq, oC kcq 2 [.ref kcnq, .int (nI 10), .int (nI ncq)], iA G kcnq (3 * 10) fcq, oC klq 2 [.ref klnq, .int (nI 6), .int (nI nlq)], iA G klnq (3 * 6) flq, oC knq 2 [.ref knnq, .int (nI 8), .int (nI nsq)], iA G knnq (3 * 8) fsq] H := hP
  replace hD : va_D (va_A (w_X5_back G kx kim kit kv kre ksh kwa kta tf rf gi it kb ka kc kcn kl kln kn knn w h la af nc fc nl fl ns fs kbq kaq kcq kcnq klq klnq knq knnq wq hq laq afq ncq fcq nlq flq nsq fsq km kg vw vh sl) ss.heap.size) [oC kx 5 [.ref kb, .ref kim, .ref kit, .ref kv, .ref kre, .int tf, .ref ksh, .int rf, .ref kwa, .ref kta], kA G kim 2 gi, zA G kit 2 it, oC kv 4 [.ref km, .ref kg, .int (nI vw), .int (nI vh), .int (nI 1)], oC kb 0 [.int (nI wq), .int (nI hq), .int (nI laq), .ref ka, .ref kc, .ref kl, .ref kn], iA G ka 16 (va_cpy afq af 0 0 16), oC kc 2 [.ref kcn, .int (nI 10), .int (nI ncq)], iA G kcn (3 * 10) (va_cpy fcq fc 0 0 (3 * 10)), oC kl 2 [.ref kln, .int (nI 6), .int (nI nlq)], iA G kln (3 * 6) (va_cpy flq fl 0 0 (3 * 6)), oC kn 2 [.ref knn, .int (nI 8), .int (nI nsq)], iA G knn (3 * 8) (va_cpy fsq fs 0 0 (3 * 8)), oC kbq 0 [.int (nI wq), .int (nI hq), .int (nI laq), .ref kaq, .ref kcq, .ref klq, .ref knq], iA G kaq 16 afq, oC kcq 2 [.ref kcnq, .int (nI 10), .int (nI ncq)], iA G kcnq (3 * 10) fcq, oC klq 2 [.ref klnq, .int (nI 6), .int (nI nlq)], iA G klnq (3 * 6) flq, oC knq 2 [.ref knnq, .int (nI 8), .int (nI nsq)], iA G knnq (3 * 8) fsq] := hD
  refine lv_aload_n hx hb dX5_back_44 rfl (lv_at hl 0 rfl) ?_
  refine va_get (D := G.1) (ci := 5) (v := .ref kb) (C := RX5) (T := TX5) (N := 10) hx hb hts hin5 hown hK.1 hP 0 rfl rfl 0 (by decide) (hts (.fieldLink RX5 10 "BackLenses" "book" "LBackLenses$Book;") (List.mem_of_getElem? (i := 2) rfl)) (fun _ h9 => h9) rfl dX5_back_45 ?_
  refine va_getN (D := G.1) (ci := 0) (v := .ref kc) (C := RX0) (T := TX0) (N := 7) hx hb hts hin0 hown hK.1 hP 4 rfl rfl 4 (by decide) (va_Nw.use rfl (hK.2 (Cond.fieldLinkNest "BackLenses" (93 : Nat) "BackLenses$Book" "changes" "LBackLenses$Rows;" "BackLenses") (List.mem_of_getElem? (i := 18) rfl))) (fun _ h9 => h9) rfl dX5_back_48 ?_
  refine va_getN (D := G.1) (ci := 2) (v := .int (nI ncq)) (C := RX2) (T := TX2) (N := 3) hx hb hts hin2 hown hK.1 hP 6 rfl rfl 2 (by decide) (va_Nw.use rfl (hK.2 (Cond.fieldLinkNest "BackLenses" (97 : Nat) "BackLenses$Rows" "size" "I" "BackLenses") (List.mem_of_getElem? (i := 3) rfl))) (fun _ h9 => h9) rfl dX5_back_51 ?_
  have hP := hP.sub (ws' := [oC kx 5 [.ref kb, .ref kim, .ref kit, .ref kv, .ref kre, .int tf, .ref ksh, .int rf, .ref kwa, .ref kta], kA G kim 2 gi, zA G kit 2 it, oC kb 0 [.int (nI wq), .int (nI hq), .int (nI laq), .ref ka, .ref kc, .ref kl, .ref kn], iA G ka 16 (va_cpy afq af 0 0 16), oC kc 2 [.ref kcn, .int (nI 10), .int (nI ncq)], iA G kcn (3 * 10) (va_cpy fcq fc 0 0 (3 * 10)), oC kl 2 [.ref kln, .int (nI 6), .int (nI nlq)], iA G kln (3 * 6) (va_cpy flq fl 0 0 (3 * 6)), oC kn 2 [.ref knn, .int (nI 8), .int (nI nsq)], iA G knn (3 * 8) (va_cpy fsq fs 0 0 (3 * 8)), oC kbq 0 [.int (nI wq), .int (nI hq), .int (nI laq), .ref kaq, .ref kcq, .ref klq, .ref knq], iA G kaq 16 afq, oC kcq 2 [.ref kcnq, .int (nI 10), .int (nI ncq)], iA G kcnq (3 * 10) fcq, oC klq 2 [.ref klnq, .int (nI 6), .int (nI nlq)], iA G klnq (3 * 6) flq, oC knq 2 [.ref knnq, .int (nI 8), .int (nI nsq)], iA G knnq (3 * 8) fsq, oC kv 4 [.ref km, .ref kg, .int (nI vw), .int (nI vh), .int (nI 1)]]) [0, 1, 2, 4, 5, 6, 7, 8, 9, 10, 11, 12, 13, 14, 15, 16, 17, 18, 19, 3] rfl
  have hD := hD.sub (ws' := [oC kx 5 [.ref kb, .ref kim, .ref kit, .ref kv, .ref kre, .int tf, .ref ksh, .int rf, .ref kwa, .ref kta], kA G kim 2 gi, zA G kit 2 it, oC kb 0 [.int (nI wq), .int (nI hq), .int (nI laq), .ref ka, .ref kc, .ref kl, .ref kn], iA G ka 16 (va_cpy afq af 0 0 16), oC kc 2 [.ref kcn, .int (nI 10), .int (nI ncq)], iA G kcn (3 * 10) (va_cpy fcq fc 0 0 (3 * 10)), oC kl 2 [.ref kln, .int (nI 6), .int (nI nlq)], iA G kln (3 * 6) (va_cpy flq fl 0 0 (3 * 6)), oC kn 2 [.ref knn, .int (nI 8), .int (nI nsq)], iA G knn (3 * 8) (va_cpy fsq fs 0 0 (3 * 8)), oC kbq 0 [.int (nI wq), .int (nI hq), .int (nI laq), .ref kaq, .ref kcq, .ref klq, .ref knq], iA G kaq 16 afq, oC kcq 2 [.ref kcnq, .int (nI 10), .int (nI ncq)], iA G kcnq (3 * 10) fcq, oC klq 2 [.ref klnq, .int (nI 6), .int (nI nlq)], iA G klnq (3 * 6) flq, oC knq 2 [.ref knnq, .int (nI 8), .int (nI nsq)], iA G knnq (3 * 8) fsq, oC kv 4 [.ref km, .ref kg, .int (nI vw), .int (nI vh), .int (nI 1)]]) [0, 1, 2, 4, 5, 6, 7, 8, 9, 10, 11, 12, 13, 14, 15, 16, 17, 18, 19, 3] (by decide) rfl
  refine W.iret (v := nI ncq) hx hb hr (fun t ht hW => ⟨⟨nI ncq, ((va_cpy afq af 0 0 16), (va_cpy fcq fc 0 0 (3 * 10)), (va_cpy flq fl 0 0 (3 * 6)), (va_cpy fsq fs 0 0 (3 * 8))), rfl, ?_, by rw [ht]; exact hP, hD⟩, hS.F ht⟩) hS.2.2 dX5_back_54
  try dsimp only
  exact ⟨rfl, rfl, rfl, rfl, rfl⟩

abbrev w_X5_back_n (G : XG) (kx kim kit kv kre ksh kwa kta : Nat) (tf rf : Int32) (kb : Nat) (it : Nat → Int32) : va_W := [oC kx 5 [.ref kb, .ref kim, .ref kit, .ref kv, .ref kre, .int tf, .ref ksh, .int rf, .ref kwa, .ref kta], zA G kit 2 it]
abbrev Q_X5_back_n (G : XG) (kx kim kit kv kre ksh kwa kta : Nat) (tf rf : Int32) (kb : Nat) (it : Nat → Int32) (j : Nat) : Array Value → State → Outcome → State → Prop := (xRi (fun r => r = (-2)))
set_option maxHeartbeats 4000000 in
set_option maxRecDepth 100000 in
theorem c_X5_back_n (l : Launch) (G : XG) (kx kim kit kv kre ksh kwa kta : Nat) (tf rf : Int32) (kb : Nat) (it : Nat → Int32) (j : Nat) (hj : j < 2) (hit : it j = 0) : Met l yX5_back wsX5_back ({ frames := 0, cells := 0, slots := 0, locals := 0 } : Room) (va_Pc [.ref kx, .int (nI j)] (xRp G (w_X5_back_n G kx kim kit kv kre ksh kwa kta tf rf kb it))) (Q_X5_back_n G kx kim kit kv kre ksh kwa kta tf rf kb it j) 0 0 (fun _ => False) := by
  refine Met.ofW (cc := cX5_back) (maxL := 2) (ret := (some .int)) (by decide) rfl ?_
  intro pp ee ss mm aa below mt cd s₁ BB hml hv
  obtain ⟨rfl, hP, hK⟩ := hv
  have hx := BB.exec
  have hb := BB.bytes
  have hr := BB.returns
  have hts := atoms_spec (ws := wsX5_back) BB.pre
  have hown : ss.vm.findClass RX5 = some mm.cls := findClass_of_methodNamed BB.named
  have hlocks := BB.notSynchronized
  have hS : va_S (fun _ => False) ss.heap ss.heap [] := va_S.rf
  replace hP : xP G [oC kx 5 [.ref kb, .ref kim, .ref kit, .ref kv, .ref kre, .int tf, .ref ksh, .int rf, .ref kwa, .ref kta], zA G kit 2 it] ss.heap := hP
  have hin0 : ∀ w ∈ u_ws RX0 TX0 7, w ∈ wsX5_back := fun w h => List.mem_cons_of_mem _ (List.mem_append_left _ (List.mem_append_right _ h))
  have hin2 : ∀ w ∈ u_ws RX2 TX2 3, w ∈ wsX5_back := fun w h => List.mem_cons_of_mem _ (List.mem_append_right _ h)
  have hin4 : ∀ w ∈ u_ws RX4 TX4 5, w ∈ wsX5_back := fun w h => List.mem_cons_of_mem _ (List.mem_append_left _ (List.mem_append_left _ (List.mem_append_right _ h)))
  have hin5 : ∀ w ∈ u_ws RX5 TX5 10, w ∈ wsX5_back := fun w h => List.mem_cons_of_mem _ (List.mem_append_left _ (List.mem_append_left _ (List.mem_append_left _ (List.mem_append_right _ h))))
  have hl := lv_entry ([.ref kx, .int (nI j)]) (n := 2) (Nat.le_of_ble_eq_true rfl)
  rw [lg_entry_eq]
  generalize (lg_sl ([.ref kx, .int (nI j)]) ++ List.replicate (2 - (lg_sl ([.ref kx, .int (nI j)])).length) Slot.unset).toArray = ls at hl ⊢
  replace hl : lv_has ls 2 [(0, .ref kx), (1, .int (nI j))] := hl
  refine lv_iload_n hx hb dX5_back_0 rfl (lv_at hl 1 rfl) ?_
  refine xn_if_lt (tgt := 9) hx hb (by omega) dX5_back_1 rfl (fun b1 => absurd b1 (by omega)) (fun _ => ?_)
  refine lv_iload_n hx hb dX5_back_4 rfl (lv_at hl 1 rfl) ?_
  refine lv_iconst (v := nI 2) hx hb dX5_back_5 (by decide) ?_
  refine xn_icmp_lt (tgt := 11) hx hb (by omega) (by omega) dX5_back_6 rfl (fun _ => ?_) (fun b6 => absurd b6 (by omega))
  refine lv_aload_n hx hb dX5_back_11 rfl (lv_at hl 0 rfl) ?_
  refine va_get (D := G.1) (ci := 5) (v := .ref kit) (C := RX5) (T := TX5) (N := 10) hx hb hts hin5 hown hK.1 hP 0 rfl rfl 2 (by decide) (hts (.fieldLink RX5 20 "BackLenses" "imageThere" "[Z") (List.mem_of_getElem? (i := 1) rfl)) (fun _ h9 => h9) rfl dX5_back_12 ?_
  refine lv_iload_n hx hb dX5_back_15 rfl (lv_at hl 1 rfl) ?_
  refine xn_zald hx hb hK hP 1 rfl (by omega) (by omega) dX5_back_16 ?_
  refine lv_if_ne (tgt := 23) hx hb dX5_back_17 rfl (fun b17 => absurd b17 (by exact fun q => q hit)) (fun _ => ?_)
  refine lv_bipush (v := (-2)) hx hb dX5_back_20 (by decide) ?_
  refine W.iret (v := (-2)) hx hb hr (fun t ht hW => ⟨⟨(-2), (), rfl, ?_, trivial⟩, hS.F ht⟩) hS.2.2 dX5_back_22
  rfl

abbrev w_X5_keep_b (G : XG) (kx kim kit kv kre ksh kwa kta : Nat) (tf rf : Int32) (kb : Nat) : va_W := [oC kx 5 [.ref kb, .ref kim, .ref kit, .ref kv, .ref kre, .int tf, .ref ksh, .int rf, .ref kwa, .ref kta]]
abbrev Q_X5_keep_b (G : XG) (kx kim kit kv kre ksh kwa kta : Nat) (tf rf : Int32) (kb : Nat) (k : Int32) : Array Value → State → Outcome → State → Prop := (xRi (fun r => r = (-1)))
set_option maxHeartbeats 4000000 in
set_option maxRecDepth 100000 in
theorem c_X5_keep_b (l : Launch) (G : XG) (kx kim kit kv kre ksh kwa kta : Nat) (tf rf : Int32) (kb : Nat) (k : Int32) (hk : ¬ inR k 2) : Met l yX5_keep wsX5_keep ({ frames := 0, cells := 0, slots := 0, locals := 0 } : Room) (va_Pc [.ref kx, .int k] (xRp G (w_X5_keep_b G kx kim kit kv kre ksh kwa kta tf rf kb))) (Q_X5_keep_b G kx kim kit kv kre ksh kwa kta tf rf kb k) 0 0 (fun _ => False) := by
  refine Met.ofW (cc := cX5_keep) (maxL := 3) (ret := (some .int)) (by decide) rfl ?_
  intro pp ee ss mm aa below mt cd s₁ BB hml hv
  obtain ⟨rfl, hP, hK⟩ := hv
  have hx := BB.exec
  have hb := BB.bytes
  have hr := BB.returns
  have hts := atoms_spec (ws := wsX5_keep) BB.pre
  have hown : ss.vm.findClass RX5 = some mm.cls := findClass_of_methodNamed BB.named
  have hlocks := BB.notSynchronized
  have hS : va_S (fun _ => False) ss.heap ss.heap [] := va_S.rf
  replace hP : xP G [oC kx 5 [.ref kb, .ref kim, .ref kit, .ref kv, .ref kre, .int tf, .ref ksh, .int rf, .ref kwa, .ref kta]] ss.heap := hP
  have hin0 : ∀ w ∈ u_ws RX0 TX0 7, w ∈ wsX5_keep := fun w h => List.mem_cons_of_mem _ (List.mem_append_left _ (List.mem_append_right _ h))
  have hin2 : ∀ w ∈ u_ws RX2 TX2 3, w ∈ wsX5_keep := fun w h => List.mem_cons_of_mem _ (List.mem_append_right _ h)
  have hin5 : ∀ w ∈ u_ws RX5 TX5 10, w ∈ wsX5_keep := fun w h => List.mem_cons_of_mem _ (List.mem_append_left _ (List.mem_append_left _ (List.mem_append_right _ h)))
  have hl := lv_entry ([.ref kx, .int k]) (n := 3) (Nat.le_of_ble_eq_true rfl)
  rw [lg_entry_eq]
  generalize (lg_sl ([.ref kx, .int k]) ++ List.replicate (3 - (lg_sl ([.ref kx, .int k])).length) Slot.unset).toArray = ls at hl ⊢
  replace hl : lv_has ls 3 [(0, .ref kx), (1, .int k)] := hl
  refine lv_iload_n hx hb dX5_keep_0 rfl (lv_at hl 1 rfl) ?_
  refine xi_if_lt (tgt := 9) hx hb dX5_keep_1 rfl (fun b1 => ?_) (fun b1 => ?_)
  · skip
    refine lv_iconst (v := (-1)) hx hb dX5_keep_9 (by decide) ?_
    refine W.iret (v := (-1)) hx hb hr (fun t ht hW => ⟨⟨(-1), (), rfl, ?_, trivial⟩, hS.F ht⟩) hS.2.2 dX5_keep_10
    rfl
  · skip
    refine lv_iload_n hx hb dX5_keep_4 rfl (lv_at hl 1 rfl) ?_
    refine lv_iconst (v := nI 2) hx hb dX5_keep_5 (by decide) ?_
    refine xm_icmp_lt (tgt := 11) hx hb (by omega) dX5_keep_6 rfl (fun b6 => ?_) (fun b6 => ?_)
    · skip
      exact absurd (show inR k 2 by unfold inR; omega) hk
    · skip
      refine lv_iconst (v := (-1)) hx hb dX5_keep_9 (by decide) ?_
      refine W.iret (v := (-1)) hx hb hr (fun t ht hW => ⟨⟨(-1), (), rfl, ?_, trivial⟩, hS.F ht⟩) hS.2.2 dX5_keep_10
      rfl

abbrev w_X5_back_b (G : XG) (kx kim kit kv kre ksh kwa kta : Nat) (tf rf : Int32) (kb : Nat) : va_W := [oC kx 5 [.ref kb, .ref kim, .ref kit, .ref kv, .ref kre, .int tf, .ref ksh, .int rf, .ref kwa, .ref kta]]
abbrev Q_X5_back_b (G : XG) (kx kim kit kv kre ksh kwa kta : Nat) (tf rf : Int32) (kb : Nat) (k : Int32) : Array Value → State → Outcome → State → Prop := (xRi (fun r => r = (-1)))
set_option maxHeartbeats 4000000 in
set_option maxRecDepth 100000 in
theorem c_X5_back_b (l : Launch) (G : XG) (kx kim kit kv kre ksh kwa kta : Nat) (tf rf : Int32) (kb : Nat) (k : Int32) (hk : ¬ inR k 2) : Met l yX5_back wsX5_back ({ frames := 0, cells := 0, slots := 0, locals := 0 } : Room) (va_Pc [.ref kx, .int k] (xRp G (w_X5_back_b G kx kim kit kv kre ksh kwa kta tf rf kb))) (Q_X5_back_b G kx kim kit kv kre ksh kwa kta tf rf kb k) 0 0 (fun _ => False) := by
  refine Met.ofW (cc := cX5_back) (maxL := 2) (ret := (some .int)) (by decide) rfl ?_
  intro pp ee ss mm aa below mt cd s₁ BB hml hv
  obtain ⟨rfl, hP, hK⟩ := hv
  have hx := BB.exec
  have hb := BB.bytes
  have hr := BB.returns
  have hts := atoms_spec (ws := wsX5_back) BB.pre
  have hown : ss.vm.findClass RX5 = some mm.cls := findClass_of_methodNamed BB.named
  have hlocks := BB.notSynchronized
  have hS : va_S (fun _ => False) ss.heap ss.heap [] := va_S.rf
  replace hP : xP G [oC kx 5 [.ref kb, .ref kim, .ref kit, .ref kv, .ref kre, .int tf, .ref ksh, .int rf, .ref kwa, .ref kta]] ss.heap := hP
  have hin0 : ∀ w ∈ u_ws RX0 TX0 7, w ∈ wsX5_back := fun w h => List.mem_cons_of_mem _ (List.mem_append_left _ (List.mem_append_right _ h))
  have hin2 : ∀ w ∈ u_ws RX2 TX2 3, w ∈ wsX5_back := fun w h => List.mem_cons_of_mem _ (List.mem_append_right _ h)
  have hin4 : ∀ w ∈ u_ws RX4 TX4 5, w ∈ wsX5_back := fun w h => List.mem_cons_of_mem _ (List.mem_append_left _ (List.mem_append_left _ (List.mem_append_right _ h)))
  have hin5 : ∀ w ∈ u_ws RX5 TX5 10, w ∈ wsX5_back := fun w h => List.mem_cons_of_mem _ (List.mem_append_left _ (List.mem_append_left _ (List.mem_append_left _ (List.mem_append_right _ h))))
  have hl := lv_entry ([.ref kx, .int k]) (n := 2) (Nat.le_of_ble_eq_true rfl)
  rw [lg_entry_eq]
  generalize (lg_sl ([.ref kx, .int k]) ++ List.replicate (2 - (lg_sl ([.ref kx, .int k])).length) Slot.unset).toArray = ls at hl ⊢
  replace hl : lv_has ls 2 [(0, .ref kx), (1, .int k)] := hl
  refine lv_iload_n hx hb dX5_back_0 rfl (lv_at hl 1 rfl) ?_
  refine xi_if_lt (tgt := 9) hx hb dX5_back_1 rfl (fun b1 => ?_) (fun b1 => ?_)
  · skip
    refine lv_iconst (v := (-1)) hx hb dX5_back_9 (by decide) ?_
    refine W.iret (v := (-1)) hx hb hr (fun t ht hW => ⟨⟨(-1), (), rfl, ?_, trivial⟩, hS.F ht⟩) hS.2.2 dX5_back_10
    rfl
  · skip
    refine lv_iload_n hx hb dX5_back_4 rfl (lv_at hl 1 rfl) ?_
    refine lv_iconst (v := nI 2) hx hb dX5_back_5 (by decide) ?_
    refine xm_icmp_lt (tgt := 11) hx hb (by omega) dX5_back_6 rfl (fun b6 => ?_) (fun b6 => ?_)
    · skip
      exact absurd (show inR k 2 by unfold inR; omega) hk
    · skip
      refine lv_iconst (v := (-1)) hx hb dX5_back_9 (by decide) ?_
      refine W.iret (v := (-1)) hx hb hr (fun t ht hW => ⟨⟨(-1), (), rfl, ?_, trivial⟩, hS.F ht⟩) hS.2.2 dX5_back_10
      rfl

abbrev w_X5_sheet (G : XG) (kx kim kit kv kre ksh kwa kta : Nat) (tf rf : Int32) (kb : Nat) (gs : Nat → Option Nat) (ks ksc : Nat) (ln sz0 : Int32) (f : Nat → Int32) : va_W := [oC kx 5 [.ref kb, .ref kim, .ref kit, .ref kv, .ref kre, .int tf, .ref ksh, .int rf, .ref kwa, .ref kta], sA G ksh 4 gs, oC ks 3 [.ref ksc, .int ln, .int sz0], iA G ksc 40 f]
abbrev Q_X5_sheet (G : XG) (sz : Nat) (kx kim kit kv kre ksh kwa kta : Nat) (tf rf : Int32) (kb : Nat) (gs : Nat → Option Nat) (ks ksc : Nat) (ln sz0 : Int32) (f : Nat → Int32) (j : Nat) (l2 : Int32) (n : Nat) : Array Value → State → Outcome → State → Prop := (va_Qi (fun (r : Int32) (u : (Nat → Int32)) => r = nI 1 ∧ (∀ j, j < 40 → u j = nI 0)) (xWb G sz (w_X5_sheet G kx kim kit kv kre ksh kwa kta tf rf kb gs ks ksc ln sz0 f) (fun u : (Nat → Int32) => [oC kx 5 [.ref kb, .ref kim, .ref kit, .ref kv, .ref kre, .int tf, .ref ksh, .int rf, .ref kwa, .ref kta], sA G ksh 4 gs, oC ks 3 [.ref ksc, .int l2, .int (nI n)], iA G ksc 40 u])) (va_A (w_X5_sheet G kx kim kit kv kre ksh kwa kta tf rf kb gs ks ksc ln sz0 f) sz))
set_option maxHeartbeats 4000000 in
set_option maxRecDepth 100000 in
theorem c_X5_sheet (l : Launch) (G : XG) (sz : Nat) (kx kim kit kv kre ksh kwa kta : Nat) (tf rf : Int32) (kb : Nat) (gs : Nat → Option Nat) (ks ksc : Nat) (ln sz0 : Int32) (f : Nat → Int32) (j : Nat) (l2 : Int32) (n : Nat) (hj : j < 4) (hgj : gs j = some ks) (hl2 : inR l2 3) (hn : n ≤ 40) : Met l yX5_sheet wsX5_sheet ({ frames := 2, cells := 0, slots := 0, locals := 45 } : Room) (va_Pc [.ref kx, .int (nI j), .int l2, .int (nI n)] (xWp G sz (w_X5_sheet G kx kim kit kv kre ksh kwa kta tf rf kb gs ks ksc ln sz0 f))) (Q_X5_sheet G sz kx kim kit kv kre ksh kwa kta tf rf kb gs ks ksc ln sz0 f j l2 n) 0 0 (va_A (w_X5_sheet G kx kim kit kv kre ksh kwa kta tf rf kb gs ks ksc ln sz0 f) sz) := by
  refine Met.ofW (cc := cX5_sheet) (maxL := 4) (ret := (some .int)) (by decide) rfl ?_
  intro pp ee ss mm aa below mt cd s₁ BB hml hv
  obtain ⟨rfl, hsz, hP, hK, hD0⟩ := hv
  have hx := BB.exec
  have hb := BB.bytes
  have hr := BB.returns
  have hts := atoms_spec (ws := wsX5_sheet) BB.pre
  have hown : ss.vm.findClass RX5 = some mm.cls := findClass_of_methodNamed BB.named
  have hlocks := BB.notSynchronized
  subst hsz
  have hD := hD0.self (sz := ss.heap.size)
  have hA : ∀ q : Nat, ss.heap.size ≤ q → va_A (w_X5_sheet G kx kim kit kv kre ksh kwa kta tf rf kb gs ks ksc ln sz0 f) ss.heap.size q := fun q h => Or.inr h
  have hS : va_S (va_A (w_X5_sheet G kx kim kit kv kre ksh kwa kta tf rf kb gs ks ksc ln sz0 f) ss.heap.size) ss.heap ss.heap [] := va_S.rf
  replace hD : va_D (va_A (w_X5_sheet G kx kim kit kv kre ksh kwa kta tf rf kb gs ks ksc ln sz0 f) ss.heap.size) [oC kx 5 [.ref kb, .ref kim, .ref kit, .ref kv, .ref kre, .int tf, .ref ksh, .int rf, .ref kwa, .ref kta], sA G ksh 4 gs, oC ks 3 [.ref ksc, .int ln, .int sz0], iA G ksc 40 f] := hD
  replace hP : xP G [oC kx 5 [.ref kb, .ref kim, .ref kit, .ref kv, .ref kre, .int tf, .ref ksh, .int rf, .ref kwa, .ref kta], sA G ksh 4 gs, oC ks 3 [.ref ksc, .int ln, .int sz0], iA G ksc 40 f] ss.heap := hP
  have hin3 : ∀ w ∈ u_ws RX3 TX3 3, w ∈ wsX5_sheet := fun w h => List.mem_cons_of_mem _ (List.mem_append_right _ h)
  have hin5 : ∀ w ∈ u_ws RX5 TX5 10, w ∈ wsX5_sheet := fun w h => List.mem_cons_of_mem _ (List.mem_append_left _ (List.mem_append_right _ h))
  have hl := lv_entry ([.ref kx, .int (nI j), .int l2, .int (nI n)]) (n := 4) (Nat.le_of_ble_eq_true rfl)
  rw [lg_entry_eq]
  generalize (lg_sl ([.ref kx, .int (nI j), .int l2, .int (nI n)]) ++ List.replicate (4 - (lg_sl ([.ref kx, .int (nI j), .int l2, .int (nI n)])).length) Slot.unset).toArray = ls at hl ⊢
  replace hl : lv_has ls 4 [(0, .ref kx), (1, .int (nI j)), (2, .int l2), (3, .int (nI n))] := hl
  refine lv_iload_n hx hb dX5_sheet_0 rfl (lv_at hl 1 rfl) ?_
  refine xs_i (As := [.int (nI j)]) (rest := []) ⟨hx, hb, hml, hown, hts⟩ (c_X5_isSheet l G (nI j) ) (va_cwS 1 hts gX5_sheet_X5_isSheet rfl rfl rfl (by decide +kernel) ⟨Nat.le_of_ble_eq_true rfl, Nat.le_of_ble_eq_true rfl⟩) hP hS rfl hl.1 rfl (Nat.le_of_ble_eq_true rfl) dX5_sheet_1 ⟨Nat.zero_le _, Nat.zero_le _⟩ (fun r1 H locs hp1 hP hS => ?_)
  rw [show r1 = _ from hp1]
  refine xb_if_eq (tgt := 20) hx hb dX5_sheet_4 rfl (fun b4 => absurd b4 (by exact fun q => q (inR_nI hj (by omega)))) (fun _ => ?_)
  refine lv_iload_n hx hb dX5_sheet_7 rfl (lv_at hl 2 rfl) ?_
  refine xs_i (As := [.int l2]) (rest := []) ⟨hx, hb, hml, hown, hts⟩ (c_X5_isLane l G l2 ) (va_cwS 1 hts gX5_sheet_X5_isLane rfl rfl rfl (by decide +kernel) ⟨Nat.le_of_ble_eq_true rfl, Nat.le_of_ble_eq_true rfl⟩) hP hS rfl hl.1 rfl (Nat.le_of_ble_eq_true rfl) dX5_sheet_8 ⟨Nat.zero_le _, Nat.zero_le _⟩ (fun r8 H locs hp8 hP hS => ?_)
  rw [show r8 = _ from hp8]
  refine xb_if_eq (tgt := 20) hx hb dX5_sheet_11 rfl (fun b11 => absurd b11 (by exact fun q => q hl2)) (fun _ => ?_)
  refine lv_iload_n hx hb dX5_sheet_14 rfl (lv_at hl 3 rfl) ?_
  refine lv_bipush (v := nI 40) hx hb dX5_sheet_15 (by decide) ?_
  refine xn_icmp_le (tgt := 22) hx hb (by omega) (by omega) dX5_sheet_17 rfl (fun _ => ?_) (fun b17 => absurd b17 (by omega))
  refine lv_iload_n hx hb dX5_sheet_22 rfl (lv_at hl 3 rfl) ?_
  refine xn_if_ge (tgt := 29) hx hb (by omega) dX5_sheet_23 rfl (fun _ => ?_) (fun b23 => absurd b23 (by omega))
  refine lv_aload_n hx hb dX5_sheet_29 rfl (lv_at hl 0 rfl) ?_
  refine va_get (D := G.1) (ci := 5) (v := .ref ksh) (C := RX5) (T := TX5) (N := 10) hx hb hts hin5 hown hK.1 hP 0 rfl rfl 6 (by decide) (hts (.fieldLink RX5 40 "BackLenses" "sheets" "[LBackLenses$Sheet;") (List.mem_of_getElem? (i := 1) rfl)) (fun _ h9 => h9) rfl dX5_sheet_30 ?_
  refine lv_iload_n hx hb dX5_sheet_33 rfl (lv_at hl 1 rfl) ?_
  refine xn_aalds hx hb hK hP 1 rfl (by omega) (by omega) (show _ = some ks by assumption) dX5_sheet_34 ?_
  refine lv_iload_n hx hb dX5_sheet_35 rfl (lv_at hl 2 rfl) ?_
  refine lv_iload_n hx hb dX5_sheet_36 rfl (lv_at hl 3 rfl) ?_
  refine xw_v (As := [.int l2, .int (nI n)]) (rest := []) (wr := [oC kx 5 [.ref kb, .ref kim, .ref kit, .ref kv, .ref kre, .int tf, .ref ksh, .int rf, .ref kwa, .ref kta], sA G ksh 4 gs]) ⟨hx, hb, hml, hown, hts⟩ (c_X3_renew l G H.size ks ksc ln sz0 f l2 (nI n) ) (cwV 2 hts gX5_sheet_X3_renew rfl rfl rfl (by decide +kernel) ⟨Nat.le_of_ble_eq_true rfl, Nat.le_of_ble_eq_true rfl⟩) hK hP hD hS hA [2, 3] [0, 1] rfl rfl (by decide) (by decide) (by decide) rfl rfl rfl hl.1 rfl (Nat.le_of_ble_eq_true rfl) dX5_sheet_37 ⟨Nat.le_of_ble_eq_true rfl, Nat.le_of_ble_eq_true rfl⟩ (fun u H locs hp37 hP hD hS => ?_)
  obtain ⟨f2_37, rfl⟩ : ∃ z, z = u := ⟨_, rfl⟩
  try dsimp only at hp37 hP hD
  have he37 := hp37
  replace hP : xP G [oC kx 5 [.ref kb, .ref kim, .ref kit, .ref kv, .ref kre, .int tf, .ref ksh, .int rf, .ref kwa, .ref kta], sA G ksh 4 gs, oC ks 3 [.ref ksc, .int l2, .int (nI n)], iA G ksc 40 f2_37] H := hP
  replace hD : va_D (va_A (w_X5_sheet G kx kim kit kv kre ksh kwa kta tf rf kb gs ks ksc ln sz0 f) ss.heap.size) [oC kx 5 [.ref kb, .ref kim, .ref kit, .ref kv, .ref kre, .int tf, .ref ksh, .int rf, .ref kwa, .ref kta], sA G ksh 4 gs, oC ks 3 [.ref ksc, .int l2, .int (nI n)], iA G ksc 40 f2_37] := hD
  refine lv_iconst (v := nI 1) hx hb dX5_sheet_40 (by decide) ?_
  have hP := hP.sub (ws' := [oC kx 5 [.ref kb, .ref kim, .ref kit, .ref kv, .ref kre, .int tf, .ref ksh, .int rf, .ref kwa, .ref kta], sA G ksh 4 gs, oC ks 3 [.ref ksc, .int l2, .int (nI n)], iA G ksc 40 f2_37]) [0, 1, 2, 3] rfl
  have hD := hD.sub (ws' := [oC kx 5 [.ref kb, .ref kim, .ref kit, .ref kv, .ref kre, .int tf, .ref ksh, .int rf, .ref kwa, .ref kta], sA G ksh 4 gs, oC ks 3 [.ref ksc, .int l2, .int (nI n)], iA G ksc 40 f2_37]) [0, 1, 2, 3] (by decide) rfl
  refine W.iret (v := nI 1) hx hb hr (fun t ht hW => ⟨⟨nI 1, (f2_37), rfl, ?_, by rw [ht]; exact hP, hD⟩, hS.F ht⟩) hS.2.2 dX5_sheet_41
  exact ⟨rfl, he37⟩

abbrev w_X5_sheet_b (G : XG) (kx kim kit kv kre ksh kwa kta : Nat) (tf rf : Int32) (kb : Nat) : va_W := [oC kx 5 [.ref kb, .ref kim, .ref kit, .ref kv, .ref kre, .int tf, .ref ksh, .int rf, .ref kwa, .ref kta]]
abbrev Q_X5_sheet_b (G : XG) (kx kim kit kv kre ksh kwa kta : Nat) (tf rf : Int32) (kb : Nat) (k l2 n : Int32) : Array Value → State → Outcome → State → Prop := (xRi (fun r => r = (if inR k 4 ∧ inR l2 3 ∧ n.toInt ≤ 40 then (-14) else (-1))))
set_option maxHeartbeats 4000000 in
set_option maxRecDepth 100000 in
theorem c_X5_sheet_b (l : Launch) (G : XG) (kx kim kit kv kre ksh kwa kta : Nat) (tf rf : Int32) (kb : Nat) (k l2 n : Int32) (hbad : ¬ (inR k 4 ∧ inR l2 3 ∧ n.toInt ≤ 40 ∧ 0 ≤ n.toInt)) : Met l yX5_sheet wsX5_sheet ({ frames := 1, cells := 0, slots := 0, locals := 20 } : Room) (va_Pc [.ref kx, .int k, .int l2, .int n] (xRp G (w_X5_sheet_b G kx kim kit kv kre ksh kwa kta tf rf kb))) (Q_X5_sheet_b G kx kim kit kv kre ksh kwa kta tf rf kb k l2 n) 0 0 (fun _ => False) := by
  refine Met.ofW (cc := cX5_sheet) (maxL := 4) (ret := (some .int)) (by decide) rfl ?_
  intro pp ee ss mm aa below mt cd s₁ BB hml hv
  obtain ⟨rfl, hP, hK⟩ := hv
  have hx := BB.exec
  have hb := BB.bytes
  have hr := BB.returns
  have hts := atoms_spec (ws := wsX5_sheet) BB.pre
  have hown : ss.vm.findClass RX5 = some mm.cls := findClass_of_methodNamed BB.named
  have hlocks := BB.notSynchronized
  have hS : va_S (fun _ => False) ss.heap ss.heap [] := va_S.rf
  replace hP : xP G [oC kx 5 [.ref kb, .ref kim, .ref kit, .ref kv, .ref kre, .int tf, .ref ksh, .int rf, .ref kwa, .ref kta]] ss.heap := hP
  have hin3 : ∀ w ∈ u_ws RX3 TX3 3, w ∈ wsX5_sheet := fun w h => List.mem_cons_of_mem _ (List.mem_append_right _ h)
  have hin5 : ∀ w ∈ u_ws RX5 TX5 10, w ∈ wsX5_sheet := fun w h => List.mem_cons_of_mem _ (List.mem_append_left _ (List.mem_append_right _ h))
  have hl := lv_entry ([.ref kx, .int k, .int l2, .int n]) (n := 4) (Nat.le_of_ble_eq_true rfl)
  rw [lg_entry_eq]
  generalize (lg_sl ([.ref kx, .int k, .int l2, .int n]) ++ List.replicate (4 - (lg_sl ([.ref kx, .int k, .int l2, .int n])).length) Slot.unset).toArray = ls at hl ⊢
  replace hl : lv_has ls 4 [(0, .ref kx), (1, .int k), (2, .int l2), (3, .int n)] := hl
  refine lv_iload_n hx hb dX5_sheet_0 rfl (lv_at hl 1 rfl) ?_
  refine xs_i (As := [.int k]) (rest := []) ⟨hx, hb, hml, hown, hts⟩ (c_X5_isSheet l G k ) (va_cwS 1 hts gX5_sheet_X5_isSheet rfl rfl rfl (by decide +kernel) ⟨Nat.le_of_ble_eq_true rfl, Nat.le_of_ble_eq_true rfl⟩) hP hS rfl hl.1 rfl (Nat.le_of_ble_eq_true rfl) dX5_sheet_1 ⟨Nat.zero_le _, Nat.zero_le _⟩ (fun r1 H locs hp1 hP hS => ?_)
  rw [show r1 = _ from hp1]
  refine xb_if_eq (tgt := 20) hx hb dX5_sheet_4 rfl (fun b4 => ?_) (fun b4 => ?_)
  · skip
    refine lv_iconst (v := (-1)) hx hb dX5_sheet_20 (by decide) ?_
    refine W.iret (v := (-1)) hx hb hr (fun t ht hW => ⟨⟨(-1), (), rfl, ?_, trivial⟩, hS.F ht⟩) hS.2.2 dX5_sheet_21
    first | exact (if_neg (fun q => b4 q.1)).symm | exact (if_neg (fun q => b11 q.2.1)).symm | exact (if_neg (fun q => b17 q.2.2)).symm | exact (if_pos ⟨b4, b11, b17⟩).symm
  · skip
    refine lv_iload_n hx hb dX5_sheet_7 rfl (lv_at hl 2 rfl) ?_
    refine xs_i (As := [.int l2]) (rest := []) ⟨hx, hb, hml, hown, hts⟩ (c_X5_isLane l G l2 ) (va_cwS 1 hts gX5_sheet_X5_isLane rfl rfl rfl (by decide +kernel) ⟨Nat.le_of_ble_eq_true rfl, Nat.le_of_ble_eq_true rfl⟩) hP hS rfl hl.1 rfl (Nat.le_of_ble_eq_true rfl) dX5_sheet_8 ⟨Nat.zero_le _, Nat.zero_le _⟩ (fun r8 H locs hp8 hP hS => ?_)
    rw [show r8 = _ from hp8]
    refine xb_if_eq (tgt := 20) hx hb dX5_sheet_11 rfl (fun b11 => ?_) (fun b11 => ?_)
    · skip
      refine lv_iconst (v := (-1)) hx hb dX5_sheet_20 (by decide) ?_
      refine W.iret (v := (-1)) hx hb hr (fun t ht hW => ⟨⟨(-1), (), rfl, ?_, trivial⟩, hS.F ht⟩) hS.2.2 dX5_sheet_21
      first | exact (if_neg (fun q => b4 q.1)).symm | exact (if_neg (fun q => b11 q.2.1)).symm | exact (if_neg (fun q => b17 q.2.2)).symm | exact (if_pos ⟨b4, b11, b17⟩).symm
    · skip
      refine lv_iload_n hx hb dX5_sheet_14 rfl (lv_at hl 3 rfl) ?_
      refine lv_bipush (v := nI 40) hx hb dX5_sheet_15 (by decide) ?_
      refine xm_icmp_le (tgt := 22) hx hb (by omega) dX5_sheet_17 rfl (fun b17 => ?_) (fun b17 => ?_)
      · skip
        refine lv_iload_n hx hb dX5_sheet_22 rfl (lv_at hl 3 rfl) ?_
        refine xi_if_ge (tgt := 29) hx hb dX5_sheet_23 rfl (fun b23 => ?_) (fun b23 => ?_)
        · skip
          exact absurd ⟨b4, b11, b17, b23⟩ hbad
        · skip
          refine lv_bipush (v := (-14)) hx hb dX5_sheet_26 (by decide) ?_
          refine W.iret (v := (-14)) hx hb hr (fun t ht hW => ⟨⟨(-14), (), rfl, ?_, trivial⟩, hS.F ht⟩) hS.2.2 dX5_sheet_28
          first | exact (if_neg (fun q => b4 q.1)).symm | exact (if_neg (fun q => b11 q.2.1)).symm | exact (if_neg (fun q => b17 q.2.2)).symm | exact (if_pos ⟨b4, b11, b17⟩).symm
      · skip
        refine lv_iconst (v := (-1)) hx hb dX5_sheet_20 (by decide) ?_
        refine W.iret (v := (-1)) hx hb hr (fun t ht hW => ⟨⟨(-1), (), rfl, ?_, trivial⟩, hS.F ht⟩) hS.2.2 dX5_sheet_21
        first | exact (if_neg (fun q => b4 q.1)).symm | exact (if_neg (fun q => b11 q.2.1)).symm | exact (if_neg (fun q => b17 q.2.2)).symm | exact (if_pos ⟨b4, b11, b17⟩).symm

abbrev w_X5_lay_b (G : XG) (kx kim kit kv kre ksh kwa kta : Nat) (tf rf : Int32) (kb : Nat) : va_W := [oC kx 5 [.ref kb, .ref kim, .ref kit, .ref kv, .ref kre, .int tf, .ref ksh, .int rf, .ref kwa, .ref kta]]
abbrev Q_X5_lay_b (G : XG) (kx kim kit kv kre ksh kwa kta : Nat) (tf rf : Int32) (kb : Nat) (k i v : Int32) : Array Value → State → Outcome → State → Prop := (xRi (fun r => r = (-1)))
set_option maxHeartbeats 4000000 in
set_option maxRecDepth 100000 in
theorem c_X5_lay_b (l : Launch) (G : XG) (kx kim kit kv kre ksh kwa kta : Nat) (tf rf : Int32) (kb : Nat) (k i v : Int32) (hbad : ¬ inR k 4) : Met l yX5_lay wsX5_lay ({ frames := 1, cells := 0, slots := 0, locals := 20 } : Room) (va_Pc [.ref kx, .int k, .int i, .int v] (xRp G (w_X5_lay_b G kx kim kit kv kre ksh kwa kta tf rf kb))) (Q_X5_lay_b G kx kim kit kv kre ksh kwa kta tf rf kb k i v) 0 0 (fun _ => False) := by
  refine Met.ofW (cc := cX5_lay) (maxL := 5) (ret := (some .int)) (by decide) rfl ?_
  intro pp ee ss mm aa below mt cd s₁ BB hml hv
  obtain ⟨rfl, hP, hK⟩ := hv
  have hx := BB.exec
  have hb := BB.bytes
  have hr := BB.returns
  have hts := atoms_spec (ws := wsX5_lay) BB.pre
  have hown : ss.vm.findClass RX5 = some mm.cls := findClass_of_methodNamed BB.named
  have hlocks := BB.notSynchronized
  have hS : va_S (fun _ => False) ss.heap ss.heap [] := va_S.rf
  replace hP : xP G [oC kx 5 [.ref kb, .ref kim, .ref kit, .ref kv, .ref kre, .int tf, .ref ksh, .int rf, .ref kwa, .ref kta]] ss.heap := hP
  have hin3 : ∀ w ∈ u_ws RX3 TX3 3, w ∈ wsX5_lay := fun w h => List.mem_cons_of_mem _ (List.mem_append_right _ h)
  have hin5 : ∀ w ∈ u_ws RX5 TX5 10, w ∈ wsX5_lay := fun w h => List.mem_cons_of_mem _ (List.mem_append_left _ (List.mem_append_right _ h))
  have hl := lv_entry ([.ref kx, .int k, .int i, .int v]) (n := 5) (Nat.le_of_ble_eq_true rfl)
  rw [lg_entry_eq]
  generalize (lg_sl ([.ref kx, .int k, .int i, .int v]) ++ List.replicate (5 - (lg_sl ([.ref kx, .int k, .int i, .int v])).length) Slot.unset).toArray = ls at hl ⊢
  replace hl : lv_has ls 5 [(0, .ref kx), (1, .int k), (2, .int i), (3, .int v)] := hl
  refine lv_iload_n hx hb dX5_lay_0 rfl (lv_at hl 1 rfl) ?_
  refine xs_i (As := [.int k]) (rest := []) ⟨hx, hb, hml, hown, hts⟩ (c_X5_isSheet l G k ) (va_cwS 1 hts gX5_lay_X5_isSheet rfl rfl rfl (by decide +kernel) ⟨Nat.le_of_ble_eq_true rfl, Nat.le_of_ble_eq_true rfl⟩) hP hS rfl hl.1 rfl (Nat.le_of_ble_eq_true rfl) dX5_lay_1 ⟨Nat.zero_le _, Nat.zero_le _⟩ (fun r1 H locs hp1 hP hS => ?_)
  rw [show r1 = _ from hp1]
  refine xb_if_ne (tgt := 9) hx hb dX5_lay_4 rfl (fun b4 => absurd b4 (by exact hbad)) (fun _ => ?_)
  refine lv_iconst (v := (-1)) hx hb dX5_lay_7 (by decide) ?_
  refine W.iret (v := (-1)) hx hb hr (fun t ht hW => ⟨⟨(-1), (), rfl, ?_, trivial⟩, hS.F ht⟩) hS.2.2 dX5_lay_8
  rfl

abbrev w_X5_lay (G : XG) (kx kim kit kv kre ksh kwa kta : Nat) (tf rf : Int32) (kb : Nat) (gs : Nat → Option Nat) (ks ksc : Nat) (ln sz0 : Int32) (f : Nat → Int32) : va_W := [oC kx 5 [.ref kb, .ref kim, .ref kit, .ref kv, .ref kre, .int tf, .ref ksh, .int rf, .ref kwa, .ref kta], sA G ksh 4 gs, oC ks 3 [.ref ksc, .int ln, .int sz0], iA G ksc 40 f]
abbrev Q_X5_lay (G : XG) (sz : Nat) (kx kim kit kv kre ksh kwa kta : Nat) (tf rf : Int32) (kb : Nat) (gs : Nat → Option Nat) (ks ksc : Nat) (ln sz0 : Int32) (f : Nat → Int32) (j : Nat) (i v : Int32) : Array Value → State → Outcome → State → Prop := (va_Qi (fun (r : Int32) (u : (Nat → Int32)) => r = (if faA sz0 i = 0 then nI 1 else (-10) - faA sz0 i) ∧ u = (if faA sz0 i = 0 then upd f (tn i) (if ln = 0 then v.toInt8.toInt32 else if ln = nI 1 then v.toInt16.toInt32 else v) else f)) (xWb G sz (w_X5_lay G kx kim kit kv kre ksh kwa kta tf rf kb gs ks ksc ln sz0 f) (fun u : (Nat → Int32) => [oC kx 5 [.ref kb, .ref kim, .ref kit, .ref kv, .ref kre, .int tf, .ref ksh, .int rf, .ref kwa, .ref kta], sA G ksh 4 gs, oC ks 3 [.ref ksc, .int ln, .int sz0], iA G ksc 40 u])) (va_A (w_X5_lay G kx kim kit kv kre ksh kwa kta tf rf kb gs ks ksc ln sz0 f) sz))
set_option maxHeartbeats 4000000 in
set_option maxRecDepth 100000 in
theorem c_X5_lay (l : Launch) (G : XG) (sz : Nat) (kx kim kit kv kre ksh kwa kta : Nat) (tf rf : Int32) (kb : Nat) (gs : Nat → Option Nat) (ks ksc : Nat) (ln sz0 : Int32) (f : Nat → Int32) (j : Nat) (i v : Int32) (hj : j < 4) (hgj : gs j = some ks) (hsz : sz0.toInt ≤ 40) : Met l yX5_lay wsX5_lay ({ frames := 2, cells := 0, slots := 0, locals := 41 } : Room) (va_Pc [.ref kx, .int (nI j), .int i, .int v] (xWp G sz (w_X5_lay G kx kim kit kv kre ksh kwa kta tf rf kb gs ks ksc ln sz0 f))) (Q_X5_lay G sz kx kim kit kv kre ksh kwa kta tf rf kb gs ks ksc ln sz0 f j i v) 0 0 (va_A (w_X5_lay G kx kim kit kv kre ksh kwa kta tf rf kb gs ks ksc ln sz0 f) sz) := by
  refine Met.ofW (cc := cX5_lay) (maxL := 5) (ret := (some .int)) (by decide) rfl ?_
  intro pp ee ss mm aa below mt cd s₁ BB hml hv
  obtain ⟨rfl, hsz, hP, hK, hD0⟩ := hv
  have hx := BB.exec
  have hb := BB.bytes
  have hr := BB.returns
  have hts := atoms_spec (ws := wsX5_lay) BB.pre
  have hown : ss.vm.findClass RX5 = some mm.cls := findClass_of_methodNamed BB.named
  have hlocks := BB.notSynchronized
  subst hsz
  have hD := hD0.self (sz := ss.heap.size)
  have hA : ∀ q : Nat, ss.heap.size ≤ q → va_A (w_X5_lay G kx kim kit kv kre ksh kwa kta tf rf kb gs ks ksc ln sz0 f) ss.heap.size q := fun q h => Or.inr h
  have hS : va_S (va_A (w_X5_lay G kx kim kit kv kre ksh kwa kta tf rf kb gs ks ksc ln sz0 f) ss.heap.size) ss.heap ss.heap [] := va_S.rf
  replace hD : va_D (va_A (w_X5_lay G kx kim kit kv kre ksh kwa kta tf rf kb gs ks ksc ln sz0 f) ss.heap.size) [oC kx 5 [.ref kb, .ref kim, .ref kit, .ref kv, .ref kre, .int tf, .ref ksh, .int rf, .ref kwa, .ref kta], sA G ksh 4 gs, oC ks 3 [.ref ksc, .int ln, .int sz0], iA G ksc 40 f] := hD
  replace hP : xP G [oC kx 5 [.ref kb, .ref kim, .ref kit, .ref kv, .ref kre, .int tf, .ref ksh, .int rf, .ref kwa, .ref kta], sA G ksh 4 gs, oC ks 3 [.ref ksc, .int ln, .int sz0], iA G ksc 40 f] ss.heap := hP
  have hin3 : ∀ w ∈ u_ws RX3 TX3 3, w ∈ wsX5_lay := fun w h => List.mem_cons_of_mem _ (List.mem_append_right _ h)
  have hin5 : ∀ w ∈ u_ws RX5 TX5 10, w ∈ wsX5_lay := fun w h => List.mem_cons_of_mem _ (List.mem_append_left _ (List.mem_append_right _ h))
  have hl := lv_entry ([.ref kx, .int (nI j), .int i, .int v]) (n := 5) (Nat.le_of_ble_eq_true rfl)
  rw [lg_entry_eq]
  generalize (lg_sl ([.ref kx, .int (nI j), .int i, .int v]) ++ List.replicate (5 - (lg_sl ([.ref kx, .int (nI j), .int i, .int v])).length) Slot.unset).toArray = ls at hl ⊢
  replace hl : lv_has ls 5 [(0, .ref kx), (1, .int (nI j)), (2, .int i), (3, .int v)] := hl
  refine lv_iload_n hx hb dX5_lay_0 rfl (lv_at hl 1 rfl) ?_
  refine xs_i (As := [.int (nI j)]) (rest := []) ⟨hx, hb, hml, hown, hts⟩ (c_X5_isSheet l G (nI j) ) (va_cwS 1 hts gX5_lay_X5_isSheet rfl rfl rfl (by decide +kernel) ⟨Nat.le_of_ble_eq_true rfl, Nat.le_of_ble_eq_true rfl⟩) hP hS rfl hl.1 rfl (Nat.le_of_ble_eq_true rfl) dX5_lay_1 ⟨Nat.zero_le _, Nat.zero_le _⟩ (fun r1 H locs hp1 hP hS => ?_)
  rw [show r1 = _ from hp1]
  refine xb_if_ne (tgt := 9) hx hb dX5_lay_4 rfl (fun _ => ?_) (fun b4 => absurd b4 (by exact fun q => q (inR_nI hj (by omega))))
  refine lv_aload_n hx hb dX5_lay_9 rfl (lv_at hl 0 rfl) ?_
  refine va_get (D := G.1) (ci := 5) (v := .ref ksh) (C := RX5) (T := TX5) (N := 10) hx hb hts hin5 hown hK.1 hP 0 rfl rfl 6 (by decide) (hts (.fieldLink RX5 40 "BackLenses" "sheets" "[LBackLenses$Sheet;") (List.mem_of_getElem? (i := 1) rfl)) (fun _ h9 => h9) rfl dX5_lay_10 ?_
  refine lv_iload_n hx hb dX5_lay_13 rfl (lv_at hl 1 rfl) ?_
  refine xn_aalds hx hb hK hP 1 rfl (by omega) (by omega) (show _ = some ks by assumption) dX5_lay_14 ?_
  refine lv_iload_n hx hb dX5_lay_15 rfl (lv_at hl 2 rfl) ?_
  refine xr_i (As := [.int i]) (rest := []) ⟨hx, hb, hml, hown, hts⟩ (c_X3_faultAt l G ks ksc ln sz0 i ) (cwV 1 hts gX5_lay_X3_faultAt rfl rfl rfl (by decide +kernel) ⟨Nat.le_of_ble_eq_true rfl, Nat.le_of_ble_eq_true rfl⟩) hK hP hS [2] rfl rfl rfl rfl hl.1 rfl (Nat.le_of_ble_eq_true rfl) dX5_lay_16 ⟨Nat.zero_le _, Nat.zero_le _⟩ (fun r16 H locs hp16 hP hS => ?_)
  rw [show r16 = _ from hp16]
  refine xn_top (y := faA sz0 i) rfl ?_
  refine lv_istore (lv' := [(4, .int (faA sz0 i)), (0, .ref kx), (1, .int (nI j)), (2, .int i), (3, .int v)]) hx hb dX5_lay_19 hl (by decide) rfl (fun ls hl => ?_)
  refine lv_iload hx hb dX5_lay_21 (lv_at hl 0 rfl) ?_
  refine lv_if_eq (tgt := 32) hx hb dX5_lay_23 rfl (fun b23 => ?_) (fun b23 => ?_)
  · skip
    have hfa := faA_ok b23
    obtain ⟨i0, hi0, rfl⟩ := inR_nat (x := i) (n := 40) (by unfold inR; omega)
    refine lv_aload_n hx hb dX5_lay_32 rfl (lv_at hl 1 rfl) ?_
    refine va_get (D := G.1) (ci := 5) (v := .ref ksh) (C := RX5) (T := TX5) (N := 10) hx hb hts hin5 hown hK.1 hP 0 rfl rfl 6 (by decide) (hts (.fieldLink RX5 40 "BackLenses" "sheets" "[LBackLenses$Sheet;") (List.mem_of_getElem? (i := 1) rfl)) (fun _ h9 => h9) rfl dX5_lay_33 ?_
    refine lv_iload_n hx hb dX5_lay_36 rfl (lv_at hl 2 rfl) ?_
    refine xn_aalds hx hb hK hP 1 rfl (by omega) (by omega) (show _ = some ks by assumption) dX5_lay_37 ?_
    refine lv_iload_n hx hb dX5_lay_38 rfl (lv_at hl 3 rfl) ?_
    refine lv_iload_n hx hb dX5_lay_39 rfl (lv_at hl 4 rfl) ?_
    refine xw_v (As := [.int (nI i0), .int v]) (rest := []) (wr := [oC kx 5 [.ref kb, .ref kim, .ref kit, .ref kv, .ref kre, .int tf, .ref ksh, .int rf, .ref kwa, .ref kta], sA G ksh 4 gs]) ⟨hx, hb, hml, hown, hts⟩ (c_X3_put l G H.size ks ksc ln sz0 f i0 v (by first | assumption | omega)) (cwV 2 hts gX5_lay_X3_put rfl rfl rfl (by decide +kernel) ⟨Nat.le_of_ble_eq_true rfl, Nat.le_of_ble_eq_true rfl⟩) hK hP hD hS hA [2, 3] [0, 1] rfl rfl (by decide) (by decide) (by decide) rfl rfl rfl hl.1 rfl (Nat.le_of_ble_eq_true rfl) dX5_lay_40 ⟨Nat.le_of_ble_eq_true rfl, Nat.le_of_ble_eq_true rfl⟩ (fun u H locs hp40 hP hD hS => ?_)
    obtain ⟨u0_40, rfl⟩ : ∃ z, z = u := ⟨_, rfl⟩
    try dsimp only at hp40 hP hD
    obtain rfl := hp40
    replace hP : xP G [oC kx 5 [.ref kb, .ref kim, .ref kit, .ref kv, .ref kre, .int tf, .ref ksh, .int rf, .ref kwa, .ref kta], sA G ksh 4 gs, oC ks 3 [.ref ksc, .int ln, .int sz0], iA G ksc 40 (upd f i0 (if ln = 0 then v.toInt8.toInt32 else if ln = nI 1 then v.toInt16.toInt32 else v))] H := hP
    replace hD : va_D (va_A (w_X5_lay G kx kim kit kv kre ksh kwa kta tf rf kb gs ks ksc ln sz0 f) ss.heap.size) [oC kx 5 [.ref kb, .ref kim, .ref kit, .ref kv, .ref kre, .int tf, .ref ksh, .int rf, .ref kwa, .ref kta], sA G ksh 4 gs, oC ks 3 [.ref ksc, .int ln, .int sz0], iA G ksc 40 (upd f i0 (if ln = 0 then v.toInt8.toInt32 else if ln = nI 1 then v.toInt16.toInt32 else v))] := hD
    refine lv_iconst (v := nI 1) hx hb dX5_lay_43 (by decide) ?_
    have hP := hP.sub (ws' := [oC kx 5 [.ref kb, .ref kim, .ref kit, .ref kv, .ref kre, .int tf, .ref ksh, .int rf, .ref kwa, .ref kta], sA G ksh 4 gs, oC ks 3 [.ref ksc, .int ln, .int sz0], iA G ksc 40 (upd f i0 (if ln = 0 then v.toInt8.toInt32 else if ln = nI 1 then v.toInt16.toInt32 else v))]) [0, 1, 2, 3] rfl
    have hD := hD.sub (ws' := [oC kx 5 [.ref kb, .ref kim, .ref kit, .ref kv, .ref kre, .int tf, .ref ksh, .int rf, .ref kwa, .ref kta], sA G ksh 4 gs, oC ks 3 [.ref ksc, .int ln, .int sz0], iA G ksc 40 (upd f i0 (if ln = 0 then v.toInt8.toInt32 else if ln = nI 1 then v.toInt16.toInt32 else v))]) [0, 1, 2, 3] (by decide) rfl
    refine W.iret (v := nI 1) hx hb hr (fun t ht hW => ⟨⟨nI 1, ((upd f i0 (if ln = 0 then v.toInt8.toInt32 else if ln = nI 1 then v.toInt16.toInt32 else v))), rfl, ?_, by rw [ht]; exact hP, hD⟩, hS.F ht⟩) hS.2.2 dX5_lay_44
    first | exact ⟨(if_neg b23).symm, (if_neg b23).symm⟩ | exact ⟨(if_pos b23).symm, (by rw [if_pos b23, tn_nI (by omega)])⟩
  · skip
    refine lv_bipush (v := (-10)) hx hb dX5_lay_26 (by decide) ?_
    refine lv_iload hx hb dX5_lay_28 (lv_at hl 0 rfl) ?_
    refine lv_isub hx hb dX5_lay_30 ?_
    have hP := hP.sub (ws' := [oC kx 5 [.ref kb, .ref kim, .ref kit, .ref kv, .ref kre, .int tf, .ref ksh, .int rf, .ref kwa, .ref kta], sA G ksh 4 gs, oC ks 3 [.ref ksc, .int ln, .int sz0], iA G ksc 40 f]) [0, 1, 2, 3] rfl
    have hD := hD.sub (ws' := [oC kx 5 [.ref kb, .ref kim, .ref kit, .ref kv, .ref kre, .int tf, .ref ksh, .int rf, .ref kwa, .ref kta], sA G ksh 4 gs, oC ks 3 [.ref ksc, .int ln, .int sz0], iA G ksc 40 f]) [0, 1, 2, 3] (by decide) rfl
    refine W.iret (v := (-10) - (faA sz0 i)) hx hb hr (fun t ht hW => ⟨⟨(-10) - (faA sz0 i), (f), rfl, ?_, by rw [ht]; exact hP, hD⟩, hS.F ht⟩) hS.2.2 dX5_lay_31
    first | exact ⟨(if_neg b23).symm, (if_neg b23).symm⟩ | exact ⟨(if_pos b23).symm, (by rw [if_pos b23, tn_nI (by omega)])⟩
end
section
abbrev w_X1_put (G : XG) (kre : Nat) (kbt kby : Nat) (rl : Nat) (rv : Nat → Int32) (tb : Nat → Int32) : va_W := [oC kre 1 [.ref kbt, .ref kby, .int (nI rl), .int (rv 0), .int (rv 1), .int (rv 2), .int (rv 3), .int (rv 4), .int (rv 5), .int (rv 6), .int (rv 7), .int (rv 8), .int (rv 9)], bA G kby 160 tb]
abbrev Q_X1_put (G : XG) (sz : Nat) (kre : Nat) (kbt kby : Nat) (rl : Nat) (rv : Nat → Int32) (tb : Nat → Int32) (k : Nat) : Array Value → State → Outcome → State → Prop := (va_Qi (fun (r : Int32) (u : Nat × (Nat → Int32)) => r = (if rl < 160 then nI (rl + 1) else (-3)) ∧ u.1 = (if rl < 160 then rl + 1 else rl) ∧ u.2 = (if rl < 160 then upd tb rl (nI k) else tb)) (xWb G sz (w_X1_put G kre kbt kby rl rv tb) (fun u : Nat × (Nat → Int32) => [oC kre 1 [.ref kbt, .ref kby, .int (nI u.1), .int (rv 0), .int (rv 1), .int (rv 2), .int (rv 3), .int (rv 4), .int (rv 5), .int (rv 6), .int (rv 7), .int (rv 8), .int (rv 9)], bA G kby 160 u.2])) (va_A (w_X1_put G kre kbt kby rl rv tb) sz))
set_option maxHeartbeats 4000000 in
set_option maxRecDepth 100000 in
theorem c_X1_put (l : Launch) (G : XG) (sz : Nat) (kre : Nat) (kbt kby : Nat) (rl : Nat) (rv : Nat → Int32) (tb : Nat → Int32) (k : Nat) (hk : k < 128) (hrl : rl ≤ 160) : Met l yX1_put wsX1_put ({ frames := 0, cells := 0, slots := 0, locals := 0 } : Room) (va_Pc [.ref kre, .int (nI k)] (xWp G sz (w_X1_put G kre kbt kby rl rv tb))) (Q_X1_put G sz kre kbt kby rl rv tb k) 0 0 (va_A (w_X1_put G kre kbt kby rl rv tb) sz) := by
  refine Met.ofW (cc := cX1_put) (maxL := 2) (ret := (some .int)) (by decide) rfl ?_
  intro pp ee ss mm aa below mt cd s₁ BB hml hv
  obtain ⟨rfl, hsz, hP, hK, hD0⟩ := hv
  have hx := BB.exec
  have hb := BB.bytes
  have hr := BB.returns
  have hts := atoms_spec (ws := wsX1_put) BB.pre
  have hown : ss.vm.findClass RX1 = some mm.cls := findClass_of_methodNamed BB.named
  have hlocks := BB.notSynchronized
  subst hsz
  have hD := hD0.self (sz := ss.heap.size)
  have hA : ∀ q : Nat, ss.heap.size ≤ q → va_A (w_X1_put G kre kbt kby rl rv tb) ss.heap.size q := fun q h => Or.inr h
  have hS : va_S (va_A (w_X1_put G kre kbt kby rl rv tb) ss.heap.size) ss.heap ss.heap [] := va_S.rf
  replace hD : va_D (va_A (w_X1_put G kre kbt kby rl rv tb) ss.heap.size) [oC kre 1 [.ref kbt, .ref kby, .int (nI rl), .int (rv 0), .int (rv 1), .int (rv 2), .int (rv 3), .int (rv 4), .int (rv 5), .int (rv 6), .int (rv 7), .int (rv 8), .int (rv 9)], bA G kby 160 tb] := hD
  replace hP : xP G [oC kre 1 [.ref kbt, .ref kby, .int (nI rl), .int (rv 0), .int (rv 1), .int (rv 2), .int (rv 3), .int (rv 4), .int (rv 5), .int (rv 6), .int (rv 7), .int (rv 8), .int (rv 9)], bA G kby 160 tb] ss.heap := hP
  have hin1 : ∀ w ∈ u_ws RX1 TX1 13, w ∈ wsX1_put := fun w h => List.mem_cons_of_mem _ (List.mem_append_right _ h)
  have hl := lv_entry ([.ref kre, .int (nI k)]) (n := 2) (Nat.le_of_ble_eq_true rfl)
  rw [lg_entry_eq]
  generalize (lg_sl ([.ref kre, .int (nI k)]) ++ List.replicate (2 - (lg_sl ([.ref kre, .int (nI k)])).length) Slot.unset).toArray = ls at hl ⊢
  replace hl : lv_has ls 2 [(0, .ref kre), (1, .int (nI k))] := hl
  refine lv_aload_n hx hb dX1_put_0 rfl (lv_at hl 0 rfl) ?_
  refine va_get (D := G.1) (ci := 1) (v := .int (nI rl)) (C := RX1) (T := TX1) (N := 13) hx hb hts hin1 hown hK.1 hP 0 rfl rfl 2 (by decide) (hts (.fieldLink RX1 22 "BackLenses$Reader" "length" "I") (List.mem_of_getElem? (i := 1) rfl)) (fun _ h9 => h9) rfl dX1_put_1 ?_
  refine lv_sipush (v := nI 160) hx hb dX1_put_4 (by decide) ?_
  refine xn_icmp_lt (tgt := 13) hx hb (by omega) (by omega) dX1_put_7 rfl (fun b7 => ?_) (fun b7 => ?_)
  · skip
    refine lv_aload_n hx hb dX1_put_13 rfl (lv_at hl 0 rfl) ?_
    refine va_get (D := G.1) (ci := 1) (v := .ref kby) (C := RX1) (T := TX1) (N := 13) hx hb hts hin1 hown hK.1 hP 0 rfl rfl 1 (by decide) (hts (.fieldLink RX1 18 "BackLenses$Reader" "bytes" "[B") (List.mem_of_getElem? (i := 2) rfl)) (fun _ h9 => h9) rfl dX1_put_14 ?_
    refine lv_aload_n hx hb dX1_put_17 rfl (lv_at hl 0 rfl) ?_
    refine va_get (D := G.1) (ci := 1) (v := .int (nI rl)) (C := RX1) (T := TX1) (N := 13) hx hb hts hin1 hown hK.1 hP 0 rfl rfl 2 (by decide) (hts (.fieldLink RX1 22 "BackLenses$Reader" "length" "I") (List.mem_of_getElem? (i := 1) rfl)) (fun _ h9 => h9) rfl dX1_put_18 ?_
    refine lv_iload_n hx hb dX1_put_21 rfl (lv_at hl 1 rfl) ?_
    refine lv_i2b hx hb dX1_put_22 rfl ?_
    refine xn_bast (y := nI k) hx hb hK hP hD hS 1 rfl (by omega) (by omega) (by exact nar_byte k hk) dX1_put_23 (fun H locs hP hD hS => ?_)
    replace hP : xP G [oC kre 1 [.ref kbt, .ref kby, .int (nI rl), .int (rv 0), .int (rv 1), .int (rv 2), .int (rv 3), .int (rv 4), .int (rv 5), .int (rv 6), .int (rv 7), .int (rv 8), .int (rv 9)], bA G kby 160 (upd tb rl (nI k))] H := hP
    replace hD : va_D (va_A (w_X1_put G kre kbt kby rl rv tb) ss.heap.size) [oC kre 1 [.ref kbt, .ref kby, .int (nI rl), .int (rv 0), .int (rv 1), .int (rv 2), .int (rv 3), .int (rv 4), .int (rv 5), .int (rv 6), .int (rv 7), .int (rv 8), .int (rv 9)], bA G kby 160 (upd tb rl (nI k))] := hD
    refine lv_aload_n hx hb dX1_put_24 rfl (lv_at hl 0 rfl) ?_
    refine lv_dup hx hb dX1_put_25 rfl ?_
    refine va_get (D := G.1) (ci := 1) (v := .int (nI rl)) (C := RX1) (T := TX1) (N := 13) hx hb hts hin1 hown hK.1 hP 0 rfl rfl 2 (by decide) (hts (.fieldLink RX1 22 "BackLenses$Reader" "length" "I") (List.mem_of_getElem? (i := 1) rfl)) (fun _ h9 => h9) rfl dX1_put_26 ?_
    refine lv_iconst (v := nI 1) hx hb dX1_put_29 (by decide) ?_
    refine xn_iadd hx hb dX1_put_30 ?_
    refine va_put (D := G.1) (ci := 1) (v := .int (nI (rl + 1))) (ty := .int) (C := RX1) (T := TX1) (N := 13) hx hb hts hin1 tyX1 tyX1_ok nmX1 hown hK.1 hP hD hS 0 rfl rfl 2 (by decide) (hts (.fieldLink RX1 22 "BackLenses$Reader" "length" "I") (List.mem_of_getElem? (i := 1) rfl)) (fun _ h9 => h9) rfl (by decide +kernel) rfl rfl (Nat.le_of_ble_eq_true rfl) dX1_put_31 (fun H locs hP hD hS => ?_)
    replace hP : xP G [oC kre 1 [.ref kbt, .ref kby, .int (nI (rl + 1)), .int (rv 0), .int (rv 1), .int (rv 2), .int (rv 3), .int (rv 4), .int (rv 5), .int (rv 6), .int (rv 7), .int (rv 8), .int (rv 9)], bA G kby 160 (upd tb rl (nI k))] H := hP
    replace hD : va_D (va_A (w_X1_put G kre kbt kby rl rv tb) ss.heap.size) [oC kre 1 [.ref kbt, .ref kby, .int (nI (rl + 1)), .int (rv 0), .int (rv 1), .int (rv 2), .int (rv 3), .int (rv 4), .int (rv 5), .int (rv 6), .int (rv 7), .int (rv 8), .int (rv 9)], bA G kby 160 (upd tb rl (nI k))] := hD
    refine lv_aload_n hx hb dX1_put_34 rfl (lv_at hl 0 rfl) ?_
    refine va_get (D := G.1) (ci := 1) (v := .int (nI (rl + 1))) (C := RX1) (T := TX1) (N := 13) hx hb hts hin1 hown hK.1 hP 0 rfl rfl 2 (by decide) (hts (.fieldLink RX1 22 "BackLenses$Reader" "length" "I") (List.mem_of_getElem? (i := 1) rfl)) (fun _ h9 => h9) rfl dX1_put_35 ?_
    have hP := hP.sub (ws' := [oC kre 1 [.ref kbt, .ref kby, .int (nI (rl + 1)), .int (rv 0), .int (rv 1), .int (rv 2), .int (rv 3), .int (rv 4), .int (rv 5), .int (rv 6), .int (rv 7), .int (rv 8), .int (rv 9)], bA G kby 160 (upd tb rl (nI k))]) [0, 1] rfl
    have hD := hD.sub (ws' := [oC kre 1 [.ref kbt, .ref kby, .int (nI (rl + 1)), .int (rv 0), .int (rv 1), .int (rv 2), .int (rv 3), .int (rv 4), .int (rv 5), .int (rv 6), .int (rv 7), .int (rv 8), .int (rv 9)], bA G kby 160 (upd tb rl (nI k))]) [0, 1] (by decide) rfl
    refine W.iret (v := nI (rl + 1)) hx hb hr (fun t ht hW => ⟨⟨nI (rl + 1), (rl + 1, upd tb rl (nI k)), rfl, ?_, by rw [ht]; exact hP, hD⟩, hS.F ht⟩) hS.2.2 dX1_put_38
    try dsimp only
    first | exact ⟨(if_pos b7).symm, (if_pos b7).symm, (if_pos b7).symm⟩ | exact ⟨(if_neg b7).symm, (if_neg b7).symm, (if_neg b7).symm⟩
  · skip
    refine lv_bipush (v := (-3)) hx hb dX1_put_10 (by decide) ?_
    have hP := hP.sub (ws' := [oC kre 1 [.ref kbt, .ref kby, .int (nI rl), .int (rv 0), .int (rv 1), .int (rv 2), .int (rv 3), .int (rv 4), .int (rv 5), .int (rv 6), .int (rv 7), .int (rv 8), .int (rv 9)], bA G kby 160 tb]) [0, 1] rfl
    have hD := hD.sub (ws' := [oC kre 1 [.ref kbt, .ref kby, .int (nI rl), .int (rv 0), .int (rv 1), .int (rv 2), .int (rv 3), .int (rv 4), .int (rv 5), .int (rv 6), .int (rv 7), .int (rv 8), .int (rv 9)], bA G kby 160 tb]) [0, 1] (by decide) rfl
    refine W.iret (v := (-3)) hx hb hr (fun t ht hW => ⟨⟨(-3), (rl, tb), rfl, ?_, by rw [ht]; exact hP, hD⟩, hS.F ht⟩) hS.2.2 dX1_put_12
    try dsimp only
    first | exact ⟨(if_pos b7).symm, (if_pos b7).symm, (if_pos b7).symm⟩ | exact ⟨(if_neg b7).symm, (if_neg b7).symm, (if_neg b7).symm⟩

abbrev w_X1_shorten (G : XG) (kre : Nat) (kbt kby : Nat) (rl : Nat) (rv : Nat → Int32) : va_W := [oC kre 1 [.ref kbt, .ref kby, .int (nI rl), .int (rv 0), .int (rv 1), .int (rv 2), .int (rv 3), .int (rv 4), .int (rv 5), .int (rv 6), .int (rv 7), .int (rv 8), .int (rv 9)]]
abbrev Q_X1_shorten (G : XG) (sz : Nat) (kre : Nat) (kbt kby : Nat) (rl : Nat) (rv : Nat → Int32) (v : Int32) : Array Value → State → Outcome → State → Prop := (va_Qi (fun (r : Int32) (u : Nat) => r = (if inR v (rl + 1) then nI rl else (-1)) ∧ u = (if inR v (rl + 1) then v.toInt.toNat else rl)) (xWb G sz (w_X1_shorten G kre kbt kby rl rv) (fun u : Nat => [oC kre 1 [.ref kbt, .ref kby, .int (nI u), .int (rv 0), .int (rv 1), .int (rv 2), .int (rv 3), .int (rv 4), .int (rv 5), .int (rv 6), .int (rv 7), .int (rv 8), .int (rv 9)]])) (va_A (w_X1_shorten G kre kbt kby rl rv) sz))
set_option maxHeartbeats 4000000 in
set_option maxRecDepth 100000 in
theorem c_X1_shorten (l : Launch) (G : XG) (sz : Nat) (kre : Nat) (kbt kby : Nat) (rl : Nat) (rv : Nat → Int32) (v : Int32) (hrl : rl ≤ 160) : Met l yX1_shorten wsX1_shorten ({ frames := 0, cells := 0, slots := 0, locals := 0 } : Room) (va_Pc [.ref kre, .int v] (xWp G sz (w_X1_shorten G kre kbt kby rl rv))) (Q_X1_shorten G sz kre kbt kby rl rv v) 0 0 (va_A (w_X1_shorten G kre kbt kby rl rv) sz) := by
  refine Met.ofW (cc := cX1_shorten) (maxL := 3) (ret := (some .int)) (by decide) rfl ?_
  intro pp ee ss mm aa below mt cd s₁ BB hml hv
  obtain ⟨rfl, hsz, hP, hK, hD0⟩ := hv
  have hx := BB.exec
  have hb := BB.bytes
  have hr := BB.returns
  have hts := atoms_spec (ws := wsX1_shorten) BB.pre
  have hown : ss.vm.findClass RX1 = some mm.cls := findClass_of_methodNamed BB.named
  have hlocks := BB.notSynchronized
  subst hsz
  have hD := hD0.self (sz := ss.heap.size)
  have hA : ∀ q : Nat, ss.heap.size ≤ q → va_A (w_X1_shorten G kre kbt kby rl rv) ss.heap.size q := fun q h => Or.inr h
  have hS : va_S (va_A (w_X1_shorten G kre kbt kby rl rv) ss.heap.size) ss.heap ss.heap [] := va_S.rf
  replace hD : va_D (va_A (w_X1_shorten G kre kbt kby rl rv) ss.heap.size) [oC kre 1 [.ref kbt, .ref kby, .int (nI rl), .int (rv 0), .int (rv 1), .int (rv 2), .int (rv 3), .int (rv 4), .int (rv 5), .int (rv 6), .int (rv 7), .int (rv 8), .int (rv 9)]] := hD
  replace hP : xP G [oC kre 1 [.ref kbt, .ref kby, .int (nI rl), .int (rv 0), .int (rv 1), .int (rv 2), .int (rv 3), .int (rv 4), .int (rv 5), .int (rv 6), .int (rv 7), .int (rv 8), .int (rv 9)]] ss.heap := hP
  have hin1 : ∀ w ∈ u_ws RX1 TX1 13, w ∈ wsX1_shorten := fun w h => List.mem_cons_of_mem _ (List.mem_append_right _ h)
  have hl := lv_entry ([.ref kre, .int v]) (n := 3) (Nat.le_of_ble_eq_true rfl)
  rw [lg_entry_eq]
  generalize (lg_sl ([.ref kre, .int v]) ++ List.replicate (3 - (lg_sl ([.ref kre, .int v])).length) Slot.unset).toArray = ls at hl ⊢
  replace hl : lv_has ls 3 [(0, .ref kre), (1, .int v)] := hl
  refine lv_iload_n hx hb dX1_shorten_0 rfl (lv_at hl 1 rfl) ?_
  refine xi_if_lt (tgt := 12) hx hb dX1_shorten_1 rfl (fun b1 => ?_) (fun b1 => ?_)
  · skip
    refine lv_iconst (v := (-1)) hx hb dX1_shorten_12 (by decide) ?_
    have hP := hP.sub (ws' := [oC kre 1 [.ref kbt, .ref kby, .int (nI rl), .int (rv 0), .int (rv 1), .int (rv 2), .int (rv 3), .int (rv 4), .int (rv 5), .int (rv 6), .int (rv 7), .int (rv 8), .int (rv 9)]]) [0] rfl
    have hD := hD.sub (ws' := [oC kre 1 [.ref kbt, .ref kby, .int (nI rl), .int (rv 0), .int (rv 1), .int (rv 2), .int (rv 3), .int (rv 4), .int (rv 5), .int (rv 6), .int (rv 7), .int (rv 8), .int (rv 9)]]) [0] (by decide) rfl
    refine W.iret (v := (-1)) hx hb hr (fun t ht hW => ⟨⟨(-1), (rl), rfl, ?_, by rw [ht]; exact hP, hD⟩, hS.F ht⟩) hS.2.2 dX1_shorten_13
    first | (rw [if_neg (show ¬ inR _ _ by unfold inR; omega), if_neg (show ¬ inR _ _ by unfold inR; omega)]; exact ⟨rfl, rfl⟩) | (rw [if_pos (inR_nI hk (by omega)), if_pos (inR_nI hk (by omega)), nI_toInt (by omega)]; exact ⟨rfl, by omega⟩)
  · skip
    refine lv_iload_n hx hb dX1_shorten_4 rfl (lv_at hl 1 rfl) ?_
    refine lv_aload_n hx hb dX1_shorten_5 rfl (lv_at hl 0 rfl) ?_
    refine va_get (D := G.1) (ci := 1) (v := .int (nI rl)) (C := RX1) (T := TX1) (N := 13) hx hb hts hin1 hown hK.1 hP 0 rfl rfl 2 (by decide) (hts (.fieldLink RX1 22 "BackLenses$Reader" "length" "I") (List.mem_of_getElem? (i := 1) rfl)) (fun _ h9 => h9) rfl dX1_shorten_6 ?_
    refine xm_icmp_le (tgt := 14) hx hb (by omega) dX1_shorten_9 rfl (fun b9 => ?_) (fun b9 => ?_)
    · skip
      obtain ⟨k, hk, rfl⟩ := inR_nat (x := v) (n := rl + 1) (by unfold inR; omega)
      refine lv_aload_n hx hb dX1_shorten_14 rfl (lv_at hl 0 rfl) ?_
      refine va_get (D := G.1) (ci := 1) (v := .int (nI rl)) (C := RX1) (T := TX1) (N := 13) hx hb hts hin1 hown hK.1 hP 0 rfl rfl 2 (by decide) (hts (.fieldLink RX1 22 "BackLenses$Reader" "length" "I") (List.mem_of_getElem? (i := 1) rfl)) (fun _ h9 => h9) rfl dX1_shorten_15 ?_
      refine lv_istore_n (lv' := [(2, .int (nI rl)), (0, .ref kre), (1, .int (nI k))]) hx hb dX1_shorten_18 rfl hl (by decide) rfl (fun ls hl => ?_)
      refine lv_aload_n hx hb dX1_shorten_19 rfl (lv_at hl 1 rfl) ?_
      refine lv_iload_n hx hb dX1_shorten_20 rfl (lv_at hl 2 rfl) ?_
      refine va_put (D := G.1) (ci := 1) (v := .int (nI k)) (ty := .int) (C := RX1) (T := TX1) (N := 13) hx hb hts hin1 tyX1 tyX1_ok nmX1 hown hK.1 hP hD hS 0 rfl rfl 2 (by decide) (hts (.fieldLink RX1 22 "BackLenses$Reader" "length" "I") (List.mem_of_getElem? (i := 1) rfl)) (fun _ h9 => h9) rfl (by decide +kernel) rfl rfl (Nat.le_of_ble_eq_true rfl) dX1_shorten_21 (fun H locs hP hD hS => ?_)
      replace hP : xP G [oC kre 1 [.ref kbt, .ref kby, .int (nI k), .int (rv 0), .int (rv 1), .int (rv 2), .int (rv 3), .int (rv 4), .int (rv 5), .int (rv 6), .int (rv 7), .int (rv 8), .int (rv 9)]] H := hP
      replace hD : va_D (va_A (w_X1_shorten G kre kbt kby rl rv) ss.heap.size) [oC kre 1 [.ref kbt, .ref kby, .int (nI k), .int (rv 0), .int (rv 1), .int (rv 2), .int (rv 3), .int (rv 4), .int (rv 5), .int (rv 6), .int (rv 7), .int (rv 8), .int (rv 9)]] := hD
      refine lv_iload_n hx hb dX1_shorten_24 rfl (lv_at hl 0 rfl) ?_
      have hP := hP.sub (ws' := [oC kre 1 [.ref kbt, .ref kby, .int (nI k), .int (rv 0), .int (rv 1), .int (rv 2), .int (rv 3), .int (rv 4), .int (rv 5), .int (rv 6), .int (rv 7), .int (rv 8), .int (rv 9)]]) [0] rfl
      have hD := hD.sub (ws' := [oC kre 1 [.ref kbt, .ref kby, .int (nI k), .int (rv 0), .int (rv 1), .int (rv 2), .int (rv 3), .int (rv 4), .int (rv 5), .int (rv 6), .int (rv 7), .int (rv 8), .int (rv 9)]]) [0] (by decide) rfl
      refine W.iret (v := nI rl) hx hb hr (fun t ht hW => ⟨⟨nI rl, (k), rfl, ?_, by rw [ht]; exact hP, hD⟩, hS.F ht⟩) hS.2.2 dX1_shorten_25
      first | (rw [if_neg (show ¬ inR _ _ by unfold inR; omega), if_neg (show ¬ inR _ _ by unfold inR; omega)]; exact ⟨rfl, rfl⟩) | (rw [if_pos (inR_nI hk (by omega)), if_pos (inR_nI hk (by omega)), nI_toInt (by omega)]; exact ⟨rfl, by omega⟩)
    · skip
      refine lv_iconst (v := (-1)) hx hb dX1_shorten_12 (by decide) ?_
      have hP := hP.sub (ws' := [oC kre 1 [.ref kbt, .ref kby, .int (nI rl), .int (rv 0), .int (rv 1), .int (rv 2), .int (rv 3), .int (rv 4), .int (rv 5), .int (rv 6), .int (rv 7), .int (rv 8), .int (rv 9)]]) [0] rfl
      have hD := hD.sub (ws' := [oC kre 1 [.ref kbt, .ref kby, .int (nI rl), .int (rv 0), .int (rv 1), .int (rv 2), .int (rv 3), .int (rv 4), .int (rv 5), .int (rv 6), .int (rv 7), .int (rv 8), .int (rv 9)]]) [0] (by decide) rfl
      refine W.iret (v := (-1)) hx hb hr (fun t ht hW => ⟨⟨(-1), (rl), rfl, ?_, by rw [ht]; exact hP, hD⟩, hS.F ht⟩) hS.2.2 dX1_shorten_13
      first | (rw [if_neg (show ¬ inR _ _ by unfold inR; omega), if_neg (show ¬ inR _ _ by unfold inR; omega)]; exact ⟨rfl, rfl⟩) | (rw [if_pos (inR_nI hk (by omega)), if_pos (inR_nI hk (by omega)), nI_toInt (by omega)]; exact ⟨rfl, by omega⟩)

abbrev w_X5_feed (G : XG) (kx kb kim kit kv ksh kwa kta : Nat) (tf rf : Int32) (kre : Nat) (kbt kby : Nat) (rl : Nat) (rv : Nat → Int32) (tb : Nat → Int32) : va_W := [oC kx 5 [.ref kb, .ref kim, .ref kit, .ref kv, .ref kre, .int tf, .ref ksh, .int rf, .ref kwa, .ref kta], oC kre 1 [.ref kbt, .ref kby, .int (nI rl), .int (rv 0), .int (rv 1), .int (rv 2), .int (rv 3), .int (rv 4), .int (rv 5), .int (rv 6), .int (rv 7), .int (rv 8), .int (rv 9)], bA G kby 160 tb]
abbrev Q_X5_feed (G : XG) (sz : Nat) (kx kb kim kit kv ksh kwa kta : Nat) (tf rf : Int32) (kre : Nat) (kbt kby : Nat) (rl : Nat) (rv : Nat → Int32) (tb : Nat → Int32) (c : Int32) : Array Value → State → Outcome → State → Prop := (va_Qi (fun (r : Int32) (u : Nat × (Nat → Int32)) => r = (if inR c 128 then (if rl < 160 then nI (rl + 1) else (-3)) else (-1)) ∧ u.1 = (if (inR c 128 ∧ rl < 160) then rl + 1 else rl) ∧ u.2 = (if (inR c 128 ∧ rl < 160) then upd tb rl c else tb)) (xWb G sz (w_X5_feed G kx kb kim kit kv ksh kwa kta tf rf kre kbt kby rl rv tb) (fun u : Nat × (Nat → Int32) => [oC kx 5 [.ref kb, .ref kim, .ref kit, .ref kv, .ref kre, .int tf, .ref ksh, .int rf, .ref kwa, .ref kta], oC kre 1 [.ref kbt, .ref kby, .int (nI u.1), .int (rv 0), .int (rv 1), .int (rv 2), .int (rv 3), .int (rv 4), .int (rv 5), .int (rv 6), .int (rv 7), .int (rv 8), .int (rv 9)], bA G kby 160 u.2])) (va_A (w_X5_feed G kx kb kim kit kv ksh kwa kta tf rf kre kbt kby rl rv tb) sz))
set_option maxHeartbeats 4000000 in
set_option maxRecDepth 100000 in
theorem c_X5_feed (l : Launch) (G : XG) (sz : Nat) (kx kb kim kit kv ksh kwa kta : Nat) (tf rf : Int32) (kre : Nat) (kbt kby : Nat) (rl : Nat) (rv : Nat → Int32) (tb : Nat → Int32) (c : Int32) (hrl : rl ≤ 160) : Met l yX5_feed wsX5_feed ({ frames := 1, cells := 0, slots := 0, locals := 21 } : Room) (va_Pc [.ref kx, .int c] (xWp G sz (w_X5_feed G kx kb kim kit kv ksh kwa kta tf rf kre kbt kby rl rv tb))) (Q_X5_feed G sz kx kb kim kit kv ksh kwa kta tf rf kre kbt kby rl rv tb c) 0 0 (va_A (w_X5_feed G kx kb kim kit kv ksh kwa kta tf rf kre kbt kby rl rv tb) sz) := by
  refine Met.ofW (cc := cX5_feed) (maxL := 2) (ret := (some .int)) (by decide) rfl ?_
  intro pp ee ss mm aa below mt cd s₁ BB hml hv
  obtain ⟨rfl, hsz, hP, hK, hD0⟩ := hv
  have hx := BB.exec
  have hb := BB.bytes
  have hr := BB.returns
  have hts := atoms_spec (ws := wsX5_feed) BB.pre
  have hown : ss.vm.findClass RX5 = some mm.cls := findClass_of_methodNamed BB.named
  have hlocks := BB.notSynchronized
  subst hsz
  have hD := hD0.self (sz := ss.heap.size)
  have hA : ∀ q : Nat, ss.heap.size ≤ q → va_A (w_X5_feed G kx kb kim kit kv ksh kwa kta tf rf kre kbt kby rl rv tb) ss.heap.size q := fun q h => Or.inr h
  have hS : va_S (va_A (w_X5_feed G kx kb kim kit kv ksh kwa kta tf rf kre kbt kby rl rv tb) ss.heap.size) ss.heap ss.heap [] := va_S.rf
  replace hD : va_D (va_A (w_X5_feed G kx kb kim kit kv ksh kwa kta tf rf kre kbt kby rl rv tb) ss.heap.size) [oC kx 5 [.ref kb, .ref kim, .ref kit, .ref kv, .ref kre, .int tf, .ref ksh, .int rf, .ref kwa, .ref kta], oC kre 1 [.ref kbt, .ref kby, .int (nI rl), .int (rv 0), .int (rv 1), .int (rv 2), .int (rv 3), .int (rv 4), .int (rv 5), .int (rv 6), .int (rv 7), .int (rv 8), .int (rv 9)], bA G kby 160 tb] := hD
  replace hP : xP G [oC kx 5 [.ref kb, .ref kim, .ref kit, .ref kv, .ref kre, .int tf, .ref ksh, .int rf, .ref kwa, .ref kta], oC kre 1 [.ref kbt, .ref kby, .int (nI rl), .int (rv 0), .int (rv 1), .int (rv 2), .int (rv 3), .int (rv 4), .int (rv 5), .int (rv 6), .int (rv 7), .int (rv 8), .int (rv 9)], bA G kby 160 tb] ss.heap := hP
  have hin1 : ∀ w ∈ u_ws RX1 TX1 13, w ∈ wsX5_feed := fun w h => List.mem_cons_of_mem _ (List.mem_append_right _ h)
  have hin5 : ∀ w ∈ u_ws RX5 TX5 10, w ∈ wsX5_feed := fun w h => List.mem_cons_of_mem _ (List.mem_append_left _ (List.mem_append_right _ h))
  have hl := lv_entry ([.ref kx, .int c]) (n := 2) (Nat.le_of_ble_eq_true rfl)
  rw [lg_entry_eq]
  generalize (lg_sl ([.ref kx, .int c]) ++ List.replicate (2 - (lg_sl ([.ref kx, .int c])).length) Slot.unset).toArray = ls at hl ⊢
  replace hl : lv_has ls 2 [(0, .ref kx), (1, .int c)] := hl
  refine lv_iload_n hx hb dX5_feed_0 rfl (lv_at hl 1 rfl) ?_
  refine xi_if_lt (tgt := 10) hx hb dX5_feed_1 rfl (fun b1 => ?_) (fun b1 => ?_)
  · skip
    refine lv_iconst (v := (-1)) hx hb dX5_feed_10 (by decide) ?_
    have hP := hP.sub (ws' := [oC kx 5 [.ref kb, .ref kim, .ref kit, .ref kv, .ref kre, .int tf, .ref ksh, .int rf, .ref kwa, .ref kta], oC kre 1 [.ref kbt, .ref kby, .int (nI rl), .int (rv 0), .int (rv 1), .int (rv 2), .int (rv 3), .int (rv 4), .int (rv 5), .int (rv 6), .int (rv 7), .int (rv 8), .int (rv 9)], bA G kby 160 tb]) [0, 1, 2] rfl
    have hD := hD.sub (ws' := [oC kx 5 [.ref kb, .ref kim, .ref kit, .ref kv, .ref kre, .int tf, .ref ksh, .int rf, .ref kwa, .ref kta], oC kre 1 [.ref kbt, .ref kby, .int (nI rl), .int (rv 0), .int (rv 1), .int (rv 2), .int (rv 3), .int (rv 4), .int (rv 5), .int (rv 6), .int (rv 7), .int (rv 8), .int (rv 9)], bA G kby 160 tb]) [0, 1, 2] (by decide) rfl
    refine W.iret (v := (-1)) hx hb hr (fun t ht hW => ⟨⟨(-1), (rl, tb), rfl, ?_, by rw [ht]; exact hP, hD⟩, hS.F ht⟩) hS.2.2 dX5_feed_11
    try dsimp only
    first | exact ⟨(if_neg (show ¬ inR c 128 by unfold inR; omega)).symm, (if_neg (fun q => (show ¬ inR c 128 by unfold inR; omega) q.1)).symm, (if_neg (fun q => (show ¬ inR c 128 by unfold inR; omega) q.1)).symm⟩ | exact ⟨(if_pos hcc).symm, (by by_cases hq : rl < 160; (rw [if_pos hq]; exact (if_pos ⟨hcc, hq⟩).symm); (rw [if_neg hq]; exact (if_neg (fun q => hq q.2)).symm)), (by by_cases hq : rl < 160; (rw [if_pos hq]; exact (if_pos ⟨hcc, hq⟩).symm); (rw [if_neg hq]; exact (if_neg (fun q => hq q.2)).symm))⟩
  · skip
    refine lv_iload_n hx hb dX5_feed_4 rfl (lv_at hl 1 rfl) ?_
    refine lv_bipush (v := nI 127) hx hb dX5_feed_5 (by decide) ?_
    refine xm_icmp_le (tgt := 12) hx hb (by omega) dX5_feed_7 rfl (fun b7 => ?_) (fun b7 => ?_)
    · skip
      have hcc : inR c 128 := (by unfold inR; omega)
      obtain ⟨c0, hc0, rfl⟩ := inR_nat hcc
      refine lv_aload_n hx hb dX5_feed_12 rfl (lv_at hl 0 rfl) ?_
      refine va_get (D := G.1) (ci := 5) (v := .ref kre) (C := RX5) (T := TX5) (N := 10) hx hb hts hin5 hown hK.1 hP 0 rfl rfl 4 (by decide) (hts (.fieldLink RX5 34 "BackLenses" "reader" "LBackLenses$Reader;") (List.mem_of_getElem? (i := 1) rfl)) (fun _ h9 => h9) rfl dX5_feed_13 ?_
      refine lv_iload_n hx hb dX5_feed_16 rfl (lv_at hl 1 rfl) ?_
      refine xw_i (As := [.int (nI c0)]) (rest := []) (wr := [oC kx 5 [.ref kb, .ref kim, .ref kit, .ref kv, .ref kre, .int tf, .ref ksh, .int rf, .ref kwa, .ref kta]]) ⟨hx, hb, hml, hown, hts⟩ (c_X1_put l G ss.heap.size kre kbt kby rl rv tb c0 (by first | assumption | omega) (by first | assumption | omega)) (cwV 1 hts gX5_feed_X1_put rfl rfl rfl (by decide +kernel) ⟨Nat.le_of_ble_eq_true rfl, Nat.le_of_ble_eq_true rfl⟩) hK hP hD hS hA [1, 2] [0] rfl rfl (by decide) (by decide) (by decide) rfl rfl rfl hl.1 rfl (Nat.le_of_ble_eq_true rfl) dX5_feed_17 ⟨Nat.le_of_ble_eq_true rfl, Nat.le_of_ble_eq_true rfl⟩ (fun r17 u H locs hp17 hP hD hS => ?_)
      obtain ⟨u0_17, u1_17⟩ := u
      try dsimp only at hp17 hP hD
      obtain ⟨rfl, rfl, rfl⟩ := hp17
      replace hP : xP G [oC kx 5 [.ref kb, .ref kim, .ref kit, .ref kv, .ref kre, .int tf, .ref ksh, .int rf, .ref kwa, .ref kta], oC kre 1 [.ref kbt, .ref kby, .int (nI (if rl < 160 then rl + 1 else rl)), .int (rv 0), .int (rv 1), .int (rv 2), .int (rv 3), .int (rv 4), .int (rv 5), .int (rv 6), .int (rv 7), .int (rv 8), .int (rv 9)], bA G kby 160 (if rl < 160 then upd tb rl (nI c0) else tb)] H := hP
      replace hD : va_D (va_A (w_X5_feed G kx kb kim kit kv ksh kwa kta tf rf kre kbt kby rl rv tb) ss.heap.size) [oC kx 5 [.ref kb, .ref kim, .ref kit, .ref kv, .ref kre, .int tf, .ref ksh, .int rf, .ref kwa, .ref kta], oC kre 1 [.ref kbt, .ref kby, .int (nI (if rl < 160 then rl + 1 else rl)), .int (rv 0), .int (rv 1), .int (rv 2), .int (rv 3), .int (rv 4), .int (rv 5), .int (rv 6), .int (rv 7), .int (rv 8), .int (rv 9)], bA G kby 160 (if rl < 160 then upd tb rl (nI c0) else tb)] := hD
      have hP := hP.sub (ws' := [oC kx 5 [.ref kb, .ref kim, .ref kit, .ref kv, .ref kre, .int tf, .ref ksh, .int rf, .ref kwa, .ref kta], oC kre 1 [.ref kbt, .ref kby, .int (nI (if rl < 160 then rl + 1 else rl)), .int (rv 0), .int (rv 1), .int (rv 2), .int (rv 3), .int (rv 4), .int (rv 5), .int (rv 6), .int (rv 7), .int (rv 8), .int (rv 9)], bA G kby 160 (if rl < 160 then upd tb rl (nI c0) else tb)]) [0, 1, 2] rfl
      have hD := hD.sub (ws' := [oC kx 5 [.ref kb, .ref kim, .ref kit, .ref kv, .ref kre, .int tf, .ref ksh, .int rf, .ref kwa, .ref kta], oC kre 1 [.ref kbt, .ref kby, .int (nI (if rl < 160 then rl + 1 else rl)), .int (rv 0), .int (rv 1), .int (rv 2), .int (rv 3), .int (rv 4), .int (rv 5), .int (rv 6), .int (rv 7), .int (rv 8), .int (rv 9)], bA G kby 160 (if rl < 160 then upd tb rl (nI c0) else tb)]) [0, 1, 2] (by decide) rfl
      refine W.iret (v := (if rl < 160 then nI (rl + 1) else (-3))) hx hb hr (fun t ht hW => ⟨⟨(if rl < 160 then nI (rl + 1) else (-3)), ((if rl < 160 then rl + 1 else rl), (if rl < 160 then upd tb rl (nI c0) else tb)), rfl, ?_, by rw [ht]; exact hP, hD⟩, hS.F ht⟩) hS.2.2 dX5_feed_20
      try dsimp only
      first | exact ⟨(if_neg (show ¬ inR c 128 by unfold inR; omega)).symm, (if_neg (fun q => (show ¬ inR c 128 by unfold inR; omega) q.1)).symm, (if_neg (fun q => (show ¬ inR c 128 by unfold inR; omega) q.1)).symm⟩ | exact ⟨(if_pos hcc).symm, (by by_cases hq : rl < 160; (rw [if_pos hq]; exact (if_pos ⟨hcc, hq⟩).symm); (rw [if_neg hq]; exact (if_neg (fun q => hq q.2)).symm)), (by by_cases hq : rl < 160; (rw [if_pos hq]; exact (if_pos ⟨hcc, hq⟩).symm); (rw [if_neg hq]; exact (if_neg (fun q => hq q.2)).symm))⟩
    · skip
      refine lv_iconst (v := (-1)) hx hb dX5_feed_10 (by decide) ?_
      have hP := hP.sub (ws' := [oC kx 5 [.ref kb, .ref kim, .ref kit, .ref kv, .ref kre, .int tf, .ref ksh, .int rf, .ref kwa, .ref kta], oC kre 1 [.ref kbt, .ref kby, .int (nI rl), .int (rv 0), .int (rv 1), .int (rv 2), .int (rv 3), .int (rv 4), .int (rv 5), .int (rv 6), .int (rv 7), .int (rv 8), .int (rv 9)], bA G kby 160 tb]) [0, 1, 2] rfl
      have hD := hD.sub (ws' := [oC kx 5 [.ref kb, .ref kim, .ref kit, .ref kv, .ref kre, .int tf, .ref ksh, .int rf, .ref kwa, .ref kta], oC kre 1 [.ref kbt, .ref kby, .int (nI rl), .int (rv 0), .int (rv 1), .int (rv 2), .int (rv 3), .int (rv 4), .int (rv 5), .int (rv 6), .int (rv 7), .int (rv 8), .int (rv 9)], bA G kby 160 tb]) [0, 1, 2] (by decide) rfl
      refine W.iret (v := (-1)) hx hb hr (fun t ht hW => ⟨⟨(-1), (rl, tb), rfl, ?_, by rw [ht]; exact hP, hD⟩, hS.F ht⟩) hS.2.2 dX5_feed_11
      try dsimp only
      first | exact ⟨(if_neg (show ¬ inR c 128 by unfold inR; omega)).symm, (if_neg (fun q => (show ¬ inR c 128 by unfold inR; omega) q.1)).symm, (if_neg (fun q => (show ¬ inR c 128 by unfold inR; omega) q.1)).symm⟩ | exact ⟨(if_pos hcc).symm, (by by_cases hq : rl < 160; (rw [if_pos hq]; exact (if_pos ⟨hcc, hq⟩).symm); (rw [if_neg hq]; exact (if_neg (fun q => hq q.2)).symm)), (by by_cases hq : rl < 160; (rw [if_pos hq]; exact (if_pos ⟨hcc, hq⟩).symm); (rw [if_neg hq]; exact (if_neg (fun q => hq q.2)).symm))⟩

abbrev w_X5_end (G : XG) (kx kb kim kit kv ksh kwa kta : Nat) (tf rf : Int32) (kre : Nat) (kbt kby : Nat) (rl : Nat) (rv : Nat → Int32) : va_W := [oC kx 5 [.ref kb, .ref kim, .ref kit, .ref kv, .ref kre, .int tf, .ref ksh, .int rf, .ref kwa, .ref kta], oC kre 1 [.ref kbt, .ref kby, .int (nI rl), .int (rv 0), .int (rv 1), .int (rv 2), .int (rv 3), .int (rv 4), .int (rv 5), .int (rv 6), .int (rv 7), .int (rv 8), .int (rv 9)]]
abbrev Q_X5_end (G : XG) (sz : Nat) (kx kb kim kit kv ksh kwa kta : Nat) (tf rf : Int32) (kre : Nat) (kbt kby : Nat) (rl : Nat) (rv : Nat → Int32) (v : Int32) : Array Value → State → Outcome → State → Prop := (va_Qi (fun (r : Int32) (u : Nat) => r = (if inR v (rl + 1) then nI rl else (-1)) ∧ u = (if inR v (rl + 1) then v.toInt.toNat else rl)) (xWb G sz (w_X5_end G kx kb kim kit kv ksh kwa kta tf rf kre kbt kby rl rv) (fun u : Nat => [oC kx 5 [.ref kb, .ref kim, .ref kit, .ref kv, .ref kre, .int tf, .ref ksh, .int rf, .ref kwa, .ref kta], oC kre 1 [.ref kbt, .ref kby, .int (nI u), .int (rv 0), .int (rv 1), .int (rv 2), .int (rv 3), .int (rv 4), .int (rv 5), .int (rv 6), .int (rv 7), .int (rv 8), .int (rv 9)]])) (va_A (w_X5_end G kx kb kim kit kv ksh kwa kta tf rf kre kbt kby rl rv) sz))
set_option maxHeartbeats 4000000 in
set_option maxRecDepth 100000 in
theorem c_X5_end (l : Launch) (G : XG) (sz : Nat) (kx kb kim kit kv ksh kwa kta : Nat) (tf rf : Int32) (kre : Nat) (kbt kby : Nat) (rl : Nat) (rv : Nat → Int32) (v : Int32) (hrl : rl ≤ 160) : Met l yX5_end wsX5_end ({ frames := 1, cells := 0, slots := 0, locals := 22 } : Room) (va_Pc [.ref kx, .int v] (xWp G sz (w_X5_end G kx kb kim kit kv ksh kwa kta tf rf kre kbt kby rl rv))) (Q_X5_end G sz kx kb kim kit kv ksh kwa kta tf rf kre kbt kby rl rv v) 0 0 (va_A (w_X5_end G kx kb kim kit kv ksh kwa kta tf rf kre kbt kby rl rv) sz) := by
  refine Met.ofW (cc := cX5_end) (maxL := 2) (ret := (some .int)) (by decide) rfl ?_
  intro pp ee ss mm aa below mt cd s₁ BB hml hv
  obtain ⟨rfl, hsz, hP, hK, hD0⟩ := hv
  have hx := BB.exec
  have hb := BB.bytes
  have hr := BB.returns
  have hts := atoms_spec (ws := wsX5_end) BB.pre
  have hown : ss.vm.findClass RX5 = some mm.cls := findClass_of_methodNamed BB.named
  have hlocks := BB.notSynchronized
  subst hsz
  have hD := hD0.self (sz := ss.heap.size)
  have hA : ∀ q : Nat, ss.heap.size ≤ q → va_A (w_X5_end G kx kb kim kit kv ksh kwa kta tf rf kre kbt kby rl rv) ss.heap.size q := fun q h => Or.inr h
  have hS : va_S (va_A (w_X5_end G kx kb kim kit kv ksh kwa kta tf rf kre kbt kby rl rv) ss.heap.size) ss.heap ss.heap [] := va_S.rf
  replace hD : va_D (va_A (w_X5_end G kx kb kim kit kv ksh kwa kta tf rf kre kbt kby rl rv) ss.heap.size) [oC kx 5 [.ref kb, .ref kim, .ref kit, .ref kv, .ref kre, .int tf, .ref ksh, .int rf, .ref kwa, .ref kta], oC kre 1 [.ref kbt, .ref kby, .int (nI rl), .int (rv 0), .int (rv 1), .int (rv 2), .int (rv 3), .int (rv 4), .int (rv 5), .int (rv 6), .int (rv 7), .int (rv 8), .int (rv 9)]] := hD
  replace hP : xP G [oC kx 5 [.ref kb, .ref kim, .ref kit, .ref kv, .ref kre, .int tf, .ref ksh, .int rf, .ref kwa, .ref kta], oC kre 1 [.ref kbt, .ref kby, .int (nI rl), .int (rv 0), .int (rv 1), .int (rv 2), .int (rv 3), .int (rv 4), .int (rv 5), .int (rv 6), .int (rv 7), .int (rv 8), .int (rv 9)]] ss.heap := hP
  have hin1 : ∀ w ∈ u_ws RX1 TX1 13, w ∈ wsX5_end := fun w h => List.mem_cons_of_mem _ (List.mem_append_right _ h)
  have hin5 : ∀ w ∈ u_ws RX5 TX5 10, w ∈ wsX5_end := fun w h => List.mem_cons_of_mem _ (List.mem_append_left _ (List.mem_append_right _ h))
  have hl := lv_entry ([.ref kx, .int v]) (n := 2) (Nat.le_of_ble_eq_true rfl)
  rw [lg_entry_eq]
  generalize (lg_sl ([.ref kx, .int v]) ++ List.replicate (2 - (lg_sl ([.ref kx, .int v])).length) Slot.unset).toArray = ls at hl ⊢
  replace hl : lv_has ls 2 [(0, .ref kx), (1, .int v)] := hl
  refine lv_aload_n hx hb dX5_end_0 rfl (lv_at hl 0 rfl) ?_
  refine va_get (D := G.1) (ci := 5) (v := .ref kre) (C := RX5) (T := TX5) (N := 10) hx hb hts hin5 hown hK.1 hP 0 rfl rfl 4 (by decide) (hts (.fieldLink RX5 34 "BackLenses" "reader" "LBackLenses$Reader;") (List.mem_of_getElem? (i := 1) rfl)) (fun _ h9 => h9) rfl dX5_end_1 ?_
  refine lv_iload_n hx hb dX5_end_4 rfl (lv_at hl 1 rfl) ?_
  refine xw_i (As := [.int v]) (rest := []) (wr := [oC kx 5 [.ref kb, .ref kim, .ref kit, .ref kv, .ref kre, .int tf, .ref ksh, .int rf, .ref kwa, .ref kta]]) ⟨hx, hb, hml, hown, hts⟩ (c_X1_shorten l G ss.heap.size kre kbt kby rl rv v (by first | assumption | omega)) (cwV 1 hts gX5_end_X1_shorten rfl rfl rfl (by decide +kernel) ⟨Nat.le_of_ble_eq_true rfl, Nat.le_of_ble_eq_true rfl⟩) hK hP hD hS hA [1] [0] rfl rfl (by decide) (by decide) (by decide) rfl rfl rfl hl.1 rfl (Nat.le_of_ble_eq_true rfl) dX5_end_5 ⟨Nat.le_of_ble_eq_true rfl, Nat.le_of_ble_eq_true rfl⟩ (fun r5 u H locs hp5 hP hD hS => ?_)
  obtain ⟨u0_5, rfl⟩ : ∃ z, z = u := ⟨_, rfl⟩
  try dsimp only at hp5 hP hD
  obtain ⟨rfl, rfl⟩ := hp5
  replace hP : xP G [oC kx 5 [.ref kb, .ref kim, .ref kit, .ref kv, .ref kre, .int tf, .ref ksh, .int rf, .ref kwa, .ref kta], oC kre 1 [.ref kbt, .ref kby, .int (nI (if inR v (rl + 1) then v.toInt.toNat else rl)), .int (rv 0), .int (rv 1), .int (rv 2), .int (rv 3), .int (rv 4), .int (rv 5), .int (rv 6), .int (rv 7), .int (rv 8), .int (rv 9)]] H := hP
  replace hD : va_D (va_A (w_X5_end G kx kb kim kit kv ksh kwa kta tf rf kre kbt kby rl rv) ss.heap.size) [oC kx 5 [.ref kb, .ref kim, .ref kit, .ref kv, .ref kre, .int tf, .ref ksh, .int rf, .ref kwa, .ref kta], oC kre 1 [.ref kbt, .ref kby, .int (nI (if inR v (rl + 1) then v.toInt.toNat else rl)), .int (rv 0), .int (rv 1), .int (rv 2), .int (rv 3), .int (rv 4), .int (rv 5), .int (rv 6), .int (rv 7), .int (rv 8), .int (rv 9)]] := hD
  have hP := hP.sub (ws' := [oC kx 5 [.ref kb, .ref kim, .ref kit, .ref kv, .ref kre, .int tf, .ref ksh, .int rf, .ref kwa, .ref kta], oC kre 1 [.ref kbt, .ref kby, .int (nI (if inR v (rl + 1) then v.toInt.toNat else rl)), .int (rv 0), .int (rv 1), .int (rv 2), .int (rv 3), .int (rv 4), .int (rv 5), .int (rv 6), .int (rv 7), .int (rv 8), .int (rv 9)]]) [0, 1] rfl
  have hD := hD.sub (ws' := [oC kx 5 [.ref kb, .ref kim, .ref kit, .ref kv, .ref kre, .int tf, .ref ksh, .int rf, .ref kwa, .ref kta], oC kre 1 [.ref kbt, .ref kby, .int (nI (if inR v (rl + 1) then v.toInt.toNat else rl)), .int (rv 0), .int (rv 1), .int (rv 2), .int (rv 3), .int (rv 4), .int (rv 5), .int (rv 6), .int (rv 7), .int (rv 8), .int (rv 9)]]) [0, 1] (by decide) rfl
  refine W.iret (v := (if inR v (rl + 1) then nI rl else (-1))) hx hb hr (fun t ht hW => ⟨⟨(if inR v (rl + 1) then nI rl else (-1)), ((if inR v (rl + 1) then v.toInt.toNat else rl)), rfl, ?_, by rw [ht]; exact hP, hD⟩, hS.F ht⟩) hS.2.2 dX5_end_8
  exact ⟨rfl, rfl⟩

abbrev w_X5_read (G : XG) (kx kim kit kre ksh kwa kta : Nat) (tf rf : Int32) (kb ka kc kcn kl kn : Nat) (w h la nc : Nat) (fc : Nat → Int32) (kv km kg : Nat) (vw vh : Nat) (sl : Int32) (gs : Nat → Option Nat) (ks ksc : Nat) (ln sz0 : Int32) (f : Nat → Int32) : va_W := [oC kx 5 [.ref kb, .ref kim, .ref kit, .ref kv, .ref kre, .int tf, .ref ksh, .int rf, .ref kwa, .ref kta], oC kb 0 [.int (nI w), .int (nI h), .int (nI la), .ref ka, .ref kc, .ref kl, .ref kn], oC kc 2 [.ref kcn, .int (nI 10), .int (nI nc)], iA G kcn (3 * 10) fc, oC kv 4 [.ref km, .ref kg, .int (nI vw), .int (nI vh), .int sl], sA G ksh 4 gs, oC ks 3 [.ref ksc, .int ln, .int sz0], iA G ksc 40 f]
abbrev Q_X5_read (G : XG) (sz : Nat) (kx kim kit kre ksh kwa kta : Nat) (tf rf : Int32) (kb ka kc kcn kl kn : Nat) (w h la nc : Nat) (fc : Nat → Int32) (kv km kg : Nat) (vw vh : Nat) (sl : Int32) (gs : Nat → Option Nat) (ks ksc : Nat) (ln sz0 : Int32) (f : Nat → Int32) (j : Nat) (lane f0 : Int32) (n : Nat) : Array Value → State → Outcome → State → Prop := (va_Qi (fun (r : Int32) (u : Nat × (Nat → Int32) × Int32) => r = (match (rdF la (w * h) sz0 f f0 n 0 (if sz0 = (-1) ∨ ln = lane then nI 0 else nI 3) nc fc).1 with | some i => (-20) - nI i | none => nI ((rdF la (w * h) sz0 f f0 n 0 (if sz0 = (-1) ∨ ln = lane then nI 0 else nI 3) nc fc).2.2.1 - nc)) ∧ u.1 = (match (rdF la (w * h) sz0 f f0 n 0 (if sz0 = (-1) ∨ ln = lane then nI 0 else nI 3) nc fc).1 with | some _ => nc | none => (rdF la (w * h) sz0 f f0 n 0 (if sz0 = (-1) ∨ ln = lane then nI 0 else nI 3) nc fc).2.2.1) ∧ u.2.1 = (rdF la (w * h) sz0 f f0 n 0 (if sz0 = (-1) ∨ ln = lane then nI 0 else nI 3) nc fc).2.2.2 ∧ u.2.2 = (match (rdF la (w * h) sz0 f f0 n 0 (if sz0 = (-1) ∨ ln = lane then nI 0 else nI 3) nc fc).1 with | some _ => rf | none => (rdF la (w * h) sz0 f f0 n 0 (if sz0 = (-1) ∨ ln = lane then nI 0 else nI 3) nc fc).2.1)) (xWb G sz (w_X5_read G kx kim kit kre ksh kwa kta tf rf kb ka kc kcn kl kn w h la nc fc kv km kg vw vh sl gs ks ksc ln sz0 f) (fun u : Nat × (Nat → Int32) × Int32 => [oC kx 5 [.ref kb, .ref kim, .ref kit, .ref kv, .ref kre, .int tf, .ref ksh, .int u.2.2, .ref kwa, .ref kta], oC kb 0 [.int (nI w), .int (nI h), .int (nI la), .ref ka, .ref kc, .ref kl, .ref kn], oC kc 2 [.ref kcn, .int (nI 10), .int (nI u.1)], iA G kcn (3 * 10) u.2.1, oC kv 4 [.ref km, .ref kg, .int (nI vw), .int (nI vh), .int (nI 1)], sA G ksh 4 gs, oC ks 3 [.ref ksc, .int ln, .int sz0], iA G ksc 40 f])) (va_A (w_X5_read G kx kim kit kre ksh kwa kta tf rf kb ka kc kcn kl kn w h la nc fc kv km kg vw vh sl gs ks ksc ln sz0 f) sz))
set_option maxHeartbeats 4000000 in
set_option maxRecDepth 100000 in
theorem c_X5_read (l : Launch) (G : XG) (sz : Nat) (kx kim kit kre ksh kwa kta : Nat) (tf rf : Int32) (kb ka kc kcn kl kn : Nat) (w h la nc : Nat) (fc : Nat → Int32) (kv km kg : Nat) (vw vh : Nat) (sl : Int32) (gs : Nat → Option Nat) (ks ksc : Nat) (ln sz0 : Int32) (f : Nat → Int32) (j : Nat) (lane f0 : Int32) (n : Nat) (hj : j < 4) (hgj : gs j = some ks) (hlane : inR lane 3) (hn : n ≤ 13) (hsz : sz0.toInt ≤ 40) (hwh : w * h ≤ 16) (hla : la ≤ 9) (hnc : nc ≤ 10) : Met l yX5_read wsX5_read ({ frames := 3, cells := 0, slots := 0, locals := 63 } : Room) (va_Pc [.ref kx, .int (nI j), .int lane, .int f0, .int (nI n)] (xWp G sz (w_X5_read G kx kim kit kre ksh kwa kta tf rf kb ka kc kcn kl kn w h la nc fc kv km kg vw vh sl gs ks ksc ln sz0 f))) (Q_X5_read G sz kx kim kit kre ksh kwa kta tf rf kb ka kc kcn kl kn w h la nc fc kv km kg vw vh sl gs ks ksc ln sz0 f j lane f0 n) 0 0 (va_A (w_X5_read G kx kim kit kre ksh kwa kta tf rf kb ka kc kcn kl kn w h la nc fc kv km kg vw vh sl gs ks ksc ln sz0 f) sz) := by
  refine Met.ofW (cc := cX5_read) (maxL := 10) (ret := (some .int)) (by decide) rfl ?_
  intro pp ee ss mm aa below mt cd s₁ BB hml hv
  obtain ⟨rfl, hsz, hP, hK, hD0⟩ := hv
  have hx := BB.exec
  have hb := BB.bytes
  have hr := BB.returns
  have hts := atoms_spec (ws := wsX5_read) BB.pre
  have hown : ss.vm.findClass RX5 = some mm.cls := findClass_of_methodNamed BB.named
  have hlocks := BB.notSynchronized
  subst hsz
  have hD := hD0.self (sz := ss.heap.size)
  have hA : ∀ q : Nat, ss.heap.size ≤ q → va_A (w_X5_read G kx kim kit kre ksh kwa kta tf rf kb ka kc kcn kl kn w h la nc fc kv km kg vw vh sl gs ks ksc ln sz0 f) ss.heap.size q := fun q h => Or.inr h
  have hS : va_S (va_A (w_X5_read G kx kim kit kre ksh kwa kta tf rf kb ka kc kcn kl kn w h la nc fc kv km kg vw vh sl gs ks ksc ln sz0 f) ss.heap.size) ss.heap ss.heap [] := va_S.rf
  replace hD : va_D (va_A (w_X5_read G kx kim kit kre ksh kwa kta tf rf kb ka kc kcn kl kn w h la nc fc kv km kg vw vh sl gs ks ksc ln sz0 f) ss.heap.size) [oC kx 5 [.ref kb, .ref kim, .ref kit, .ref kv, .ref kre, .int tf, .ref ksh, .int rf, .ref kwa, .ref kta], oC kb 0 [.int (nI w), .int (nI h), .int (nI la), .ref ka, .ref kc, .ref kl, .ref kn], oC kc 2 [.ref kcn, .int (nI 10), .int (nI nc)], iA G kcn (3 * 10) fc, oC kv 4 [.ref km, .ref kg, .int (nI vw), .int (nI vh), .int sl], sA G ksh 4 gs, oC ks 3 [.ref ksc, .int ln, .int sz0], iA G ksc 40 f] := hD
  replace hP : xP G [oC kx 5 [.ref kb, .ref kim, .ref kit, .ref kv, .ref kre, .int tf, .ref ksh, .int rf, .ref kwa, .ref kta], oC kb 0 [.int (nI w), .int (nI h), .int (nI la), .ref ka, .ref kc, .ref kl, .ref kn], oC kc 2 [.ref kcn, .int (nI 10), .int (nI nc)], iA G kcn (3 * 10) fc, oC kv 4 [.ref km, .ref kg, .int (nI vw), .int (nI vh), .int sl], sA G ksh 4 gs, oC ks 3 [.ref ksc, .int ln, .int sz0], iA G ksc 40 f] ss.heap := hP
  have hin0 : ∀ w ∈ u_ws RX0 TX0 7, w ∈ wsX5_read := fun w h => List.mem_cons_of_mem _ (List.mem_append_left _ (List.mem_append_left _ (List.mem_append_left _ (List.mem_append_right _ h))))
  have hin2 : ∀ w ∈ u_ws RX2 TX2 3, w ∈ wsX5_read := fun w h => List.mem_cons_of_mem _ (List.mem_append_left _ (List.mem_append_left _ (List.mem_append_right _ h)))
  have hin3 : ∀ w ∈ u_ws RX3 TX3 3, w ∈ wsX5_read := fun w h => List.mem_cons_of_mem _ (List.mem_append_right _ h)
  have hin4 : ∀ w ∈ u_ws RX4 TX4 5, w ∈ wsX5_read := fun w h => List.mem_cons_of_mem _ (List.mem_append_left _ (List.mem_append_right _ h))
  have hin5 : ∀ w ∈ u_ws RX5 TX5 10, w ∈ wsX5_read := fun w h => List.mem_cons_of_mem _ (List.mem_append_left _ (List.mem_append_left _ (List.mem_append_left _ (List.mem_append_left _ (List.mem_append_right _ h)))))
  have hl := lv_entry ([.ref kx, .int (nI j), .int lane, .int f0, .int (nI n)]) (n := 10) (Nat.le_of_ble_eq_true rfl)
  rw [lg_entry_eq]
  generalize (lg_sl ([.ref kx, .int (nI j), .int lane, .int f0, .int (nI n)]) ++ List.replicate (10 - (lg_sl ([.ref kx, .int (nI j), .int lane, .int f0, .int (nI n)])).length) Slot.unset).toArray = ls at hl ⊢
  replace hl : lv_has ls 10 [(0, .ref kx), (1, .int (nI j)), (2, .int lane), (3, .int f0), (4, .int (nI n))] := hl
  refine lv_iload_n hx hb dX5_read_0 rfl (lv_at hl 1 rfl) ?_
  refine xs_i (As := [.int (nI j)]) (rest := []) ⟨hx, hb, hml, hown, hts⟩ (c_X5_isSheet l G (nI j) ) (va_cwS 1 hts gX5_read_X5_isSheet rfl rfl rfl (by decide +kernel) ⟨Nat.le_of_ble_eq_true rfl, Nat.le_of_ble_eq_true rfl⟩) hP hS rfl hl.1 rfl (Nat.le_of_ble_eq_true rfl) dX5_read_1 ⟨Nat.zero_le _, Nat.zero_le _⟩ (fun r1 H locs hp1 hP hS => ?_)
  rw [show r1 = _ from hp1]
  refine xb_if_eq (tgt := 26) hx hb dX5_read_4 rfl (fun b4 => absurd b4 (by exact fun q => q (inR_nI hj (by omega)))) (fun _ => ?_)
  refine lv_iload_n hx hb dX5_read_7 rfl (lv_at hl 2 rfl) ?_
  refine xs_i (As := [.int lane]) (rest := []) ⟨hx, hb, hml, hown, hts⟩ (c_X5_isLane l G lane ) (va_cwS 1 hts gX5_read_X5_isLane rfl rfl rfl (by decide +kernel) ⟨Nat.le_of_ble_eq_true rfl, Nat.le_of_ble_eq_true rfl⟩) hP hS rfl hl.1 rfl (Nat.le_of_ble_eq_true rfl) dX5_read_8 ⟨Nat.zero_le _, Nat.zero_le _⟩ (fun r8 H locs hp8 hP hS => ?_)
  rw [show r8 = _ from hp8]
  refine xb_if_eq (tgt := 26) hx hb dX5_read_11 rfl (fun b11 => absurd b11 (by exact fun q => q hlane)) (fun _ => ?_)
  refine lv_iload hx hb dX5_read_14 (lv_at hl 4 rfl) ?_
  refine xn_if_lt (tgt := 26) hx hb (by omega) dX5_read_16 rfl (fun b16 => absurd b16 (by omega)) (fun _ => ?_)
  refine lv_iload hx hb dX5_read_19 (lv_at hl 4 rfl) ?_
  refine lv_bipush (v := nI 13) hx hb dX5_read_21 (by decide) ?_
  refine xn_icmp_le (tgt := 28) hx hb (by omega) (by omega) dX5_read_23 rfl (fun _ => ?_) (fun b23 => absurd b23 (by omega))
  refine lv_aload_n hx hb dX5_read_28 rfl (lv_at hl 0 rfl) ?_
  refine va_get (D := G.1) (ci := 5) (v := .ref ksh) (C := RX5) (T := TX5) (N := 10) hx hb hts hin5 hown hK.1 hP 0 rfl rfl 6 (by decide) (hts (.fieldLink RX5 40 "BackLenses" "sheets" "[LBackLenses$Sheet;") (List.mem_of_getElem? (i := 1) rfl)) (fun _ h9 => h9) rfl dX5_read_29 ?_
  refine lv_iload_n hx hb dX5_read_32 rfl (lv_at hl 1 rfl) ?_
  refine xn_aalds hx hb hK hP 5 rfl (by omega) (by omega) (show _ = some ks by assumption) dX5_read_33 ?_
  refine lv_astore (lv' := [(5, .ref ks), (0, .ref kx), (1, .int (nI j)), (2, .int lane), (3, .int f0), (4, .int (nI n))]) hx hb dX5_read_34 hl (by decide) rfl (fun ls hl => ?_)
  refine lv_aload_n hx hb dX5_read_36 rfl (lv_at hl 1 rfl) ?_
  refine va_get (D := G.1) (ci := 5) (v := .ref kb) (C := RX5) (T := TX5) (N := 10) hx hb hts hin5 hown hK.1 hP 0 rfl rfl 0 (by decide) (hts (.fieldLink RX5 10 "BackLenses" "book" "LBackLenses$Book;") (List.mem_of_getElem? (i := 2) rfl)) (fun _ h9 => h9) rfl dX5_read_37 ?_
  refine va_getN (D := G.1) (ci := 0) (v := .ref kc) (C := RX0) (T := TX0) (N := 7) hx hb hts hin0 hown hK.1 hP 1 rfl rfl 4 (by decide) (va_Nw.use rfl (hK.2 (Cond.fieldLinkNest "BackLenses" (93 : Nat) "BackLenses$Book" "changes" "LBackLenses$Rows;" "BackLenses") (List.mem_of_getElem? (i := 18) rfl))) (fun _ h9 => h9) rfl dX5_read_40 ?_
  refine va_getN (D := G.1) (ci := 2) (v := .int (nI nc)) (C := RX2) (T := TX2) (N := 3) hx hb hts hin2 hown hK.1 hP 2 rfl rfl 2 (by decide) (va_Nw.use rfl (hK.2 (Cond.fieldLinkNest "BackLenses" (97 : Nat) "BackLenses$Rows" "size" "I" "BackLenses") (List.mem_of_getElem? (i := 3) rfl))) (fun _ h9 => h9) rfl dX5_read_43 ?_
  refine lv_istore (lv' := [(6, .int (nI nc)), (5, .ref ks), (0, .ref kx), (1, .int (nI j)), (2, .int lane), (3, .int f0), (4, .int (nI n))]) hx hb dX5_read_46 hl (by decide) rfl (fun ls hl => ?_)
  refine lv_aload hx hb dX5_read_48 (lv_at hl 1 rfl) ?_
  refine lv_iload_n hx hb dX5_read_50 rfl (lv_at hl 4 rfl) ?_
  refine xr_i (As := [.int lane]) (rest := []) ⟨hx, hb, hml, hown, hts⟩ (c_X3_faultAsLane l G ks ksc ln sz0 lane ) (cwV 1 hts gX5_read_X3_faultAsLane rfl rfl rfl (by decide +kernel) ⟨Nat.le_of_ble_eq_true rfl, Nat.le_of_ble_eq_true rfl⟩) hK hP hS [6] rfl rfl rfl rfl hl.1 rfl (Nat.le_of_ble_eq_true rfl) dX5_read_51 ⟨Nat.zero_le _, Nat.zero_le _⟩ (fun r51 H locs hp51 hP hS => ?_)
  rw [show r51 = _ from hp51]
  refine lv_istore (lv' := [(7, .int (if sz0 = (-1) ∨ ln = lane then nI 0 else nI 3)), (6, .int (nI nc)), (5, .ref ks), (0, .ref kx), (1, .int (nI j)), (2, .int lane), (3, .int f0), (4, .int (nI n))]) hx hb dX5_read_54 hl (by decide) rfl (fun ls hl => ?_)
  refine lv_aload_n hx hb dX5_read_56 rfl (lv_at hl 3 rfl) ?_
  refine va_get (D := G.1) (ci := 5) (v := .ref kv) (C := RX5) (T := TX5) (N := 10) hx hb hts hin5 hown hK.1 hP 0 rfl rfl 3 (by decide) (hts (.fieldLink RX5 27 "BackLenses" "views" "LBackLenses$Views;") (List.mem_of_getElem? (i := 3) rfl)) (fun _ h9 => h9) rfl dX5_read_57 ?_
  refine lv_iconst (v := nI 1) hx hb dX5_read_60 (by decide) ?_
  refine va_putN (D := G.1) (ci := 4) (v := .int (nI 1)) (ty := .boolean) (C := RX4) (T := TX4) (N := 5) hx hb hts hin4 tyX4 tyX4_ok nmX4 hown hK.1 hP hD hS 4 rfl rfl 4 (by decide) (va_Nw.use rfl (hK.2 (Cond.fieldLinkNest "BackLenses" (77 : Nat) "BackLenses$Views" "stale" "Z" "BackLenses") (List.mem_of_getElem? (i := 22) rfl))) (fun _ h9 => h9) rfl (by decide +kernel) (by decide) (by decide) (Nat.le_of_ble_eq_true rfl) dX5_read_61 (fun H locs hP hD hS => ?_)
  replace hP : xP G [oC kx 5 [.ref kb, .ref kim, .ref kit, .ref kv, .ref kre, .int tf, .ref ksh, .int rf, .ref kwa, .ref kta], oC kb 0 [.int (nI w), .int (nI h), .int (nI la), .ref ka, .ref kc, .ref kl, .ref kn], oC kc 2 [.ref kcn, .int (nI 10), .int (nI nc)], iA G kcn (3 * 10) fc, oC kv 4 [.ref km, .ref kg, .int (nI vw), .int (nI vh), .int (nI 1)], sA G ksh 4 gs, oC ks 3 [.ref ksc, .int ln, .int sz0], iA G ksc 40 f] H := hP
  replace hD : va_D (va_A (w_X5_read G kx kim kit kre ksh kwa kta tf rf kb ka kc kcn kl kn w h la nc fc kv km kg vw vh sl gs ks ksc ln sz0 f) ss.heap.size) [oC kx 5 [.ref kb, .ref kim, .ref kit, .ref kv, .ref kre, .int tf, .ref ksh, .int rf, .ref kwa, .ref kta], oC kb 0 [.int (nI w), .int (nI h), .int (nI la), .ref ka, .ref kc, .ref kl, .ref kn], oC kc 2 [.ref kcn, .int (nI 10), .int (nI nc)], iA G kcn (3 * 10) fc, oC kv 4 [.ref km, .ref kg, .int (nI vw), .int (nI vh), .int (nI 1)], sA G ksh 4 gs, oC ks 3 [.ref ksc, .int ln, .int sz0], iA G ksc 40 f] := hD
  refine lv_iconst (v := nI 0) hx hb dX5_read_64 (by decide) ?_
  refine lv_istore (lv' := [(8, .int (nI 0)), (7, .int (if sz0 = (-1) ∨ ln = lane then nI 0 else nI 3)), (6, .int (nI nc)), (5, .ref ks), (0, .ref kx), (1, .int (nI j)), (2, .int lane), (3, .int f0), (4, .int (nI n))]) hx hb dX5_read_65 hl (by decide) rfl (fun ls hl => ?_)
  have hL67 : ∀ k : Nat, ∀ (i : Nat) (fd : Int32) (n3 : Nat) (f3 : Nat → Int32) (ls : Array Slot) (H : Heap) (locs : List Loc), n - i = k → (i ≤ n) → (nc ≤ n3) → (n3 ≤ 10) → ((rdF la (w * h) sz0 f f0 n 0 (if sz0 = (-1) ∨ ln = lane then nI 0 else nI 3) nc fc) = rdF la (w * h) sz0 f f0 (n - i) i fd n3 f3) → lv_has ls 10 [(0, .ref kx), (1, .int (nI j)), (2, .int lane), (3, .int f0), (4, .int (nI n)), (5, .ref ks), (6, .int (nI nc)), (7, .int fd), (8, .int (nI i))] → xP G [oC kb 0 [.int (nI w), .int (nI h), .int (nI la), .ref ka, .ref kc, .ref kl, .ref kn], oC kc 2 [.ref kcn, .int (nI 10), .int (nI n3)], iA G kcn (3 * 10) f3, oC ks 3 [.ref ksc, .int ln, .int sz0], iA G ksc 40 f, sA G ksh 4 gs, oC kv 4 [.ref km, .ref kg, .int (nI vw), .int (nI vh), .int (nI 1)], oC kx 5 [.ref kb, .ref kim, .ref kit, .ref kv, .ref kre, .int tf, .ref ksh, .int rf, .ref kwa, .ref kta]] H → va_D (va_A (w_X5_read G kx kim kit kre ksh kwa kta tf rf kb ka kc kcn kl kn w h la nc fc kv km kg vw vh sl gs ks ksc ln sz0 f) ss.heap.size) [oC kb 0 [.int (nI w), .int (nI h), .int (nI la), .ref ka, .ref kc, .ref kl, .ref kn], oC kc 2 [.ref kcn, .int (nI 10), .int (nI n3)], iA G kcn (3 * 10) f3, oC ks 3 [.ref ksc, .int ln, .int sz0], iA G ksc 40 f, sA G ksh 4 gs, oC kv 4 [.ref km, .ref kg, .int (nI vw), .int (nI vh), .int (nI 1)], oC kx 5 [.ref kb, .ref kim, .ref kit, .ref kv, .ref kre, .int tf, .ref ksh, .int rf, .ref kwa, .ref kta]] → va_S (va_A (w_X5_read G kx kim kit kre ksh kwa kta tf rf kb ka kc kcn kl kn w h la nc fc kv km kg vw vh sl gs ks ksc ln sz0 f) ss.heap.size) ss.heap H locs → W pp l ee ({ frames := 3, cells := 0, slots := 0, locals := 63 } : Room) ss mm ([.ref kx, .int (nI j), .int lane, .int f0, .int (nI n)] : List Value).toArray below mt cd H locs 0 0 (MQ below (Q_X5_read G ss.heap.size kx kim kit kre ksh kwa kta tf rf kb ka kc kcn kl kn w h la nc fc kv km kg vw vh sl gs ks ksc ln sz0 f j lane f0 n) ([.ref kx, .int (nI j), .int lane, .int f0, .int (nI n)] : List Value).toArray ss 0 0 (va_A (w_X5_read G kx kim kit kre ksh kwa kta tf rf kb ka kc kcn kl kn w h la nc fc kv km kg vw vh sl gs ks ksc ln sz0 f) ss.heap.size)) (F0 mm 67 ls []) := by
    intro k
    induction k using Nat.strongRecOn with
    | _ k ih67 =>
    intro i fd n3 f3 ls H locs hm67 hi hnn hn3 hrd hl hP hD hS
    refine lv_iload hx hb dX5_read_67 (lv_at hl 8 rfl) ?_
    refine lv_iload hx hb dX5_read_69 (lv_at hl 4 rfl) ?_
    refine xn_icmp_ge (tgt := 164) hx hb (by omega) (by omega) dX5_read_71 rfl (fun b71 => ?_) (fun b71 => ?_)
    · skip
      refine lv_aload_n hx hb dX5_read_164 rfl (lv_at hl 0 rfl) ?_
      refine lv_iload hx hb dX5_read_165 (lv_at hl 7 rfl) ?_
      refine va_put (D := G.1) (ci := 5) (v := .int fd) (ty := .int) (C := RX5) (T := TX5) (N := 10) hx hb hts hin5 tyX5 tyX5_ok nmX5 hown hK.1 hP hD hS 7 rfl rfl 7 (by decide) (hts (.fieldLink RX5 237 "BackLenses" "readFault" "I") (List.mem_of_getElem? (i := 4) rfl)) (fun _ h9 => h9) rfl (by decide +kernel) rfl rfl (Nat.le_of_ble_eq_true rfl) dX5_read_167 (fun H locs hP hD hS => ?_)
      replace hP : xP G [oC kb 0 [.int (nI w), .int (nI h), .int (nI la), .ref ka, .ref kc, .ref kl, .ref kn], oC kc 2 [.ref kcn, .int (nI 10), .int (nI n3)], iA G kcn (3 * 10) f3, oC ks 3 [.ref ksc, .int ln, .int sz0], iA G ksc 40 f, sA G ksh 4 gs, oC kv 4 [.ref km, .ref kg, .int (nI vw), .int (nI vh), .int (nI 1)], oC kx 5 [.ref kb, .ref kim, .ref kit, .ref kv, .ref kre, .int tf, .ref ksh, .int fd, .ref kwa, .ref kta]] H := hP
      replace hD : va_D (va_A (w_X5_read G kx kim kit kre ksh kwa kta tf rf kb ka kc kcn kl kn w h la nc fc kv km kg vw vh sl gs ks ksc ln sz0 f) ss.heap.size) [oC kb 0 [.int (nI w), .int (nI h), .int (nI la), .ref ka, .ref kc, .ref kl, .ref kn], oC kc 2 [.ref kcn, .int (nI 10), .int (nI n3)], iA G kcn (3 * 10) f3, oC ks 3 [.ref ksc, .int ln, .int sz0], iA G ksc 40 f, sA G ksh 4 gs, oC kv 4 [.ref km, .ref kg, .int (nI vw), .int (nI vh), .int (nI 1)], oC kx 5 [.ref kb, .ref kim, .ref kit, .ref kv, .ref kre, .int tf, .ref ksh, .int fd, .ref kwa, .ref kta]] := hD
      refine lv_aload_n hx hb dX5_read_170 rfl (lv_at hl 0 rfl) ?_
      refine va_get (D := G.1) (ci := 5) (v := .ref kb) (C := RX5) (T := TX5) (N := 10) hx hb hts hin5 hown hK.1 hP 7 rfl rfl 0 (by decide) (hts (.fieldLink RX5 10 "BackLenses" "book" "LBackLenses$Book;") (List.mem_of_getElem? (i := 2) rfl)) (fun _ h9 => h9) rfl dX5_read_171 ?_
      refine va_getN (D := G.1) (ci := 0) (v := .ref kc) (C := RX0) (T := TX0) (N := 7) hx hb hts hin0 hown hK.1 hP 0 rfl rfl 4 (by decide) (va_Nw.use rfl (hK.2 (Cond.fieldLinkNest "BackLenses" (93 : Nat) "BackLenses$Book" "changes" "LBackLenses$Rows;" "BackLenses") (List.mem_of_getElem? (i := 18) rfl))) (fun _ h9 => h9) rfl dX5_read_174 ?_
      refine va_getN (D := G.1) (ci := 2) (v := .int (nI n3)) (C := RX2) (T := TX2) (N := 3) hx hb hts hin2 hown hK.1 hP 1 rfl rfl 2 (by decide) (va_Nw.use rfl (hK.2 (Cond.fieldLinkNest "BackLenses" (97 : Nat) "BackLenses$Rows" "size" "I" "BackLenses") (List.mem_of_getElem? (i := 3) rfl))) (fun _ h9 => h9) rfl dX5_read_177 ?_
      refine lv_iload hx hb dX5_read_180 (lv_at hl 6 rfl) ?_
      refine xn_isub hx hb (by omega) dX5_read_182 ?_
      have hP := hP.sub (ws' := [oC kx 5 [.ref kb, .ref kim, .ref kit, .ref kv, .ref kre, .int tf, .ref ksh, .int fd, .ref kwa, .ref kta], oC kb 0 [.int (nI w), .int (nI h), .int (nI la), .ref ka, .ref kc, .ref kl, .ref kn], oC kc 2 [.ref kcn, .int (nI 10), .int (nI n3)], iA G kcn (3 * 10) f3, oC kv 4 [.ref km, .ref kg, .int (nI vw), .int (nI vh), .int (nI 1)], sA G ksh 4 gs, oC ks 3 [.ref ksc, .int ln, .int sz0], iA G ksc 40 f]) [7, 0, 1, 2, 6, 5, 3, 4] rfl
      have hD := hD.sub (ws' := [oC kx 5 [.ref kb, .ref kim, .ref kit, .ref kv, .ref kre, .int tf, .ref ksh, .int fd, .ref kwa, .ref kta], oC kb 0 [.int (nI w), .int (nI h), .int (nI la), .ref ka, .ref kc, .ref kl, .ref kn], oC kc 2 [.ref kcn, .int (nI 10), .int (nI n3)], iA G kcn (3 * 10) f3, oC kv 4 [.ref km, .ref kg, .int (nI vw), .int (nI vh), .int (nI 1)], sA G ksh 4 gs, oC ks 3 [.ref ksc, .int ln, .int sz0], iA G ksc 40 f]) [7, 0, 1, 2, 6, 5, 3, 4] (by decide) rfl
      refine W.iret (v := nI (n3 - nc)) hx hb hr (fun t ht hW => ⟨⟨nI (n3 - nc), (n3, f3, fd), rfl, ?_, by rw [ht]; exact hP, hD⟩, hS.F ht⟩) hS.2.2 dX5_read_183
      try dsimp only
      have hR : (rdF la (w * h) sz0 f f0 n 0 (if sz0 = (-1) ∨ ln = lane then nI 0 else nI 3) nc fc) = (none, fd, n3, f3) := (by rw [hrd]; first | (rw [show n - i = 0 by omega, rdF]) | (rw [show n - i = (n - (i + 1)) + 1 by omega, rdF, if_neg b76])); rw [hR]; exact ⟨rfl, rfl, rfl, rfl⟩
    · skip
      refine lv_iload hx hb dX5_read_74 (lv_at hl 7 rfl) ?_
      refine lv_if_ne (tgt := 164) hx hb dX5_read_76 rfl (fun b76 => ?_) (fun b76 => ?_)
      · skip
        refine lv_aload_n hx hb dX5_read_164 rfl (lv_at hl 0 rfl) ?_
        refine lv_iload hx hb dX5_read_165 (lv_at hl 7 rfl) ?_
        refine va_put (D := G.1) (ci := 5) (v := .int fd) (ty := .int) (C := RX5) (T := TX5) (N := 10) hx hb hts hin5 tyX5 tyX5_ok nmX5 hown hK.1 hP hD hS 7 rfl rfl 7 (by decide) (hts (.fieldLink RX5 237 "BackLenses" "readFault" "I") (List.mem_of_getElem? (i := 4) rfl)) (fun _ h9 => h9) rfl (by decide +kernel) rfl rfl (Nat.le_of_ble_eq_true rfl) dX5_read_167 (fun H locs hP hD hS => ?_)
        replace hP : xP G [oC kb 0 [.int (nI w), .int (nI h), .int (nI la), .ref ka, .ref kc, .ref kl, .ref kn], oC kc 2 [.ref kcn, .int (nI 10), .int (nI n3)], iA G kcn (3 * 10) f3, oC ks 3 [.ref ksc, .int ln, .int sz0], iA G ksc 40 f, sA G ksh 4 gs, oC kv 4 [.ref km, .ref kg, .int (nI vw), .int (nI vh), .int (nI 1)], oC kx 5 [.ref kb, .ref kim, .ref kit, .ref kv, .ref kre, .int tf, .ref ksh, .int fd, .ref kwa, .ref kta]] H := hP
        replace hD : va_D (va_A (w_X5_read G kx kim kit kre ksh kwa kta tf rf kb ka kc kcn kl kn w h la nc fc kv km kg vw vh sl gs ks ksc ln sz0 f) ss.heap.size) [oC kb 0 [.int (nI w), .int (nI h), .int (nI la), .ref ka, .ref kc, .ref kl, .ref kn], oC kc 2 [.ref kcn, .int (nI 10), .int (nI n3)], iA G kcn (3 * 10) f3, oC ks 3 [.ref ksc, .int ln, .int sz0], iA G ksc 40 f, sA G ksh 4 gs, oC kv 4 [.ref km, .ref kg, .int (nI vw), .int (nI vh), .int (nI 1)], oC kx 5 [.ref kb, .ref kim, .ref kit, .ref kv, .ref kre, .int tf, .ref ksh, .int fd, .ref kwa, .ref kta]] := hD
        refine lv_aload_n hx hb dX5_read_170 rfl (lv_at hl 0 rfl) ?_
        refine va_get (D := G.1) (ci := 5) (v := .ref kb) (C := RX5) (T := TX5) (N := 10) hx hb hts hin5 hown hK.1 hP 7 rfl rfl 0 (by decide) (hts (.fieldLink RX5 10 "BackLenses" "book" "LBackLenses$Book;") (List.mem_of_getElem? (i := 2) rfl)) (fun _ h9 => h9) rfl dX5_read_171 ?_
        refine va_getN (D := G.1) (ci := 0) (v := .ref kc) (C := RX0) (T := TX0) (N := 7) hx hb hts hin0 hown hK.1 hP 0 rfl rfl 4 (by decide) (va_Nw.use rfl (hK.2 (Cond.fieldLinkNest "BackLenses" (93 : Nat) "BackLenses$Book" "changes" "LBackLenses$Rows;" "BackLenses") (List.mem_of_getElem? (i := 18) rfl))) (fun _ h9 => h9) rfl dX5_read_174 ?_
        refine va_getN (D := G.1) (ci := 2) (v := .int (nI n3)) (C := RX2) (T := TX2) (N := 3) hx hb hts hin2 hown hK.1 hP 1 rfl rfl 2 (by decide) (va_Nw.use rfl (hK.2 (Cond.fieldLinkNest "BackLenses" (97 : Nat) "BackLenses$Rows" "size" "I" "BackLenses") (List.mem_of_getElem? (i := 3) rfl))) (fun _ h9 => h9) rfl dX5_read_177 ?_
        refine lv_iload hx hb dX5_read_180 (lv_at hl 6 rfl) ?_
        refine xn_isub hx hb (by omega) dX5_read_182 ?_
        have hP := hP.sub (ws' := [oC kx 5 [.ref kb, .ref kim, .ref kit, .ref kv, .ref kre, .int tf, .ref ksh, .int fd, .ref kwa, .ref kta], oC kb 0 [.int (nI w), .int (nI h), .int (nI la), .ref ka, .ref kc, .ref kl, .ref kn], oC kc 2 [.ref kcn, .int (nI 10), .int (nI n3)], iA G kcn (3 * 10) f3, oC kv 4 [.ref km, .ref kg, .int (nI vw), .int (nI vh), .int (nI 1)], sA G ksh 4 gs, oC ks 3 [.ref ksc, .int ln, .int sz0], iA G ksc 40 f]) [7, 0, 1, 2, 6, 5, 3, 4] rfl
        have hD := hD.sub (ws' := [oC kx 5 [.ref kb, .ref kim, .ref kit, .ref kv, .ref kre, .int tf, .ref ksh, .int fd, .ref kwa, .ref kta], oC kb 0 [.int (nI w), .int (nI h), .int (nI la), .ref ka, .ref kc, .ref kl, .ref kn], oC kc 2 [.ref kcn, .int (nI 10), .int (nI n3)], iA G kcn (3 * 10) f3, oC kv 4 [.ref km, .ref kg, .int (nI vw), .int (nI vh), .int (nI 1)], sA G ksh 4 gs, oC ks 3 [.ref ksc, .int ln, .int sz0], iA G ksc 40 f]) [7, 0, 1, 2, 6, 5, 3, 4] (by decide) rfl
        refine W.iret (v := nI (n3 - nc)) hx hb hr (fun t ht hW => ⟨⟨nI (n3 - nc), (n3, f3, fd), rfl, ?_, by rw [ht]; exact hP, hD⟩, hS.F ht⟩) hS.2.2 dX5_read_183
        try dsimp only
        have hR : (rdF la (w * h) sz0 f f0 n 0 (if sz0 = (-1) ∨ ln = lane then nI 0 else nI 3) nc fc) = (none, fd, n3, f3) := (by rw [hrd]; first | (rw [show n - i = 0 by omega, rdF]) | (rw [show n - i = (n - (i + 1)) + 1 by omega, rdF, if_neg b76])); rw [hR]; exact ⟨rfl, rfl, rfl, rfl⟩
      · skip
        refine lv_iload_n hx hb dX5_read_79 rfl (lv_at hl 3 rfl) ?_
        refine lv_iconst (v := nI 3) hx hb dX5_read_80 (by decide) ?_
        refine lv_iload hx hb dX5_read_81 (lv_at hl 8 rfl) ?_
        refine xn_imul hx hb dX5_read_83 ?_
        refine lv_iadd hx hb dX5_read_84 ?_
        refine lv_istore (lv' := [(9, .int (f0 + (nI (3 * i)))), (0, .ref kx), (1, .int (nI j)), (2, .int lane), (3, .int f0), (4, .int (nI n)), (5, .ref ks), (6, .int (nI nc)), (7, .int fd), (8, .int (nI i))]) hx hb dX5_read_85 hl (by decide) rfl (fun ls hl => ?_)
        refine lv_aload hx hb dX5_read_87 (lv_at hl 6 rfl) ?_
        refine lv_iload hx hb dX5_read_89 (lv_at hl 0 rfl) ?_
        refine xr_i (As := [.int (f0 + (nI (3 * i)))]) (rest := []) ⟨hx, hb, hml, hown, hts⟩ (c_X3_faultAtThree l G ks ksc ln sz0 (f0 + (nI (3 * i))) ) (cwV 1 hts gX5_read_X3_faultAtThree rfl rfl rfl (by decide +kernel) ⟨Nat.le_of_ble_eq_true rfl, Nat.le_of_ble_eq_true rfl⟩) hK hP hS [3] rfl rfl rfl rfl hl.1 rfl (Nat.le_of_ble_eq_true rfl) dX5_read_91 ⟨Nat.zero_le _, Nat.zero_le _⟩ (fun r91 H locs hp91 hP hS => ?_)
        rw [show r91 = _ from hp91]
        refine xn_top (y := faT sz0 (f0 + nI (3 * i))) rfl ?_
        refine lv_istore (lv' := [(7, .int (faT sz0 (f0 + nI (3 * i)))), (9, .int (f0 + (nI (3 * i)))), (0, .ref kx), (1, .int (nI j)), (2, .int lane), (3, .int f0), (4, .int (nI n)), (5, .ref ks), (6, .int (nI nc)), (8, .int (nI i))]) hx hb dX5_read_94 hl (by decide) rfl (fun ls hl => ?_)
        refine lv_iload hx hb dX5_read_96 (lv_at hl 0 rfl) ?_
        refine lv_if_ne (tgt := 158) hx hb dX5_read_98 rfl (fun b98 => ?_) (fun b98 => ?_)
        · skip
          refine lv_iinc (k := 9) (v := nI (i + 1)) (lv' := [(8, .int (nI (i + 1))), (7, .int (faT sz0 (f0 + nI (3 * i)))), (9, .int (f0 + (nI (3 * i)))), (0, .ref kx), (1, .int (nI j)), (2, .int lane), (3, .int f0), (4, .int (nI n)), (5, .ref ks), (6, .int (nI nc))]) hx hb dX5_read_158 hl rfl (xn_inc i 1) (by decide) rfl (fun ls hl => ?_)
          refine lv_goto (tgt := 67) hx hb dX5_read_161 rfl ?_
          have hl := lv_sub hl (l' := [(0, .ref kx), (1, .int (nI j)), (2, .int lane), (3, .int f0), (4, .int (nI n)), (5, .ref ks), (6, .int (nI nc)), (7, .int (faT sz0 (f0 + nI (3 * i)))), (8, .int (nI (i + 1)))]) [3, 4, 5, 6, 7, 8, 9, 1, 0] rfl
          exact ih67 (n - (i + 1)) (by omega) (i + 1) (faT sz0 (f0 + nI (3 * i))) n3 f3 ls H locs rfl (by omega) (by omega) (by omega) (by rw [hrd, show n - i = (n - (i + 1)) + 1 by omega, rdF, if_pos b76]; first | (rw [if_neg b98]) | (rw [if_pos b98, ea, tn_nI (by omega), if_pos hok])) hl hP hD hS
        · skip
          obtain ⟨a0, ha0, ea⟩ := faT_ok hsz b98
          have b98b := b98.trans nI_0.symm
          rw [b98b, ea] at hl
          refine lv_aload_n hx hb dX5_read_101 rfl (lv_at hl 2 rfl) ?_
          refine va_get (D := G.1) (ci := 5) (v := .ref kb) (C := RX5) (T := TX5) (N := 10) hx hb hts hin5 hown hK.1 hP 7 rfl rfl 0 (by decide) (hts (.fieldLink RX5 10 "BackLenses" "book" "LBackLenses$Book;") (List.mem_of_getElem? (i := 2) rfl)) (fun _ h9 => h9) rfl dX5_read_102 ?_
          refine lv_aload hx hb dX5_read_105 (lv_at hl 7 rfl) ?_
          refine va_getN (D := G.1) (ci := 3) (v := .ref ksc) (C := RX3) (T := TX3) (N := 3) hx hb hts hin3 hown hK.1 hP 3 rfl rfl 0 (by decide) (va_Nw.use rfl (hK.2 (Cond.fieldLinkNest "BackLenses" (235 : Nat) "BackLenses$Sheet" "cells" "[I" "BackLenses") (List.mem_of_getElem? (i := 27) rfl))) (fun _ h9 => h9) rfl dX5_read_107 ?_
          refine lv_iload hx hb dX5_read_110 (lv_at hl 1 rfl) ?_
          refine xn_iald hx hb hK hP 4 rfl (by omega) (by omega) dX5_read_112 ?_
          refine lv_aload hx hb dX5_read_113 (lv_at hl 7 rfl) ?_
          refine va_getN (D := G.1) (ci := 3) (v := .ref ksc) (C := RX3) (T := TX3) (N := 3) hx hb hts hin3 hown hK.1 hP 3 rfl rfl 0 (by decide) (va_Nw.use rfl (hK.2 (Cond.fieldLinkNest "BackLenses" (235 : Nat) "BackLenses$Sheet" "cells" "[I" "BackLenses") (List.mem_of_getElem? (i := 27) rfl))) (fun _ h9 => h9) rfl dX5_read_115 ?_
          refine lv_iload hx hb dX5_read_118 (lv_at hl 1 rfl) ?_
          refine lv_iconst (v := nI 1) hx hb dX5_read_120 (by decide) ?_
          refine xn_iadd hx hb dX5_read_121 ?_
          refine xn_iald hx hb hK hP 4 rfl (by omega) (by omega) dX5_read_122 ?_
          refine lv_aload hx hb dX5_read_123 (lv_at hl 7 rfl) ?_
          refine va_getN (D := G.1) (ci := 3) (v := .ref ksc) (C := RX3) (T := TX3) (N := 3) hx hb hts hin3 hown hK.1 hP 3 rfl rfl 0 (by decide) (va_Nw.use rfl (hK.2 (Cond.fieldLinkNest "BackLenses" (235 : Nat) "BackLenses$Sheet" "cells" "[I" "BackLenses") (List.mem_of_getElem? (i := 27) rfl))) (fun _ h9 => h9) rfl dX5_read_125 ?_
          refine lv_iload hx hb dX5_read_128 (lv_at hl 1 rfl) ?_
          refine lv_iconst (v := nI 2) hx hb dX5_read_130 (by decide) ?_
          refine xn_iadd hx hb dX5_read_131 ?_
          refine xn_iald hx hb hK hP 4 rfl (by omega) (by omega) dX5_read_132 ?_
          refine xw_i (As := [.int (f a0), .int (f (a0 + 1)), .int (f (a0 + 2))]) (rest := []) (wr := [oC ks 3 [.ref ksc, .int ln, .int sz0], iA G ksc 40 f, sA G ksh 4 gs, oC kv 4 [.ref km, .ref kg, .int (nI vw), .int (nI vh), .int (nI 1)], oC kx 5 [.ref kb, .ref kim, .ref kit, .ref kv, .ref kre, .int tf, .ref ksh, .int rf, .ref kwa, .ref kta]]) ⟨hx, hb, hml, hown, hts⟩ (c_X0_takeChange l G H.size kb ka kc kcn kl kn w h la n3 f3 (f a0) (f (a0 + 1)) (f (a0 + 2)) (by first | assumption | omega) (by first | assumption | omega) (by first | assumption | omega)) (cwV 3 hts gX5_read_X0_takeChange rfl rfl rfl (by decide +kernel) ⟨Nat.le_of_ble_eq_true rfl, Nat.le_of_ble_eq_true rfl⟩) hK hP hD hS hA [0, 1, 2] [3, 4, 5, 6, 7] rfl rfl (by decide) (by decide) (by decide) rfl rfl rfl hl.1 rfl (Nat.le_of_ble_eq_true rfl) dX5_read_133 ⟨Nat.le_of_ble_eq_true rfl, Nat.le_of_ble_eq_true rfl⟩ (fun r133 u H locs hp133 hP hD hS => ?_)
          obtain ⟨u0_133, u1_133⟩ := u
          try dsimp only at hp133 hP hD
          obtain ⟨rfl, rfl, rfl⟩ := hp133
          replace hP : xP G [oC ks 3 [.ref ksc, .int ln, .int sz0], iA G ksc 40 f, sA G ksh 4 gs, oC kv 4 [.ref km, .ref kg, .int (nI vw), .int (nI vh), .int (nI 1)], oC kx 5 [.ref kb, .ref kim, .ref kit, .ref kv, .ref kre, .int tf, .ref ksh, .int rf, .ref kwa, .ref kta], oC kb 0 [.int (nI w), .int (nI h), .int (nI la), .ref ka, .ref kc, .ref kl, .ref kn], oC kc 2 [.ref kcn, .int (nI 10), .int (nI (if (inR (f a0) (la + 1) ∧ inR (f (a0 + 1)) (w * h) ∧ inR (f (a0 + 2)) 6 ∧ n3 < 10) then n3 + 1 else n3))], iA G kcn (3 * 10) (if (inR (f a0) (la + 1) ∧ inR (f (a0 + 1)) (w * h) ∧ inR (f (a0 + 2)) 6 ∧ n3 < 10) then upd (upd (upd f3 (3 * n3) (f a0)) (3 * n3 + 1) (f (a0 + 1))) (3 * n3 + 2) (f (a0 + 2)) else f3)] H := hP
          replace hD : va_D (va_A (w_X5_read G kx kim kit kre ksh kwa kta tf rf kb ka kc kcn kl kn w h la nc fc kv km kg vw vh sl gs ks ksc ln sz0 f) ss.heap.size) [oC ks 3 [.ref ksc, .int ln, .int sz0], iA G ksc 40 f, sA G ksh 4 gs, oC kv 4 [.ref km, .ref kg, .int (nI vw), .int (nI vh), .int (nI 1)], oC kx 5 [.ref kb, .ref kim, .ref kit, .ref kv, .ref kre, .int tf, .ref ksh, .int rf, .ref kwa, .ref kta], oC kb 0 [.int (nI w), .int (nI h), .int (nI la), .ref ka, .ref kc, .ref kl, .ref kn], oC kc 2 [.ref kcn, .int (nI 10), .int (nI (if (inR (f a0) (la + 1) ∧ inR (f (a0 + 1)) (w * h) ∧ inR (f (a0 + 2)) 6 ∧ n3 < 10) then n3 + 1 else n3))], iA G kcn (3 * 10) (if (inR (f a0) (la + 1) ∧ inR (f (a0 + 1)) (w * h) ∧ inR (f (a0 + 2)) 6 ∧ n3 < 10) then upd (upd (upd f3 (3 * n3) (f a0)) (3 * n3 + 1) (f (a0 + 1))) (3 * n3 + 2) (f (a0 + 2)) else f3)] := hD
          refine xi_if_ge (tgt := 158) hx hb dX5_read_136 rfl (fun b136 => ?_) (fun b136 => ?_)
          · skip
            have hok : (inR (f a0) (la + 1) ∧ inR (f (a0 + 1)) (w * h) ∧ inR (f (a0 + 2)) 6 ∧ n3 < 10) := (by obtain ⟨q, q4⟩ := tk_ok b136; exact ⟨q.1, q.2.1, q.2.2, q4⟩)
            rw [if_pos hok, if_pos hok] at hP hD
            refine lv_iinc (k := 9) (v := nI (i + 1)) (lv' := [(8, .int (nI (i + 1))), (7, .int (nI 0)), (9, .int (nI a0)), (0, .ref kx), (1, .int (nI j)), (2, .int lane), (3, .int f0), (4, .int (nI n)), (5, .ref ks), (6, .int (nI nc))]) hx hb dX5_read_158 hl rfl (xn_inc i 1) (by decide) rfl (fun ls hl => ?_)
            refine lv_goto (tgt := 67) hx hb dX5_read_161 rfl ?_
            have hl := lv_sub hl (l' := [(0, .ref kx), (1, .int (nI j)), (2, .int lane), (3, .int f0), (4, .int (nI n)), (5, .ref ks), (6, .int (nI nc)), (7, .int (nI 0)), (8, .int (nI (i + 1)))]) [3, 4, 5, 6, 7, 8, 9, 1, 0] rfl
            have hP := hP.sub (ws' := [oC kb 0 [.int (nI w), .int (nI h), .int (nI la), .ref ka, .ref kc, .ref kl, .ref kn], oC kc 2 [.ref kcn, .int (nI 10), .int (nI (n3 + 1))], iA G kcn (3 * 10) (upd (upd (upd f3 (3 * n3) (f a0)) (3 * n3 + 1) (f (a0 + 1))) (3 * n3 + 2) (f (a0 + 2))), oC ks 3 [.ref ksc, .int ln, .int sz0], iA G ksc 40 f, sA G ksh 4 gs, oC kv 4 [.ref km, .ref kg, .int (nI vw), .int (nI vh), .int (nI 1)], oC kx 5 [.ref kb, .ref kim, .ref kit, .ref kv, .ref kre, .int tf, .ref ksh, .int rf, .ref kwa, .ref kta]]) [5, 6, 7, 0, 1, 2, 3, 4] rfl
            have hD := hD.sub (ws' := [oC kb 0 [.int (nI w), .int (nI h), .int (nI la), .ref ka, .ref kc, .ref kl, .ref kn], oC kc 2 [.ref kcn, .int (nI 10), .int (nI (n3 + 1))], iA G kcn (3 * 10) (upd (upd (upd f3 (3 * n3) (f a0)) (3 * n3 + 1) (f (a0 + 1))) (3 * n3 + 2) (f (a0 + 2))), oC ks 3 [.ref ksc, .int ln, .int sz0], iA G ksc 40 f, sA G ksh 4 gs, oC kv 4 [.ref km, .ref kg, .int (nI vw), .int (nI vh), .int (nI 1)], oC kx 5 [.ref kb, .ref kim, .ref kit, .ref kv, .ref kre, .int tf, .ref ksh, .int rf, .ref kwa, .ref kta]]) [5, 6, 7, 0, 1, 2, 3, 4] (by decide) rfl
            exact ih67 (n - (i + 1)) (by omega) (i + 1) (nI 0) (n3 + 1) (upd (upd (upd f3 (3 * n3) (f a0)) (3 * n3 + 1) (f (a0 + 1))) (3 * n3 + 2) (f (a0 + 2))) ls H locs rfl (by omega) (by omega) (by omega) (by rw [hrd, show n - i = (n - (i + 1)) + 1 by omega, rdF, if_pos b76]; first | (rw [if_neg b98]) | (rw [if_pos b98, ea, tn_nI (by omega), if_pos hok])) hl hP hD hS
          · skip
            have hnk : ¬ (inR (f a0) (la + 1) ∧ inR (f (a0 + 1)) (w * h) ∧ inR (f (a0 + 2)) 6 ∧ n3 < 10) := (fun q => tk_no b136 ⟨⟨q.1, q.2.1, q.2.2.1⟩, q.2.2.2⟩)
            rw [if_neg hnk, if_neg hnk] at hP hD
            refine lv_aload_n hx hb dX5_read_139 rfl (lv_at hl 2 rfl) ?_
            refine va_get (D := G.1) (ci := 5) (v := .ref kb) (C := RX5) (T := TX5) (N := 10) hx hb hts hin5 hown hK.1 hP 4 rfl rfl 0 (by decide) (hts (.fieldLink RX5 10 "BackLenses" "book" "LBackLenses$Book;") (List.mem_of_getElem? (i := 2) rfl)) (fun _ h9 => h9) rfl dX5_read_140 ?_
            refine va_getN (D := G.1) (ci := 0) (v := .ref kc) (C := RX0) (T := TX0) (N := 7) hx hb hts hin0 hown hK.1 hP 5 rfl rfl 4 (by decide) (va_Nw.use rfl (hK.2 (Cond.fieldLinkNest "BackLenses" (93 : Nat) "BackLenses$Book" "changes" "LBackLenses$Rows;" "BackLenses") (List.mem_of_getElem? (i := 18) rfl))) (fun _ h9 => h9) rfl dX5_read_143 ?_
            refine lv_iload hx hb dX5_read_146 (lv_at hl 8 rfl) ?_
            refine xw_i (As := [.int (nI nc)]) (rest := []) (wr := [oC ks 3 [.ref ksc, .int ln, .int sz0], iA G ksc 40 f, sA G ksh 4 gs, oC kv 4 [.ref km, .ref kg, .int (nI vw), .int (nI vh), .int (nI 1)], oC kx 5 [.ref kb, .ref kim, .ref kit, .ref kv, .ref kre, .int tf, .ref ksh, .int rf, .ref kwa, .ref kta], oC kb 0 [.int (nI w), .int (nI h), .int (nI la), .ref ka, .ref kc, .ref kl, .ref kn], iA G kcn (3 * 10) f3]) ⟨hx, hb, hml, hown, hts⟩ (c_X2_shorten l G H.size kc kcn 10 n3 (nI nc) (by omega)) (cwV 1 hts gX5_read_X2_shorten rfl rfl rfl (by decide +kernel) ⟨Nat.le_of_ble_eq_true rfl, Nat.le_of_ble_eq_true rfl⟩) hK hP hD hS hA [6] [0, 1, 2, 3, 4, 5, 7] rfl rfl (by decide) (by decide) (by decide) rfl rfl rfl hl.1 rfl (Nat.le_of_ble_eq_true rfl) dX5_read_148 ⟨Nat.le_of_ble_eq_true rfl, Nat.le_of_ble_eq_true rfl⟩ (fun r148 u H locs hp148 hP hD hS => ?_)
            obtain ⟨u0_148, rfl⟩ : ∃ z, z = u := ⟨_, rfl⟩
            try dsimp only at hp148 hP hD
            obtain ⟨rfl, rfl⟩ := hp148
            replace hP : xP G [oC ks 3 [.ref ksc, .int ln, .int sz0], iA G ksc 40 f, sA G ksh 4 gs, oC kv 4 [.ref km, .ref kg, .int (nI vw), .int (nI vh), .int (nI 1)], oC kx 5 [.ref kb, .ref kim, .ref kit, .ref kv, .ref kre, .int tf, .ref ksh, .int rf, .ref kwa, .ref kta], oC kb 0 [.int (nI w), .int (nI h), .int (nI la), .ref ka, .ref kc, .ref kl, .ref kn], iA G kcn (3 * 10) f3, oC kc 2 [.ref kcn, .int (nI 10), .int (nI (if inR (nI nc) (n3 + 1) then (nI nc).toInt.toNat else n3))]] H := hP
            replace hD : va_D (va_A (w_X5_read G kx kim kit kre ksh kwa kta tf rf kb ka kc kcn kl kn w h la nc fc kv km kg vw vh sl gs ks ksc ln sz0 f) ss.heap.size) [oC ks 3 [.ref ksc, .int ln, .int sz0], iA G ksc 40 f, sA G ksh 4 gs, oC kv 4 [.ref km, .ref kg, .int (nI vw), .int (nI vh), .int (nI 1)], oC kx 5 [.ref kb, .ref kim, .ref kit, .ref kv, .ref kre, .int tf, .ref ksh, .int rf, .ref kwa, .ref kta], oC kb 0 [.int (nI w), .int (nI h), .int (nI la), .ref ka, .ref kc, .ref kl, .ref kn], iA G kcn (3 * 10) f3, oC kc 2 [.ref kcn, .int (nI 10), .int (nI (if inR (nI nc) (n3 + 1) then (nI nc).toInt.toNat else n3))]] := hD
            refine lv_pop hx hb dX5_read_151 rfl ?_
            refine lv_bipush (v := (-20)) hx hb dX5_read_152 (by decide) ?_
            refine lv_iload hx hb dX5_read_154 (lv_at hl 9 rfl) ?_
            refine lv_isub hx hb dX5_read_156 ?_
            have hP := hP.sub (ws' := [oC kx 5 [.ref kb, .ref kim, .ref kit, .ref kv, .ref kre, .int tf, .ref ksh, .int rf, .ref kwa, .ref kta], oC kb 0 [.int (nI w), .int (nI h), .int (nI la), .ref ka, .ref kc, .ref kl, .ref kn], oC kc 2 [.ref kcn, .int (nI 10), .int (nI (if inR (nI nc) (n3 + 1) then (nI nc).toInt.toNat else n3))], iA G kcn (3 * 10) f3, oC kv 4 [.ref km, .ref kg, .int (nI vw), .int (nI vh), .int (nI 1)], sA G ksh 4 gs, oC ks 3 [.ref ksc, .int ln, .int sz0], iA G ksc 40 f]) [4, 5, 7, 6, 3, 2, 0, 1] rfl
            have hD := hD.sub (ws' := [oC kx 5 [.ref kb, .ref kim, .ref kit, .ref kv, .ref kre, .int tf, .ref ksh, .int rf, .ref kwa, .ref kta], oC kb 0 [.int (nI w), .int (nI h), .int (nI la), .ref ka, .ref kc, .ref kl, .ref kn], oC kc 2 [.ref kcn, .int (nI 10), .int (nI (if inR (nI nc) (n3 + 1) then (nI nc).toInt.toNat else n3))], iA G kcn (3 * 10) f3, oC kv 4 [.ref km, .ref kg, .int (nI vw), .int (nI vh), .int (nI 1)], sA G ksh 4 gs, oC ks 3 [.ref ksc, .int ln, .int sz0], iA G ksc 40 f]) [4, 5, 7, 6, 3, 2, 0, 1] (by decide) rfl
            refine W.iret (v := (-20) - (nI i)) hx hb hr (fun t ht hW => ⟨⟨(-20) - (nI i), ((if inR (nI nc) (n3 + 1) then (nI nc).toInt.toNat else n3), f3, rf), rfl, ?_, by rw [ht]; exact hP, hD⟩, hS.F ht⟩) hS.2.2 dX5_read_157
            try dsimp only
            have hR : (rdF la (w * h) sz0 f f0 n 0 (if sz0 = (-1) ∨ ln = lane then nI 0 else nI 3) nc fc) = (some i, nI 0, n3, f3) := (by rw [hrd, show n - i = (n - (i + 1)) + 1 by omega, rdF, if_pos b76, if_pos b98, ea, tn_nI (by omega), if_neg hnk]); rw [hR]; exact ⟨rfl, (by rw [if_pos (inR_nI (by omega) (by omega)), nI_toInt (by omega)]; rfl), rfl, rfl⟩
  have hl := lv_sub hl (l' := [(0, .ref kx), (1, .int (nI j)), (2, .int lane), (3, .int f0), (4, .int (nI n)), (5, .ref ks), (6, .int (nI nc)), (7, .int (if sz0 = (-1) ∨ ln = lane then nI 0 else nI 3)), (8, .int (nI 0))]) [4, 5, 6, 7, 8, 3, 2, 1, 0] rfl
  have hP := hP.sub (ws' := [oC kb 0 [.int (nI w), .int (nI h), .int (nI la), .ref ka, .ref kc, .ref kl, .ref kn], oC kc 2 [.ref kcn, .int (nI 10), .int (nI nc)], iA G kcn (3 * 10) fc, oC ks 3 [.ref ksc, .int ln, .int sz0], iA G ksc 40 f, sA G ksh 4 gs, oC kv 4 [.ref km, .ref kg, .int (nI vw), .int (nI vh), .int (nI 1)], oC kx 5 [.ref kb, .ref kim, .ref kit, .ref kv, .ref kre, .int tf, .ref ksh, .int rf, .ref kwa, .ref kta]]) [1, 2, 3, 6, 7, 5, 4, 0] rfl
  have hD := hD.sub (ws' := [oC kb 0 [.int (nI w), .int (nI h), .int (nI la), .ref ka, .ref kc, .ref kl, .ref kn], oC kc 2 [.ref kcn, .int (nI 10), .int (nI nc)], iA G kcn (3 * 10) fc, oC ks 3 [.ref ksc, .int ln, .int sz0], iA G ksc 40 f, sA G ksh 4 gs, oC kv 4 [.ref km, .ref kg, .int (nI vw), .int (nI vh), .int (nI 1)], oC kx 5 [.ref kb, .ref kim, .ref kit, .ref kv, .ref kre, .int tf, .ref ksh, .int rf, .ref kwa, .ref kta]]) [1, 2, 3, 6, 7, 5, 4, 0] (by decide) rfl
  exact hL67 (n - 0) 0 (if sz0 = (-1) ∨ ln = lane then nI 0 else nI 3) nc fc ls H locs rfl (by omega) (by omega) (by omega) (by rfl) hl hP hD hS
end
section
abbrev w_X5_read_b (G : XG) (kx kim kit kv kre ksh kwa kta : Nat) (tf rf : Int32) (kb : Nat) : va_W := [oC kx 5 [.ref kb, .ref kim, .ref kit, .ref kv, .ref kre, .int tf, .ref ksh, .int rf, .ref kwa, .ref kta]]
abbrev Q_X5_read_b (G : XG) (kx kim kit kv kre ksh kwa kta : Nat) (tf rf : Int32) (kb : Nat) (k lane f0 n : Int32) : Array Value → State → Outcome → State → Prop := (xRi (fun r => r = (-1)))
set_option maxHeartbeats 4000000 in
set_option maxRecDepth 100000 in
theorem c_X5_read_b (l : Launch) (G : XG) (kx kim kit kv kre ksh kwa kta : Nat) (tf rf : Int32) (kb : Nat) (k lane f0 n : Int32) (hbad : ¬ (inR k 4 ∧ inR lane 3 ∧ inR n 14)) : Met l yX5_read wsX5_read ({ frames := 1, cells := 0, slots := 0, locals := 20 } : Room) (va_Pc [.ref kx, .int k, .int lane, .int f0, .int n] (xRp G (w_X5_read_b G kx kim kit kv kre ksh kwa kta tf rf kb))) (Q_X5_read_b G kx kim kit kv kre ksh kwa kta tf rf kb k lane f0 n) 0 0 (fun _ => False) := by
  refine Met.ofW (cc := cX5_read) (maxL := 10) (ret := (some .int)) (by decide) rfl ?_
  intro pp ee ss mm aa below mt cd s₁ BB hml hv
  obtain ⟨rfl, hP, hK⟩ := hv
  have hx := BB.exec
  have hb := BB.bytes
  have hr := BB.returns
  have hts := atoms_spec (ws := wsX5_read) BB.pre
  have hown : ss.vm.findClass RX5 = some mm.cls := findClass_of_methodNamed BB.named
  have hlocks := BB.notSynchronized
  have hS : va_S (fun _ => False) ss.heap ss.heap [] := va_S.rf
  replace hP : xP G [oC kx 5 [.ref kb, .ref kim, .ref kit, .ref kv, .ref kre, .int tf, .ref ksh, .int rf, .ref kwa, .ref kta]] ss.heap := hP
  have hin0 : ∀ w ∈ u_ws RX0 TX0 7, w ∈ wsX5_read := fun w h => List.mem_cons_of_mem _ (List.mem_append_left _ (List.mem_append_left _ (List.mem_append_left _ (List.mem_append_right _ h))))
  have hin2 : ∀ w ∈ u_ws RX2 TX2 3, w ∈ wsX5_read := fun w h => List.mem_cons_of_mem _ (List.mem_append_left _ (List.mem_append_left _ (List.mem_append_right _ h)))
  have hin3 : ∀ w ∈ u_ws RX3 TX3 3, w ∈ wsX5_read := fun w h => List.mem_cons_of_mem _ (List.mem_append_right _ h)
  have hin4 : ∀ w ∈ u_ws RX4 TX4 5, w ∈ wsX5_read := fun w h => List.mem_cons_of_mem _ (List.mem_append_left _ (List.mem_append_right _ h))
  have hin5 : ∀ w ∈ u_ws RX5 TX5 10, w ∈ wsX5_read := fun w h => List.mem_cons_of_mem _ (List.mem_append_left _ (List.mem_append_left _ (List.mem_append_left _ (List.mem_append_left _ (List.mem_append_right _ h)))))
  have hl := lv_entry ([.ref kx, .int k, .int lane, .int f0, .int n]) (n := 10) (Nat.le_of_ble_eq_true rfl)
  rw [lg_entry_eq]
  generalize (lg_sl ([.ref kx, .int k, .int lane, .int f0, .int n]) ++ List.replicate (10 - (lg_sl ([.ref kx, .int k, .int lane, .int f0, .int n])).length) Slot.unset).toArray = ls at hl ⊢
  replace hl : lv_has ls 10 [(0, .ref kx), (1, .int k), (2, .int lane), (3, .int f0), (4, .int n)] := hl
  refine lv_iload_n hx hb dX5_read_0 rfl (lv_at hl 1 rfl) ?_
  refine xs_i (As := [.int k]) (rest := []) ⟨hx, hb, hml, hown, hts⟩ (c_X5_isSheet l G k ) (va_cwS 1 hts gX5_read_X5_isSheet rfl rfl rfl (by decide +kernel) ⟨Nat.le_of_ble_eq_true rfl, Nat.le_of_ble_eq_true rfl⟩) hP hS rfl hl.1 rfl (Nat.le_of_ble_eq_true rfl) dX5_read_1 ⟨Nat.zero_le _, Nat.zero_le _⟩ (fun r1 H locs hp1 hP hS => ?_)
  rw [show r1 = _ from hp1]
  refine xb_if_eq (tgt := 26) hx hb dX5_read_4 rfl (fun b4 => ?_) (fun b4 => ?_)
  · skip
    refine lv_iconst (v := (-1)) hx hb dX5_read_26 (by decide) ?_
    refine W.iret (v := (-1)) hx hb hr (fun t ht hW => ⟨⟨(-1), (), rfl, ?_, trivial⟩, hS.F ht⟩) hS.2.2 dX5_read_27
    rfl
  · skip
    refine lv_iload_n hx hb dX5_read_7 rfl (lv_at hl 2 rfl) ?_
    refine xs_i (As := [.int lane]) (rest := []) ⟨hx, hb, hml, hown, hts⟩ (c_X5_isLane l G lane ) (va_cwS 1 hts gX5_read_X5_isLane rfl rfl rfl (by decide +kernel) ⟨Nat.le_of_ble_eq_true rfl, Nat.le_of_ble_eq_true rfl⟩) hP hS rfl hl.1 rfl (Nat.le_of_ble_eq_true rfl) dX5_read_8 ⟨Nat.zero_le _, Nat.zero_le _⟩ (fun r8 H locs hp8 hP hS => ?_)
    rw [show r8 = _ from hp8]
    refine xb_if_eq (tgt := 26) hx hb dX5_read_11 rfl (fun b11 => ?_) (fun b11 => ?_)
    · skip
      refine lv_iconst (v := (-1)) hx hb dX5_read_26 (by decide) ?_
      refine W.iret (v := (-1)) hx hb hr (fun t ht hW => ⟨⟨(-1), (), rfl, ?_, trivial⟩, hS.F ht⟩) hS.2.2 dX5_read_27
      rfl
    · skip
      refine lv_iload hx hb dX5_read_14 (lv_at hl 4 rfl) ?_
      refine xi_if_lt (tgt := 26) hx hb dX5_read_16 rfl (fun b16 => ?_) (fun b16 => ?_)
      · skip
        refine lv_iconst (v := (-1)) hx hb dX5_read_26 (by decide) ?_
        refine W.iret (v := (-1)) hx hb hr (fun t ht hW => ⟨⟨(-1), (), rfl, ?_, trivial⟩, hS.F ht⟩) hS.2.2 dX5_read_27
        rfl
      · skip
        refine lv_iload hx hb dX5_read_19 (lv_at hl 4 rfl) ?_
        refine lv_bipush (v := nI 13) hx hb dX5_read_21 (by decide) ?_
        refine xm_icmp_le (tgt := 28) hx hb (by omega) dX5_read_23 rfl (fun b23 => ?_) (fun b23 => ?_)
        · skip
          exact absurd ⟨b4, b11, (show inR n 14 by unfold inR; omega)⟩ hbad
        · skip
          refine lv_iconst (v := (-1)) hx hb dX5_read_26 (by decide) ?_
          refine W.iret (v := (-1)) hx hb hr (fun t ht hW => ⟨⟨(-1), (), rfl, ?_, trivial⟩, hS.F ht⟩) hS.2.2 dX5_read_27
          rfl

abbrev w_X5_count_0 (G : XG) (kx kim kit kv kre ksh kwa kta : Nat) (tf rf : Int32) (kb ka kc kl kn knn : Nat) (w h la ns : Nat) : va_W := [oC kx 5 [.ref kb, .ref kim, .ref kit, .ref kv, .ref kre, .int tf, .ref ksh, .int rf, .ref kwa, .ref kta], oC kb 0 [.int (nI w), .int (nI h), .int (nI la), .ref ka, .ref kc, .ref kl, .ref kn], oC kn 2 [.ref knn, .int (nI 8), .int (nI ns)]]
abbrev Q_X5_count_0 (G : XG) (kx kim kit kv kre ksh kwa kta : Nat) (tf rf : Int32) (kb ka kc kl kn knn : Nat) (w h la ns : Nat) : Array Value → State → Outcome → State → Prop := (xRi (fun r => r = nI ns))
set_option maxHeartbeats 4000000 in
set_option maxRecDepth 100000 in
theorem c_X5_count_0 (l : Launch) (G : XG) (kx kim kit kv kre ksh kwa kta : Nat) (tf rf : Int32) (kb ka kc kl kn knn : Nat) (w h la ns : Nat)  : Met l yX5_count wsX5_count ({ frames := 0, cells := 0, slots := 0, locals := 0 } : Room) (va_Pc [.ref kx, .int (nI 0)] (xRp G (w_X5_count_0 G kx kim kit kv kre ksh kwa kta tf rf kb ka kc kl kn knn w h la ns))) (Q_X5_count_0 G kx kim kit kv kre ksh kwa kta tf rf kb ka kc kl kn knn w h la ns) 0 0 (fun _ => False) := by
  refine Met.ofW (cc := cX5_count) (maxL := 2) (ret := (some .int)) (by decide) rfl ?_
  intro pp ee ss mm aa below mt cd s₁ BB hml hv
  obtain ⟨rfl, hP, hK⟩ := hv
  have hx := BB.exec
  have hb := BB.bytes
  have hr := BB.returns
  have hts := atoms_spec (ws := wsX5_count) BB.pre
  have hown : ss.vm.findClass RX5 = some mm.cls := findClass_of_methodNamed BB.named
  have hlocks := BB.notSynchronized
  have hS : va_S (fun _ => False) ss.heap ss.heap [] := va_S.rf
  replace hP : xP G [oC kx 5 [.ref kb, .ref kim, .ref kit, .ref kv, .ref kre, .int tf, .ref ksh, .int rf, .ref kwa, .ref kta], oC kb 0 [.int (nI w), .int (nI h), .int (nI la), .ref ka, .ref kc, .ref kl, .ref kn], oC kn 2 [.ref knn, .int (nI 8), .int (nI ns)]] ss.heap := hP
  have hin0 : ∀ w ∈ u_ws RX0 TX0 7, w ∈ wsX5_count := fun w h => List.mem_cons_of_mem _ (List.mem_append_left _ (List.mem_append_left _ (List.mem_append_left _ (List.mem_append_left _ (List.mem_append_right _ h)))))
  have hin1 : ∀ w ∈ u_ws RX1 TX1 13, w ∈ wsX5_count := fun w h => List.mem_cons_of_mem _ (List.mem_append_left _ (List.mem_append_left _ (List.mem_append_right _ h)))
  have hin2 : ∀ w ∈ u_ws RX2 TX2 3, w ∈ wsX5_count := fun w h => List.mem_cons_of_mem _ (List.mem_append_left _ (List.mem_append_left _ (List.mem_append_left _ (List.mem_append_right _ h))))
  have hin3 : ∀ w ∈ u_ws RX3 TX3 3, w ∈ wsX5_count := fun w h => List.mem_cons_of_mem _ (List.mem_append_left _ (List.mem_append_right _ h))
  have hin4 : ∀ w ∈ u_ws RX4 TX4 5, w ∈ wsX5_count := fun w h => List.mem_cons_of_mem _ (List.mem_append_right _ h)
  have hin5 : ∀ w ∈ u_ws RX5 TX5 10, w ∈ wsX5_count := fun w h => List.mem_cons_of_mem _ (List.mem_append_left _ (List.mem_append_left _ (List.mem_append_left _ (List.mem_append_left _ (List.mem_append_left _ (List.mem_append_right _ h))))))
  have hl := lv_entry ([.ref kx, .int (nI 0)]) (n := 2) (Nat.le_of_ble_eq_true rfl)
  rw [lg_entry_eq]
  generalize (lg_sl ([.ref kx, .int (nI 0)]) ++ List.replicate (2 - (lg_sl ([.ref kx, .int (nI 0)])).length) Slot.unset).toArray = ls at hl ⊢
  replace hl : lv_has ls 2 [(0, .ref kx), (1, .int (nI 0))] := hl
  refine lv_iload_n hx hb dX5_count_0 rfl (lv_at hl 1 rfl) ?_
  refine lv_tableIn (off := 39) (tgt := 40) hx hb dX5_count_1 (by decide) (by decide) rfl rfl ?_
  refine lv_aload_n hx hb dX5_count_40 rfl (lv_at hl 0 rfl) ?_
  refine va_get (D := G.1) (ci := 5) (v := .ref kb) (C := RX5) (T := TX5) (N := 10) hx hb hts hin5 hown hK.1 hP 0 rfl rfl 0 (by decide) (hts (.fieldLink RX5 10 "BackLenses" "book" "LBackLenses$Book;") (List.mem_of_getElem? (i := 1) rfl)) (fun _ h9 => h9) rfl dX5_count_41 ?_
  refine va_getN (D := G.1) (ci := 0) (v := .ref kn) (C := RX0) (T := TX0) (N := 7) hx hb hts hin0 hown hK.1 hP 1 rfl rfl 6 (by decide) (va_Nw.use rfl (hK.2 (Cond.fieldLinkNest "BackLenses" (161 : Nat) "BackLenses$Book" "shown" "LBackLenses$Rows;" "BackLenses") (List.mem_of_getElem? (i := 21) rfl))) (fun _ h9 => h9) rfl dX5_count_44 ?_
  refine va_getN (D := G.1) (ci := 2) (v := .int (nI ns)) (C := RX2) (T := TX2) (N := 3) hx hb hts hin2 hown hK.1 hP 2 rfl rfl 2 (by decide) (va_Nw.use rfl (hK.2 (Cond.fieldLinkNest "BackLenses" (97 : Nat) "BackLenses$Rows" "size" "I" "BackLenses") (List.mem_of_getElem? (i := 3) rfl))) (fun _ h9 => h9) rfl dX5_count_47 ?_
  refine W.iret (v := nI ns) hx hb hr (fun t ht hW => ⟨⟨nI ns, (), rfl, ?_, trivial⟩, hS.F ht⟩) hS.2.2 dX5_count_50
  rfl

abbrev w_X5_count_1 (G : XG) (kx kim kit kv kre ksh kwa kta : Nat) (tf rf : Int32) (kb : Nat) (it : Nat → Int32) : va_W := [oC kx 5 [.ref kb, .ref kim, .ref kit, .ref kv, .ref kre, .int tf, .ref ksh, .int rf, .ref kwa, .ref kta], zA G kit 2 it]
abbrev Q_X5_count_1 (G : XG) (kx kim kit kv kre ksh kwa kta : Nat) (tf rf : Int32) (kb : Nat) (it : Nat → Int32) : Array Value → State → Outcome → State → Prop := (xRi (fun r => r = (if it 0 = 0 then nI 0 else nI 1) + (if it 1 = 0 then nI 0 else nI 1)))
set_option maxHeartbeats 4000000 in
set_option maxRecDepth 100000 in
theorem c_X5_count_1 (l : Launch) (G : XG) (kx kim kit kv kre ksh kwa kta : Nat) (tf rf : Int32) (kb : Nat) (it : Nat → Int32)  : Met l yX5_count wsX5_count ({ frames := 0, cells := 0, slots := 0, locals := 0 } : Room) (va_Pc [.ref kx, .int (nI 1)] (xRp G (w_X5_count_1 G kx kim kit kv kre ksh kwa kta tf rf kb it))) (Q_X5_count_1 G kx kim kit kv kre ksh kwa kta tf rf kb it) 0 0 (fun _ => False) := by
  refine Met.ofW (cc := cX5_count) (maxL := 2) (ret := (some .int)) (by decide) rfl ?_
  intro pp ee ss mm aa below mt cd s₁ BB hml hv
  obtain ⟨rfl, hP, hK⟩ := hv
  have hx := BB.exec
  have hb := BB.bytes
  have hr := BB.returns
  have hts := atoms_spec (ws := wsX5_count) BB.pre
  have hown : ss.vm.findClass RX5 = some mm.cls := findClass_of_methodNamed BB.named
  have hlocks := BB.notSynchronized
  have hS : va_S (fun _ => False) ss.heap ss.heap [] := va_S.rf
  replace hP : xP G [oC kx 5 [.ref kb, .ref kim, .ref kit, .ref kv, .ref kre, .int tf, .ref ksh, .int rf, .ref kwa, .ref kta], zA G kit 2 it] ss.heap := hP
  have hin0 : ∀ w ∈ u_ws RX0 TX0 7, w ∈ wsX5_count := fun w h => List.mem_cons_of_mem _ (List.mem_append_left _ (List.mem_append_left _ (List.mem_append_left _ (List.mem_append_left _ (List.mem_append_right _ h)))))
  have hin1 : ∀ w ∈ u_ws RX1 TX1 13, w ∈ wsX5_count := fun w h => List.mem_cons_of_mem _ (List.mem_append_left _ (List.mem_append_left _ (List.mem_append_right _ h)))
  have hin2 : ∀ w ∈ u_ws RX2 TX2 3, w ∈ wsX5_count := fun w h => List.mem_cons_of_mem _ (List.mem_append_left _ (List.mem_append_left _ (List.mem_append_left _ (List.mem_append_right _ h))))
  have hin3 : ∀ w ∈ u_ws RX3 TX3 3, w ∈ wsX5_count := fun w h => List.mem_cons_of_mem _ (List.mem_append_left _ (List.mem_append_right _ h))
  have hin4 : ∀ w ∈ u_ws RX4 TX4 5, w ∈ wsX5_count := fun w h => List.mem_cons_of_mem _ (List.mem_append_right _ h)
  have hin5 : ∀ w ∈ u_ws RX5 TX5 10, w ∈ wsX5_count := fun w h => List.mem_cons_of_mem _ (List.mem_append_left _ (List.mem_append_left _ (List.mem_append_left _ (List.mem_append_left _ (List.mem_append_left _ (List.mem_append_right _ h))))))
  have hl := lv_entry ([.ref kx, .int (nI 1)]) (n := 2) (Nat.le_of_ble_eq_true rfl)
  rw [lg_entry_eq]
  generalize (lg_sl ([.ref kx, .int (nI 1)]) ++ List.replicate (2 - (lg_sl ([.ref kx, .int (nI 1)])).length) Slot.unset).toArray = ls at hl ⊢
  replace hl : lv_has ls 2 [(0, .ref kx), (1, .int (nI 1))] := hl
  refine lv_iload_n hx hb dX5_count_0 rfl (lv_at hl 1 rfl) ?_
  refine lv_tableIn (off := 50) (tgt := 51) hx hb dX5_count_1 (by decide) (by decide) rfl rfl ?_
  refine lv_aload_n hx hb dX5_count_51 rfl (lv_at hl 0 rfl) ?_
  refine va_get (D := G.1) (ci := 5) (v := .ref kit) (C := RX5) (T := TX5) (N := 10) hx hb hts hin5 hown hK.1 hP 0 rfl rfl 2 (by decide) (hts (.fieldLink RX5 20 "BackLenses" "imageThere" "[Z") (List.mem_of_getElem? (i := 2) rfl)) (fun _ h9 => h9) rfl dX5_count_52 ?_
  refine lv_iconst (v := nI 0) hx hb dX5_count_55 (by decide) ?_
  refine xn_zald hx hb hK hP 1 rfl (by omega) (by omega) dX5_count_56 ?_
  refine lv_if_eq (tgt := 64) hx hb dX5_count_57 rfl (fun b57 => ?_) (fun b57 => ?_)
  · skip
    refine lv_iconst (v := nI 0) hx hb dX5_count_64 (by decide) ?_
    refine lv_aload_n hx hb dX5_count_65 rfl (lv_at hl 0 rfl) ?_
    refine va_get (D := G.1) (ci := 5) (v := .ref kit) (C := RX5) (T := TX5) (N := 10) hx hb hts hin5 hown hK.1 hP 0 rfl rfl 2 (by decide) (hts (.fieldLink RX5 20 "BackLenses" "imageThere" "[Z") (List.mem_of_getElem? (i := 2) rfl)) (fun _ h9 => h9) rfl dX5_count_66 ?_
    refine lv_iconst (v := nI 1) hx hb dX5_count_69 (by decide) ?_
    refine xn_zald hx hb hK hP 1 rfl (by omega) (by omega) dX5_count_70 ?_
    refine lv_if_eq (tgt := 78) hx hb dX5_count_71 rfl (fun b71 => ?_) (fun b71 => ?_)
    · skip
      refine lv_iconst (v := nI 0) hx hb dX5_count_78 (by decide) ?_
      refine xn_iadd hx hb dX5_count_79 ?_
      refine W.iret (v := nI (0 + 0)) hx hb hr (fun t ht hW => ⟨⟨nI (0 + 0), (), rfl, ?_, trivial⟩, hS.F ht⟩) hS.2.2 dX5_count_80
      (first | rw [if_pos b57] | rw [if_neg b57]); (first | rw [if_pos b71] | rw [if_neg b71]); rfl
    · skip
      refine lv_iconst (v := nI 1) hx hb dX5_count_74 (by decide) ?_
      refine lv_goto (tgt := 79) hx hb dX5_count_75 rfl ?_
      refine xn_iadd hx hb dX5_count_79 ?_
      refine W.iret (v := nI (0 + 1)) hx hb hr (fun t ht hW => ⟨⟨nI (0 + 1), (), rfl, ?_, trivial⟩, hS.F ht⟩) hS.2.2 dX5_count_80
      (first | rw [if_pos b57] | rw [if_neg b57]); (first | rw [if_pos b71] | rw [if_neg b71]); rfl
  · skip
    refine lv_iconst (v := nI 1) hx hb dX5_count_60 (by decide) ?_
    refine lv_goto (tgt := 65) hx hb dX5_count_61 rfl ?_
    refine lv_aload_n hx hb dX5_count_65 rfl (lv_at hl 0 rfl) ?_
    refine va_get (D := G.1) (ci := 5) (v := .ref kit) (C := RX5) (T := TX5) (N := 10) hx hb hts hin5 hown hK.1 hP 0 rfl rfl 2 (by decide) (hts (.fieldLink RX5 20 "BackLenses" "imageThere" "[Z") (List.mem_of_getElem? (i := 2) rfl)) (fun _ h9 => h9) rfl dX5_count_66 ?_
    refine lv_iconst (v := nI 1) hx hb dX5_count_69 (by decide) ?_
    refine xn_zald hx hb hK hP 1 rfl (by omega) (by omega) dX5_count_70 ?_
    refine lv_if_eq (tgt := 78) hx hb dX5_count_71 rfl (fun b71 => ?_) (fun b71 => ?_)
    · skip
      refine lv_iconst (v := nI 0) hx hb dX5_count_78 (by decide) ?_
      refine xn_iadd hx hb dX5_count_79 ?_
      refine W.iret (v := nI (1 + 0)) hx hb hr (fun t ht hW => ⟨⟨nI (1 + 0), (), rfl, ?_, trivial⟩, hS.F ht⟩) hS.2.2 dX5_count_80
      (first | rw [if_pos b57] | rw [if_neg b57]); (first | rw [if_pos b71] | rw [if_neg b71]); rfl
    · skip
      refine lv_iconst (v := nI 1) hx hb dX5_count_74 (by decide) ?_
      refine lv_goto (tgt := 79) hx hb dX5_count_75 rfl ?_
      refine xn_iadd hx hb dX5_count_79 ?_
      refine W.iret (v := nI (1 + 1)) hx hb hr (fun t ht hW => ⟨⟨nI (1 + 1), (), rfl, ?_, trivial⟩, hS.F ht⟩) hS.2.2 dX5_count_80
      (first | rw [if_pos b57] | rw [if_neg b57]); (first | rw [if_pos b71] | rw [if_neg b71]); rfl

abbrev w_X5_count_2 (G : XG) (kx kb kim kit kv ksh kwa kta : Nat) (tf rf : Int32) (kre : Nat) (kbt kby : Nat) (rl : Nat) (rv : Nat → Int32) : va_W := [oC kx 5 [.ref kb, .ref kim, .ref kit, .ref kv, .ref kre, .int tf, .ref ksh, .int rf, .ref kwa, .ref kta], oC kre 1 [.ref kbt, .ref kby, .int (nI rl), .int (rv 0), .int (rv 1), .int (rv 2), .int (rv 3), .int (rv 4), .int (rv 5), .int (rv 6), .int (rv 7), .int (rv 8), .int (rv 9)]]
abbrev Q_X5_count_2 (G : XG) (kx kb kim kit kv ksh kwa kta : Nat) (tf rf : Int32) (kre : Nat) (kbt kby : Nat) (rl : Nat) (rv : Nat → Int32) : Array Value → State → Outcome → State → Prop := (xRi (fun r => r = nI rl))
set_option maxHeartbeats 4000000 in
set_option maxRecDepth 100000 in
theorem c_X5_count_2 (l : Launch) (G : XG) (kx kb kim kit kv ksh kwa kta : Nat) (tf rf : Int32) (kre : Nat) (kbt kby : Nat) (rl : Nat) (rv : Nat → Int32)  : Met l yX5_count wsX5_count ({ frames := 0, cells := 0, slots := 0, locals := 0 } : Room) (va_Pc [.ref kx, .int (nI 2)] (xRp G (w_X5_count_2 G kx kb kim kit kv ksh kwa kta tf rf kre kbt kby rl rv))) (Q_X5_count_2 G kx kb kim kit kv ksh kwa kta tf rf kre kbt kby rl rv) 0 0 (fun _ => False) := by
  refine Met.ofW (cc := cX5_count) (maxL := 2) (ret := (some .int)) (by decide) rfl ?_
  intro pp ee ss mm aa below mt cd s₁ BB hml hv
  obtain ⟨rfl, hP, hK⟩ := hv
  have hx := BB.exec
  have hb := BB.bytes
  have hr := BB.returns
  have hts := atoms_spec (ws := wsX5_count) BB.pre
  have hown : ss.vm.findClass RX5 = some mm.cls := findClass_of_methodNamed BB.named
  have hlocks := BB.notSynchronized
  have hS : va_S (fun _ => False) ss.heap ss.heap [] := va_S.rf
  replace hP : xP G [oC kx 5 [.ref kb, .ref kim, .ref kit, .ref kv, .ref kre, .int tf, .ref ksh, .int rf, .ref kwa, .ref kta], oC kre 1 [.ref kbt, .ref kby, .int (nI rl), .int (rv 0), .int (rv 1), .int (rv 2), .int (rv 3), .int (rv 4), .int (rv 5), .int (rv 6), .int (rv 7), .int (rv 8), .int (rv 9)]] ss.heap := hP
  have hin0 : ∀ w ∈ u_ws RX0 TX0 7, w ∈ wsX5_count := fun w h => List.mem_cons_of_mem _ (List.mem_append_left _ (List.mem_append_left _ (List.mem_append_left _ (List.mem_append_left _ (List.mem_append_right _ h)))))
  have hin1 : ∀ w ∈ u_ws RX1 TX1 13, w ∈ wsX5_count := fun w h => List.mem_cons_of_mem _ (List.mem_append_left _ (List.mem_append_left _ (List.mem_append_right _ h)))
  have hin2 : ∀ w ∈ u_ws RX2 TX2 3, w ∈ wsX5_count := fun w h => List.mem_cons_of_mem _ (List.mem_append_left _ (List.mem_append_left _ (List.mem_append_left _ (List.mem_append_right _ h))))
  have hin3 : ∀ w ∈ u_ws RX3 TX3 3, w ∈ wsX5_count := fun w h => List.mem_cons_of_mem _ (List.mem_append_left _ (List.mem_append_right _ h))
  have hin4 : ∀ w ∈ u_ws RX4 TX4 5, w ∈ wsX5_count := fun w h => List.mem_cons_of_mem _ (List.mem_append_right _ h)
  have hin5 : ∀ w ∈ u_ws RX5 TX5 10, w ∈ wsX5_count := fun w h => List.mem_cons_of_mem _ (List.mem_append_left _ (List.mem_append_left _ (List.mem_append_left _ (List.mem_append_left _ (List.mem_append_left _ (List.mem_append_right _ h))))))
  have hl := lv_entry ([.ref kx, .int (nI 2)]) (n := 2) (Nat.le_of_ble_eq_true rfl)
  rw [lg_entry_eq]
  generalize (lg_sl ([.ref kx, .int (nI 2)]) ++ List.replicate (2 - (lg_sl ([.ref kx, .int (nI 2)])).length) Slot.unset).toArray = ls at hl ⊢
  replace hl : lv_has ls 2 [(0, .ref kx), (1, .int (nI 2))] := hl
  refine lv_iload_n hx hb dX5_count_0 rfl (lv_at hl 1 rfl) ?_
  refine lv_tableIn (off := 80) (tgt := 81) hx hb dX5_count_1 (by decide) (by decide) rfl rfl ?_
  refine lv_aload_n hx hb dX5_count_81 rfl (lv_at hl 0 rfl) ?_
  refine va_get (D := G.1) (ci := 5) (v := .ref kre) (C := RX5) (T := TX5) (N := 10) hx hb hts hin5 hown hK.1 hP 0 rfl rfl 4 (by decide) (hts (.fieldLink RX5 34 "BackLenses" "reader" "LBackLenses$Reader;") (List.mem_of_getElem? (i := 3) rfl)) (fun _ h9 => h9) rfl dX5_count_82 ?_
  refine va_getN (D := G.1) (ci := 1) (v := .int (nI rl)) (C := RX1) (T := TX1) (N := 13) hx hb hts hin1 hown hK.1 hP 1 rfl rfl 2 (by decide) (va_Nw.use rfl (hK.2 (Cond.fieldLinkNest "BackLenses" (240 : Nat) "BackLenses$Reader" "length" "I" "BackLenses") (List.mem_of_getElem? (i := 24) rfl))) (fun _ h9 => h9) rfl dX5_count_85 ?_
  refine W.iret (v := nI rl) hx hb hr (fun t ht hW => ⟨⟨nI rl, (), rfl, ?_, trivial⟩, hS.F ht⟩) hS.2.2 dX5_count_88
  rfl

abbrev w_X5_count_3 (G : XG) (kx kim kit kv kre ksh kwa kta : Nat) (tf rf : Int32) (kb : Nat) (gs : Nat → Option Nat) (ks ksc : Nat) (ln sz0 : Int32) : va_W := [oC kx 5 [.ref kb, .ref kim, .ref kit, .ref kv, .ref kre, .int tf, .ref ksh, .int rf, .ref kwa, .ref kta], sA G ksh 4 gs, oC ks 3 [.ref ksc, .int ln, .int sz0]]
abbrev Q_X5_count_3 (G : XG) (kx kim kit kv kre ksh kwa kta : Nat) (tf rf : Int32) (kb : Nat) (gs : Nat → Option Nat) (ks ksc : Nat) (ln sz0 : Int32) : Array Value → State → Outcome → State → Prop := (xRi (fun r => r = (if sz0 = (-1) then (-4) else sz0)))
set_option maxHeartbeats 4000000 in
set_option maxRecDepth 100000 in
theorem c_X5_count_3 (l : Launch) (G : XG) (kx kim kit kv kre ksh kwa kta : Nat) (tf rf : Int32) (kb : Nat) (gs : Nat → Option Nat) (ks ksc : Nat) (ln sz0 : Int32) (hgj : gs 0 = some ks) : Met l yX5_count wsX5_count ({ frames := 1, cells := 0, slots := 0, locals := 20 } : Room) (va_Pc [.ref kx, .int (nI 3)] (xRp G (w_X5_count_3 G kx kim kit kv kre ksh kwa kta tf rf kb gs ks ksc ln sz0))) (Q_X5_count_3 G kx kim kit kv kre ksh kwa kta tf rf kb gs ks ksc ln sz0) 0 0 (fun _ => False) := by
  refine Met.ofW (cc := cX5_count) (maxL := 2) (ret := (some .int)) (by decide) rfl ?_
  intro pp ee ss mm aa below mt cd s₁ BB hml hv
  obtain ⟨rfl, hP, hK⟩ := hv
  have hx := BB.exec
  have hb := BB.bytes
  have hr := BB.returns
  have hts := atoms_spec (ws := wsX5_count) BB.pre
  have hown : ss.vm.findClass RX5 = some mm.cls := findClass_of_methodNamed BB.named
  have hlocks := BB.notSynchronized
  have hS : va_S (fun _ => False) ss.heap ss.heap [] := va_S.rf
  replace hP : xP G [oC kx 5 [.ref kb, .ref kim, .ref kit, .ref kv, .ref kre, .int tf, .ref ksh, .int rf, .ref kwa, .ref kta], sA G ksh 4 gs, oC ks 3 [.ref ksc, .int ln, .int sz0]] ss.heap := hP
  have hin0 : ∀ w ∈ u_ws RX0 TX0 7, w ∈ wsX5_count := fun w h => List.mem_cons_of_mem _ (List.mem_append_left _ (List.mem_append_left _ (List.mem_append_left _ (List.mem_append_left _ (List.mem_append_right _ h)))))
  have hin1 : ∀ w ∈ u_ws RX1 TX1 13, w ∈ wsX5_count := fun w h => List.mem_cons_of_mem _ (List.mem_append_left _ (List.mem_append_left _ (List.mem_append_right _ h)))
  have hin2 : ∀ w ∈ u_ws RX2 TX2 3, w ∈ wsX5_count := fun w h => List.mem_cons_of_mem _ (List.mem_append_left _ (List.mem_append_left _ (List.mem_append_left _ (List.mem_append_right _ h))))
  have hin3 : ∀ w ∈ u_ws RX3 TX3 3, w ∈ wsX5_count := fun w h => List.mem_cons_of_mem _ (List.mem_append_left _ (List.mem_append_right _ h))
  have hin4 : ∀ w ∈ u_ws RX4 TX4 5, w ∈ wsX5_count := fun w h => List.mem_cons_of_mem _ (List.mem_append_right _ h)
  have hin5 : ∀ w ∈ u_ws RX5 TX5 10, w ∈ wsX5_count := fun w h => List.mem_cons_of_mem _ (List.mem_append_left _ (List.mem_append_left _ (List.mem_append_left _ (List.mem_append_left _ (List.mem_append_left _ (List.mem_append_right _ h))))))
  have hl := lv_entry ([.ref kx, .int (nI 3)]) (n := 2) (Nat.le_of_ble_eq_true rfl)
  rw [lg_entry_eq]
  generalize (lg_sl ([.ref kx, .int (nI 3)]) ++ List.replicate (2 - (lg_sl ([.ref kx, .int (nI 3)])).length) Slot.unset).toArray = ls at hl ⊢
  replace hl : lv_has ls 2 [(0, .ref kx), (1, .int (nI 3))] := hl
  refine lv_iload_n hx hb dX5_count_0 rfl (lv_at hl 1 rfl) ?_
  refine lv_tableIn (off := 88) (tgt := 89) hx hb dX5_count_1 (by decide) (by decide) rfl rfl ?_
  refine lv_aload_n hx hb dX5_count_89 rfl (lv_at hl 0 rfl) ?_
  refine va_get (D := G.1) (ci := 5) (v := .ref ksh) (C := RX5) (T := TX5) (N := 10) hx hb hts hin5 hown hK.1 hP 0 rfl rfl 6 (by decide) (hts (.fieldLink RX5 40 "BackLenses" "sheets" "[LBackLenses$Sheet;") (List.mem_of_getElem? (i := 4) rfl)) (fun _ h9 => h9) rfl dX5_count_90 ?_
  refine lv_iconst (v := nI 0) hx hb dX5_count_93 (by decide) ?_
  refine xn_aalds hx hb hK hP 1 rfl (by omega) (by omega) (show _ = some ks by assumption) dX5_count_94 ?_
  refine xr_i (As := []) (rest := []) ⟨hx, hb, hml, hown, hts⟩ (c_X3_isNothing l G ks ksc ln sz0 ) (cwV 0 hts gX5_count_X3_isNothing rfl rfl rfl (by decide +kernel) ⟨Nat.le_of_ble_eq_true rfl, Nat.le_of_ble_eq_true rfl⟩) hK hP hS [2] rfl rfl rfl rfl hl.1 rfl (Nat.le_of_ble_eq_true rfl) dX5_count_95 ⟨Nat.zero_le _, Nat.zero_le _⟩ (fun r95 H locs hp95 hP hS => ?_)
  rw [show r95 = _ from hp95]
  refine xb_if_eq (tgt := 106) hx hb dX5_count_98 rfl (fun b98 => ?_) (fun b98 => ?_)
  · skip
    refine lv_aload_n hx hb dX5_count_106 rfl (lv_at hl 0 rfl) ?_
    refine va_get (D := G.1) (ci := 5) (v := .ref ksh) (C := RX5) (T := TX5) (N := 10) hx hb hts hin5 hown hK.1 hP 0 rfl rfl 6 (by decide) (hts (.fieldLink RX5 40 "BackLenses" "sheets" "[LBackLenses$Sheet;") (List.mem_of_getElem? (i := 4) rfl)) (fun _ h9 => h9) rfl dX5_count_107 ?_
    refine lv_iconst (v := nI 0) hx hb dX5_count_110 (by decide) ?_
    refine xn_aalds hx hb hK hP 1 rfl (by omega) (by omega) (show _ = some ks by assumption) dX5_count_111 ?_
    refine va_getN (D := G.1) (ci := 3) (v := .int sz0) (C := RX3) (T := TX3) (N := 3) hx hb hts hin3 hown hK.1 hP 2 rfl rfl 2 (by decide) (va_Nw.use rfl (hK.2 (Cond.fieldLinkNest "BackLenses" (247 : Nat) "BackLenses$Sheet" "size" "I" "BackLenses") (List.mem_of_getElem? (i := 28) rfl))) (fun _ h9 => h9) rfl dX5_count_112 ?_
    refine W.iret (v := sz0) hx hb hr (fun t ht hW => ⟨⟨sz0, (), rfl, ?_, trivial⟩, hS.F ht⟩) hS.2.2 dX5_count_115
    first | exact (if_pos b98).symm | exact (if_neg b98).symm
  · skip
    refine lv_bipush (v := (-4)) hx hb dX5_count_101 (by decide) ?_
    refine lv_goto (tgt := 115) hx hb dX5_count_103 rfl ?_
    refine W.iret (v := (-4)) hx hb hr (fun t ht hW => ⟨⟨(-4), (), rfl, ?_, trivial⟩, hS.F ht⟩) hS.2.2 dX5_count_115
    first | exact (if_pos b98).symm | exact (if_neg b98).symm

abbrev w_X5_count_4 (G : XG) (kx kim kit kre ksh kwa kta : Nat) (tf rf : Int32) (kb ka kc kcn kl kn : Nat) (w h la : Nat) (af : Nat → Int32) (nc : Nat) (fc : Nat → Int32) (kv km kg : Nat) (vw vh : Nat) (sl : Int32) (mk sg : Nat → Int32) (knn : Nat) (ns : Nat) (fs : Nat → Int32) : va_W := [oC kx 5 [.ref kb, .ref kim, .ref kit, .ref kv, .ref kre, .int tf, .ref ksh, .int rf, .ref kwa, .ref kta], oC kb 0 [.int (nI w), .int (nI h), .int (nI la), .ref ka, .ref kc, .ref kl, .ref kn], iA G ka 16 af, oC kc 2 [.ref kcn, .int (nI 10), .int (nI nc)], iA G kcn (3 * 10) fc, oC kv 4 [.ref km, .ref kg, .int (nI vw), .int (nI vh), .int sl], iA G km 176 mk, iA G kg 160 sg, oC kn 2 [.ref knn, .int (nI 8), .int (nI ns)], iA G knn (3 * 8) fs]
abbrev Q_X5_count_4 (G : XG) (sz : Nat) (kx kim kit kre ksh kwa kta : Nat) (tf rf : Int32) (kb ka kc kcn kl kn : Nat) (w h la : Nat) (af : Nat → Int32) (nc : Nat) (fc : Nat → Int32) (kv km kg : Nat) (vw vh : Nat) (sl : Int32) (mk sg : Nat → Int32) (knn : Nat) (ns : Nat) (fs : Nat → Int32) : Array Value → State → Outcome → State → Prop := (va_Qi (fun (r : Int32) (u : (Nat → Int32) × (Nat → Int32) × Nat × Nat × Int32) => r = bcI (fitS w h la af nc fc fs ns) ∧ VOK w h la af nc fc u.1 u.2.1 u.2.2.1 u.2.2.2.1 u.2.2.2.2) (xWb G sz (w_X5_count_4 G kx kim kit kre ksh kwa kta tf rf kb ka kc kcn kl kn w h la af nc fc kv km kg vw vh sl mk sg knn ns fs) (fun u : (Nat → Int32) × (Nat → Int32) × Nat × Nat × Int32 => [oC kx 5 [.ref kb, .ref kim, .ref kit, .ref kv, .ref kre, .int tf, .ref ksh, .int rf, .ref kwa, .ref kta], oC kb 0 [.int (nI w), .int (nI h), .int (nI la), .ref ka, .ref kc, .ref kl, .ref kn], iA G ka 16 af, oC kc 2 [.ref kcn, .int (nI 10), .int (nI nc)], iA G kcn (3 * 10) fc, oC kv 4 [.ref km, .ref kg, .int (nI u.2.2.1), .int (nI u.2.2.2.1), .int u.2.2.2.2], iA G km 176 u.1, iA G kg 160 u.2.1, oC kn 2 [.ref knn, .int (nI 8), .int (nI ns)], iA G knn (3 * 8) fs])) (va_A (w_X5_count_4 G kx kim kit kre ksh kwa kta tf rf kb ka kc kcn kl kn w h la af nc fc kv km kg vw vh sl mk sg knn ns fs) sz))
set_option maxHeartbeats 4000000 in
set_option maxRecDepth 100000 in
theorem c_X5_count_4 (l : Launch) (G : XG) (sz : Nat) (kx kim kit kre ksh kwa kta : Nat) (tf rf : Int32) (kb ka kc kcn kl kn : Nat) (w h la : Nat) (af : Nat → Int32) (nc : Nat) (fc : Nat → Int32) (kv km kg : Nat) (vw vh : Nat) (sl : Int32) (mk sg : Nat → Int32) (knn : Nat) (ns : Nat) (fs : Nat → Int32) (hw : 1 ≤ w) (hwb : w ≤ 16) (hhb : h ≤ 16) (hwh : w * h ≤ 16) (hla : la ≤ 9) (hnc : nc ≤ 10) (hcell : ∀ i, i < nc → inR (fc (3 * i + 1)) 16) (hvok : VOK w h la af nc fc mk sg vw vh sl) (hns : ns ≤ 8) (hshown : ∀ i, i < ns → inR (fs (3 * i)) (w * h) ∧ inR (fs (3 * i + 1)) (w * h)) : Met l yX5_count wsX5_count ({ frames := 5, cells := 0, slots := 0, locals := 123 } : Room) (va_Pc [.ref kx, .int (nI 4)] (xWp G sz (w_X5_count_4 G kx kim kit kre ksh kwa kta tf rf kb ka kc kcn kl kn w h la af nc fc kv km kg vw vh sl mk sg knn ns fs))) (Q_X5_count_4 G sz kx kim kit kre ksh kwa kta tf rf kb ka kc kcn kl kn w h la af nc fc kv km kg vw vh sl mk sg knn ns fs) 0 0 (va_A (w_X5_count_4 G kx kim kit kre ksh kwa kta tf rf kb ka kc kcn kl kn w h la af nc fc kv km kg vw vh sl mk sg knn ns fs) sz) := by
  refine Met.ofW (cc := cX5_count) (maxL := 2) (ret := (some .int)) (by decide) rfl ?_
  intro pp ee ss mm aa below mt cd s₁ BB hml hv
  obtain ⟨rfl, hsz, hP, hK, hD0⟩ := hv
  have hx := BB.exec
  have hb := BB.bytes
  have hr := BB.returns
  have hts := atoms_spec (ws := wsX5_count) BB.pre
  have hown : ss.vm.findClass RX5 = some mm.cls := findClass_of_methodNamed BB.named
  have hlocks := BB.notSynchronized
  subst hsz
  have hD := hD0.self (sz := ss.heap.size)
  have hA : ∀ q : Nat, ss.heap.size ≤ q → va_A (w_X5_count_4 G kx kim kit kre ksh kwa kta tf rf kb ka kc kcn kl kn w h la af nc fc kv km kg vw vh sl mk sg knn ns fs) ss.heap.size q := fun q h => Or.inr h
  have hS : va_S (va_A (w_X5_count_4 G kx kim kit kre ksh kwa kta tf rf kb ka kc kcn kl kn w h la af nc fc kv km kg vw vh sl mk sg knn ns fs) ss.heap.size) ss.heap ss.heap [] := va_S.rf
  replace hD : va_D (va_A (w_X5_count_4 G kx kim kit kre ksh kwa kta tf rf kb ka kc kcn kl kn w h la af nc fc kv km kg vw vh sl mk sg knn ns fs) ss.heap.size) [oC kx 5 [.ref kb, .ref kim, .ref kit, .ref kv, .ref kre, .int tf, .ref ksh, .int rf, .ref kwa, .ref kta], oC kb 0 [.int (nI w), .int (nI h), .int (nI la), .ref ka, .ref kc, .ref kl, .ref kn], iA G ka 16 af, oC kc 2 [.ref kcn, .int (nI 10), .int (nI nc)], iA G kcn (3 * 10) fc, oC kv 4 [.ref km, .ref kg, .int (nI vw), .int (nI vh), .int sl], iA G km 176 mk, iA G kg 160 sg, oC kn 2 [.ref knn, .int (nI 8), .int (nI ns)], iA G knn (3 * 8) fs] := hD
  replace hP : xP G [oC kx 5 [.ref kb, .ref kim, .ref kit, .ref kv, .ref kre, .int tf, .ref ksh, .int rf, .ref kwa, .ref kta], oC kb 0 [.int (nI w), .int (nI h), .int (nI la), .ref ka, .ref kc, .ref kl, .ref kn], iA G ka 16 af, oC kc 2 [.ref kcn, .int (nI 10), .int (nI nc)], iA G kcn (3 * 10) fc, oC kv 4 [.ref km, .ref kg, .int (nI vw), .int (nI vh), .int sl], iA G km 176 mk, iA G kg 160 sg, oC kn 2 [.ref knn, .int (nI 8), .int (nI ns)], iA G knn (3 * 8) fs] ss.heap := hP
  have hin0 : ∀ w ∈ u_ws RX0 TX0 7, w ∈ wsX5_count := fun w h => List.mem_cons_of_mem _ (List.mem_append_left _ (List.mem_append_left _ (List.mem_append_left _ (List.mem_append_left _ (List.mem_append_right _ h)))))
  have hin1 : ∀ w ∈ u_ws RX1 TX1 13, w ∈ wsX5_count := fun w h => List.mem_cons_of_mem _ (List.mem_append_left _ (List.mem_append_left _ (List.mem_append_right _ h)))
  have hin2 : ∀ w ∈ u_ws RX2 TX2 3, w ∈ wsX5_count := fun w h => List.mem_cons_of_mem _ (List.mem_append_left _ (List.mem_append_left _ (List.mem_append_left _ (List.mem_append_right _ h))))
  have hin3 : ∀ w ∈ u_ws RX3 TX3 3, w ∈ wsX5_count := fun w h => List.mem_cons_of_mem _ (List.mem_append_left _ (List.mem_append_right _ h))
  have hin4 : ∀ w ∈ u_ws RX4 TX4 5, w ∈ wsX5_count := fun w h => List.mem_cons_of_mem _ (List.mem_append_right _ h)
  have hin5 : ∀ w ∈ u_ws RX5 TX5 10, w ∈ wsX5_count := fun w h => List.mem_cons_of_mem _ (List.mem_append_left _ (List.mem_append_left _ (List.mem_append_left _ (List.mem_append_left _ (List.mem_append_left _ (List.mem_append_right _ h))))))
  have hl := lv_entry ([.ref kx, .int (nI 4)]) (n := 2) (Nat.le_of_ble_eq_true rfl)
  rw [lg_entry_eq]
  generalize (lg_sl ([.ref kx, .int (nI 4)]) ++ List.replicate (2 - (lg_sl ([.ref kx, .int (nI 4)])).length) Slot.unset).toArray = ls at hl ⊢
  replace hl : lv_has ls 2 [(0, .ref kx), (1, .int (nI 4))] := hl
  refine lv_iload_n hx hb dX5_count_0 rfl (lv_at hl 1 rfl) ?_
  refine lv_tableIn (off := 115) (tgt := 116) hx hb dX5_count_1 (by decide) (by decide) rfl rfl ?_
  refine lv_aload_n hx hb dX5_count_116 rfl (lv_at hl 0 rfl) ?_
  refine lv_aload_n hx hb dX5_count_117 rfl (lv_at hl 0 rfl) ?_
  refine va_get (D := G.1) (ci := 5) (v := .ref kb) (C := RX5) (T := TX5) (N := 10) hx hb hts hin5 hown hK.1 hP 0 rfl rfl 0 (by decide) (hts (.fieldLink RX5 10 "BackLenses" "book" "LBackLenses$Book;") (List.mem_of_getElem? (i := 1) rfl)) (fun _ h9 => h9) rfl dX5_count_118 ?_
  refine va_getN (D := G.1) (ci := 0) (v := .ref kn) (C := RX0) (T := TX0) (N := 7) hx hb hts hin0 hown hK.1 hP 1 rfl rfl 6 (by decide) (va_Nw.use rfl (hK.2 (Cond.fieldLinkNest "BackLenses" (161 : Nat) "BackLenses$Book" "shown" "LBackLenses$Rows;" "BackLenses") (List.mem_of_getElem? (i := 21) rfl))) (fun _ h9 => h9) rfl dX5_count_121 ?_
  refine va_getN (D := G.1) (ci := 2) (v := .int (nI ns)) (C := RX2) (T := TX2) (N := 3) hx hb hts hin2 hown hK.1 hP 8 rfl rfl 2 (by decide) (va_Nw.use rfl (hK.2 (Cond.fieldLinkNest "BackLenses" (97 : Nat) "BackLenses$Rows" "size" "I" "BackLenses") (List.mem_of_getElem? (i := 3) rfl))) (fun _ h9 => h9) rfl dX5_count_124 ?_
  refine xw_i (As := [.int (nI ns)]) (rest := []) (wr := []) ⟨hx, hb, hml, hown, hts⟩ (c_X5_fitting l G ss.heap.size kx kim kit kre ksh kwa kta tf rf kb ka kc kcn kl kn w h la af nc fc kv km kg vw vh sl mk sg knn ns fs ns (by first | assumption | omega) (by first | assumption | omega) (by first | assumption | omega) (by first | assumption | omega) (by first | assumption | omega) (by first | assumption | omega) (by first | assumption | omega) (by first | assumption | omega) (by first | assumption | omega) (by first | assumption | omega) (by first | assumption | omega)) (cwV 1 hts gX5_count_X5_fitting rfl rfl rfl (by decide +kernel) ⟨Nat.le_of_ble_eq_true rfl, Nat.le_of_ble_eq_true rfl⟩) hK hP hD hS hA [0, 1, 2, 3, 4, 5, 6, 7, 8, 9] [] rfl rfl (by decide) (by decide) (by decide) rfl rfl rfl hl.1 rfl (Nat.le_of_ble_eq_true rfl) dX5_count_127 ⟨Nat.le_of_ble_eq_true rfl, Nat.le_of_ble_eq_true rfl⟩ (fun r127 u H locs hp127 hP hD hS => ?_)
  obtain ⟨mk2_127, sg2_127, vw2_127, vh2_127, sl2_127⟩ := u
  try dsimp only at hp127 hP hD
  obtain ⟨rfl, he127⟩ := hp127
  replace hP : xP G [oC kx 5 [.ref kb, .ref kim, .ref kit, .ref kv, .ref kre, .int tf, .ref ksh, .int rf, .ref kwa, .ref kta], oC kb 0 [.int (nI w), .int (nI h), .int (nI la), .ref ka, .ref kc, .ref kl, .ref kn], iA G ka 16 af, oC kc 2 [.ref kcn, .int (nI 10), .int (nI nc)], iA G kcn (3 * 10) fc, oC kv 4 [.ref km, .ref kg, .int (nI vw2_127), .int (nI vh2_127), .int sl2_127], iA G km 176 mk2_127, iA G kg 160 sg2_127, oC kn 2 [.ref knn, .int (nI 8), .int (nI ns)], iA G knn (3 * 8) fs] H := hP
  replace hD : va_D (va_A (w_X5_count_4 G kx kim kit kre ksh kwa kta tf rf kb ka kc kcn kl kn w h la af nc fc kv km kg vw vh sl mk sg knn ns fs) ss.heap.size) [oC kx 5 [.ref kb, .ref kim, .ref kit, .ref kv, .ref kre, .int tf, .ref ksh, .int rf, .ref kwa, .ref kta], oC kb 0 [.int (nI w), .int (nI h), .int (nI la), .ref ka, .ref kc, .ref kl, .ref kn], iA G ka 16 af, oC kc 2 [.ref kcn, .int (nI 10), .int (nI nc)], iA G kcn (3 * 10) fc, oC kv 4 [.ref km, .ref kg, .int (nI vw2_127), .int (nI vh2_127), .int sl2_127], iA G km 176 mk2_127, iA G kg 160 sg2_127, oC kn 2 [.ref knn, .int (nI 8), .int (nI ns)], iA G knn (3 * 8) fs] := hD
  refine xs_i (As := [.int (fitS w h la af nc fc fs ns)]) (rest := []) ⟨hx, hb, hml, hown, hts⟩ (c_J6_bitCount_0f7a4 l G (fitS w h la af nc fc fs ns) ) (va_cwS 1 hts gX5_count_J6_bitCount_0f7a4 rfl rfl rfl (by decide +kernel) ⟨Nat.le_of_ble_eq_true rfl, Nat.le_of_ble_eq_true rfl⟩) hP hS rfl hl.1 rfl (Nat.le_of_ble_eq_true rfl) dX5_count_130 ⟨Nat.zero_le _, Nat.zero_le _⟩ (fun r130 H locs hp130 hP hS => ?_)
  rw [show r130 = _ from hp130]
  have hP := hP.sub (ws' := [oC kx 5 [.ref kb, .ref kim, .ref kit, .ref kv, .ref kre, .int tf, .ref ksh, .int rf, .ref kwa, .ref kta], oC kb 0 [.int (nI w), .int (nI h), .int (nI la), .ref ka, .ref kc, .ref kl, .ref kn], iA G ka 16 af, oC kc 2 [.ref kcn, .int (nI 10), .int (nI nc)], iA G kcn (3 * 10) fc, oC kv 4 [.ref km, .ref kg, .int (nI vw2_127), .int (nI vh2_127), .int sl2_127], iA G km 176 mk2_127, iA G kg 160 sg2_127, oC kn 2 [.ref knn, .int (nI 8), .int (nI ns)], iA G knn (3 * 8) fs]) [0, 1, 2, 3, 4, 5, 6, 7, 8, 9] rfl
  have hD := hD.sub (ws' := [oC kx 5 [.ref kb, .ref kim, .ref kit, .ref kv, .ref kre, .int tf, .ref ksh, .int rf, .ref kwa, .ref kta], oC kb 0 [.int (nI w), .int (nI h), .int (nI la), .ref ka, .ref kc, .ref kl, .ref kn], iA G ka 16 af, oC kc 2 [.ref kcn, .int (nI 10), .int (nI nc)], iA G kcn (3 * 10) fc, oC kv 4 [.ref km, .ref kg, .int (nI vw2_127), .int (nI vh2_127), .int sl2_127], iA G km 176 mk2_127, iA G kg 160 sg2_127, oC kn 2 [.ref knn, .int (nI 8), .int (nI ns)], iA G knn (3 * 8) fs]) [0, 1, 2, 3, 4, 5, 6, 7, 8, 9] (by decide) rfl
  refine W.iret (v := bcI (fitS w h la af nc fc fs ns)) hx hb hr (fun t ht hW => ⟨⟨bcI (fitS w h la af nc fc fs ns), (mk2_127, sg2_127, vw2_127, vh2_127, sl2_127), rfl, ?_, by rw [ht]; exact hP, hD⟩, hS.F ht⟩) hS.2.2 dX5_count_133
  try dsimp only
  exact ⟨rfl, he127⟩

abbrev w_X5_count_5 (G : XG) (kx kim kit kre ksh kwa kta : Nat) (tf rf : Int32) (kb ka kc kcn kl kn : Nat) (w h la : Nat) (af : Nat → Int32) (nc : Nat) (fc : Nat → Int32) (kv km kg : Nat) (vw vh : Nat) (sl : Int32) (mk sg : Nat → Int32) : va_W := [oC kx 5 [.ref kb, .ref kim, .ref kit, .ref kv, .ref kre, .int tf, .ref ksh, .int rf, .ref kwa, .ref kta], oC kb 0 [.int (nI w), .int (nI h), .int (nI la), .ref ka, .ref kc, .ref kl, .ref kn], iA G ka 16 af, oC kc 2 [.ref kcn, .int (nI 10), .int (nI nc)], iA G kcn (3 * 10) fc, oC kv 4 [.ref km, .ref kg, .int (nI vw), .int (nI vh), .int sl], iA G km 176 mk, iA G kg 160 sg]
abbrev Q_X5_count_5 (G : XG) (sz : Nat) (kx kim kit kre ksh kwa kta : Nat) (tf rf : Int32) (kb ka kc kcn kl kn : Nat) (w h la : Nat) (af : Nat → Int32) (nc : Nat) (fc : Nat → Int32) (kv km kg : Nat) (vw vh : Nat) (sl : Int32) (mk sg : Nat → Int32) : Array Value → State → Outcome → State → Prop := (va_Qi (fun (r : Int32) (u : (Nat → Int32) × (Nat → Int32) × Nat × Nat × Int32) => r = nI (cntF (fun d => decide (¬ unS w h af nc fc d (d + 1) = 0)) la) ∧ VOK w h la af nc fc u.1 u.2.1 u.2.2.1 u.2.2.2.1 u.2.2.2.2) (xWb G sz (w_X5_count_5 G kx kim kit kre ksh kwa kta tf rf kb ka kc kcn kl kn w h la af nc fc kv km kg vw vh sl mk sg) (fun u : (Nat → Int32) × (Nat → Int32) × Nat × Nat × Int32 => [oC kx 5 [.ref kb, .ref kim, .ref kit, .ref kv, .ref kre, .int tf, .ref ksh, .int rf, .ref kwa, .ref kta], oC kb 0 [.int (nI w), .int (nI h), .int (nI la), .ref ka, .ref kc, .ref kl, .ref kn], iA G ka 16 af, oC kc 2 [.ref kcn, .int (nI 10), .int (nI nc)], iA G kcn (3 * 10) fc, oC kv 4 [.ref km, .ref kg, .int (nI u.2.2.1), .int (nI u.2.2.2.1), .int u.2.2.2.2], iA G km 176 u.1, iA G kg 160 u.2.1])) (va_A (w_X5_count_5 G kx kim kit kre ksh kwa kta tf rf kb ka kc kcn kl kn w h la af nc fc kv km kg vw vh sl mk sg) sz))
set_option maxHeartbeats 4000000 in
set_option maxRecDepth 100000 in
theorem c_X5_count_5 (l : Launch) (G : XG) (sz : Nat) (kx kim kit kre ksh kwa kta : Nat) (tf rf : Int32) (kb ka kc kcn kl kn : Nat) (w h la : Nat) (af : Nat → Int32) (nc : Nat) (fc : Nat → Int32) (kv km kg : Nat) (vw vh : Nat) (sl : Int32) (mk sg : Nat → Int32) (hw : 1 ≤ w) (hwb : w ≤ 16) (hhb : h ≤ 16) (hwh : w * h ≤ 16) (hla : la ≤ 9) (hnc : nc ≤ 10) (hcell : ∀ i, i < nc → inR (fc (3 * i + 1)) 16) (hvok : VOK w h la af nc fc mk sg vw vh sl) : Met l yX5_count wsX5_count ({ frames := 5, cells := 0, slots := 0, locals := 119 } : Room) (va_Pc [.ref kx, .int (nI 5)] (xWp G sz (w_X5_count_5 G kx kim kit kre ksh kwa kta tf rf kb ka kc kcn kl kn w h la af nc fc kv km kg vw vh sl mk sg))) (Q_X5_count_5 G sz kx kim kit kre ksh kwa kta tf rf kb ka kc kcn kl kn w h la af nc fc kv km kg vw vh sl mk sg) 0 0 (va_A (w_X5_count_5 G kx kim kit kre ksh kwa kta tf rf kb ka kc kcn kl kn w h la af nc fc kv km kg vw vh sl mk sg) sz) := by
  refine Met.ofW (cc := cX5_count) (maxL := 2) (ret := (some .int)) (by decide) rfl ?_
  intro pp ee ss mm aa below mt cd s₁ BB hml hv
  obtain ⟨rfl, hsz, hP, hK, hD0⟩ := hv
  have hx := BB.exec
  have hb := BB.bytes
  have hr := BB.returns
  have hts := atoms_spec (ws := wsX5_count) BB.pre
  have hown : ss.vm.findClass RX5 = some mm.cls := findClass_of_methodNamed BB.named
  have hlocks := BB.notSynchronized
  subst hsz
  have hD := hD0.self (sz := ss.heap.size)
  have hA : ∀ q : Nat, ss.heap.size ≤ q → va_A (w_X5_count_5 G kx kim kit kre ksh kwa kta tf rf kb ka kc kcn kl kn w h la af nc fc kv km kg vw vh sl mk sg) ss.heap.size q := fun q h => Or.inr h
  have hS : va_S (va_A (w_X5_count_5 G kx kim kit kre ksh kwa kta tf rf kb ka kc kcn kl kn w h la af nc fc kv km kg vw vh sl mk sg) ss.heap.size) ss.heap ss.heap [] := va_S.rf
  replace hD : va_D (va_A (w_X5_count_5 G kx kim kit kre ksh kwa kta tf rf kb ka kc kcn kl kn w h la af nc fc kv km kg vw vh sl mk sg) ss.heap.size) [oC kx 5 [.ref kb, .ref kim, .ref kit, .ref kv, .ref kre, .int tf, .ref ksh, .int rf, .ref kwa, .ref kta], oC kb 0 [.int (nI w), .int (nI h), .int (nI la), .ref ka, .ref kc, .ref kl, .ref kn], iA G ka 16 af, oC kc 2 [.ref kcn, .int (nI 10), .int (nI nc)], iA G kcn (3 * 10) fc, oC kv 4 [.ref km, .ref kg, .int (nI vw), .int (nI vh), .int sl], iA G km 176 mk, iA G kg 160 sg] := hD
  replace hP : xP G [oC kx 5 [.ref kb, .ref kim, .ref kit, .ref kv, .ref kre, .int tf, .ref ksh, .int rf, .ref kwa, .ref kta], oC kb 0 [.int (nI w), .int (nI h), .int (nI la), .ref ka, .ref kc, .ref kl, .ref kn], iA G ka 16 af, oC kc 2 [.ref kcn, .int (nI 10), .int (nI nc)], iA G kcn (3 * 10) fc, oC kv 4 [.ref km, .ref kg, .int (nI vw), .int (nI vh), .int sl], iA G km 176 mk, iA G kg 160 sg] ss.heap := hP
  have hin0 : ∀ w ∈ u_ws RX0 TX0 7, w ∈ wsX5_count := fun w h => List.mem_cons_of_mem _ (List.mem_append_left _ (List.mem_append_left _ (List.mem_append_left _ (List.mem_append_left _ (List.mem_append_right _ h)))))
  have hin1 : ∀ w ∈ u_ws RX1 TX1 13, w ∈ wsX5_count := fun w h => List.mem_cons_of_mem _ (List.mem_append_left _ (List.mem_append_left _ (List.mem_append_right _ h)))
  have hin2 : ∀ w ∈ u_ws RX2 TX2 3, w ∈ wsX5_count := fun w h => List.mem_cons_of_mem _ (List.mem_append_left _ (List.mem_append_left _ (List.mem_append_left _ (List.mem_append_right _ h))))
  have hin3 : ∀ w ∈ u_ws RX3 TX3 3, w ∈ wsX5_count := fun w h => List.mem_cons_of_mem _ (List.mem_append_left _ (List.mem_append_right _ h))
  have hin4 : ∀ w ∈ u_ws RX4 TX4 5, w ∈ wsX5_count := fun w h => List.mem_cons_of_mem _ (List.mem_append_right _ h)
  have hin5 : ∀ w ∈ u_ws RX5 TX5 10, w ∈ wsX5_count := fun w h => List.mem_cons_of_mem _ (List.mem_append_left _ (List.mem_append_left _ (List.mem_append_left _ (List.mem_append_left _ (List.mem_append_left _ (List.mem_append_right _ h))))))
  have hl := lv_entry ([.ref kx, .int (nI 5)]) (n := 2) (Nat.le_of_ble_eq_true rfl)
  rw [lg_entry_eq]
  generalize (lg_sl ([.ref kx, .int (nI 5)]) ++ List.replicate (2 - (lg_sl ([.ref kx, .int (nI 5)])).length) Slot.unset).toArray = ls at hl ⊢
  replace hl : lv_has ls 2 [(0, .ref kx), (1, .int (nI 5))] := hl
  refine lv_iload_n hx hb dX5_count_0 rfl (lv_at hl 1 rfl) ?_
  refine lv_tableIn (off := 133) (tgt := 134) hx hb dX5_count_1 (by decide) (by decide) rfl rfl ?_
  refine lv_aload_n hx hb dX5_count_134 rfl (lv_at hl 0 rfl) ?_
  refine xw_i (As := []) (rest := []) (wr := []) ⟨hx, hb, hml, hown, hts⟩ (c_X5_daysOfChange l G ss.heap.size kx kim kit kre ksh kwa kta tf rf kb ka kc kcn kl kn w h la af nc fc kv km kg vw vh sl mk sg (by first | assumption | omega) (by first | assumption | omega) (by first | assumption | omega) (by first | assumption | omega) (by first | assumption | omega) (by first | assumption | omega) (by first | assumption | omega) (by first | assumption | omega)) (cwV 0 hts gX5_count_X5_daysOfChange rfl rfl rfl (by decide +kernel) ⟨Nat.le_of_ble_eq_true rfl, Nat.le_of_ble_eq_true rfl⟩) hK hP hD hS hA [0, 1, 2, 3, 4, 5, 6, 7] [] rfl rfl (by decide) (by decide) (by decide) rfl rfl rfl hl.1 rfl (Nat.le_of_ble_eq_true rfl) dX5_count_135 ⟨Nat.le_of_ble_eq_true rfl, Nat.le_of_ble_eq_true rfl⟩ (fun r135 u H locs hp135 hP hD hS => ?_)
  obtain ⟨mk2_135, sg2_135, vw2_135, vh2_135, sl2_135⟩ := u
  try dsimp only at hp135 hP hD
  obtain ⟨rfl, he135⟩ := hp135
  replace hP : xP G [oC kx 5 [.ref kb, .ref kim, .ref kit, .ref kv, .ref kre, .int tf, .ref ksh, .int rf, .ref kwa, .ref kta], oC kb 0 [.int (nI w), .int (nI h), .int (nI la), .ref ka, .ref kc, .ref kl, .ref kn], iA G ka 16 af, oC kc 2 [.ref kcn, .int (nI 10), .int (nI nc)], iA G kcn (3 * 10) fc, oC kv 4 [.ref km, .ref kg, .int (nI vw2_135), .int (nI vh2_135), .int sl2_135], iA G km 176 mk2_135, iA G kg 160 sg2_135] H := hP
  replace hD : va_D (va_A (w_X5_count_5 G kx kim kit kre ksh kwa kta tf rf kb ka kc kcn kl kn w h la af nc fc kv km kg vw vh sl mk sg) ss.heap.size) [oC kx 5 [.ref kb, .ref kim, .ref kit, .ref kv, .ref kre, .int tf, .ref ksh, .int rf, .ref kwa, .ref kta], oC kb 0 [.int (nI w), .int (nI h), .int (nI la), .ref ka, .ref kc, .ref kl, .ref kn], iA G ka 16 af, oC kc 2 [.ref kcn, .int (nI 10), .int (nI nc)], iA G kcn (3 * 10) fc, oC kv 4 [.ref km, .ref kg, .int (nI vw2_135), .int (nI vh2_135), .int sl2_135], iA G km 176 mk2_135, iA G kg 160 sg2_135] := hD
  have hP := hP.sub (ws' := [oC kx 5 [.ref kb, .ref kim, .ref kit, .ref kv, .ref kre, .int tf, .ref ksh, .int rf, .ref kwa, .ref kta], oC kb 0 [.int (nI w), .int (nI h), .int (nI la), .ref ka, .ref kc, .ref kl, .ref kn], iA G ka 16 af, oC kc 2 [.ref kcn, .int (nI 10), .int (nI nc)], iA G kcn (3 * 10) fc, oC kv 4 [.ref km, .ref kg, .int (nI vw2_135), .int (nI vh2_135), .int sl2_135], iA G km 176 mk2_135, iA G kg 160 sg2_135]) [0, 1, 2, 3, 4, 5, 6, 7] rfl
  have hD := hD.sub (ws' := [oC kx 5 [.ref kb, .ref kim, .ref kit, .ref kv, .ref kre, .int tf, .ref ksh, .int rf, .ref kwa, .ref kta], oC kb 0 [.int (nI w), .int (nI h), .int (nI la), .ref ka, .ref kc, .ref kl, .ref kn], iA G ka 16 af, oC kc 2 [.ref kcn, .int (nI 10), .int (nI nc)], iA G kcn (3 * 10) fc, oC kv 4 [.ref km, .ref kg, .int (nI vw2_135), .int (nI vh2_135), .int sl2_135], iA G km 176 mk2_135, iA G kg 160 sg2_135]) [0, 1, 2, 3, 4, 5, 6, 7] (by decide) rfl
  refine W.iret (v := nI (cntF (fun d => decide (¬ unS w h af nc fc d (d + 1) = 0)) la)) hx hb hr (fun t ht hW => ⟨⟨nI (cntF (fun d => decide (¬ unS w h af nc fc d (d + 1) = 0)) la), (mk2_135, sg2_135, vw2_135, vh2_135, sl2_135), rfl, ?_, by rw [ht]; exact hP, hD⟩, hS.F ht⟩) hS.2.2 dX5_count_138
  try dsimp only
  exact ⟨rfl, he135⟩

abbrev w_X5_count_b (G : XG) (kx kim kit kv kre ksh kwa kta : Nat) (tf rf : Int32) (kb : Nat) : va_W := [oC kx 5 [.ref kb, .ref kim, .ref kit, .ref kv, .ref kre, .int tf, .ref ksh, .int rf, .ref kwa, .ref kta]]
abbrev Q_X5_count_b (G : XG) (kx kim kit kv kre ksh kwa kta : Nat) (tf rf : Int32) (kb : Nat) (a : Int32) : Array Value → State → Outcome → State → Prop := (xRi (fun r => r = (-1)))
set_option maxHeartbeats 4000000 in
set_option maxRecDepth 100000 in
theorem c_X5_count_b (l : Launch) (G : XG) (kx kim kit kv kre ksh kwa kta : Nat) (tf rf : Int32) (kb : Nat) (a : Int32) (hbad : ¬ inR a 6) : Met l yX5_count wsX5_count ({ frames := 0, cells := 0, slots := 0, locals := 0 } : Room) (va_Pc [.ref kx, .int a] (xRp G (w_X5_count_b G kx kim kit kv kre ksh kwa kta tf rf kb))) (Q_X5_count_b G kx kim kit kv kre ksh kwa kta tf rf kb a) 0 0 (fun _ => False) := by
  refine Met.ofW (cc := cX5_count) (maxL := 2) (ret := (some .int)) (by decide) rfl ?_
  intro pp ee ss mm aa below mt cd s₁ BB hml hv
  obtain ⟨rfl, hP, hK⟩ := hv
  have hx := BB.exec
  have hb := BB.bytes
  have hr := BB.returns
  have hts := atoms_spec (ws := wsX5_count) BB.pre
  have hown : ss.vm.findClass RX5 = some mm.cls := findClass_of_methodNamed BB.named
  have hlocks := BB.notSynchronized
  have hS : va_S (fun _ => False) ss.heap ss.heap [] := va_S.rf
  replace hP : xP G [oC kx 5 [.ref kb, .ref kim, .ref kit, .ref kv, .ref kre, .int tf, .ref ksh, .int rf, .ref kwa, .ref kta]] ss.heap := hP
  have hin0 : ∀ w ∈ u_ws RX0 TX0 7, w ∈ wsX5_count := fun w h => List.mem_cons_of_mem _ (List.mem_append_left _ (List.mem_append_left _ (List.mem_append_left _ (List.mem_append_left _ (List.mem_append_right _ h)))))
  have hin1 : ∀ w ∈ u_ws RX1 TX1 13, w ∈ wsX5_count := fun w h => List.mem_cons_of_mem _ (List.mem_append_left _ (List.mem_append_left _ (List.mem_append_right _ h)))
  have hin2 : ∀ w ∈ u_ws RX2 TX2 3, w ∈ wsX5_count := fun w h => List.mem_cons_of_mem _ (List.mem_append_left _ (List.mem_append_left _ (List.mem_append_left _ (List.mem_append_right _ h))))
  have hin3 : ∀ w ∈ u_ws RX3 TX3 3, w ∈ wsX5_count := fun w h => List.mem_cons_of_mem _ (List.mem_append_left _ (List.mem_append_right _ h))
  have hin4 : ∀ w ∈ u_ws RX4 TX4 5, w ∈ wsX5_count := fun w h => List.mem_cons_of_mem _ (List.mem_append_right _ h)
  have hin5 : ∀ w ∈ u_ws RX5 TX5 10, w ∈ wsX5_count := fun w h => List.mem_cons_of_mem _ (List.mem_append_left _ (List.mem_append_left _ (List.mem_append_left _ (List.mem_append_left _ (List.mem_append_left _ (List.mem_append_right _ h))))))
  have hl := lv_entry ([.ref kx, .int a]) (n := 2) (Nat.le_of_ble_eq_true rfl)
  rw [lg_entry_eq]
  generalize (lg_sl ([.ref kx, .int a]) ++ List.replicate (2 - (lg_sl ([.ref kx, .int a])).length) Slot.unset).toArray = ls at hl ⊢
  replace hl : lv_has ls 2 [(0, .ref kx), (1, .int a)] := hl
  refine lv_iload_n hx hb dX5_count_0 rfl (lv_at hl 1 rfl) ?_
  have hsw : ¬ inR a 6 := hbad
  refine lv_tableOut (tgt := 139) hx hb dX5_count_1 (by unfold inR at hsw; omega) rfl ?_
  refine lv_iconst (v := (-1)) hx hb dX5_count_139 (by decide) ?_
  refine W.iret (v := (-1)) hx hb hr (fun t ht hW => ⟨⟨(-1), (), rfl, ?_, trivial⟩, hS.F ht⟩) hS.2.2 dX5_count_140
  rfl
end
section
/-! the reference's own way of marks, and what is said of both by a table of marks MK (cell, day) -/
def mkR (S : Nat → Int32) (c d : Nat) : Nat → Int32 × Int32
  | 0 => (S c, (-4))
  | i + 1 => if S (17 + 3 * i + 1) = nI c ∧ (S (17 + 3 * i)).toInt ≤ (d : Int) ∧ (mkR S c d i).2.toInt ≤ (S (17 + 3 * i)).toInt then (S (17 + 3 * i + 2), S (17 + 3 * i)) else mkR S c d i
abbrev mkM (S : Nat → Int32) (nc c d : Nat) : Int32 := (mkR S c d nc).1
/-- the bits of an int, counted up to the n-th -/
def bcM (x : Int32) : Nat → Int32
  | 0 => nI 0
  | k + 1 => bcM x k + ((x >>> (nI k &&& 31)) &&& nI 1)
theorem xbits_flag {p : Nat → Bool} {c : Nat} {b : Int32} {P : Prop} {iP : Decidable P} (h : p c = decide P) (hb : b = xbits p c) : b ||| (xb P <<< (nI c &&& 31)) = xbits p (c + 1) := by
  by_cases hp : P
  · rw [xb_t hp]; exact xbits_T (by rw [h]; exact decide_eq_true hp) hb
  · have h0 : nI 0 <<< (nI c &&& 31) = 0 := by
      rw [show nI 0 = (0 : Int32) from rfl]
      exact Int32.zero_shiftLeft
    rw [xb_f hp, h0, Int32.or_zero]
    exact xbits_N (by rw [h]; exact decide_eq_false hp) hb
theorem inL {v lo hi : Int64} : (lo.toInt ≤ v.toInt ∧ v.toInt ≤ hi.toInt) ↔ (lo.toInt ≤ v.toInt ∧ v.toInt ≤ hi.toInt) := Iff.rfl
theorem i64_toInt (x : Int32) : x.toInt64.toInt = x.toInt := Int32.toInt_toInt64 x
theorem lN_toInt' {n : Nat} (h : n < 2 ^ 31) : (lN n).toInt = (n : Int) := by
  rw [← nI_l h, i64_toInt, nI_toInt h]
/-! the reference goes from cell to cell; the ray by numbers is the same -/
theorem rayF_acc {row : Nat → Int32} {cf : Nat → Nat} {door : Int32} : ∀ (k i : Nat) (acc : Int32), rayF row cf door k i acc = acc ||| rayF row cf door k i (nI 0)
  | 0, _, acc => by rw [rayF, rayF]; exact Int32.or_zero.symm
  | k + 1, i, acc => by
    rw [rayF, rayF, rayF_acc k (i + 1) (acc ||| xbit (cf i)), rayF_acc k (i + 1) (nI 0 ||| xbit (cf i))]
    have h0 : ∀ z : Int32, nI 0 ||| z = z := fun z => Int32.zero_or
    rw [h0]
    split
    · rfl
    · exact Int32.or_assoc ..
theorem rayF_stop {row : Nat → Int32} {cf : Nat → Nat} {door : Int32} {st i : Nat} {acc : Int32} (hi : i ≤ st) (h : row (cf i) = nI 4 ∨ (¬ door = 0 ∧ row (cf i) = nI 5)) : rayF row cf door (st + 1 - i) i acc = acc ||| xbit (cf i) := by
  rw [show st + 1 - i = (st + 1 - (i + 1)) + 1 by omega, rayF, if_pos h]
theorem rayF_go {row : Nat → Int32} {cf : Nat → Nat} {door : Int32} {st i : Nat} {acc : Int32} (hi : i ≤ st) (h : ¬ (row (cf i) = nI 4 ∨ (¬ door = 0 ∧ row (cf i) = nI 5))) : rayF row cf door (st + 1 - i) i acc = rayF row cf door (st + 1 - (i + 1)) (i + 1) (acc ||| xbit (cf i)) := by
  rw [show st + 1 - i = (st + 1 - (i + 1)) + 1 by omega, rayF, if_neg h]
theorem rayF_end {row : Nat → Int32} {cf : Nat → Nat} {door : Int32} {st i : Nat} {acc : Int32} (hi : ¬ i ≤ st) : rayF row cf door (st + 1 - i) i acc = acc := by
  rw [show st + 1 - i = 0 by omega, rayF]
section By
variable {w h x i : Nat}
theorem by_up (hw : 0 < w) (hx : x < w * h) (hi : i ≤ x / w) : (if w ≤ x - i * w then nI (x - i * w - w) else (-4)) = (if i + 1 ≤ x / w then nI (x - (i + 1) * w) else (-4) : Int32) := by
  have h1 := xs_div hw hx
  have h2 := xs_up hw hx hi
  have h3 : (i + 1) * w = i * w + w := Nat.succ_mul i w
  by_cases hq : i + 1 ≤ x / w
  · have h4 := xs_up hw hx hq
    rw [if_pos hq, if_pos (by omega), h3, Nat.sub_sub]
  · have h4 : i = x / w := by omega
    rw [if_neg hq, if_neg (by rw [h4]; omega)]
theorem by_down (hw : 0 < w) (hx : x < w * h) (hi : i ≤ h - 1 - x / w) : (if w * h ≤ x + i * w + w then (-4) else nI (x + i * w + w)) = (if i + 1 ≤ h - 1 - x / w then nI (x + (i + 1) * w) else (-4) : Int32) := by
  have h1 := xs_div hw hx
  have h3 : (i + 1) * w = i * w + w := Nat.succ_mul i w
  by_cases hq : i + 1 ≤ h - 1 - x / w
  · have h4 := xs_down hw hx hq
    rw [if_pos hq, if_neg (by omega), h3, Nat.add_assoc]
  · have h4 : (x / w + i + 1) * w = h * w := by rw [show x / w + i + 1 = h by omega]
    have h5 : (x / w + i + 1) * w = x / w * w + i * w + w := by rw [Nat.add_mul, Nat.add_mul, Nat.one_mul]
    have h6 : h * w = w * h := Nat.mul_comm _ _
    rw [if_neg hq, if_pos (by omega)]
theorem by_mod (hw : 0 < w) (hx : x < w * h) : x % w = x - x / w * w := by
  have h1 := Nat.div_add_mod x w
  have h3 : x / w * w = w * (x / w) := Nat.mul_comm _ _
  omega
theorem by_modr (hw : 0 < w) (hx : x < w * h) (hi : i ≤ w - 1 - (x - x / w * w)) : (x + i) % w = x % w + i := by
  have h2 := by_mod hw hx
  have h1 := xs_div hw hx
  have h4 := Nat.div_add_mod x w
  have : x + i = w * (x / w) + (x % w + i) := by omega
  rw [this, Nat.mul_add_mod, Nat.mod_eq_of_lt (by omega)]
theorem by_modl (hw : 0 < w) (hx : x < w * h) (hi : i ≤ x - x / w * w) : (x - i) % w = x % w - i := by
  have h2 := by_mod hw hx
  have h1 := xs_div hw hx
  have h4 := Nat.div_add_mod x w
  have : x - i = w * (x / w) + (x % w - i) := by omega
  rw [this, Nat.mul_add_mod, Nat.mod_eq_of_lt (by omega)]
theorem by_right (hw : 0 < w) (hx : x < w * h) (hi : i ≤ w - 1 - (x - x / w * w)) : (if w ≤ (x + i) % w + 1 then (-4) else nI (x + i + 1)) = (if i + 1 ≤ w - 1 - (x - x / w * w) then nI (x + (i + 1)) else (-4) : Int32) := by
  have h2 := by_mod hw hx
  have h1 := xs_div hw hx
  rw [by_modr hw hx hi]
  by_cases hq : i + 1 ≤ w - 1 - (x - x / w * w)
  · rw [if_pos hq, if_neg (by omega), Nat.add_assoc]
  · rw [if_neg hq, if_pos (by omega)]
theorem by_left (hw : 0 < w) (hx : x < w * h) (hi : i ≤ x - x / w * w) : (if (x - i) % w = 0 then (-4) else nI (x - i - 1)) = (if i + 1 ≤ x - x / w * w then nI (x - (i + 1)) else (-4) : Int32) := by
  have h2 := by_mod hw hx
  rw [by_modl hw hx hi]
  by_cases hq : i + 1 ≤ x - x / w * w
  · rw [if_pos hq, if_neg (by omega), Nat.sub_sub]
  · rw [if_neg hq, if_pos (by omega)]
end By
theorem sg_order (a b c d e : Int32) : (((a ||| b) ||| e) ||| c) ||| d = (((a ||| b) ||| c) ||| d) ||| e := by
  rw [Int32.or_assoc (a ||| b) e c, Int32.or_comm e c, ← Int32.or_assoc, Int32.or_assoc ((a ||| b) ||| c) e d, Int32.or_comm e d, ← Int32.or_assoc]
theorem nI_n4 {k : Nat} (h : k < 1000) : ¬ nI k = (-4) := by
  intro q
  have h1 := nI_toInt (n := k) (by omega)
  rw [q] at h1
  have : (-4 : Int32).toInt = -4 := by decide
  omega
end

abbrev w_X5_lie (G : XG) (kx kim kit kre ksh kwa kta : Nat) (tf rf : Int32) (kb ka kc kcn kl kn : Nat) (w h la : Nat) (af : Nat → Int32) (nc : Nat) (fc : Nat → Int32) (kv km kg : Nat) (vw vh : Nat) (sl : Int32) (mk sg : Nat → Int32) (knn : Nat) (ns : Nat) (fs : Nat → Int32) : va_W := [oC kx 5 [.ref kb, .ref kim, .ref kit, .ref kv, .ref kre, .int tf, .ref ksh, .int rf, .ref kwa, .ref kta], oC kb 0 [.int (nI w), .int (nI h), .int (nI la), .ref ka, .ref kc, .ref kl, .ref kn], iA G ka 16 af, oC kc 2 [.ref kcn, .int (nI 10), .int (nI nc)], iA G kcn (3 * 10) fc, oC kv 4 [.ref km, .ref kg, .int (nI vw), .int (nI vh), .int sl], iA G km 176 mk, iA G kg 160 sg, oC kn 2 [.ref knn, .int (nI 8), .int (nI ns)], iA G knn (3 * 8) fs]
abbrev Q_X5_lie (G : XG) (sz : Nat) (kx kim kit kre ksh kwa kta : Nat) (tf rf : Int32) (kb ka kc kcn kl kn : Nat) (w h la : Nat) (af : Nat → Int32) (nc : Nat) (fc : Nat → Int32) (kv km kg : Nat) (vw vh : Nat) (sl : Int32) (mk sg : Nat → Int32) (knn : Nat) (ns : Nat) (fs : Nat → Int32) : Array Value → State → Outcome → State → Prop := (va_Qi (fun (r : Int32) (u : (Nat → Int32) × (Nat → Int32) × Nat × Nat × Int32) => r = firstF (fun i => decide (fitS w h la af nc fc fs (i + 1) = 0)) ns 0 ∧ VOK w h la af nc fc u.1 u.2.1 u.2.2.1 u.2.2.2.1 u.2.2.2.2) (xWb G sz (w_X5_lie G kx kim kit kre ksh kwa kta tf rf kb ka kc kcn kl kn w h la af nc fc kv km kg vw vh sl mk sg knn ns fs) (fun u : (Nat → Int32) × (Nat → Int32) × Nat × Nat × Int32 => [oC kx 5 [.ref kb, .ref kim, .ref kit, .ref kv, .ref kre, .int tf, .ref ksh, .int rf, .ref kwa, .ref kta], oC kb 0 [.int (nI w), .int (nI h), .int (nI la), .ref ka, .ref kc, .ref kl, .ref kn], iA G ka 16 af, oC kc 2 [.ref kcn, .int (nI 10), .int (nI nc)], iA G kcn (3 * 10) fc, oC kv 4 [.ref km, .ref kg, .int (nI u.2.2.1), .int (nI u.2.2.2.1), .int u.2.2.2.2], iA G km 176 u.1, iA G kg 160 u.2.1, oC kn 2 [.ref knn, .int (nI 8), .int (nI ns)], iA G knn (3 * 8) fs])) (va_A (w_X5_lie G kx kim kit kre ksh kwa kta tf rf kb ka kc kcn kl kn w h la af nc fc kv km kg vw vh sl mk sg knn ns fs) sz))
set_option maxHeartbeats 4000000 in
set_option maxRecDepth 100000 in
theorem c_X5_lie (l : Launch) (G : XG) (sz : Nat) (kx kim kit kre ksh kwa kta : Nat) (tf rf : Int32) (kb ka kc kcn kl kn : Nat) (w h la : Nat) (af : Nat → Int32) (nc : Nat) (fc : Nat → Int32) (kv km kg : Nat) (vw vh : Nat) (sl : Int32) (mk sg : Nat → Int32) (knn : Nat) (ns : Nat) (fs : Nat → Int32) (hw : 1 ≤ w) (hwb : w ≤ 16) (hhb : h ≤ 16) (hwh : w * h ≤ 16) (hla : la ≤ 9) (hnc : nc ≤ 10) (hcell : ∀ i, i < nc → inR (fc (3 * i + 1)) 16) (hvok : VOK w h la af nc fc mk sg vw vh sl) (hns : ns ≤ 8) (hshown : ∀ i, i < ns → inR (fs (3 * i)) (w * h) ∧ inR (fs (3 * i + 1)) (w * h)) : Met l yX5_lie wsX5_lie ({ frames := 5, cells := 0, slots := 0, locals := 123 } : Room) (va_Pc [.ref kx] (xWp G sz (w_X5_lie G kx kim kit kre ksh kwa kta tf rf kb ka kc kcn kl kn w h la af nc fc kv km kg vw vh sl mk sg knn ns fs))) (Q_X5_lie G sz kx kim kit kre ksh kwa kta tf rf kb ka kc kcn kl kn w h la af nc fc kv km kg vw vh sl mk sg knn ns fs) 0 0 (va_A (w_X5_lie G kx kim kit kre ksh kwa kta tf rf kb ka kc kcn kl kn w h la af nc fc kv km kg vw vh sl mk sg knn ns fs) sz) := by
  refine Met.ofW (cc := cX5_lie) (maxL := 2) (ret := (some .int)) (by decide) rfl ?_
  intro pp ee ss mm aa below mt cd s₁ BB hml hv
  obtain ⟨rfl, hsz, hP, hK, hD0⟩ := hv
  have hx := BB.exec
  have hb := BB.bytes
  have hr := BB.returns
  have hts := atoms_spec (ws := wsX5_lie) BB.pre
  have hown : ss.vm.findClass RX5 = some mm.cls := findClass_of_methodNamed BB.named
  have hlocks := BB.notSynchronized
  subst hsz
  have hD := hD0.self (sz := ss.heap.size)
  have hA : ∀ q : Nat, ss.heap.size ≤ q → va_A (w_X5_lie G kx kim kit kre ksh kwa kta tf rf kb ka kc kcn kl kn w h la af nc fc kv km kg vw vh sl mk sg knn ns fs) ss.heap.size q := fun q h => Or.inr h
  have hS : va_S (va_A (w_X5_lie G kx kim kit kre ksh kwa kta tf rf kb ka kc kcn kl kn w h la af nc fc kv km kg vw vh sl mk sg knn ns fs) ss.heap.size) ss.heap ss.heap [] := va_S.rf
  replace hD : va_D (va_A (w_X5_lie G kx kim kit kre ksh kwa kta tf rf kb ka kc kcn kl kn w h la af nc fc kv km kg vw vh sl mk sg knn ns fs) ss.heap.size) [oC kx 5 [.ref kb, .ref kim, .ref kit, .ref kv, .ref kre, .int tf, .ref ksh, .int rf, .ref kwa, .ref kta], oC kb 0 [.int (nI w), .int (nI h), .int (nI la), .ref ka, .ref kc, .ref kl, .ref kn], iA G ka 16 af, oC kc 2 [.ref kcn, .int (nI 10), .int (nI nc)], iA G kcn (3 * 10) fc, oC kv 4 [.ref km, .ref kg, .int (nI vw), .int (nI vh), .int sl], iA G km 176 mk, iA G kg 160 sg, oC kn 2 [.ref knn, .int (nI 8), .int (nI ns)], iA G knn (3 * 8) fs] := hD
  replace hP : xP G [oC kx 5 [.ref kb, .ref kim, .ref kit, .ref kv, .ref kre, .int tf, .ref ksh, .int rf, .ref kwa, .ref kta], oC kb 0 [.int (nI w), .int (nI h), .int (nI la), .ref ka, .ref kc, .ref kl, .ref kn], iA G ka 16 af, oC kc 2 [.ref kcn, .int (nI 10), .int (nI nc)], iA G kcn (3 * 10) fc, oC kv 4 [.ref km, .ref kg, .int (nI vw), .int (nI vh), .int sl], iA G km 176 mk, iA G kg 160 sg, oC kn 2 [.ref knn, .int (nI 8), .int (nI ns)], iA G knn (3 * 8) fs] ss.heap := hP
  have hin0 : ∀ w ∈ u_ws RX0 TX0 7, w ∈ wsX5_lie := fun w h => List.mem_cons_of_mem _ (List.mem_append_left _ (List.mem_append_left _ (List.mem_append_right _ h)))
  have hin2 : ∀ w ∈ u_ws RX2 TX2 3, w ∈ wsX5_lie := fun w h => List.mem_cons_of_mem _ (List.mem_append_left _ (List.mem_append_right _ h))
  have hin4 : ∀ w ∈ u_ws RX4 TX4 5, w ∈ wsX5_lie := fun w h => List.mem_cons_of_mem _ (List.mem_append_right _ h)
  have hin5 : ∀ w ∈ u_ws RX5 TX5 10, w ∈ wsX5_lie := fun w h => List.mem_cons_of_mem _ (List.mem_append_left _ (List.mem_append_left _ (List.mem_append_left _ (List.mem_append_right _ h))))
  have hl := lv_entry ([.ref kx]) (n := 2) (Nat.le_of_ble_eq_true rfl)
  rw [lg_entry_eq]
  generalize (lg_sl ([.ref kx]) ++ List.replicate (2 - (lg_sl ([.ref kx])).length) Slot.unset).toArray = ls at hl ⊢
  replace hl : lv_has ls 2 [(0, .ref kx)] := hl
  refine lv_iconst (v := nI 0) hx hb dX5_lie_0 (by decide) ?_
  refine lv_istore_n (lv' := [(1, .int (nI 0)), (0, .ref kx)]) hx hb dX5_lie_1 rfl hl (by decide) rfl (fun ls hl => ?_)
  have hL2 : ∀ k : Nat, ∀ (i : Nat) (mk3 : Nat → Int32) (sg3 : Nat → Int32) (vw3 : Nat) (vh3 : Nat) (sl3 : Int32) (ls : Array Slot) (H : Heap) (locs : List Loc), ns - i = k → (i ≤ ns) → (firstF (fun i => decide (fitS w h la af nc fc fs (i + 1) = 0)) ns 0 = firstF (fun i => decide (fitS w h la af nc fc fs (i + 1) = 0)) (ns - i) i) → (VOK w h la af nc fc mk3 sg3 vw3 vh3 sl3) → lv_has ls 2 [(0, .ref kx), (1, .int (nI i))] → xP G [iA G ka 16 af, oC kb 0 [.int (nI w), .int (nI h), .int (nI la), .ref ka, .ref kc, .ref kl, .ref kn], oC kc 2 [.ref kcn, .int (nI 10), .int (nI nc)], iA G kcn (3 * 10) fc, iA G kg 160 sg3, iA G km 176 mk3, oC kn 2 [.ref knn, .int (nI 8), .int (nI ns)], iA G knn (3 * 8) fs, oC kv 4 [.ref km, .ref kg, .int (nI vw3), .int (nI vh3), .int sl3], oC kx 5 [.ref kb, .ref kim, .ref kit, .ref kv, .ref kre, .int tf, .ref ksh, .int rf, .ref kwa, .ref kta]] H → va_D (va_A (w_X5_lie G kx kim kit kre ksh kwa kta tf rf kb ka kc kcn kl kn w h la af nc fc kv km kg vw vh sl mk sg knn ns fs) ss.heap.size) [iA G ka 16 af, oC kb 0 [.int (nI w), .int (nI h), .int (nI la), .ref ka, .ref kc, .ref kl, .ref kn], oC kc 2 [.ref kcn, .int (nI 10), .int (nI nc)], iA G kcn (3 * 10) fc, iA G kg 160 sg3, iA G km 176 mk3, oC kn 2 [.ref knn, .int (nI 8), .int (nI ns)], iA G knn (3 * 8) fs, oC kv 4 [.ref km, .ref kg, .int (nI vw3), .int (nI vh3), .int sl3], oC kx 5 [.ref kb, .ref kim, .ref kit, .ref kv, .ref kre, .int tf, .ref ksh, .int rf, .ref kwa, .ref kta]] → va_S (va_A (w_X5_lie G kx kim kit kre ksh kwa kta tf rf kb ka kc kcn kl kn w h la af nc fc kv km kg vw vh sl mk sg knn ns fs) ss.heap.size) ss.heap H locs → W pp l ee ({ frames := 5, cells := 0, slots := 0, locals := 123 } : Room) ss mm ([.ref kx] : List Value).toArray below mt cd H locs 0 0 (MQ below (Q_X5_lie G ss.heap.size kx kim kit kre ksh kwa kta tf rf kb ka kc kcn kl kn w h la af nc fc kv km kg vw vh sl mk sg knn ns fs) ([.ref kx] : List Value).toArray ss 0 0 (va_A (w_X5_lie G kx kim kit kre ksh kwa kta tf rf kb ka kc kcn kl kn w h la af nc fc kv km kg vw vh sl mk sg knn ns fs) ss.heap.size)) (F0 mm 2 ls []) := by
    intro k
    induction k using Nat.strongRecOn with
    | _ k ih2 =>
    intro i mk3 sg3 vw3 vh3 sl3 ls H locs hm2 hi hf hv3 hl hP hD hS
    refine lv_iload_n hx hb dX5_lie_2 rfl (lv_at hl 1 rfl) ?_
    refine lv_aload_n hx hb dX5_lie_3 rfl (lv_at hl 0 rfl) ?_
    refine va_get (D := G.1) (ci := 5) (v := .ref kb) (C := RX5) (T := TX5) (N := 10) hx hb hts hin5 hown hK.1 hP 9 rfl rfl 0 (by decide) (hts (.fieldLink RX5 10 "BackLenses" "book" "LBackLenses$Book;") (List.mem_of_getElem? (i := 1) rfl)) (fun _ h9 => h9) rfl dX5_lie_4 ?_
    refine va_getN (D := G.1) (ci := 0) (v := .ref kn) (C := RX0) (T := TX0) (N := 7) hx hb hts hin0 hown hK.1 hP 1 rfl rfl 6 (by decide) (va_Nw.use rfl (hK.2 (Cond.fieldLinkNest "BackLenses" (161 : Nat) "BackLenses$Book" "shown" "LBackLenses$Rows;" "BackLenses") (List.mem_of_getElem? (i := 21) rfl))) (fun _ h9 => h9) rfl dX5_lie_7 ?_
    refine va_getN (D := G.1) (ci := 2) (v := .int (nI ns)) (C := RX2) (T := TX2) (N := 3) hx hb hts hin2 hown hK.1 hP 6 rfl rfl 2 (by decide) (va_Nw.use rfl (hK.2 (Cond.fieldLinkNest "BackLenses" (97 : Nat) "BackLenses$Rows" "size" "I" "BackLenses") (List.mem_of_getElem? (i := 3) rfl))) (fun _ h9 => h9) rfl dX5_lie_10 ?_
    refine xn_icmp_ge (tgt := 34) hx hb (by omega) (by omega) dX5_lie_13 rfl (fun b13 => ?_) (fun b13 => ?_)
    · skip
      refine lv_bipush (v := (-4)) hx hb dX5_lie_34 (by decide) ?_
      have hP := hP.sub (ws' := [oC kx 5 [.ref kb, .ref kim, .ref kit, .ref kv, .ref kre, .int tf, .ref ksh, .int rf, .ref kwa, .ref kta], oC kb 0 [.int (nI w), .int (nI h), .int (nI la), .ref ka, .ref kc, .ref kl, .ref kn], iA G ka 16 af, oC kc 2 [.ref kcn, .int (nI 10), .int (nI nc)], iA G kcn (3 * 10) fc, oC kv 4 [.ref km, .ref kg, .int (nI vw3), .int (nI vh3), .int sl3], iA G km 176 mk3, iA G kg 160 sg3, oC kn 2 [.ref knn, .int (nI 8), .int (nI ns)], iA G knn (3 * 8) fs]) [9, 1, 0, 2, 3, 8, 5, 4, 6, 7] rfl
      have hD := hD.sub (ws' := [oC kx 5 [.ref kb, .ref kim, .ref kit, .ref kv, .ref kre, .int tf, .ref ksh, .int rf, .ref kwa, .ref kta], oC kb 0 [.int (nI w), .int (nI h), .int (nI la), .ref ka, .ref kc, .ref kl, .ref kn], iA G ka 16 af, oC kc 2 [.ref kcn, .int (nI 10), .int (nI nc)], iA G kcn (3 * 10) fc, oC kv 4 [.ref km, .ref kg, .int (nI vw3), .int (nI vh3), .int sl3], iA G km 176 mk3, iA G kg 160 sg3, oC kn 2 [.ref knn, .int (nI 8), .int (nI ns)], iA G knn (3 * 8) fs]) [9, 1, 0, 2, 3, 8, 5, 4, 6, 7] (by decide) rfl
      refine W.iret (v := (-4)) hx hb hr (fun t ht hW => ⟨⟨(-4), (mk3, sg3, vw3, vh3, sl3), rfl, ?_, by rw [ht]; exact hP, hD⟩, hS.F ht⟩) hS.2.2 dX5_lie_36
      try dsimp only
      first | exact ⟨(by rw [hf, show ns - i = 0 by omega, firstF]), hv3⟩ | exact ⟨(by rw [hf, show ns - i = (ns - (i + 1)) + 1 by omega, firstF, if_pos (decide_eq_true b23)]), he20⟩
    · skip
      refine lv_aload_n hx hb dX5_lie_16 rfl (lv_at hl 0 rfl) ?_
      refine lv_iload_n hx hb dX5_lie_17 rfl (lv_at hl 1 rfl) ?_
      refine lv_iconst (v := nI 1) hx hb dX5_lie_18 (by decide) ?_
      refine xn_iadd hx hb dX5_lie_19 ?_
      refine xw_i (As := [.int (nI (i + 1))]) (rest := []) (wr := []) ⟨hx, hb, hml, hown, hts⟩ (c_X5_fitting l G H.size kx kim kit kre ksh kwa kta tf rf kb ka kc kcn kl kn w h la af nc fc kv km kg vw3 vh3 sl3 mk3 sg3 knn ns fs (i + 1) (by first | assumption | omega) (by first | assumption | omega) (by first | assumption | omega) (by first | assumption | omega) (by first | assumption | omega) (by first | assumption | omega) (by first | assumption | omega) (by first | assumption | omega) (by first | assumption | omega) (by first | assumption | omega) (by first | assumption | omega)) (cwV 1 hts gX5_lie_X5_fitting rfl rfl rfl (by decide +kernel) ⟨Nat.le_of_ble_eq_true rfl, Nat.le_of_ble_eq_true rfl⟩) hK hP hD hS hA [9, 1, 0, 2, 3, 8, 5, 4, 6, 7] [] rfl rfl (by decide) (by decide) (by decide) rfl rfl rfl hl.1 rfl (Nat.le_of_ble_eq_true rfl) dX5_lie_20 ⟨Nat.le_of_ble_eq_true rfl, Nat.le_of_ble_eq_true rfl⟩ (fun r20 u H locs hp20 hP hD hS => ?_)
      obtain ⟨mk2_20, sg2_20, vw2_20, vh2_20, sl2_20⟩ := u
      try dsimp only at hp20 hP hD
      obtain ⟨rfl, he20⟩ := hp20
      replace hP : xP G [oC kx 5 [.ref kb, .ref kim, .ref kit, .ref kv, .ref kre, .int tf, .ref ksh, .int rf, .ref kwa, .ref kta], oC kb 0 [.int (nI w), .int (nI h), .int (nI la), .ref ka, .ref kc, .ref kl, .ref kn], iA G ka 16 af, oC kc 2 [.ref kcn, .int (nI 10), .int (nI nc)], iA G kcn (3 * 10) fc, oC kv 4 [.ref km, .ref kg, .int (nI vw2_20), .int (nI vh2_20), .int sl2_20], iA G km 176 mk2_20, iA G kg 160 sg2_20, oC kn 2 [.ref knn, .int (nI 8), .int (nI ns)], iA G knn (3 * 8) fs] H := hP
      replace hD : va_D (va_A (w_X5_lie G kx kim kit kre ksh kwa kta tf rf kb ka kc kcn kl kn w h la af nc fc kv km kg vw vh sl mk sg knn ns fs) ss.heap.size) [oC kx 5 [.ref kb, .ref kim, .ref kit, .ref kv, .ref kre, .int tf, .ref ksh, .int rf, .ref kwa, .ref kta], oC kb 0 [.int (nI w), .int (nI h), .int (nI la), .ref ka, .ref kc, .ref kl, .ref kn], iA G ka 16 af, oC kc 2 [.ref kcn, .int (nI 10), .int (nI nc)], iA G kcn (3 * 10) fc, oC kv 4 [.ref km, .ref kg, .int (nI vw2_20), .int (nI vh2_20), .int sl2_20], iA G km 176 mk2_20, iA G kg 160 sg2_20, oC kn 2 [.ref knn, .int (nI 8), .int (nI ns)], iA G knn (3 * 8) fs] := hD
      refine lv_if_ne (tgt := 28) hx hb dX5_lie_23 rfl (fun b23 => ?_) (fun b23 => ?_)
      · skip
        refine lv_iinc (k := 1) (v := nI (i + 1)) (lv' := [(1, .int (nI (i + 1))), (0, .ref kx)]) hx hb dX5_lie_28 hl rfl (xn_inc i 1) (by decide) rfl (fun ls hl => ?_)
        refine lv_goto (tgt := 2) hx hb dX5_lie_31 rfl ?_
        have hl := lv_sub hl (l' := [(0, .ref kx), (1, .int (nI (i + 1)))]) [1, 0] rfl
        have hP := hP.sub (ws' := [iA G ka 16 af, oC kb 0 [.int (nI w), .int (nI h), .int (nI la), .ref ka, .ref kc, .ref kl, .ref kn], oC kc 2 [.ref kcn, .int (nI 10), .int (nI nc)], iA G kcn (3 * 10) fc, iA G kg 160 sg2_20, iA G km 176 mk2_20, oC kn 2 [.ref knn, .int (nI 8), .int (nI ns)], iA G knn (3 * 8) fs, oC kv 4 [.ref km, .ref kg, .int (nI vw2_20), .int (nI vh2_20), .int sl2_20], oC kx 5 [.ref kb, .ref kim, .ref kit, .ref kv, .ref kre, .int tf, .ref ksh, .int rf, .ref kwa, .ref kta]]) [2, 1, 3, 4, 7, 6, 8, 9, 5, 0] rfl
        have hD := hD.sub (ws' := [iA G ka 16 af, oC kb 0 [.int (nI w), .int (nI h), .int (nI la), .ref ka, .ref kc, .ref kl, .ref kn], oC kc 2 [.ref kcn, .int (nI 10), .int (nI nc)], iA G kcn (3 * 10) fc, iA G kg 160 sg2_20, iA G km 176 mk2_20, oC kn 2 [.ref knn, .int (nI 8), .int (nI ns)], iA G knn (3 * 8) fs, oC kv 4 [.ref km, .ref kg, .int (nI vw2_20), .int (nI vh2_20), .int sl2_20], oC kx 5 [.ref kb, .ref kim, .ref kit, .ref kv, .ref kre, .int tf, .ref ksh, .int rf, .ref kwa, .ref kta]]) [2, 1, 3, 4, 7, 6, 8, 9, 5, 0] (by decide) rfl
        exact ih2 (ns - (i + 1)) (by omega) (i + 1) mk2_20 sg2_20 vw2_20 vh2_20 sl2_20 ls H locs rfl (by omega) (by rw [hf, show ns - i = (ns - (i + 1)) + 1 by omega, firstF, if_neg (by rw [decide_eq_false b23]; decide)]) (by assumption) hl hP hD hS
      · skip
        refine lv_iload_n hx hb dX5_lie_26 rfl (lv_at hl 1 rfl) ?_
        have hP := hP.sub (ws' := [oC kx 5 [.ref kb, .ref kim, .ref kit, .ref kv, .ref kre, .int tf, .ref ksh, .int rf, .ref kwa, .ref kta], oC kb 0 [.int (nI w), .int (nI h), .int (nI la), .ref ka, .ref kc, .ref kl, .ref kn], iA G ka 16 af, oC kc 2 [.ref kcn, .int (nI 10), .int (nI nc)], iA G kcn (3 * 10) fc, oC kv 4 [.ref km, .ref kg, .int (nI vw2_20), .int (nI vh2_20), .int sl2_20], iA G km 176 mk2_20, iA G kg 160 sg2_20, oC kn 2 [.ref knn, .int (nI 8), .int (nI ns)], iA G knn (3 * 8) fs]) [0, 1, 2, 3, 4, 5, 6, 7, 8, 9] rfl
        have hD := hD.sub (ws' := [oC kx 5 [.ref kb, .ref kim, .ref kit, .ref kv, .ref kre, .int tf, .ref ksh, .int rf, .ref kwa, .ref kta], oC kb 0 [.int (nI w), .int (nI h), .int (nI la), .ref ka, .ref kc, .ref kl, .ref kn], iA G ka 16 af, oC kc 2 [.ref kcn, .int (nI 10), .int (nI nc)], iA G kcn (3 * 10) fc, oC kv 4 [.ref km, .ref kg, .int (nI vw2_20), .int (nI vh2_20), .int sl2_20], iA G km 176 mk2_20, iA G kg 160 sg2_20, oC kn 2 [.ref knn, .int (nI 8), .int (nI ns)], iA G knn (3 * 8) fs]) [0, 1, 2, 3, 4, 5, 6, 7, 8, 9] (by decide) rfl
        refine W.iret (v := nI i) hx hb hr (fun t ht hW => ⟨⟨nI i, (mk2_20, sg2_20, vw2_20, vh2_20, sl2_20), rfl, ?_, by rw [ht]; exact hP, hD⟩, hS.F ht⟩) hS.2.2 dX5_lie_27
        try dsimp only
        first | exact ⟨(by rw [hf, show ns - i = 0 by omega, firstF]), hv3⟩ | exact ⟨(by rw [hf, show ns - i = (ns - (i + 1)) + 1 by omega, firstF, if_pos (decide_eq_true b23)]), he20⟩
  have hl := lv_sub hl (l' := [(0, .ref kx), (1, .int (nI 0))]) [1, 0] rfl
  have hP := hP.sub (ws' := [iA G ka 16 af, oC kb 0 [.int (nI w), .int (nI h), .int (nI la), .ref ka, .ref kc, .ref kl, .ref kn], oC kc 2 [.ref kcn, .int (nI 10), .int (nI nc)], iA G kcn (3 * 10) fc, iA G kg 160 sg, iA G km 176 mk, oC kn 2 [.ref knn, .int (nI 8), .int (nI ns)], iA G knn (3 * 8) fs, oC kv 4 [.ref km, .ref kg, .int (nI vw), .int (nI vh), .int sl], oC kx 5 [.ref kb, .ref kim, .ref kit, .ref kv, .ref kre, .int tf, .ref ksh, .int rf, .ref kwa, .ref kta]]) [2, 1, 3, 4, 7, 6, 8, 9, 5, 0] rfl
  have hD := hD.sub (ws' := [iA G ka 16 af, oC kb 0 [.int (nI w), .int (nI h), .int (nI la), .ref ka, .ref kc, .ref kl, .ref kn], oC kc 2 [.ref kcn, .int (nI 10), .int (nI nc)], iA G kcn (3 * 10) fc, iA G kg 160 sg, iA G km 176 mk, oC kn 2 [.ref knn, .int (nI 8), .int (nI ns)], iA G knn (3 * 8) fs, oC kv 4 [.ref km, .ref kg, .int (nI vw), .int (nI vh), .int sl], oC kx 5 [.ref kb, .ref kim, .ref kit, .ref kv, .ref kre, .int tf, .ref ksh, .int rf, .ref kwa, .ref kta]]) [2, 1, 3, 4, 7, 6, 8, 9, 5, 0] (by decide) rfl
  exact hL2 (ns - 0) 0 mk sg vw vh sl ls ss.heap [] rfl (by omega) (by rfl) (by assumption) hl hP hD hS

abbrev w_X5_could (G : XG) (kx kim kit kre ksh kwa kta : Nat) (tf rf : Int32) (kb ka kc kcn kl kn : Nat) (w h la : Nat) (af : Nat → Int32) (nc : Nat) (fc : Nat → Int32) (kv km kg : Nat) (vw vh : Nat) (sl : Int32) (mk sg : Nat → Int32) (knn : Nat) (ns : Nat) (fs : Nat → Int32) (kln : Nat) (nl : Nat) (fl : Nat → Int32) : va_W := [oC kx 5 [.ref kb, .ref kim, .ref kit, .ref kv, .ref kre, .int tf, .ref ksh, .int rf, .ref kwa, .ref kta], oC kb 0 [.int (nI w), .int (nI h), .int (nI la), .ref ka, .ref kc, .ref kl, .ref kn], iA G ka 16 af, oC kc 2 [.ref kcn, .int (nI 10), .int (nI nc)], iA G kcn (3 * 10) fc, oC kv 4 [.ref km, .ref kg, .int (nI vw), .int (nI vh), .int sl], iA G km 176 mk, iA G kg 160 sg, oC kn 2 [.ref knn, .int (nI 8), .int (nI ns)], iA G knn (3 * 8) fs, oC kl 2 [.ref kln, .int (nI 6), .int (nI nl)], iA G kln (3 * 6) fl]
abbrev Q_X5_could (G : XG) (sz : Nat) (kx kim kit kre ksh kwa kta : Nat) (tf rf : Int32) (kb ka kc kcn kl kn : Nat) (w h la : Nat) (af : Nat → Int32) (nc : Nat) (fc : Nat → Int32) (kv km kg : Nat) (vw vh : Nat) (sl : Int32) (mk sg : Nat → Int32) (knn : Nat) (ns : Nat) (fs : Nat → Int32) (kln : Nat) (nl : Nat) (fl : Nat → Int32) : Array Value → State → Outcome → State → Prop := (va_Qi (fun (r : Int32) (u : (Nat → Int32) × (Nat → Int32) × Nat × Nat × Int32) => r = xbits (fun l => !decide ((fitS w h la af nc fc fs ns >>> (fl (3 * l) &&& 31)) &&& nI 1 = 0)) nl ∧ VOK w h la af nc fc u.1 u.2.1 u.2.2.1 u.2.2.2.1 u.2.2.2.2) (xWb G sz (w_X5_could G kx kim kit kre ksh kwa kta tf rf kb ka kc kcn kl kn w h la af nc fc kv km kg vw vh sl mk sg knn ns fs kln nl fl) (fun u : (Nat → Int32) × (Nat → Int32) × Nat × Nat × Int32 => [oC kx 5 [.ref kb, .ref kim, .ref kit, .ref kv, .ref kre, .int tf, .ref ksh, .int rf, .ref kwa, .ref kta], oC kb 0 [.int (nI w), .int (nI h), .int (nI la), .ref ka, .ref kc, .ref kl, .ref kn], iA G ka 16 af, oC kc 2 [.ref kcn, .int (nI 10), .int (nI nc)], iA G kcn (3 * 10) fc, oC kv 4 [.ref km, .ref kg, .int (nI u.2.2.1), .int (nI u.2.2.2.1), .int u.2.2.2.2], iA G km 176 u.1, iA G kg 160 u.2.1, oC kn 2 [.ref knn, .int (nI 8), .int (nI ns)], iA G knn (3 * 8) fs, oC kl 2 [.ref kln, .int (nI 6), .int (nI nl)], iA G kln (3 * 6) fl])) (va_A (w_X5_could G kx kim kit kre ksh kwa kta tf rf kb ka kc kcn kl kn w h la af nc fc kv km kg vw vh sl mk sg knn ns fs kln nl fl) sz))
set_option maxHeartbeats 4000000 in
set_option maxRecDepth 100000 in
theorem c_X5_could (l : Launch) (G : XG) (sz : Nat) (kx kim kit kre ksh kwa kta : Nat) (tf rf : Int32) (kb ka kc kcn kl kn : Nat) (w h la : Nat) (af : Nat → Int32) (nc : Nat) (fc : Nat → Int32) (kv km kg : Nat) (vw vh : Nat) (sl : Int32) (mk sg : Nat → Int32) (knn : Nat) (ns : Nat) (fs : Nat → Int32) (kln : Nat) (nl : Nat) (fl : Nat → Int32) (hw : 1 ≤ w) (hwb : w ≤ 16) (hhb : h ≤ 16) (hwh : w * h ≤ 16) (hla : la ≤ 9) (hnc : nc ≤ 10) (hcell : ∀ i, i < nc → inR (fc (3 * i + 1)) 16) (hvok : VOK w h la af nc fc mk sg vw vh sl) (hns : ns ≤ 8) (hshown : ∀ i, i < ns → inR (fs (3 * i)) (w * h) ∧ inR (fs (3 * i + 1)) (w * h)) (hnl : nl ≤ 6) : Met l yX5_could wsX5_could ({ frames := 5, cells := 0, slots := 0, locals := 123 } : Room) (va_Pc [.ref kx] (xWp G sz (w_X5_could G kx kim kit kre ksh kwa kta tf rf kb ka kc kcn kl kn w h la af nc fc kv km kg vw vh sl mk sg knn ns fs kln nl fl))) (Q_X5_could G sz kx kim kit kre ksh kwa kta tf rf kb ka kc kcn kl kn w h la af nc fc kv km kg vw vh sl mk sg knn ns fs kln nl fl) 0 0 (va_A (w_X5_could G kx kim kit kre ksh kwa kta tf rf kb ka kc kcn kl kn w h la af nc fc kv km kg vw vh sl mk sg knn ns fs kln nl fl) sz) := by
  refine Met.ofW (cc := cX5_could) (maxL := 4) (ret := (some .int)) (by decide) rfl ?_
  intro pp ee ss mm aa below mt cd s₁ BB hml hv
  obtain ⟨rfl, hsz, hP, hK, hD0⟩ := hv
  have hx := BB.exec
  have hb := BB.bytes
  have hr := BB.returns
  have hts := atoms_spec (ws := wsX5_could) BB.pre
  have hown : ss.vm.findClass RX5 = some mm.cls := findClass_of_methodNamed BB.named
  have hlocks := BB.notSynchronized
  subst hsz
  have hD := hD0.self (sz := ss.heap.size)
  have hA : ∀ q : Nat, ss.heap.size ≤ q → va_A (w_X5_could G kx kim kit kre ksh kwa kta tf rf kb ka kc kcn kl kn w h la af nc fc kv km kg vw vh sl mk sg knn ns fs kln nl fl) ss.heap.size q := fun q h => Or.inr h
  have hS : va_S (va_A (w_X5_could G kx kim kit kre ksh kwa kta tf rf kb ka kc kcn kl kn w h la af nc fc kv km kg vw vh sl mk sg knn ns fs kln nl fl) ss.heap.size) ss.heap ss.heap [] := va_S.rf
  replace hD : va_D (va_A (w_X5_could G kx kim kit kre ksh kwa kta tf rf kb ka kc kcn kl kn w h la af nc fc kv km kg vw vh sl mk sg knn ns fs kln nl fl) ss.heap.size) [oC kx 5 [.ref kb, .ref kim, .ref kit, .ref kv, .ref kre, .int tf, .ref ksh, .int rf, .ref kwa, .ref kta], oC kb 0 [.int (nI w), .int (nI h), .int (nI la), .ref ka, .ref kc, .ref kl, .ref kn], iA G ka 16 af, oC kc 2 [.ref kcn, .int (nI 10), .int (nI nc)], iA G kcn (3 * 10) fc, oC kv 4 [.ref km, .ref kg, .int (nI vw), .int (nI vh), .int sl], iA G km 176 mk, iA G kg 160 sg, oC kn 2 [.ref knn, .int (nI 8), .int (nI ns)], iA G knn (3 * 8) fs, oC kl 2 [.ref kln, .int (nI 6), .int (nI nl)], iA G kln (3 * 6) fl] := hD
  replace hP : xP G [oC kx 5 [.ref kb, .ref kim, .ref kit, .ref kv, .ref kre, .int tf, .ref ksh, .int rf, .ref kwa, .ref kta], oC kb 0 [.int (nI w), .int (nI h), .int (nI la), .ref ka, .ref kc, .ref kl, .ref kn], iA G ka 16 af, oC kc 2 [.ref kcn, .int (nI 10), .int (nI nc)], iA G kcn (3 * 10) fc, oC kv 4 [.ref km, .ref kg, .int (nI vw), .int (nI vh), .int sl], iA G km 176 mk, iA G kg 160 sg, oC kn 2 [.ref knn, .int (nI 8), .int (nI ns)], iA G knn (3 * 8) fs, oC kl 2 [.ref kln, .int (nI 6), .int (nI nl)], iA G kln (3 * 6) fl] ss.heap := hP
  have hin0 : ∀ w ∈ u_ws RX0 TX0 7, w ∈ wsX5_could := fun w h => List.mem_cons_of_mem _ (List.mem_append_left _ (List.mem_append_left _ (List.mem_append_right _ h)))
  have hin2 : ∀ w ∈ u_ws RX2 TX2 3, w ∈ wsX5_could := fun w h => List.mem_cons_of_mem _ (List.mem_append_left _ (List.mem_append_right _ h))
  have hin4 : ∀ w ∈ u_ws RX4 TX4 5, w ∈ wsX5_could := fun w h => List.mem_cons_of_mem _ (List.mem_append_right _ h)
  have hin5 : ∀ w ∈ u_ws RX5 TX5 10, w ∈ wsX5_could := fun w h => List.mem_cons_of_mem _ (List.mem_append_left _ (List.mem_append_left _ (List.mem_append_left _ (List.mem_append_right _ h))))
  have hl := lv_entry ([.ref kx]) (n := 4) (Nat.le_of_ble_eq_true rfl)
  rw [lg_entry_eq]
  generalize (lg_sl ([.ref kx]) ++ List.replicate (4 - (lg_sl ([.ref kx])).length) Slot.unset).toArray = ls at hl ⊢
  replace hl : lv_has ls 4 [(0, .ref kx)] := hl
  refine lv_aload_n hx hb dX5_could_0 rfl (lv_at hl 0 rfl) ?_
  refine lv_aload_n hx hb dX5_could_1 rfl (lv_at hl 0 rfl) ?_
  refine va_get (D := G.1) (ci := 5) (v := .ref kb) (C := RX5) (T := TX5) (N := 10) hx hb hts hin5 hown hK.1 hP 0 rfl rfl 0 (by decide) (hts (.fieldLink RX5 10 "BackLenses" "book" "LBackLenses$Book;") (List.mem_of_getElem? (i := 1) rfl)) (fun _ h9 => h9) rfl dX5_could_2 ?_
  refine va_getN (D := G.1) (ci := 0) (v := .ref kn) (C := RX0) (T := TX0) (N := 7) hx hb hts hin0 hown hK.1 hP 1 rfl rfl 6 (by decide) (va_Nw.use rfl (hK.2 (Cond.fieldLinkNest "BackLenses" (161 : Nat) "BackLenses$Book" "shown" "LBackLenses$Rows;" "BackLenses") (List.mem_of_getElem? (i := 21) rfl))) (fun _ h9 => h9) rfl dX5_could_5 ?_
  refine va_getN (D := G.1) (ci := 2) (v := .int (nI ns)) (C := RX2) (T := TX2) (N := 3) hx hb hts hin2 hown hK.1 hP 8 rfl rfl 2 (by decide) (va_Nw.use rfl (hK.2 (Cond.fieldLinkNest "BackLenses" (97 : Nat) "BackLenses$Rows" "size" "I" "BackLenses") (List.mem_of_getElem? (i := 3) rfl))) (fun _ h9 => h9) rfl dX5_could_8 ?_
  refine xw_i (As := [.int (nI ns)]) (rest := []) (wr := [oC kl 2 [.ref kln, .int (nI 6), .int (nI nl)], iA G kln (3 * 6) fl]) ⟨hx, hb, hml, hown, hts⟩ (c_X5_fitting l G ss.heap.size kx kim kit kre ksh kwa kta tf rf kb ka kc kcn kl kn w h la af nc fc kv km kg vw vh sl mk sg knn ns fs ns (by first | assumption | omega) (by first | assumption | omega) (by first | assumption | omega) (by first | assumption | omega) (by first | assumption | omega) (by first | assumption | omega) (by first | assumption | omega) (by first | assumption | omega) (by first | assumption | omega) (by first | assumption | omega) (by first | assumption | omega)) (cwV 1 hts gX5_could_X5_fitting rfl rfl rfl (by decide +kernel) ⟨Nat.le_of_ble_eq_true rfl, Nat.le_of_ble_eq_true rfl⟩) hK hP hD hS hA [0, 1, 2, 3, 4, 5, 6, 7, 8, 9] [10, 11] rfl rfl (by decide) (by decide) (by decide) rfl rfl rfl hl.1 rfl (Nat.le_of_ble_eq_true rfl) dX5_could_11 ⟨Nat.le_of_ble_eq_true rfl, Nat.le_of_ble_eq_true rfl⟩ (fun r11 u H locs hp11 hP hD hS => ?_)
  obtain ⟨mk2_11, sg2_11, vw2_11, vh2_11, sl2_11⟩ := u
  try dsimp only at hp11 hP hD
  obtain ⟨rfl, he11⟩ := hp11
  replace hP : xP G [oC kl 2 [.ref kln, .int (nI 6), .int (nI nl)], iA G kln (3 * 6) fl, oC kx 5 [.ref kb, .ref kim, .ref kit, .ref kv, .ref kre, .int tf, .ref ksh, .int rf, .ref kwa, .ref kta], oC kb 0 [.int (nI w), .int (nI h), .int (nI la), .ref ka, .ref kc, .ref kl, .ref kn], iA G ka 16 af, oC kc 2 [.ref kcn, .int (nI 10), .int (nI nc)], iA G kcn (3 * 10) fc, oC kv 4 [.ref km, .ref kg, .int (nI vw2_11), .int (nI vh2_11), .int sl2_11], iA G km 176 mk2_11, iA G kg 160 sg2_11, oC kn 2 [.ref knn, .int (nI 8), .int (nI ns)], iA G knn (3 * 8) fs] H := hP
  replace hD : va_D (va_A (w_X5_could G kx kim kit kre ksh kwa kta tf rf kb ka kc kcn kl kn w h la af nc fc kv km kg vw vh sl mk sg knn ns fs kln nl fl) ss.heap.size) [oC kl 2 [.ref kln, .int (nI 6), .int (nI nl)], iA G kln (3 * 6) fl, oC kx 5 [.ref kb, .ref kim, .ref kit, .ref kv, .ref kre, .int tf, .ref ksh, .int rf, .ref kwa, .ref kta], oC kb 0 [.int (nI w), .int (nI h), .int (nI la), .ref ka, .ref kc, .ref kl, .ref kn], iA G ka 16 af, oC kc 2 [.ref kcn, .int (nI 10), .int (nI nc)], iA G kcn (3 * 10) fc, oC kv 4 [.ref km, .ref kg, .int (nI vw2_11), .int (nI vh2_11), .int sl2_11], iA G km 176 mk2_11, iA G kg 160 sg2_11, oC kn 2 [.ref knn, .int (nI 8), .int (nI ns)], iA G knn (3 * 8) fs] := hD
  refine lv_istore_n (lv' := [(1, .int (fitS w h la af nc fc fs ns)), (0, .ref kx)]) hx hb dX5_could_14 rfl hl (by decide) rfl (fun ls hl => ?_)
  refine lv_iconst (v := nI 0) hx hb dX5_could_15 (by decide) ?_
  refine lv_istore_n (lv' := [(2, .int (nI 0)), (1, .int (fitS w h la af nc fc fs ns)), (0, .ref kx)]) hx hb dX5_could_16 rfl hl (by decide) rfl (fun ls hl => ?_)
  refine lv_iconst (v := nI 0) hx hb dX5_could_17 (by decide) ?_
  refine lv_istore_n (lv' := [(3, .int (nI 0)), (2, .int (nI 0)), (1, .int (fitS w h la af nc fc fs ns)), (0, .ref kx)]) hx hb dX5_could_18 rfl hl (by decide) rfl (fun ls hl => ?_)
  have hL19 : ∀ k : Nat, ∀ (i : Nat) (bits : Int32) (ls : Array Slot) (H : Heap) (locs : List Loc), nl - i = k → (i ≤ nl) → (bits = xbits (fun l => !decide ((fitS w h la af nc fc fs ns >>> (fl (3 * l) &&& 31)) &&& nI 1 = 0)) i) → lv_has ls 4 [(0, .ref kx), (1, .int (fitS w h la af nc fc fs ns)), (2, .int bits), (3, .int (nI i))] → xP G [iA G ka 16 af, oC kb 0 [.int (nI w), .int (nI h), .int (nI la), .ref ka, .ref kc, .ref kl, .ref kn], oC kc 2 [.ref kcn, .int (nI 10), .int (nI nc)], iA G kcn (3 * 10) fc, iA G kg 160 sg2_11, oC kl 2 [.ref kln, .int (nI 6), .int (nI nl)], iA G kln (3 * 6) fl, iA G km 176 mk2_11, oC kn 2 [.ref knn, .int (nI 8), .int (nI ns)], iA G knn (3 * 8) fs, oC kv 4 [.ref km, .ref kg, .int (nI vw2_11), .int (nI vh2_11), .int sl2_11], oC kx 5 [.ref kb, .ref kim, .ref kit, .ref kv, .ref kre, .int tf, .ref ksh, .int rf, .ref kwa, .ref kta]] H → va_D (va_A (w_X5_could G kx kim kit kre ksh kwa kta tf rf kb ka kc kcn kl kn w h la af nc fc kv km kg vw vh sl mk sg knn ns fs kln nl fl) ss.heap.size) [iA G ka 16 af, oC kb 0 [.int (nI w), .int (nI h), .int (nI la), .ref ka, .ref kc, .ref kl, .ref kn], oC kc 2 [.ref kcn, .int (nI 10), .int (nI nc)], iA G kcn (3 * 10) fc, iA G kg 160 sg2_11, oC kl 2 [.ref kln, .int (nI 6), .int (nI nl)], iA G kln (3 * 6) fl, iA G km 176 mk2_11, oC kn 2 [.ref knn, .int (nI 8), .int (nI ns)], iA G knn (3 * 8) fs, oC kv 4 [.ref km, .ref kg, .int (nI vw2_11), .int (nI vh2_11), .int sl2_11], oC kx 5 [.ref kb, .ref kim, .ref kit, .ref kv, .ref kre, .int tf, .ref ksh, .int rf, .ref kwa, .ref kta]] → va_S (va_A (w_X5_could G kx kim kit kre ksh kwa kta tf rf kb ka kc kcn kl kn w h la af nc fc kv km kg vw vh sl mk sg knn ns fs kln nl fl) ss.heap.size) ss.heap H locs → W pp l ee ({ frames := 5, cells := 0, slots := 0, locals := 123 } : Room) ss mm ([.ref kx] : List Value).toArray below mt cd H locs 0 0 (MQ below (Q_X5_could G ss.heap.size kx kim kit kre ksh kwa kta tf rf kb ka kc kcn kl kn w h la af nc fc kv km kg vw vh sl mk sg knn ns fs kln nl fl) ([.ref kx] : List Value).toArray ss 0 0 (va_A (w_X5_could G kx kim kit kre ksh kwa kta tf rf kb ka kc kcn kl kn w h la af nc fc kv km kg vw vh sl mk sg knn ns fs kln nl fl) ss.heap.size)) (F0 mm 19 ls []) := by
    intro k
    induction k using Nat.strongRecOn with
    | _ k ih19 =>
    intro i bits ls H locs hm19 hi hbits hl hP hD hS
    refine lv_iload_n hx hb dX5_could_19 rfl (lv_at hl 3 rfl) ?_
    refine lv_aload_n hx hb dX5_could_20 rfl (lv_at hl 0 rfl) ?_
    refine va_get (D := G.1) (ci := 5) (v := .ref kb) (C := RX5) (T := TX5) (N := 10) hx hb hts hin5 hown hK.1 hP 11 rfl rfl 0 (by decide) (hts (.fieldLink RX5 10 "BackLenses" "book" "LBackLenses$Book;") (List.mem_of_getElem? (i := 1) rfl)) (fun _ h9 => h9) rfl dX5_could_21 ?_
    refine va_getN (D := G.1) (ci := 0) (v := .ref kl) (C := RX0) (T := TX0) (N := 7) hx hb hts hin0 hown hK.1 hP 1 rfl rfl 5 (by decide) (va_Nw.use rfl (hK.2 (Cond.fieldLinkNest "BackLenses" (102 : Nat) "BackLenses$Book" "lenses" "LBackLenses$Rows;" "BackLenses") (List.mem_of_getElem? (i := 20) rfl))) (fun _ h9 => h9) rfl dX5_could_24 ?_
    refine va_getN (D := G.1) (ci := 2) (v := .int (nI nl)) (C := RX2) (T := TX2) (N := 3) hx hb hts hin2 hown hK.1 hP 5 rfl rfl 2 (by decide) (va_Nw.use rfl (hK.2 (Cond.fieldLinkNest "BackLenses" (97 : Nat) "BackLenses$Rows" "size" "I" "BackLenses") (List.mem_of_getElem? (i := 3) rfl))) (fun _ h9 => h9) rfl dX5_could_27 ?_
    refine xn_icmp_ge (tgt := 64) hx hb (by omega) (by omega) dX5_could_30 rfl (fun b30 => ?_) (fun b30 => ?_)
    · skip
      refine lv_iload_n hx hb dX5_could_64 rfl (lv_at hl 2 rfl) ?_
      have hP := hP.sub (ws' := [oC kx 5 [.ref kb, .ref kim, .ref kit, .ref kv, .ref kre, .int tf, .ref ksh, .int rf, .ref kwa, .ref kta], oC kb 0 [.int (nI w), .int (nI h), .int (nI la), .ref ka, .ref kc, .ref kl, .ref kn], iA G ka 16 af, oC kc 2 [.ref kcn, .int (nI 10), .int (nI nc)], iA G kcn (3 * 10) fc, oC kv 4 [.ref km, .ref kg, .int (nI vw2_11), .int (nI vh2_11), .int sl2_11], iA G km 176 mk2_11, iA G kg 160 sg2_11, oC kn 2 [.ref knn, .int (nI 8), .int (nI ns)], iA G knn (3 * 8) fs, oC kl 2 [.ref kln, .int (nI 6), .int (nI nl)], iA G kln (3 * 6) fl]) [11, 1, 0, 2, 3, 10, 7, 4, 8, 9, 5, 6] rfl
      have hD := hD.sub (ws' := [oC kx 5 [.ref kb, .ref kim, .ref kit, .ref kv, .ref kre, .int tf, .ref ksh, .int rf, .ref kwa, .ref kta], oC kb 0 [.int (nI w), .int (nI h), .int (nI la), .ref ka, .ref kc, .ref kl, .ref kn], iA G ka 16 af, oC kc 2 [.ref kcn, .int (nI 10), .int (nI nc)], iA G kcn (3 * 10) fc, oC kv 4 [.ref km, .ref kg, .int (nI vw2_11), .int (nI vh2_11), .int sl2_11], iA G km 176 mk2_11, iA G kg 160 sg2_11, oC kn 2 [.ref knn, .int (nI 8), .int (nI ns)], iA G knn (3 * 8) fs, oC kl 2 [.ref kln, .int (nI 6), .int (nI nl)], iA G kln (3 * 6) fl]) [11, 1, 0, 2, 3, 10, 7, 4, 8, 9, 5, 6] (by decide) rfl
      refine W.iret (v := bits) hx hb hr (fun t ht hW => ⟨⟨bits, (mk2_11, sg2_11, vw2_11, vh2_11, sl2_11), rfl, ?_, by rw [ht]; exact hP, hD⟩, hS.F ht⟩) hS.2.2 dX5_could_65
      try dsimp only
      exact ⟨by rw [hbits, show i = nl by omega], he11⟩
    · skip
      refine lv_iload_n hx hb dX5_could_33 rfl (lv_at hl 1 rfl) ?_
      refine lv_aload_n hx hb dX5_could_34 rfl (lv_at hl 0 rfl) ?_
      refine va_get (D := G.1) (ci := 5) (v := .ref kb) (C := RX5) (T := TX5) (N := 10) hx hb hts hin5 hown hK.1 hP 11 rfl rfl 0 (by decide) (hts (.fieldLink RX5 10 "BackLenses" "book" "LBackLenses$Book;") (List.mem_of_getElem? (i := 1) rfl)) (fun _ h9 => h9) rfl dX5_could_35 ?_
      refine va_getN (D := G.1) (ci := 0) (v := .ref kl) (C := RX0) (T := TX0) (N := 7) hx hb hts hin0 hown hK.1 hP 1 rfl rfl 5 (by decide) (va_Nw.use rfl (hK.2 (Cond.fieldLinkNest "BackLenses" (102 : Nat) "BackLenses$Book" "lenses" "LBackLenses$Rows;" "BackLenses") (List.mem_of_getElem? (i := 20) rfl))) (fun _ h9 => h9) rfl dX5_could_38 ?_
      refine lv_iload_n hx hb dX5_could_41 rfl (lv_at hl 3 rfl) ?_
      refine lv_iconst (v := nI 0) hx hb dX5_could_42 (by decide) ?_
      refine xr_i (As := [.int (nI i), .int (nI 0)]) (rest := [.int (fitS w h la af nc fc fs ns)]) ⟨hx, hb, hml, hown, hts⟩ (c_X2_number l G kl kln 6 nl fl i 0 (by first | assumption | omega) (by first | assumption | omega)) (cwV 2 hts gX5_could_X2_number rfl rfl rfl (by decide +kernel) ⟨Nat.le_of_ble_eq_true rfl, Nat.le_of_ble_eq_true rfl⟩) hK hP hS [5, 6] rfl rfl rfl rfl hl.1 rfl (Nat.le_of_ble_eq_true rfl) dX5_could_43 ⟨Nat.zero_le _, Nat.zero_le _⟩ (fun r43 H locs hp43 hP hS => ?_)
      obtain rfl : r43 = fl (3 * i + 0) := hp43
      refine lv_ishr hx hb dX5_could_46 ?_
      refine lv_iconst (v := nI 1) hx hb dX5_could_47 (by decide) ?_
      refine lv_iand hx hb dX5_could_48 ?_
      refine lv_if_eq (tgt := 58) hx hb dX5_could_49 rfl (fun b49 => ?_) (fun b49 => ?_)
      · skip
        refine lv_iinc (k := 3) (v := nI (i + 1)) (lv' := [(3, .int (nI (i + 1))), (0, .ref kx), (1, .int (fitS w h la af nc fc fs ns)), (2, .int bits)]) hx hb dX5_could_58 hl rfl (xn_inc i 1) (by decide) rfl (fun ls hl => ?_)
        refine lv_goto (tgt := 19) hx hb dX5_could_61 rfl ?_
        have hl := lv_sub hl (l' := [(0, .ref kx), (1, .int (fitS w h la af nc fc fs ns)), (2, .int bits), (3, .int (nI (i + 1)))]) [1, 2, 3, 0] rfl
        exact ih19 (nl - (i + 1)) (by omega) (i + 1) bits ls H locs rfl (by omega) (by first | exact xbits_T (by simp only [Nat.add_zero] at b49; simp only [decide_eq_false b49]; decide) hbits | exact xbits_N (by simp only [Nat.add_zero] at b49; simp only [decide_eq_true b49]; decide) hbits) hl hP hD hS
      · skip
        refine lv_iload_n hx hb dX5_could_52 rfl (lv_at hl 2 rfl) ?_
        refine lv_iconst (v := nI 1) hx hb dX5_could_53 (by decide) ?_
        refine lv_iload_n hx hb dX5_could_54 rfl (lv_at hl 3 rfl) ?_
        refine lv_ishl hx hb dX5_could_55 ?_
        refine lv_ior hx hb dX5_could_56 ?_
        refine lv_istore_n (lv' := [(2, .int (bits ||| ((nI 1) <<< ((nI i) &&& 31)))), (0, .ref kx), (1, .int (fitS w h la af nc fc fs ns)), (3, .int (nI i))]) hx hb dX5_could_57 rfl hl (by decide) rfl (fun ls hl => ?_)
        refine lv_iinc (k := 3) (v := nI (i + 1)) (lv' := [(3, .int (nI (i + 1))), (2, .int (bits ||| ((nI 1) <<< ((nI i) &&& 31)))), (0, .ref kx), (1, .int (fitS w h la af nc fc fs ns))]) hx hb dX5_could_58 hl rfl (xn_inc i 1) (by decide) rfl (fun ls hl => ?_)
        refine lv_goto (tgt := 19) hx hb dX5_could_61 rfl ?_
        have hl := lv_sub hl (l' := [(0, .ref kx), (1, .int (fitS w h la af nc fc fs ns)), (2, .int (bits ||| ((nI 1) <<< ((nI i) &&& 31)))), (3, .int (nI (i + 1)))]) [2, 3, 1, 0] rfl
        exact ih19 (nl - (i + 1)) (by omega) (i + 1) (bits ||| ((nI 1) <<< ((nI i) &&& 31))) ls H locs rfl (by omega) (by first | exact xbits_T (by simp only [Nat.add_zero] at b49; simp only [decide_eq_false b49]; decide) hbits | exact xbits_N (by simp only [Nat.add_zero] at b49; simp only [decide_eq_true b49]; decide) hbits) hl hP hD hS
  have hl := lv_sub hl (l' := [(0, .ref kx), (1, .int (fitS w h la af nc fc fs ns)), (2, .int (nI 0)), (3, .int (nI 0))]) [3, 2, 1, 0] rfl
  have hP := hP.sub (ws' := [iA G ka 16 af, oC kb 0 [.int (nI w), .int (nI h), .int (nI la), .ref ka, .ref kc, .ref kl, .ref kn], oC kc 2 [.ref kcn, .int (nI 10), .int (nI nc)], iA G kcn (3 * 10) fc, iA G kg 160 sg2_11, oC kl 2 [.ref kln, .int (nI 6), .int (nI nl)], iA G kln (3 * 6) fl, iA G km 176 mk2_11, oC kn 2 [.ref knn, .int (nI 8), .int (nI ns)], iA G knn (3 * 8) fs, oC kv 4 [.ref km, .ref kg, .int (nI vw2_11), .int (nI vh2_11), .int sl2_11], oC kx 5 [.ref kb, .ref kim, .ref kit, .ref kv, .ref kre, .int tf, .ref ksh, .int rf, .ref kwa, .ref kta]]) [4, 3, 5, 6, 9, 0, 1, 8, 10, 11, 7, 2] rfl
  have hD := hD.sub (ws' := [iA G ka 16 af, oC kb 0 [.int (nI w), .int (nI h), .int (nI la), .ref ka, .ref kc, .ref kl, .ref kn], oC kc 2 [.ref kcn, .int (nI 10), .int (nI nc)], iA G kcn (3 * 10) fc, iA G kg 160 sg2_11, oC kl 2 [.ref kln, .int (nI 6), .int (nI nl)], iA G kln (3 * 6) fl, iA G km 176 mk2_11, oC kn 2 [.ref knn, .int (nI 8), .int (nI ns)], iA G knn (3 * 8) fs, oC kv 4 [.ref km, .ref kg, .int (nI vw2_11), .int (nI vh2_11), .int sl2_11], oC kx 5 [.ref kb, .ref kim, .ref kit, .ref kv, .ref kre, .int tf, .ref ksh, .int rf, .ref kwa, .ref kta]]) [4, 3, 5, 6, 9, 0, 1, 8, 10, 11, 7, 2] (by decide) rfl
  exact hL19 (nl - 0) 0 (nI 0) ls H locs rfl (by omega) (by rfl) hl hP hD hS

abbrev w_X5_hide (G : XG) (kx kim kit kre ksh kwa kta : Nat) (tf rf : Int32) (kb ka kc kcn kl kn : Nat) (w h la : Nat) (af : Nat → Int32) (nc : Nat) (fc : Nat → Int32) (kv km kg : Nat) (vw vh : Nat) (sl : Int32) (mk sg : Nat → Int32) (kln : Nat) (nl : Nat) (fl : Nat → Int32) : va_W := [oC kx 5 [.ref kb, .ref kim, .ref kit, .ref kv, .ref kre, .int tf, .ref ksh, .int rf, .ref kwa, .ref kta], oC kb 0 [.int (nI w), .int (nI h), .int (nI la), .ref ka, .ref kc, .ref kl, .ref kn], iA G ka 16 af, oC kc 2 [.ref kcn, .int (nI 10), .int (nI nc)], iA G kcn (3 * 10) fc, oC kv 4 [.ref km, .ref kg, .int (nI vw), .int (nI vh), .int sl], iA G km 176 mk, iA G kg 160 sg, oC kl 2 [.ref kln, .int (nI 6), .int (nI nl)], iA G kln (3 * 6) fl]
abbrev Q_X5_hide (G : XG) (sz : Nat) (kx kim kit kre ksh kwa kta : Nat) (tf rf : Int32) (kb ka kc kcn kl kn : Nat) (w h la : Nat) (af : Nat → Int32) (nc : Nat) (fc : Nat → Int32) (kv km kg : Nat) (vw vh : Nat) (sl : Int32) (mk sg : Nat → Int32) (kln : Nat) (nl : Nat) (fl : Nat → Int32) (x : Int32) : Array Value → State → Outcome → State → Prop := (va_Qi (fun (r : Int32) (u : (Nat → Int32) × (Nat → Int32) × Nat × Nat × Int32) => r = (if inR x (w * h) then (if nl = 0 then (-2) else (orF (fun l => sgS w h af nc fc (tn x) (tn (fl (3 * l)))) nl ^^^ (-1)) &&& (nI 1 <<< (nI (w * h) &&& 31) - nI 1)) else (-1)) ∧ VOK w h la af nc fc u.1 u.2.1 u.2.2.1 u.2.2.2.1 u.2.2.2.2) (xWb G sz (w_X5_hide G kx kim kit kre ksh kwa kta tf rf kb ka kc kcn kl kn w h la af nc fc kv km kg vw vh sl mk sg kln nl fl) (fun u : (Nat → Int32) × (Nat → Int32) × Nat × Nat × Int32 => [oC kx 5 [.ref kb, .ref kim, .ref kit, .ref kv, .ref kre, .int tf, .ref ksh, .int rf, .ref kwa, .ref kta], oC kb 0 [.int (nI w), .int (nI h), .int (nI la), .ref ka, .ref kc, .ref kl, .ref kn], iA G ka 16 af, oC kc 2 [.ref kcn, .int (nI 10), .int (nI nc)], iA G kcn (3 * 10) fc, oC kv 4 [.ref km, .ref kg, .int (nI u.2.2.1), .int (nI u.2.2.2.1), .int u.2.2.2.2], iA G km 176 u.1, iA G kg 160 u.2.1, oC kl 2 [.ref kln, .int (nI 6), .int (nI nl)], iA G kln (3 * 6) fl])) (va_A (w_X5_hide G kx kim kit kre ksh kwa kta tf rf kb ka kc kcn kl kn w h la af nc fc kv km kg vw vh sl mk sg kln nl fl) sz))
set_option maxHeartbeats 4000000 in
set_option maxRecDepth 100000 in
theorem c_X5_hide (l : Launch) (G : XG) (sz : Nat) (kx kim kit kre ksh kwa kta : Nat) (tf rf : Int32) (kb ka kc kcn kl kn : Nat) (w h la : Nat) (af : Nat → Int32) (nc : Nat) (fc : Nat → Int32) (kv km kg : Nat) (vw vh : Nat) (sl : Int32) (mk sg : Nat → Int32) (kln : Nat) (nl : Nat) (fl : Nat → Int32) (x : Int32) (hw : 1 ≤ w) (hwb : w ≤ 16) (hhb : h ≤ 16) (hwh : w * h ≤ 16) (hla : la ≤ 9) (hnc : nc ≤ 10) (hcell : ∀ i, i < nc → inR (fc (3 * i + 1)) 16) (hvok : VOK w h la af nc fc mk sg vw vh sl) (hnl : nl ≤ 6) (hlens : ∀ i, i < nl → inR (fl (3 * i)) (la + 1)) : Met l yX5_hide wsX5_hide ({ frames := 4, cells := 0, slots := 0, locals := 96 } : Room) (va_Pc [.ref kx, .int x] (xWp G sz (w_X5_hide G kx kim kit kre ksh kwa kta tf rf kb ka kc kcn kl kn w h la af nc fc kv km kg vw vh sl mk sg kln nl fl))) (Q_X5_hide G sz kx kim kit kre ksh kwa kta tf rf kb ka kc kcn kl kn w h la af nc fc kv km kg vw vh sl mk sg kln nl fl x) 0 0 (va_A (w_X5_hide G kx kim kit kre ksh kwa kta tf rf kb ka kc kcn kl kn w h la af nc fc kv km kg vw vh sl mk sg kln nl fl) sz) := by
  refine Met.ofW (cc := cX5_hide) (maxL := 5) (ret := (some .int)) (by decide) rfl ?_
  intro pp ee ss mm aa below mt cd s₁ BB hml hv
  obtain ⟨rfl, hsz, hP, hK, hD0⟩ := hv
  have hx := BB.exec
  have hb := BB.bytes
  have hr := BB.returns
  have hts := atoms_spec (ws := wsX5_hide) BB.pre
  have hown : ss.vm.findClass RX5 = some mm.cls := findClass_of_methodNamed BB.named
  have hlocks := BB.notSynchronized
  subst hsz
  have hD := hD0.self (sz := ss.heap.size)
  have hA : ∀ q : Nat, ss.heap.size ≤ q → va_A (w_X5_hide G kx kim kit kre ksh kwa kta tf rf kb ka kc kcn kl kn w h la af nc fc kv km kg vw vh sl mk sg kln nl fl) ss.heap.size q := fun q h => Or.inr h
  have hS : va_S (va_A (w_X5_hide G kx kim kit kre ksh kwa kta tf rf kb ka kc kcn kl kn w h la af nc fc kv km kg vw vh sl mk sg kln nl fl) ss.heap.size) ss.heap ss.heap [] := va_S.rf
  replace hD : va_D (va_A (w_X5_hide G kx kim kit kre ksh kwa kta tf rf kb ka kc kcn kl kn w h la af nc fc kv km kg vw vh sl mk sg kln nl fl) ss.heap.size) [oC kx 5 [.ref kb, .ref kim, .ref kit, .ref kv, .ref kre, .int tf, .ref ksh, .int rf, .ref kwa, .ref kta], oC kb 0 [.int (nI w), .int (nI h), .int (nI la), .ref ka, .ref kc, .ref kl, .ref kn], iA G ka 16 af, oC kc 2 [.ref kcn, .int (nI 10), .int (nI nc)], iA G kcn (3 * 10) fc, oC kv 4 [.ref km, .ref kg, .int (nI vw), .int (nI vh), .int sl], iA G km 176 mk, iA G kg 160 sg, oC kl 2 [.ref kln, .int (nI 6), .int (nI nl)], iA G kln (3 * 6) fl] := hD
  replace hP : xP G [oC kx 5 [.ref kb, .ref kim, .ref kit, .ref kv, .ref kre, .int tf, .ref ksh, .int rf, .ref kwa, .ref kta], oC kb 0 [.int (nI w), .int (nI h), .int (nI la), .ref ka, .ref kc, .ref kl, .ref kn], iA G ka 16 af, oC kc 2 [.ref kcn, .int (nI 10), .int (nI nc)], iA G kcn (3 * 10) fc, oC kv 4 [.ref km, .ref kg, .int (nI vw), .int (nI vh), .int sl], iA G km 176 mk, iA G kg 160 sg, oC kl 2 [.ref kln, .int (nI 6), .int (nI nl)], iA G kln (3 * 6) fl] ss.heap := hP
  have hin0 : ∀ w ∈ u_ws RX0 TX0 7, w ∈ wsX5_hide := fun w h => List.mem_cons_of_mem _ (List.mem_append_left _ (List.mem_append_left _ (List.mem_append_right _ h)))
  have hin2 : ∀ w ∈ u_ws RX2 TX2 3, w ∈ wsX5_hide := fun w h => List.mem_cons_of_mem _ (List.mem_append_left _ (List.mem_append_right _ h))
  have hin4 : ∀ w ∈ u_ws RX4 TX4 5, w ∈ wsX5_hide := fun w h => List.mem_cons_of_mem _ (List.mem_append_right _ h)
  have hin5 : ∀ w ∈ u_ws RX5 TX5 10, w ∈ wsX5_hide := fun w h => List.mem_cons_of_mem _ (List.mem_append_left _ (List.mem_append_left _ (List.mem_append_left _ (List.mem_append_right _ h))))
  have hl := lv_entry ([.ref kx, .int x]) (n := 5) (Nat.le_of_ble_eq_true rfl)
  rw [lg_entry_eq]
  generalize (lg_sl ([.ref kx, .int x]) ++ List.replicate (5 - (lg_sl ([.ref kx, .int x])).length) Slot.unset).toArray = ls at hl ⊢
  replace hl : lv_has ls 5 [(0, .ref kx), (1, .int x)] := hl
  refine lv_aload_n hx hb dX5_hide_0 rfl (lv_at hl 0 rfl) ?_
  refine va_get (D := G.1) (ci := 5) (v := .ref kb) (C := RX5) (T := TX5) (N := 10) hx hb hts hin5 hown hK.1 hP 0 rfl rfl 0 (by decide) (hts (.fieldLink RX5 10 "BackLenses" "book" "LBackLenses$Book;") (List.mem_of_getElem? (i := 1) rfl)) (fun _ h9 => h9) rfl dX5_hide_1 ?_
  refine lv_iload_n hx hb dX5_hide_4 rfl (lv_at hl 1 rfl) ?_
  refine xr_i (As := [.int x]) (rest := []) ⟨hx, hb, hml, hown, hts⟩ (c_X0_hasCell l G kb ka kc kl kn w h la x (by first | assumption | omega)) (cwV 1 hts gX5_hide_X0_hasCell rfl rfl rfl (by decide +kernel) ⟨Nat.le_of_ble_eq_true rfl, Nat.le_of_ble_eq_true rfl⟩) hK hP hS [1] rfl rfl rfl rfl hl.1 rfl (Nat.le_of_ble_eq_true rfl) dX5_hide_5 ⟨Nat.zero_le _, Nat.zero_le _⟩ (fun r5 H locs hp5 hP hS => ?_)
  obtain rfl : r5 = xb (inR x (w * h)) := hp5
  refine xb_if_ne (tgt := 13) hx hb dX5_hide_8 rfl (fun b8 => ?_) (fun b8 => ?_)
  · skip
    obtain ⟨x0, hx0, rfl⟩ := inR_nat b8
    refine lv_aload_n hx hb dX5_hide_13 rfl (lv_at hl 0 rfl) ?_
    refine va_get (D := G.1) (ci := 5) (v := .ref kb) (C := RX5) (T := TX5) (N := 10) hx hb hts hin5 hown hK.1 hP 0 rfl rfl 0 (by decide) (hts (.fieldLink RX5 10 "BackLenses" "book" "LBackLenses$Book;") (List.mem_of_getElem? (i := 1) rfl)) (fun _ h9 => h9) rfl dX5_hide_14 ?_
    refine va_getN (D := G.1) (ci := 0) (v := .ref kl) (C := RX0) (T := TX0) (N := 7) hx hb hts hin0 hown hK.1 hP 1 rfl rfl 5 (by decide) (va_Nw.use rfl (hK.2 (Cond.fieldLinkNest "BackLenses" (102 : Nat) "BackLenses$Book" "lenses" "LBackLenses$Rows;" "BackLenses") (List.mem_of_getElem? (i := 20) rfl))) (fun _ h9 => h9) rfl dX5_hide_17 ?_
    refine va_getN (D := G.1) (ci := 2) (v := .int (nI nl)) (C := RX2) (T := TX2) (N := 3) hx hb hts hin2 hown hK.1 hP 8 rfl rfl 2 (by decide) (va_Nw.use rfl (hK.2 (Cond.fieldLinkNest "BackLenses" (97 : Nat) "BackLenses$Rows" "size" "I" "BackLenses") (List.mem_of_getElem? (i := 3) rfl))) (fun _ h9 => h9) rfl dX5_hide_20 ?_
    refine xn_if_ne (tgt := 29) hx hb (by omega) dX5_hide_23 rfl (fun b23 => ?_) (fun b23 => ?_)
    · skip
      refine lv_aload_n hx hb dX5_hide_29 rfl (lv_at hl 0 rfl) ?_
      refine xw_r (As := []) (rest := []) (wr := [oC kl 2 [.ref kln, .int (nI 6), .int (nI nl)], iA G kln (3 * 6) fl]) ⟨hx, hb, hml, hown, hts⟩ (c_X5_freshViews l G H.size kx kim kit kre ksh kwa kta tf rf kb ka kc kcn kl kn w h la af nc fc kv km kg vw vh sl mk sg (by first | assumption | omega) (by first | assumption | omega) (by first | assumption | omega) (by first | assumption | omega) (by first | assumption | omega) (by first | assumption | omega) (by first | assumption | omega) (by first | assumption | omega)) (cwV 0 hts gX5_hide_X5_freshViews rfl rfl rfl (by decide +kernel) ⟨Nat.le_of_ble_eq_true rfl, Nat.le_of_ble_eq_true rfl⟩) hK hP hD hS hA [0, 1, 2, 3, 4, 5, 6, 7] [8, 9] rfl rfl (by decide) (by decide) (by decide) rfl rfl rfl hl.1 rfl (Nat.le_of_ble_eq_true rfl) dX5_hide_30 ⟨Nat.le_of_ble_eq_true rfl, Nat.le_of_ble_eq_true rfl⟩ (fun u H locs hp30 hP hD hS => ?_)
      obtain ⟨mk2_30, sg2_30⟩ := u
      try dsimp only at hp30 hP hD
      have he30 := hp30
      replace hP : xP G [oC kl 2 [.ref kln, .int (nI 6), .int (nI nl)], iA G kln (3 * 6) fl, oC kx 5 [.ref kb, .ref kim, .ref kit, .ref kv, .ref kre, .int tf, .ref ksh, .int rf, .ref kwa, .ref kta], oC kb 0 [.int (nI w), .int (nI h), .int (nI la), .ref ka, .ref kc, .ref kl, .ref kn], iA G ka 16 af, oC kc 2 [.ref kcn, .int (nI 10), .int (nI nc)], iA G kcn (3 * 10) fc, oC kv 4 [.ref km, .ref kg, .int (nI w), .int (nI h), .int (nI 0)], iA G km 176 mk2_30, iA G kg 160 sg2_30] H := hP
      replace hD : va_D (va_A (w_X5_hide G kx kim kit kre ksh kwa kta tf rf kb ka kc kcn kl kn w h la af nc fc kv km kg vw vh sl mk sg kln nl fl) ss.heap.size) [oC kl 2 [.ref kln, .int (nI 6), .int (nI nl)], iA G kln (3 * 6) fl, oC kx 5 [.ref kb, .ref kim, .ref kit, .ref kv, .ref kre, .int tf, .ref ksh, .int rf, .ref kwa, .ref kta], oC kb 0 [.int (nI w), .int (nI h), .int (nI la), .ref ka, .ref kc, .ref kl, .ref kn], iA G ka 16 af, oC kc 2 [.ref kcn, .int (nI 10), .int (nI nc)], iA G kcn (3 * 10) fc, oC kv 4 [.ref km, .ref kg, .int (nI w), .int (nI h), .int (nI 0)], iA G km 176 mk2_30, iA G kg 160 sg2_30] := hD
      refine lv_astore_n (lv' := [(2, .ref kv), (0, .ref kx), (1, .int (nI x0))]) hx hb dX5_hide_33 rfl hl (by decide) rfl (fun ls hl => ?_)
      refine lv_iconst (v := nI 0) hx hb dX5_hide_34 (by decide) ?_
      refine lv_istore_n (lv' := [(3, .int (nI 0)), (2, .ref kv), (0, .ref kx), (1, .int (nI x0))]) hx hb dX5_hide_35 rfl hl (by decide) rfl (fun ls hl => ?_)
      refine lv_iconst (v := nI 0) hx hb dX5_hide_36 (by decide) ?_
      refine lv_istore (lv' := [(4, .int (nI 0)), (3, .int (nI 0)), (2, .ref kv), (0, .ref kx), (1, .int (nI x0))]) hx hb dX5_hide_37 hl (by decide) rfl (fun ls hl => ?_)
      have hL39 : ∀ k : Nat, ∀ (i : Nat) (bits : Int32) (ls : Array Slot) (H : Heap) (locs : List Loc), nl - i = k → (i ≤ nl) → (bits = orF (fun l => sgS w h af nc fc x0 (tn (fl (3 * l)))) i) → lv_has ls 5 [(0, .ref kx), (1, .int (nI x0)), (2, .ref kv), (3, .int bits), (4, .int (nI i))] → xP G [iA G ka 16 af, oC kb 0 [.int (nI w), .int (nI h), .int (nI la), .ref ka, .ref kc, .ref kl, .ref kn], oC kc 2 [.ref kcn, .int (nI 10), .int (nI nc)], iA G kcn (3 * 10) fc, iA G kg 160 sg2_30, oC kl 2 [.ref kln, .int (nI 6), .int (nI nl)], iA G kln (3 * 6) fl, iA G km 176 mk2_30, oC kv 4 [.ref km, .ref kg, .int (nI w), .int (nI h), .int (nI 0)], oC kx 5 [.ref kb, .ref kim, .ref kit, .ref kv, .ref kre, .int tf, .ref ksh, .int rf, .ref kwa, .ref kta]] H → va_D (va_A (w_X5_hide G kx kim kit kre ksh kwa kta tf rf kb ka kc kcn kl kn w h la af nc fc kv km kg vw vh sl mk sg kln nl fl) ss.heap.size) [iA G ka 16 af, oC kb 0 [.int (nI w), .int (nI h), .int (nI la), .ref ka, .ref kc, .ref kl, .ref kn], oC kc 2 [.ref kcn, .int (nI 10), .int (nI nc)], iA G kcn (3 * 10) fc, iA G kg 160 sg2_30, oC kl 2 [.ref kln, .int (nI 6), .int (nI nl)], iA G kln (3 * 6) fl, iA G km 176 mk2_30, oC kv 4 [.ref km, .ref kg, .int (nI w), .int (nI h), .int (nI 0)], oC kx 5 [.ref kb, .ref kim, .ref kit, .ref kv, .ref kre, .int tf, .ref ksh, .int rf, .ref kwa, .ref kta]] → va_S (va_A (w_X5_hide G kx kim kit kre ksh kwa kta tf rf kb ka kc kcn kl kn w h la af nc fc kv km kg vw vh sl mk sg kln nl fl) ss.heap.size) ss.heap H locs → W pp l ee ({ frames := 4, cells := 0, slots := 0, locals := 96 } : Room) ss mm ([.ref kx, .int (nI x0)] : List Value).toArray below mt cd H locs 0 0 (MQ below (Q_X5_hide G ss.heap.size kx kim kit kre ksh kwa kta tf rf kb ka kc kcn kl kn w h la af nc fc kv km kg vw vh sl mk sg kln nl fl (nI x0)) ([.ref kx, .int (nI x0)] : List Value).toArray ss 0 0 (va_A (w_X5_hide G kx kim kit kre ksh kwa kta tf rf kb ka kc kcn kl kn w h la af nc fc kv km kg vw vh sl mk sg kln nl fl) ss.heap.size)) (F0 mm 39 ls []) := by
        intro k
        induction k using Nat.strongRecOn with
        | _ k ih39 =>
        intro i bits ls H locs hm39 hi hbits hl hP hD hS
        refine lv_iload hx hb dX5_hide_39 (lv_at hl 4 rfl) ?_
        refine lv_aload_n hx hb dX5_hide_41 rfl (lv_at hl 0 rfl) ?_
        refine va_get (D := G.1) (ci := 5) (v := .ref kb) (C := RX5) (T := TX5) (N := 10) hx hb hts hin5 hown hK.1 hP 9 rfl rfl 0 (by decide) (hts (.fieldLink RX5 10 "BackLenses" "book" "LBackLenses$Book;") (List.mem_of_getElem? (i := 1) rfl)) (fun _ h9 => h9) rfl dX5_hide_42 ?_
        refine va_getN (D := G.1) (ci := 0) (v := .ref kl) (C := RX0) (T := TX0) (N := 7) hx hb hts hin0 hown hK.1 hP 1 rfl rfl 5 (by decide) (va_Nw.use rfl (hK.2 (Cond.fieldLinkNest "BackLenses" (102 : Nat) "BackLenses$Book" "lenses" "LBackLenses$Rows;" "BackLenses") (List.mem_of_getElem? (i := 20) rfl))) (fun _ h9 => h9) rfl dX5_hide_45 ?_
        refine va_getN (D := G.1) (ci := 2) (v := .int (nI nl)) (C := RX2) (T := TX2) (N := 3) hx hb hts hin2 hown hK.1 hP 5 rfl rfl 2 (by decide) (va_Nw.use rfl (hK.2 (Cond.fieldLinkNest "BackLenses" (97 : Nat) "BackLenses$Rows" "size" "I" "BackLenses") (List.mem_of_getElem? (i := 3) rfl))) (fun _ h9 => h9) rfl dX5_hide_48 ?_
        refine xn_icmp_ge (tgt := 81) hx hb (by omega) (by omega) dX5_hide_51 rfl (fun b51 => ?_) (fun b51 => ?_)
        · skip
          refine lv_iload_n hx hb dX5_hide_81 rfl (lv_at hl 3 rfl) ?_
          refine lv_iconst (v := (-1)) hx hb dX5_hide_82 (by decide) ?_
          refine lv_ixor hx hb dX5_hide_83 ?_
          refine lv_iconst (v := nI 1) hx hb dX5_hide_84 (by decide) ?_
          refine lv_aload_n hx hb dX5_hide_85 rfl (lv_at hl 0 rfl) ?_
          refine va_get (D := G.1) (ci := 5) (v := .ref kb) (C := RX5) (T := TX5) (N := 10) hx hb hts hin5 hown hK.1 hP 9 rfl rfl 0 (by decide) (hts (.fieldLink RX5 10 "BackLenses" "book" "LBackLenses$Book;") (List.mem_of_getElem? (i := 1) rfl)) (fun _ h9 => h9) rfl dX5_hide_86 ?_
          refine xr_i (As := []) (rest := [.int (nI 1), .int (bits ^^^ (-1))]) ⟨hx, hb, hml, hown, hts⟩ (c_X0_cells l G kb ka kc kl kn w h la ) (cwV 0 hts gX5_hide_X0_cells rfl rfl rfl (by decide +kernel) ⟨Nat.le_of_ble_eq_true rfl, Nat.le_of_ble_eq_true rfl⟩) hK hP hS [1] rfl rfl rfl rfl hl.1 rfl (Nat.le_of_ble_eq_true rfl) dX5_hide_89 ⟨Nat.zero_le _, Nat.zero_le _⟩ (fun r89 H locs hp89 hP hS => ?_)
          obtain rfl : r89 = nI (w * h) := hp89
          refine lv_ishl hx hb dX5_hide_92 ?_
          refine lv_iconst (v := nI 1) hx hb dX5_hide_93 (by decide) ?_
          refine lv_isub hx hb dX5_hide_94 ?_
          refine lv_iand hx hb dX5_hide_95 ?_
          have hP := hP.sub (ws' := [oC kx 5 [.ref kb, .ref kim, .ref kit, .ref kv, .ref kre, .int tf, .ref ksh, .int rf, .ref kwa, .ref kta], oC kb 0 [.int (nI w), .int (nI h), .int (nI la), .ref ka, .ref kc, .ref kl, .ref kn], iA G ka 16 af, oC kc 2 [.ref kcn, .int (nI 10), .int (nI nc)], iA G kcn (3 * 10) fc, oC kv 4 [.ref km, .ref kg, .int (nI w), .int (nI h), .int (nI 0)], iA G km 176 mk2_30, iA G kg 160 sg2_30, oC kl 2 [.ref kln, .int (nI 6), .int (nI nl)], iA G kln (3 * 6) fl]) [9, 1, 0, 2, 3, 8, 7, 4, 5, 6] rfl
          have hD := hD.sub (ws' := [oC kx 5 [.ref kb, .ref kim, .ref kit, .ref kv, .ref kre, .int tf, .ref ksh, .int rf, .ref kwa, .ref kta], oC kb 0 [.int (nI w), .int (nI h), .int (nI la), .ref ka, .ref kc, .ref kl, .ref kn], iA G ka 16 af, oC kc 2 [.ref kcn, .int (nI 10), .int (nI nc)], iA G kcn (3 * 10) fc, oC kv 4 [.ref km, .ref kg, .int (nI w), .int (nI h), .int (nI 0)], iA G km 176 mk2_30, iA G kg 160 sg2_30, oC kl 2 [.ref kln, .int (nI 6), .int (nI nl)], iA G kln (3 * 6) fl]) [9, 1, 0, 2, 3, 8, 7, 4, 5, 6] (by decide) rfl
          refine W.iret (v := (bits ^^^ (-1)) &&& (((nI 1) <<< ((nI (w * h)) &&& 31)) - (nI 1))) hx hb hr (fun t ht hW => ⟨⟨(bits ^^^ (-1)) &&& (((nI 1) <<< ((nI (w * h)) &&& 31)) - (nI 1)), (mk2_30, sg2_30, w, h, nI 0), rfl, ?_, by rw [ht]; exact hP, hD⟩, hS.F ht⟩) hS.2.2 dX5_hide_96
          try dsimp only
          first | exact ⟨(if_neg b8).symm, hvok⟩ | exact ⟨by rw [if_pos (inR_nI hx0 (by omega)), if_pos b23], hvok⟩ | (refine ⟨?_, VOK_fr he30⟩; rw [if_pos (inR_nI hx0 (by omega)), if_neg b23, tn_nI (by omega), hbits, show i = nl by omega])
        · skip
          refine lv_iload_n hx hb dX5_hide_54 rfl (lv_at hl 3 rfl) ?_
          refine lv_aload_n hx hb dX5_hide_55 rfl (lv_at hl 2 rfl) ?_
          refine lv_iload_n hx hb dX5_hide_56 rfl (lv_at hl 1 rfl) ?_
          refine lv_aload_n hx hb dX5_hide_57 rfl (lv_at hl 0 rfl) ?_
          refine va_get (D := G.1) (ci := 5) (v := .ref kb) (C := RX5) (T := TX5) (N := 10) hx hb hts hin5 hown hK.1 hP 9 rfl rfl 0 (by decide) (hts (.fieldLink RX5 10 "BackLenses" "book" "LBackLenses$Book;") (List.mem_of_getElem? (i := 1) rfl)) (fun _ h9 => h9) rfl dX5_hide_58 ?_
          refine va_getN (D := G.1) (ci := 0) (v := .ref kl) (C := RX0) (T := TX0) (N := 7) hx hb hts hin0 hown hK.1 hP 1 rfl rfl 5 (by decide) (va_Nw.use rfl (hK.2 (Cond.fieldLinkNest "BackLenses" (102 : Nat) "BackLenses$Book" "lenses" "LBackLenses$Rows;" "BackLenses") (List.mem_of_getElem? (i := 20) rfl))) (fun _ h9 => h9) rfl dX5_hide_61 ?_
          refine lv_iload hx hb dX5_hide_64 (lv_at hl 4 rfl) ?_
          refine lv_iconst (v := nI 0) hx hb dX5_hide_66 (by decide) ?_
          refine xr_i (As := [.int (nI i), .int (nI 0)]) (rest := [.int (nI x0), .ref kv, .int bits]) ⟨hx, hb, hml, hown, hts⟩ (c_X2_number l G kl kln 6 nl fl i 0 (by first | assumption | omega) (by first | assumption | omega)) (cwV 2 hts gX5_hide_X2_number rfl rfl rfl (by decide +kernel) ⟨Nat.le_of_ble_eq_true rfl, Nat.le_of_ble_eq_true rfl⟩) hK hP hS [5, 6] rfl rfl rfl rfl hl.1 rfl (Nat.le_of_ble_eq_true rfl) dX5_hide_67 ⟨Nat.zero_le _, Nat.zero_le _⟩ (fun r67 H locs hp67 hP hS => ?_)
          obtain rfl : r67 = fl (3 * i + 0) := hp67
          obtain ⟨d0, hd0, ed0⟩ := inR_nat (hlens i (by omega))
          refine xn_top ed0 ?_
          refine xr_i (As := [.int (nI x0), .int (nI d0)]) (rest := [.int bits]) ⟨hx, hb, hml, hown, hts⟩ (c_X4_sightOf l G kv km kg w h (nI 0) sg2_30 x0 d0 (by first | assumption | omega)) (cwV 2 hts gX5_hide_X4_sightOf rfl rfl rfl (by decide +kernel) ⟨Nat.le_of_ble_eq_true rfl, Nat.le_of_ble_eq_true rfl⟩) hK hP hS [8, 4] rfl rfl rfl rfl hl.1 rfl (Nat.le_of_ble_eq_true rfl) dX5_hide_70 ⟨Nat.zero_le _, Nat.zero_le _⟩ (fun r70 H locs hp70 hP hS => ?_)
          obtain rfl : r70 = sg2_30 (d0 * 16 + x0) := hp70
          refine lv_ior hx hb dX5_hide_73 ?_
          refine lv_istore_n (lv' := [(3, .int (bits ||| (sg2_30 (d0 * 16 + x0)))), (0, .ref kx), (1, .int (nI x0)), (2, .ref kv), (4, .int (nI i))]) hx hb dX5_hide_74 rfl hl (by decide) rfl (fun ls hl => ?_)
          refine lv_iinc (k := 4) (v := nI (i + 1)) (lv' := [(4, .int (nI (i + 1))), (3, .int (bits ||| (sg2_30 (d0 * 16 + x0)))), (0, .ref kx), (1, .int (nI x0)), (2, .ref kv)]) hx hb dX5_hide_75 hl rfl (xn_inc i 1) (by decide) rfl (fun ls hl => ?_)
          refine lv_goto (tgt := 39) hx hb dX5_hide_78 rfl ?_
          have hl := lv_sub hl (l' := [(0, .ref kx), (1, .int (nI x0)), (2, .ref kv), (3, .int (bits ||| (sg2_30 (d0 * 16 + x0)))), (4, .int (nI (i + 1)))]) [2, 3, 4, 1, 0] rfl
          exact ih39 (nl - (i + 1)) (by omega) (i + 1) (bits ||| (sg2_30 (d0 * 16 + x0))) ls H locs rfl (by omega) (by rw [(he30 d0 (by omega)).2 x0 (by omega), orF, ed0, tn_nI (by omega), ← hbits]) hl hP hD hS
      have hl := lv_sub hl (l' := [(0, .ref kx), (1, .int (nI x0)), (2, .ref kv), (3, .int (nI 0)), (4, .int (nI 0))]) [3, 4, 2, 1, 0] rfl
      have hP := hP.sub (ws' := [iA G ka 16 af, oC kb 0 [.int (nI w), .int (nI h), .int (nI la), .ref ka, .ref kc, .ref kl, .ref kn], oC kc 2 [.ref kcn, .int (nI 10), .int (nI nc)], iA G kcn (3 * 10) fc, iA G kg 160 sg2_30, oC kl 2 [.ref kln, .int (nI 6), .int (nI nl)], iA G kln (3 * 6) fl, iA G km 176 mk2_30, oC kv 4 [.ref km, .ref kg, .int (nI w), .int (nI h), .int (nI 0)], oC kx 5 [.ref kb, .ref kim, .ref kit, .ref kv, .ref kre, .int tf, .ref ksh, .int rf, .ref kwa, .ref kta]]) [4, 3, 5, 6, 9, 0, 1, 8, 7, 2] rfl
      have hD := hD.sub (ws' := [iA G ka 16 af, oC kb 0 [.int (nI w), .int (nI h), .int (nI la), .ref ka, .ref kc, .ref kl, .ref kn], oC kc 2 [.ref kcn, .int (nI 10), .int (nI nc)], iA G kcn (3 * 10) fc, iA G kg 160 sg2_30, oC kl 2 [.ref kln, .int (nI 6), .int (nI nl)], iA G kln (3 * 6) fl, iA G km 176 mk2_30, oC kv 4 [.ref km, .ref kg, .int (nI w), .int (nI h), .int (nI 0)], oC kx 5 [.ref kb, .ref kim, .ref kit, .ref kv, .ref kre, .int tf, .ref ksh, .int rf, .ref kwa, .ref kta]]) [4, 3, 5, 6, 9, 0, 1, 8, 7, 2] (by decide) rfl
      exact hL39 (nl - 0) 0 (nI 0) ls H locs rfl (by omega) (by rfl) hl hP hD hS
    · skip
      refine lv_bipush (v := (-2)) hx hb dX5_hide_26 (by decide) ?_
      have hP := hP.sub (ws' := [oC kx 5 [.ref kb, .ref kim, .ref kit, .ref kv, .ref kre, .int tf, .ref ksh, .int rf, .ref kwa, .ref kta], oC kb 0 [.int (nI w), .int (nI h), .int (nI la), .ref ka, .ref kc, .ref kl, .ref kn], iA G ka 16 af, oC kc 2 [.ref kcn, .int (nI 10), .int (nI nc)], iA G kcn (3 * 10) fc, oC kv 4 [.ref km, .ref kg, .int (nI vw), .int (nI vh), .int sl], iA G km 176 mk, iA G kg 160 sg, oC kl 2 [.ref kln, .int (nI 6), .int (nI nl)], iA G kln (3 * 6) fl]) [0, 1, 2, 3, 4, 5, 6, 7, 8, 9] rfl
      have hD := hD.sub (ws' := [oC kx 5 [.ref kb, .ref kim, .ref kit, .ref kv, .ref kre, .int tf, .ref ksh, .int rf, .ref kwa, .ref kta], oC kb 0 [.int (nI w), .int (nI h), .int (nI la), .ref ka, .ref kc, .ref kl, .ref kn], iA G ka 16 af, oC kc 2 [.ref kcn, .int (nI 10), .int (nI nc)], iA G kcn (3 * 10) fc, oC kv 4 [.ref km, .ref kg, .int (nI vw), .int (nI vh), .int sl], iA G km 176 mk, iA G kg 160 sg, oC kl 2 [.ref kln, .int (nI 6), .int (nI nl)], iA G kln (3 * 6) fl]) [0, 1, 2, 3, 4, 5, 6, 7, 8, 9] (by decide) rfl
      refine W.iret (v := (-2)) hx hb hr (fun t ht hW => ⟨⟨(-2), (mk, sg, vw, vh, sl), rfl, ?_, by rw [ht]; exact hP, hD⟩, hS.F ht⟩) hS.2.2 dX5_hide_28
      try dsimp only
      first | exact ⟨(if_neg b8).symm, hvok⟩ | exact ⟨by rw [if_pos (inR_nI hx0 (by omega)), if_pos b23], hvok⟩ | (refine ⟨?_, VOK_fr he30⟩; rw [if_pos (inR_nI hx0 (by omega)), if_neg b23, tn_nI (by omega), hbits, show i = nl by omega])
  · skip
    refine lv_iconst (v := (-1)) hx hb dX5_hide_11 (by decide) ?_
    have hP := hP.sub (ws' := [oC kx 5 [.ref kb, .ref kim, .ref kit, .ref kv, .ref kre, .int tf, .ref ksh, .int rf, .ref kwa, .ref kta], oC kb 0 [.int (nI w), .int (nI h), .int (nI la), .ref ka, .ref kc, .ref kl, .ref kn], iA G ka 16 af, oC kc 2 [.ref kcn, .int (nI 10), .int (nI nc)], iA G kcn (3 * 10) fc, oC kv 4 [.ref km, .ref kg, .int (nI vw), .int (nI vh), .int sl], iA G km 176 mk, iA G kg 160 sg, oC kl 2 [.ref kln, .int (nI 6), .int (nI nl)], iA G kln (3 * 6) fl]) [0, 1, 2, 3, 4, 5, 6, 7, 8, 9] rfl
    have hD := hD.sub (ws' := [oC kx 5 [.ref kb, .ref kim, .ref kit, .ref kv, .ref kre, .int tf, .ref ksh, .int rf, .ref kwa, .ref kta], oC kb 0 [.int (nI w), .int (nI h), .int (nI la), .ref ka, .ref kc, .ref kl, .ref kn], iA G ka 16 af, oC kc 2 [.ref kcn, .int (nI 10), .int (nI nc)], iA G kcn (3 * 10) fc, oC kv 4 [.ref km, .ref kg, .int (nI vw), .int (nI vh), .int sl], iA G km 176 mk, iA G kg 160 sg, oC kl 2 [.ref kln, .int (nI 6), .int (nI nl)], iA G kln (3 * 6) fl]) [0, 1, 2, 3, 4, 5, 6, 7, 8, 9] (by decide) rfl
    refine W.iret (v := (-1)) hx hb hr (fun t ht hW => ⟨⟨(-1), (mk, sg, vw, vh, sl), rfl, ?_, by rw [ht]; exact hP, hD⟩, hS.F ht⟩) hS.2.2 dX5_hide_12
    try dsimp only
    first | exact ⟨(if_neg b8).symm, hvok⟩ | exact ⟨by rw [if_pos (inR_nI hx0 (by omega)), if_pos b23], hvok⟩ | (refine ⟨?_, VOK_fr he30⟩; rw [if_pos (inR_nI hx0 (by omega)), if_neg b23, tn_nI (by omega), hbits, show i = nl by omega])

abbrev Q_J6_bitCount_0f7a4 (G : XG) (i : Int32) : Array Value → State → Outcome → State → Prop := (xRi (fun r => r = bcI i))
set_option maxHeartbeats 4000000 in
set_option maxRecDepth 100000 in
theorem c_J6_bitCount_0f7a4 (l : Launch) (G : XG) (i : Int32)  : Met l yJ6_bitCount_0f7a4 wsJ6_bitCount_0f7a4 ({ frames := 0, cells := 0, slots := 0, locals := 0 } : Room) (va_Pc [.int i] (fun _ => True)) (Q_J6_bitCount_0f7a4 G i) 0 0 (fun _ => False) := by
  refine Met.ofW (cc := cJ6_bitCount_0f7a4) (maxL := 1) (ret := (some .int)) (by decide) rfl ?_
  intro pp ee ss mm aa below mt cd s₁ BB hml hv
  obtain ⟨rfl, -⟩ := hv
  have hx := BB.exec
  have hb := BB.bytes
  have hr := BB.returns
  have hts := atoms_spec (ws := wsJ6_bitCount_0f7a4) BB.pre
  have hown : ss.vm.findClass RJ6 = some mm.cls := findClass_of_methodNamed BB.named
  have hlocks := BB.notSynchronized
  have hS : va_S (fun _ => False) ss.heap ss.heap [] := va_S.rf
  have hP : xP (G) [] ss.heap := fun k q h => by cases h
  have hl := lv_entry ([.int i]) (n := 1) (Nat.le_of_ble_eq_true rfl)
  rw [lg_entry_eq]
  generalize (lg_sl ([.int i]) ++ List.replicate (1 - (lg_sl ([.int i])).length) Slot.unset).toArray = ls at hl ⊢
  replace hl : lv_has ls 1 [(0, .int i)] := hl
  refine lv_iload_n hx hb dJ6_bitCount_0f7a4_0 rfl (lv_at hl 0 rfl) ?_
  refine lv_iload_n hx hb dJ6_bitCount_0f7a4_1 rfl (lv_at hl 0 rfl) ?_
  refine lv_iconst (v := nI 1) hx hb dJ6_bitCount_0f7a4_2 (by decide) ?_
  refine lv_iushr (v := xu i (nI 1)) hx hb dJ6_bitCount_0f7a4_3 rfl ?_
  refine lv_ldcw (v := nI 1431655765) hx hb hown (hts (.constant RJ6 265 (nI 1431655765)) (List.mem_of_getElem? (i := 1) rfl)) dJ6_bitCount_0f7a4_4 ?_
  refine lv_iand hx hb dJ6_bitCount_0f7a4_7 ?_
  refine lv_isub hx hb dJ6_bitCount_0f7a4_8 ?_
  refine lv_istore_n (lv' := [(0, .int (i - ((xu i (nI 1)) &&& (nI 1431655765))))]) hx hb dJ6_bitCount_0f7a4_9 rfl hl (by decide) rfl (fun ls hl => ?_)
  refine lv_iload_n hx hb dJ6_bitCount_0f7a4_10 rfl (lv_at hl 0 rfl) ?_
  refine lv_ldcw (v := nI 858993459) hx hb hown (hts (.constant RJ6 266 (nI 858993459)) (List.mem_of_getElem? (i := 2) rfl)) dJ6_bitCount_0f7a4_11 ?_
  refine lv_iand hx hb dJ6_bitCount_0f7a4_14 ?_
  refine lv_iload_n hx hb dJ6_bitCount_0f7a4_15 rfl (lv_at hl 0 rfl) ?_
  refine lv_iconst (v := nI 2) hx hb dJ6_bitCount_0f7a4_16 (by decide) ?_
  refine lv_iushr (v := xu (i - ((xu i (nI 1)) &&& (nI 1431655765))) (nI 2)) hx hb dJ6_bitCount_0f7a4_17 rfl ?_
  refine lv_ldcw (v := nI 858993459) hx hb hown (hts (.constant RJ6 266 (nI 858993459)) (List.mem_of_getElem? (i := 2) rfl)) dJ6_bitCount_0f7a4_18 ?_
  refine lv_iand hx hb dJ6_bitCount_0f7a4_21 ?_
  refine lv_iadd hx hb dJ6_bitCount_0f7a4_22 ?_
  refine lv_istore_n (lv' := [(0, .int (((i - ((xu i (nI 1)) &&& (nI 1431655765))) &&& (nI 858993459)) + ((xu (i - ((xu i (nI 1)) &&& (nI 1431655765))) (nI 2)) &&& (nI 858993459))))]) hx hb dJ6_bitCount_0f7a4_23 rfl hl (by decide) rfl (fun ls hl => ?_)
  refine lv_iload_n hx hb dJ6_bitCount_0f7a4_24 rfl (lv_at hl 0 rfl) ?_
  refine lv_iload_n hx hb dJ6_bitCount_0f7a4_25 rfl (lv_at hl 0 rfl) ?_
  refine lv_iconst (v := nI 4) hx hb dJ6_bitCount_0f7a4_26 (by decide) ?_
  refine lv_iushr (v := xu (((i - ((xu i (nI 1)) &&& (nI 1431655765))) &&& (nI 858993459)) + ((xu (i - ((xu i (nI 1)) &&& (nI 1431655765))) (nI 2)) &&& (nI 858993459))) (nI 4)) hx hb dJ6_bitCount_0f7a4_27 rfl ?_
  refine lv_iadd hx hb dJ6_bitCount_0f7a4_28 ?_
  refine lv_ldcw (v := nI 252645135) hx hb hown (hts (.constant RJ6 267 (nI 252645135)) (List.mem_of_getElem? (i := 3) rfl)) dJ6_bitCount_0f7a4_29 ?_
  refine lv_iand hx hb dJ6_bitCount_0f7a4_32 ?_
  refine lv_istore_n (lv' := [(0, .int (((((i - ((xu i (nI 1)) &&& (nI 1431655765))) &&& (nI 858993459)) + ((xu (i - ((xu i (nI 1)) &&& (nI 1431655765))) (nI 2)) &&& (nI 858993459))) + (xu (((i - ((xu i (nI 1)) &&& (nI 1431655765))) &&& (nI 858993459)) + ((xu (i - ((xu i (nI 1)) &&& (nI 1431655765))) (nI 2)) &&& (nI 858993459))) (nI 4))) &&& (nI 252645135)))]) hx hb dJ6_bitCount_0f7a4_33 rfl hl (by decide) rfl (fun ls hl => ?_)
  refine lv_iload_n hx hb dJ6_bitCount_0f7a4_34 rfl (lv_at hl 0 rfl) ?_
  refine lv_iload_n hx hb dJ6_bitCount_0f7a4_35 rfl (lv_at hl 0 rfl) ?_
  refine lv_bipush (v := nI 8) hx hb dJ6_bitCount_0f7a4_36 (by decide) ?_
  refine lv_iushr (v := xu (((((i - ((xu i (nI 1)) &&& (nI 1431655765))) &&& (nI 858993459)) + ((xu (i - ((xu i (nI 1)) &&& (nI 1431655765))) (nI 2)) &&& (nI 858993459))) + (xu (((i - ((xu i (nI 1)) &&& (nI 1431655765))) &&& (nI 858993459)) + ((xu (i - ((xu i (nI 1)) &&& (nI 1431655765))) (nI 2)) &&& (nI 858993459))) (nI 4))) &&& (nI 252645135)) (nI 8)) hx hb dJ6_bitCount_0f7a4_38 rfl ?_
  refine lv_iadd hx hb dJ6_bitCount_0f7a4_39 ?_
  refine lv_istore_n (lv' := [(0, .int ((((((i - ((xu i (nI 1)) &&& (nI 1431655765))) &&& (nI 858993459)) + ((xu (i - ((xu i (nI 1)) &&& (nI 1431655765))) (nI 2)) &&& (nI 858993459))) + (xu (((i - ((xu i (nI 1)) &&& (nI 1431655765))) &&& (nI 858993459)) + ((xu (i - ((xu i (nI 1)) &&& (nI 1431655765))) (nI 2)) &&& (nI 858993459))) (nI 4))) &&& (nI 252645135)) + (xu (((((i - ((xu i (nI 1)) &&& (nI 1431655765))) &&& (nI 858993459)) + ((xu (i - ((xu i (nI 1)) &&& (nI 1431655765))) (nI 2)) &&& (nI 858993459))) + (xu (((i - ((xu i (nI 1)) &&& (nI 1431655765))) &&& (nI 858993459)) + ((xu (i - ((xu i (nI 1)) &&& (nI 1431655765))) (nI 2)) &&& (nI 858993459))) (nI 4))) &&& (nI 252645135)) (nI 8))))]) hx hb dJ6_bitCount_0f7a4_40 rfl hl (by decide) rfl (fun ls hl => ?_)
  refine lv_iload_n hx hb dJ6_bitCount_0f7a4_41 rfl (lv_at hl 0 rfl) ?_
  refine lv_iload_n hx hb dJ6_bitCount_0f7a4_42 rfl (lv_at hl 0 rfl) ?_
  refine lv_bipush (v := nI 16) hx hb dJ6_bitCount_0f7a4_43 (by decide) ?_
  refine lv_iushr (v := xu ((((((i - ((xu i (nI 1)) &&& (nI 1431655765))) &&& (nI 858993459)) + ((xu (i - ((xu i (nI 1)) &&& (nI 1431655765))) (nI 2)) &&& (nI 858993459))) + (xu (((i - ((xu i (nI 1)) &&& (nI 1431655765))) &&& (nI 858993459)) + ((xu (i - ((xu i (nI 1)) &&& (nI 1431655765))) (nI 2)) &&& (nI 858993459))) (nI 4))) &&& (nI 252645135)) + (xu (((((i - ((xu i (nI 1)) &&& (nI 1431655765))) &&& (nI 858993459)) + ((xu (i - ((xu i (nI 1)) &&& (nI 1431655765))) (nI 2)) &&& (nI 858993459))) + (xu (((i - ((xu i (nI 1)) &&& (nI 1431655765))) &&& (nI 858993459)) + ((xu (i - ((xu i (nI 1)) &&& (nI 1431655765))) (nI 2)) &&& (nI 858993459))) (nI 4))) &&& (nI 252645135)) (nI 8))) (nI 16)) hx hb dJ6_bitCount_0f7a4_45 rfl ?_
  refine lv_iadd hx hb dJ6_bitCount_0f7a4_46 ?_
  refine lv_istore_n (lv' := [(0, .int (((((((i - ((xu i (nI 1)) &&& (nI 1431655765))) &&& (nI 858993459)) + ((xu (i - ((xu i (nI 1)) &&& (nI 1431655765))) (nI 2)) &&& (nI 858993459))) + (xu (((i - ((xu i (nI 1)) &&& (nI 1431655765))) &&& (nI 858993459)) + ((xu (i - ((xu i (nI 1)) &&& (nI 1431655765))) (nI 2)) &&& (nI 858993459))) (nI 4))) &&& (nI 252645135)) + (xu (((((i - ((xu i (nI 1)) &&& (nI 1431655765))) &&& (nI 858993459)) + ((xu (i - ((xu i (nI 1)) &&& (nI 1431655765))) (nI 2)) &&& (nI 858993459))) + (xu (((i - ((xu i (nI 1)) &&& (nI 1431655765))) &&& (nI 858993459)) + ((xu (i - ((xu i (nI 1)) &&& (nI 1431655765))) (nI 2)) &&& (nI 858993459))) (nI 4))) &&& (nI 252645135)) (nI 8))) + (xu ((((((i - ((xu i (nI 1)) &&& (nI 1431655765))) &&& (nI 858993459)) + ((xu (i - ((xu i (nI 1)) &&& (nI 1431655765))) (nI 2)) &&& (nI 858993459))) + (xu (((i - ((xu i (nI 1)) &&& (nI 1431655765))) &&& (nI 858993459)) + ((xu (i - ((xu i (nI 1)) &&& (nI 1431655765))) (nI 2)) &&& (nI 858993459))) (nI 4))) &&& (nI 252645135)) + (xu (((((i - ((xu i (nI 1)) &&& (nI 1431655765))) &&& (nI 858993459)) + ((xu (i - ((xu i (nI 1)) &&& (nI 1431655765))) (nI 2)) &&& (nI 858993459))) + (xu (((i - ((xu i (nI 1)) &&& (nI 1431655765))) &&& (nI 858993459)) + ((xu (i - ((xu i (nI 1)) &&& (nI 1431655765))) (nI 2)) &&& (nI 858993459))) (nI 4))) &&& (nI 252645135)) (nI 8))) (nI 16))))]) hx hb dJ6_bitCount_0f7a4_47 rfl hl (by decide) rfl (fun ls hl => ?_)
  refine lv_iload_n hx hb dJ6_bitCount_0f7a4_48 rfl (lv_at hl 0 rfl) ?_
  refine lv_bipush (v := nI 63) hx hb dJ6_bitCount_0f7a4_49 (by decide) ?_
  refine lv_iand hx hb dJ6_bitCount_0f7a4_51 ?_
  refine W.iret (v := (((((((i - ((xu i (nI 1)) &&& (nI 1431655765))) &&& (nI 858993459)) + ((xu (i - ((xu i (nI 1)) &&& (nI 1431655765))) (nI 2)) &&& (nI 858993459))) + (xu (((i - ((xu i (nI 1)) &&& (nI 1431655765))) &&& (nI 858993459)) + ((xu (i - ((xu i (nI 1)) &&& (nI 1431655765))) (nI 2)) &&& (nI 858993459))) (nI 4))) &&& (nI 252645135)) + (xu (((((i - ((xu i (nI 1)) &&& (nI 1431655765))) &&& (nI 858993459)) + ((xu (i - ((xu i (nI 1)) &&& (nI 1431655765))) (nI 2)) &&& (nI 858993459))) + (xu (((i - ((xu i (nI 1)) &&& (nI 1431655765))) &&& (nI 858993459)) + ((xu (i - ((xu i (nI 1)) &&& (nI 1431655765))) (nI 2)) &&& (nI 858993459))) (nI 4))) &&& (nI 252645135)) (nI 8))) + (xu ((((((i - ((xu i (nI 1)) &&& (nI 1431655765))) &&& (nI 858993459)) + ((xu (i - ((xu i (nI 1)) &&& (nI 1431655765))) (nI 2)) &&& (nI 858993459))) + (xu (((i - ((xu i (nI 1)) &&& (nI 1431655765))) &&& (nI 858993459)) + ((xu (i - ((xu i (nI 1)) &&& (nI 1431655765))) (nI 2)) &&& (nI 858993459))) (nI 4))) &&& (nI 252645135)) + (xu (((((i - ((xu i (nI 1)) &&& (nI 1431655765))) &&& (nI 858993459)) + ((xu (i - ((xu i (nI 1)) &&& (nI 1431655765))) (nI 2)) &&& (nI 858993459))) + (xu (((i - ((xu i (nI 1)) &&& (nI 1431655765))) &&& (nI 858993459)) + ((xu (i - ((xu i (nI 1)) &&& (nI 1431655765))) (nI 2)) &&& (nI 858993459))) (nI 4))) &&& (nI 252645135)) (nI 8))) (nI 16))) &&& (nI 63)) hx hb hr (fun t ht hW => ⟨⟨(((((((i - ((xu i (nI 1)) &&& (nI 1431655765))) &&& (nI 858993459)) + ((xu (i - ((xu i (nI 1)) &&& (nI 1431655765))) (nI 2)) &&& (nI 858993459))) + (xu (((i - ((xu i (nI 1)) &&& (nI 1431655765))) &&& (nI 858993459)) + ((xu (i - ((xu i (nI 1)) &&& (nI 1431655765))) (nI 2)) &&& (nI 858993459))) (nI 4))) &&& (nI 252645135)) + (xu (((((i - ((xu i (nI 1)) &&& (nI 1431655765))) &&& (nI 858993459)) + ((xu (i - ((xu i (nI 1)) &&& (nI 1431655765))) (nI 2)) &&& (nI 858993459))) + (xu (((i - ((xu i (nI 1)) &&& (nI 1431655765))) &&& (nI 858993459)) + ((xu (i - ((xu i (nI 1)) &&& (nI 1431655765))) (nI 2)) &&& (nI 858993459))) (nI 4))) &&& (nI 252645135)) (nI 8))) + (xu ((((((i - ((xu i (nI 1)) &&& (nI 1431655765))) &&& (nI 858993459)) + ((xu (i - ((xu i (nI 1)) &&& (nI 1431655765))) (nI 2)) &&& (nI 858993459))) + (xu (((i - ((xu i (nI 1)) &&& (nI 1431655765))) &&& (nI 858993459)) + ((xu (i - ((xu i (nI 1)) &&& (nI 1431655765))) (nI 2)) &&& (nI 858993459))) (nI 4))) &&& (nI 252645135)) + (xu (((((i - ((xu i (nI 1)) &&& (nI 1431655765))) &&& (nI 858993459)) + ((xu (i - ((xu i (nI 1)) &&& (nI 1431655765))) (nI 2)) &&& (nI 858993459))) + (xu (((i - ((xu i (nI 1)) &&& (nI 1431655765))) &&& (nI 858993459)) + ((xu (i - ((xu i (nI 1)) &&& (nI 1431655765))) (nI 2)) &&& (nI 858993459))) (nI 4))) &&& (nI 252645135)) (nI 8))) (nI 16))) &&& (nI 63), (), rfl, ?_, trivial⟩, hS.F ht⟩) hS.2.2 dJ6_bitCount_0f7a4_52
  rfl

abbrev Q_X5_nextOfSameSize (G : XG) (i : Int32) : Array Value → State → Outcome → State → Prop := (xRi (fun r => r = nxS i))
set_option maxHeartbeats 4000000 in
set_option maxRecDepth 100000 in
theorem c_X5_nextOfSameSize (l : Launch) (G : XG) (i : Int32)  : Met l yX5_nextOfSameSize wsX5_nextOfSameSize ({ frames := 1, cells := 0, slots := 0, locals := 20 } : Room) (va_Pc [.int i] (fun _ => True)) (Q_X5_nextOfSameSize G i) 0 0 (fun _ => False) := by
  refine Met.ofW (cc := cX5_nextOfSameSize) (maxL := 4) (ret := (some .int)) (by decide) rfl ?_
  intro pp ee ss mm aa below mt cd s₁ BB hml hv
  obtain ⟨rfl, -⟩ := hv
  have hx := BB.exec
  have hb := BB.bytes
  have hr := BB.returns
  have hts := atoms_spec (ws := wsX5_nextOfSameSize) BB.pre
  have hown : ss.vm.findClass RX5 = some mm.cls := findClass_of_methodNamed BB.named
  have hlocks := BB.notSynchronized
  have hS : va_S (fun _ => False) ss.heap ss.heap [] := va_S.rf
  have hP : xP (G) [] ss.heap := fun k q h => by cases h
  have hl := lv_entry ([.int i]) (n := 4) (Nat.le_of_ble_eq_true rfl)
  rw [lg_entry_eq]
  generalize (lg_sl ([.int i]) ++ List.replicate (4 - (lg_sl ([.int i])).length) Slot.unset).toArray = ls at hl ⊢
  replace hl : lv_has ls 4 [(0, .int i)] := hl
  refine lv_iload_n hx hb dX5_nextOfSameSize_0 rfl (lv_at hl 0 rfl) ?_
  refine lv_iload_n hx hb dX5_nextOfSameSize_1 rfl (lv_at hl 0 rfl) ?_
  refine lv_ineg hx hb dX5_nextOfSameSize_2 ?_
  refine lv_iand hx hb dX5_nextOfSameSize_3 ?_
  refine lv_istore_n (lv' := [(1, .int (i &&& (-i))), (0, .int i)]) hx hb dX5_nextOfSameSize_4 rfl hl (by decide) rfl (fun ls hl => ?_)
  refine lv_iload_n hx hb dX5_nextOfSameSize_5 rfl (lv_at hl 1 rfl) ?_
  refine lv_iload_n hx hb dX5_nextOfSameSize_6 rfl (lv_at hl 0 rfl) ?_
  refine lv_iadd hx hb dX5_nextOfSameSize_7 ?_
  refine lv_istore_n (lv' := [(2, .int (i + (i &&& (-i)))), (1, .int (i &&& (-i))), (0, .int i)]) hx hb dX5_nextOfSameSize_8 rfl hl (by decide) rfl (fun ls hl => ?_)
  refine lv_iload_n hx hb dX5_nextOfSameSize_9 rfl (lv_at hl 1 rfl) ?_
  refine lv_iconst (v := nI 1) hx hb dX5_nextOfSameSize_10 (by decide) ?_
  refine lv_isub hx hb dX5_nextOfSameSize_11 ?_
  refine xs_i (As := [.int ((i &&& (-i)) - (nI 1))]) (rest := []) ⟨hx, hb, hml, hown, hts⟩ (c_J6_bitCount_0f7a4 l G ((i &&& (-i)) - (nI 1)) ) (va_cwS 1 hts gX5_nextOfSameSize_J6_bitCount_0f7a4 rfl rfl rfl (by decide +kernel) ⟨Nat.le_of_ble_eq_true rfl, Nat.le_of_ble_eq_true rfl⟩) hP hS rfl hl.1 rfl (Nat.le_of_ble_eq_true rfl) dX5_nextOfSameSize_12 ⟨Nat.zero_le _, Nat.zero_le _⟩ (fun r12 H locs hp12 hP hS => ?_)
  obtain rfl : r12 = bcI ((i &&& (-i)) - (nI 1)) := hp12
  refine lv_istore_n (lv' := [(3, .int (bcI ((i &&& (-i)) - (nI 1)))), (2, .int (i + (i &&& (-i)))), (1, .int (i &&& (-i))), (0, .int i)]) hx hb dX5_nextOfSameSize_15 rfl hl (by decide) rfl (fun ls hl => ?_)
  refine lv_iload_n hx hb dX5_nextOfSameSize_16 rfl (lv_at hl 1 rfl) ?_
  refine lv_iload_n hx hb dX5_nextOfSameSize_17 rfl (lv_at hl 3 rfl) ?_
  refine lv_iload_n hx hb dX5_nextOfSameSize_18 rfl (lv_at hl 1 rfl) ?_
  refine lv_ixor hx hb dX5_nextOfSameSize_19 ?_
  refine lv_iconst (v := nI 2) hx hb dX5_nextOfSameSize_20 (by decide) ?_
  refine lv_iushr (v := xu (i ^^^ (i + (i &&& (-i)))) (nI 2)) hx hb dX5_nextOfSameSize_21 rfl ?_
  refine lv_iload_n hx hb dX5_nextOfSameSize_22 rfl (lv_at hl 0 rfl) ?_
  refine lv_iushr (v := xu (xu (i ^^^ (i + (i &&& (-i)))) (nI 2)) (bcI ((i &&& (-i)) - (nI 1)))) hx hb dX5_nextOfSameSize_23 rfl ?_
  refine lv_ior hx hb dX5_nextOfSameSize_24 ?_
  refine W.iret (v := (i + (i &&& (-i))) ||| (xu (xu (i ^^^ (i + (i &&& (-i)))) (nI 2)) (bcI ((i &&& (-i)) - (nI 1))))) hx hb hr (fun t ht hW => ⟨⟨(i + (i &&& (-i))) ||| (xu (xu (i ^^^ (i + (i &&& (-i)))) (nI 2)) (bcI ((i &&& (-i)) - (nI 1)))), (), rfl, ?_, trivial⟩, hS.F ht⟩) hS.2.2 dX5_nextOfSameSize_25
  rfl

abbrev Q_X5_nextSeed (G : XG) (i : Int32) : Array Value → State → Outcome → State → Prop := (xRi (fun r => r = i * nI 1103515245 + nI 12345))
set_option maxHeartbeats 4000000 in
set_option maxRecDepth 100000 in
theorem c_X5_nextSeed (l : Launch) (G : XG) (i : Int32)  : Met l yX5_nextSeed wsX5_nextSeed ({ frames := 0, cells := 0, slots := 0, locals := 0 } : Room) (va_Pc [.int i] (fun _ => True)) (Q_X5_nextSeed G i) 0 0 (fun _ => False) := by
  refine Met.ofW (cc := cX5_nextSeed) (maxL := 1) (ret := (some .int)) (by decide) rfl ?_
  intro pp ee ss mm aa below mt cd s₁ BB hml hv
  obtain ⟨rfl, -⟩ := hv
  have hx := BB.exec
  have hb := BB.bytes
  have hr := BB.returns
  have hts := atoms_spec (ws := wsX5_nextSeed) BB.pre
  have hown : ss.vm.findClass RX5 = some mm.cls := findClass_of_methodNamed BB.named
  have hlocks := BB.notSynchronized
  have hS : va_S (fun _ => False) ss.heap ss.heap [] := va_S.rf
  have hP : xP (G) [] ss.heap := fun k q h => by cases h
  have hl := lv_entry ([.int i]) (n := 1) (Nat.le_of_ble_eq_true rfl)
  rw [lg_entry_eq]
  generalize (lg_sl ([.int i]) ++ List.replicate (1 - (lg_sl ([.int i])).length) Slot.unset).toArray = ls at hl ⊢
  replace hl : lv_has ls 1 [(0, .int i)] := hl
  refine lv_iload_n hx hb dX5_nextSeed_0 rfl (lv_at hl 0 rfl) ?_
  refine lv_ldcw (v := nI 1103515245) hx hb hown (hts (.constant RX5 277 (nI 1103515245)) (List.mem_of_getElem? (i := 1) rfl)) dX5_nextSeed_1 ?_
  refine lv_imul hx hb dX5_nextSeed_4 ?_
  refine lv_sipush (v := nI 12345) hx hb dX5_nextSeed_5 (by decide) ?_
  refine lv_iadd hx hb dX5_nextSeed_8 ?_
  refine W.iret (v := (i * (nI 1103515245)) + (nI 12345)) hx hb hr (fun t ht hW => ⟨⟨(i * (nI 1103515245)) + (nI 12345), (), rfl, ?_, trivial⟩, hS.F ht⟩) hS.2.2 dX5_nextSeed_9
  rfl

abbrev w_X5_meetsWants (G : XG) (kx kb kim kit kv kre ksh kwa kta : Nat) (tf rf : Int32) (wf : Nat → Int32) : va_W := [oC kx 5 [.ref kb, .ref kim, .ref kit, .ref kv, .ref kre, .int tf, .ref ksh, .int rf, .ref kwa, .ref kta], iA G kwa 45 wf]
abbrev Q_X5_meetsWants (G : XG) (kx kb kim kit kv kre ksh kwa kta : Nat) (tf rf : Int32) (wf : Nat → Int32) (set : Int32) (n : Nat) : Array Value → State → Outcome → State → Prop := (xRi (fun r => r = xb (allF (fun i => !decide (wf i &&& set = 0)) n = true)))
set_option maxHeartbeats 4000000 in
set_option maxRecDepth 100000 in
theorem c_X5_meetsWants (l : Launch) (G : XG) (kx kb kim kit kv kre ksh kwa kta : Nat) (tf rf : Int32) (wf : Nat → Int32) (set : Int32) (n : Nat) (hn : n ≤ 45) : Met l yX5_meetsWants wsX5_meetsWants ({ frames := 0, cells := 0, slots := 0, locals := 0 } : Room) (va_Pc [.ref kx, .int set, .int (nI n)] (xRp G (w_X5_meetsWants G kx kb kim kit kv kre ksh kwa kta tf rf wf))) (Q_X5_meetsWants G kx kb kim kit kv kre ksh kwa kta tf rf wf set n) 0 0 (fun _ => False) := by
  refine Met.ofW (cc := cX5_meetsWants) (maxL := 4) (ret := (some .boolean)) (by decide) rfl ?_
  intro pp ee ss mm aa below mt cd s₁ BB hml hv
  obtain ⟨rfl, hP, hK⟩ := hv
  have hx := BB.exec
  have hb := BB.bytes
  have hr := BB.returns
  have hts := atoms_spec (ws := wsX5_meetsWants) BB.pre
  have hown : ss.vm.findClass RX5 = some mm.cls := findClass_of_methodNamed BB.named
  have hlocks := BB.notSynchronized
  have hS : va_S (fun _ => False) ss.heap ss.heap [] := va_S.rf
  replace hP : xP G [oC kx 5 [.ref kb, .ref kim, .ref kit, .ref kv, .ref kre, .int tf, .ref ksh, .int rf, .ref kwa, .ref kta], iA G kwa 45 wf] ss.heap := hP
  have hin5 : ∀ w ∈ u_ws RX5 TX5 10, w ∈ wsX5_meetsWants := fun w h => List.mem_cons_of_mem _ (List.mem_append_right _ h)
  have hl := lv_entry ([.ref kx, .int set, .int (nI n)]) (n := 4) (Nat.le_of_ble_eq_true rfl)
  rw [lg_entry_eq]
  generalize (lg_sl ([.ref kx, .int set, .int (nI n)]) ++ List.replicate (4 - (lg_sl ([.ref kx, .int set, .int (nI n)])).length) Slot.unset).toArray = ls at hl ⊢
  replace hl : lv_has ls 4 [(0, .ref kx), (1, .int set), (2, .int (nI n))] := hl
  refine lv_iconst (v := nI 0) hx hb dX5_meetsWants_0 (by decide) ?_
  refine lv_istore_n (lv' := [(3, .int (nI 0)), (0, .ref kx), (1, .int set), (2, .int (nI n))]) hx hb dX5_meetsWants_1 rfl hl (by decide) rfl (fun ls hl => ?_)
  have hL2 : ∀ k : Nat, ∀ (i : Nat) (ls : Array Slot) (H : Heap) (locs : List Loc), n - i = k → (i ≤ n) → (allF (fun i => !decide (wf i &&& set = 0)) i = true) → lv_has ls 4 [(0, .ref kx), (1, .int set), (2, .int (nI n)), (3, .int (nI i))] → xP G [iA G kwa 45 wf, oC kx 5 [.ref kb, .ref kim, .ref kit, .ref kv, .ref kre, .int tf, .ref ksh, .int rf, .ref kwa, .ref kta]] H → va_S (fun _ => False) ss.heap H locs → W pp l ee ({ frames := 0, cells := 0, slots := 0, locals := 0 } : Room) ss mm ([.ref kx, .int set, .int (nI n)] : List Value).toArray below mt cd H locs 0 0 (MQ below (Q_X5_meetsWants G kx kb kim kit kv kre ksh kwa kta tf rf wf set n) ([.ref kx, .int set, .int (nI n)] : List Value).toArray ss 0 0 (fun _ => False)) (F0 mm 2 ls []) := by
    intro k
    induction k using Nat.strongRecOn with
    | _ k ih2 =>
    intro i ls H locs hm2 hi hall hl hP hS
    refine lv_iload_n hx hb dX5_meetsWants_2 rfl (lv_at hl 3 rfl) ?_
    refine lv_iload_n hx hb dX5_meetsWants_3 rfl (lv_at hl 2 rfl) ?_
    refine xn_icmp_ge (tgt := 26) hx hb (by omega) (by omega) dX5_meetsWants_4 rfl (fun b4 => ?_) (fun b4 => ?_)
    · skip
      refine lv_iconst (v := nI 1) hx hb dX5_meetsWants_26 (by decide) ?_
      refine W.zret (v := nI 1) (ty := .boolean) hx hb hr (by decide) (fun t ht hW => ⟨⟨nI 1, (), rfl, ?_, trivial⟩, hS.F ht⟩) hS.2.2 dX5_meetsWants_27
      first | exact (xb_t (by rw [show n = i by omega]; exact hall)).symm | exact (xb_f (fun q => by rw [allF_false (i := i + 1) (by omega) (by rw [allF, decide_eq_true b15, Bool.not_true, Bool.and_false])] at q; cases q)).symm
    · skip
      refine lv_aload_n hx hb dX5_meetsWants_7 rfl (lv_at hl 0 rfl) ?_
      refine va_get (D := G.1) (ci := 5) (v := .ref kwa) (C := RX5) (T := TX5) (N := 10) hx hb hts hin5 hown hK.1 hP 1 rfl rfl 8 (by decide) (hts (.fieldLink RX5 45 "BackLenses" "wants" "[I") (List.mem_of_getElem? (i := 1) rfl)) (fun _ h9 => h9) rfl dX5_meetsWants_8 ?_
      refine lv_iload_n hx hb dX5_meetsWants_11 rfl (lv_at hl 3 rfl) ?_
      refine xn_iald hx hb hK hP 0 rfl (by omega) (by omega) dX5_meetsWants_12 ?_
      refine lv_iload_n hx hb dX5_meetsWants_13 rfl (lv_at hl 1 rfl) ?_
      refine lv_iand hx hb dX5_meetsWants_14 ?_
      refine lv_if_ne (tgt := 20) hx hb dX5_meetsWants_15 rfl (fun b15 => ?_) (fun b15 => ?_)
      · skip
        refine lv_iinc (k := 3) (v := nI (i + 1)) (lv' := [(3, .int (nI (i + 1))), (0, .ref kx), (1, .int set), (2, .int (nI n))]) hx hb dX5_meetsWants_20 hl rfl (xn_inc i 1) (by decide) rfl (fun ls hl => ?_)
        refine lv_goto (tgt := 2) hx hb dX5_meetsWants_23 rfl ?_
        have hl := lv_sub hl (l' := [(0, .ref kx), (1, .int set), (2, .int (nI n)), (3, .int (nI (i + 1)))]) [1, 2, 3, 0] rfl
        exact ih2 (n - (i + 1)) (by omega) (i + 1) ls H locs rfl (by omega) (by rw [allF, hall, decide_eq_false b15]; rfl) hl hP hS
      · skip
        refine lv_iconst (v := nI 0) hx hb dX5_meetsWants_18 (by decide) ?_
        refine W.zret (v := nI 0) (ty := .boolean) hx hb hr (by decide) (fun t ht hW => ⟨⟨nI 0, (), rfl, ?_, trivial⟩, hS.F ht⟩) hS.2.2 dX5_meetsWants_19
        first | exact (xb_t (by rw [show n = i by omega]; exact hall)).symm | exact (xb_f (fun q => by rw [allF_false (i := i + 1) (by omega) (by rw [allF, decide_eq_true b15, Bool.not_true, Bool.and_false])] at q; cases q)).symm
  have hl := lv_sub hl (l' := [(0, .ref kx), (1, .int set), (2, .int (nI n)), (3, .int (nI 0))]) [1, 2, 3, 0] rfl
  have hP := hP.sub (ws' := [iA G kwa 45 wf, oC kx 5 [.ref kb, .ref kim, .ref kit, .ref kv, .ref kre, .int tf, .ref ksh, .int rf, .ref kwa, .ref kta]]) [1, 0] rfl
  exact hL2 (n - 0) 0 ls ss.heap [] rfl (by omega) (by rfl) hl hP hS

abbrev w_X5_leastSet (G : XG) (kx kb kim kit kv kre ksh kwa kta : Nat) (tf rf : Int32) (wf : Nat → Int32) : va_W := [oC kx 5 [.ref kb, .ref kim, .ref kit, .ref kv, .ref kre, .int tf, .ref ksh, .int rf, .ref kwa, .ref kta], iA G kwa 45 wf]
abbrev Q_X5_leastSet (G : XG) (kx kb kim kit kv kre ksh kwa kta : Nat) (tf rf : Int32) (wf : Nat → Int32) (n cc : Nat) : Array Value → State → Outcome → State → Prop := (xRi (fun r => r = lsS (fun s => allF (fun i => !decide (wf i &&& s = 0)) n) cc))
set_option maxHeartbeats 4000000 in
set_option maxRecDepth 100000 in
theorem c_X5_leastSet (l : Launch) (G : XG) (kx kb kim kit kv kre ksh kwa kta : Nat) (tf rf : Int32) (wf : Nat → Int32) (n cc : Nat) (hn : n ≤ 45) (hc : cc ≤ 16) : Met l yX5_leastSet wsX5_leastSet ({ frames := 2, cells := 0, slots := 0, locals := 43 } : Room) (va_Pc [.ref kx, .int (nI n), .int (nI cc)] (xRp G (w_X5_leastSet G kx kb kim kit kv kre ksh kwa kta tf rf wf))) (Q_X5_leastSet G kx kb kim kit kv kre ksh kwa kta tf rf wf n cc) 0 0 (fun _ => False) := by
  refine Met.ofW (cc := cX5_leastSet) (maxL := 7) (ret := (some .int)) (by decide) rfl ?_
  intro pp ee ss mm aa below mt cd s₁ BB hml hv
  obtain ⟨rfl, hP, hK⟩ := hv
  have hx := BB.exec
  have hb := BB.bytes
  have hr := BB.returns
  have hts := atoms_spec (ws := wsX5_leastSet) BB.pre
  have hown : ss.vm.findClass RX5 = some mm.cls := findClass_of_methodNamed BB.named
  have hlocks := BB.notSynchronized
  have hS : va_S (fun _ => False) ss.heap ss.heap [] := va_S.rf
  replace hP : xP G [oC kx 5 [.ref kb, .ref kim, .ref kit, .ref kv, .ref kre, .int tf, .ref ksh, .int rf, .ref kwa, .ref kta], iA G kwa 45 wf] ss.heap := hP
  have hin5 : ∀ w ∈ u_ws RX5 TX5 10, w ∈ wsX5_leastSet := fun w h => List.mem_cons_of_mem _ (List.mem_append_right _ h)
  have hl := lv_entry ([.ref kx, .int (nI n), .int (nI cc)]) (n := 7) (Nat.le_of_ble_eq_true rfl)
  rw [lg_entry_eq]
  generalize (lg_sl ([.ref kx, .int (nI n), .int (nI cc)]) ++ List.replicate (7 - (lg_sl ([.ref kx, .int (nI n), .int (nI cc)])).length) Slot.unset).toArray = ls at hl ⊢
  replace hl : lv_has ls 7 [(0, .ref kx), (1, .int (nI n)), (2, .int (nI cc))] := hl
  refine lv_iload_n hx hb dX5_leastSet_0 rfl (lv_at hl 1 rfl) ?_
  refine xn_if_ne (tgt := 6) hx hb (by omega) dX5_leastSet_1 rfl (fun b1 => ?_) (fun b1 => ?_)
  · skip
    refine lv_iconst (v := nI 1) hx hb dX5_leastSet_6 (by decide) ?_
    refine lv_iload_n hx hb dX5_leastSet_7 rfl (lv_at hl 2 rfl) ?_
    refine lv_ishl hx hb dX5_leastSet_8 ?_
    obtain ⟨hp1, hp2, hp3⟩ := xs_pow hc
    refine xn_top hp1 ?_
    have hl0 : lsS (fun s => allF (fun i => !decide (wf i &&& s = 0)) n) cc = lsOut (fun s => allF (fun i => !decide (wf i &&& s = 0)) n) (2 ^ cc) cc 1 := (by unfold lsS; rw [if_neg]; intro q; have q2 : allF (fun i => !decide (wf i &&& 0 = 0)) n = true := q; rw [allF_false (i := 1) (by omega) (by simp [allF])] at q2; cases q2)
    refine lv_istore_n (lv' := [(3, .int (nI (2 ^ cc))), (0, .ref kx), (1, .int (nI n)), (2, .int (nI cc))]) hx hb dX5_leastSet_9 rfl hl (by decide) rfl (fun ls hl => ?_)
    refine lv_iconst (v := nI 1) hx hb dX5_leastSet_10 (by decide) ?_
    refine lv_istore (lv' := [(4, .int (nI 1)), (3, .int (nI (2 ^ cc))), (0, .ref kx), (1, .int (nI n)), (2, .int (nI cc))]) hx hb dX5_leastSet_11 hl (by decide) rfl (fun ls hl => ?_)
    have hL13 : ∀ k : Nat, ∀ (size : Nat) (ls : Array Slot) (H : Heap) (locs : List Loc), cc + 1 - size = k → (1 ≤ size) → (size ≤ cc + 1) → (lsS (fun s => allF (fun i => !decide (wf i &&& s = 0)) n) cc = lsOut (fun s => allF (fun i => !decide (wf i &&& s = 0)) n) (2 ^ cc) (cc + 1 - size) size) → lv_has ls 7 [(0, .ref kx), (1, .int (nI n)), (2, .int (nI cc)), (3, .int (nI (2 ^ cc))), (4, .int (nI size))] → xP G [iA G kwa 45 wf, oC kx 5 [.ref kb, .ref kim, .ref kit, .ref kv, .ref kre, .int tf, .ref ksh, .int rf, .ref kwa, .ref kta]] H → va_S (fun _ => False) ss.heap H locs → W pp l ee ({ frames := 2, cells := 0, slots := 0, locals := 43 } : Room) ss mm ([.ref kx, .int (nI n), .int (nI cc)] : List Value).toArray below mt cd H locs 0 0 (MQ below (Q_X5_leastSet G kx kb kim kit kv kre ksh kwa kta tf rf wf n cc) ([.ref kx, .int (nI n), .int (nI cc)] : List Value).toArray ss 0 0 (fun _ => False)) (F0 mm 13 ls []) := by
      intro k
      induction k using Nat.strongRecOn with
      | _ k ih13 =>
      intro size ls H locs hm13 h1s hsz hls hl hP hS
      refine lv_iload hx hb dX5_leastSet_13 (lv_at hl 4 rfl) ?_
      refine lv_iload_n hx hb dX5_leastSet_15 rfl (lv_at hl 2 rfl) ?_
      refine xn_icmp_gt (tgt := 74) hx hb (by omega) (by omega) dX5_leastSet_16 rfl (fun b16 => ?_) (fun b16 => ?_)
      · skip
        refine lv_iload_n hx hb dX5_leastSet_74 rfl (lv_at hl 3 rfl) ?_
        refine lv_iconst (v := nI 1) hx hb dX5_leastSet_75 (by decide) ?_
        refine xn_isub hx hb (by omega) dX5_leastSet_76 ?_
        refine W.iret (v := nI ((2 ^ cc) - 1)) hx hb hr (fun t ht hW => ⟨⟨nI ((2 ^ cc) - 1), (), rfl, ?_, trivial⟩, hS.F ht⟩) hS.2.2 dX5_leastSet_77
        first | (rw [hls, show cc + 1 - size = 0 by omega, lsOut]) | (rw [hls, show cc + 1 - size = (cc + 1 - (size + 1)) + 1 by omega, lsOut, hin, show 2 ^ cc - tt = (2 ^ cc - (tt + 1)) + 1 by omega, lsIn, if_pos (by omega), if_pos b49]) | (unfold lsS; rw [if_pos (by rw [b1]; rfl)])
      · skip
        refine lv_iconst (v := nI 1) hx hb dX5_leastSet_19 (by decide) ?_
        refine lv_iload hx hb dX5_leastSet_20 (lv_at hl 4 rfl) ?_
        refine lv_ishl hx hb dX5_leastSet_22 ?_
        obtain ⟨hq1, hq2, hq3⟩ := xs_pow (c := size) (by omega)
        refine xn_top hq1 ?_
        refine lv_iconst (v := nI 1) hx hb dX5_leastSet_23 (by decide) ?_
        refine xn_isub hx hb (by omega) dX5_leastSet_24 ?_
        refine lv_istore (lv' := [(5, .int (nI ((2 ^ size) - 1))), (0, .ref kx), (1, .int (nI n)), (2, .int (nI cc)), (3, .int (nI (2 ^ cc))), (4, .int (nI size))]) hx hb dX5_leastSet_25 hl (by decide) rfl (fun ls hl => ?_)
        refine lv_iconst (v := nI 0) hx hb dX5_leastSet_27 (by decide) ?_
        refine lv_istore (lv' := [(6, .int (nI 0)), (5, .int (nI ((2 ^ size) - 1))), (0, .ref kx), (1, .int (nI n)), (2, .int (nI cc)), (3, .int (nI (2 ^ cc))), (4, .int (nI size))]) hx hb dX5_leastSet_28 hl (by decide) rfl (fun ls hl => ?_)
        have hL30 : ∀ k : Nat, ∀ (tt : Nat) (set : Int32) (ls : Array Slot) (H : Heap) (locs : List Loc), 2 ^ cc - tt = k → (tt ≤ 2 ^ cc) → (lsIn (fun s => allF (fun i => !decide (wf i &&& s = 0)) n) (2 ^ cc) (2 ^ cc) (nI (2 ^ size - 1)) = lsIn (fun s => allF (fun i => !decide (wf i &&& s = 0)) n) (2 ^ cc) (2 ^ cc - tt) set) → lv_has ls 7 [(0, .ref kx), (1, .int (nI n)), (2, .int (nI cc)), (3, .int (nI (2 ^ cc))), (4, .int (nI size)), (5, .int set), (6, .int (nI tt))] → xP G [iA G kwa 45 wf, oC kx 5 [.ref kb, .ref kim, .ref kit, .ref kv, .ref kre, .int tf, .ref ksh, .int rf, .ref kwa, .ref kta]] H → va_S (fun _ => False) ss.heap H locs → W pp l ee ({ frames := 2, cells := 0, slots := 0, locals := 43 } : Room) ss mm ([.ref kx, .int (nI n), .int (nI cc)] : List Value).toArray below mt cd H locs 0 0 (MQ below (Q_X5_leastSet G kx kb kim kit kv kre ksh kwa kta tf rf wf n cc) ([.ref kx, .int (nI n), .int (nI cc)] : List Value).toArray ss 0 0 (fun _ => False)) (F0 mm 30 ls []) := by
          intro k
          induction k using Nat.strongRecOn with
          | _ k ih30 =>
          intro tt set ls H locs hm30 htt hin hl hP hS
          refine lv_iload hx hb dX5_leastSet_30 (lv_at hl 6 rfl) ?_
          refine lv_iload_n hx hb dX5_leastSet_32 rfl (lv_at hl 3 rfl) ?_
          refine xn_icmp_ge (tgt := 68) hx hb (by omega) (by omega) dX5_leastSet_33 rfl (fun b33 => ?_) (fun b33 => ?_)
          · skip
            refine lv_iinc (k := 4) (v := nI (size + 1)) (lv' := [(4, .int (nI (size + 1))), (0, .ref kx), (1, .int (nI n)), (2, .int (nI cc)), (3, .int (nI (2 ^ cc))), (5, .int set), (6, .int (nI tt))]) hx hb dX5_leastSet_68 hl rfl (xn_inc size 1) (by decide) rfl (fun ls hl => ?_)
            refine lv_goto (tgt := 13) hx hb dX5_leastSet_71 rfl ?_
            have hl := lv_sub hl (l' := [(0, .ref kx), (1, .int (nI n)), (2, .int (nI cc)), (3, .int (nI (2 ^ cc))), (4, .int (nI (size + 1)))]) [1, 2, 3, 4, 0] rfl
            exact ih13 (cc + 1 - (size + 1)) (by omega) (size + 1) ls H locs rfl (by omega) (by omega) (by rw [hls, show cc + 1 - size = (cc + 1 - (size + 1)) + 1 by omega, lsOut, hin, show lsIn (fun s => allF (fun i => !decide (wf i &&& s = 0)) n) (2 ^ cc) (2 ^ cc - tt) set = none from (by by_cases hz : 2 ^ cc ≤ tt; (rw [show 2 ^ cc - tt = 0 by omega]; rfl); (rw [show 2 ^ cc - tt = (2 ^ cc - (tt + 1)) + 1 by omega, lsIn]; exact if_neg (by omega)))]) hl hP hS
          · skip
            refine lv_iload hx hb dX5_leastSet_36 (lv_at hl 5 rfl) ?_
            refine lv_iload_n hx hb dX5_leastSet_38 rfl (lv_at hl 3 rfl) ?_
            refine xm_icmp_ge (tgt := 68) hx hb (by omega) dX5_leastSet_39 rfl (fun b39 => ?_) (fun b39 => ?_)
            · skip
              refine lv_iinc (k := 4) (v := nI (size + 1)) (lv' := [(4, .int (nI (size + 1))), (0, .ref kx), (1, .int (nI n)), (2, .int (nI cc)), (3, .int (nI (2 ^ cc))), (5, .int set), (6, .int (nI tt))]) hx hb dX5_leastSet_68 hl rfl (xn_inc size 1) (by decide) rfl (fun ls hl => ?_)
              refine lv_goto (tgt := 13) hx hb dX5_leastSet_71 rfl ?_
              have hl := lv_sub hl (l' := [(0, .ref kx), (1, .int (nI n)), (2, .int (nI cc)), (3, .int (nI (2 ^ cc))), (4, .int (nI (size + 1)))]) [1, 2, 3, 4, 0] rfl
              exact ih13 (cc + 1 - (size + 1)) (by omega) (size + 1) ls H locs rfl (by omega) (by omega) (by rw [hls, show cc + 1 - size = (cc + 1 - (size + 1)) + 1 by omega, lsOut, hin, show lsIn (fun s => allF (fun i => !decide (wf i &&& s = 0)) n) (2 ^ cc) (2 ^ cc - tt) set = none from (by by_cases hz : 2 ^ cc ≤ tt; (rw [show 2 ^ cc - tt = 0 by omega]; rfl); (rw [show 2 ^ cc - tt = (2 ^ cc - (tt + 1)) + 1 by omega, lsIn]; exact if_neg (by omega)))]) hl hP hS
            · skip
              refine lv_aload_n hx hb dX5_leastSet_42 rfl (lv_at hl 0 rfl) ?_
              refine lv_iload hx hb dX5_leastSet_43 (lv_at hl 5 rfl) ?_
              refine lv_iload_n hx hb dX5_leastSet_45 rfl (lv_at hl 1 rfl) ?_
              refine xr_i (As := [.int set, .int (nI n)]) (rest := []) ⟨hx, hb, hml, hown, hts⟩ (c_X5_meetsWants l G kx kb kim kit kv kre ksh kwa kta tf rf wf set n (by first | assumption | omega)) (cwV 2 hts gX5_leastSet_X5_meetsWants rfl rfl rfl (by decide +kernel) ⟨Nat.le_of_ble_eq_true rfl, Nat.le_of_ble_eq_true rfl⟩) hK hP hS [1, 0] rfl rfl rfl rfl hl.1 rfl (Nat.le_of_ble_eq_true rfl) dX5_leastSet_46 ⟨Nat.zero_le _, Nat.zero_le _⟩ (fun r46 H locs hp46 hP hS => ?_)
              obtain rfl : r46 = xb (allF (fun i => !decide (wf i &&& set = 0)) n = true) := hp46
              refine xb_if_eq (tgt := 55) hx hb dX5_leastSet_49 rfl (fun b49 => ?_) (fun b49 => ?_)
              · skip
                refine lv_iload hx hb dX5_leastSet_55 (lv_at hl 5 rfl) ?_
                refine xs_i (As := [.int set]) (rest := []) ⟨hx, hb, hml, hown, hts⟩ (c_X5_nextOfSameSize l G set ) (va_cwS 1 hts gX5_leastSet_X5_nextOfSameSize rfl rfl rfl (by decide +kernel) ⟨Nat.le_of_ble_eq_true rfl, Nat.le_of_ble_eq_true rfl⟩) hP hS rfl hl.1 rfl (Nat.le_of_ble_eq_true rfl) dX5_leastSet_57 ⟨Nat.zero_le _, Nat.zero_le _⟩ (fun r57 H locs hp57 hP hS => ?_)
                obtain rfl : r57 = nxS set := hp57
                refine lv_istore (lv' := [(5, .int (nxS set)), (0, .ref kx), (1, .int (nI n)), (2, .int (nI cc)), (3, .int (nI (2 ^ cc))), (4, .int (nI size)), (6, .int (nI tt))]) hx hb dX5_leastSet_60 hl (by decide) rfl (fun ls hl => ?_)
                refine lv_iinc (k := 6) (v := nI (tt + 1)) (lv' := [(6, .int (nI (tt + 1))), (5, .int (nxS set)), (0, .ref kx), (1, .int (nI n)), (2, .int (nI cc)), (3, .int (nI (2 ^ cc))), (4, .int (nI size))]) hx hb dX5_leastSet_62 hl rfl (xn_inc tt 1) (by decide) rfl (fun ls hl => ?_)
                refine lv_goto (tgt := 30) hx hb dX5_leastSet_65 rfl ?_
                have hl := lv_sub hl (l' := [(0, .ref kx), (1, .int (nI n)), (2, .int (nI cc)), (3, .int (nI (2 ^ cc))), (4, .int (nI size)), (5, .int (nxS set)), (6, .int (nI (tt + 1)))]) [2, 3, 4, 5, 6, 1, 0] rfl
                exact ih30 (2 ^ cc - (tt + 1)) (by omega) (tt + 1) (nxS set) ls H locs rfl (by omega) (by rw [hin, show 2 ^ cc - tt = (2 ^ cc - (tt + 1)) + 1 by omega, lsIn, if_pos (by omega), if_neg b49]) hl hP hS
              · skip
                refine lv_iload hx hb dX5_leastSet_52 (lv_at hl 5 rfl) ?_
                refine W.iret (v := set) hx hb hr (fun t ht hW => ⟨⟨set, (), rfl, ?_, trivial⟩, hS.F ht⟩) hS.2.2 dX5_leastSet_54
                first | (rw [hls, show cc + 1 - size = 0 by omega, lsOut]) | (rw [hls, show cc + 1 - size = (cc + 1 - (size + 1)) + 1 by omega, lsOut, hin, show 2 ^ cc - tt = (2 ^ cc - (tt + 1)) + 1 by omega, lsIn, if_pos (by omega), if_pos b49]) | (unfold lsS; rw [if_pos (by rw [b1]; rfl)])
        have hl := lv_sub hl (l' := [(0, .ref kx), (1, .int (nI n)), (2, .int (nI cc)), (3, .int (nI (2 ^ cc))), (4, .int (nI size)), (5, .int (nI ((2 ^ size) - 1))), (6, .int (nI 0))]) [2, 3, 4, 5, 6, 1, 0] rfl
        exact hL30 (2 ^ cc - 0) 0 (nI ((2 ^ size) - 1)) ls H locs rfl (by omega) (by rfl) hl hP hS
    have hl := lv_sub hl (l' := [(0, .ref kx), (1, .int (nI n)), (2, .int (nI cc)), (3, .int (nI (2 ^ cc))), (4, .int (nI 1))]) [2, 3, 4, 1, 0] rfl
    have hP := hP.sub (ws' := [iA G kwa 45 wf, oC kx 5 [.ref kb, .ref kim, .ref kit, .ref kv, .ref kre, .int tf, .ref ksh, .int rf, .ref kwa, .ref kta]]) [1, 0] rfl
    exact hL13 (cc + 1 - 1) 1 ls ss.heap [] rfl (by omega) (by omega) (by rw [hl0]; rfl) hl hP hS
  · skip
    refine lv_iconst (v := nI 0) hx hb dX5_leastSet_4 (by decide) ?_
    refine W.iret (v := nI 0) hx hb hr (fun t ht hW => ⟨⟨nI 0, (), rfl, ?_, trivial⟩, hS.F ht⟩) hS.2.2 dX5_leastSet_5
    first | (rw [hls, show cc + 1 - size = 0 by omega, lsOut]) | (rw [hls, show cc + 1 - size = (cc + 1 - (size + 1)) + 1 by omega, lsOut, hin, show 2 ^ cc - tt = (2 ^ cc - (tt + 1)) + 1 by omega, lsIn, if_pos (by omega), if_pos b49]) | (unfold lsS; rw [if_pos (by rw [b1]; rfl)])

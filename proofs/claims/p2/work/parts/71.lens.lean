abbrev w_X1_takeLens (G : XG) (kre kbt kby : Nat) (rl nx kd sr : Nat) (vl fo pl li hto lto ct : Int32) (ka kc kl kn : Nat) (w h la : Nat) (kln nl : Nat) (fl tb : Nat → Int32) : va_W := [oC kre 1 [.ref kbt, .ref kby, .int (nI rl), .int (nI nx), .int (nI kd), .int (nI sr), .int vl, .int fo, .int pl, .int li, .int hto, .int lto, .int ct], oC kbt 0 [.int (nI w), .int (nI h), .int (nI la), .ref ka, .ref kc, .ref kl, .ref kn], oC kl 2 [.ref kln, .int (nI 6), .int (nI nl)], iA G kln (3 * 6) fl, bA G kby 160 tb]
abbrev Q_X1_takeLens (G : XG) (sz : Nat) (kre kbt kby : Nat) (rl nx kd sr : Nat) (vl fo pl li hto lto ct : Int32) (ka kc kl kn : Nat) (w h la : Nat) (kln nl : Nat) (fl tb : Nat → Int32) : Array Value → State → Outcome → State → Prop := (va_Qi (fun (r : Int32) (u : Nat × Nat × Nat × Int32 × Int32 × Int32 × Nat × (Nat → Int32)) => r = xb ((fLen tb rl nl fl (nx, kd, sr, vl, fo, pl)).1 = true) ∧ ((u.1, u.2.1, u.2.2.1, u.2.2.2.1, u.2.2.2.2.1, u.2.2.2.2.2.1), u.2.2.2.2.2.2.1, u.2.2.2.2.2.2.2) = (fLen tb rl nl fl (nx, kd, sr, vl, fo, pl)).2) (xWb G sz (w_X1_takeLens G kre kbt kby rl nx kd sr vl fo pl li hto lto ct ka kc kl kn w h la kln nl fl tb) (fun u : Nat × Nat × Nat × Int32 × Int32 × Int32 × Nat × (Nat → Int32) => [oC kre 1 [.ref kbt, .ref kby, .int (nI rl), .int (nI u.1), .int (nI u.2.1), .int (nI u.2.2.1), .int u.2.2.2.1, .int u.2.2.2.2.1, .int u.2.2.2.2.2.1, .int li, .int hto, .int lto, .int ct], oC kbt 0 [.int (nI w), .int (nI h), .int (nI la), .ref ka, .ref kc, .ref kl, .ref kn], oC kl 2 [.ref kln, .int (nI 6), .int (nI u.2.2.2.2.2.2.1)], iA G kln (3 * 6) u.2.2.2.2.2.2.2, bA G kby 160 tb])) (va_A (w_X1_takeLens G kre kbt kby rl nx kd sr vl fo pl li hto lto ct ka kc kl kn w h la kln nl fl tb) sz))
set_option maxHeartbeats 4000000 in
set_option maxRecDepth 100000 in
theorem c_X1_takeLens (l : Launch) (G : XG) (sz : Nat) (kre kbt kby : Nat) (rl nx kd sr : Nat) (vl fo pl li hto lto ct : Int32) (ka kc kl kn : Nat) (w h la : Nat) (kln nl : Nat) (fl tb : Nat → Int32) (hrl : rl ≤ 160) (hnx : nx ≤ rl) (hnl : nl ≤ 6) : Met l yX1_takeLens wsX1_takeLens ({ frames := 3, cells := 0, slots := 0, locals := 66 } : Room) (va_Pc [.ref kre] (xWp G sz (w_X1_takeLens G kre kbt kby rl nx kd sr vl fo pl li hto lto ct ka kc kl kn w h la kln nl fl tb))) (Q_X1_takeLens G sz kre kbt kby rl nx kd sr vl fo pl li hto lto ct ka kc kl kn w h la kln nl fl tb) 0 0 (va_A (w_X1_takeLens G kre kbt kby rl nx kd sr vl fo pl li hto lto ct ka kc kl kn w h la kln nl fl tb) sz) := by
  refine Met.ofW (cc := cX1_takeLens) (maxL := 4) (ret := (some .boolean)) (by decide) rfl ?_
  intro pp ee ss mm aa below mt cd s₁ BB hml hv
  obtain ⟨rfl, hsz, hP, hK, hD0⟩ := hv
  have hx := BB.exec
  have hb := BB.bytes
  have hr := BB.returns
  have hts := atoms_spec (ws := wsX1_takeLens) BB.pre
  have hown : ss.vm.findClass RX1 = some mm.cls := findClass_of_methodNamed BB.named
  have hlocks := BB.notSynchronized
  subst hsz
  have hD := hD0.self (sz := ss.heap.size)
  have hA : ∀ q : Nat, ss.heap.size ≤ q → va_A (w_X1_takeLens G kre kbt kby rl nx kd sr vl fo pl li hto lto ct ka kc kl kn w h la kln nl fl tb) ss.heap.size q := fun q h => Or.inr h
  have hS : va_S (va_A (w_X1_takeLens G kre kbt kby rl nx kd sr vl fo pl li hto lto ct ka kc kl kn w h la kln nl fl tb) ss.heap.size) ss.heap ss.heap [] := va_S.rf
  replace hD : va_D (va_A (w_X1_takeLens G kre kbt kby rl nx kd sr vl fo pl li hto lto ct ka kc kl kn w h la kln nl fl tb) ss.heap.size) [oC kre 1 [.ref kbt, .ref kby, .int (nI rl), .int (nI nx), .int (nI kd), .int (nI sr), .int vl, .int fo, .int pl, .int li, .int hto, .int lto, .int ct], oC kbt 0 [.int (nI w), .int (nI h), .int (nI la), .ref ka, .ref kc, .ref kl, .ref kn], oC kl 2 [.ref kln, .int (nI 6), .int (nI nl)], iA G kln (3 * 6) fl, bA G kby 160 tb] := hD
  replace hP : xP G [oC kre 1 [.ref kbt, .ref kby, .int (nI rl), .int (nI nx), .int (nI kd), .int (nI sr), .int vl, .int fo, .int pl, .int li, .int hto, .int lto, .int ct], oC kbt 0 [.int (nI w), .int (nI h), .int (nI la), .ref ka, .ref kc, .ref kl, .ref kn], oC kl 2 [.ref kln, .int (nI 6), .int (nI nl)], iA G kln (3 * 6) fl, bA G kby 160 tb] ss.heap := hP
  have hin0 : ∀ w ∈ u_ws RX0 TX0 7, w ∈ wsX1_takeLens := fun w h => List.mem_cons_of_mem _ (List.mem_append_left _ (List.mem_append_right _ h))
  have hin1 : ∀ w ∈ u_ws RX1 TX1 13, w ∈ wsX1_takeLens := fun w h => List.mem_cons_of_mem _ (List.mem_append_left _ (List.mem_append_left _ (List.mem_append_right _ h)))
  have hin2 : ∀ w ∈ u_ws RX2 TX2 3, w ∈ wsX1_takeLens := fun w h => List.mem_cons_of_mem _ (List.mem_append_right _ h)
  have hl := lv_entry ([.ref kre]) (n := 4) (Nat.le_of_ble_eq_true rfl)
  rw [lg_entry_eq]
  generalize (lg_sl ([.ref kre]) ++ List.replicate (4 - (lg_sl ([.ref kre])).length) Slot.unset).toArray = ls at hl ⊢
  replace hl : lv_has ls 4 [(0, .ref kre)] := hl
  refine lv_aload_n hx hb dX1_takeLens_0 rfl (lv_at hl 0 rfl) ?_
  refine va_get (D := G.1) (ci := 1) (v := .ref kbt) (C := RX1) (T := TX1) (N := 13) hx hb hts hin1 hown hK.1 hP 0 rfl rfl 0 (by decide) (hts (.fieldLink RX1 12 "BackLenses$Reader" "target" "LBackLenses$Book;") (List.mem_of_getElem? (i := 1) rfl)) (fun _ h9 => h9) rfl dX1_takeLens_1 ?_
  refine va_getN (D := G.1) (ci := 0) (v := .ref kl) (C := RX0) (T := TX0) (N := 7) hx hb hts hin0 hown hK.1 hP 1 rfl rfl 5 (by decide) (va_Nw.use rfl (hK.2 (Cond.fieldLinkNest "BackLenses$Reader" (92 : Nat) "BackLenses$Book" "lenses" "LBackLenses$Rows;" "BackLenses") (List.mem_of_getElem? (i := 19) rfl))) (fun _ h9 => h9) rfl dX1_takeLens_4 ?_
  refine va_getN (D := G.1) (ci := 2) (v := .int (nI nl)) (C := RX2) (T := TX2) (N := 3) hx hb hts hin2 hown hK.1 hP 2 rfl rfl 2 (by decide) (va_Nw.use rfl (hK.2 (Cond.fieldLinkNest "BackLenses$Reader" (76 : Nat) "BackLenses$Rows" "size" "I" "BackLenses") (List.mem_of_getElem? (i := 2) rfl))) (fun _ h9 => h9) rfl dX1_takeLens_7 ?_
  refine lv_bipush (v := nI 6) hx hb dX1_takeLens_10 (by decide) ?_
  refine xn_icmp_lt (tgt := 25) hx hb (by omega) (by omega) dX1_takeLens_12 rfl (fun b12 => ?_) (fun b12 => ?_)
  · skip
    refine lv_aload_n hx hb dX1_takeLens_25 rfl (lv_at hl 0 rfl) ?_
    refine lv_iconst (v := nI 0) hx hb dX1_takeLens_26 (by decide) ?_
    refine lv_bipush (v := nI 9) hx hb dX1_takeLens_27 (by decide) ?_
    refine xw_i (As := [.int (nI 0), .int (nI 9)]) (rest := []) (wr := [oC kbt 0 [.int (nI w), .int (nI h), .int (nI la), .ref ka, .ref kc, .ref kl, .ref kn], oC kl 2 [.ref kln, .int (nI 6), .int (nI nl)], iA G kln (3 * 6) fl]) ⟨hx, hb, hml, hown, hts⟩ (c_X1_takeNumber l G ss.heap.size kre kbt kby rl nx kd sr vl fo pl li hto lto ct tb 0 9 (by first | assumption | omega) (by first | assumption | omega) (by first | assumption | omega) (by first | assumption | omega)) (cwV 2 hts gX1_takeLens_X1_takeNumber rfl rfl rfl (by decide +kernel) ⟨Nat.le_of_ble_eq_true rfl, Nat.le_of_ble_eq_true rfl⟩) hK hP hD hS hA [0, 4] [1, 2, 3] rfl rfl (by decide) (by decide) (by decide) rfl rfl rfl hl.1 rfl (Nat.le_of_ble_eq_true rfl) dX1_takeLens_29 ⟨Nat.le_of_ble_eq_true rfl, Nat.le_of_ble_eq_true rfl⟩ (fun r29 u H locs hp29 hP hD hS => ?_)
    obtain ⟨nx2_29, kd2_29, sr2_29, vl2_29, fo2_29, pl2_29⟩ := u
    try dsimp only at hp29 hP hD
    obtain ⟨rfl, he29⟩ := hp29
    replace hP : xP G [oC kbt 0 [.int (nI w), .int (nI h), .int (nI la), .ref ka, .ref kc, .ref kl, .ref kn], oC kl 2 [.ref kln, .int (nI 6), .int (nI nl)], iA G kln (3 * 6) fl, oC kre 1 [.ref kbt, .ref kby, .int (nI rl), .int (nI nx2_29), .int (nI kd2_29), .int (nI sr2_29), .int vl2_29, .int fo2_29, .int pl2_29, .int li, .int hto, .int lto, .int ct], bA G kby 160 tb] H := hP
    replace hD : va_D (va_A (w_X1_takeLens G kre kbt kby rl nx kd sr vl fo pl li hto lto ct ka kc kl kn w h la kln nl fl tb) ss.heap.size) [oC kbt 0 [.int (nI w), .int (nI h), .int (nI la), .ref ka, .ref kc, .ref kl, .ref kn], oC kl 2 [.ref kln, .int (nI 6), .int (nI nl)], iA G kln (3 * 6) fl, oC kre 1 [.ref kbt, .ref kby, .int (nI rl), .int (nI nx2_29), .int (nI kd2_29), .int (nI sr2_29), .int vl2_29, .int fo2_29, .int pl2_29, .int li, .int hto, .int lto, .int ct], bA G kby 160 tb] := hD
    have hn29 : nx2_29 ≤ rl := (by have hq := fNum_bd (t := tb) (rl := rl) (lo := 0) (hi := 9) (s := (nx, kd, sr, vl, fo, pl)) (by assumption); rw [← he29] at hq; exact hq.1)
    refine xb_if_ne (tgt := 37) hx hb dX1_takeLens_32 rfl (fun b32 => ?_) (fun b32 => ?_)
    · skip
      obtain ⟨k1, hk29a, hk29b, hk29⟩ := fNum_val (by omega) b32
      rw [← he29] at hk29
      replace hk29 : vl2_29 = nI k1 := hk29
      subst hk29
      refine lv_aload_n hx hb dX1_takeLens_37 rfl (lv_at hl 0 rfl) ?_
      refine va_get (D := G.1) (ci := 1) (v := .int (nI k1)) (C := RX1) (T := TX1) (N := 13) hx hb hts hin1 hown hK.1 hP 3 rfl rfl 6 (by decide) (hts (.fieldLink RX1 130 "BackLenses$Reader" "value" "I") (List.mem_of_getElem? (i := 3) rfl)) (fun _ h9 => h9) rfl dX1_takeLens_38 ?_
      refine lv_istore_n (lv' := [(1, .int (nI k1)), (0, .ref kre)]) hx hb dX1_takeLens_41 rfl hl (by decide) rfl (fun ls hl => ?_)
      refine lv_iconst (v := nI 0) hx hb dX1_takeLens_42 (by decide) ?_
      refine lv_istore_n (lv' := [(2, .int (nI 0)), (1, .int (nI k1)), (0, .ref kre)]) hx hb dX1_takeLens_43 rfl hl (by decide) rfl (fun ls hl => ?_)
      refine lv_iconst (v := nI 0) hx hb dX1_takeLens_44 (by decide) ?_
      refine lv_istore_n (lv' := [(3, .int (nI 0)), (2, .int (nI 0)), (1, .int (nI k1)), (0, .ref kre)]) hx hb dX1_takeLens_45 rfl hl (by decide) rfl (fun ls hl => ?_)
      have hL46 : ∀ k : Nat, ∀ (i : Nat) (bl : Int32) (nx3 : Nat) (kd3 : Nat) (sr3 : Nat) (vl3 : Int32) (fo3 : Int32) (pl3 : Int32) (ls : Array Slot) (H : Heap) (locs : List Loc), 17 - i = k → (i ≤ 17) → (nx3 ≤ rl) → (fLen tb rl nl fl (nx, kd, sr, vl, fo, pl) = fBli tb rl nl fl k1 (17 - i) bl (nx3, kd3, sr3, vl3, fo3, pl3)) → lv_has ls 4 [(0, .ref kre), (1, .int (nI k1)), (2, .int bl), (3, .int (nI i))] → xP G [oC kbt 0 [.int (nI w), .int (nI h), .int (nI la), .ref ka, .ref kc, .ref kl, .ref kn], bA G kby 160 tb, oC kl 2 [.ref kln, .int (nI 6), .int (nI nl)], iA G kln (3 * 6) fl, oC kre 1 [.ref kbt, .ref kby, .int (nI rl), .int (nI nx3), .int (nI kd3), .int (nI sr3), .int vl3, .int fo3, .int pl3, .int li, .int hto, .int lto, .int ct]] H → va_D (va_A (w_X1_takeLens G kre kbt kby rl nx kd sr vl fo pl li hto lto ct ka kc kl kn w h la kln nl fl tb) ss.heap.size) [oC kbt 0 [.int (nI w), .int (nI h), .int (nI la), .ref ka, .ref kc, .ref kl, .ref kn], bA G kby 160 tb, oC kl 2 [.ref kln, .int (nI 6), .int (nI nl)], iA G kln (3 * 6) fl, oC kre 1 [.ref kbt, .ref kby, .int (nI rl), .int (nI nx3), .int (nI kd3), .int (nI sr3), .int vl3, .int fo3, .int pl3, .int li, .int hto, .int lto, .int ct]] → va_S (va_A (w_X1_takeLens G kre kbt kby rl nx kd sr vl fo pl li hto lto ct ka kc kl kn w h la kln nl fl tb) ss.heap.size) ss.heap H locs → W pp l ee ({ frames := 3, cells := 0, slots := 0, locals := 66 } : Room) ss mm ([.ref kre] : List Value).toArray below mt cd H locs 0 0 (MQ below (Q_X1_takeLens G ss.heap.size kre kbt kby rl nx kd sr vl fo pl li hto lto ct ka kc kl kn w h la kln nl fl tb) ([.ref kre] : List Value).toArray ss 0 0 (va_A (w_X1_takeLens G kre kbt kby rl nx kd sr vl fo pl li hto lto ct ka kc kl kn w h la kln nl fl tb) ss.heap.size)) (F0 mm 46 ls []) := by
        intro k
        induction k using Nat.strongRecOn with
        | _ k ih46 =>
        intro i bl nx3 kd3 sr3 vl3 fo3 pl3 ls H locs hm46 hi hn3 hF hl hP hD hS
        refine lv_iload_n hx hb dX1_takeLens_46 rfl (lv_at hl 3 rfl) ?_
        refine lv_bipush (v := nI 16) hx hb dX1_takeLens_47 (by decide) ?_
        refine xn_icmp_gt (tgt := 133) hx hb (by omega) (by omega) dX1_takeLens_49 rfl (fun b49 => ?_) (fun b49 => ?_)
        · skip
          refine lv_aload_n hx hb dX1_takeLens_133 rfl (lv_at hl 0 rfl) ?_
          refine lv_iconst (v := nI 4) hx hb dX1_takeLens_134 (by decide) ?_
          refine lv_aload_n hx hb dX1_takeLens_135 rfl (lv_at hl 0 rfl) ?_
          refine va_get (D := G.1) (ci := 1) (v := .int (nI sr3)) (C := RX1) (T := TX1) (N := 13) hx hb hts hin1 hown hK.1 hP 4 rfl rfl 5 (by decide) (hts (.fieldLink RX1 95 "BackLenses$Reader" "start" "I") (List.mem_of_getElem? (i := 2) rfl)) (fun _ h9 => h9) rfl dX1_takeLens_136 ?_
          refine xw_i (As := [.int (nI 4), .int (nI sr3)]) (rest := []) (wr := [oC kbt 0 [.int (nI w), .int (nI h), .int (nI la), .ref ka, .ref kc, .ref kl, .ref kn], bA G kby 160 tb, oC kl 2 [.ref kln, .int (nI 6), .int (nI nl)], iA G kln (3 * 6) fl]) ⟨hx, hb, hml, hown, hts⟩ (c_X1_refuse l G H.size kre kbt kby rl nx3 kd3 sr3 vl3 fo3 pl3 li hto lto ct (nI 4) (nI sr3) ) (cwV 2 hts gX1_takeLens_X1_refuse rfl rfl rfl (by decide +kernel) ⟨Nat.le_of_ble_eq_true rfl, Nat.le_of_ble_eq_true rfl⟩) hK hP hD hS hA [4] [0, 1, 2, 3] rfl rfl (by decide) (by decide) (by decide) rfl rfl rfl hl.1 rfl (Nat.le_of_ble_eq_true rfl) dX1_takeLens_139 ⟨Nat.le_of_ble_eq_true rfl, Nat.le_of_ble_eq_true rfl⟩ (fun r139 u H locs hp139 hP hD hS => ?_)
          obtain rfl := hp139
          replace hP : xP G [oC kbt 0 [.int (nI w), .int (nI h), .int (nI la), .ref ka, .ref kc, .ref kl, .ref kn], bA G kby 160 tb, oC kl 2 [.ref kln, .int (nI 6), .int (nI nl)], iA G kln (3 * 6) fl, oC kre 1 [.ref kbt, .ref kby, .int (nI rl), .int (nI nx3), .int (nI kd3), .int (nI sr3), .int vl3, .int (nI 4), .int (nI sr3), .int li, .int hto, .int lto, .int ct]] H := hP
          replace hD : va_D (va_A (w_X1_takeLens G kre kbt kby rl nx kd sr vl fo pl li hto lto ct ka kc kl kn w h la kln nl fl tb) ss.heap.size) [oC kbt 0 [.int (nI w), .int (nI h), .int (nI la), .ref ka, .ref kc, .ref kl, .ref kn], bA G kby 160 tb, oC kl 2 [.ref kln, .int (nI 6), .int (nI nl)], iA G kln (3 * 6) fl, oC kre 1 [.ref kbt, .ref kby, .int (nI rl), .int (nI nx3), .int (nI kd3), .int (nI sr3), .int vl3, .int (nI 4), .int (nI sr3), .int li, .int hto, .int lto, .int ct]] := hD
          have hP := hP.sub (ws' := [oC kre 1 [.ref kbt, .ref kby, .int (nI rl), .int (nI nx3), .int (nI kd3), .int (nI sr3), .int vl3, .int (nI 4), .int (nI sr3), .int li, .int hto, .int lto, .int ct], oC kbt 0 [.int (nI w), .int (nI h), .int (nI la), .ref ka, .ref kc, .ref kl, .ref kn], oC kl 2 [.ref kln, .int (nI 6), .int (nI nl)], iA G kln (3 * 6) fl, bA G kby 160 tb]) [4, 0, 2, 3, 1] rfl
          have hD := hD.sub (ws' := [oC kre 1 [.ref kbt, .ref kby, .int (nI rl), .int (nI nx3), .int (nI kd3), .int (nI sr3), .int vl3, .int (nI 4), .int (nI sr3), .int li, .int hto, .int lto, .int ct], oC kbt 0 [.int (nI w), .int (nI h), .int (nI la), .ref ka, .ref kc, .ref kl, .ref kn], oC kl 2 [.ref kln, .int (nI 6), .int (nI nl)], iA G kln (3 * 6) fl, bA G kby 160 tb]) [4, 0, 2, 3, 1] (by decide) rfl
          refine W.zret (v := nI 0) (ty := .boolean) hx hb hr (by decide) (fun t ht hW => ⟨⟨nI 0, (nx3, kd3, sr3, vl3, (nI 4), (nI sr3), nl, fl), rfl, ?_, by rw [ht]; exact hP, hD⟩, hS.F ht⟩) hS.2.2 dX1_takeLens_142
          try dsimp only
          rw [hF, show 17 - i = 0 by omega]; exact ⟨(xb_f Bool.false_ne_true).symm, rfl⟩
        · skip
          refine lv_aload_n hx hb dX1_takeLens_52 rfl (lv_at hl 0 rfl) ?_
          refine xw_i (As := []) (rest := []) (wr := [oC kbt 0 [.int (nI w), .int (nI h), .int (nI la), .ref ka, .ref kc, .ref kl, .ref kn], oC kl 2 [.ref kln, .int (nI 6), .int (nI nl)], iA G kln (3 * 6) fl]) ⟨hx, hb, hml, hown, hts⟩ (c_X1_takeToken_f l G H.size kre kbt kby rl nx3 kd3 sr3 vl3 fo3 pl3 li hto lto ct tb (by first | assumption | omega) (by first | assumption | omega)) (cwV 0 hts gX1_takeLens_X1_takeToken rfl rfl rfl (by decide +kernel) ⟨Nat.le_of_ble_eq_true rfl, Nat.le_of_ble_eq_true rfl⟩) hK hP hD hS hA [4, 1] [0, 2, 3] rfl rfl (by decide) (by decide) (by decide) rfl rfl rfl hl.1 rfl (Nat.le_of_ble_eq_true rfl) dX1_takeLens_53 ⟨Nat.le_of_ble_eq_true rfl, Nat.le_of_ble_eq_true rfl⟩ (fun r53 u H locs hp53 hP hD hS => ?_)
          obtain ⟨nx2_53, kd2_53, sr2_53, vl2_53, fo2_53, pl2_53⟩ := u
          try dsimp only at hp53 hP hD
          obtain ⟨rfl, he53⟩ := hp53
          replace hP : xP G [oC kbt 0 [.int (nI w), .int (nI h), .int (nI la), .ref ka, .ref kc, .ref kl, .ref kn], oC kl 2 [.ref kln, .int (nI 6), .int (nI nl)], iA G kln (3 * 6) fl, oC kre 1 [.ref kbt, .ref kby, .int (nI rl), .int (nI nx2_53), .int (nI kd2_53), .int (nI sr2_53), .int vl2_53, .int fo2_53, .int pl2_53, .int li, .int hto, .int lto, .int ct], bA G kby 160 tb] H := hP
          replace hD : va_D (va_A (w_X1_takeLens G kre kbt kby rl nx kd sr vl fo pl li hto lto ct ka kc kl kn w h la kln nl fl tb) ss.heap.size) [oC kbt 0 [.int (nI w), .int (nI h), .int (nI la), .ref ka, .ref kc, .ref kl, .ref kn], oC kl 2 [.ref kln, .int (nI 6), .int (nI nl)], iA G kln (3 * 6) fl, oC kre 1 [.ref kbt, .ref kby, .int (nI rl), .int (nI nx2_53), .int (nI kd2_53), .int (nI sr2_53), .int vl2_53, .int fo2_53, .int pl2_53, .int li, .int hto, .int lto, .int ct], bA G kby 160 tb] := hD
          have hn53 : nx2_53 ≤ rl := (by have hq := fTok_bd (t := tb) (rl := rl) (s := (nx3, kd3, sr3, vl3, fo3, pl3)) hn3; rw [← he53] at hq; exact hq.1)
          have hk53 : kd2_53 ≤ 3 := (by have hk := fTok_kd (t := tb) (rl := rl) (s := (nx3, kd3, sr3, vl3, fo3, pl3)); rw [← he53] at hk; exact hk)
          refine xb_if_ne (tgt := 61) hx hb dX1_takeLens_56 rfl (fun b56 => ?_) (fun b56 => ?_)
          · skip
            refine lv_aload_n hx hb dX1_takeLens_61 rfl (lv_at hl 0 rfl) ?_
            refine va_get (D := G.1) (ci := 1) (v := .int (nI kd2_53)) (C := RX1) (T := TX1) (N := 13) hx hb hts hin1 hown hK.1 hP 3 rfl rfl 4 (by decide) (hts (.fieldLink RX1 55 "BackLenses$Reader" "kind" "I") (List.mem_of_getElem? (i := 4) rfl)) (fun _ h9 => h9) rfl dX1_takeLens_62 ?_
            refine lv_iconst (v := nI 3) hx hb dX1_takeLens_65 (by decide) ?_
            refine xn_icmp_ne (tgt := 85) hx hb (by omega) (by omega) dX1_takeLens_66 rfl (fun b66 => ?_) (fun b66 => ?_)
            · skip
              refine lv_aload_n hx hb dX1_takeLens_85 rfl (lv_at hl 0 rfl) ?_
              refine lv_iconst (v := nI 0) hx hb dX1_takeLens_86 (by decide) ?_
              refine lv_bipush (v := nI 15) hx hb dX1_takeLens_87 (by decide) ?_
              refine xw_i (As := [.int (nI 0), .int (nI 15)]) (rest := []) (wr := [oC kbt 0 [.int (nI w), .int (nI h), .int (nI la), .ref ka, .ref kc, .ref kl, .ref kn], oC kl 2 [.ref kln, .int (nI 6), .int (nI nl)], iA G kln (3 * 6) fl, bA G kby 160 tb]) ⟨hx, hb, hml, hown, hts⟩ (c_X1_isNumberWithin l G H.size kre kbt kby rl nx2_53 kd2_53 sr2_53 vl2_53 fo2_53 pl2_53 li hto lto ct 0 15 (by first | assumption | omega) (by first | assumption | omega) (by have hk := fTok_kd (t := tb) (rl := rl) (s := (nx3, kd3, sr3, vl3, fo3, pl3)); rw [← he53] at hk; dsimp only at hk; omega)) (cwV 2 hts gX1_takeLens_X1_isNumberWithin rfl rfl rfl (by decide +kernel) ⟨Nat.le_of_ble_eq_true rfl, Nat.le_of_ble_eq_true rfl⟩) hK hP hD hS hA [3] [0, 1, 2, 4] rfl rfl (by decide) (by decide) (by decide) rfl rfl rfl hl.1 rfl (Nat.le_of_ble_eq_true rfl) dX1_takeLens_89 ⟨Nat.le_of_ble_eq_true rfl, Nat.le_of_ble_eq_true rfl⟩ (fun r89 u H locs hp89 hP hD hS => ?_)
              obtain ⟨nx2_89, kd2_89, sr2_89, vl2_89, fo2_89, pl2_89⟩ := u
              try dsimp only at hp89 hP hD
              obtain ⟨rfl, he89⟩ := hp89
              replace hP : xP G [oC kbt 0 [.int (nI w), .int (nI h), .int (nI la), .ref ka, .ref kc, .ref kl, .ref kn], oC kl 2 [.ref kln, .int (nI 6), .int (nI nl)], iA G kln (3 * 6) fl, bA G kby 160 tb, oC kre 1 [.ref kbt, .ref kby, .int (nI rl), .int (nI nx2_89), .int (nI kd2_89), .int (nI sr2_89), .int vl2_89, .int fo2_89, .int pl2_89, .int li, .int hto, .int lto, .int ct]] H := hP
              replace hD : va_D (va_A (w_X1_takeLens G kre kbt kby rl nx kd sr vl fo pl li hto lto ct ka kc kl kn w h la kln nl fl tb) ss.heap.size) [oC kbt 0 [.int (nI w), .int (nI h), .int (nI la), .ref ka, .ref kc, .ref kl, .ref kn], oC kl 2 [.ref kln, .int (nI 6), .int (nI nl)], iA G kln (3 * 6) fl, bA G kby 160 tb, oC kre 1 [.ref kbt, .ref kby, .int (nI rl), .int (nI nx2_89), .int (nI kd2_89), .int (nI sr2_89), .int vl2_89, .int fo2_89, .int pl2_89, .int li, .int hto, .int lto, .int ct]] := hD
              refine xb_if_ne (tgt := 97) hx hb dX1_takeLens_92 rfl (fun b92 => ?_) (fun b92 => ?_)
              · skip
                have hw89 := he89.trans (fWit_same b92)
                cases hw89
                obtain ⟨k2, hk89a, hk89b, hk89⟩ := fWit_val (by omega) b92
                rw [fWit_same b92] at hk89
                replace hk89 : vl2_53 = nI k2 := hk89
                subst hk89
                refine lv_iload_n hx hb dX1_takeLens_97 rfl (lv_at hl 2 rfl) ?_
                refine lv_aload_n hx hb dX1_takeLens_98 rfl (lv_at hl 0 rfl) ?_
                refine va_get (D := G.1) (ci := 1) (v := .int (nI k2)) (C := RX1) (T := TX1) (N := 13) hx hb hts hin1 hown hK.1 hP 4 rfl rfl 6 (by decide) (hts (.fieldLink RX1 130 "BackLenses$Reader" "value" "I") (List.mem_of_getElem? (i := 3) rfl)) (fun _ h9 => h9) rfl dX1_takeLens_99 ?_
                refine lv_ishr hx hb dX1_takeLens_102 ?_
                refine lv_iconst (v := nI 1) hx hb dX1_takeLens_103 (by decide) ?_
                refine lv_iand hx hb dX1_takeLens_104 ?_
                refine lv_if_eq (tgt := 118) hx hb dX1_takeLens_105 rfl (fun b105 => ?_) (fun b105 => ?_)
                · skip
                  refine lv_iload_n hx hb dX1_takeLens_118 rfl (lv_at hl 2 rfl) ?_
                  refine lv_iconst (v := nI 1) hx hb dX1_takeLens_119 (by decide) ?_
                  refine lv_aload_n hx hb dX1_takeLens_120 rfl (lv_at hl 0 rfl) ?_
                  refine va_get (D := G.1) (ci := 1) (v := .int (nI k2)) (C := RX1) (T := TX1) (N := 13) hx hb hts hin1 hown hK.1 hP 4 rfl rfl 6 (by decide) (hts (.fieldLink RX1 130 "BackLenses$Reader" "value" "I") (List.mem_of_getElem? (i := 3) rfl)) (fun _ h9 => h9) rfl dX1_takeLens_121 ?_
                  refine lv_ishl hx hb dX1_takeLens_124 ?_
                  refine lv_ior hx hb dX1_takeLens_125 ?_
                  refine lv_istore_n (lv' := [(2, .int (bl ||| ((nI 1) <<< ((nI k2) &&& 31)))), (0, .ref kre), (1, .int (nI k1)), (3, .int (nI i))]) hx hb dX1_takeLens_126 rfl hl (by decide) rfl (fun ls hl => ?_)
                  refine lv_iinc (k := 3) (v := nI (i + 1)) (lv' := [(3, .int (nI (i + 1))), (2, .int (bl ||| ((nI 1) <<< ((nI k2) &&& 31)))), (0, .ref kre), (1, .int (nI k1))]) hx hb dX1_takeLens_127 hl rfl (xn_inc i 1) (by decide) rfl (fun ls hl => ?_)
                  refine lv_goto (tgt := 46) hx hb dX1_takeLens_130 rfl ?_
                  have hl := lv_sub hl (l' := [(0, .ref kre), (1, .int (nI k1)), (2, .int (bl ||| ((nI 1) <<< ((nI k2) &&& 31)))), (3, .int (nI (i + 1)))]) [2, 3, 1, 0] rfl
                  have hP := hP.sub (ws' := [oC kbt 0 [.int (nI w), .int (nI h), .int (nI la), .ref ka, .ref kc, .ref kl, .ref kn], bA G kby 160 tb, oC kl 2 [.ref kln, .int (nI 6), .int (nI nl)], iA G kln (3 * 6) fl, oC kre 1 [.ref kbt, .ref kby, .int (nI rl), .int (nI nx2_53), .int (nI kd2_53), .int (nI sr2_53), .int (nI k2), .int fo2_53, .int pl2_53, .int li, .int hto, .int lto, .int ct]]) [0, 3, 1, 2, 4] rfl
                  have hD := hD.sub (ws' := [oC kbt 0 [.int (nI w), .int (nI h), .int (nI la), .ref ka, .ref kc, .ref kl, .ref kn], bA G kby 160 tb, oC kl 2 [.ref kln, .int (nI 6), .int (nI nl)], iA G kln (3 * 6) fl, oC kre 1 [.ref kbt, .ref kby, .int (nI rl), .int (nI nx2_53), .int (nI kd2_53), .int (nI sr2_53), .int (nI k2), .int fo2_53, .int pl2_53, .int li, .int hto, .int lto, .int ct]]) [0, 3, 1, 2, 4] (by decide) rfl
                  exact ih46 (17 - (i + 1)) (by omega) (i + 1) (bl ||| ((nI 1) <<< ((nI k2) &&& 31))) nx2_53 kd2_53 sr2_53 (nI k2) fo2_53 pl2_53 ls H locs rfl (by omega) (by assumption) (by rw [hF, show 17 - i = (17 - (i + 1)) + 1 by omega]; exact fBli_4 b56 he53 b66 b92 (by omega) b105) hl hP hD hS
                · skip
                  refine lv_aload_n hx hb dX1_takeLens_108 rfl (lv_at hl 0 rfl) ?_
                  refine lv_iconst (v := nI 4) hx hb dX1_takeLens_109 (by decide) ?_
                  refine lv_aload_n hx hb dX1_takeLens_110 rfl (lv_at hl 0 rfl) ?_
                  refine va_get (D := G.1) (ci := 1) (v := .int (nI sr2_53)) (C := RX1) (T := TX1) (N := 13) hx hb hts hin1 hown hK.1 hP 4 rfl rfl 5 (by decide) (hts (.fieldLink RX1 95 "BackLenses$Reader" "start" "I") (List.mem_of_getElem? (i := 2) rfl)) (fun _ h9 => h9) rfl dX1_takeLens_111 ?_
                  refine xw_i (As := [.int (nI 4), .int (nI sr2_53)]) (rest := []) (wr := [oC kbt 0 [.int (nI w), .int (nI h), .int (nI la), .ref ka, .ref kc, .ref kl, .ref kn], oC kl 2 [.ref kln, .int (nI 6), .int (nI nl)], iA G kln (3 * 6) fl, bA G kby 160 tb]) ⟨hx, hb, hml, hown, hts⟩ (c_X1_refuse l G H.size kre kbt kby rl nx2_53 kd2_53 sr2_53 (nI k2) fo2_53 pl2_53 li hto lto ct (nI 4) (nI sr2_53) ) (cwV 2 hts gX1_takeLens_X1_refuse rfl rfl rfl (by decide +kernel) ⟨Nat.le_of_ble_eq_true rfl, Nat.le_of_ble_eq_true rfl⟩) hK hP hD hS hA [4] [0, 1, 2, 3] rfl rfl (by decide) (by decide) (by decide) rfl rfl rfl hl.1 rfl (Nat.le_of_ble_eq_true rfl) dX1_takeLens_114 ⟨Nat.le_of_ble_eq_true rfl, Nat.le_of_ble_eq_true rfl⟩ (fun r114 u H locs hp114 hP hD hS => ?_)
                  obtain rfl := hp114
                  replace hP : xP G [oC kbt 0 [.int (nI w), .int (nI h), .int (nI la), .ref ka, .ref kc, .ref kl, .ref kn], oC kl 2 [.ref kln, .int (nI 6), .int (nI nl)], iA G kln (3 * 6) fl, bA G kby 160 tb, oC kre 1 [.ref kbt, .ref kby, .int (nI rl), .int (nI nx2_53), .int (nI kd2_53), .int (nI sr2_53), .int (nI k2), .int (nI 4), .int (nI sr2_53), .int li, .int hto, .int lto, .int ct]] H := hP
                  replace hD : va_D (va_A (w_X1_takeLens G kre kbt kby rl nx kd sr vl fo pl li hto lto ct ka kc kl kn w h la kln nl fl tb) ss.heap.size) [oC kbt 0 [.int (nI w), .int (nI h), .int (nI la), .ref ka, .ref kc, .ref kl, .ref kn], oC kl 2 [.ref kln, .int (nI 6), .int (nI nl)], iA G kln (3 * 6) fl, bA G kby 160 tb, oC kre 1 [.ref kbt, .ref kby, .int (nI rl), .int (nI nx2_53), .int (nI kd2_53), .int (nI sr2_53), .int (nI k2), .int (nI 4), .int (nI sr2_53), .int li, .int hto, .int lto, .int ct]] := hD
                  have hP := hP.sub (ws' := [oC kre 1 [.ref kbt, .ref kby, .int (nI rl), .int (nI nx2_53), .int (nI kd2_53), .int (nI sr2_53), .int (nI k2), .int (nI 4), .int (nI sr2_53), .int li, .int hto, .int lto, .int ct], oC kbt 0 [.int (nI w), .int (nI h), .int (nI la), .ref ka, .ref kc, .ref kl, .ref kn], oC kl 2 [.ref kln, .int (nI 6), .int (nI nl)], iA G kln (3 * 6) fl, bA G kby 160 tb]) [4, 0, 1, 2, 3] rfl
                  have hD := hD.sub (ws' := [oC kre 1 [.ref kbt, .ref kby, .int (nI rl), .int (nI nx2_53), .int (nI kd2_53), .int (nI sr2_53), .int (nI k2), .int (nI 4), .int (nI sr2_53), .int li, .int hto, .int lto, .int ct], oC kbt 0 [.int (nI w), .int (nI h), .int (nI la), .ref ka, .ref kc, .ref kl, .ref kn], oC kl 2 [.ref kln, .int (nI 6), .int (nI nl)], iA G kln (3 * 6) fl, bA G kby 160 tb]) [4, 0, 1, 2, 3] (by decide) rfl
                  refine W.zret (v := nI 0) (ty := .boolean) hx hb hr (by decide) (fun t ht hW => ⟨⟨nI 0, (nx2_53, kd2_53, sr2_53, (nI k2), (nI 4), (nI sr2_53), nl, fl), rfl, ?_, by rw [ht]; exact hP, hD⟩, hS.F ht⟩) hS.2.2 dX1_takeLens_117
                  try dsimp only
                  rw [hF, show 17 - i = (17 - (i + 1)) + 1 by omega, fBli_3 b56 he53 b66 b92 (by omega) b105]; exact ⟨(xb_f Bool.false_ne_true).symm, rfl⟩
              · skip
                refine lv_iconst (v := nI 0) hx hb dX1_takeLens_95 (by decide) ?_
                have hP := hP.sub (ws' := [oC kre 1 [.ref kbt, .ref kby, .int (nI rl), .int (nI nx2_89), .int (nI kd2_89), .int (nI sr2_89), .int vl2_89, .int fo2_89, .int pl2_89, .int li, .int hto, .int lto, .int ct], oC kbt 0 [.int (nI w), .int (nI h), .int (nI la), .ref ka, .ref kc, .ref kl, .ref kn], oC kl 2 [.ref kln, .int (nI 6), .int (nI nl)], iA G kln (3 * 6) fl, bA G kby 160 tb]) [4, 0, 1, 2, 3] rfl
                have hD := hD.sub (ws' := [oC kre 1 [.ref kbt, .ref kby, .int (nI rl), .int (nI nx2_89), .int (nI kd2_89), .int (nI sr2_89), .int vl2_89, .int fo2_89, .int pl2_89, .int li, .int hto, .int lto, .int ct], oC kbt 0 [.int (nI w), .int (nI h), .int (nI la), .ref ka, .ref kc, .ref kl, .ref kn], oC kl 2 [.ref kln, .int (nI 6), .int (nI nl)], iA G kln (3 * 6) fl, bA G kby 160 tb]) [4, 0, 1, 2, 3] (by decide) rfl
                refine W.zret (v := nI 0) (ty := .boolean) hx hb hr (by decide) (fun t ht hW => ⟨⟨nI 0, (nx2_89, kd2_89, sr2_89, vl2_89, fo2_89, pl2_89, nl, fl), rfl, ?_, by rw [ht]; exact hP, hD⟩, hS.F ht⟩) hS.2.2 dX1_takeLens_96
                try dsimp only
                rw [hF, show 17 - i = (17 - (i + 1)) + 1 by omega, fBli_2 b56 he53 b66 b92]; exact ⟨(xb_f Bool.false_ne_true).symm, congrArg (fun a => (a, _)) he89⟩
            · skip
              refine lv_aload_n hx hb dX1_takeLens_69 rfl (lv_at hl 0 rfl) ?_
              refine va_get (D := G.1) (ci := 1) (v := .ref kbt) (C := RX1) (T := TX1) (N := 13) hx hb hts hin1 hown hK.1 hP 3 rfl rfl 0 (by decide) (hts (.fieldLink RX1 12 "BackLenses$Reader" "target" "LBackLenses$Book;") (List.mem_of_getElem? (i := 1) rfl)) (fun _ h9 => h9) rfl dX1_takeLens_70 ?_
              refine va_getN (D := G.1) (ci := 0) (v := .ref kl) (C := RX0) (T := TX0) (N := 7) hx hb hts hin0 hown hK.1 hP 0 rfl rfl 5 (by decide) (va_Nw.use rfl (hK.2 (Cond.fieldLinkNest "BackLenses$Reader" (92 : Nat) "BackLenses$Book" "lenses" "LBackLenses$Rows;" "BackLenses") (List.mem_of_getElem? (i := 19) rfl))) (fun _ h9 => h9) rfl dX1_takeLens_73 ?_
              refine lv_iload_n hx hb dX1_takeLens_76 rfl (lv_at hl 1 rfl) ?_
              refine lv_iload_n hx hb dX1_takeLens_77 rfl (lv_at hl 2 rfl) ?_
              refine lv_iconst (v := nI 0) hx hb dX1_takeLens_78 (by decide) ?_
              refine xw_i (As := [.int (nI k1), .int bl, .int (nI 0)]) (rest := []) (wr := [oC kbt 0 [.int (nI w), .int (nI h), .int (nI la), .ref ka, .ref kc, .ref kl, .ref kn], oC kre 1 [.ref kbt, .ref kby, .int (nI rl), .int (nI nx2_53), .int (nI kd2_53), .int (nI sr2_53), .int vl2_53, .int fo2_53, .int pl2_53, .int li, .int hto, .int lto, .int ct], bA G kby 160 tb]) ⟨hx, hb, hml, hown, hts⟩ (c_X2_add l G H.size kl kln 6 nl fl (nI k1) bl (nI 0) (by first | assumption | omega) (by first | assumption | omega)) (cwV 3 hts gX1_takeLens_X2_add rfl rfl rfl (by decide +kernel) ⟨Nat.le_of_ble_eq_true rfl, Nat.le_of_ble_eq_true rfl⟩) hK hP hD hS hA [1, 2] [0, 3, 4] rfl rfl (by decide) (by decide) (by decide) rfl rfl rfl hl.1 rfl (Nat.le_of_ble_eq_true rfl) dX1_takeLens_79 ⟨Nat.le_of_ble_eq_true rfl, Nat.le_of_ble_eq_true rfl⟩ (fun r79 u H locs hp79 hP hD hS => ?_)
              obtain ⟨u0_79, u1_79⟩ := u
              try dsimp only at hp79 hP hD
              obtain ⟨rfl, rfl, rfl⟩ := hp79
              replace hP : xP G [oC kbt 0 [.int (nI w), .int (nI h), .int (nI la), .ref ka, .ref kc, .ref kl, .ref kn], oC kre 1 [.ref kbt, .ref kby, .int (nI rl), .int (nI nx2_53), .int (nI kd2_53), .int (nI sr2_53), .int vl2_53, .int fo2_53, .int pl2_53, .int li, .int hto, .int lto, .int ct], bA G kby 160 tb, oC kl 2 [.ref kln, .int (nI 6), .int (nI (if nl < 6 then nl + 1 else nl))], iA G kln (3 * 6) (if nl < 6 then upd (upd (upd fl (3 * nl) (nI k1)) (3 * nl + 1) bl) (3 * nl + 2) (nI 0) else fl)] H := hP
              replace hD : va_D (va_A (w_X1_takeLens G kre kbt kby rl nx kd sr vl fo pl li hto lto ct ka kc kl kn w h la kln nl fl tb) ss.heap.size) [oC kbt 0 [.int (nI w), .int (nI h), .int (nI la), .ref ka, .ref kc, .ref kl, .ref kn], oC kre 1 [.ref kbt, .ref kby, .int (nI rl), .int (nI nx2_53), .int (nI kd2_53), .int (nI sr2_53), .int vl2_53, .int fo2_53, .int pl2_53, .int li, .int hto, .int lto, .int ct], bA G kby 160 tb, oC kl 2 [.ref kln, .int (nI 6), .int (nI (if nl < 6 then nl + 1 else nl))], iA G kln (3 * 6) (if nl < 6 then upd (upd (upd fl (3 * nl) (nI k1)) (3 * nl + 1) bl) (3 * nl + 2) (nI 0) else fl)] := hD
              refine lv_pop hx hb dX1_takeLens_82 rfl ?_
              refine lv_iconst (v := nI 1) hx hb dX1_takeLens_83 (by decide) ?_
              have hP := hP.sub (ws' := [oC kre 1 [.ref kbt, .ref kby, .int (nI rl), .int (nI nx2_53), .int (nI kd2_53), .int (nI sr2_53), .int vl2_53, .int fo2_53, .int pl2_53, .int li, .int hto, .int lto, .int ct], oC kbt 0 [.int (nI w), .int (nI h), .int (nI la), .ref ka, .ref kc, .ref kl, .ref kn], oC kl 2 [.ref kln, .int (nI 6), .int (nI (if nl < 6 then nl + 1 else nl))], iA G kln (3 * 6) (if nl < 6 then upd (upd (upd fl (3 * nl) (nI k1)) (3 * nl + 1) bl) (3 * nl + 2) (nI 0) else fl), bA G kby 160 tb]) [1, 0, 3, 4, 2] rfl
              have hD := hD.sub (ws' := [oC kre 1 [.ref kbt, .ref kby, .int (nI rl), .int (nI nx2_53), .int (nI kd2_53), .int (nI sr2_53), .int vl2_53, .int fo2_53, .int pl2_53, .int li, .int hto, .int lto, .int ct], oC kbt 0 [.int (nI w), .int (nI h), .int (nI la), .ref ka, .ref kc, .ref kl, .ref kn], oC kl 2 [.ref kln, .int (nI 6), .int (nI (if nl < 6 then nl + 1 else nl))], iA G kln (3 * 6) (if nl < 6 then upd (upd (upd fl (3 * nl) (nI k1)) (3 * nl + 1) bl) (3 * nl + 2) (nI 0) else fl), bA G kby 160 tb]) [1, 0, 3, 4, 2] (by decide) rfl
              refine W.zret (v := nI 1) (ty := .boolean) hx hb hr (by decide) (fun t ht hW => ⟨⟨nI 1, (nx2_53, kd2_53, sr2_53, vl2_53, fo2_53, pl2_53, (if nl < 6 then nl + 1 else nl), (if nl < 6 then upd (upd (upd fl (3 * nl) (nI k1)) (3 * nl + 1) bl) (3 * nl + 2) (nI 0) else fl)), rfl, ?_, by rw [ht]; exact hP, hD⟩, hS.F ht⟩) hS.2.2 dX1_takeLens_84
              try dsimp only
              rw [hF, show 17 - i = (17 - (i + 1)) + 1 by omega, fBli_1 b56 he53 b66]; rw [if_pos (by omega), if_pos (by omega)]; exact ⟨(xb_t rfl).symm, rfl⟩
          · skip
            refine lv_iconst (v := nI 0) hx hb dX1_takeLens_59 (by decide) ?_
            have hP := hP.sub (ws' := [oC kre 1 [.ref kbt, .ref kby, .int (nI rl), .int (nI nx2_53), .int (nI kd2_53), .int (nI sr2_53), .int vl2_53, .int fo2_53, .int pl2_53, .int li, .int hto, .int lto, .int ct], oC kbt 0 [.int (nI w), .int (nI h), .int (nI la), .ref ka, .ref kc, .ref kl, .ref kn], oC kl 2 [.ref kln, .int (nI 6), .int (nI nl)], iA G kln (3 * 6) fl, bA G kby 160 tb]) [3, 0, 1, 2, 4] rfl
            have hD := hD.sub (ws' := [oC kre 1 [.ref kbt, .ref kby, .int (nI rl), .int (nI nx2_53), .int (nI kd2_53), .int (nI sr2_53), .int vl2_53, .int fo2_53, .int pl2_53, .int li, .int hto, .int lto, .int ct], oC kbt 0 [.int (nI w), .int (nI h), .int (nI la), .ref ka, .ref kc, .ref kl, .ref kn], oC kl 2 [.ref kln, .int (nI 6), .int (nI nl)], iA G kln (3 * 6) fl, bA G kby 160 tb]) [3, 0, 1, 2, 4] (by decide) rfl
            refine W.zret (v := nI 0) (ty := .boolean) hx hb hr (by decide) (fun t ht hW => ⟨⟨nI 0, (nx2_53, kd2_53, sr2_53, vl2_53, fo2_53, pl2_53, nl, fl), rfl, ?_, by rw [ht]; exact hP, hD⟩, hS.F ht⟩) hS.2.2 dX1_takeLens_60
            try dsimp only
            rw [hF, show 17 - i = (17 - (i + 1)) + 1 by omega, fBli_0 b56, ← he53]; exact ⟨(xb_f Bool.false_ne_true).symm, rfl⟩
      have hl := lv_sub hl (l' := [(0, .ref kre), (1, .int (nI k1)), (2, .int (nI 0)), (3, .int (nI 0))]) [3, 2, 1, 0] rfl
      have hP := hP.sub (ws' := [oC kbt 0 [.int (nI w), .int (nI h), .int (nI la), .ref ka, .ref kc, .ref kl, .ref kn], bA G kby 160 tb, oC kl 2 [.ref kln, .int (nI 6), .int (nI nl)], iA G kln (3 * 6) fl, oC kre 1 [.ref kbt, .ref kby, .int (nI rl), .int (nI nx2_29), .int (nI kd2_29), .int (nI sr2_29), .int (nI k1), .int fo2_29, .int pl2_29, .int li, .int hto, .int lto, .int ct]]) [0, 4, 1, 2, 3] rfl
      have hD := hD.sub (ws' := [oC kbt 0 [.int (nI w), .int (nI h), .int (nI la), .ref ka, .ref kc, .ref kl, .ref kn], bA G kby 160 tb, oC kl 2 [.ref kln, .int (nI 6), .int (nI nl)], iA G kln (3 * 6) fl, oC kre 1 [.ref kbt, .ref kby, .int (nI rl), .int (nI nx2_29), .int (nI kd2_29), .int (nI sr2_29), .int (nI k1), .int fo2_29, .int pl2_29, .int li, .int hto, .int lto, .int ct]]) [0, 4, 1, 2, 3] (by decide) rfl
      exact hL46 (17 - 0) 0 (nI 0) nx2_29 kd2_29 sr2_29 (nI k1) fo2_29 pl2_29 ls H locs rfl (by omega) (by assumption) (by exact (if_pos b12).trans (bN_ok b32 he29 (by omega))) hl hP hD hS
    · skip
      refine lv_iconst (v := nI 0) hx hb dX1_takeLens_35 (by decide) ?_
      have hP := hP.sub (ws' := [oC kre 1 [.ref kbt, .ref kby, .int (nI rl), .int (nI nx2_29), .int (nI kd2_29), .int (nI sr2_29), .int vl2_29, .int fo2_29, .int pl2_29, .int li, .int hto, .int lto, .int ct], oC kbt 0 [.int (nI w), .int (nI h), .int (nI la), .ref ka, .ref kc, .ref kl, .ref kn], oC kl 2 [.ref kln, .int (nI 6), .int (nI nl)], iA G kln (3 * 6) fl, bA G kby 160 tb]) [3, 0, 1, 2, 4] rfl
      have hD := hD.sub (ws' := [oC kre 1 [.ref kbt, .ref kby, .int (nI rl), .int (nI nx2_29), .int (nI kd2_29), .int (nI sr2_29), .int vl2_29, .int fo2_29, .int pl2_29, .int li, .int hto, .int lto, .int ct], oC kbt 0 [.int (nI w), .int (nI h), .int (nI la), .ref ka, .ref kc, .ref kl, .ref kn], oC kl 2 [.ref kln, .int (nI 6), .int (nI nl)], iA G kln (3 * 6) fl, bA G kby 160 tb]) [3, 0, 1, 2, 4] (by decide) rfl
      refine W.zret (v := nI 0) (ty := .boolean) hx hb hr (by decide) (fun t ht hW => ⟨⟨nI 0, (nx2_29, kd2_29, sr2_29, vl2_29, fo2_29, pl2_29, nl, fl), rfl, ?_, by rw [ht]; exact hP, hD⟩, hS.F ht⟩) hS.2.2 dX1_takeLens_36
      try dsimp only
      rw [show fLen tb rl nl fl (nx, kd, sr, vl, fo, pl) = _ from (if_pos b12).trans (bN_no b32 he29)]; exact ⟨(xb_f Bool.false_ne_true).symm, rfl⟩
  · skip
    refine lv_aload_n hx hb dX1_takeLens_15 rfl (lv_at hl 0 rfl) ?_
    refine lv_iconst (v := nI 5) hx hb dX1_takeLens_16 (by decide) ?_
    refine lv_aload_n hx hb dX1_takeLens_17 rfl (lv_at hl 0 rfl) ?_
    refine va_get (D := G.1) (ci := 1) (v := .int (nI sr)) (C := RX1) (T := TX1) (N := 13) hx hb hts hin1 hown hK.1 hP 0 rfl rfl 5 (by decide) (hts (.fieldLink RX1 95 "BackLenses$Reader" "start" "I") (List.mem_of_getElem? (i := 2) rfl)) (fun _ h9 => h9) rfl dX1_takeLens_18 ?_
    refine xw_i (As := [.int (nI 5), .int (nI sr)]) (rest := []) (wr := [oC kbt 0 [.int (nI w), .int (nI h), .int (nI la), .ref ka, .ref kc, .ref kl, .ref kn], oC kl 2 [.ref kln, .int (nI 6), .int (nI nl)], iA G kln (3 * 6) fl, bA G kby 160 tb]) ⟨hx, hb, hml, hown, hts⟩ (c_X1_refuse l G ss.heap.size kre kbt kby rl nx kd sr vl fo pl li hto lto ct (nI 5) (nI sr) ) (cwV 2 hts gX1_takeLens_X1_refuse rfl rfl rfl (by decide +kernel) ⟨Nat.le_of_ble_eq_true rfl, Nat.le_of_ble_eq_true rfl⟩) hK hP hD hS hA [0] [1, 2, 3, 4] rfl rfl (by decide) (by decide) (by decide) rfl rfl rfl hl.1 rfl (Nat.le_of_ble_eq_true rfl) dX1_takeLens_21 ⟨Nat.le_of_ble_eq_true rfl, Nat.le_of_ble_eq_true rfl⟩ (fun r21 u H locs hp21 hP hD hS => ?_)
    obtain rfl := hp21
    replace hP : xP G [oC kbt 0 [.int (nI w), .int (nI h), .int (nI la), .ref ka, .ref kc, .ref kl, .ref kn], oC kl 2 [.ref kln, .int (nI 6), .int (nI nl)], iA G kln (3 * 6) fl, bA G kby 160 tb, oC kre 1 [.ref kbt, .ref kby, .int (nI rl), .int (nI nx), .int (nI kd), .int (nI sr), .int vl, .int (nI 5), .int (nI sr), .int li, .int hto, .int lto, .int ct]] H := hP
    replace hD : va_D (va_A (w_X1_takeLens G kre kbt kby rl nx kd sr vl fo pl li hto lto ct ka kc kl kn w h la kln nl fl tb) ss.heap.size) [oC kbt 0 [.int (nI w), .int (nI h), .int (nI la), .ref ka, .ref kc, .ref kl, .ref kn], oC kl 2 [.ref kln, .int (nI 6), .int (nI nl)], iA G kln (3 * 6) fl, bA G kby 160 tb, oC kre 1 [.ref kbt, .ref kby, .int (nI rl), .int (nI nx), .int (nI kd), .int (nI sr), .int vl, .int (nI 5), .int (nI sr), .int li, .int hto, .int lto, .int ct]] := hD
    have hP := hP.sub (ws' := [oC kre 1 [.ref kbt, .ref kby, .int (nI rl), .int (nI nx), .int (nI kd), .int (nI sr), .int vl, .int (nI 5), .int (nI sr), .int li, .int hto, .int lto, .int ct], oC kbt 0 [.int (nI w), .int (nI h), .int (nI la), .ref ka, .ref kc, .ref kl, .ref kn], oC kl 2 [.ref kln, .int (nI 6), .int (nI nl)], iA G kln (3 * 6) fl, bA G kby 160 tb]) [4, 0, 1, 2, 3] rfl
    have hD := hD.sub (ws' := [oC kre 1 [.ref kbt, .ref kby, .int (nI rl), .int (nI nx), .int (nI kd), .int (nI sr), .int vl, .int (nI 5), .int (nI sr), .int li, .int hto, .int lto, .int ct], oC kbt 0 [.int (nI w), .int (nI h), .int (nI la), .ref ka, .ref kc, .ref kl, .ref kn], oC kl 2 [.ref kln, .int (nI 6), .int (nI nl)], iA G kln (3 * 6) fl, bA G kby 160 tb]) [4, 0, 1, 2, 3] (by decide) rfl
    refine W.zret (v := nI 0) (ty := .boolean) hx hb hr (by decide) (fun t ht hW => ⟨⟨nI 0, (nx, kd, sr, vl, (nI 5), (nI sr), nl, fl), rfl, ?_, by rw [ht]; exact hP, hD⟩, hS.F ht⟩) hS.2.2 dX1_takeLens_24
    try dsimp only
    rw [show fLen tb rl nl fl (nx, kd, sr, vl, fo, pl) = _ from if_neg (by omega)]; exact ⟨(xb_f Bool.false_ne_true).symm, rfl⟩

abbrev w_X1_takeHouse (G : XG) (kre kbt kby : Nat) (rl nx kd sr : Nat) (vl fo pl li hto lto ct : Int32) (ka kc kl kn : Nat) (w h la : Nat) (tb : Nat → Int32) : va_W := [oC kre 1 [.ref kbt, .ref kby, .int (nI rl), .int (nI nx), .int (nI kd), .int (nI sr), .int vl, .int fo, .int pl, .int li, .int hto, .int lto, .int ct], oC kbt 0 [.int (nI w), .int (nI h), .int (nI la), .ref ka, .ref kc, .ref kl, .ref kn], bA G kby 160 tb]
abbrev Q_X1_takeHouse (G : XG) (sz : Nat) (kre kbt kby : Nat) (rl nx kd sr : Nat) (vl fo pl li hto lto ct : Int32) (ka kc kl kn : Nat) (w h la : Nat) (tb : Nat → Int32) : Array Value → State → Outcome → State → Prop := (va_Qi (fun (r : Int32) (u : Nat × Nat × Nat × Int32 × Int32 × Int32 × Int32 × Nat × Nat) => r = xb ((fHou tb rl hto w h (nx, kd, sr, vl, fo, pl)).1 = true) ∧ ((u.1, u.2.1, u.2.2.1, u.2.2.2.1, u.2.2.2.2.1, u.2.2.2.2.2.1), u.2.2.2.2.2.2.1, u.2.2.2.2.2.2.2.1, u.2.2.2.2.2.2.2.2) = (fHou tb rl hto w h (nx, kd, sr, vl, fo, pl)).2) (xWb G sz (w_X1_takeHouse G kre kbt kby rl nx kd sr vl fo pl li hto lto ct ka kc kl kn w h la tb) (fun u : Nat × Nat × Nat × Int32 × Int32 × Int32 × Int32 × Nat × Nat => [oC kre 1 [.ref kbt, .ref kby, .int (nI rl), .int (nI u.1), .int (nI u.2.1), .int (nI u.2.2.1), .int u.2.2.2.1, .int u.2.2.2.2.1, .int u.2.2.2.2.2.1, .int li, .int u.2.2.2.2.2.2.1, .int lto, .int ct], oC kbt 0 [.int (nI u.2.2.2.2.2.2.2.1), .int (nI u.2.2.2.2.2.2.2.2), .int (nI la), .ref ka, .ref kc, .ref kl, .ref kn], bA G kby 160 tb])) (va_A (w_X1_takeHouse G kre kbt kby rl nx kd sr vl fo pl li hto lto ct ka kc kl kn w h la tb) sz))
set_option maxHeartbeats 4000000 in
set_option maxRecDepth 100000 in
theorem c_X1_takeHouse (l : Launch) (G : XG) (sz : Nat) (kre kbt kby : Nat) (rl nx kd sr : Nat) (vl fo pl li hto lto ct : Int32) (ka kc kl kn : Nat) (w h la : Nat) (tb : Nat → Int32) (hrl : rl ≤ 160) (hnx : nx ≤ rl) : Met l yX1_takeHouse wsX1_takeHouse ({ frames := 3, cells := 0, slots := 0, locals := 66 } : Room) (va_Pc [.ref kre] (xWp G sz (w_X1_takeHouse G kre kbt kby rl nx kd sr vl fo pl li hto lto ct ka kc kl kn w h la tb))) (Q_X1_takeHouse G sz kre kbt kby rl nx kd sr vl fo pl li hto lto ct ka kc kl kn w h la tb) 0 0 (va_A (w_X1_takeHouse G kre kbt kby rl nx kd sr vl fo pl li hto lto ct ka kc kl kn w h la tb) sz) := by
  refine Met.ofW (cc := cX1_takeHouse) (maxL := 1) (ret := (some .boolean)) (by decide) rfl ?_
  intro pp ee ss mm aa below mt cd s₁ BB hml hv
  obtain ⟨rfl, hsz, hP, hK, hD0⟩ := hv
  have hx := BB.exec
  have hb := BB.bytes
  have hr := BB.returns
  have hts := atoms_spec (ws := wsX1_takeHouse) BB.pre
  have hown : ss.vm.findClass RX1 = some mm.cls := findClass_of_methodNamed BB.named
  have hlocks := BB.notSynchronized
  subst hsz
  have hD := hD0.self (sz := ss.heap.size)
  have hA : ∀ q : Nat, ss.heap.size ≤ q → va_A (w_X1_takeHouse G kre kbt kby rl nx kd sr vl fo pl li hto lto ct ka kc kl kn w h la tb) ss.heap.size q := fun q h => Or.inr h
  have hS : va_S (va_A (w_X1_takeHouse G kre kbt kby rl nx kd sr vl fo pl li hto lto ct ka kc kl kn w h la tb) ss.heap.size) ss.heap ss.heap [] := va_S.rf
  replace hD : va_D (va_A (w_X1_takeHouse G kre kbt kby rl nx kd sr vl fo pl li hto lto ct ka kc kl kn w h la tb) ss.heap.size) [oC kre 1 [.ref kbt, .ref kby, .int (nI rl), .int (nI nx), .int (nI kd), .int (nI sr), .int vl, .int fo, .int pl, .int li, .int hto, .int lto, .int ct], oC kbt 0 [.int (nI w), .int (nI h), .int (nI la), .ref ka, .ref kc, .ref kl, .ref kn], bA G kby 160 tb] := hD
  replace hP : xP G [oC kre 1 [.ref kbt, .ref kby, .int (nI rl), .int (nI nx), .int (nI kd), .int (nI sr), .int vl, .int fo, .int pl, .int li, .int hto, .int lto, .int ct], oC kbt 0 [.int (nI w), .int (nI h), .int (nI la), .ref ka, .ref kc, .ref kl, .ref kn], bA G kby 160 tb] ss.heap := hP
  have hin0 : ∀ w ∈ u_ws RX0 TX0 7, w ∈ wsX1_takeHouse := fun w h => List.mem_cons_of_mem _ (List.mem_append_right _ h)
  have hin1 : ∀ w ∈ u_ws RX1 TX1 13, w ∈ wsX1_takeHouse := fun w h => List.mem_cons_of_mem _ (List.mem_append_left _ (List.mem_append_right _ h))
  have hl := lv_entry ([.ref kre]) (n := 1) (Nat.le_of_ble_eq_true rfl)
  rw [lg_entry_eq]
  generalize (lg_sl ([.ref kre]) ++ List.replicate (1 - (lg_sl ([.ref kre])).length) Slot.unset).toArray = ls at hl ⊢
  replace hl : lv_has ls 1 [(0, .ref kre)] := hl
  refine lv_aload_n hx hb dX1_takeHouse_0 rfl (lv_at hl 0 rfl) ?_
  refine va_get (D := G.1) (ci := 1) (v := .int hto) (C := RX1) (T := TX1) (N := 13) hx hb hts hin1 hown hK.1 hP 0 rfl rfl 10 (by decide) (hts (.fieldLink RX1 38 "BackLenses$Reader" "houseTold" "Z") (List.mem_of_getElem? (i := 1) rfl)) (fun _ h9 => h9) rfl dX1_takeHouse_1 ?_
  refine lv_if_eq (tgt := 17) hx hb dX1_takeHouse_4 rfl (fun b4 => ?_) (fun b4 => ?_)
  · skip
    refine lv_aload_n hx hb dX1_takeHouse_17 rfl (lv_at hl 0 rfl) ?_
    refine lv_iconst (v := nI 1) hx hb dX1_takeHouse_18 (by decide) ?_
    refine va_put (D := G.1) (ci := 1) (v := .int (nI 1)) (ty := .boolean) (C := RX1) (T := TX1) (N := 13) hx hb hts hin1 tyX1 tyX1_ok nmX1 hown hK.1 hP hD hS 0 rfl rfl 10 (by decide) (hts (.fieldLink RX1 38 "BackLenses$Reader" "houseTold" "Z") (List.mem_of_getElem? (i := 1) rfl)) (fun _ h9 => h9) rfl (by decide +kernel) (by decide) (by decide) (Nat.le_of_ble_eq_true rfl) dX1_takeHouse_19 (fun H locs hP hD hS => ?_)
    replace hP : xP G [oC kre 1 [.ref kbt, .ref kby, .int (nI rl), .int (nI nx), .int (nI kd), .int (nI sr), .int vl, .int fo, .int pl, .int li, .int (nI 1), .int lto, .int ct], oC kbt 0 [.int (nI w), .int (nI h), .int (nI la), .ref ka, .ref kc, .ref kl, .ref kn], bA G kby 160 tb] H := hP
    replace hD : va_D (va_A (w_X1_takeHouse G kre kbt kby rl nx kd sr vl fo pl li hto lto ct ka kc kl kn w h la tb) ss.heap.size) [oC kre 1 [.ref kbt, .ref kby, .int (nI rl), .int (nI nx), .int (nI kd), .int (nI sr), .int vl, .int fo, .int pl, .int li, .int (nI 1), .int lto, .int ct], oC kbt 0 [.int (nI w), .int (nI h), .int (nI la), .ref ka, .ref kc, .ref kl, .ref kn], bA G kby 160 tb] := hD
    refine lv_aload_n hx hb dX1_takeHouse_22 rfl (lv_at hl 0 rfl) ?_
    refine lv_iconst (v := nI 2) hx hb dX1_takeHouse_23 (by decide) ?_
    refine lv_iconst (v := nI 4) hx hb dX1_takeHouse_24 (by decide) ?_
    refine xw_i (As := [.int (nI 2), .int (nI 4)]) (rest := []) (wr := [oC kbt 0 [.int (nI w), .int (nI h), .int (nI la), .ref ka, .ref kc, .ref kl, .ref kn]]) ⟨hx, hb, hml, hown, hts⟩ (c_X1_takeNumber l G H.size kre kbt kby rl nx kd sr vl fo pl li (nI 1) lto ct tb 2 4 (by first | assumption | omega) (by first | assumption | omega) (by first | assumption | omega) (by first | assumption | omega)) (cwV 2 hts gX1_takeHouse_X1_takeNumber rfl rfl rfl (by decide +kernel) ⟨Nat.le_of_ble_eq_true rfl, Nat.le_of_ble_eq_true rfl⟩) hK hP hD hS hA [0, 2] [1] rfl rfl (by decide) (by decide) (by decide) rfl rfl rfl hl.1 rfl (Nat.le_of_ble_eq_true rfl) dX1_takeHouse_25 ⟨Nat.le_of_ble_eq_true rfl, Nat.le_of_ble_eq_true rfl⟩ (fun r25 u H locs hp25 hP hD hS => ?_)
    obtain ⟨nx2_25, kd2_25, sr2_25, vl2_25, fo2_25, pl2_25⟩ := u
    try dsimp only at hp25 hP hD
    obtain ⟨rfl, he25⟩ := hp25
    replace hP : xP G [oC kbt 0 [.int (nI w), .int (nI h), .int (nI la), .ref ka, .ref kc, .ref kl, .ref kn], oC kre 1 [.ref kbt, .ref kby, .int (nI rl), .int (nI nx2_25), .int (nI kd2_25), .int (nI sr2_25), .int vl2_25, .int fo2_25, .int pl2_25, .int li, .int (nI 1), .int lto, .int ct], bA G kby 160 tb] H := hP
    replace hD : va_D (va_A (w_X1_takeHouse G kre kbt kby rl nx kd sr vl fo pl li hto lto ct ka kc kl kn w h la tb) ss.heap.size) [oC kbt 0 [.int (nI w), .int (nI h), .int (nI la), .ref ka, .ref kc, .ref kl, .ref kn], oC kre 1 [.ref kbt, .ref kby, .int (nI rl), .int (nI nx2_25), .int (nI kd2_25), .int (nI sr2_25), .int vl2_25, .int fo2_25, .int pl2_25, .int li, .int (nI 1), .int lto, .int ct], bA G kby 160 tb] := hD
    have hn25 : nx2_25 ≤ rl := (by have hq := fNum_bd (t := tb) (rl := rl) (lo := 2) (hi := 4) (s := (nx, kd, sr, vl, fo, pl)) (by assumption); rw [← he25] at hq; exact hq.1)
    refine xb_if_ne (tgt := 33) hx hb dX1_takeHouse_28 rfl (fun b28 => ?_) (fun b28 => ?_)
    · skip
      obtain ⟨k1, hk25a, hk25b, hk25⟩ := fNum_val (by omega) b28
      rw [← he25] at hk25
      replace hk25 : vl2_25 = nI k1 := hk25
      subst hk25
      refine lv_aload_n hx hb dX1_takeHouse_33 rfl (lv_at hl 0 rfl) ?_
      refine va_get (D := G.1) (ci := 1) (v := .ref kbt) (C := RX1) (T := TX1) (N := 13) hx hb hts hin1 hown hK.1 hP 1 rfl rfl 0 (by decide) (hts (.fieldLink RX1 12 "BackLenses$Reader" "target" "LBackLenses$Book;") (List.mem_of_getElem? (i := 3) rfl)) (fun _ h9 => h9) rfl dX1_takeHouse_34 ?_
      refine lv_aload_n hx hb dX1_takeHouse_37 rfl (lv_at hl 0 rfl) ?_
      refine va_get (D := G.1) (ci := 1) (v := .int (nI k1)) (C := RX1) (T := TX1) (N := 13) hx hb hts hin1 hown hK.1 hP 1 rfl rfl 6 (by decide) (hts (.fieldLink RX1 130 "BackLenses$Reader" "value" "I") (List.mem_of_getElem? (i := 4) rfl)) (fun _ h9 => h9) rfl dX1_takeHouse_38 ?_
      refine va_putN (D := G.1) (ci := 0) (v := .int (nI k1)) (ty := .int) (C := RX0) (T := TX0) (N := 7) hx hb hts hin0 tyX0 tyX0_ok nmX0 hown hK.1 hP hD hS 0 rfl rfl 0 (by decide) (va_Nw.use rfl (hK.2 (Cond.fieldLinkNest "BackLenses$Reader" (133 : Nat) "BackLenses$Book" "wide" "I" "BackLenses") (List.mem_of_getElem? (i := 6) rfl))) (fun _ h9 => h9) rfl (by decide +kernel) rfl rfl (Nat.le_of_ble_eq_true rfl) dX1_takeHouse_41 (fun H locs hP hD hS => ?_)
      replace hP : xP G [oC kbt 0 [.int (nI k1), .int (nI h), .int (nI la), .ref ka, .ref kc, .ref kl, .ref kn], oC kre 1 [.ref kbt, .ref kby, .int (nI rl), .int (nI nx2_25), .int (nI kd2_25), .int (nI sr2_25), .int (nI k1), .int fo2_25, .int pl2_25, .int li, .int (nI 1), .int lto, .int ct], bA G kby 160 tb] H := hP
      replace hD : va_D (va_A (w_X1_takeHouse G kre kbt kby rl nx kd sr vl fo pl li hto lto ct ka kc kl kn w h la tb) ss.heap.size) [oC kbt 0 [.int (nI k1), .int (nI h), .int (nI la), .ref ka, .ref kc, .ref kl, .ref kn], oC kre 1 [.ref kbt, .ref kby, .int (nI rl), .int (nI nx2_25), .int (nI kd2_25), .int (nI sr2_25), .int (nI k1), .int fo2_25, .int pl2_25, .int li, .int (nI 1), .int lto, .int ct], bA G kby 160 tb] := hD
      refine lv_aload_n hx hb dX1_takeHouse_44 rfl (lv_at hl 0 rfl) ?_
      refine lv_iconst (v := nI 2) hx hb dX1_takeHouse_45 (by decide) ?_
      refine lv_iconst (v := nI 4) hx hb dX1_takeHouse_46 (by decide) ?_
      refine xw_i (As := [.int (nI 2), .int (nI 4)]) (rest := []) (wr := [oC kbt 0 [.int (nI k1), .int (nI h), .int (nI la), .ref ka, .ref kc, .ref kl, .ref kn]]) ⟨hx, hb, hml, hown, hts⟩ (c_X1_takeNumber l G H.size kre kbt kby rl nx2_25 kd2_25 sr2_25 (nI k1) fo2_25 pl2_25 li (nI 1) lto ct tb 2 4 (by first | assumption | omega) (by first | assumption | omega) (by first | assumption | omega) (by first | assumption | omega)) (cwV 2 hts gX1_takeHouse_X1_takeNumber rfl rfl rfl (by decide +kernel) ⟨Nat.le_of_ble_eq_true rfl, Nat.le_of_ble_eq_true rfl⟩) hK hP hD hS hA [1, 2] [0] rfl rfl (by decide) (by decide) (by decide) rfl rfl rfl hl.1 rfl (Nat.le_of_ble_eq_true rfl) dX1_takeHouse_47 ⟨Nat.le_of_ble_eq_true rfl, Nat.le_of_ble_eq_true rfl⟩ (fun r47 u H locs hp47 hP hD hS => ?_)
      obtain ⟨nx2_47, kd2_47, sr2_47, vl2_47, fo2_47, pl2_47⟩ := u
      try dsimp only at hp47 hP hD
      obtain ⟨rfl, he47⟩ := hp47
      replace hP : xP G [oC kbt 0 [.int (nI k1), .int (nI h), .int (nI la), .ref ka, .ref kc, .ref kl, .ref kn], oC kre 1 [.ref kbt, .ref kby, .int (nI rl), .int (nI nx2_47), .int (nI kd2_47), .int (nI sr2_47), .int vl2_47, .int fo2_47, .int pl2_47, .int li, .int (nI 1), .int lto, .int ct], bA G kby 160 tb] H := hP
      replace hD : va_D (va_A (w_X1_takeHouse G kre kbt kby rl nx kd sr vl fo pl li hto lto ct ka kc kl kn w h la tb) ss.heap.size) [oC kbt 0 [.int (nI k1), .int (nI h), .int (nI la), .ref ka, .ref kc, .ref kl, .ref kn], oC kre 1 [.ref kbt, .ref kby, .int (nI rl), .int (nI nx2_47), .int (nI kd2_47), .int (nI sr2_47), .int vl2_47, .int fo2_47, .int pl2_47, .int li, .int (nI 1), .int lto, .int ct], bA G kby 160 tb] := hD
      have hn47 : nx2_47 ≤ rl := (by have hq := fNum_bd (t := tb) (rl := rl) (lo := 2) (hi := 4) (s := (nx2_25, kd2_25, sr2_25, nI k1, fo2_25, pl2_25)) (by assumption); rw [← he47] at hq; exact hq.1)
      refine xb_if_ne (tgt := 55) hx hb dX1_takeHouse_50 rfl (fun b50 => ?_) (fun b50 => ?_)
      · skip
        obtain ⟨k2, hk47a, hk47b, hk47⟩ := fNum_val (by omega) b50
        rw [← he47] at hk47
        replace hk47 : vl2_47 = nI k2 := hk47
        subst hk47
        refine lv_aload_n hx hb dX1_takeHouse_55 rfl (lv_at hl 0 rfl) ?_
        refine va_get (D := G.1) (ci := 1) (v := .ref kbt) (C := RX1) (T := TX1) (N := 13) hx hb hts hin1 hown hK.1 hP 1 rfl rfl 0 (by decide) (hts (.fieldLink RX1 12 "BackLenses$Reader" "target" "LBackLenses$Book;") (List.mem_of_getElem? (i := 3) rfl)) (fun _ h9 => h9) rfl dX1_takeHouse_56 ?_
        refine lv_aload_n hx hb dX1_takeHouse_59 rfl (lv_at hl 0 rfl) ?_
        refine va_get (D := G.1) (ci := 1) (v := .int (nI k2)) (C := RX1) (T := TX1) (N := 13) hx hb hts hin1 hown hK.1 hP 1 rfl rfl 6 (by decide) (hts (.fieldLink RX1 130 "BackLenses$Reader" "value" "I") (List.mem_of_getElem? (i := 4) rfl)) (fun _ h9 => h9) rfl dX1_takeHouse_60 ?_
        refine va_putN (D := G.1) (ci := 0) (v := .int (nI k2)) (ty := .int) (C := RX0) (T := TX0) (N := 7) hx hb hts hin0 tyX0 tyX0_ok nmX0 hown hK.1 hP hD hS 0 rfl rfl 1 (by decide) (va_Nw.use rfl (hK.2 (Cond.fieldLinkNest "BackLenses$Reader" (136 : Nat) "BackLenses$Book" "high" "I" "BackLenses") (List.mem_of_getElem? (i := 9) rfl))) (fun _ h9 => h9) rfl (by decide +kernel) rfl rfl (Nat.le_of_ble_eq_true rfl) dX1_takeHouse_63 (fun H locs hP hD hS => ?_)
        replace hP : xP G [oC kbt 0 [.int (nI k1), .int (nI k2), .int (nI la), .ref ka, .ref kc, .ref kl, .ref kn], oC kre 1 [.ref kbt, .ref kby, .int (nI rl), .int (nI nx2_47), .int (nI kd2_47), .int (nI sr2_47), .int (nI k2), .int fo2_47, .int pl2_47, .int li, .int (nI 1), .int lto, .int ct], bA G kby 160 tb] H := hP
        replace hD : va_D (va_A (w_X1_takeHouse G kre kbt kby rl nx kd sr vl fo pl li hto lto ct ka kc kl kn w h la tb) ss.heap.size) [oC kbt 0 [.int (nI k1), .int (nI k2), .int (nI la), .ref ka, .ref kc, .ref kl, .ref kn], oC kre 1 [.ref kbt, .ref kby, .int (nI rl), .int (nI nx2_47), .int (nI kd2_47), .int (nI sr2_47), .int (nI k2), .int fo2_47, .int pl2_47, .int li, .int (nI 1), .int lto, .int ct], bA G kby 160 tb] := hD
        refine lv_aload_n hx hb dX1_takeHouse_66 rfl (lv_at hl 0 rfl) ?_
        refine xw_i (As := []) (rest := []) (wr := [oC kbt 0 [.int (nI k1), .int (nI k2), .int (nI la), .ref ka, .ref kc, .ref kl, .ref kn]]) ⟨hx, hb, hml, hown, hts⟩ (c_X1_takeSemicolon l G H.size kre kbt kby rl nx2_47 kd2_47 sr2_47 (nI k2) fo2_47 pl2_47 li (nI 1) lto ct tb (by first | assumption | omega) (by first | assumption | omega)) (cwV 0 hts gX1_takeHouse_X1_takeSemicolon rfl rfl rfl (by decide +kernel) ⟨Nat.le_of_ble_eq_true rfl, Nat.le_of_ble_eq_true rfl⟩) hK hP hD hS hA [1, 2] [0] rfl rfl (by decide) (by decide) (by decide) rfl rfl rfl hl.1 rfl (Nat.le_of_ble_eq_true rfl) dX1_takeHouse_67 ⟨Nat.le_of_ble_eq_true rfl, Nat.le_of_ble_eq_true rfl⟩ (fun r67 u H locs hp67 hP hD hS => ?_)
        obtain ⟨nx2_67, kd2_67, sr2_67, vl2_67, fo2_67, pl2_67⟩ := u
        try dsimp only at hp67 hP hD
        obtain ⟨rfl, he67⟩ := hp67
        replace hP : xP G [oC kbt 0 [.int (nI k1), .int (nI k2), .int (nI la), .ref ka, .ref kc, .ref kl, .ref kn], oC kre 1 [.ref kbt, .ref kby, .int (nI rl), .int (nI nx2_67), .int (nI kd2_67), .int (nI sr2_67), .int vl2_67, .int fo2_67, .int pl2_67, .int li, .int (nI 1), .int lto, .int ct], bA G kby 160 tb] H := hP
        replace hD : va_D (va_A (w_X1_takeHouse G kre kbt kby rl nx kd sr vl fo pl li hto lto ct ka kc kl kn w h la tb) ss.heap.size) [oC kbt 0 [.int (nI k1), .int (nI k2), .int (nI la), .ref ka, .ref kc, .ref kl, .ref kn], oC kre 1 [.ref kbt, .ref kby, .int (nI rl), .int (nI nx2_67), .int (nI kd2_67), .int (nI sr2_67), .int vl2_67, .int fo2_67, .int pl2_67, .int li, .int (nI 1), .int lto, .int ct], bA G kby 160 tb] := hD
        have hP := hP.sub (ws' := [oC kre 1 [.ref kbt, .ref kby, .int (nI rl), .int (nI nx2_67), .int (nI kd2_67), .int (nI sr2_67), .int vl2_67, .int fo2_67, .int pl2_67, .int li, .int (nI 1), .int lto, .int ct], oC kbt 0 [.int (nI k1), .int (nI k2), .int (nI la), .ref ka, .ref kc, .ref kl, .ref kn], bA G kby 160 tb]) [1, 0, 2] rfl
        have hD := hD.sub (ws' := [oC kre 1 [.ref kbt, .ref kby, .int (nI rl), .int (nI nx2_67), .int (nI kd2_67), .int (nI sr2_67), .int vl2_67, .int fo2_67, .int pl2_67, .int li, .int (nI 1), .int lto, .int ct], oC kbt 0 [.int (nI k1), .int (nI k2), .int (nI la), .ref ka, .ref kc, .ref kl, .ref kn], bA G kby 160 tb]) [1, 0, 2] (by decide) rfl
        refine W.zret (v := xb ((fSem tb rl (nx2_47, kd2_47, sr2_47, (nI k2), fo2_47, pl2_47)).1 = true)) (ty := .boolean) hx hb hr xb_nar (fun t ht hW => ⟨⟨xb ((fSem tb rl (nx2_47, kd2_47, sr2_47, (nI k2), fo2_47, pl2_47)).1 = true), (nx2_67, kd2_67, sr2_67, vl2_67, fo2_67, pl2_67, (nI 1), k1, k2), rfl, ?_, by rw [ht]; exact hP, hD⟩, hS.F ht⟩) hS.2.2 dX1_takeHouse_70
        try dsimp only
        rw [show fHou tb rl hto w h (nx, kd, sr, vl, fo, pl) = _ from (if_pos b4).trans ((bN_ok b28 he25 (by omega)).trans (bN_ok b50 he47 (by omega)))]; exact ⟨rfl, congrArg (fun a => (a, _)) he67⟩
      · skip
        refine lv_iconst (v := nI 0) hx hb dX1_takeHouse_53 (by decide) ?_
        have hP := hP.sub (ws' := [oC kre 1 [.ref kbt, .ref kby, .int (nI rl), .int (nI nx2_47), .int (nI kd2_47), .int (nI sr2_47), .int vl2_47, .int fo2_47, .int pl2_47, .int li, .int (nI 1), .int lto, .int ct], oC kbt 0 [.int (nI k1), .int (nI h), .int (nI la), .ref ka, .ref kc, .ref kl, .ref kn], bA G kby 160 tb]) [1, 0, 2] rfl
        have hD := hD.sub (ws' := [oC kre 1 [.ref kbt, .ref kby, .int (nI rl), .int (nI nx2_47), .int (nI kd2_47), .int (nI sr2_47), .int vl2_47, .int fo2_47, .int pl2_47, .int li, .int (nI 1), .int lto, .int ct], oC kbt 0 [.int (nI k1), .int (nI h), .int (nI la), .ref ka, .ref kc, .ref kl, .ref kn], bA G kby 160 tb]) [1, 0, 2] (by decide) rfl
        refine W.zret (v := nI 0) (ty := .boolean) hx hb hr (by decide) (fun t ht hW => ⟨⟨nI 0, (nx2_47, kd2_47, sr2_47, vl2_47, fo2_47, pl2_47, (nI 1), k1, h), rfl, ?_, by rw [ht]; exact hP, hD⟩, hS.F ht⟩) hS.2.2 dX1_takeHouse_54
        try dsimp only
        rw [show fHou tb rl hto w h (nx, kd, sr, vl, fo, pl) = _ from (if_pos b4).trans ((bN_ok b28 he25 (by omega)).trans (bN_no b50 he47))]; exact ⟨(xb_f Bool.false_ne_true).symm, rfl⟩
    · skip
      refine lv_iconst (v := nI 0) hx hb dX1_takeHouse_31 (by decide) ?_
      have hP := hP.sub (ws' := [oC kre 1 [.ref kbt, .ref kby, .int (nI rl), .int (nI nx2_25), .int (nI kd2_25), .int (nI sr2_25), .int vl2_25, .int fo2_25, .int pl2_25, .int li, .int (nI 1), .int lto, .int ct], oC kbt 0 [.int (nI w), .int (nI h), .int (nI la), .ref ka, .ref kc, .ref kl, .ref kn], bA G kby 160 tb]) [1, 0, 2] rfl
      have hD := hD.sub (ws' := [oC kre 1 [.ref kbt, .ref kby, .int (nI rl), .int (nI nx2_25), .int (nI kd2_25), .int (nI sr2_25), .int vl2_25, .int fo2_25, .int pl2_25, .int li, .int (nI 1), .int lto, .int ct], oC kbt 0 [.int (nI w), .int (nI h), .int (nI la), .ref ka, .ref kc, .ref kl, .ref kn], bA G kby 160 tb]) [1, 0, 2] (by decide) rfl
      refine W.zret (v := nI 0) (ty := .boolean) hx hb hr (by decide) (fun t ht hW => ⟨⟨nI 0, (nx2_25, kd2_25, sr2_25, vl2_25, fo2_25, pl2_25, (nI 1), w, h), rfl, ?_, by rw [ht]; exact hP, hD⟩, hS.F ht⟩) hS.2.2 dX1_takeHouse_32
      try dsimp only
      rw [show fHou tb rl hto w h (nx, kd, sr, vl, fo, pl) = _ from (if_pos b4).trans (bN_no b28 he25)]; exact ⟨(xb_f Bool.false_ne_true).symm, rfl⟩
  · skip
    refine lv_aload_n hx hb dX1_takeHouse_7 rfl (lv_at hl 0 rfl) ?_
    refine lv_iconst (v := nI 4) hx hb dX1_takeHouse_8 (by decide) ?_
    refine lv_aload_n hx hb dX1_takeHouse_9 rfl (lv_at hl 0 rfl) ?_
    refine va_get (D := G.1) (ci := 1) (v := .int (nI sr)) (C := RX1) (T := TX1) (N := 13) hx hb hts hin1 hown hK.1 hP 0 rfl rfl 5 (by decide) (hts (.fieldLink RX1 95 "BackLenses$Reader" "start" "I") (List.mem_of_getElem? (i := 2) rfl)) (fun _ h9 => h9) rfl dX1_takeHouse_10 ?_
    refine xw_i (As := [.int (nI 4), .int (nI sr)]) (rest := []) (wr := [oC kbt 0 [.int (nI w), .int (nI h), .int (nI la), .ref ka, .ref kc, .ref kl, .ref kn], bA G kby 160 tb]) ⟨hx, hb, hml, hown, hts⟩ (c_X1_refuse l G ss.heap.size kre kbt kby rl nx kd sr vl fo pl li hto lto ct (nI 4) (nI sr) ) (cwV 2 hts gX1_takeHouse_X1_refuse rfl rfl rfl (by decide +kernel) ⟨Nat.le_of_ble_eq_true rfl, Nat.le_of_ble_eq_true rfl⟩) hK hP hD hS hA [0] [1, 2] rfl rfl (by decide) (by decide) (by decide) rfl rfl rfl hl.1 rfl (Nat.le_of_ble_eq_true rfl) dX1_takeHouse_13 ⟨Nat.le_of_ble_eq_true rfl, Nat.le_of_ble_eq_true rfl⟩ (fun r13 u H locs hp13 hP hD hS => ?_)
    obtain rfl := hp13
    replace hP : xP G [oC kbt 0 [.int (nI w), .int (nI h), .int (nI la), .ref ka, .ref kc, .ref kl, .ref kn], bA G kby 160 tb, oC kre 1 [.ref kbt, .ref kby, .int (nI rl), .int (nI nx), .int (nI kd), .int (nI sr), .int vl, .int (nI 4), .int (nI sr), .int li, .int hto, .int lto, .int ct]] H := hP
    replace hD : va_D (va_A (w_X1_takeHouse G kre kbt kby rl nx kd sr vl fo pl li hto lto ct ka kc kl kn w h la tb) ss.heap.size) [oC kbt 0 [.int (nI w), .int (nI h), .int (nI la), .ref ka, .ref kc, .ref kl, .ref kn], bA G kby 160 tb, oC kre 1 [.ref kbt, .ref kby, .int (nI rl), .int (nI nx), .int (nI kd), .int (nI sr), .int vl, .int (nI 4), .int (nI sr), .int li, .int hto, .int lto, .int ct]] := hD
    have hP := hP.sub (ws' := [oC kre 1 [.ref kbt, .ref kby, .int (nI rl), .int (nI nx), .int (nI kd), .int (nI sr), .int vl, .int (nI 4), .int (nI sr), .int li, .int hto, .int lto, .int ct], oC kbt 0 [.int (nI w), .int (nI h), .int (nI la), .ref ka, .ref kc, .ref kl, .ref kn], bA G kby 160 tb]) [2, 0, 1] rfl
    have hD := hD.sub (ws' := [oC kre 1 [.ref kbt, .ref kby, .int (nI rl), .int (nI nx), .int (nI kd), .int (nI sr), .int vl, .int (nI 4), .int (nI sr), .int li, .int hto, .int lto, .int ct], oC kbt 0 [.int (nI w), .int (nI h), .int (nI la), .ref ka, .ref kc, .ref kl, .ref kn], bA G kby 160 tb]) [2, 0, 1] (by decide) rfl
    refine W.zret (v := nI 0) (ty := .boolean) hx hb hr (by decide) (fun t ht hW => ⟨⟨nI 0, (nx, kd, sr, vl, (nI 4), (nI sr), hto, w, h), rfl, ?_, by rw [ht]; exact hP, hD⟩, hS.F ht⟩) hS.2.2 dX1_takeHouse_16
    try dsimp only
    rw [show fHou tb rl hto w h (nx, kd, sr, vl, fo, pl) = _ from if_neg b4]; exact ⟨(xb_f Bool.false_ne_true).symm, rfl⟩

abbrev w_X1_takeLast (G : XG) (kre kbt kby : Nat) (rl nx kd sr : Nat) (vl fo pl li hto lto ct : Int32) (ka kc kl kn : Nat) (w h la : Nat) (tb : Nat → Int32) : va_W := [oC kre 1 [.ref kbt, .ref kby, .int (nI rl), .int (nI nx), .int (nI kd), .int (nI sr), .int vl, .int fo, .int pl, .int li, .int hto, .int lto, .int ct], oC kbt 0 [.int (nI w), .int (nI h), .int (nI la), .ref ka, .ref kc, .ref kl, .ref kn], bA G kby 160 tb]
abbrev Q_X1_takeLast (G : XG) (sz : Nat) (kre kbt kby : Nat) (rl nx kd sr : Nat) (vl fo pl li hto lto ct : Int32) (ka kc kl kn : Nat) (w h la : Nat) (tb : Nat → Int32) : Array Value → State → Outcome → State → Prop := (va_Qi (fun (r : Int32) (u : Nat × Nat × Nat × Int32 × Int32 × Int32 × Int32 × Nat) => r = xb ((fLas tb rl lto la (nx, kd, sr, vl, fo, pl)).1 = true) ∧ ((u.1, u.2.1, u.2.2.1, u.2.2.2.1, u.2.2.2.2.1, u.2.2.2.2.2.1), u.2.2.2.2.2.2.1, u.2.2.2.2.2.2.2) = (fLas tb rl lto la (nx, kd, sr, vl, fo, pl)).2) (xWb G sz (w_X1_takeLast G kre kbt kby rl nx kd sr vl fo pl li hto lto ct ka kc kl kn w h la tb) (fun u : Nat × Nat × Nat × Int32 × Int32 × Int32 × Int32 × Nat => [oC kre 1 [.ref kbt, .ref kby, .int (nI rl), .int (nI u.1), .int (nI u.2.1), .int (nI u.2.2.1), .int u.2.2.2.1, .int u.2.2.2.2.1, .int u.2.2.2.2.2.1, .int li, .int hto, .int u.2.2.2.2.2.2.1, .int ct], oC kbt 0 [.int (nI w), .int (nI h), .int (nI u.2.2.2.2.2.2.2), .ref ka, .ref kc, .ref kl, .ref kn], bA G kby 160 tb])) (va_A (w_X1_takeLast G kre kbt kby rl nx kd sr vl fo pl li hto lto ct ka kc kl kn w h la tb) sz))
set_option maxHeartbeats 4000000 in
set_option maxRecDepth 100000 in
theorem c_X1_takeLast (l : Launch) (G : XG) (sz : Nat) (kre kbt kby : Nat) (rl nx kd sr : Nat) (vl fo pl li hto lto ct : Int32) (ka kc kl kn : Nat) (w h la : Nat) (tb : Nat → Int32) (hrl : rl ≤ 160) (hnx : nx ≤ rl) : Met l yX1_takeLast wsX1_takeLast ({ frames := 3, cells := 0, slots := 0, locals := 66 } : Room) (va_Pc [.ref kre] (xWp G sz (w_X1_takeLast G kre kbt kby rl nx kd sr vl fo pl li hto lto ct ka kc kl kn w h la tb))) (Q_X1_takeLast G sz kre kbt kby rl nx kd sr vl fo pl li hto lto ct ka kc kl kn w h la tb) 0 0 (va_A (w_X1_takeLast G kre kbt kby rl nx kd sr vl fo pl li hto lto ct ka kc kl kn w h la tb) sz) := by
  refine Met.ofW (cc := cX1_takeLast) (maxL := 1) (ret := (some .boolean)) (by decide) rfl ?_
  intro pp ee ss mm aa below mt cd s₁ BB hml hv
  obtain ⟨rfl, hsz, hP, hK, hD0⟩ := hv
  have hx := BB.exec
  have hb := BB.bytes
  have hr := BB.returns
  have hts := atoms_spec (ws := wsX1_takeLast) BB.pre
  have hown : ss.vm.findClass RX1 = some mm.cls := findClass_of_methodNamed BB.named
  have hlocks := BB.notSynchronized
  subst hsz
  have hD := hD0.self (sz := ss.heap.size)
  have hA : ∀ q : Nat, ss.heap.size ≤ q → va_A (w_X1_takeLast G kre kbt kby rl nx kd sr vl fo pl li hto lto ct ka kc kl kn w h la tb) ss.heap.size q := fun q h => Or.inr h
  have hS : va_S (va_A (w_X1_takeLast G kre kbt kby rl nx kd sr vl fo pl li hto lto ct ka kc kl kn w h la tb) ss.heap.size) ss.heap ss.heap [] := va_S.rf
  replace hD : va_D (va_A (w_X1_takeLast G kre kbt kby rl nx kd sr vl fo pl li hto lto ct ka kc kl kn w h la tb) ss.heap.size) [oC kre 1 [.ref kbt, .ref kby, .int (nI rl), .int (nI nx), .int (nI kd), .int (nI sr), .int vl, .int fo, .int pl, .int li, .int hto, .int lto, .int ct], oC kbt 0 [.int (nI w), .int (nI h), .int (nI la), .ref ka, .ref kc, .ref kl, .ref kn], bA G kby 160 tb] := hD
  replace hP : xP G [oC kre 1 [.ref kbt, .ref kby, .int (nI rl), .int (nI nx), .int (nI kd), .int (nI sr), .int vl, .int fo, .int pl, .int li, .int hto, .int lto, .int ct], oC kbt 0 [.int (nI w), .int (nI h), .int (nI la), .ref ka, .ref kc, .ref kl, .ref kn], bA G kby 160 tb] ss.heap := hP
  have hin0 : ∀ w ∈ u_ws RX0 TX0 7, w ∈ wsX1_takeLast := fun w h => List.mem_cons_of_mem _ (List.mem_append_right _ h)
  have hin1 : ∀ w ∈ u_ws RX1 TX1 13, w ∈ wsX1_takeLast := fun w h => List.mem_cons_of_mem _ (List.mem_append_left _ (List.mem_append_right _ h))
  have hl := lv_entry ([.ref kre]) (n := 1) (Nat.le_of_ble_eq_true rfl)
  rw [lg_entry_eq]
  generalize (lg_sl ([.ref kre]) ++ List.replicate (1 - (lg_sl ([.ref kre])).length) Slot.unset).toArray = ls at hl ⊢
  replace hl : lv_has ls 1 [(0, .ref kre)] := hl
  refine lv_aload_n hx hb dX1_takeLast_0 rfl (lv_at hl 0 rfl) ?_
  refine va_get (D := G.1) (ci := 1) (v := .int lto) (C := RX1) (T := TX1) (N := 13) hx hb hts hin1 hown hK.1 hP 0 rfl rfl 11 (by decide) (hts (.fieldLink RX1 42 "BackLenses$Reader" "lastTold" "Z") (List.mem_of_getElem? (i := 1) rfl)) (fun _ h9 => h9) rfl dX1_takeLast_1 ?_
  refine lv_if_eq (tgt := 17) hx hb dX1_takeLast_4 rfl (fun b4 => ?_) (fun b4 => ?_)
  · skip
    refine lv_aload_n hx hb dX1_takeLast_17 rfl (lv_at hl 0 rfl) ?_
    refine lv_iconst (v := nI 1) hx hb dX1_takeLast_18 (by decide) ?_
    refine va_put (D := G.1) (ci := 1) (v := .int (nI 1)) (ty := .boolean) (C := RX1) (T := TX1) (N := 13) hx hb hts hin1 tyX1 tyX1_ok nmX1 hown hK.1 hP hD hS 0 rfl rfl 11 (by decide) (hts (.fieldLink RX1 42 "BackLenses$Reader" "lastTold" "Z") (List.mem_of_getElem? (i := 1) rfl)) (fun _ h9 => h9) rfl (by decide +kernel) (by decide) (by decide) (Nat.le_of_ble_eq_true rfl) dX1_takeLast_19 (fun H locs hP hD hS => ?_)
    replace hP : xP G [oC kre 1 [.ref kbt, .ref kby, .int (nI rl), .int (nI nx), .int (nI kd), .int (nI sr), .int vl, .int fo, .int pl, .int li, .int hto, .int (nI 1), .int ct], oC kbt 0 [.int (nI w), .int (nI h), .int (nI la), .ref ka, .ref kc, .ref kl, .ref kn], bA G kby 160 tb] H := hP
    replace hD : va_D (va_A (w_X1_takeLast G kre kbt kby rl nx kd sr vl fo pl li hto lto ct ka kc kl kn w h la tb) ss.heap.size) [oC kre 1 [.ref kbt, .ref kby, .int (nI rl), .int (nI nx), .int (nI kd), .int (nI sr), .int vl, .int fo, .int pl, .int li, .int hto, .int (nI 1), .int ct], oC kbt 0 [.int (nI w), .int (nI h), .int (nI la), .ref ka, .ref kc, .ref kl, .ref kn], bA G kby 160 tb] := hD
    refine lv_aload_n hx hb dX1_takeLast_22 rfl (lv_at hl 0 rfl) ?_
    refine lv_iconst (v := nI 0) hx hb dX1_takeLast_23 (by decide) ?_
    refine lv_bipush (v := nI 9) hx hb dX1_takeLast_24 (by decide) ?_
    refine xw_i (As := [.int (nI 0), .int (nI 9)]) (rest := []) (wr := [oC kbt 0 [.int (nI w), .int (nI h), .int (nI la), .ref ka, .ref kc, .ref kl, .ref kn]]) ⟨hx, hb, hml, hown, hts⟩ (c_X1_takeNumber l G H.size kre kbt kby rl nx kd sr vl fo pl li hto (nI 1) ct tb 0 9 (by first | assumption | omega) (by first | assumption | omega) (by first | assumption | omega) (by first | assumption | omega)) (cwV 2 hts gX1_takeLast_X1_takeNumber rfl rfl rfl (by decide +kernel) ⟨Nat.le_of_ble_eq_true rfl, Nat.le_of_ble_eq_true rfl⟩) hK hP hD hS hA [0, 2] [1] rfl rfl (by decide) (by decide) (by decide) rfl rfl rfl hl.1 rfl (Nat.le_of_ble_eq_true rfl) dX1_takeLast_26 ⟨Nat.le_of_ble_eq_true rfl, Nat.le_of_ble_eq_true rfl⟩ (fun r26 u H locs hp26 hP hD hS => ?_)
    obtain ⟨nx2_26, kd2_26, sr2_26, vl2_26, fo2_26, pl2_26⟩ := u
    try dsimp only at hp26 hP hD
    obtain ⟨rfl, he26⟩ := hp26
    replace hP : xP G [oC kbt 0 [.int (nI w), .int (nI h), .int (nI la), .ref ka, .ref kc, .ref kl, .ref kn], oC kre 1 [.ref kbt, .ref kby, .int (nI rl), .int (nI nx2_26), .int (nI kd2_26), .int (nI sr2_26), .int vl2_26, .int fo2_26, .int pl2_26, .int li, .int hto, .int (nI 1), .int ct], bA G kby 160 tb] H := hP
    replace hD : va_D (va_A (w_X1_takeLast G kre kbt kby rl nx kd sr vl fo pl li hto lto ct ka kc kl kn w h la tb) ss.heap.size) [oC kbt 0 [.int (nI w), .int (nI h), .int (nI la), .ref ka, .ref kc, .ref kl, .ref kn], oC kre 1 [.ref kbt, .ref kby, .int (nI rl), .int (nI nx2_26), .int (nI kd2_26), .int (nI sr2_26), .int vl2_26, .int fo2_26, .int pl2_26, .int li, .int hto, .int (nI 1), .int ct], bA G kby 160 tb] := hD
    have hn26 : nx2_26 ≤ rl := (by have hq := fNum_bd (t := tb) (rl := rl) (lo := 0) (hi := 9) (s := (nx, kd, sr, vl, fo, pl)) (by assumption); rw [← he26] at hq; exact hq.1)
    refine xb_if_ne (tgt := 34) hx hb dX1_takeLast_29 rfl (fun b29 => ?_) (fun b29 => ?_)
    · skip
      obtain ⟨k1, hk26a, hk26b, hk26⟩ := fNum_val (by omega) b29
      rw [← he26] at hk26
      replace hk26 : vl2_26 = nI k1 := hk26
      subst hk26
      refine lv_aload_n hx hb dX1_takeLast_34 rfl (lv_at hl 0 rfl) ?_
      refine va_get (D := G.1) (ci := 1) (v := .ref kbt) (C := RX1) (T := TX1) (N := 13) hx hb hts hin1 hown hK.1 hP 1 rfl rfl 0 (by decide) (hts (.fieldLink RX1 12 "BackLenses$Reader" "target" "LBackLenses$Book;") (List.mem_of_getElem? (i := 3) rfl)) (fun _ h9 => h9) rfl dX1_takeLast_35 ?_
      refine lv_aload_n hx hb dX1_takeLast_38 rfl (lv_at hl 0 rfl) ?_
      refine va_get (D := G.1) (ci := 1) (v := .int (nI k1)) (C := RX1) (T := TX1) (N := 13) hx hb hts hin1 hown hK.1 hP 1 rfl rfl 6 (by decide) (hts (.fieldLink RX1 130 "BackLenses$Reader" "value" "I") (List.mem_of_getElem? (i := 4) rfl)) (fun _ h9 => h9) rfl dX1_takeLast_39 ?_
      refine va_putN (D := G.1) (ci := 0) (v := .int (nI k1)) (ty := .int) (C := RX0) (T := TX0) (N := 7) hx hb hts hin0 tyX0 tyX0_ok nmX0 hown hK.1 hP hD hS 0 rfl rfl 2 (by decide) (va_Nw.use rfl (hK.2 (Cond.fieldLinkNest "BackLenses$Reader" (142 : Nat) "BackLenses$Book" "last" "I" "BackLenses") (List.mem_of_getElem? (i := 12) rfl))) (fun _ h9 => h9) rfl (by decide +kernel) rfl rfl (Nat.le_of_ble_eq_true rfl) dX1_takeLast_42 (fun H locs hP hD hS => ?_)
      replace hP : xP G [oC kbt 0 [.int (nI w), .int (nI h), .int (nI k1), .ref ka, .ref kc, .ref kl, .ref kn], oC kre 1 [.ref kbt, .ref kby, .int (nI rl), .int (nI nx2_26), .int (nI kd2_26), .int (nI sr2_26), .int (nI k1), .int fo2_26, .int pl2_26, .int li, .int hto, .int (nI 1), .int ct], bA G kby 160 tb] H := hP
      replace hD : va_D (va_A (w_X1_takeLast G kre kbt kby rl nx kd sr vl fo pl li hto lto ct ka kc kl kn w h la tb) ss.heap.size) [oC kbt 0 [.int (nI w), .int (nI h), .int (nI k1), .ref ka, .ref kc, .ref kl, .ref kn], oC kre 1 [.ref kbt, .ref kby, .int (nI rl), .int (nI nx2_26), .int (nI kd2_26), .int (nI sr2_26), .int (nI k1), .int fo2_26, .int pl2_26, .int li, .int hto, .int (nI 1), .int ct], bA G kby 160 tb] := hD
      refine lv_aload_n hx hb dX1_takeLast_45 rfl (lv_at hl 0 rfl) ?_
      refine xw_i (As := []) (rest := []) (wr := [oC kbt 0 [.int (nI w), .int (nI h), .int (nI k1), .ref ka, .ref kc, .ref kl, .ref kn]]) ⟨hx, hb, hml, hown, hts⟩ (c_X1_takeSemicolon l G H.size kre kbt kby rl nx2_26 kd2_26 sr2_26 (nI k1) fo2_26 pl2_26 li hto (nI 1) ct tb (by first | assumption | omega) (by first | assumption | omega)) (cwV 0 hts gX1_takeLast_X1_takeSemicolon rfl rfl rfl (by decide +kernel) ⟨Nat.le_of_ble_eq_true rfl, Nat.le_of_ble_eq_true rfl⟩) hK hP hD hS hA [1, 2] [0] rfl rfl (by decide) (by decide) (by decide) rfl rfl rfl hl.1 rfl (Nat.le_of_ble_eq_true rfl) dX1_takeLast_46 ⟨Nat.le_of_ble_eq_true rfl, Nat.le_of_ble_eq_true rfl⟩ (fun r46 u H locs hp46 hP hD hS => ?_)
      obtain ⟨nx2_46, kd2_46, sr2_46, vl2_46, fo2_46, pl2_46⟩ := u
      try dsimp only at hp46 hP hD
      obtain ⟨rfl, he46⟩ := hp46
      replace hP : xP G [oC kbt 0 [.int (nI w), .int (nI h), .int (nI k1), .ref ka, .ref kc, .ref kl, .ref kn], oC kre 1 [.ref kbt, .ref kby, .int (nI rl), .int (nI nx2_46), .int (nI kd2_46), .int (nI sr2_46), .int vl2_46, .int fo2_46, .int pl2_46, .int li, .int hto, .int (nI 1), .int ct], bA G kby 160 tb] H := hP
      replace hD : va_D (va_A (w_X1_takeLast G kre kbt kby rl nx kd sr vl fo pl li hto lto ct ka kc kl kn w h la tb) ss.heap.size) [oC kbt 0 [.int (nI w), .int (nI h), .int (nI k1), .ref ka, .ref kc, .ref kl, .ref kn], oC kre 1 [.ref kbt, .ref kby, .int (nI rl), .int (nI nx2_46), .int (nI kd2_46), .int (nI sr2_46), .int vl2_46, .int fo2_46, .int pl2_46, .int li, .int hto, .int (nI 1), .int ct], bA G kby 160 tb] := hD
      have hP := hP.sub (ws' := [oC kre 1 [.ref kbt, .ref kby, .int (nI rl), .int (nI nx2_46), .int (nI kd2_46), .int (nI sr2_46), .int vl2_46, .int fo2_46, .int pl2_46, .int li, .int hto, .int (nI 1), .int ct], oC kbt 0 [.int (nI w), .int (nI h), .int (nI k1), .ref ka, .ref kc, .ref kl, .ref kn], bA G kby 160 tb]) [1, 0, 2] rfl
      have hD := hD.sub (ws' := [oC kre 1 [.ref kbt, .ref kby, .int (nI rl), .int (nI nx2_46), .int (nI kd2_46), .int (nI sr2_46), .int vl2_46, .int fo2_46, .int pl2_46, .int li, .int hto, .int (nI 1), .int ct], oC kbt 0 [.int (nI w), .int (nI h), .int (nI k1), .ref ka, .ref kc, .ref kl, .ref kn], bA G kby 160 tb]) [1, 0, 2] (by decide) rfl
      refine W.zret (v := xb ((fSem tb rl (nx2_26, kd2_26, sr2_26, (nI k1), fo2_26, pl2_26)).1 = true)) (ty := .boolean) hx hb hr xb_nar (fun t ht hW => ⟨⟨xb ((fSem tb rl (nx2_26, kd2_26, sr2_26, (nI k1), fo2_26, pl2_26)).1 = true), (nx2_46, kd2_46, sr2_46, vl2_46, fo2_46, pl2_46, (nI 1), k1), rfl, ?_, by rw [ht]; exact hP, hD⟩, hS.F ht⟩) hS.2.2 dX1_takeLast_49
      try dsimp only
      rw [show fLas tb rl lto la (nx, kd, sr, vl, fo, pl) = _ from (if_pos b4).trans (bN_ok b29 he26 (by omega))]; exact ⟨rfl, congrArg (fun a => (a, _)) he46⟩
    · skip
      refine lv_iconst (v := nI 0) hx hb dX1_takeLast_32 (by decide) ?_
      have hP := hP.sub (ws' := [oC kre 1 [.ref kbt, .ref kby, .int (nI rl), .int (nI nx2_26), .int (nI kd2_26), .int (nI sr2_26), .int vl2_26, .int fo2_26, .int pl2_26, .int li, .int hto, .int (nI 1), .int ct], oC kbt 0 [.int (nI w), .int (nI h), .int (nI la), .ref ka, .ref kc, .ref kl, .ref kn], bA G kby 160 tb]) [1, 0, 2] rfl
      have hD := hD.sub (ws' := [oC kre 1 [.ref kbt, .ref kby, .int (nI rl), .int (nI nx2_26), .int (nI kd2_26), .int (nI sr2_26), .int vl2_26, .int fo2_26, .int pl2_26, .int li, .int hto, .int (nI 1), .int ct], oC kbt 0 [.int (nI w), .int (nI h), .int (nI la), .ref ka, .ref kc, .ref kl, .ref kn], bA G kby 160 tb]) [1, 0, 2] (by decide) rfl
      refine W.zret (v := nI 0) (ty := .boolean) hx hb hr (by decide) (fun t ht hW => ⟨⟨nI 0, (nx2_26, kd2_26, sr2_26, vl2_26, fo2_26, pl2_26, (nI 1), la), rfl, ?_, by rw [ht]; exact hP, hD⟩, hS.F ht⟩) hS.2.2 dX1_takeLast_33
      try dsimp only
      rw [show fLas tb rl lto la (nx, kd, sr, vl, fo, pl) = _ from (if_pos b4).trans (bN_no b29 he26)]; exact ⟨(xb_f Bool.false_ne_true).symm, rfl⟩
  · skip
    refine lv_aload_n hx hb dX1_takeLast_7 rfl (lv_at hl 0 rfl) ?_
    refine lv_iconst (v := nI 4) hx hb dX1_takeLast_8 (by decide) ?_
    refine lv_aload_n hx hb dX1_takeLast_9 rfl (lv_at hl 0 rfl) ?_
    refine va_get (D := G.1) (ci := 1) (v := .int (nI sr)) (C := RX1) (T := TX1) (N := 13) hx hb hts hin1 hown hK.1 hP 0 rfl rfl 5 (by decide) (hts (.fieldLink RX1 95 "BackLenses$Reader" "start" "I") (List.mem_of_getElem? (i := 2) rfl)) (fun _ h9 => h9) rfl dX1_takeLast_10 ?_
    refine xw_i (As := [.int (nI 4), .int (nI sr)]) (rest := []) (wr := [oC kbt 0 [.int (nI w), .int (nI h), .int (nI la), .ref ka, .ref kc, .ref kl, .ref kn], bA G kby 160 tb]) ⟨hx, hb, hml, hown, hts⟩ (c_X1_refuse l G ss.heap.size kre kbt kby rl nx kd sr vl fo pl li hto lto ct (nI 4) (nI sr) ) (cwV 2 hts gX1_takeLast_X1_refuse rfl rfl rfl (by decide +kernel) ⟨Nat.le_of_ble_eq_true rfl, Nat.le_of_ble_eq_true rfl⟩) hK hP hD hS hA [0] [1, 2] rfl rfl (by decide) (by decide) (by decide) rfl rfl rfl hl.1 rfl (Nat.le_of_ble_eq_true rfl) dX1_takeLast_13 ⟨Nat.le_of_ble_eq_true rfl, Nat.le_of_ble_eq_true rfl⟩ (fun r13 u H locs hp13 hP hD hS => ?_)
    obtain rfl := hp13
    replace hP : xP G [oC kbt 0 [.int (nI w), .int (nI h), .int (nI la), .ref ka, .ref kc, .ref kl, .ref kn], bA G kby 160 tb, oC kre 1 [.ref kbt, .ref kby, .int (nI rl), .int (nI nx), .int (nI kd), .int (nI sr), .int vl, .int (nI 4), .int (nI sr), .int li, .int hto, .int lto, .int ct]] H := hP
    replace hD : va_D (va_A (w_X1_takeLast G kre kbt kby rl nx kd sr vl fo pl li hto lto ct ka kc kl kn w h la tb) ss.heap.size) [oC kbt 0 [.int (nI w), .int (nI h), .int (nI la), .ref ka, .ref kc, .ref kl, .ref kn], bA G kby 160 tb, oC kre 1 [.ref kbt, .ref kby, .int (nI rl), .int (nI nx), .int (nI kd), .int (nI sr), .int vl, .int (nI 4), .int (nI sr), .int li, .int hto, .int lto, .int ct]] := hD
    have hP := hP.sub (ws' := [oC kre 1 [.ref kbt, .ref kby, .int (nI rl), .int (nI nx), .int (nI kd), .int (nI sr), .int vl, .int (nI 4), .int (nI sr), .int li, .int hto, .int lto, .int ct], oC kbt 0 [.int (nI w), .int (nI h), .int (nI la), .ref ka, .ref kc, .ref kl, .ref kn], bA G kby 160 tb]) [2, 0, 1] rfl
    have hD := hD.sub (ws' := [oC kre 1 [.ref kbt, .ref kby, .int (nI rl), .int (nI nx), .int (nI kd), .int (nI sr), .int vl, .int (nI 4), .int (nI sr), .int li, .int hto, .int lto, .int ct], oC kbt 0 [.int (nI w), .int (nI h), .int (nI la), .ref ka, .ref kc, .ref kl, .ref kn], bA G kby 160 tb]) [2, 0, 1] (by decide) rfl
    refine W.zret (v := nI 0) (ty := .boolean) hx hb hr (by decide) (fun t ht hW => ⟨⟨nI 0, (nx, kd, sr, vl, (nI 4), (nI sr), lto, la), rfl, ?_, by rw [ht]; exact hP, hD⟩, hS.F ht⟩) hS.2.2 dX1_takeLast_16
    try dsimp only
    rw [show fLas tb rl lto la (nx, kd, sr, vl, fo, pl) = _ from if_neg b4]; exact ⟨(xb_f Bool.false_ne_true).symm, rfl⟩

abbrev w_X1_takeCell (G : XG) (kre kbt kby : Nat) (rl nx kd sr : Nat) (vl fo pl li hto lto ct : Int32) (ka kc kl kn : Nat) (w h la : Nat) (af tb : Nat → Int32) : va_W := [oC kre 1 [.ref kbt, .ref kby, .int (nI rl), .int (nI nx), .int (nI kd), .int (nI sr), .int vl, .int fo, .int pl, .int li, .int hto, .int lto, .int ct], oC kbt 0 [.int (nI w), .int (nI h), .int (nI la), .ref ka, .ref kc, .ref kl, .ref kn], iA G ka 16 af, bA G kby 160 tb]
abbrev Q_X1_takeCell (G : XG) (sz : Nat) (kre kbt kby : Nat) (rl nx kd sr : Nat) (vl fo pl li hto lto ct : Int32) (ka kc kl kn : Nat) (w h la : Nat) (af tb : Nat → Int32) : Array Value → State → Outcome → State → Prop := (va_Qi (fun (r : Int32) (u : Nat × Nat × Nat × Int32 × Int32 × Int32 × Int32 × (Nat → Int32)) => r = xb ((fCel tb rl ct af (nx, kd, sr, vl, fo, pl)).1 = true) ∧ ((u.1, u.2.1, u.2.2.1, u.2.2.2.1, u.2.2.2.2.1, u.2.2.2.2.2.1), u.2.2.2.2.2.2.1, u.2.2.2.2.2.2.2) = (fCel tb rl ct af (nx, kd, sr, vl, fo, pl)).2) (xWb G sz (w_X1_takeCell G kre kbt kby rl nx kd sr vl fo pl li hto lto ct ka kc kl kn w h la af tb) (fun u : Nat × Nat × Nat × Int32 × Int32 × Int32 × Int32 × (Nat → Int32) => [oC kre 1 [.ref kbt, .ref kby, .int (nI rl), .int (nI u.1), .int (nI u.2.1), .int (nI u.2.2.1), .int u.2.2.2.1, .int u.2.2.2.2.1, .int u.2.2.2.2.2.1, .int li, .int hto, .int lto, .int u.2.2.2.2.2.2.1], oC kbt 0 [.int (nI w), .int (nI h), .int (nI la), .ref ka, .ref kc, .ref kl, .ref kn], iA G ka 16 u.2.2.2.2.2.2.2, bA G kby 160 tb])) (va_A (w_X1_takeCell G kre kbt kby rl nx kd sr vl fo pl li hto lto ct ka kc kl kn w h la af tb) sz))
set_option maxHeartbeats 4000000 in
set_option maxRecDepth 100000 in
theorem c_X1_takeCell (l : Launch) (G : XG) (sz : Nat) (kre kbt kby : Nat) (rl nx kd sr : Nat) (vl fo pl li hto lto ct : Int32) (ka kc kl kn : Nat) (w h la : Nat) (af tb : Nat → Int32) (hrl : rl ≤ 160) (hnx : nx ≤ rl) : Met l yX1_takeCell wsX1_takeCell ({ frames := 3, cells := 0, slots := 0, locals := 66 } : Room) (va_Pc [.ref kre] (xWp G sz (w_X1_takeCell G kre kbt kby rl nx kd sr vl fo pl li hto lto ct ka kc kl kn w h la af tb))) (Q_X1_takeCell G sz kre kbt kby rl nx kd sr vl fo pl li hto lto ct ka kc kl kn w h la af tb) 0 0 (va_A (w_X1_takeCell G kre kbt kby rl nx kd sr vl fo pl li hto lto ct ka kc kl kn w h la af tb) sz) := by
  refine Met.ofW (cc := cX1_takeCell) (maxL := 2) (ret := (some .boolean)) (by decide) rfl ?_
  intro pp ee ss mm aa below mt cd s₁ BB hml hv
  obtain ⟨rfl, hsz, hP, hK, hD0⟩ := hv
  have hx := BB.exec
  have hb := BB.bytes
  have hr := BB.returns
  have hts := atoms_spec (ws := wsX1_takeCell) BB.pre
  have hown : ss.vm.findClass RX1 = some mm.cls := findClass_of_methodNamed BB.named
  have hlocks := BB.notSynchronized
  subst hsz
  have hD := hD0.self (sz := ss.heap.size)
  have hA : ∀ q : Nat, ss.heap.size ≤ q → va_A (w_X1_takeCell G kre kbt kby rl nx kd sr vl fo pl li hto lto ct ka kc kl kn w h la af tb) ss.heap.size q := fun q h => Or.inr h
  have hS : va_S (va_A (w_X1_takeCell G kre kbt kby rl nx kd sr vl fo pl li hto lto ct ka kc kl kn w h la af tb) ss.heap.size) ss.heap ss.heap [] := va_S.rf
  replace hD : va_D (va_A (w_X1_takeCell G kre kbt kby rl nx kd sr vl fo pl li hto lto ct ka kc kl kn w h la af tb) ss.heap.size) [oC kre 1 [.ref kbt, .ref kby, .int (nI rl), .int (nI nx), .int (nI kd), .int (nI sr), .int vl, .int fo, .int pl, .int li, .int hto, .int lto, .int ct], oC kbt 0 [.int (nI w), .int (nI h), .int (nI la), .ref ka, .ref kc, .ref kl, .ref kn], iA G ka 16 af, bA G kby 160 tb] := hD
  replace hP : xP G [oC kre 1 [.ref kbt, .ref kby, .int (nI rl), .int (nI nx), .int (nI kd), .int (nI sr), .int vl, .int fo, .int pl, .int li, .int hto, .int lto, .int ct], oC kbt 0 [.int (nI w), .int (nI h), .int (nI la), .ref ka, .ref kc, .ref kl, .ref kn], iA G ka 16 af, bA G kby 160 tb] ss.heap := hP
  have hin0 : ∀ w ∈ u_ws RX0 TX0 7, w ∈ wsX1_takeCell := fun w h => List.mem_cons_of_mem _ (List.mem_append_right _ h)
  have hin1 : ∀ w ∈ u_ws RX1 TX1 13, w ∈ wsX1_takeCell := fun w h => List.mem_cons_of_mem _ (List.mem_append_left _ (List.mem_append_right _ h))
  have hl := lv_entry ([.ref kre]) (n := 2) (Nat.le_of_ble_eq_true rfl)
  rw [lg_entry_eq]
  generalize (lg_sl ([.ref kre]) ++ List.replicate (2 - (lg_sl ([.ref kre])).length) Slot.unset).toArray = ls at hl ⊢
  replace hl : lv_has ls 2 [(0, .ref kre)] := hl
  refine lv_aload_n hx hb dX1_takeCell_0 rfl (lv_at hl 0 rfl) ?_
  refine lv_iconst (v := nI 0) hx hb dX1_takeCell_1 (by decide) ?_
  refine lv_bipush (v := nI 15) hx hb dX1_takeCell_2 (by decide) ?_
  refine xw_i (As := [.int (nI 0), .int (nI 15)]) (rest := []) (wr := [oC kbt 0 [.int (nI w), .int (nI h), .int (nI la), .ref ka, .ref kc, .ref kl, .ref kn], iA G ka 16 af]) ⟨hx, hb, hml, hown, hts⟩ (c_X1_takeNumber l G ss.heap.size kre kbt kby rl nx kd sr vl fo pl li hto lto ct tb 0 15 (by first | assumption | omega) (by first | assumption | omega) (by first | assumption | omega) (by first | assumption | omega)) (cwV 2 hts gX1_takeCell_X1_takeNumber rfl rfl rfl (by decide +kernel) ⟨Nat.le_of_ble_eq_true rfl, Nat.le_of_ble_eq_true rfl⟩) hK hP hD hS hA [0, 3] [1, 2] rfl rfl (by decide) (by decide) (by decide) rfl rfl rfl hl.1 rfl (Nat.le_of_ble_eq_true rfl) dX1_takeCell_4 ⟨Nat.le_of_ble_eq_true rfl, Nat.le_of_ble_eq_true rfl⟩ (fun r4 u H locs hp4 hP hD hS => ?_)
  obtain ⟨nx2_4, kd2_4, sr2_4, vl2_4, fo2_4, pl2_4⟩ := u
  try dsimp only at hp4 hP hD
  obtain ⟨rfl, he4⟩ := hp4
  replace hP : xP G [oC kbt 0 [.int (nI w), .int (nI h), .int (nI la), .ref ka, .ref kc, .ref kl, .ref kn], iA G ka 16 af, oC kre 1 [.ref kbt, .ref kby, .int (nI rl), .int (nI nx2_4), .int (nI kd2_4), .int (nI sr2_4), .int vl2_4, .int fo2_4, .int pl2_4, .int li, .int hto, .int lto, .int ct], bA G kby 160 tb] H := hP
  replace hD : va_D (va_A (w_X1_takeCell G kre kbt kby rl nx kd sr vl fo pl li hto lto ct ka kc kl kn w h la af tb) ss.heap.size) [oC kbt 0 [.int (nI w), .int (nI h), .int (nI la), .ref ka, .ref kc, .ref kl, .ref kn], iA G ka 16 af, oC kre 1 [.ref kbt, .ref kby, .int (nI rl), .int (nI nx2_4), .int (nI kd2_4), .int (nI sr2_4), .int vl2_4, .int fo2_4, .int pl2_4, .int li, .int hto, .int lto, .int ct], bA G kby 160 tb] := hD
  have hn4 : nx2_4 ≤ rl := (by have hq := fNum_bd (t := tb) (rl := rl) (lo := 0) (hi := 15) (s := (nx, kd, sr, vl, fo, pl)) (by assumption); rw [← he4] at hq; exact hq.1)
  refine xb_if_ne (tgt := 12) hx hb dX1_takeCell_7 rfl (fun b7 => ?_) (fun b7 => ?_)
  · skip
    obtain ⟨k1, hk4a, hk4b, hk4⟩ := fNum_val (by omega) b7
    rw [← he4] at hk4
    replace hk4 : vl2_4 = nI k1 := hk4
    subst hk4
    refine lv_aload_n hx hb dX1_takeCell_12 rfl (lv_at hl 0 rfl) ?_
    refine va_get (D := G.1) (ci := 1) (v := .int (nI k1)) (C := RX1) (T := TX1) (N := 13) hx hb hts hin1 hown hK.1 hP 2 rfl rfl 6 (by decide) (hts (.fieldLink RX1 130 "BackLenses$Reader" "value" "I") (List.mem_of_getElem? (i := 1) rfl)) (fun _ h9 => h9) rfl dX1_takeCell_13 ?_
    refine lv_istore_n (lv' := [(1, .int (nI k1)), (0, .ref kre)]) hx hb dX1_takeCell_16 rfl hl (by decide) rfl (fun ls hl => ?_)
    refine lv_aload_n hx hb dX1_takeCell_17 rfl (lv_at hl 1 rfl) ?_
    refine va_get (D := G.1) (ci := 1) (v := .int ct) (C := RX1) (T := TX1) (N := 13) hx hb hts hin1 hown hK.1 hP 2 rfl rfl 12 (by decide) (hts (.fieldLink RX1 45 "BackLenses$Reader" "cellsTold" "I") (List.mem_of_getElem? (i := 2) rfl)) (fun _ h9 => h9) rfl dX1_takeCell_18 ?_
    refine lv_iload_n hx hb dX1_takeCell_21 rfl (lv_at hl 0 rfl) ?_
    refine lv_ishr hx hb dX1_takeCell_22 ?_
    refine lv_iconst (v := nI 1) hx hb dX1_takeCell_23 (by decide) ?_
    refine lv_iand hx hb dX1_takeCell_24 ?_
    refine lv_if_eq (tgt := 38) hx hb dX1_takeCell_25 rfl (fun b25 => ?_) (fun b25 => ?_)
    · skip
      refine lv_aload_n hx hb dX1_takeCell_38 rfl (lv_at hl 1 rfl) ?_
      refine lv_dup hx hb dX1_takeCell_39 rfl ?_
      refine va_get (D := G.1) (ci := 1) (v := .int ct) (C := RX1) (T := TX1) (N := 13) hx hb hts hin1 hown hK.1 hP 2 rfl rfl 12 (by decide) (hts (.fieldLink RX1 45 "BackLenses$Reader" "cellsTold" "I") (List.mem_of_getElem? (i := 2) rfl)) (fun _ h9 => h9) rfl dX1_takeCell_40 ?_
      refine lv_iconst (v := nI 1) hx hb dX1_takeCell_43 (by decide) ?_
      refine lv_iload_n hx hb dX1_takeCell_44 rfl (lv_at hl 0 rfl) ?_
      refine lv_ishl hx hb dX1_takeCell_45 ?_
      refine lv_ior hx hb dX1_takeCell_46 ?_
      refine va_put (D := G.1) (ci := 1) (v := .int (ct ||| ((nI 1) <<< ((nI k1) &&& 31)))) (ty := .int) (C := RX1) (T := TX1) (N := 13) hx hb hts hin1 tyX1 tyX1_ok nmX1 hown hK.1 hP hD hS 2 rfl rfl 12 (by decide) (hts (.fieldLink RX1 45 "BackLenses$Reader" "cellsTold" "I") (List.mem_of_getElem? (i := 2) rfl)) (fun _ h9 => h9) rfl (by decide +kernel) rfl rfl (Nat.le_of_ble_eq_true rfl) dX1_takeCell_47 (fun H locs hP hD hS => ?_)
      replace hP : xP G [oC kbt 0 [.int (nI w), .int (nI h), .int (nI la), .ref ka, .ref kc, .ref kl, .ref kn], iA G ka 16 af, oC kre 1 [.ref kbt, .ref kby, .int (nI rl), .int (nI nx2_4), .int (nI kd2_4), .int (nI sr2_4), .int (nI k1), .int fo2_4, .int pl2_4, .int li, .int hto, .int lto, .int (ct ||| ((nI 1) <<< ((nI k1) &&& 31)))], bA G kby 160 tb] H := hP
      replace hD : va_D (va_A (w_X1_takeCell G kre kbt kby rl nx kd sr vl fo pl li hto lto ct ka kc kl kn w h la af tb) ss.heap.size) [oC kbt 0 [.int (nI w), .int (nI h), .int (nI la), .ref ka, .ref kc, .ref kl, .ref kn], iA G ka 16 af, oC kre 1 [.ref kbt, .ref kby, .int (nI rl), .int (nI nx2_4), .int (nI kd2_4), .int (nI sr2_4), .int (nI k1), .int fo2_4, .int pl2_4, .int li, .int hto, .int lto, .int (ct ||| ((nI 1) <<< ((nI k1) &&& 31)))], bA G kby 160 tb] := hD
      refine lv_aload_n hx hb dX1_takeCell_50 rfl (lv_at hl 1 rfl) ?_
      refine lv_iconst (v := nI 0) hx hb dX1_takeCell_51 (by decide) ?_
      refine lv_iconst (v := nI 5) hx hb dX1_takeCell_52 (by decide) ?_
      refine xw_i (As := [.int (nI 0), .int (nI 5)]) (rest := []) (wr := [oC kbt 0 [.int (nI w), .int (nI h), .int (nI la), .ref ka, .ref kc, .ref kl, .ref kn], iA G ka 16 af]) ⟨hx, hb, hml, hown, hts⟩ (c_X1_takeNumber l G H.size kre kbt kby rl nx2_4 kd2_4 sr2_4 (nI k1) fo2_4 pl2_4 li hto lto (ct ||| ((nI 1) <<< ((nI k1) &&& 31))) tb 0 5 (by first | assumption | omega) (by first | assumption | omega) (by first | assumption | omega) (by first | assumption | omega)) (cwV 2 hts gX1_takeCell_X1_takeNumber rfl rfl rfl (by decide +kernel) ⟨Nat.le_of_ble_eq_true rfl, Nat.le_of_ble_eq_true rfl⟩) hK hP hD hS hA [2, 3] [0, 1] rfl rfl (by decide) (by decide) (by decide) rfl rfl rfl hl.1 rfl (Nat.le_of_ble_eq_true rfl) dX1_takeCell_53 ⟨Nat.le_of_ble_eq_true rfl, Nat.le_of_ble_eq_true rfl⟩ (fun r53 u H locs hp53 hP hD hS => ?_)
      obtain ⟨nx2_53, kd2_53, sr2_53, vl2_53, fo2_53, pl2_53⟩ := u
      try dsimp only at hp53 hP hD
      obtain ⟨rfl, he53⟩ := hp53
      replace hP : xP G [oC kbt 0 [.int (nI w), .int (nI h), .int (nI la), .ref ka, .ref kc, .ref kl, .ref kn], iA G ka 16 af, oC kre 1 [.ref kbt, .ref kby, .int (nI rl), .int (nI nx2_53), .int (nI kd2_53), .int (nI sr2_53), .int vl2_53, .int fo2_53, .int pl2_53, .int li, .int hto, .int lto, .int (ct ||| ((nI 1) <<< ((nI k1) &&& 31)))], bA G kby 160 tb] H := hP
      replace hD : va_D (va_A (w_X1_takeCell G kre kbt kby rl nx kd sr vl fo pl li hto lto ct ka kc kl kn w h la af tb) ss.heap.size) [oC kbt 0 [.int (nI w), .int (nI h), .int (nI la), .ref ka, .ref kc, .ref kl, .ref kn], iA G ka 16 af, oC kre 1 [.ref kbt, .ref kby, .int (nI rl), .int (nI nx2_53), .int (nI kd2_53), .int (nI sr2_53), .int vl2_53, .int fo2_53, .int pl2_53, .int li, .int hto, .int lto, .int (ct ||| ((nI 1) <<< ((nI k1) &&& 31)))], bA G kby 160 tb] := hD
      have hn53 : nx2_53 ≤ rl := (by have hq := fNum_bd (t := tb) (rl := rl) (lo := 0) (hi := 5) (s := (nx2_4, kd2_4, sr2_4, nI k1, fo2_4, pl2_4)) (by assumption); rw [← he53] at hq; exact hq.1)
      refine xb_if_ne (tgt := 61) hx hb dX1_takeCell_56 rfl (fun b56 => ?_) (fun b56 => ?_)
      · skip
        obtain ⟨k2, hk53a, hk53b, hk53⟩ := fNum_val (by omega) b56
        rw [← he53] at hk53
        replace hk53 : vl2_53 = nI k2 := hk53
        subst hk53
        refine lv_aload_n hx hb dX1_takeCell_61 rfl (lv_at hl 1 rfl) ?_
        refine va_get (D := G.1) (ci := 1) (v := .ref kbt) (C := RX1) (T := TX1) (N := 13) hx hb hts hin1 hown hK.1 hP 2 rfl rfl 0 (by decide) (hts (.fieldLink RX1 12 "BackLenses$Reader" "target" "LBackLenses$Book;") (List.mem_of_getElem? (i := 4) rfl)) (fun _ h9 => h9) rfl dX1_takeCell_62 ?_
        refine va_getN (D := G.1) (ci := 0) (v := .ref ka) (C := RX0) (T := TX0) (N := 7) hx hb hts hin0 hown hK.1 hP 0 rfl rfl 3 (by decide) (va_Nw.use rfl (hK.2 (Cond.fieldLinkNest "BackLenses$Reader" (144 : Nat) "BackLenses$Book" "atFirst" "[I" "BackLenses") (List.mem_of_getElem? (i := 15) rfl))) (fun _ h9 => h9) rfl dX1_takeCell_65 ?_
        refine lv_iload_n hx hb dX1_takeCell_68 rfl (lv_at hl 0 rfl) ?_
        refine lv_aload_n hx hb dX1_takeCell_69 rfl (lv_at hl 1 rfl) ?_
        refine va_get (D := G.1) (ci := 1) (v := .int (nI k2)) (C := RX1) (T := TX1) (N := 13) hx hb hts hin1 hown hK.1 hP 2 rfl rfl 6 (by decide) (hts (.fieldLink RX1 130 "BackLenses$Reader" "value" "I") (List.mem_of_getElem? (i := 1) rfl)) (fun _ h9 => h9) rfl dX1_takeCell_70 ?_
        refine xn_iast hx hb hK hP hD hS 1 rfl (by omega) (by omega) dX1_takeCell_73 (fun H locs hP hD hS => ?_)
        replace hP : xP G [oC kbt 0 [.int (nI w), .int (nI h), .int (nI la), .ref ka, .ref kc, .ref kl, .ref kn], iA G ka 16 (upd af k1 (nI k2)), oC kre 1 [.ref kbt, .ref kby, .int (nI rl), .int (nI nx2_53), .int (nI kd2_53), .int (nI sr2_53), .int (nI k2), .int fo2_53, .int pl2_53, .int li, .int hto, .int lto, .int (ct ||| ((nI 1) <<< ((nI k1) &&& 31)))], bA G kby 160 tb] H := hP
        replace hD : va_D (va_A (w_X1_takeCell G kre kbt kby rl nx kd sr vl fo pl li hto lto ct ka kc kl kn w h la af tb) ss.heap.size) [oC kbt 0 [.int (nI w), .int (nI h), .int (nI la), .ref ka, .ref kc, .ref kl, .ref kn], iA G ka 16 (upd af k1 (nI k2)), oC kre 1 [.ref kbt, .ref kby, .int (nI rl), .int (nI nx2_53), .int (nI kd2_53), .int (nI sr2_53), .int (nI k2), .int fo2_53, .int pl2_53, .int li, .int hto, .int lto, .int (ct ||| ((nI 1) <<< ((nI k1) &&& 31)))], bA G kby 160 tb] := hD
        refine lv_aload_n hx hb dX1_takeCell_74 rfl (lv_at hl 1 rfl) ?_
        refine xw_i (As := []) (rest := []) (wr := [oC kbt 0 [.int (nI w), .int (nI h), .int (nI la), .ref ka, .ref kc, .ref kl, .ref kn], iA G ka 16 (upd af k1 (nI k2))]) ⟨hx, hb, hml, hown, hts⟩ (c_X1_takeSemicolon l G H.size kre kbt kby rl nx2_53 kd2_53 sr2_53 (nI k2) fo2_53 pl2_53 li hto lto (ct ||| ((nI 1) <<< ((nI k1) &&& 31))) tb (by first | assumption | omega) (by first | assumption | omega)) (cwV 0 hts gX1_takeCell_X1_takeSemicolon rfl rfl rfl (by decide +kernel) ⟨Nat.le_of_ble_eq_true rfl, Nat.le_of_ble_eq_true rfl⟩) hK hP hD hS hA [2, 3] [0, 1] rfl rfl (by decide) (by decide) (by decide) rfl rfl rfl hl.1 rfl (Nat.le_of_ble_eq_true rfl) dX1_takeCell_75 ⟨Nat.le_of_ble_eq_true rfl, Nat.le_of_ble_eq_true rfl⟩ (fun r75 u H locs hp75 hP hD hS => ?_)
        obtain ⟨nx2_75, kd2_75, sr2_75, vl2_75, fo2_75, pl2_75⟩ := u
        try dsimp only at hp75 hP hD
        obtain ⟨rfl, he75⟩ := hp75
        replace hP : xP G [oC kbt 0 [.int (nI w), .int (nI h), .int (nI la), .ref ka, .ref kc, .ref kl, .ref kn], iA G ka 16 (upd af k1 (nI k2)), oC kre 1 [.ref kbt, .ref kby, .int (nI rl), .int (nI nx2_75), .int (nI kd2_75), .int (nI sr2_75), .int vl2_75, .int fo2_75, .int pl2_75, .int li, .int hto, .int lto, .int (ct ||| ((nI 1) <<< ((nI k1) &&& 31)))], bA G kby 160 tb] H := hP
        replace hD : va_D (va_A (w_X1_takeCell G kre kbt kby rl nx kd sr vl fo pl li hto lto ct ka kc kl kn w h la af tb) ss.heap.size) [oC kbt 0 [.int (nI w), .int (nI h), .int (nI la), .ref ka, .ref kc, .ref kl, .ref kn], iA G ka 16 (upd af k1 (nI k2)), oC kre 1 [.ref kbt, .ref kby, .int (nI rl), .int (nI nx2_75), .int (nI kd2_75), .int (nI sr2_75), .int vl2_75, .int fo2_75, .int pl2_75, .int li, .int hto, .int lto, .int (ct ||| ((nI 1) <<< ((nI k1) &&& 31)))], bA G kby 160 tb] := hD
        have hP := hP.sub (ws' := [oC kre 1 [.ref kbt, .ref kby, .int (nI rl), .int (nI nx2_75), .int (nI kd2_75), .int (nI sr2_75), .int vl2_75, .int fo2_75, .int pl2_75, .int li, .int hto, .int lto, .int (ct ||| ((nI 1) <<< ((nI k1) &&& 31)))], oC kbt 0 [.int (nI w), .int (nI h), .int (nI la), .ref ka, .ref kc, .ref kl, .ref kn], iA G ka 16 (upd af k1 (nI k2)), bA G kby 160 tb]) [2, 0, 1, 3] rfl
        have hD := hD.sub (ws' := [oC kre 1 [.ref kbt, .ref kby, .int (nI rl), .int (nI nx2_75), .int (nI kd2_75), .int (nI sr2_75), .int vl2_75, .int fo2_75, .int pl2_75, .int li, .int hto, .int lto, .int (ct ||| ((nI 1) <<< ((nI k1) &&& 31)))], oC kbt 0 [.int (nI w), .int (nI h), .int (nI la), .ref ka, .ref kc, .ref kl, .ref kn], iA G ka 16 (upd af k1 (nI k2)), bA G kby 160 tb]) [2, 0, 1, 3] (by decide) rfl
        refine W.zret (v := xb ((fSem tb rl (nx2_53, kd2_53, sr2_53, (nI k2), fo2_53, pl2_53)).1 = true)) (ty := .boolean) hx hb hr xb_nar (fun t ht hW => ⟨⟨xb ((fSem tb rl (nx2_53, kd2_53, sr2_53, (nI k2), fo2_53, pl2_53)).1 = true), (nx2_75, kd2_75, sr2_75, vl2_75, fo2_75, pl2_75, (ct ||| ((nI 1) <<< ((nI k1) &&& 31))), upd af k1 (nI k2)), rfl, ?_, by rw [ht]; exact hP, hD⟩, hS.F ht⟩) hS.2.2 dX1_takeCell_78
        try dsimp only
        rw [show fCel tb rl ct af (nx, kd, sr, vl, fo, pl) = _ from (bN_ok b7 he4 (by omega)).trans ((if_pos b25).trans (bN_ok b56 he53 (by omega)))]; exact ⟨rfl, congrArg (fun a => (a, _)) he75⟩
      · skip
        refine lv_iconst (v := nI 0) hx hb dX1_takeCell_59 (by decide) ?_
        have hP := hP.sub (ws' := [oC kre 1 [.ref kbt, .ref kby, .int (nI rl), .int (nI nx2_53), .int (nI kd2_53), .int (nI sr2_53), .int vl2_53, .int fo2_53, .int pl2_53, .int li, .int hto, .int lto, .int (ct ||| ((nI 1) <<< ((nI k1) &&& 31)))], oC kbt 0 [.int (nI w), .int (nI h), .int (nI la), .ref ka, .ref kc, .ref kl, .ref kn], iA G ka 16 af, bA G kby 160 tb]) [2, 0, 1, 3] rfl
        have hD := hD.sub (ws' := [oC kre 1 [.ref kbt, .ref kby, .int (nI rl), .int (nI nx2_53), .int (nI kd2_53), .int (nI sr2_53), .int vl2_53, .int fo2_53, .int pl2_53, .int li, .int hto, .int lto, .int (ct ||| ((nI 1) <<< ((nI k1) &&& 31)))], oC kbt 0 [.int (nI w), .int (nI h), .int (nI la), .ref ka, .ref kc, .ref kl, .ref kn], iA G ka 16 af, bA G kby 160 tb]) [2, 0, 1, 3] (by decide) rfl
        refine W.zret (v := nI 0) (ty := .boolean) hx hb hr (by decide) (fun t ht hW => ⟨⟨nI 0, (nx2_53, kd2_53, sr2_53, vl2_53, fo2_53, pl2_53, (ct ||| ((nI 1) <<< ((nI k1) &&& 31))), af), rfl, ?_, by rw [ht]; exact hP, hD⟩, hS.F ht⟩) hS.2.2 dX1_takeCell_60
        try dsimp only
        rw [show fCel tb rl ct af (nx, kd, sr, vl, fo, pl) = _ from (bN_ok b7 he4 (by omega)).trans ((if_pos b25).trans (bN_no b56 he53))]; exact ⟨(xb_f Bool.false_ne_true).symm, rfl⟩
    · skip
      refine lv_aload_n hx hb dX1_takeCell_28 rfl (lv_at hl 1 rfl) ?_
      refine lv_iconst (v := nI 4) hx hb dX1_takeCell_29 (by decide) ?_
      refine lv_aload_n hx hb dX1_takeCell_30 rfl (lv_at hl 1 rfl) ?_
      refine va_get (D := G.1) (ci := 1) (v := .int (nI sr2_4)) (C := RX1) (T := TX1) (N := 13) hx hb hts hin1 hown hK.1 hP 2 rfl rfl 5 (by decide) (hts (.fieldLink RX1 95 "BackLenses$Reader" "start" "I") (List.mem_of_getElem? (i := 3) rfl)) (fun _ h9 => h9) rfl dX1_takeCell_31 ?_
      refine xw_i (As := [.int (nI 4), .int (nI sr2_4)]) (rest := []) (wr := [oC kbt 0 [.int (nI w), .int (nI h), .int (nI la), .ref ka, .ref kc, .ref kl, .ref kn], iA G ka 16 af, bA G kby 160 tb]) ⟨hx, hb, hml, hown, hts⟩ (c_X1_refuse l G H.size kre kbt kby rl nx2_4 kd2_4 sr2_4 (nI k1) fo2_4 pl2_4 li hto lto ct (nI 4) (nI sr2_4) ) (cwV 2 hts gX1_takeCell_X1_refuse rfl rfl rfl (by decide +kernel) ⟨Nat.le_of_ble_eq_true rfl, Nat.le_of_ble_eq_true rfl⟩) hK hP hD hS hA [2] [0, 1, 3] rfl rfl (by decide) (by decide) (by decide) rfl rfl rfl hl.1 rfl (Nat.le_of_ble_eq_true rfl) dX1_takeCell_34 ⟨Nat.le_of_ble_eq_true rfl, Nat.le_of_ble_eq_true rfl⟩ (fun r34 u H locs hp34 hP hD hS => ?_)
      obtain rfl := hp34
      replace hP : xP G [oC kbt 0 [.int (nI w), .int (nI h), .int (nI la), .ref ka, .ref kc, .ref kl, .ref kn], iA G ka 16 af, bA G kby 160 tb, oC kre 1 [.ref kbt, .ref kby, .int (nI rl), .int (nI nx2_4), .int (nI kd2_4), .int (nI sr2_4), .int (nI k1), .int (nI 4), .int (nI sr2_4), .int li, .int hto, .int lto, .int ct]] H := hP
      replace hD : va_D (va_A (w_X1_takeCell G kre kbt kby rl nx kd sr vl fo pl li hto lto ct ka kc kl kn w h la af tb) ss.heap.size) [oC kbt 0 [.int (nI w), .int (nI h), .int (nI la), .ref ka, .ref kc, .ref kl, .ref kn], iA G ka 16 af, bA G kby 160 tb, oC kre 1 [.ref kbt, .ref kby, .int (nI rl), .int (nI nx2_4), .int (nI kd2_4), .int (nI sr2_4), .int (nI k1), .int (nI 4), .int (nI sr2_4), .int li, .int hto, .int lto, .int ct]] := hD
      have hP := hP.sub (ws' := [oC kre 1 [.ref kbt, .ref kby, .int (nI rl), .int (nI nx2_4), .int (nI kd2_4), .int (nI sr2_4), .int (nI k1), .int (nI 4), .int (nI sr2_4), .int li, .int hto, .int lto, .int ct], oC kbt 0 [.int (nI w), .int (nI h), .int (nI la), .ref ka, .ref kc, .ref kl, .ref kn], iA G ka 16 af, bA G kby 160 tb]) [3, 0, 1, 2] rfl
      have hD := hD.sub (ws' := [oC kre 1 [.ref kbt, .ref kby, .int (nI rl), .int (nI nx2_4), .int (nI kd2_4), .int (nI sr2_4), .int (nI k1), .int (nI 4), .int (nI sr2_4), .int li, .int hto, .int lto, .int ct], oC kbt 0 [.int (nI w), .int (nI h), .int (nI la), .ref ka, .ref kc, .ref kl, .ref kn], iA G ka 16 af, bA G kby 160 tb]) [3, 0, 1, 2] (by decide) rfl
      refine W.zret (v := nI 0) (ty := .boolean) hx hb hr (by decide) (fun t ht hW => ⟨⟨nI 0, (nx2_4, kd2_4, sr2_4, (nI k1), (nI 4), (nI sr2_4), ct, af), rfl, ?_, by rw [ht]; exact hP, hD⟩, hS.F ht⟩) hS.2.2 dX1_takeCell_37
      try dsimp only
      rw [show fCel tb rl ct af (nx, kd, sr, vl, fo, pl) = _ from (bN_ok b7 he4 (by omega)).trans (if_neg b25)]; exact ⟨(xb_f Bool.false_ne_true).symm, rfl⟩
  · skip
    refine lv_iconst (v := nI 0) hx hb dX1_takeCell_10 (by decide) ?_
    have hP := hP.sub (ws' := [oC kre 1 [.ref kbt, .ref kby, .int (nI rl), .int (nI nx2_4), .int (nI kd2_4), .int (nI sr2_4), .int vl2_4, .int fo2_4, .int pl2_4, .int li, .int hto, .int lto, .int ct], oC kbt 0 [.int (nI w), .int (nI h), .int (nI la), .ref ka, .ref kc, .ref kl, .ref kn], iA G ka 16 af, bA G kby 160 tb]) [2, 0, 1, 3] rfl
    have hD := hD.sub (ws' := [oC kre 1 [.ref kbt, .ref kby, .int (nI rl), .int (nI nx2_4), .int (nI kd2_4), .int (nI sr2_4), .int vl2_4, .int fo2_4, .int pl2_4, .int li, .int hto, .int lto, .int ct], oC kbt 0 [.int (nI w), .int (nI h), .int (nI la), .ref ka, .ref kc, .ref kl, .ref kn], iA G ka 16 af, bA G kby 160 tb]) [2, 0, 1, 3] (by decide) rfl
    refine W.zret (v := nI 0) (ty := .boolean) hx hb hr (by decide) (fun t ht hW => ⟨⟨nI 0, (nx2_4, kd2_4, sr2_4, vl2_4, fo2_4, pl2_4, ct, af), rfl, ?_, by rw [ht]; exact hP, hD⟩, hS.F ht⟩) hS.2.2 dX1_takeCell_11
    try dsimp only
    rw [show fCel tb rl ct af (nx, kd, sr, vl, fo, pl) = _ from bN_no b7 he4]; exact ⟨(xb_f Bool.false_ne_true).symm, rfl⟩

abbrev w_X1_takeTurn (G : XG) (kre kbt kby : Nat) (rl nx kd sr : Nat) (vl fo pl li hto lto ct : Int32) (ka kc kl kn : Nat) (w h la : Nat) (kcn nc : Nat) (fc tb : Nat → Int32) : va_W := [oC kre 1 [.ref kbt, .ref kby, .int (nI rl), .int (nI nx), .int (nI kd), .int (nI sr), .int vl, .int fo, .int pl, .int li, .int hto, .int lto, .int ct], oC kbt 0 [.int (nI w), .int (nI h), .int (nI la), .ref ka, .ref kc, .ref kl, .ref kn], oC kc 2 [.ref kcn, .int (nI 10), .int (nI nc)], iA G kcn (3 * 10) fc, bA G kby 160 tb]
abbrev Q_X1_takeTurn (G : XG) (sz : Nat) (kre kbt kby : Nat) (rl nx kd sr : Nat) (vl fo pl li hto lto ct : Int32) (ka kc kl kn : Nat) (w h la : Nat) (kcn nc : Nat) (fc tb : Nat → Int32) : Array Value → State → Outcome → State → Prop := (va_Qi (fun (r : Int32) (u : Nat × Nat × Nat × Int32 × Int32 × Int32 × Nat × (Nat → Int32)) => r = xb ((fTur tb rl nc fc (nx, kd, sr, vl, fo, pl)).1 = true) ∧ ((u.1, u.2.1, u.2.2.1, u.2.2.2.1, u.2.2.2.2.1, u.2.2.2.2.2.1), u.2.2.2.2.2.2.1, u.2.2.2.2.2.2.2) = (fTur tb rl nc fc (nx, kd, sr, vl, fo, pl)).2) (xWb G sz (w_X1_takeTurn G kre kbt kby rl nx kd sr vl fo pl li hto lto ct ka kc kl kn w h la kcn nc fc tb) (fun u : Nat × Nat × Nat × Int32 × Int32 × Int32 × Nat × (Nat → Int32) => [oC kre 1 [.ref kbt, .ref kby, .int (nI rl), .int (nI u.1), .int (nI u.2.1), .int (nI u.2.2.1), .int u.2.2.2.1, .int u.2.2.2.2.1, .int u.2.2.2.2.2.1, .int li, .int hto, .int lto, .int ct], oC kbt 0 [.int (nI w), .int (nI h), .int (nI la), .ref ka, .ref kc, .ref kl, .ref kn], oC kc 2 [.ref kcn, .int (nI 10), .int (nI u.2.2.2.2.2.2.1)], iA G kcn (3 * 10) u.2.2.2.2.2.2.2, bA G kby 160 tb])) (va_A (w_X1_takeTurn G kre kbt kby rl nx kd sr vl fo pl li hto lto ct ka kc kl kn w h la kcn nc fc tb) sz))
set_option maxHeartbeats 4000000 in
set_option maxRecDepth 100000 in
theorem c_X1_takeTurn (l : Launch) (G : XG) (sz : Nat) (kre kbt kby : Nat) (rl nx kd sr : Nat) (vl fo pl li hto lto ct : Int32) (ka kc kl kn : Nat) (w h la : Nat) (kcn nc : Nat) (fc tb : Nat → Int32) (hrl : rl ≤ 160) (hnx : nx ≤ rl) (hnc : nc ≤ 10) : Met l yX1_takeTurn wsX1_takeTurn ({ frames := 3, cells := 0, slots := 0, locals := 66 } : Room) (va_Pc [.ref kre] (xWp G sz (w_X1_takeTurn G kre kbt kby rl nx kd sr vl fo pl li hto lto ct ka kc kl kn w h la kcn nc fc tb))) (Q_X1_takeTurn G sz kre kbt kby rl nx kd sr vl fo pl li hto lto ct ka kc kl kn w h la kcn nc fc tb) 0 0 (va_A (w_X1_takeTurn G kre kbt kby rl nx kd sr vl fo pl li hto lto ct ka kc kl kn w h la kcn nc fc tb) sz) := by
  refine Met.ofW (cc := cX1_takeTurn) (maxL := 3) (ret := (some .boolean)) (by decide) rfl ?_
  intro pp ee ss mm aa below mt cd s₁ BB hml hv
  obtain ⟨rfl, hsz, hP, hK, hD0⟩ := hv
  have hx := BB.exec
  have hb := BB.bytes
  have hr := BB.returns
  have hts := atoms_spec (ws := wsX1_takeTurn) BB.pre
  have hown : ss.vm.findClass RX1 = some mm.cls := findClass_of_methodNamed BB.named
  have hlocks := BB.notSynchronized
  subst hsz
  have hD := hD0.self (sz := ss.heap.size)
  have hA : ∀ q : Nat, ss.heap.size ≤ q → va_A (w_X1_takeTurn G kre kbt kby rl nx kd sr vl fo pl li hto lto ct ka kc kl kn w h la kcn nc fc tb) ss.heap.size q := fun q h => Or.inr h
  have hS : va_S (va_A (w_X1_takeTurn G kre kbt kby rl nx kd sr vl fo pl li hto lto ct ka kc kl kn w h la kcn nc fc tb) ss.heap.size) ss.heap ss.heap [] := va_S.rf
  replace hD : va_D (va_A (w_X1_takeTurn G kre kbt kby rl nx kd sr vl fo pl li hto lto ct ka kc kl kn w h la kcn nc fc tb) ss.heap.size) [oC kre 1 [.ref kbt, .ref kby, .int (nI rl), .int (nI nx), .int (nI kd), .int (nI sr), .int vl, .int fo, .int pl, .int li, .int hto, .int lto, .int ct], oC kbt 0 [.int (nI w), .int (nI h), .int (nI la), .ref ka, .ref kc, .ref kl, .ref kn], oC kc 2 [.ref kcn, .int (nI 10), .int (nI nc)], iA G kcn (3 * 10) fc, bA G kby 160 tb] := hD
  replace hP : xP G [oC kre 1 [.ref kbt, .ref kby, .int (nI rl), .int (nI nx), .int (nI kd), .int (nI sr), .int vl, .int fo, .int pl, .int li, .int hto, .int lto, .int ct], oC kbt 0 [.int (nI w), .int (nI h), .int (nI la), .ref ka, .ref kc, .ref kl, .ref kn], oC kc 2 [.ref kcn, .int (nI 10), .int (nI nc)], iA G kcn (3 * 10) fc, bA G kby 160 tb] ss.heap := hP
  have hin0 : ∀ w ∈ u_ws RX0 TX0 7, w ∈ wsX1_takeTurn := fun w h => List.mem_cons_of_mem _ (List.mem_append_left _ (List.mem_append_right _ h))
  have hin1 : ∀ w ∈ u_ws RX1 TX1 13, w ∈ wsX1_takeTurn := fun w h => List.mem_cons_of_mem _ (List.mem_append_left _ (List.mem_append_left _ (List.mem_append_right _ h)))
  have hin2 : ∀ w ∈ u_ws RX2 TX2 3, w ∈ wsX1_takeTurn := fun w h => List.mem_cons_of_mem _ (List.mem_append_right _ h)
  have hl := lv_entry ([.ref kre]) (n := 3) (Nat.le_of_ble_eq_true rfl)
  rw [lg_entry_eq]
  generalize (lg_sl ([.ref kre]) ++ List.replicate (3 - (lg_sl ([.ref kre])).length) Slot.unset).toArray = ls at hl ⊢
  replace hl : lv_has ls 3 [(0, .ref kre)] := hl
  refine lv_aload_n hx hb dX1_takeTurn_0 rfl (lv_at hl 0 rfl) ?_
  refine va_get (D := G.1) (ci := 1) (v := .ref kbt) (C := RX1) (T := TX1) (N := 13) hx hb hts hin1 hown hK.1 hP 0 rfl rfl 0 (by decide) (hts (.fieldLink RX1 12 "BackLenses$Reader" "target" "LBackLenses$Book;") (List.mem_of_getElem? (i := 1) rfl)) (fun _ h9 => h9) rfl dX1_takeTurn_1 ?_
  refine va_getN (D := G.1) (ci := 0) (v := .ref kc) (C := RX0) (T := TX0) (N := 7) hx hb hts hin0 hown hK.1 hP 1 rfl rfl 4 (by decide) (va_Nw.use rfl (hK.2 (Cond.fieldLinkNest "BackLenses$Reader" (72 : Nat) "BackLenses$Book" "changes" "LBackLenses$Rows;" "BackLenses") (List.mem_of_getElem? (i := 17) rfl))) (fun _ h9 => h9) rfl dX1_takeTurn_4 ?_
  refine va_getN (D := G.1) (ci := 2) (v := .int (nI nc)) (C := RX2) (T := TX2) (N := 3) hx hb hts hin2 hown hK.1 hP 2 rfl rfl 2 (by decide) (va_Nw.use rfl (hK.2 (Cond.fieldLinkNest "BackLenses$Reader" (76 : Nat) "BackLenses$Rows" "size" "I" "BackLenses") (List.mem_of_getElem? (i := 2) rfl))) (fun _ h9 => h9) rfl dX1_takeTurn_7 ?_
  refine lv_bipush (v := nI 10) hx hb dX1_takeTurn_10 (by decide) ?_
  refine xn_icmp_lt (tgt := 25) hx hb (by omega) (by omega) dX1_takeTurn_12 rfl (fun b12 => ?_) (fun b12 => ?_)
  · skip
    refine lv_aload_n hx hb dX1_takeTurn_25 rfl (lv_at hl 0 rfl) ?_
    refine lv_iconst (v := nI 0) hx hb dX1_takeTurn_26 (by decide) ?_
    refine lv_bipush (v := nI 9) hx hb dX1_takeTurn_27 (by decide) ?_
    refine xw_i (As := [.int (nI 0), .int (nI 9)]) (rest := []) (wr := [oC kbt 0 [.int (nI w), .int (nI h), .int (nI la), .ref ka, .ref kc, .ref kl, .ref kn], oC kc 2 [.ref kcn, .int (nI 10), .int (nI nc)], iA G kcn (3 * 10) fc]) ⟨hx, hb, hml, hown, hts⟩ (c_X1_takeNumber l G ss.heap.size kre kbt kby rl nx kd sr vl fo pl li hto lto ct tb 0 9 (by first | assumption | omega) (by first | assumption | omega) (by first | assumption | omega) (by first | assumption | omega)) (cwV 2 hts gX1_takeTurn_X1_takeNumber rfl rfl rfl (by decide +kernel) ⟨Nat.le_of_ble_eq_true rfl, Nat.le_of_ble_eq_true rfl⟩) hK hP hD hS hA [0, 4] [1, 2, 3] rfl rfl (by decide) (by decide) (by decide) rfl rfl rfl hl.1 rfl (Nat.le_of_ble_eq_true rfl) dX1_takeTurn_29 ⟨Nat.le_of_ble_eq_true rfl, Nat.le_of_ble_eq_true rfl⟩ (fun r29 u H locs hp29 hP hD hS => ?_)
    obtain ⟨nx2_29, kd2_29, sr2_29, vl2_29, fo2_29, pl2_29⟩ := u
    try dsimp only at hp29 hP hD
    obtain ⟨rfl, he29⟩ := hp29
    replace hP : xP G [oC kbt 0 [.int (nI w), .int (nI h), .int (nI la), .ref ka, .ref kc, .ref kl, .ref kn], oC kc 2 [.ref kcn, .int (nI 10), .int (nI nc)], iA G kcn (3 * 10) fc, oC kre 1 [.ref kbt, .ref kby, .int (nI rl), .int (nI nx2_29), .int (nI kd2_29), .int (nI sr2_29), .int vl2_29, .int fo2_29, .int pl2_29, .int li, .int hto, .int lto, .int ct], bA G kby 160 tb] H := hP
    replace hD : va_D (va_A (w_X1_takeTurn G kre kbt kby rl nx kd sr vl fo pl li hto lto ct ka kc kl kn w h la kcn nc fc tb) ss.heap.size) [oC kbt 0 [.int (nI w), .int (nI h), .int (nI la), .ref ka, .ref kc, .ref kl, .ref kn], oC kc 2 [.ref kcn, .int (nI 10), .int (nI nc)], iA G kcn (3 * 10) fc, oC kre 1 [.ref kbt, .ref kby, .int (nI rl), .int (nI nx2_29), .int (nI kd2_29), .int (nI sr2_29), .int vl2_29, .int fo2_29, .int pl2_29, .int li, .int hto, .int lto, .int ct], bA G kby 160 tb] := hD
    have hn29 : nx2_29 ≤ rl := (by have hq := fNum_bd (t := tb) (rl := rl) (lo := 0) (hi := 9) (s := (nx, kd, sr, vl, fo, pl)) (by assumption); rw [← he29] at hq; exact hq.1)
    refine xb_if_ne (tgt := 37) hx hb dX1_takeTurn_32 rfl (fun b32 => ?_) (fun b32 => ?_)
    · skip
      obtain ⟨k1, hk29a, hk29b, hk29⟩ := fNum_val (by omega) b32
      rw [← he29] at hk29
      replace hk29 : vl2_29 = nI k1 := hk29
      subst hk29
      refine lv_aload_n hx hb dX1_takeTurn_37 rfl (lv_at hl 0 rfl) ?_
      refine va_get (D := G.1) (ci := 1) (v := .int (nI k1)) (C := RX1) (T := TX1) (N := 13) hx hb hts hin1 hown hK.1 hP 3 rfl rfl 6 (by decide) (hts (.fieldLink RX1 130 "BackLenses$Reader" "value" "I") (List.mem_of_getElem? (i := 3) rfl)) (fun _ h9 => h9) rfl dX1_takeTurn_38 ?_
      refine lv_istore_n (lv' := [(1, .int (nI k1)), (0, .ref kre)]) hx hb dX1_takeTurn_41 rfl hl (by decide) rfl (fun ls hl => ?_)
      refine lv_aload_n hx hb dX1_takeTurn_42 rfl (lv_at hl 1 rfl) ?_
      refine lv_iconst (v := nI 0) hx hb dX1_takeTurn_43 (by decide) ?_
      refine lv_bipush (v := nI 15) hx hb dX1_takeTurn_44 (by decide) ?_
      refine xw_i (As := [.int (nI 0), .int (nI 15)]) (rest := []) (wr := [oC kbt 0 [.int (nI w), .int (nI h), .int (nI la), .ref ka, .ref kc, .ref kl, .ref kn], oC kc 2 [.ref kcn, .int (nI 10), .int (nI nc)], iA G kcn (3 * 10) fc]) ⟨hx, hb, hml, hown, hts⟩ (c_X1_takeNumber l G H.size kre kbt kby rl nx2_29 kd2_29 sr2_29 (nI k1) fo2_29 pl2_29 li hto lto ct tb 0 15 (by first | assumption | omega) (by first | assumption | omega) (by first | assumption | omega) (by first | assumption | omega)) (cwV 2 hts gX1_takeTurn_X1_takeNumber rfl rfl rfl (by decide +kernel) ⟨Nat.le_of_ble_eq_true rfl, Nat.le_of_ble_eq_true rfl⟩) hK hP hD hS hA [3, 4] [0, 1, 2] rfl rfl (by decide) (by decide) (by decide) rfl rfl rfl hl.1 rfl (Nat.le_of_ble_eq_true rfl) dX1_takeTurn_46 ⟨Nat.le_of_ble_eq_true rfl, Nat.le_of_ble_eq_true rfl⟩ (fun r46 u H locs hp46 hP hD hS => ?_)
      obtain ⟨nx2_46, kd2_46, sr2_46, vl2_46, fo2_46, pl2_46⟩ := u
      try dsimp only at hp46 hP hD
      obtain ⟨rfl, he46⟩ := hp46
      replace hP : xP G [oC kbt 0 [.int (nI w), .int (nI h), .int (nI la), .ref ka, .ref kc, .ref kl, .ref kn], oC kc 2 [.ref kcn, .int (nI 10), .int (nI nc)], iA G kcn (3 * 10) fc, oC kre 1 [.ref kbt, .ref kby, .int (nI rl), .int (nI nx2_46), .int (nI kd2_46), .int (nI sr2_46), .int vl2_46, .int fo2_46, .int pl2_46, .int li, .int hto, .int lto, .int ct], bA G kby 160 tb] H := hP
      replace hD : va_D (va_A (w_X1_takeTurn G kre kbt kby rl nx kd sr vl fo pl li hto lto ct ka kc kl kn w h la kcn nc fc tb) ss.heap.size) [oC kbt 0 [.int (nI w), .int (nI h), .int (nI la), .ref ka, .ref kc, .ref kl, .ref kn], oC kc 2 [.ref kcn, .int (nI 10), .int (nI nc)], iA G kcn (3 * 10) fc, oC kre 1 [.ref kbt, .ref kby, .int (nI rl), .int (nI nx2_46), .int (nI kd2_46), .int (nI sr2_46), .int vl2_46, .int fo2_46, .int pl2_46, .int li, .int hto, .int lto, .int ct], bA G kby 160 tb] := hD
      have hn46 : nx2_46 ≤ rl := (by have hq := fNum_bd (t := tb) (rl := rl) (lo := 0) (hi := 15) (s := (nx2_29, kd2_29, sr2_29, nI k1, fo2_29, pl2_29)) (by assumption); rw [← he46] at hq; exact hq.1)
      refine xb_if_ne (tgt := 54) hx hb dX1_takeTurn_49 rfl (fun b49 => ?_) (fun b49 => ?_)
      · skip
        obtain ⟨k2, hk46a, hk46b, hk46⟩ := fNum_val (by omega) b49
        rw [← he46] at hk46
        replace hk46 : vl2_46 = nI k2 := hk46
        subst hk46
        refine lv_aload_n hx hb dX1_takeTurn_54 rfl (lv_at hl 1 rfl) ?_
        refine va_get (D := G.1) (ci := 1) (v := .int (nI k2)) (C := RX1) (T := TX1) (N := 13) hx hb hts hin1 hown hK.1 hP 3 rfl rfl 6 (by decide) (hts (.fieldLink RX1 130 "BackLenses$Reader" "value" "I") (List.mem_of_getElem? (i := 3) rfl)) (fun _ h9 => h9) rfl dX1_takeTurn_55 ?_
        refine lv_istore_n (lv' := [(2, .int (nI k2)), (1, .int (nI k1)), (0, .ref kre)]) hx hb dX1_takeTurn_58 rfl hl (by decide) rfl (fun ls hl => ?_)
        refine lv_aload_n hx hb dX1_takeTurn_59 rfl (lv_at hl 2 rfl) ?_
        refine lv_iconst (v := nI 0) hx hb dX1_takeTurn_60 (by decide) ?_
        refine lv_iconst (v := nI 5) hx hb dX1_takeTurn_61 (by decide) ?_
        refine xw_i (As := [.int (nI 0), .int (nI 5)]) (rest := []) (wr := [oC kbt 0 [.int (nI w), .int (nI h), .int (nI la), .ref ka, .ref kc, .ref kl, .ref kn], oC kc 2 [.ref kcn, .int (nI 10), .int (nI nc)], iA G kcn (3 * 10) fc]) ⟨hx, hb, hml, hown, hts⟩ (c_X1_takeNumber l G H.size kre kbt kby rl nx2_46 kd2_46 sr2_46 (nI k2) fo2_46 pl2_46 li hto lto ct tb 0 5 (by first | assumption | omega) (by first | assumption | omega) (by first | assumption | omega) (by first | assumption | omega)) (cwV 2 hts gX1_takeTurn_X1_takeNumber rfl rfl rfl (by decide +kernel) ⟨Nat.le_of_ble_eq_true rfl, Nat.le_of_ble_eq_true rfl⟩) hK hP hD hS hA [3, 4] [0, 1, 2] rfl rfl (by decide) (by decide) (by decide) rfl rfl rfl hl.1 rfl (Nat.le_of_ble_eq_true rfl) dX1_takeTurn_62 ⟨Nat.le_of_ble_eq_true rfl, Nat.le_of_ble_eq_true rfl⟩ (fun r62 u H locs hp62 hP hD hS => ?_)
        obtain ⟨nx2_62, kd2_62, sr2_62, vl2_62, fo2_62, pl2_62⟩ := u
        try dsimp only at hp62 hP hD
        obtain ⟨rfl, he62⟩ := hp62
        replace hP : xP G [oC kbt 0 [.int (nI w), .int (nI h), .int (nI la), .ref ka, .ref kc, .ref kl, .ref kn], oC kc 2 [.ref kcn, .int (nI 10), .int (nI nc)], iA G kcn (3 * 10) fc, oC kre 1 [.ref kbt, .ref kby, .int (nI rl), .int (nI nx2_62), .int (nI kd2_62), .int (nI sr2_62), .int vl2_62, .int fo2_62, .int pl2_62, .int li, .int hto, .int lto, .int ct], bA G kby 160 tb] H := hP
        replace hD : va_D (va_A (w_X1_takeTurn G kre kbt kby rl nx kd sr vl fo pl li hto lto ct ka kc kl kn w h la kcn nc fc tb) ss.heap.size) [oC kbt 0 [.int (nI w), .int (nI h), .int (nI la), .ref ka, .ref kc, .ref kl, .ref kn], oC kc 2 [.ref kcn, .int (nI 10), .int (nI nc)], iA G kcn (3 * 10) fc, oC kre 1 [.ref kbt, .ref kby, .int (nI rl), .int (nI nx2_62), .int (nI kd2_62), .int (nI sr2_62), .int vl2_62, .int fo2_62, .int pl2_62, .int li, .int hto, .int lto, .int ct], bA G kby 160 tb] := hD
        have hn62 : nx2_62 ≤ rl := (by have hq := fNum_bd (t := tb) (rl := rl) (lo := 0) (hi := 5) (s := (nx2_46, kd2_46, sr2_46, nI k2, fo2_46, pl2_46)) (by assumption); rw [← he62] at hq; exact hq.1)
        refine xb_if_ne (tgt := 70) hx hb dX1_takeTurn_65 rfl (fun b65 => ?_) (fun b65 => ?_)
        · skip
          obtain ⟨k3, hk62a, hk62b, hk62⟩ := fNum_val (by omega) b65
          rw [← he62] at hk62
          replace hk62 : vl2_62 = nI k3 := hk62
          subst hk62
          refine lv_aload_n hx hb dX1_takeTurn_70 rfl (lv_at hl 2 rfl) ?_
          refine va_get (D := G.1) (ci := 1) (v := .ref kbt) (C := RX1) (T := TX1) (N := 13) hx hb hts hin1 hown hK.1 hP 3 rfl rfl 0 (by decide) (hts (.fieldLink RX1 12 "BackLenses$Reader" "target" "LBackLenses$Book;") (List.mem_of_getElem? (i := 1) rfl)) (fun _ h9 => h9) rfl dX1_takeTurn_71 ?_
          refine va_getN (D := G.1) (ci := 0) (v := .ref kc) (C := RX0) (T := TX0) (N := 7) hx hb hts hin0 hown hK.1 hP 0 rfl rfl 4 (by decide) (va_Nw.use rfl (hK.2 (Cond.fieldLinkNest "BackLenses$Reader" (72 : Nat) "BackLenses$Book" "changes" "LBackLenses$Rows;" "BackLenses") (List.mem_of_getElem? (i := 17) rfl))) (fun _ h9 => h9) rfl dX1_takeTurn_74 ?_
          refine lv_iload_n hx hb dX1_takeTurn_77 rfl (lv_at hl 1 rfl) ?_
          refine lv_iload_n hx hb dX1_takeTurn_78 rfl (lv_at hl 0 rfl) ?_
          refine lv_aload_n hx hb dX1_takeTurn_79 rfl (lv_at hl 2 rfl) ?_
          refine va_get (D := G.1) (ci := 1) (v := .int (nI k3)) (C := RX1) (T := TX1) (N := 13) hx hb hts hin1 hown hK.1 hP 3 rfl rfl 6 (by decide) (hts (.fieldLink RX1 130 "BackLenses$Reader" "value" "I") (List.mem_of_getElem? (i := 3) rfl)) (fun _ h9 => h9) rfl dX1_takeTurn_80 ?_
          refine xw_i (As := [.int (nI k1), .int (nI k2), .int (nI k3)]) (rest := []) (wr := [oC kbt 0 [.int (nI w), .int (nI h), .int (nI la), .ref ka, .ref kc, .ref kl, .ref kn], oC kre 1 [.ref kbt, .ref kby, .int (nI rl), .int (nI nx2_62), .int (nI kd2_62), .int (nI sr2_62), .int (nI k3), .int fo2_62, .int pl2_62, .int li, .int hto, .int lto, .int ct], bA G kby 160 tb]) ⟨hx, hb, hml, hown, hts⟩ (c_X2_add l G H.size kc kcn 10 nc fc (nI k1) (nI k2) (nI k3) (by first | assumption | omega) (by first | assumption | omega)) (cwV 3 hts gX1_takeTurn_X2_add rfl rfl rfl (by decide +kernel) ⟨Nat.le_of_ble_eq_true rfl, Nat.le_of_ble_eq_true rfl⟩) hK hP hD hS hA [1, 2] [0, 3, 4] rfl rfl (by decide) (by decide) (by decide) rfl rfl rfl hl.1 rfl (Nat.le_of_ble_eq_true rfl) dX1_takeTurn_83 ⟨Nat.le_of_ble_eq_true rfl, Nat.le_of_ble_eq_true rfl⟩ (fun r83 u H locs hp83 hP hD hS => ?_)
          obtain ⟨u0_83, u1_83⟩ := u
          try dsimp only at hp83 hP hD
          obtain ⟨rfl, rfl, rfl⟩ := hp83
          replace hP : xP G [oC kbt 0 [.int (nI w), .int (nI h), .int (nI la), .ref ka, .ref kc, .ref kl, .ref kn], oC kre 1 [.ref kbt, .ref kby, .int (nI rl), .int (nI nx2_62), .int (nI kd2_62), .int (nI sr2_62), .int (nI k3), .int fo2_62, .int pl2_62, .int li, .int hto, .int lto, .int ct], bA G kby 160 tb, oC kc 2 [.ref kcn, .int (nI 10), .int (nI (if nc < 10 then nc + 1 else nc))], iA G kcn (3 * 10) (if nc < 10 then upd (upd (upd fc (3 * nc) (nI k1)) (3 * nc + 1) (nI k2)) (3 * nc + 2) (nI k3) else fc)] H := hP
          replace hD : va_D (va_A (w_X1_takeTurn G kre kbt kby rl nx kd sr vl fo pl li hto lto ct ka kc kl kn w h la kcn nc fc tb) ss.heap.size) [oC kbt 0 [.int (nI w), .int (nI h), .int (nI la), .ref ka, .ref kc, .ref kl, .ref kn], oC kre 1 [.ref kbt, .ref kby, .int (nI rl), .int (nI nx2_62), .int (nI kd2_62), .int (nI sr2_62), .int (nI k3), .int fo2_62, .int pl2_62, .int li, .int hto, .int lto, .int ct], bA G kby 160 tb, oC kc 2 [.ref kcn, .int (nI 10), .int (nI (if nc < 10 then nc + 1 else nc))], iA G kcn (3 * 10) (if nc < 10 then upd (upd (upd fc (3 * nc) (nI k1)) (3 * nc + 1) (nI k2)) (3 * nc + 2) (nI k3) else fc)] := hD
          refine lv_pop hx hb dX1_takeTurn_86 rfl ?_
          refine lv_aload_n hx hb dX1_takeTurn_87 rfl (lv_at hl 2 rfl) ?_
          refine xw_i (As := []) (rest := []) (wr := [oC kbt 0 [.int (nI w), .int (nI h), .int (nI la), .ref ka, .ref kc, .ref kl, .ref kn], oC kc 2 [.ref kcn, .int (nI 10), .int (nI (if nc < 10 then nc + 1 else nc))], iA G kcn (3 * 10) (if nc < 10 then upd (upd (upd fc (3 * nc) (nI k1)) (3 * nc + 1) (nI k2)) (3 * nc + 2) (nI k3) else fc)]) ⟨hx, hb, hml, hown, hts⟩ (c_X1_takeSemicolon l G H.size kre kbt kby rl nx2_62 kd2_62 sr2_62 (nI k3) fo2_62 pl2_62 li hto lto ct tb (by first | assumption | omega) (by first | assumption | omega)) (cwV 0 hts gX1_takeTurn_X1_takeSemicolon rfl rfl rfl (by decide +kernel) ⟨Nat.le_of_ble_eq_true rfl, Nat.le_of_ble_eq_true rfl⟩) hK hP hD hS hA [1, 2] [0, 3, 4] rfl rfl (by decide) (by decide) (by decide) rfl rfl rfl hl.1 rfl (Nat.le_of_ble_eq_true rfl) dX1_takeTurn_88 ⟨Nat.le_of_ble_eq_true rfl, Nat.le_of_ble_eq_true rfl⟩ (fun r88 u H locs hp88 hP hD hS => ?_)
          obtain ⟨nx2_88, kd2_88, sr2_88, vl2_88, fo2_88, pl2_88⟩ := u
          try dsimp only at hp88 hP hD
          obtain ⟨rfl, he88⟩ := hp88
          replace hP : xP G [oC kbt 0 [.int (nI w), .int (nI h), .int (nI la), .ref ka, .ref kc, .ref kl, .ref kn], oC kc 2 [.ref kcn, .int (nI 10), .int (nI (if nc < 10 then nc + 1 else nc))], iA G kcn (3 * 10) (if nc < 10 then upd (upd (upd fc (3 * nc) (nI k1)) (3 * nc + 1) (nI k2)) (3 * nc + 2) (nI k3) else fc), oC kre 1 [.ref kbt, .ref kby, .int (nI rl), .int (nI nx2_88), .int (nI kd2_88), .int (nI sr2_88), .int vl2_88, .int fo2_88, .int pl2_88, .int li, .int hto, .int lto, .int ct], bA G kby 160 tb] H := hP
          replace hD : va_D (va_A (w_X1_takeTurn G kre kbt kby rl nx kd sr vl fo pl li hto lto ct ka kc kl kn w h la kcn nc fc tb) ss.heap.size) [oC kbt 0 [.int (nI w), .int (nI h), .int (nI la), .ref ka, .ref kc, .ref kl, .ref kn], oC kc 2 [.ref kcn, .int (nI 10), .int (nI (if nc < 10 then nc + 1 else nc))], iA G kcn (3 * 10) (if nc < 10 then upd (upd (upd fc (3 * nc) (nI k1)) (3 * nc + 1) (nI k2)) (3 * nc + 2) (nI k3) else fc), oC kre 1 [.ref kbt, .ref kby, .int (nI rl), .int (nI nx2_88), .int (nI kd2_88), .int (nI sr2_88), .int vl2_88, .int fo2_88, .int pl2_88, .int li, .int hto, .int lto, .int ct], bA G kby 160 tb] := hD
          have hP := hP.sub (ws' := [oC kre 1 [.ref kbt, .ref kby, .int (nI rl), .int (nI nx2_88), .int (nI kd2_88), .int (nI sr2_88), .int vl2_88, .int fo2_88, .int pl2_88, .int li, .int hto, .int lto, .int ct], oC kbt 0 [.int (nI w), .int (nI h), .int (nI la), .ref ka, .ref kc, .ref kl, .ref kn], oC kc 2 [.ref kcn, .int (nI 10), .int (nI (if nc < 10 then nc + 1 else nc))], iA G kcn (3 * 10) (if nc < 10 then upd (upd (upd fc (3 * nc) (nI k1)) (3 * nc + 1) (nI k2)) (3 * nc + 2) (nI k3) else fc), bA G kby 160 tb]) [3, 0, 1, 2, 4] rfl
          have hD := hD.sub (ws' := [oC kre 1 [.ref kbt, .ref kby, .int (nI rl), .int (nI nx2_88), .int (nI kd2_88), .int (nI sr2_88), .int vl2_88, .int fo2_88, .int pl2_88, .int li, .int hto, .int lto, .int ct], oC kbt 0 [.int (nI w), .int (nI h), .int (nI la), .ref ka, .ref kc, .ref kl, .ref kn], oC kc 2 [.ref kcn, .int (nI 10), .int (nI (if nc < 10 then nc + 1 else nc))], iA G kcn (3 * 10) (if nc < 10 then upd (upd (upd fc (3 * nc) (nI k1)) (3 * nc + 1) (nI k2)) (3 * nc + 2) (nI k3) else fc), bA G kby 160 tb]) [3, 0, 1, 2, 4] (by decide) rfl
          refine W.zret (v := xb ((fSem tb rl (nx2_62, kd2_62, sr2_62, (nI k3), fo2_62, pl2_62)).1 = true)) (ty := .boolean) hx hb hr xb_nar (fun t ht hW => ⟨⟨xb ((fSem tb rl (nx2_62, kd2_62, sr2_62, (nI k3), fo2_62, pl2_62)).1 = true), (nx2_88, kd2_88, sr2_88, vl2_88, fo2_88, pl2_88, (if nc < 10 then nc + 1 else nc), (if nc < 10 then upd (upd (upd fc (3 * nc) (nI k1)) (3 * nc + 1) (nI k2)) (3 * nc + 2) (nI k3) else fc)), rfl, ?_, by rw [ht]; exact hP, hD⟩, hS.F ht⟩) hS.2.2 dX1_takeTurn_91
          try dsimp only
          rw [show fTur tb rl nc fc (nx, kd, sr, vl, fo, pl) = _ from (if_pos b12).trans ((bN_ok b32 he29 (by omega)).trans ((bN_ok b49 he46 (by omega)).trans (bN_ok b65 he62 (by omega))))]; rw [if_pos b12, if_pos b12]; exact ⟨rfl, congrArg (fun a => (a, _)) he88⟩
        · skip
          refine lv_iconst (v := nI 0) hx hb dX1_takeTurn_68 (by decide) ?_
          have hP := hP.sub (ws' := [oC kre 1 [.ref kbt, .ref kby, .int (nI rl), .int (nI nx2_62), .int (nI kd2_62), .int (nI sr2_62), .int vl2_62, .int fo2_62, .int pl2_62, .int li, .int hto, .int lto, .int ct], oC kbt 0 [.int (nI w), .int (nI h), .int (nI la), .ref ka, .ref kc, .ref kl, .ref kn], oC kc 2 [.ref kcn, .int (nI 10), .int (nI nc)], iA G kcn (3 * 10) fc, bA G kby 160 tb]) [3, 0, 1, 2, 4] rfl
          have hD := hD.sub (ws' := [oC kre 1 [.ref kbt, .ref kby, .int (nI rl), .int (nI nx2_62), .int (nI kd2_62), .int (nI sr2_62), .int vl2_62, .int fo2_62, .int pl2_62, .int li, .int hto, .int lto, .int ct], oC kbt 0 [.int (nI w), .int (nI h), .int (nI la), .ref ka, .ref kc, .ref kl, .ref kn], oC kc 2 [.ref kcn, .int (nI 10), .int (nI nc)], iA G kcn (3 * 10) fc, bA G kby 160 tb]) [3, 0, 1, 2, 4] (by decide) rfl
          refine W.zret (v := nI 0) (ty := .boolean) hx hb hr (by decide) (fun t ht hW => ⟨⟨nI 0, (nx2_62, kd2_62, sr2_62, vl2_62, fo2_62, pl2_62, nc, fc), rfl, ?_, by rw [ht]; exact hP, hD⟩, hS.F ht⟩) hS.2.2 dX1_takeTurn_69
          try dsimp only
          rw [show fTur tb rl nc fc (nx, kd, sr, vl, fo, pl) = _ from (if_pos b12).trans ((bN_ok b32 he29 (by omega)).trans ((bN_ok b49 he46 (by omega)).trans (bN_no b65 he62)))]; exact ⟨(xb_f Bool.false_ne_true).symm, rfl⟩
      · skip
        refine lv_iconst (v := nI 0) hx hb dX1_takeTurn_52 (by decide) ?_
        have hP := hP.sub (ws' := [oC kre 1 [.ref kbt, .ref kby, .int (nI rl), .int (nI nx2_46), .int (nI kd2_46), .int (nI sr2_46), .int vl2_46, .int fo2_46, .int pl2_46, .int li, .int hto, .int lto, .int ct], oC kbt 0 [.int (nI w), .int (nI h), .int (nI la), .ref ka, .ref kc, .ref kl, .ref kn], oC kc 2 [.ref kcn, .int (nI 10), .int (nI nc)], iA G kcn (3 * 10) fc, bA G kby 160 tb]) [3, 0, 1, 2, 4] rfl
        have hD := hD.sub (ws' := [oC kre 1 [.ref kbt, .ref kby, .int (nI rl), .int (nI nx2_46), .int (nI kd2_46), .int (nI sr2_46), .int vl2_46, .int fo2_46, .int pl2_46, .int li, .int hto, .int lto, .int ct], oC kbt 0 [.int (nI w), .int (nI h), .int (nI la), .ref ka, .ref kc, .ref kl, .ref kn], oC kc 2 [.ref kcn, .int (nI 10), .int (nI nc)], iA G kcn (3 * 10) fc, bA G kby 160 tb]) [3, 0, 1, 2, 4] (by decide) rfl
        refine W.zret (v := nI 0) (ty := .boolean) hx hb hr (by decide) (fun t ht hW => ⟨⟨nI 0, (nx2_46, kd2_46, sr2_46, vl2_46, fo2_46, pl2_46, nc, fc), rfl, ?_, by rw [ht]; exact hP, hD⟩, hS.F ht⟩) hS.2.2 dX1_takeTurn_53
        try dsimp only
        rw [show fTur tb rl nc fc (nx, kd, sr, vl, fo, pl) = _ from (if_pos b12).trans ((bN_ok b32 he29 (by omega)).trans (bN_no b49 he46))]; exact ⟨(xb_f Bool.false_ne_true).symm, rfl⟩
    · skip
      refine lv_iconst (v := nI 0) hx hb dX1_takeTurn_35 (by decide) ?_
      have hP := hP.sub (ws' := [oC kre 1 [.ref kbt, .ref kby, .int (nI rl), .int (nI nx2_29), .int (nI kd2_29), .int (nI sr2_29), .int vl2_29, .int fo2_29, .int pl2_29, .int li, .int hto, .int lto, .int ct], oC kbt 0 [.int (nI w), .int (nI h), .int (nI la), .ref ka, .ref kc, .ref kl, .ref kn], oC kc 2 [.ref kcn, .int (nI 10), .int (nI nc)], iA G kcn (3 * 10) fc, bA G kby 160 tb]) [3, 0, 1, 2, 4] rfl
      have hD := hD.sub (ws' := [oC kre 1 [.ref kbt, .ref kby, .int (nI rl), .int (nI nx2_29), .int (nI kd2_29), .int (nI sr2_29), .int vl2_29, .int fo2_29, .int pl2_29, .int li, .int hto, .int lto, .int ct], oC kbt 0 [.int (nI w), .int (nI h), .int (nI la), .ref ka, .ref kc, .ref kl, .ref kn], oC kc 2 [.ref kcn, .int (nI 10), .int (nI nc)], iA G kcn (3 * 10) fc, bA G kby 160 tb]) [3, 0, 1, 2, 4] (by decide) rfl
      refine W.zret (v := nI 0) (ty := .boolean) hx hb hr (by decide) (fun t ht hW => ⟨⟨nI 0, (nx2_29, kd2_29, sr2_29, vl2_29, fo2_29, pl2_29, nc, fc), rfl, ?_, by rw [ht]; exact hP, hD⟩, hS.F ht⟩) hS.2.2 dX1_takeTurn_36
      try dsimp only
      rw [show fTur tb rl nc fc (nx, kd, sr, vl, fo, pl) = _ from (if_pos b12).trans (bN_no b32 he29)]; exact ⟨(xb_f Bool.false_ne_true).symm, rfl⟩
  · skip
    refine lv_aload_n hx hb dX1_takeTurn_15 rfl (lv_at hl 0 rfl) ?_
    refine lv_iconst (v := nI 5) hx hb dX1_takeTurn_16 (by decide) ?_
    refine lv_aload_n hx hb dX1_takeTurn_17 rfl (lv_at hl 0 rfl) ?_
    refine va_get (D := G.1) (ci := 1) (v := .int (nI sr)) (C := RX1) (T := TX1) (N := 13) hx hb hts hin1 hown hK.1 hP 0 rfl rfl 5 (by decide) (hts (.fieldLink RX1 95 "BackLenses$Reader" "start" "I") (List.mem_of_getElem? (i := 2) rfl)) (fun _ h9 => h9) rfl dX1_takeTurn_18 ?_
    refine xw_i (As := [.int (nI 5), .int (nI sr)]) (rest := []) (wr := [oC kbt 0 [.int (nI w), .int (nI h), .int (nI la), .ref ka, .ref kc, .ref kl, .ref kn], oC kc 2 [.ref kcn, .int (nI 10), .int (nI nc)], iA G kcn (3 * 10) fc, bA G kby 160 tb]) ⟨hx, hb, hml, hown, hts⟩ (c_X1_refuse l G ss.heap.size kre kbt kby rl nx kd sr vl fo pl li hto lto ct (nI 5) (nI sr) ) (cwV 2 hts gX1_takeTurn_X1_refuse rfl rfl rfl (by decide +kernel) ⟨Nat.le_of_ble_eq_true rfl, Nat.le_of_ble_eq_true rfl⟩) hK hP hD hS hA [0] [1, 2, 3, 4] rfl rfl (by decide) (by decide) (by decide) rfl rfl rfl hl.1 rfl (Nat.le_of_ble_eq_true rfl) dX1_takeTurn_21 ⟨Nat.le_of_ble_eq_true rfl, Nat.le_of_ble_eq_true rfl⟩ (fun r21 u H locs hp21 hP hD hS => ?_)
    obtain rfl := hp21
    replace hP : xP G [oC kbt 0 [.int (nI w), .int (nI h), .int (nI la), .ref ka, .ref kc, .ref kl, .ref kn], oC kc 2 [.ref kcn, .int (nI 10), .int (nI nc)], iA G kcn (3 * 10) fc, bA G kby 160 tb, oC kre 1 [.ref kbt, .ref kby, .int (nI rl), .int (nI nx), .int (nI kd), .int (nI sr), .int vl, .int (nI 5), .int (nI sr), .int li, .int hto, .int lto, .int ct]] H := hP
    replace hD : va_D (va_A (w_X1_takeTurn G kre kbt kby rl nx kd sr vl fo pl li hto lto ct ka kc kl kn w h la kcn nc fc tb) ss.heap.size) [oC kbt 0 [.int (nI w), .int (nI h), .int (nI la), .ref ka, .ref kc, .ref kl, .ref kn], oC kc 2 [.ref kcn, .int (nI 10), .int (nI nc)], iA G kcn (3 * 10) fc, bA G kby 160 tb, oC kre 1 [.ref kbt, .ref kby, .int (nI rl), .int (nI nx), .int (nI kd), .int (nI sr), .int vl, .int (nI 5), .int (nI sr), .int li, .int hto, .int lto, .int ct]] := hD
    have hP := hP.sub (ws' := [oC kre 1 [.ref kbt, .ref kby, .int (nI rl), .int (nI nx), .int (nI kd), .int (nI sr), .int vl, .int (nI 5), .int (nI sr), .int li, .int hto, .int lto, .int ct], oC kbt 0 [.int (nI w), .int (nI h), .int (nI la), .ref ka, .ref kc, .ref kl, .ref kn], oC kc 2 [.ref kcn, .int (nI 10), .int (nI nc)], iA G kcn (3 * 10) fc, bA G kby 160 tb]) [4, 0, 1, 2, 3] rfl
    have hD := hD.sub (ws' := [oC kre 1 [.ref kbt, .ref kby, .int (nI rl), .int (nI nx), .int (nI kd), .int (nI sr), .int vl, .int (nI 5), .int (nI sr), .int li, .int hto, .int lto, .int ct], oC kbt 0 [.int (nI w), .int (nI h), .int (nI la), .ref ka, .ref kc, .ref kl, .ref kn], oC kc 2 [.ref kcn, .int (nI 10), .int (nI nc)], iA G kcn (3 * 10) fc, bA G kby 160 tb]) [4, 0, 1, 2, 3] (by decide) rfl
    refine W.zret (v := nI 0) (ty := .boolean) hx hb hr (by decide) (fun t ht hW => ⟨⟨nI 0, (nx, kd, sr, vl, (nI 5), (nI sr), nc, fc), rfl, ?_, by rw [ht]; exact hP, hD⟩, hS.F ht⟩) hS.2.2 dX1_takeTurn_24
    try dsimp only
    rw [show fTur tb rl nc fc (nx, kd, sr, vl, fo, pl) = _ from if_neg (by omega)]; exact ⟨(xb_f Bool.false_ne_true).symm, rfl⟩

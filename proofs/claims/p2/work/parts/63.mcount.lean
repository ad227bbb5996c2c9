abbrev w_X6_count_0 (G : XG) (ko : Nat) (ad : Nat → Nat) (w h la tp : Nat) (ft tr : Int32) (mv : Nat → Int32) (S : Nat → Int32) : va_W := [oC ko 6 [.ref (ad 0), .ref (ad 1), .int (nI w), .int (nI h), .int (nI la), .ref (ad 2), .int (mv 0), .int (mv 1), .int (mv 2), .int (mv 3), .int (mv 4), .int (mv 5), .int (mv 6), .ref (ad 3), .int (nI tp), .int (mv 7), .int (mv 8), .int (mv 9), .int (mv 10), .int ft, .int (mv 11), .ref (ad 4), .ref (ad 5), .ref (ad 6), .ref (ad 7), .ref (ad 8), .ref (ad 9), .ref (ad 10), .int tr], iA G (ad 0) 255 S]
abbrev Q_X6_count_0 (G : XG) (ko : Nat) (ad : Nat → Nat) (w h la tp : Nat) (ft tr : Int32) (mv : Nat → Int32) (S : Nat → Int32) (nc : Nat) (ns : Nat) : Array Value → State → Outcome → State → Prop := (xRi (fun r => r = nI ns))
set_option maxHeartbeats 4000000 in
set_option maxRecDepth 100000 in
theorem c_X6_count_0 (l : Launch) (G : XG) (ko : Nat) (ad : Nat → Nat) (w h la tp : Nat) (ft tr : Int32) (mv : Nat → Int32) (S : Nat → Int32) (nc : Nat) (ns : Nat) (hw : 1 ≤ w) (hwb : w ≤ 16) (hhb : h ≤ 16) (hwh1 : 1 ≤ w * h) (hwh : w * h ≤ 16) (hla : la ≤ 9) (hs16 : S 16 = nI nc) (hnc : nc ≤ 10) (hs60 : S 60 = nI ns) : Met l yX6_count wsX6_count ({ frames := 2, cells := 0, slots := 0, locals := 51 } : Room) (va_Pc [.ref ko, .int (nI 0)] (xRp G (w_X6_count_0 G ko ad w h la tp ft tr mv S))) (Q_X6_count_0 G ko ad w h la tp ft tr mv S nc ns) 0 0 (fun _ => False) := by
  refine Met.ofW (cc := cX6_count) (maxL := 4) (ret := (some .int)) (by decide) rfl ?_
  intro pp ee ss mm aa below mt cd s₁ BB hml hv
  obtain ⟨rfl, hP, hK⟩ := hv
  have hx := BB.exec
  have hb := BB.bytes
  have hr := BB.returns
  have hts := atoms_spec (ws := wsX6_count) BB.pre
  have hown : ss.vm.findClass RX6 = some mm.cls := findClass_of_methodNamed BB.named
  have hlocks := BB.notSynchronized
  have hS : va_S (fun _ => False) ss.heap ss.heap [] := va_S.rf
  replace hP : xP G [oC ko 6 [.ref (ad 0), .ref (ad 1), .int (nI w), .int (nI h), .int (nI la), .ref (ad 2), .int (mv 0), .int (mv 1), .int (mv 2), .int (mv 3), .int (mv 4), .int (mv 5), .int (mv 6), .ref (ad 3), .int (nI tp), .int (mv 7), .int (mv 8), .int (mv 9), .int (mv 10), .int ft, .int (mv 11), .ref (ad 4), .ref (ad 5), .ref (ad 6), .ref (ad 7), .ref (ad 8), .ref (ad 9), .ref (ad 10), .int tr], iA G (ad 0) 255 S] ss.heap := hP
  have hin6 : ∀ w ∈ u_ws RX6 TX6 29, w ∈ wsX6_count := fun w h => List.mem_cons_of_mem _ (List.mem_append_right _ h)
  have hl := lv_entry ([.ref ko, .int (nI 0)]) (n := 4) (Nat.le_of_ble_eq_true rfl)
  rw [lg_entry_eq]
  generalize (lg_sl ([.ref ko, .int (nI 0)]) ++ List.replicate (4 - (lg_sl ([.ref ko, .int (nI 0)])).length) Slot.unset).toArray = ls at hl ⊢
  replace hl : lv_has ls 4 [(0, .ref ko), (1, .int (nI 0))] := hl
  refine lv_iconst (v := nI 0) hx hb dX6_count_0 (by decide) ?_
  refine lv_istore_n (lv' := [(2, .int (nI 0)), (0, .ref ko), (1, .int (nI 0))]) hx hb dX6_count_1 rfl hl (by decide) rfl (fun ls hl => ?_)
  refine lv_iconst (v := nI 1) hx hb dX6_count_2 (by decide) ?_
  refine lv_istore_n (lv' := [(3, .int (nI 1)), (2, .int (nI 0)), (0, .ref ko), (1, .int (nI 0))]) hx hb dX6_count_3 rfl hl (by decide) rfl (fun ls hl => ?_)
  have hL4 : ∀ k : Nat, ∀ (d : Nat) (n : Nat) (ls : Array Slot) (H : Heap) (locs : List Loc), la - d = k → (d ≤ la) → (n = cntF (fun d => decide (¬ unM w h S nc (d + 1) d = 0)) d) → lv_has ls 4 [(0, .ref ko), (1, .int (nI 0)), (2, .int (nI n)), (3, .int (nI (d + 1)))] → xP G [iA G (ad 0) 255 S, oC ko 6 [.ref (ad 0), .ref (ad 1), .int (nI w), .int (nI h), .int (nI la), .ref (ad 2), .int (mv 0), .int (mv 1), .int (mv 2), .int (mv 3), .int (mv 4), .int (mv 5), .int (mv 6), .ref (ad 3), .int (nI tp), .int (mv 7), .int (mv 8), .int (mv 9), .int (mv 10), .int ft, .int (mv 11), .ref (ad 4), .ref (ad 5), .ref (ad 6), .ref (ad 7), .ref (ad 8), .ref (ad 9), .ref (ad 10), .int tr]] H → va_S (fun _ => False) ss.heap H locs → W pp l ee ({ frames := 2, cells := 0, slots := 0, locals := 51 } : Room) ss mm ([.ref ko, .int (nI 0)] : List Value).toArray below mt cd H locs 0 0 (MQ below (Q_X6_count_0 G ko ad w h la tp ft tr mv S nc ns) ([.ref ko, .int (nI 0)] : List Value).toArray ss 0 0 (fun _ => False)) (F0 mm 4 ls []) := by
    intro k
    induction k using Nat.strongRecOn with
    | _ k ih4 =>
    intro d n ls H locs hm4 hd hn hl hP hS
    refine lv_iload_n hx hb dX6_count_4 rfl (lv_at hl 3 rfl) ?_
    refine lv_aload_n hx hb dX6_count_5 rfl (lv_at hl 0 rfl) ?_
    refine va_get (D := G.1) (ci := 6) (v := .int (nI la)) (C := RX6) (T := TX6) (N := 29) hx hb hts hin6 hown hK.1 hP 1 rfl rfl 4 (by decide) (hts (.fieldLink RX6 78 "BackLensesModel" "last" "I") (List.mem_of_getElem? (i := 1) rfl)) (fun _ h9 => h9) rfl dX6_count_6 ?_
    refine xn_icmp_gt (tgt := 40) hx hb (by omega) (by omega) dX6_count_9 rfl (fun b9 => ?_) (fun b9 => ?_)
    · skip
      refine lv_iload_n hx hb dX6_count_40 rfl (lv_at hl 1 rfl) ?_
      refine lv_tableIn (off := 39) (tgt := 80) hx hb dX6_count_41 (by decide) (by decide) rfl rfl ?_
      refine lv_aload_n hx hb dX6_count_80 rfl (lv_at hl 0 rfl) ?_
      refine va_get (D := G.1) (ci := 6) (v := .ref (ad 0)) (C := RX6) (T := TX6) (N := 29) hx hb hts hin6 hown hK.1 hP 1 rfl rfl 0 (by decide) (hts (.fieldLink RX6 7 "BackLensesModel" "st" "[I") (List.mem_of_getElem? (i := 2) rfl)) (fun _ h9 => h9) rfl dX6_count_81 ?_
      refine lv_bipush (v := nI 60) hx hb dX6_count_84 (by decide) ?_
      refine xn_iald hx hb hK hP 0 rfl (by omega) (by omega) dX6_count_86 ?_
      refine W.iret (v := S 60) hx hb hr (fun t ht hW => ⟨⟨S 60, (), rfl, ?_, trivial⟩, hS.F ht⟩) hS.2.2 dX6_count_87
      exact hs60
    · skip
      refine lv_iload_n hx hb dX6_count_12 rfl (lv_at hl 2 rfl) ?_
      refine lv_aload_n hx hb dX6_count_13 rfl (lv_at hl 0 rfl) ?_
      refine lv_iload_n hx hb dX6_count_14 rfl (lv_at hl 3 rfl) ?_
      refine lv_iload_n hx hb dX6_count_15 rfl (lv_at hl 3 rfl) ?_
      refine lv_iconst (v := nI 1) hx hb dX6_count_16 (by decide) ?_
      refine xn_isub hx hb (by omega) dX6_count_17 ?_
      refine xr_i (As := [.int (nI (d + 1)), .int (nI ((d + 1) - 1))]) (rest := [.int (nI n)]) ⟨hx, hb, hml, hown, hts⟩ (c_X6_unlike l G ko ad w h la tp ft tr mv S nc (d + 1) ((d + 1) - 1) (by first | assumption | omega) (by first | assumption | omega) (by first | assumption | omega) (by first | assumption | omega) (by first | assumption | omega) (by first | assumption | omega) (by first | assumption | omega) (by first | assumption | omega) (by first | assumption | omega) (by first | assumption | omega)) (cwV 2 hts gX6_count_X6_unlike rfl rfl rfl (by decide +kernel) ⟨Nat.le_of_ble_eq_true rfl, Nat.le_of_ble_eq_true rfl⟩) hK hP hS [1, 0] rfl rfl rfl rfl hl.1 rfl (Nat.le_of_ble_eq_true rfl) dX6_count_18 ⟨Nat.zero_le _, Nat.zero_le _⟩ (fun r18 H locs hp18 hP hS => ?_)
      rw [show r18 = _ from hp18]
      refine lv_if_eq (tgt := 28) hx hb dX6_count_21 rfl (fun b21 => ?_) (fun b21 => ?_)
      · skip
        refine lv_iconst (v := nI 0) hx hb dX6_count_28 (by decide) ?_
        refine xs_i (As := [.int (nI 0)]) (rest := [.int (nI n)]) ⟨hx, hb, hml, hown, hts⟩ (c_X6_flag_0 l G) (va_cwS 1 hts gX6_count_X6_flag rfl rfl rfl (by decide +kernel) ⟨Nat.le_of_ble_eq_true rfl, Nat.le_of_ble_eq_true rfl⟩) hP hS rfl hl.1 rfl (Nat.le_of_ble_eq_true rfl) dX6_count_29 ⟨Nat.zero_le _, Nat.zero_le _⟩ (fun r29 H locs hp29 hP hS => ?_)
        rw [show r29 = _ from hp29]
        refine xn_iadd hx hb dX6_count_32 ?_
        refine lv_istore_n (lv' := [(2, .int (nI (n + 0))), (0, .ref ko), (1, .int (nI 0)), (3, .int (nI (d + 1)))]) hx hb dX6_count_33 rfl hl (by decide) rfl (fun ls hl => ?_)
        refine lv_iinc (k := 3) (v := nI (d + 1 + 1)) (lv' := [(3, .int (nI (d + 1 + 1))), (2, .int (nI (n + 0))), (0, .ref ko), (1, .int (nI 0))]) hx hb dX6_count_34 hl rfl (xn_inc (d + 1) 1) (by decide) rfl (fun ls hl => ?_)
        refine lv_goto (tgt := 4) hx hb dX6_count_37 rfl ?_
        have hl := lv_sub hl (l' := [(0, .ref ko), (1, .int (nI 0)), (2, .int (nI (n + 0))), (3, .int (nI (d + 1 + 1)))]) [2, 3, 1, 0] rfl
        exact ih4 (la - (d + 1)) (by omega) (d + 1) (n + 0) ls H locs rfl (by omega) (by first | exact cntF_T (decide_eq_true b21) hn | exact cntF_N (decide_eq_false (fun q => q b21)) hn) hl hP hS
      · skip
        refine lv_iconst (v := nI 1) hx hb dX6_count_24 (by decide) ?_
        refine lv_goto (tgt := 29) hx hb dX6_count_25 rfl ?_
        refine xs_i (As := [.int (nI 1)]) (rest := [.int (nI n)]) ⟨hx, hb, hml, hown, hts⟩ (c_X6_flag_1 l G) (va_cwS 1 hts gX6_count_X6_flag rfl rfl rfl (by decide +kernel) ⟨Nat.le_of_ble_eq_true rfl, Nat.le_of_ble_eq_true rfl⟩) hP hS rfl hl.1 rfl (Nat.le_of_ble_eq_true rfl) dX6_count_29 ⟨Nat.zero_le _, Nat.zero_le _⟩ (fun r29 H locs hp29 hP hS => ?_)
        rw [show r29 = _ from hp29]
        refine xn_iadd hx hb dX6_count_32 ?_
        refine lv_istore_n (lv' := [(2, .int (nI (n + 1))), (0, .ref ko), (1, .int (nI 0)), (3, .int (nI (d + 1)))]) hx hb dX6_count_33 rfl hl (by decide) rfl (fun ls hl => ?_)
        refine lv_iinc (k := 3) (v := nI (d + 1 + 1)) (lv' := [(3, .int (nI (d + 1 + 1))), (2, .int (nI (n + 1))), (0, .ref ko), (1, .int (nI 0))]) hx hb dX6_count_34 hl rfl (xn_inc (d + 1) 1) (by decide) rfl (fun ls hl => ?_)
        refine lv_goto (tgt := 4) hx hb dX6_count_37 rfl ?_
        have hl := lv_sub hl (l' := [(0, .ref ko), (1, .int (nI 0)), (2, .int (nI (n + 1))), (3, .int (nI (d + 1 + 1)))]) [2, 3, 1, 0] rfl
        exact ih4 (la - (d + 1)) (by omega) (d + 1) (n + 1) ls H locs rfl (by omega) (by first | exact cntF_T (decide_eq_true b21) hn | exact cntF_N (decide_eq_false (fun q => q b21)) hn) hl hP hS
  have hl := lv_sub hl (l' := [(0, .ref ko), (1, .int (nI 0)), (2, .int (nI 0)), (3, .int (nI 1))]) [2, 3, 1, 0] rfl
  have hP := hP.sub (ws' := [iA G (ad 0) 255 S, oC ko 6 [.ref (ad 0), .ref (ad 1), .int (nI w), .int (nI h), .int (nI la), .ref (ad 2), .int (mv 0), .int (mv 1), .int (mv 2), .int (mv 3), .int (mv 4), .int (mv 5), .int (mv 6), .ref (ad 3), .int (nI tp), .int (mv 7), .int (mv 8), .int (mv 9), .int (mv 10), .int ft, .int (mv 11), .ref (ad 4), .ref (ad 5), .ref (ad 6), .ref (ad 7), .ref (ad 8), .ref (ad 9), .ref (ad 10), .int tr]]) [1, 0] rfl
  exact hL4 (la - 0) 0 0 ls ss.heap [] rfl (by omega) (by rfl) hl hP hS

abbrev w_X6_count_1 (G : XG) (ko : Nat) (ad : Nat → Nat) (w h la tp : Nat) (ft tr : Int32) (mv : Nat → Int32) (S : Nat → Int32) (kp : Nat → Int32) : va_W := [oC ko 6 [.ref (ad 0), .ref (ad 1), .int (nI w), .int (nI h), .int (nI la), .ref (ad 2), .int (mv 0), .int (mv 1), .int (mv 2), .int (mv 3), .int (mv 4), .int (mv 5), .int (mv 6), .ref (ad 3), .int (nI tp), .int (mv 7), .int (mv 8), .int (mv 9), .int (mv 10), .int ft, .int (mv 11), .ref (ad 4), .ref (ad 5), .ref (ad 6), .ref (ad 7), .ref (ad 8), .ref (ad 9), .ref (ad 10), .int tr], iA G (ad 0) 255 S, zA G (ad 1) 2 kp]
abbrev Q_X6_count_1 (G : XG) (ko : Nat) (ad : Nat → Nat) (w h la tp : Nat) (ft tr : Int32) (mv : Nat → Int32) (S : Nat → Int32) (nc : Nat) (kp : Nat → Int32) : Array Value → State → Outcome → State → Prop := (xRi (fun r => r = (if kp 0 = 0 then nI 0 else nI 1) + (if kp 1 = 0 then nI 0 else nI 1)))
set_option maxHeartbeats 4000000 in
set_option maxRecDepth 100000 in
theorem c_X6_count_1 (l : Launch) (G : XG) (ko : Nat) (ad : Nat → Nat) (w h la tp : Nat) (ft tr : Int32) (mv : Nat → Int32) (S : Nat → Int32) (nc : Nat) (kp : Nat → Int32) (hw : 1 ≤ w) (hwb : w ≤ 16) (hhb : h ≤ 16) (hwh1 : 1 ≤ w * h) (hwh : w * h ≤ 16) (hla : la ≤ 9) (hs16 : S 16 = nI nc) (hnc : nc ≤ 10) : Met l yX6_count wsX6_count ({ frames := 2, cells := 0, slots := 0, locals := 51 } : Room) (va_Pc [.ref ko, .int (nI 1)] (xRp G (w_X6_count_1 G ko ad w h la tp ft tr mv S kp))) (Q_X6_count_1 G ko ad w h la tp ft tr mv S nc kp) 0 0 (fun _ => False) := by
  refine Met.ofW (cc := cX6_count) (maxL := 4) (ret := (some .int)) (by decide) rfl ?_
  intro pp ee ss mm aa below mt cd s₁ BB hml hv
  obtain ⟨rfl, hP, hK⟩ := hv
  have hx := BB.exec
  have hb := BB.bytes
  have hr := BB.returns
  have hts := atoms_spec (ws := wsX6_count) BB.pre
  have hown : ss.vm.findClass RX6 = some mm.cls := findClass_of_methodNamed BB.named
  have hlocks := BB.notSynchronized
  have hS : va_S (fun _ => False) ss.heap ss.heap [] := va_S.rf
  replace hP : xP G [oC ko 6 [.ref (ad 0), .ref (ad 1), .int (nI w), .int (nI h), .int (nI la), .ref (ad 2), .int (mv 0), .int (mv 1), .int (mv 2), .int (mv 3), .int (mv 4), .int (mv 5), .int (mv 6), .ref (ad 3), .int (nI tp), .int (mv 7), .int (mv 8), .int (mv 9), .int (mv 10), .int ft, .int (mv 11), .ref (ad 4), .ref (ad 5), .ref (ad 6), .ref (ad 7), .ref (ad 8), .ref (ad 9), .ref (ad 10), .int tr], iA G (ad 0) 255 S, zA G (ad 1) 2 kp] ss.heap := hP
  have hin6 : ∀ w ∈ u_ws RX6 TX6 29, w ∈ wsX6_count := fun w h => List.mem_cons_of_mem _ (List.mem_append_right _ h)
  have hl := lv_entry ([.ref ko, .int (nI 1)]) (n := 4) (Nat.le_of_ble_eq_true rfl)
  rw [lg_entry_eq]
  generalize (lg_sl ([.ref ko, .int (nI 1)]) ++ List.replicate (4 - (lg_sl ([.ref ko, .int (nI 1)])).length) Slot.unset).toArray = ls at hl ⊢
  replace hl : lv_has ls 4 [(0, .ref ko), (1, .int (nI 1))] := hl
  refine lv_iconst (v := nI 0) hx hb dX6_count_0 (by decide) ?_
  refine lv_istore_n (lv' := [(2, .int (nI 0)), (0, .ref ko), (1, .int (nI 1))]) hx hb dX6_count_1 rfl hl (by decide) rfl (fun ls hl => ?_)
  refine lv_iconst (v := nI 1) hx hb dX6_count_2 (by decide) ?_
  refine lv_istore_n (lv' := [(3, .int (nI 1)), (2, .int (nI 0)), (0, .ref ko), (1, .int (nI 1))]) hx hb dX6_count_3 rfl hl (by decide) rfl (fun ls hl => ?_)
  have hL4 : ∀ k : Nat, ∀ (d : Nat) (n : Nat) (ls : Array Slot) (H : Heap) (locs : List Loc), la - d = k → (d ≤ la) → (n = cntF (fun d => decide (¬ unM w h S nc (d + 1) d = 0)) d) → lv_has ls 4 [(0, .ref ko), (1, .int (nI 1)), (2, .int (nI n)), (3, .int (nI (d + 1)))] → xP G [iA G (ad 0) 255 S, zA G (ad 1) 2 kp, oC ko 6 [.ref (ad 0), .ref (ad 1), .int (nI w), .int (nI h), .int (nI la), .ref (ad 2), .int (mv 0), .int (mv 1), .int (mv 2), .int (mv 3), .int (mv 4), .int (mv 5), .int (mv 6), .ref (ad 3), .int (nI tp), .int (mv 7), .int (mv 8), .int (mv 9), .int (mv 10), .int ft, .int (mv 11), .ref (ad 4), .ref (ad 5), .ref (ad 6), .ref (ad 7), .ref (ad 8), .ref (ad 9), .ref (ad 10), .int tr]] H → va_S (fun _ => False) ss.heap H locs → W pp l ee ({ frames := 2, cells := 0, slots := 0, locals := 51 } : Room) ss mm ([.ref ko, .int (nI 1)] : List Value).toArray below mt cd H locs 0 0 (MQ below (Q_X6_count_1 G ko ad w h la tp ft tr mv S nc kp) ([.ref ko, .int (nI 1)] : List Value).toArray ss 0 0 (fun _ => False)) (F0 mm 4 ls []) := by
    intro k
    induction k using Nat.strongRecOn with
    | _ k ih4 =>
    intro d n ls H locs hm4 hd hn hl hP hS
    refine lv_iload_n hx hb dX6_count_4 rfl (lv_at hl 3 rfl) ?_
    refine lv_aload_n hx hb dX6_count_5 rfl (lv_at hl 0 rfl) ?_
    refine va_get (D := G.1) (ci := 6) (v := .int (nI la)) (C := RX6) (T := TX6) (N := 29) hx hb hts hin6 hown hK.1 hP 2 rfl rfl 4 (by decide) (hts (.fieldLink RX6 78 "BackLensesModel" "last" "I") (List.mem_of_getElem? (i := 1) rfl)) (fun _ h9 => h9) rfl dX6_count_6 ?_
    refine xn_icmp_gt (tgt := 40) hx hb (by omega) (by omega) dX6_count_9 rfl (fun b9 => ?_) (fun b9 => ?_)
    · skip
      refine lv_iload_n hx hb dX6_count_40 rfl (lv_at hl 1 rfl) ?_
      refine lv_tableIn (off := 47) (tgt := 88) hx hb dX6_count_41 (by decide) (by decide) rfl rfl ?_
      refine lv_aload_n hx hb dX6_count_88 rfl (lv_at hl 0 rfl) ?_
      refine va_get (D := G.1) (ci := 6) (v := .ref (ad 1)) (C := RX6) (T := TX6) (N := 29) hx hb hts hin6 hown hK.1 hP 2 rfl rfl 1 (by decide) (hts (.fieldLink RX6 13 "BackLensesModel" "isKept" "[Z") (List.mem_of_getElem? (i := 3) rfl)) (fun _ h9 => h9) rfl dX6_count_89 ?_
      refine lv_iconst (v := nI 0) hx hb dX6_count_92 (by decide) ?_
      refine xn_zald hx hb hK hP 1 rfl (by omega) (by omega) dX6_count_93 ?_
      refine xs_i (As := [.int (kp 0)]) (rest := []) ⟨hx, hb, hml, hown, hts⟩ (c_X6_flag_g l G (kp 0) ) (va_cwS 1 hts gX6_count_X6_flag rfl rfl rfl (by decide +kernel) ⟨Nat.le_of_ble_eq_true rfl, Nat.le_of_ble_eq_true rfl⟩) hP hS rfl hl.1 rfl (Nat.le_of_ble_eq_true rfl) dX6_count_94 ⟨Nat.zero_le _, Nat.zero_le _⟩ (fun r94 H locs hp94 hP hS => ?_)
      rw [show r94 = _ from hp94]
      refine lv_aload_n hx hb dX6_count_97 rfl (lv_at hl 0 rfl) ?_
      refine va_get (D := G.1) (ci := 6) (v := .ref (ad 1)) (C := RX6) (T := TX6) (N := 29) hx hb hts hin6 hown hK.1 hP 2 rfl rfl 1 (by decide) (hts (.fieldLink RX6 13 "BackLensesModel" "isKept" "[Z") (List.mem_of_getElem? (i := 3) rfl)) (fun _ h9 => h9) rfl dX6_count_98 ?_
      refine lv_iconst (v := nI 1) hx hb dX6_count_101 (by decide) ?_
      refine xn_zald hx hb hK hP 1 rfl (by omega) (by omega) dX6_count_102 ?_
      refine xs_i (As := [.int (kp 1)]) (rest := [.int (if (kp 0) = 0 then nI 0 else nI 1)]) ⟨hx, hb, hml, hown, hts⟩ (c_X6_flag_g l G (kp 1) ) (va_cwS 1 hts gX6_count_X6_flag rfl rfl rfl (by decide +kernel) ⟨Nat.le_of_ble_eq_true rfl, Nat.le_of_ble_eq_true rfl⟩) hP hS rfl hl.1 rfl (Nat.le_of_ble_eq_true rfl) dX6_count_103 ⟨Nat.zero_le _, Nat.zero_le _⟩ (fun r103 H locs hp103 hP hS => ?_)
      rw [show r103 = _ from hp103]
      refine lv_iadd hx hb dX6_count_106 ?_
      refine W.iret (v := (if (kp 0) = 0 then nI 0 else nI 1) + (if (kp 1) = 0 then nI 0 else nI 1)) hx hb hr (fun t ht hW => ⟨⟨(if (kp 0) = 0 then nI 0 else nI 1) + (if (kp 1) = 0 then nI 0 else nI 1), (), rfl, ?_, trivial⟩, hS.F ht⟩) hS.2.2 dX6_count_107
      rfl
    · skip
      refine lv_iload_n hx hb dX6_count_12 rfl (lv_at hl 2 rfl) ?_
      refine lv_aload_n hx hb dX6_count_13 rfl (lv_at hl 0 rfl) ?_
      refine lv_iload_n hx hb dX6_count_14 rfl (lv_at hl 3 rfl) ?_
      refine lv_iload_n hx hb dX6_count_15 rfl (lv_at hl 3 rfl) ?_
      refine lv_iconst (v := nI 1) hx hb dX6_count_16 (by decide) ?_
      refine xn_isub hx hb (by omega) dX6_count_17 ?_
      refine xr_i (As := [.int (nI (d + 1)), .int (nI ((d + 1) - 1))]) (rest := [.int (nI n)]) ⟨hx, hb, hml, hown, hts⟩ (c_X6_unlike l G ko ad w h la tp ft tr mv S nc (d + 1) ((d + 1) - 1) (by first | assumption | omega) (by first | assumption | omega) (by first | assumption | omega) (by first | assumption | omega) (by first | assumption | omega) (by first | assumption | omega) (by first | assumption | omega) (by first | assumption | omega) (by first | assumption | omega) (by first | assumption | omega)) (cwV 2 hts gX6_count_X6_unlike rfl rfl rfl (by decide +kernel) ⟨Nat.le_of_ble_eq_true rfl, Nat.le_of_ble_eq_true rfl⟩) hK hP hS [2, 0] rfl rfl rfl rfl hl.1 rfl (Nat.le_of_ble_eq_true rfl) dX6_count_18 ⟨Nat.zero_le _, Nat.zero_le _⟩ (fun r18 H locs hp18 hP hS => ?_)
      rw [show r18 = _ from hp18]
      refine lv_if_eq (tgt := 28) hx hb dX6_count_21 rfl (fun b21 => ?_) (fun b21 => ?_)
      · skip
        refine lv_iconst (v := nI 0) hx hb dX6_count_28 (by decide) ?_
        refine xs_i (As := [.int (nI 0)]) (rest := [.int (nI n)]) ⟨hx, hb, hml, hown, hts⟩ (c_X6_flag_0 l G) (va_cwS 1 hts gX6_count_X6_flag rfl rfl rfl (by decide +kernel) ⟨Nat.le_of_ble_eq_true rfl, Nat.le_of_ble_eq_true rfl⟩) hP hS rfl hl.1 rfl (Nat.le_of_ble_eq_true rfl) dX6_count_29 ⟨Nat.zero_le _, Nat.zero_le _⟩ (fun r29 H locs hp29 hP hS => ?_)
        rw [show r29 = _ from hp29]
        refine xn_iadd hx hb dX6_count_32 ?_
        refine lv_istore_n (lv' := [(2, .int (nI (n + 0))), (0, .ref ko), (1, .int (nI 1)), (3, .int (nI (d + 1)))]) hx hb dX6_count_33 rfl hl (by decide) rfl (fun ls hl => ?_)
        refine lv_iinc (k := 3) (v := nI (d + 1 + 1)) (lv' := [(3, .int (nI (d + 1 + 1))), (2, .int (nI (n + 0))), (0, .ref ko), (1, .int (nI 1))]) hx hb dX6_count_34 hl rfl (xn_inc (d + 1) 1) (by decide) rfl (fun ls hl => ?_)
        refine lv_goto (tgt := 4) hx hb dX6_count_37 rfl ?_
        have hl := lv_sub hl (l' := [(0, .ref ko), (1, .int (nI 1)), (2, .int (nI (n + 0))), (3, .int (nI (d + 1 + 1)))]) [2, 3, 1, 0] rfl
        exact ih4 (la - (d + 1)) (by omega) (d + 1) (n + 0) ls H locs rfl (by omega) (by first | exact cntF_T (decide_eq_true b21) hn | exact cntF_N (decide_eq_false (fun q => q b21)) hn) hl hP hS
      · skip
        refine lv_iconst (v := nI 1) hx hb dX6_count_24 (by decide) ?_
        refine lv_goto (tgt := 29) hx hb dX6_count_25 rfl ?_
        refine xs_i (As := [.int (nI 1)]) (rest := [.int (nI n)]) ⟨hx, hb, hml, hown, hts⟩ (c_X6_flag_1 l G) (va_cwS 1 hts gX6_count_X6_flag rfl rfl rfl (by decide +kernel) ⟨Nat.le_of_ble_eq_true rfl, Nat.le_of_ble_eq_true rfl⟩) hP hS rfl hl.1 rfl (Nat.le_of_ble_eq_true rfl) dX6_count_29 ⟨Nat.zero_le _, Nat.zero_le _⟩ (fun r29 H locs hp29 hP hS => ?_)
        rw [show r29 = _ from hp29]
        refine xn_iadd hx hb dX6_count_32 ?_
        refine lv_istore_n (lv' := [(2, .int (nI (n + 1))), (0, .ref ko), (1, .int (nI 1)), (3, .int (nI (d + 1)))]) hx hb dX6_count_33 rfl hl (by decide) rfl (fun ls hl => ?_)
        refine lv_iinc (k := 3) (v := nI (d + 1 + 1)) (lv' := [(3, .int (nI (d + 1 + 1))), (2, .int (nI (n + 1))), (0, .ref ko), (1, .int (nI 1))]) hx hb dX6_count_34 hl rfl (xn_inc (d + 1) 1) (by decide) rfl (fun ls hl => ?_)
        refine lv_goto (tgt := 4) hx hb dX6_count_37 rfl ?_
        have hl := lv_sub hl (l' := [(0, .ref ko), (1, .int (nI 1)), (2, .int (nI (n + 1))), (3, .int (nI (d + 1 + 1)))]) [2, 3, 1, 0] rfl
        exact ih4 (la - (d + 1)) (by omega) (d + 1) (n + 1) ls H locs rfl (by omega) (by first | exact cntF_T (decide_eq_true b21) hn | exact cntF_N (decide_eq_false (fun q => q b21)) hn) hl hP hS
  have hl := lv_sub hl (l' := [(0, .ref ko), (1, .int (nI 1)), (2, .int (nI 0)), (3, .int (nI 1))]) [2, 3, 1, 0] rfl
  have hP := hP.sub (ws' := [iA G (ad 0) 255 S, zA G (ad 1) 2 kp, oC ko 6 [.ref (ad 0), .ref (ad 1), .int (nI w), .int (nI h), .int (nI la), .ref (ad 2), .int (mv 0), .int (mv 1), .int (mv 2), .int (mv 3), .int (mv 4), .int (mv 5), .int (mv 6), .ref (ad 3), .int (nI tp), .int (mv 7), .int (mv 8), .int (mv 9), .int (mv 10), .int ft, .int (mv 11), .ref (ad 4), .ref (ad 5), .ref (ad 6), .ref (ad 7), .ref (ad 8), .ref (ad 9), .ref (ad 10), .int tr]]) [1, 2, 0] rfl
  exact hL4 (la - 0) 0 0 ls ss.heap [] rfl (by omega) (by rfl) hl hP hS

abbrev w_X6_count_2 (G : XG) (ko : Nat) (ad : Nat → Nat) (w h la tp : Nat) (ft tr : Int32) (mv : Nat → Int32) (S : Nat → Int32) : va_W := [oC ko 6 [.ref (ad 0), .ref (ad 1), .int (nI w), .int (nI h), .int (nI la), .ref (ad 2), .int (mv 0), .int (mv 1), .int (mv 2), .int (mv 3), .int (mv 4), .int (mv 5), .int (mv 6), .ref (ad 3), .int (nI tp), .int (mv 7), .int (mv 8), .int (mv 9), .int (mv 10), .int ft, .int (mv 11), .ref (ad 4), .ref (ad 5), .ref (ad 6), .ref (ad 7), .ref (ad 8), .ref (ad 9), .ref (ad 10), .int tr], iA G (ad 0) 255 S]
abbrev Q_X6_count_2 (G : XG) (ko : Nat) (ad : Nat → Nat) (w h la tp : Nat) (ft tr : Int32) (mv : Nat → Int32) (S : Nat → Int32) (nc : Nat) : Array Value → State → Outcome → State → Prop := (xRi (fun r => r = nI tp))
set_option maxHeartbeats 4000000 in
set_option maxRecDepth 100000 in
theorem c_X6_count_2 (l : Launch) (G : XG) (ko : Nat) (ad : Nat → Nat) (w h la tp : Nat) (ft tr : Int32) (mv : Nat → Int32) (S : Nat → Int32) (nc : Nat) (hw : 1 ≤ w) (hwb : w ≤ 16) (hhb : h ≤ 16) (hwh1 : 1 ≤ w * h) (hwh : w * h ≤ 16) (hla : la ≤ 9) (hs16 : S 16 = nI nc) (hnc : nc ≤ 10) : Met l yX6_count wsX6_count ({ frames := 2, cells := 0, slots := 0, locals := 51 } : Room) (va_Pc [.ref ko, .int (nI 2)] (xRp G (w_X6_count_2 G ko ad w h la tp ft tr mv S))) (Q_X6_count_2 G ko ad w h la tp ft tr mv S nc) 0 0 (fun _ => False) := by
  refine Met.ofW (cc := cX6_count) (maxL := 4) (ret := (some .int)) (by decide) rfl ?_
  intro pp ee ss mm aa below mt cd s₁ BB hml hv
  obtain ⟨rfl, hP, hK⟩ := hv
  have hx := BB.exec
  have hb := BB.bytes
  have hr := BB.returns
  have hts := atoms_spec (ws := wsX6_count) BB.pre
  have hown : ss.vm.findClass RX6 = some mm.cls := findClass_of_methodNamed BB.named
  have hlocks := BB.notSynchronized
  have hS : va_S (fun _ => False) ss.heap ss.heap [] := va_S.rf
  replace hP : xP G [oC ko 6 [.ref (ad 0), .ref (ad 1), .int (nI w), .int (nI h), .int (nI la), .ref (ad 2), .int (mv 0), .int (mv 1), .int (mv 2), .int (mv 3), .int (mv 4), .int (mv 5), .int (mv 6), .ref (ad 3), .int (nI tp), .int (mv 7), .int (mv 8), .int (mv 9), .int (mv 10), .int ft, .int (mv 11), .ref (ad 4), .ref (ad 5), .ref (ad 6), .ref (ad 7), .ref (ad 8), .ref (ad 9), .ref (ad 10), .int tr], iA G (ad 0) 255 S] ss.heap := hP
  have hin6 : ∀ w ∈ u_ws RX6 TX6 29, w ∈ wsX6_count := fun w h => List.mem_cons_of_mem _ (List.mem_append_right _ h)
  have hl := lv_entry ([.ref ko, .int (nI 2)]) (n := 4) (Nat.le_of_ble_eq_true rfl)
  rw [lg_entry_eq]
  generalize (lg_sl ([.ref ko, .int (nI 2)]) ++ List.replicate (4 - (lg_sl ([.ref ko, .int (nI 2)])).length) Slot.unset).toArray = ls at hl ⊢
  replace hl : lv_has ls 4 [(0, .ref ko), (1, .int (nI 2))] := hl
  refine lv_iconst (v := nI 0) hx hb dX6_count_0 (by decide) ?_
  refine lv_istore_n (lv' := [(2, .int (nI 0)), (0, .ref ko), (1, .int (nI 2))]) hx hb dX6_count_1 rfl hl (by decide) rfl (fun ls hl => ?_)
  refine lv_iconst (v := nI 1) hx hb dX6_count_2 (by decide) ?_
  refine lv_istore_n (lv' := [(3, .int (nI 1)), (2, .int (nI 0)), (0, .ref ko), (1, .int (nI 2))]) hx hb dX6_count_3 rfl hl (by decide) rfl (fun ls hl => ?_)
  have hL4 : ∀ k : Nat, ∀ (d : Nat) (n : Nat) (ls : Array Slot) (H : Heap) (locs : List Loc), la - d = k → (d ≤ la) → (n = cntF (fun d => decide (¬ unM w h S nc (d + 1) d = 0)) d) → lv_has ls 4 [(0, .ref ko), (1, .int (nI 2)), (2, .int (nI n)), (3, .int (nI (d + 1)))] → xP G [iA G (ad 0) 255 S, oC ko 6 [.ref (ad 0), .ref (ad 1), .int (nI w), .int (nI h), .int (nI la), .ref (ad 2), .int (mv 0), .int (mv 1), .int (mv 2), .int (mv 3), .int (mv 4), .int (mv 5), .int (mv 6), .ref (ad 3), .int (nI tp), .int (mv 7), .int (mv 8), .int (mv 9), .int (mv 10), .int ft, .int (mv 11), .ref (ad 4), .ref (ad 5), .ref (ad 6), .ref (ad 7), .ref (ad 8), .ref (ad 9), .ref (ad 10), .int tr]] H → va_S (fun _ => False) ss.heap H locs → W pp l ee ({ frames := 2, cells := 0, slots := 0, locals := 51 } : Room) ss mm ([.ref ko, .int (nI 2)] : List Value).toArray below mt cd H locs 0 0 (MQ below (Q_X6_count_2 G ko ad w h la tp ft tr mv S nc) ([.ref ko, .int (nI 2)] : List Value).toArray ss 0 0 (fun _ => False)) (F0 mm 4 ls []) := by
    intro k
    induction k using Nat.strongRecOn with
    | _ k ih4 =>
    intro d n ls H locs hm4 hd hn hl hP hS
    refine lv_iload_n hx hb dX6_count_4 rfl (lv_at hl 3 rfl) ?_
    refine lv_aload_n hx hb dX6_count_5 rfl (lv_at hl 0 rfl) ?_
    refine va_get (D := G.1) (ci := 6) (v := .int (nI la)) (C := RX6) (T := TX6) (N := 29) hx hb hts hin6 hown hK.1 hP 1 rfl rfl 4 (by decide) (hts (.fieldLink RX6 78 "BackLensesModel" "last" "I") (List.mem_of_getElem? (i := 1) rfl)) (fun _ h9 => h9) rfl dX6_count_6 ?_
    refine xn_icmp_gt (tgt := 40) hx hb (by omega) (by omega) dX6_count_9 rfl (fun b9 => ?_) (fun b9 => ?_)
    · skip
      refine lv_iload_n hx hb dX6_count_40 rfl (lv_at hl 1 rfl) ?_
      refine lv_tableIn (off := 67) (tgt := 108) hx hb dX6_count_41 (by decide) (by decide) rfl rfl ?_
      refine lv_aload_n hx hb dX6_count_108 rfl (lv_at hl 0 rfl) ?_
      refine va_get (D := G.1) (ci := 6) (v := .int (nI tp)) (C := RX6) (T := TX6) (N := 29) hx hb hts hin6 hown hK.1 hP 1 rfl rfl 14 (by decide) (hts (.fieldLink RX6 87 "BackLensesModel" "taped" "I") (List.mem_of_getElem? (i := 4) rfl)) (fun _ h9 => h9) rfl dX6_count_109 ?_
      refine W.iret (v := nI tp) hx hb hr (fun t ht hW => ⟨⟨nI tp, (), rfl, ?_, trivial⟩, hS.F ht⟩) hS.2.2 dX6_count_112
      rfl
    · skip
      refine lv_iload_n hx hb dX6_count_12 rfl (lv_at hl 2 rfl) ?_
      refine lv_aload_n hx hb dX6_count_13 rfl (lv_at hl 0 rfl) ?_
      refine lv_iload_n hx hb dX6_count_14 rfl (lv_at hl 3 rfl) ?_
      refine lv_iload_n hx hb dX6_count_15 rfl (lv_at hl 3 rfl) ?_
      refine lv_iconst (v := nI 1) hx hb dX6_count_16 (by decide) ?_
      refine xn_isub hx hb (by omega) dX6_count_17 ?_
      refine xr_i (As := [.int (nI (d + 1)), .int (nI ((d + 1) - 1))]) (rest := [.int (nI n)]) ⟨hx, hb, hml, hown, hts⟩ (c_X6_unlike l G ko ad w h la tp ft tr mv S nc (d + 1) ((d + 1) - 1) (by first | assumption | omega) (by first | assumption | omega) (by first | assumption | omega) (by first | assumption | omega) (by first | assumption | omega) (by first | assumption | omega) (by first | assumption | omega) (by first | assumption | omega) (by first | assumption | omega) (by first | assumption | omega)) (cwV 2 hts gX6_count_X6_unlike rfl rfl rfl (by decide +kernel) ⟨Nat.le_of_ble_eq_true rfl, Nat.le_of_ble_eq_true rfl⟩) hK hP hS [1, 0] rfl rfl rfl rfl hl.1 rfl (Nat.le_of_ble_eq_true rfl) dX6_count_18 ⟨Nat.zero_le _, Nat.zero_le _⟩ (fun r18 H locs hp18 hP hS => ?_)
      rw [show r18 = _ from hp18]
      refine lv_if_eq (tgt := 28) hx hb dX6_count_21 rfl (fun b21 => ?_) (fun b21 => ?_)
      · skip
        refine lv_iconst (v := nI 0) hx hb dX6_count_28 (by decide) ?_
        refine xs_i (As := [.int (nI 0)]) (rest := [.int (nI n)]) ⟨hx, hb, hml, hown, hts⟩ (c_X6_flag_0 l G) (va_cwS 1 hts gX6_count_X6_flag rfl rfl rfl (by decide +kernel) ⟨Nat.le_of_ble_eq_true rfl, Nat.le_of_ble_eq_true rfl⟩) hP hS rfl hl.1 rfl (Nat.le_of_ble_eq_true rfl) dX6_count_29 ⟨Nat.zero_le _, Nat.zero_le _⟩ (fun r29 H locs hp29 hP hS => ?_)
        rw [show r29 = _ from hp29]
        refine xn_iadd hx hb dX6_count_32 ?_
        refine lv_istore_n (lv' := [(2, .int (nI (n + 0))), (0, .ref ko), (1, .int (nI 2)), (3, .int (nI (d + 1)))]) hx hb dX6_count_33 rfl hl (by decide) rfl (fun ls hl => ?_)
        refine lv_iinc (k := 3) (v := nI (d + 1 + 1)) (lv' := [(3, .int (nI (d + 1 + 1))), (2, .int (nI (n + 0))), (0, .ref ko), (1, .int (nI 2))]) hx hb dX6_count_34 hl rfl (xn_inc (d + 1) 1) (by decide) rfl (fun ls hl => ?_)
        refine lv_goto (tgt := 4) hx hb dX6_count_37 rfl ?_
        have hl := lv_sub hl (l' := [(0, .ref ko), (1, .int (nI 2)), (2, .int (nI (n + 0))), (3, .int (nI (d + 1 + 1)))]) [2, 3, 1, 0] rfl
        exact ih4 (la - (d + 1)) (by omega) (d + 1) (n + 0) ls H locs rfl (by omega) (by first | exact cntF_T (decide_eq_true b21) hn | exact cntF_N (decide_eq_false (fun q => q b21)) hn) hl hP hS
      · skip
        refine lv_iconst (v := nI 1) hx hb dX6_count_24 (by decide) ?_
        refine lv_goto (tgt := 29) hx hb dX6_count_25 rfl ?_
        refine xs_i (As := [.int (nI 1)]) (rest := [.int (nI n)]) ⟨hx, hb, hml, hown, hts⟩ (c_X6_flag_1 l G) (va_cwS 1 hts gX6_count_X6_flag rfl rfl rfl (by decide +kernel) ⟨Nat.le_of_ble_eq_true rfl, Nat.le_of_ble_eq_true rfl⟩) hP hS rfl hl.1 rfl (Nat.le_of_ble_eq_true rfl) dX6_count_29 ⟨Nat.zero_le _, Nat.zero_le _⟩ (fun r29 H locs hp29 hP hS => ?_)
        rw [show r29 = _ from hp29]
        refine xn_iadd hx hb dX6_count_32 ?_
        refine lv_istore_n (lv' := [(2, .int (nI (n + 1))), (0, .ref ko), (1, .int (nI 2)), (3, .int (nI (d + 1)))]) hx hb dX6_count_33 rfl hl (by decide) rfl (fun ls hl => ?_)
        refine lv_iinc (k := 3) (v := nI (d + 1 + 1)) (lv' := [(3, .int (nI (d + 1 + 1))), (2, .int (nI (n + 1))), (0, .ref ko), (1, .int (nI 2))]) hx hb dX6_count_34 hl rfl (xn_inc (d + 1) 1) (by decide) rfl (fun ls hl => ?_)
        refine lv_goto (tgt := 4) hx hb dX6_count_37 rfl ?_
        have hl := lv_sub hl (l' := [(0, .ref ko), (1, .int (nI 2)), (2, .int (nI (n + 1))), (3, .int (nI (d + 1 + 1)))]) [2, 3, 1, 0] rfl
        exact ih4 (la - (d + 1)) (by omega) (d + 1) (n + 1) ls H locs rfl (by omega) (by first | exact cntF_T (decide_eq_true b21) hn | exact cntF_N (decide_eq_false (fun q => q b21)) hn) hl hP hS
  have hl := lv_sub hl (l' := [(0, .ref ko), (1, .int (nI 2)), (2, .int (nI 0)), (3, .int (nI 1))]) [2, 3, 1, 0] rfl
  have hP := hP.sub (ws' := [iA G (ad 0) 255 S, oC ko 6 [.ref (ad 0), .ref (ad 1), .int (nI w), .int (nI h), .int (nI la), .ref (ad 2), .int (mv 0), .int (mv 1), .int (mv 2), .int (mv 3), .int (mv 4), .int (mv 5), .int (mv 6), .ref (ad 3), .int (nI tp), .int (mv 7), .int (mv 8), .int (mv 9), .int (mv 10), .int ft, .int (mv 11), .ref (ad 4), .ref (ad 5), .ref (ad 6), .ref (ad 7), .ref (ad 8), .ref (ad 9), .ref (ad 10), .int tr]]) [1, 0] rfl
  exact hL4 (la - 0) 0 0 ls ss.heap [] rfl (by omega) (by rfl) hl hP hS

abbrev w_X6_count_3 (G : XG) (ko : Nat) (ad : Nat → Nat) (w h la tp : Nat) (ft tr : Int32) (mv : Nat → Int32) (S : Nat → Int32) (ml ms : Nat → Int32) : va_W := [oC ko 6 [.ref (ad 0), .ref (ad 1), .int (nI w), .int (nI h), .int (nI la), .ref (ad 2), .int (mv 0), .int (mv 1), .int (mv 2), .int (mv 3), .int (mv 4), .int (mv 5), .int (mv 6), .ref (ad 3), .int (nI tp), .int (mv 7), .int (mv 8), .int (mv 9), .int (mv 10), .int ft, .int (mv 11), .ref (ad 4), .ref (ad 5), .ref (ad 6), .ref (ad 7), .ref (ad 8), .ref (ad 9), .ref (ad 10), .int tr], iA G (ad 0) 255 S, iA G (ad 8) 4 ml, iA G (ad 9) 4 ms]
abbrev Q_X6_count_3 (G : XG) (ko : Nat) (ad : Nat → Nat) (w h la tp : Nat) (ft tr : Int32) (mv : Nat → Int32) (S : Nat → Int32) (nc : Nat) (ml ms : Nat → Int32) : Array Value → State → Outcome → State → Prop := (xRi (fun r => r = (if ml 0 = (-4) then (-4) else ms 0)))
set_option maxHeartbeats 4000000 in
set_option maxRecDepth 100000 in
theorem c_X6_count_3 (l : Launch) (G : XG) (ko : Nat) (ad : Nat → Nat) (w h la tp : Nat) (ft tr : Int32) (mv : Nat → Int32) (S : Nat → Int32) (nc : Nat) (ml ms : Nat → Int32) (hw : 1 ≤ w) (hwb : w ≤ 16) (hhb : h ≤ 16) (hwh1 : 1 ≤ w * h) (hwh : w * h ≤ 16) (hla : la ≤ 9) (hs16 : S 16 = nI nc) (hnc : nc ≤ 10) : Met l yX6_count wsX6_count ({ frames := 2, cells := 0, slots := 0, locals := 51 } : Room) (va_Pc [.ref ko, .int (nI 3)] (xRp G (w_X6_count_3 G ko ad w h la tp ft tr mv S ml ms))) (Q_X6_count_3 G ko ad w h la tp ft tr mv S nc ml ms) 0 0 (fun _ => False) := by
  refine Met.ofW (cc := cX6_count) (maxL := 4) (ret := (some .int)) (by decide) rfl ?_
  intro pp ee ss mm aa below mt cd s₁ BB hml hv
  obtain ⟨rfl, hP, hK⟩ := hv
  have hx := BB.exec
  have hb := BB.bytes
  have hr := BB.returns
  have hts := atoms_spec (ws := wsX6_count) BB.pre
  have hown : ss.vm.findClass RX6 = some mm.cls := findClass_of_methodNamed BB.named
  have hlocks := BB.notSynchronized
  have hS : va_S (fun _ => False) ss.heap ss.heap [] := va_S.rf
  replace hP : xP G [oC ko 6 [.ref (ad 0), .ref (ad 1), .int (nI w), .int (nI h), .int (nI la), .ref (ad 2), .int (mv 0), .int (mv 1), .int (mv 2), .int (mv 3), .int (mv 4), .int (mv 5), .int (mv 6), .ref (ad 3), .int (nI tp), .int (mv 7), .int (mv 8), .int (mv 9), .int (mv 10), .int ft, .int (mv 11), .ref (ad 4), .ref (ad 5), .ref (ad 6), .ref (ad 7), .ref (ad 8), .ref (ad 9), .ref (ad 10), .int tr], iA G (ad 0) 255 S, iA G (ad 8) 4 ml, iA G (ad 9) 4 ms] ss.heap := hP
  have hin6 : ∀ w ∈ u_ws RX6 TX6 29, w ∈ wsX6_count := fun w h => List.mem_cons_of_mem _ (List.mem_append_right _ h)
  have hl := lv_entry ([.ref ko, .int (nI 3)]) (n := 4) (Nat.le_of_ble_eq_true rfl)
  rw [lg_entry_eq]
  generalize (lg_sl ([.ref ko, .int (nI 3)]) ++ List.replicate (4 - (lg_sl ([.ref ko, .int (nI 3)])).length) Slot.unset).toArray = ls at hl ⊢
  replace hl : lv_has ls 4 [(0, .ref ko), (1, .int (nI 3))] := hl
  refine lv_iconst (v := nI 0) hx hb dX6_count_0 (by decide) ?_
  refine lv_istore_n (lv' := [(2, .int (nI 0)), (0, .ref ko), (1, .int (nI 3))]) hx hb dX6_count_1 rfl hl (by decide) rfl (fun ls hl => ?_)
  refine lv_iconst (v := nI 1) hx hb dX6_count_2 (by decide) ?_
  refine lv_istore_n (lv' := [(3, .int (nI 1)), (2, .int (nI 0)), (0, .ref ko), (1, .int (nI 3))]) hx hb dX6_count_3 rfl hl (by decide) rfl (fun ls hl => ?_)
  have hL4 : ∀ k : Nat, ∀ (d : Nat) (n : Nat) (ls : Array Slot) (H : Heap) (locs : List Loc), la - d = k → (d ≤ la) → (n = cntF (fun d => decide (¬ unM w h S nc (d + 1) d = 0)) d) → lv_has ls 4 [(0, .ref ko), (1, .int (nI 3)), (2, .int (nI n)), (3, .int (nI (d + 1)))] → xP G [iA G (ad 0) 255 S, iA G (ad 8) 4 ml, iA G (ad 9) 4 ms, oC ko 6 [.ref (ad 0), .ref (ad 1), .int (nI w), .int (nI h), .int (nI la), .ref (ad 2), .int (mv 0), .int (mv 1), .int (mv 2), .int (mv 3), .int (mv 4), .int (mv 5), .int (mv 6), .ref (ad 3), .int (nI tp), .int (mv 7), .int (mv 8), .int (mv 9), .int (mv 10), .int ft, .int (mv 11), .ref (ad 4), .ref (ad 5), .ref (ad 6), .ref (ad 7), .ref (ad 8), .ref (ad 9), .ref (ad 10), .int tr]] H → va_S (fun _ => False) ss.heap H locs → W pp l ee ({ frames := 2, cells := 0, slots := 0, locals := 51 } : Room) ss mm ([.ref ko, .int (nI 3)] : List Value).toArray below mt cd H locs 0 0 (MQ below (Q_X6_count_3 G ko ad w h la tp ft tr mv S nc ml ms) ([.ref ko, .int (nI 3)] : List Value).toArray ss 0 0 (fun _ => False)) (F0 mm 4 ls []) := by
    intro k
    induction k using Nat.strongRecOn with
    | _ k ih4 =>
    intro d n ls H locs hm4 hd hn hl hP hS
    refine lv_iload_n hx hb dX6_count_4 rfl (lv_at hl 3 rfl) ?_
    refine lv_aload_n hx hb dX6_count_5 rfl (lv_at hl 0 rfl) ?_
    refine va_get (D := G.1) (ci := 6) (v := .int (nI la)) (C := RX6) (T := TX6) (N := 29) hx hb hts hin6 hown hK.1 hP 3 rfl rfl 4 (by decide) (hts (.fieldLink RX6 78 "BackLensesModel" "last" "I") (List.mem_of_getElem? (i := 1) rfl)) (fun _ h9 => h9) rfl dX6_count_6 ?_
    refine xn_icmp_gt (tgt := 40) hx hb (by omega) (by omega) dX6_count_9 rfl (fun b9 => ?_) (fun b9 => ?_)
    · skip
      refine lv_iload_n hx hb dX6_count_40 rfl (lv_at hl 1 rfl) ?_
      refine lv_tableIn (off := 72) (tgt := 113) hx hb dX6_count_41 (by decide) (by decide) rfl rfl ?_
      refine lv_aload_n hx hb dX6_count_113 rfl (lv_at hl 0 rfl) ?_
      refine va_get (D := G.1) (ci := 6) (v := .ref (ad 8)) (C := RX6) (T := TX6) (N := 29) hx hb hts hin6 hown hK.1 hP 3 rfl rfl 25 (by decide) (hts (.fieldLink RX6 35 "BackLensesModel" "lanes" "[I") (List.mem_of_getElem? (i := 5) rfl)) (fun _ h9 => h9) rfl dX6_count_114 ?_
      refine lv_iconst (v := nI 0) hx hb dX6_count_117 (by decide) ?_
      refine xn_iald hx hb hK hP 1 rfl (by omega) (by omega) dX6_count_118 ?_
      refine lv_bipush (v := (-4)) hx hb dX6_count_119 (by decide) ?_
      refine lv_icmp_ne (tgt := 129) hx hb dX6_count_121 rfl (fun b121 => ?_) (fun b121 => ?_)
      · skip
        refine lv_aload_n hx hb dX6_count_129 rfl (lv_at hl 0 rfl) ?_
        refine va_get (D := G.1) (ci := 6) (v := .ref (ad 9)) (C := RX6) (T := TX6) (N := 29) hx hb hts hin6 hown hK.1 hP 3 rfl rfl 26 (by decide) (hts (.fieldLink RX6 38 "BackLensesModel" "sizes" "[I") (List.mem_of_getElem? (i := 6) rfl)) (fun _ h9 => h9) rfl dX6_count_130 ?_
        refine lv_iconst (v := nI 0) hx hb dX6_count_133 (by decide) ?_
        refine xn_iald hx hb hK hP 2 rfl (by omega) (by omega) dX6_count_134 ?_
        refine W.iret (v := ms 0) hx hb hr (fun t ht hW => ⟨⟨ms 0, (), rfl, ?_, trivial⟩, hS.F ht⟩) hS.2.2 dX6_count_135
        first | exact (if_pos b121).symm | exact (if_neg b121).symm
      · skip
        refine lv_bipush (v := (-4)) hx hb dX6_count_124 (by decide) ?_
        refine lv_goto (tgt := 135) hx hb dX6_count_126 rfl ?_
        refine W.iret (v := (-4)) hx hb hr (fun t ht hW => ⟨⟨(-4), (), rfl, ?_, trivial⟩, hS.F ht⟩) hS.2.2 dX6_count_135
        first | exact (if_pos b121).symm | exact (if_neg b121).symm
    · skip
      refine lv_iload_n hx hb dX6_count_12 rfl (lv_at hl 2 rfl) ?_
      refine lv_aload_n hx hb dX6_count_13 rfl (lv_at hl 0 rfl) ?_
      refine lv_iload_n hx hb dX6_count_14 rfl (lv_at hl 3 rfl) ?_
      refine lv_iload_n hx hb dX6_count_15 rfl (lv_at hl 3 rfl) ?_
      refine lv_iconst (v := nI 1) hx hb dX6_count_16 (by decide) ?_
      refine xn_isub hx hb (by omega) dX6_count_17 ?_
      refine xr_i (As := [.int (nI (d + 1)), .int (nI ((d + 1) - 1))]) (rest := [.int (nI n)]) ⟨hx, hb, hml, hown, hts⟩ (c_X6_unlike l G ko ad w h la tp ft tr mv S nc (d + 1) ((d + 1) - 1) (by first | assumption | omega) (by first | assumption | omega) (by first | assumption | omega) (by first | assumption | omega) (by first | assumption | omega) (by first | assumption | omega) (by first | assumption | omega) (by first | assumption | omega) (by first | assumption | omega) (by first | assumption | omega)) (cwV 2 hts gX6_count_X6_unlike rfl rfl rfl (by decide +kernel) ⟨Nat.le_of_ble_eq_true rfl, Nat.le_of_ble_eq_true rfl⟩) hK hP hS [3, 0] rfl rfl rfl rfl hl.1 rfl (Nat.le_of_ble_eq_true rfl) dX6_count_18 ⟨Nat.zero_le _, Nat.zero_le _⟩ (fun r18 H locs hp18 hP hS => ?_)
      rw [show r18 = _ from hp18]
      refine lv_if_eq (tgt := 28) hx hb dX6_count_21 rfl (fun b21 => ?_) (fun b21 => ?_)
      · skip
        refine lv_iconst (v := nI 0) hx hb dX6_count_28 (by decide) ?_
        refine xs_i (As := [.int (nI 0)]) (rest := [.int (nI n)]) ⟨hx, hb, hml, hown, hts⟩ (c_X6_flag_0 l G) (va_cwS 1 hts gX6_count_X6_flag rfl rfl rfl (by decide +kernel) ⟨Nat.le_of_ble_eq_true rfl, Nat.le_of_ble_eq_true rfl⟩) hP hS rfl hl.1 rfl (Nat.le_of_ble_eq_true rfl) dX6_count_29 ⟨Nat.zero_le _, Nat.zero_le _⟩ (fun r29 H locs hp29 hP hS => ?_)
        rw [show r29 = _ from hp29]
        refine xn_iadd hx hb dX6_count_32 ?_
        refine lv_istore_n (lv' := [(2, .int (nI (n + 0))), (0, .ref ko), (1, .int (nI 3)), (3, .int (nI (d + 1)))]) hx hb dX6_count_33 rfl hl (by decide) rfl (fun ls hl => ?_)
        refine lv_iinc (k := 3) (v := nI (d + 1 + 1)) (lv' := [(3, .int (nI (d + 1 + 1))), (2, .int (nI (n + 0))), (0, .ref ko), (1, .int (nI 3))]) hx hb dX6_count_34 hl rfl (xn_inc (d + 1) 1) (by decide) rfl (fun ls hl => ?_)
        refine lv_goto (tgt := 4) hx hb dX6_count_37 rfl ?_
        have hl := lv_sub hl (l' := [(0, .ref ko), (1, .int (nI 3)), (2, .int (nI (n + 0))), (3, .int (nI (d + 1 + 1)))]) [2, 3, 1, 0] rfl
        exact ih4 (la - (d + 1)) (by omega) (d + 1) (n + 0) ls H locs rfl (by omega) (by first | exact cntF_T (decide_eq_true b21) hn | exact cntF_N (decide_eq_false (fun q => q b21)) hn) hl hP hS
      · skip
        refine lv_iconst (v := nI 1) hx hb dX6_count_24 (by decide) ?_
        refine lv_goto (tgt := 29) hx hb dX6_count_25 rfl ?_
        refine xs_i (As := [.int (nI 1)]) (rest := [.int (nI n)]) ⟨hx, hb, hml, hown, hts⟩ (c_X6_flag_1 l G) (va_cwS 1 hts gX6_count_X6_flag rfl rfl rfl (by decide +kernel) ⟨Nat.le_of_ble_eq_true rfl, Nat.le_of_ble_eq_true rfl⟩) hP hS rfl hl.1 rfl (Nat.le_of_ble_eq_true rfl) dX6_count_29 ⟨Nat.zero_le _, Nat.zero_le _⟩ (fun r29 H locs hp29 hP hS => ?_)
        rw [show r29 = _ from hp29]
        refine xn_iadd hx hb dX6_count_32 ?_
        refine lv_istore_n (lv' := [(2, .int (nI (n + 1))), (0, .ref ko), (1, .int (nI 3)), (3, .int (nI (d + 1)))]) hx hb dX6_count_33 rfl hl (by decide) rfl (fun ls hl => ?_)
        refine lv_iinc (k := 3) (v := nI (d + 1 + 1)) (lv' := [(3, .int (nI (d + 1 + 1))), (2, .int (nI (n + 1))), (0, .ref ko), (1, .int (nI 3))]) hx hb dX6_count_34 hl rfl (xn_inc (d + 1) 1) (by decide) rfl (fun ls hl => ?_)
        refine lv_goto (tgt := 4) hx hb dX6_count_37 rfl ?_
        have hl := lv_sub hl (l' := [(0, .ref ko), (1, .int (nI 3)), (2, .int (nI (n + 1))), (3, .int (nI (d + 1 + 1)))]) [2, 3, 1, 0] rfl
        exact ih4 (la - (d + 1)) (by omega) (d + 1) (n + 1) ls H locs rfl (by omega) (by first | exact cntF_T (decide_eq_true b21) hn | exact cntF_N (decide_eq_false (fun q => q b21)) hn) hl hP hS
  have hl := lv_sub hl (l' := [(0, .ref ko), (1, .int (nI 3)), (2, .int (nI 0)), (3, .int (nI 1))]) [2, 3, 1, 0] rfl
  have hP := hP.sub (ws' := [iA G (ad 0) 255 S, iA G (ad 8) 4 ml, iA G (ad 9) 4 ms, oC ko 6 [.ref (ad 0), .ref (ad 1), .int (nI w), .int (nI h), .int (nI la), .ref (ad 2), .int (mv 0), .int (mv 1), .int (mv 2), .int (mv 3), .int (mv 4), .int (mv 5), .int (mv 6), .ref (ad 3), .int (nI tp), .int (mv 7), .int (mv 8), .int (mv 9), .int (mv 10), .int ft, .int (mv 11), .ref (ad 4), .ref (ad 5), .ref (ad 6), .ref (ad 7), .ref (ad 8), .ref (ad 9), .ref (ad 10), .int tr]]) [1, 2, 3, 0] rfl
  exact hL4 (la - 0) 0 0 ls ss.heap [] rfl (by omega) (by rfl) hl hP hS

abbrev w_X6_count_4 (G : XG) (ko : Nat) (ad : Nat → Nat) (w h la tp : Nat) (ft tr : Int32) (mv : Nat → Int32) (S : Nat → Int32) (mk : Nat → Int32) : va_W := [oC ko 6 [.ref (ad 0), .ref (ad 1), .int (nI w), .int (nI h), .int (nI la), .ref (ad 2), .int (mv 0), .int (mv 1), .int (mv 2), .int (mv 3), .int (mv 4), .int (mv 5), .int (mv 6), .ref (ad 3), .int (nI tp), .int (mv 7), .int (mv 8), .int (mv 9), .int (mv 10), .int ft, .int (mv 11), .ref (ad 4), .ref (ad 5), .ref (ad 6), .ref (ad 7), .ref (ad 8), .ref (ad 9), .ref (ad 10), .int tr], iA G (ad 0) 255 S, iA G (ad 4) 16 mk]
abbrev Q_X6_count_4 (G : XG) (sz : Nat) (ko : Nat) (ad : Nat → Nat) (w h la tp : Nat) (ft tr : Int32) (mv : Nat → Int32) (S : Nat → Int32) (nc : Nat) (mk : Nat → Int32) (ns : Nat) : Array Value → State → Outcome → State → Prop := (va_Qi (fun (r : Int32) (u : (Nat → Int32)) => r = bcM (dyM w h la S nc ns) 16) (xWb G sz (w_X6_count_4 G ko ad w h la tp ft tr mv S mk) (fun u : (Nat → Int32) => [oC ko 6 [.ref (ad 0), .ref (ad 1), .int (nI w), .int (nI h), .int (nI la), .ref (ad 2), .int (mv 0), .int (mv 1), .int (mv 2), .int (mv 3), .int (mv 4), .int (mv 5), .int (mv 6), .ref (ad 3), .int (nI tp), .int (mv 7), .int (mv 8), .int (mv 9), .int (mv 10), .int ft, .int (mv 11), .ref (ad 4), .ref (ad 5), .ref (ad 6), .ref (ad 7), .ref (ad 8), .ref (ad 9), .ref (ad 10), .int tr], iA G (ad 0) 255 S, iA G (ad 4) 16 u])) (va_A (w_X6_count_4 G ko ad w h la tp ft tr mv S mk) sz))
set_option maxHeartbeats 4000000 in
set_option maxRecDepth 100000 in
theorem c_X6_count_4 (l : Launch) (G : XG) (sz : Nat) (ko : Nat) (ad : Nat → Nat) (w h la tp : Nat) (ft tr : Int32) (mv : Nat → Int32) (S : Nat → Int32) (nc : Nat) (mk : Nat → Int32) (ns : Nat) (hw : 1 ≤ w) (hwb : w ≤ 16) (hhb : h ≤ 16) (hwh1 : 1 ≤ w * h) (hwh : w * h ≤ 16) (hla : la ≤ 9) (hs16 : S 16 = nI nc) (hnc : nc ≤ 10) (hs60 : S 60 = nI ns) (hns : ns ≤ 8) (hshown : ∀ i, i < ns → inR (S (61 + 3 * i)) (w * h) ∧ inR (S (61 + 3 * i + 1)) (w * h)) : Met l yX6_count wsX6_count ({ frames := 6, cells := 0, slots := 0, locals := 135 } : Room) (va_Pc [.ref ko, .int (nI 4)] (xWp G sz (w_X6_count_4 G ko ad w h la tp ft tr mv S mk))) (Q_X6_count_4 G sz ko ad w h la tp ft tr mv S nc mk ns) 0 0 (va_A (w_X6_count_4 G ko ad w h la tp ft tr mv S mk) sz) := by
  refine Met.ofW (cc := cX6_count) (maxL := 4) (ret := (some .int)) (by decide) rfl ?_
  intro pp ee ss mm aa below mt cd s₁ BB hml hv
  obtain ⟨rfl, hsz, hP, hK, hD0⟩ := hv
  have hx := BB.exec
  have hb := BB.bytes
  have hr := BB.returns
  have hts := atoms_spec (ws := wsX6_count) BB.pre
  have hown : ss.vm.findClass RX6 = some mm.cls := findClass_of_methodNamed BB.named
  have hlocks := BB.notSynchronized
  subst hsz
  have hD := hD0.self (sz := ss.heap.size)
  have hA : ∀ q : Nat, ss.heap.size ≤ q → va_A (w_X6_count_4 G ko ad w h la tp ft tr mv S mk) ss.heap.size q := fun q h => Or.inr h
  have hS : va_S (va_A (w_X6_count_4 G ko ad w h la tp ft tr mv S mk) ss.heap.size) ss.heap ss.heap [] := va_S.rf
  replace hD : va_D (va_A (w_X6_count_4 G ko ad w h la tp ft tr mv S mk) ss.heap.size) [oC ko 6 [.ref (ad 0), .ref (ad 1), .int (nI w), .int (nI h), .int (nI la), .ref (ad 2), .int (mv 0), .int (mv 1), .int (mv 2), .int (mv 3), .int (mv 4), .int (mv 5), .int (mv 6), .ref (ad 3), .int (nI tp), .int (mv 7), .int (mv 8), .int (mv 9), .int (mv 10), .int ft, .int (mv 11), .ref (ad 4), .ref (ad 5), .ref (ad 6), .ref (ad 7), .ref (ad 8), .ref (ad 9), .ref (ad 10), .int tr], iA G (ad 0) 255 S, iA G (ad 4) 16 mk] := hD
  replace hP : xP G [oC ko 6 [.ref (ad 0), .ref (ad 1), .int (nI w), .int (nI h), .int (nI la), .ref (ad 2), .int (mv 0), .int (mv 1), .int (mv 2), .int (mv 3), .int (mv 4), .int (mv 5), .int (mv 6), .ref (ad 3), .int (nI tp), .int (mv 7), .int (mv 8), .int (mv 9), .int (mv 10), .int ft, .int (mv 11), .ref (ad 4), .ref (ad 5), .ref (ad 6), .ref (ad 7), .ref (ad 8), .ref (ad 9), .ref (ad 10), .int tr], iA G (ad 0) 255 S, iA G (ad 4) 16 mk] ss.heap := hP
  have hin6 : ∀ w ∈ u_ws RX6 TX6 29, w ∈ wsX6_count := fun w h => List.mem_cons_of_mem _ (List.mem_append_right _ h)
  have hl := lv_entry ([.ref ko, .int (nI 4)]) (n := 4) (Nat.le_of_ble_eq_true rfl)
  rw [lg_entry_eq]
  generalize (lg_sl ([.ref ko, .int (nI 4)]) ++ List.replicate (4 - (lg_sl ([.ref ko, .int (nI 4)])).length) Slot.unset).toArray = ls at hl ⊢
  replace hl : lv_has ls 4 [(0, .ref ko), (1, .int (nI 4))] := hl
  refine lv_iconst (v := nI 0) hx hb dX6_count_0 (by decide) ?_
  refine lv_istore_n (lv' := [(2, .int (nI 0)), (0, .ref ko), (1, .int (nI 4))]) hx hb dX6_count_1 rfl hl (by decide) rfl (fun ls hl => ?_)
  refine lv_iconst (v := nI 1) hx hb dX6_count_2 (by decide) ?_
  refine lv_istore_n (lv' := [(3, .int (nI 1)), (2, .int (nI 0)), (0, .ref ko), (1, .int (nI 4))]) hx hb dX6_count_3 rfl hl (by decide) rfl (fun ls hl => ?_)
  have hL4 : ∀ k : Nat, ∀ (d : Nat) (n : Nat) (ls : Array Slot) (H : Heap) (locs : List Loc), la - d = k → (d ≤ la) → (n = cntF (fun d => decide (¬ unM w h S nc (d + 1) d = 0)) d) → lv_has ls 4 [(0, .ref ko), (1, .int (nI 4)), (2, .int (nI n)), (3, .int (nI (d + 1)))] → xP G [iA G (ad 0) 255 S, iA G (ad 4) 16 mk, oC ko 6 [.ref (ad 0), .ref (ad 1), .int (nI w), .int (nI h), .int (nI la), .ref (ad 2), .int (mv 0), .int (mv 1), .int (mv 2), .int (mv 3), .int (mv 4), .int (mv 5), .int (mv 6), .ref (ad 3), .int (nI tp), .int (mv 7), .int (mv 8), .int (mv 9), .int (mv 10), .int ft, .int (mv 11), .ref (ad 4), .ref (ad 5), .ref (ad 6), .ref (ad 7), .ref (ad 8), .ref (ad 9), .ref (ad 10), .int tr]] H → va_D (va_A (w_X6_count_4 G ko ad w h la tp ft tr mv S mk) ss.heap.size) [iA G (ad 0) 255 S, iA G (ad 4) 16 mk, oC ko 6 [.ref (ad 0), .ref (ad 1), .int (nI w), .int (nI h), .int (nI la), .ref (ad 2), .int (mv 0), .int (mv 1), .int (mv 2), .int (mv 3), .int (mv 4), .int (mv 5), .int (mv 6), .ref (ad 3), .int (nI tp), .int (mv 7), .int (mv 8), .int (mv 9), .int (mv 10), .int ft, .int (mv 11), .ref (ad 4), .ref (ad 5), .ref (ad 6), .ref (ad 7), .ref (ad 8), .ref (ad 9), .ref (ad 10), .int tr]] → va_S (va_A (w_X6_count_4 G ko ad w h la tp ft tr mv S mk) ss.heap.size) ss.heap H locs → W pp l ee ({ frames := 6, cells := 0, slots := 0, locals := 135 } : Room) ss mm ([.ref ko, .int (nI 4)] : List Value).toArray below mt cd H locs 0 0 (MQ below (Q_X6_count_4 G ss.heap.size ko ad w h la tp ft tr mv S nc mk ns) ([.ref ko, .int (nI 4)] : List Value).toArray ss 0 0 (va_A (w_X6_count_4 G ko ad w h la tp ft tr mv S mk) ss.heap.size)) (F0 mm 4 ls []) := by
    intro k
    induction k using Nat.strongRecOn with
    | _ k ih4 =>
    intro d n ls H locs hm4 hd hn hl hP hD hS
    refine lv_iload_n hx hb dX6_count_4 rfl (lv_at hl 3 rfl) ?_
    refine lv_aload_n hx hb dX6_count_5 rfl (lv_at hl 0 rfl) ?_
    refine va_get (D := G.1) (ci := 6) (v := .int (nI la)) (C := RX6) (T := TX6) (N := 29) hx hb hts hin6 hown hK.1 hP 2 rfl rfl 4 (by decide) (hts (.fieldLink RX6 78 "BackLensesModel" "last" "I") (List.mem_of_getElem? (i := 1) rfl)) (fun _ h9 => h9) rfl dX6_count_6 ?_
    refine xn_icmp_gt (tgt := 40) hx hb (by omega) (by omega) dX6_count_9 rfl (fun b9 => ?_) (fun b9 => ?_)
    · skip
      refine lv_iload_n hx hb dX6_count_40 rfl (lv_at hl 1 rfl) ?_
      refine lv_tableIn (off := 95) (tgt := 136) hx hb dX6_count_41 (by decide) (by decide) rfl rfl ?_
      refine lv_aload_n hx hb dX6_count_136 rfl (lv_at hl 0 rfl) ?_
      refine xw_i (As := []) (rest := []) (wr := []) ⟨hx, hb, hml, hown, hts⟩ (c_X6_days l G H.size ko ad w h la tp ft tr mv S mk nc ns (by first | assumption | omega) (by first | assumption | omega) (by first | assumption | omega) (by first | assumption | omega) (by first | assumption | omega) (by first | assumption | omega) (by first | assumption | omega) (by first | assumption | omega) (by first | assumption | omega) (by first | assumption | omega) (by first | assumption | omega)) (cwV 0 hts gX6_count_X6_days rfl rfl rfl (by decide +kernel) ⟨Nat.le_of_ble_eq_true rfl, Nat.le_of_ble_eq_true rfl⟩) hK hP hD hS hA [2, 0, 1] [] rfl rfl (by decide) (by decide) (by decide) rfl rfl rfl hl.1 rfl (Nat.le_of_ble_eq_true rfl) dX6_count_137 ⟨Nat.le_of_ble_eq_true rfl, Nat.le_of_ble_eq_true rfl⟩ (fun r137 u H locs hp137 hP hD hS => ?_)
      obtain ⟨mk2_137, rfl⟩ : ∃ z, z = u := ⟨_, rfl⟩
      try dsimp only at hp137 hP hD
      obtain rfl := hp137
      replace hP : xP G [oC ko 6 [.ref (ad 0), .ref (ad 1), .int (nI w), .int (nI h), .int (nI la), .ref (ad 2), .int (mv 0), .int (mv 1), .int (mv 2), .int (mv 3), .int (mv 4), .int (mv 5), .int (mv 6), .ref (ad 3), .int (nI tp), .int (mv 7), .int (mv 8), .int (mv 9), .int (mv 10), .int ft, .int (mv 11), .ref (ad 4), .ref (ad 5), .ref (ad 6), .ref (ad 7), .ref (ad 8), .ref (ad 9), .ref (ad 10), .int tr], iA G (ad 0) 255 S, iA G (ad 4) 16 mk2_137] H := hP
      replace hD : va_D (va_A (w_X6_count_4 G ko ad w h la tp ft tr mv S mk) ss.heap.size) [oC ko 6 [.ref (ad 0), .ref (ad 1), .int (nI w), .int (nI h), .int (nI la), .ref (ad 2), .int (mv 0), .int (mv 1), .int (mv 2), .int (mv 3), .int (mv 4), .int (mv 5), .int (mv 6), .ref (ad 3), .int (nI tp), .int (mv 7), .int (mv 8), .int (mv 9), .int (mv 10), .int ft, .int (mv 11), .ref (ad 4), .ref (ad 5), .ref (ad 6), .ref (ad 7), .ref (ad 8), .ref (ad 9), .ref (ad 10), .int tr], iA G (ad 0) 255 S, iA G (ad 4) 16 mk2_137] := hD
      refine xs_i (As := [.int (dyM w h la S nc ns)]) (rest := []) ⟨hx, hb, hml, hown, hts⟩ (c_X6_bitsOf l G (dyM w h la S nc ns) ) (va_cwS 1 hts gX6_count_X6_bitsOf rfl rfl rfl (by decide +kernel) ⟨Nat.le_of_ble_eq_true rfl, Nat.le_of_ble_eq_true rfl⟩) hP hS rfl hl.1 rfl (Nat.le_of_ble_eq_true rfl) dX6_count_140 ⟨Nat.zero_le _, Nat.zero_le _⟩ (fun r140 H locs hp140 hP hS => ?_)
      rw [show r140 = _ from hp140]
      have hP := hP.sub (ws' := [oC ko 6 [.ref (ad 0), .ref (ad 1), .int (nI w), .int (nI h), .int (nI la), .ref (ad 2), .int (mv 0), .int (mv 1), .int (mv 2), .int (mv 3), .int (mv 4), .int (mv 5), .int (mv 6), .ref (ad 3), .int (nI tp), .int (mv 7), .int (mv 8), .int (mv 9), .int (mv 10), .int ft, .int (mv 11), .ref (ad 4), .ref (ad 5), .ref (ad 6), .ref (ad 7), .ref (ad 8), .ref (ad 9), .ref (ad 10), .int tr], iA G (ad 0) 255 S, iA G (ad 4) 16 mk2_137]) [0, 1, 2] rfl
      have hD := hD.sub (ws' := [oC ko 6 [.ref (ad 0), .ref (ad 1), .int (nI w), .int (nI h), .int (nI la), .ref (ad 2), .int (mv 0), .int (mv 1), .int (mv 2), .int (mv 3), .int (mv 4), .int (mv 5), .int (mv 6), .ref (ad 3), .int (nI tp), .int (mv 7), .int (mv 8), .int (mv 9), .int (mv 10), .int ft, .int (mv 11), .ref (ad 4), .ref (ad 5), .ref (ad 6), .ref (ad 7), .ref (ad 8), .ref (ad 9), .ref (ad 10), .int tr], iA G (ad 0) 255 S, iA G (ad 4) 16 mk2_137]) [0, 1, 2] (by decide) rfl
      refine W.iret (v := bcM (dyM w h la S nc ns) 16) hx hb hr (fun t ht hW => ⟨⟨bcM (dyM w h la S nc ns) 16, (mk2_137), rfl, ?_, by rw [ht]; exact hP, hD⟩, hS.F ht⟩) hS.2.2 dX6_count_143
      rfl
    · skip
      refine lv_iload_n hx hb dX6_count_12 rfl (lv_at hl 2 rfl) ?_
      refine lv_aload_n hx hb dX6_count_13 rfl (lv_at hl 0 rfl) ?_
      refine lv_iload_n hx hb dX6_count_14 rfl (lv_at hl 3 rfl) ?_
      refine lv_iload_n hx hb dX6_count_15 rfl (lv_at hl 3 rfl) ?_
      refine lv_iconst (v := nI 1) hx hb dX6_count_16 (by decide) ?_
      refine xn_isub hx hb (by omega) dX6_count_17 ?_
      refine xr_i (As := [.int (nI (d + 1)), .int (nI ((d + 1) - 1))]) (rest := [.int (nI n)]) ⟨hx, hb, hml, hown, hts⟩ (c_X6_unlike l G ko ad w h la tp ft tr mv S nc (d + 1) ((d + 1) - 1) (by first | assumption | omega) (by first | assumption | omega) (by first | assumption | omega) (by first | assumption | omega) (by first | assumption | omega) (by first | assumption | omega) (by first | assumption | omega) (by first | assumption | omega) (by first | assumption | omega) (by first | assumption | omega)) (cwV 2 hts gX6_count_X6_unlike rfl rfl rfl (by decide +kernel) ⟨Nat.le_of_ble_eq_true rfl, Nat.le_of_ble_eq_true rfl⟩) hK hP hS [2, 0] rfl rfl rfl rfl hl.1 rfl (Nat.le_of_ble_eq_true rfl) dX6_count_18 ⟨Nat.zero_le _, Nat.zero_le _⟩ (fun r18 H locs hp18 hP hS => ?_)
      rw [show r18 = _ from hp18]
      refine lv_if_eq (tgt := 28) hx hb dX6_count_21 rfl (fun b21 => ?_) (fun b21 => ?_)
      · skip
        refine lv_iconst (v := nI 0) hx hb dX6_count_28 (by decide) ?_
        refine xs_i (As := [.int (nI 0)]) (rest := [.int (nI n)]) ⟨hx, hb, hml, hown, hts⟩ (c_X6_flag_0 l G) (va_cwS 1 hts gX6_count_X6_flag rfl rfl rfl (by decide +kernel) ⟨Nat.le_of_ble_eq_true rfl, Nat.le_of_ble_eq_true rfl⟩) hP hS rfl hl.1 rfl (Nat.le_of_ble_eq_true rfl) dX6_count_29 ⟨Nat.zero_le _, Nat.zero_le _⟩ (fun r29 H locs hp29 hP hS => ?_)
        rw [show r29 = _ from hp29]
        refine xn_iadd hx hb dX6_count_32 ?_
        refine lv_istore_n (lv' := [(2, .int (nI (n + 0))), (0, .ref ko), (1, .int (nI 4)), (3, .int (nI (d + 1)))]) hx hb dX6_count_33 rfl hl (by decide) rfl (fun ls hl => ?_)
        refine lv_iinc (k := 3) (v := nI (d + 1 + 1)) (lv' := [(3, .int (nI (d + 1 + 1))), (2, .int (nI (n + 0))), (0, .ref ko), (1, .int (nI 4))]) hx hb dX6_count_34 hl rfl (xn_inc (d + 1) 1) (by decide) rfl (fun ls hl => ?_)
        refine lv_goto (tgt := 4) hx hb dX6_count_37 rfl ?_
        have hl := lv_sub hl (l' := [(0, .ref ko), (1, .int (nI 4)), (2, .int (nI (n + 0))), (3, .int (nI (d + 1 + 1)))]) [2, 3, 1, 0] rfl
        exact ih4 (la - (d + 1)) (by omega) (d + 1) (n + 0) ls H locs rfl (by omega) (by first | exact cntF_T (decide_eq_true b21) hn | exact cntF_N (decide_eq_false (fun q => q b21)) hn) hl hP hD hS
      · skip
        refine lv_iconst (v := nI 1) hx hb dX6_count_24 (by decide) ?_
        refine lv_goto (tgt := 29) hx hb dX6_count_25 rfl ?_
        refine xs_i (As := [.int (nI 1)]) (rest := [.int (nI n)]) ⟨hx, hb, hml, hown, hts⟩ (c_X6_flag_1 l G) (va_cwS 1 hts gX6_count_X6_flag rfl rfl rfl (by decide +kernel) ⟨Nat.le_of_ble_eq_true rfl, Nat.le_of_ble_eq_true rfl⟩) hP hS rfl hl.1 rfl (Nat.le_of_ble_eq_true rfl) dX6_count_29 ⟨Nat.zero_le _, Nat.zero_le _⟩ (fun r29 H locs hp29 hP hS => ?_)
        rw [show r29 = _ from hp29]
        refine xn_iadd hx hb dX6_count_32 ?_
        refine lv_istore_n (lv' := [(2, .int (nI (n + 1))), (0, .ref ko), (1, .int (nI 4)), (3, .int (nI (d + 1)))]) hx hb dX6_count_33 rfl hl (by decide) rfl (fun ls hl => ?_)
        refine lv_iinc (k := 3) (v := nI (d + 1 + 1)) (lv' := [(3, .int (nI (d + 1 + 1))), (2, .int (nI (n + 1))), (0, .ref ko), (1, .int (nI 4))]) hx hb dX6_count_34 hl rfl (xn_inc (d + 1) 1) (by decide) rfl (fun ls hl => ?_)
        refine lv_goto (tgt := 4) hx hb dX6_count_37 rfl ?_
        have hl := lv_sub hl (l' := [(0, .ref ko), (1, .int (nI 4)), (2, .int (nI (n + 1))), (3, .int (nI (d + 1 + 1)))]) [2, 3, 1, 0] rfl
        exact ih4 (la - (d + 1)) (by omega) (d + 1) (n + 1) ls H locs rfl (by omega) (by first | exact cntF_T (decide_eq_true b21) hn | exact cntF_N (decide_eq_false (fun q => q b21)) hn) hl hP hD hS
  have hl := lv_sub hl (l' := [(0, .ref ko), (1, .int (nI 4)), (2, .int (nI 0)), (3, .int (nI 1))]) [2, 3, 1, 0] rfl
  have hP := hP.sub (ws' := [iA G (ad 0) 255 S, iA G (ad 4) 16 mk, oC ko 6 [.ref (ad 0), .ref (ad 1), .int (nI w), .int (nI h), .int (nI la), .ref (ad 2), .int (mv 0), .int (mv 1), .int (mv 2), .int (mv 3), .int (mv 4), .int (mv 5), .int (mv 6), .ref (ad 3), .int (nI tp), .int (mv 7), .int (mv 8), .int (mv 9), .int (mv 10), .int ft, .int (mv 11), .ref (ad 4), .ref (ad 5), .ref (ad 6), .ref (ad 7), .ref (ad 8), .ref (ad 9), .ref (ad 10), .int tr]]) [1, 2, 0] rfl
  have hD := hD.sub (ws' := [iA G (ad 0) 255 S, iA G (ad 4) 16 mk, oC ko 6 [.ref (ad 0), .ref (ad 1), .int (nI w), .int (nI h), .int (nI la), .ref (ad 2), .int (mv 0), .int (mv 1), .int (mv 2), .int (mv 3), .int (mv 4), .int (mv 5), .int (mv 6), .ref (ad 3), .int (nI tp), .int (mv 7), .int (mv 8), .int (mv 9), .int (mv 10), .int ft, .int (mv 11), .ref (ad 4), .ref (ad 5), .ref (ad 6), .ref (ad 7), .ref (ad 8), .ref (ad 9), .ref (ad 10), .int tr]]) [1, 2, 0] (by decide) rfl
  exact hL4 (la - 0) 0 0 ls ss.heap [] rfl (by omega) (by rfl) hl hP hD hS

abbrev w_X6_count_5 (G : XG) (ko : Nat) (ad : Nat → Nat) (w h la tp : Nat) (ft tr : Int32) (mv : Nat → Int32) (S : Nat → Int32) : va_W := [oC ko 6 [.ref (ad 0), .ref (ad 1), .int (nI w), .int (nI h), .int (nI la), .ref (ad 2), .int (mv 0), .int (mv 1), .int (mv 2), .int (mv 3), .int (mv 4), .int (mv 5), .int (mv 6), .ref (ad 3), .int (nI tp), .int (mv 7), .int (mv 8), .int (mv 9), .int (mv 10), .int ft, .int (mv 11), .ref (ad 4), .ref (ad 5), .ref (ad 6), .ref (ad 7), .ref (ad 8), .ref (ad 9), .ref (ad 10), .int tr], iA G (ad 0) 255 S]
abbrev Q_X6_count_5 (G : XG) (ko : Nat) (ad : Nat → Nat) (w h la tp : Nat) (ft tr : Int32) (mv : Nat → Int32) (S : Nat → Int32) (nc : Nat) : Array Value → State → Outcome → State → Prop := (xRi (fun r => r = nI (cntF (fun d => decide (¬ unM w h S nc (d + 1) d = 0)) la)))
set_option maxHeartbeats 4000000 in
set_option maxRecDepth 100000 in
theorem c_X6_count_5 (l : Launch) (G : XG) (ko : Nat) (ad : Nat → Nat) (w h la tp : Nat) (ft tr : Int32) (mv : Nat → Int32) (S : Nat → Int32) (nc : Nat) (hw : 1 ≤ w) (hwb : w ≤ 16) (hhb : h ≤ 16) (hwh1 : 1 ≤ w * h) (hwh : w * h ≤ 16) (hla : la ≤ 9) (hs16 : S 16 = nI nc) (hnc : nc ≤ 10) : Met l yX6_count wsX6_count ({ frames := 2, cells := 0, slots := 0, locals := 51 } : Room) (va_Pc [.ref ko, .int (nI 5)] (xRp G (w_X6_count_5 G ko ad w h la tp ft tr mv S))) (Q_X6_count_5 G ko ad w h la tp ft tr mv S nc) 0 0 (fun _ => False) := by
  refine Met.ofW (cc := cX6_count) (maxL := 4) (ret := (some .int)) (by decide) rfl ?_
  intro pp ee ss mm aa below mt cd s₁ BB hml hv
  obtain ⟨rfl, hP, hK⟩ := hv
  have hx := BB.exec
  have hb := BB.bytes
  have hr := BB.returns
  have hts := atoms_spec (ws := wsX6_count) BB.pre
  have hown : ss.vm.findClass RX6 = some mm.cls := findClass_of_methodNamed BB.named
  have hlocks := BB.notSynchronized
  have hS : va_S (fun _ => False) ss.heap ss.heap [] := va_S.rf
  replace hP : xP G [oC ko 6 [.ref (ad 0), .ref (ad 1), .int (nI w), .int (nI h), .int (nI la), .ref (ad 2), .int (mv 0), .int (mv 1), .int (mv 2), .int (mv 3), .int (mv 4), .int (mv 5), .int (mv 6), .ref (ad 3), .int (nI tp), .int (mv 7), .int (mv 8), .int (mv 9), .int (mv 10), .int ft, .int (mv 11), .ref (ad 4), .ref (ad 5), .ref (ad 6), .ref (ad 7), .ref (ad 8), .ref (ad 9), .ref (ad 10), .int tr], iA G (ad 0) 255 S] ss.heap := hP
  have hin6 : ∀ w ∈ u_ws RX6 TX6 29, w ∈ wsX6_count := fun w h => List.mem_cons_of_mem _ (List.mem_append_right _ h)
  have hl := lv_entry ([.ref ko, .int (nI 5)]) (n := 4) (Nat.le_of_ble_eq_true rfl)
  rw [lg_entry_eq]
  generalize (lg_sl ([.ref ko, .int (nI 5)]) ++ List.replicate (4 - (lg_sl ([.ref ko, .int (nI 5)])).length) Slot.unset).toArray = ls at hl ⊢
  replace hl : lv_has ls 4 [(0, .ref ko), (1, .int (nI 5))] := hl
  refine lv_iconst (v := nI 0) hx hb dX6_count_0 (by decide) ?_
  refine lv_istore_n (lv' := [(2, .int (nI 0)), (0, .ref ko), (1, .int (nI 5))]) hx hb dX6_count_1 rfl hl (by decide) rfl (fun ls hl => ?_)
  refine lv_iconst (v := nI 1) hx hb dX6_count_2 (by decide) ?_
  refine lv_istore_n (lv' := [(3, .int (nI 1)), (2, .int (nI 0)), (0, .ref ko), (1, .int (nI 5))]) hx hb dX6_count_3 rfl hl (by decide) rfl (fun ls hl => ?_)
  have hL4 : ∀ k : Nat, ∀ (d : Nat) (n : Nat) (ls : Array Slot) (H : Heap) (locs : List Loc), la - d = k → (d ≤ la) → (n = cntF (fun d => decide (¬ unM w h S nc (d + 1) d = 0)) d) → lv_has ls 4 [(0, .ref ko), (1, .int (nI 5)), (2, .int (nI n)), (3, .int (nI (d + 1)))] → xP G [iA G (ad 0) 255 S, oC ko 6 [.ref (ad 0), .ref (ad 1), .int (nI w), .int (nI h), .int (nI la), .ref (ad 2), .int (mv 0), .int (mv 1), .int (mv 2), .int (mv 3), .int (mv 4), .int (mv 5), .int (mv 6), .ref (ad 3), .int (nI tp), .int (mv 7), .int (mv 8), .int (mv 9), .int (mv 10), .int ft, .int (mv 11), .ref (ad 4), .ref (ad 5), .ref (ad 6), .ref (ad 7), .ref (ad 8), .ref (ad 9), .ref (ad 10), .int tr]] H → va_S (fun _ => False) ss.heap H locs → W pp l ee ({ frames := 2, cells := 0, slots := 0, locals := 51 } : Room) ss mm ([.ref ko, .int (nI 5)] : List Value).toArray below mt cd H locs 0 0 (MQ below (Q_X6_count_5 G ko ad w h la tp ft tr mv S nc) ([.ref ko, .int (nI 5)] : List Value).toArray ss 0 0 (fun _ => False)) (F0 mm 4 ls []) := by
    intro k
    induction k using Nat.strongRecOn with
    | _ k ih4 =>
    intro d n ls H locs hm4 hd hn hl hP hS
    refine lv_iload_n hx hb dX6_count_4 rfl (lv_at hl 3 rfl) ?_
    refine lv_aload_n hx hb dX6_count_5 rfl (lv_at hl 0 rfl) ?_
    refine va_get (D := G.1) (ci := 6) (v := .int (nI la)) (C := RX6) (T := TX6) (N := 29) hx hb hts hin6 hown hK.1 hP 1 rfl rfl 4 (by decide) (hts (.fieldLink RX6 78 "BackLensesModel" "last" "I") (List.mem_of_getElem? (i := 1) rfl)) (fun _ h9 => h9) rfl dX6_count_6 ?_
    refine xn_icmp_gt (tgt := 40) hx hb (by omega) (by omega) dX6_count_9 rfl (fun b9 => ?_) (fun b9 => ?_)
    · skip
      refine lv_iload_n hx hb dX6_count_40 rfl (lv_at hl 1 rfl) ?_
      refine lv_tableIn (off := 103) (tgt := 144) hx hb dX6_count_41 (by decide) (by decide) rfl rfl ?_
      refine lv_iload_n hx hb dX6_count_144 rfl (lv_at hl 2 rfl) ?_
      refine W.iret (v := nI n) hx hb hr (fun t ht hW => ⟨⟨nI n, (), rfl, ?_, trivial⟩, hS.F ht⟩) hS.2.2 dX6_count_145
      rw [hn, show d = la by omega]
    · skip
      refine lv_iload_n hx hb dX6_count_12 rfl (lv_at hl 2 rfl) ?_
      refine lv_aload_n hx hb dX6_count_13 rfl (lv_at hl 0 rfl) ?_
      refine lv_iload_n hx hb dX6_count_14 rfl (lv_at hl 3 rfl) ?_
      refine lv_iload_n hx hb dX6_count_15 rfl (lv_at hl 3 rfl) ?_
      refine lv_iconst (v := nI 1) hx hb dX6_count_16 (by decide) ?_
      refine xn_isub hx hb (by omega) dX6_count_17 ?_
      refine xr_i (As := [.int (nI (d + 1)), .int (nI ((d + 1) - 1))]) (rest := [.int (nI n)]) ⟨hx, hb, hml, hown, hts⟩ (c_X6_unlike l G ko ad w h la tp ft tr mv S nc (d + 1) ((d + 1) - 1) (by first | assumption | omega) (by first | assumption | omega) (by first | assumption | omega) (by first | assumption | omega) (by first | assumption | omega) (by first | assumption | omega) (by first | assumption | omega) (by first | assumption | omega) (by first | assumption | omega) (by first | assumption | omega)) (cwV 2 hts gX6_count_X6_unlike rfl rfl rfl (by decide +kernel) ⟨Nat.le_of_ble_eq_true rfl, Nat.le_of_ble_eq_true rfl⟩) hK hP hS [1, 0] rfl rfl rfl rfl hl.1 rfl (Nat.le_of_ble_eq_true rfl) dX6_count_18 ⟨Nat.zero_le _, Nat.zero_le _⟩ (fun r18 H locs hp18 hP hS => ?_)
      rw [show r18 = _ from hp18]
      refine lv_if_eq (tgt := 28) hx hb dX6_count_21 rfl (fun b21 => ?_) (fun b21 => ?_)
      · skip
        refine lv_iconst (v := nI 0) hx hb dX6_count_28 (by decide) ?_
        refine xs_i (As := [.int (nI 0)]) (rest := [.int (nI n)]) ⟨hx, hb, hml, hown, hts⟩ (c_X6_flag_0 l G) (va_cwS 1 hts gX6_count_X6_flag rfl rfl rfl (by decide +kernel) ⟨Nat.le_of_ble_eq_true rfl, Nat.le_of_ble_eq_true rfl⟩) hP hS rfl hl.1 rfl (Nat.le_of_ble_eq_true rfl) dX6_count_29 ⟨Nat.zero_le _, Nat.zero_le _⟩ (fun r29 H locs hp29 hP hS => ?_)
        rw [show r29 = _ from hp29]
        refine xn_iadd hx hb dX6_count_32 ?_
        refine lv_istore_n (lv' := [(2, .int (nI (n + 0))), (0, .ref ko), (1, .int (nI 5)), (3, .int (nI (d + 1)))]) hx hb dX6_count_33 rfl hl (by decide) rfl (fun ls hl => ?_)
        refine lv_iinc (k := 3) (v := nI (d + 1 + 1)) (lv' := [(3, .int (nI (d + 1 + 1))), (2, .int (nI (n + 0))), (0, .ref ko), (1, .int (nI 5))]) hx hb dX6_count_34 hl rfl (xn_inc (d + 1) 1) (by decide) rfl (fun ls hl => ?_)
        refine lv_goto (tgt := 4) hx hb dX6_count_37 rfl ?_
        have hl := lv_sub hl (l' := [(0, .ref ko), (1, .int (nI 5)), (2, .int (nI (n + 0))), (3, .int (nI (d + 1 + 1)))]) [2, 3, 1, 0] rfl
        exact ih4 (la - (d + 1)) (by omega) (d + 1) (n + 0) ls H locs rfl (by omega) (by first | exact cntF_T (decide_eq_true b21) hn | exact cntF_N (decide_eq_false (fun q => q b21)) hn) hl hP hS
      · skip
        refine lv_iconst (v := nI 1) hx hb dX6_count_24 (by decide) ?_
        refine lv_goto (tgt := 29) hx hb dX6_count_25 rfl ?_
        refine xs_i (As := [.int (nI 1)]) (rest := [.int (nI n)]) ⟨hx, hb, hml, hown, hts⟩ (c_X6_flag_1 l G) (va_cwS 1 hts gX6_count_X6_flag rfl rfl rfl (by decide +kernel) ⟨Nat.le_of_ble_eq_true rfl, Nat.le_of_ble_eq_true rfl⟩) hP hS rfl hl.1 rfl (Nat.le_of_ble_eq_true rfl) dX6_count_29 ⟨Nat.zero_le _, Nat.zero_le _⟩ (fun r29 H locs hp29 hP hS => ?_)
        rw [show r29 = _ from hp29]
        refine xn_iadd hx hb dX6_count_32 ?_
        refine lv_istore_n (lv' := [(2, .int (nI (n + 1))), (0, .ref ko), (1, .int (nI 5)), (3, .int (nI (d + 1)))]) hx hb dX6_count_33 rfl hl (by decide) rfl (fun ls hl => ?_)
        refine lv_iinc (k := 3) (v := nI (d + 1 + 1)) (lv' := [(3, .int (nI (d + 1 + 1))), (2, .int (nI (n + 1))), (0, .ref ko), (1, .int (nI 5))]) hx hb dX6_count_34 hl rfl (xn_inc (d + 1) 1) (by decide) rfl (fun ls hl => ?_)
        refine lv_goto (tgt := 4) hx hb dX6_count_37 rfl ?_
        have hl := lv_sub hl (l' := [(0, .ref ko), (1, .int (nI 5)), (2, .int (nI (n + 1))), (3, .int (nI (d + 1 + 1)))]) [2, 3, 1, 0] rfl
        exact ih4 (la - (d + 1)) (by omega) (d + 1) (n + 1) ls H locs rfl (by omega) (by first | exact cntF_T (decide_eq_true b21) hn | exact cntF_N (decide_eq_false (fun q => q b21)) hn) hl hP hS
  have hl := lv_sub hl (l' := [(0, .ref ko), (1, .int (nI 5)), (2, .int (nI 0)), (3, .int (nI 1))]) [2, 3, 1, 0] rfl
  have hP := hP.sub (ws' := [iA G (ad 0) 255 S, oC ko 6 [.ref (ad 0), .ref (ad 1), .int (nI w), .int (nI h), .int (nI la), .ref (ad 2), .int (mv 0), .int (mv 1), .int (mv 2), .int (mv 3), .int (mv 4), .int (mv 5), .int (mv 6), .ref (ad 3), .int (nI tp), .int (mv 7), .int (mv 8), .int (mv 9), .int (mv 10), .int ft, .int (mv 11), .ref (ad 4), .ref (ad 5), .ref (ad 6), .ref (ad 7), .ref (ad 8), .ref (ad 9), .ref (ad 10), .int tr]]) [1, 0] rfl
  exact hL4 (la - 0) 0 0 ls ss.heap [] rfl (by omega) (by rfl) hl hP hS

abbrev w_X6_count_b (G : XG) (ko : Nat) (ad : Nat → Nat) (w h la tp : Nat) (ft tr : Int32) (mv : Nat → Int32) (S : Nat → Int32) : va_W := [oC ko 6 [.ref (ad 0), .ref (ad 1), .int (nI w), .int (nI h), .int (nI la), .ref (ad 2), .int (mv 0), .int (mv 1), .int (mv 2), .int (mv 3), .int (mv 4), .int (mv 5), .int (mv 6), .ref (ad 3), .int (nI tp), .int (mv 7), .int (mv 8), .int (mv 9), .int (mv 10), .int ft, .int (mv 11), .ref (ad 4), .ref (ad 5), .ref (ad 6), .ref (ad 7), .ref (ad 8), .ref (ad 9), .ref (ad 10), .int tr], iA G (ad 0) 255 S]
abbrev Q_X6_count_b (G : XG) (ko : Nat) (ad : Nat → Nat) (w h la tp : Nat) (ft tr : Int32) (mv : Nat → Int32) (S : Nat → Int32) (nc : Nat) (a : Int32) : Array Value → State → Outcome → State → Prop := (xRi (fun r => r = (-1)))
set_option maxHeartbeats 4000000 in
set_option maxRecDepth 100000 in
theorem c_X6_count_b (l : Launch) (G : XG) (ko : Nat) (ad : Nat → Nat) (w h la tp : Nat) (ft tr : Int32) (mv : Nat → Int32) (S : Nat → Int32) (nc : Nat) (a : Int32) (hw : 1 ≤ w) (hwb : w ≤ 16) (hhb : h ≤ 16) (hwh1 : 1 ≤ w * h) (hwh : w * h ≤ 16) (hla : la ≤ 9) (hs16 : S 16 = nI nc) (hnc : nc ≤ 10) (hbad : ¬ inR a 6) : Met l yX6_count wsX6_count ({ frames := 2, cells := 0, slots := 0, locals := 51 } : Room) (va_Pc [.ref ko, .int a] (xRp G (w_X6_count_b G ko ad w h la tp ft tr mv S))) (Q_X6_count_b G ko ad w h la tp ft tr mv S nc a) 0 0 (fun _ => False) := by
  refine Met.ofW (cc := cX6_count) (maxL := 4) (ret := (some .int)) (by decide) rfl ?_
  intro pp ee ss mm aa below mt cd s₁ BB hml hv
  obtain ⟨rfl, hP, hK⟩ := hv
  have hx := BB.exec
  have hb := BB.bytes
  have hr := BB.returns
  have hts := atoms_spec (ws := wsX6_count) BB.pre
  have hown : ss.vm.findClass RX6 = some mm.cls := findClass_of_methodNamed BB.named
  have hlocks := BB.notSynchronized
  have hS : va_S (fun _ => False) ss.heap ss.heap [] := va_S.rf
  replace hP : xP G [oC ko 6 [.ref (ad 0), .ref (ad 1), .int (nI w), .int (nI h), .int (nI la), .ref (ad 2), .int (mv 0), .int (mv 1), .int (mv 2), .int (mv 3), .int (mv 4), .int (mv 5), .int (mv 6), .ref (ad 3), .int (nI tp), .int (mv 7), .int (mv 8), .int (mv 9), .int (mv 10), .int ft, .int (mv 11), .ref (ad 4), .ref (ad 5), .ref (ad 6), .ref (ad 7), .ref (ad 8), .ref (ad 9), .ref (ad 10), .int tr], iA G (ad 0) 255 S] ss.heap := hP
  have hin6 : ∀ w ∈ u_ws RX6 TX6 29, w ∈ wsX6_count := fun w h => List.mem_cons_of_mem _ (List.mem_append_right _ h)
  have hl := lv_entry ([.ref ko, .int a]) (n := 4) (Nat.le_of_ble_eq_true rfl)
  rw [lg_entry_eq]
  generalize (lg_sl ([.ref ko, .int a]) ++ List.replicate (4 - (lg_sl ([.ref ko, .int a])).length) Slot.unset).toArray = ls at hl ⊢
  replace hl : lv_has ls 4 [(0, .ref ko), (1, .int a)] := hl
  refine lv_iconst (v := nI 0) hx hb dX6_count_0 (by decide) ?_
  refine lv_istore_n (lv' := [(2, .int (nI 0)), (0, .ref ko), (1, .int a)]) hx hb dX6_count_1 rfl hl (by decide) rfl (fun ls hl => ?_)
  refine lv_iconst (v := nI 1) hx hb dX6_count_2 (by decide) ?_
  refine lv_istore_n (lv' := [(3, .int (nI 1)), (2, .int (nI 0)), (0, .ref ko), (1, .int a)]) hx hb dX6_count_3 rfl hl (by decide) rfl (fun ls hl => ?_)
  have hL4 : ∀ k : Nat, ∀ (d : Nat) (n : Nat) (ls : Array Slot) (H : Heap) (locs : List Loc), la - d = k → (d ≤ la) → (n = cntF (fun d => decide (¬ unM w h S nc (d + 1) d = 0)) d) → lv_has ls 4 [(0, .ref ko), (1, .int a), (2, .int (nI n)), (3, .int (nI (d + 1)))] → xP G [iA G (ad 0) 255 S, oC ko 6 [.ref (ad 0), .ref (ad 1), .int (nI w), .int (nI h), .int (nI la), .ref (ad 2), .int (mv 0), .int (mv 1), .int (mv 2), .int (mv 3), .int (mv 4), .int (mv 5), .int (mv 6), .ref (ad 3), .int (nI tp), .int (mv 7), .int (mv 8), .int (mv 9), .int (mv 10), .int ft, .int (mv 11), .ref (ad 4), .ref (ad 5), .ref (ad 6), .ref (ad 7), .ref (ad 8), .ref (ad 9), .ref (ad 10), .int tr]] H → va_S (fun _ => False) ss.heap H locs → W pp l ee ({ frames := 2, cells := 0, slots := 0, locals := 51 } : Room) ss mm ([.ref ko, .int a] : List Value).toArray below mt cd H locs 0 0 (MQ below (Q_X6_count_b G ko ad w h la tp ft tr mv S nc a) ([.ref ko, .int a] : List Value).toArray ss 0 0 (fun _ => False)) (F0 mm 4 ls []) := by
    intro k
    induction k using Nat.strongRecOn with
    | _ k ih4 =>
    intro d n ls H locs hm4 hd hn hl hP hS
    refine lv_iload_n hx hb dX6_count_4 rfl (lv_at hl 3 rfl) ?_
    refine lv_aload_n hx hb dX6_count_5 rfl (lv_at hl 0 rfl) ?_
    refine va_get (D := G.1) (ci := 6) (v := .int (nI la)) (C := RX6) (T := TX6) (N := 29) hx hb hts hin6 hown hK.1 hP 1 rfl rfl 4 (by decide) (hts (.fieldLink RX6 78 "BackLensesModel" "last" "I") (List.mem_of_getElem? (i := 1) rfl)) (fun _ h9 => h9) rfl dX6_count_6 ?_
    refine xn_icmp_gt (tgt := 40) hx hb (by omega) (by omega) dX6_count_9 rfl (fun b9 => ?_) (fun b9 => ?_)
    · skip
      refine lv_iload_n hx hb dX6_count_40 rfl (lv_at hl 1 rfl) ?_
      have hsw : ¬ inR a 6 := hbad
      refine lv_tableOut (tgt := 146) hx hb dX6_count_41 (by unfold inR at hsw; omega) rfl ?_
      refine lv_iconst (v := (-1)) hx hb dX6_count_146 (by decide) ?_
      refine W.iret (v := (-1)) hx hb hr (fun t ht hW => ⟨⟨(-1), (), rfl, ?_, trivial⟩, hS.F ht⟩) hS.2.2 dX6_count_147
      rfl
    · skip
      refine lv_iload_n hx hb dX6_count_12 rfl (lv_at hl 2 rfl) ?_
      refine lv_aload_n hx hb dX6_count_13 rfl (lv_at hl 0 rfl) ?_
      refine lv_iload_n hx hb dX6_count_14 rfl (lv_at hl 3 rfl) ?_
      refine lv_iload_n hx hb dX6_count_15 rfl (lv_at hl 3 rfl) ?_
      refine lv_iconst (v := nI 1) hx hb dX6_count_16 (by decide) ?_
      refine xn_isub hx hb (by omega) dX6_count_17 ?_
      refine xr_i (As := [.int (nI (d + 1)), .int (nI ((d + 1) - 1))]) (rest := [.int (nI n)]) ⟨hx, hb, hml, hown, hts⟩ (c_X6_unlike l G ko ad w h la tp ft tr mv S nc (d + 1) ((d + 1) - 1) (by first | assumption | omega) (by first | assumption | omega) (by first | assumption | omega) (by first | assumption | omega) (by first | assumption | omega) (by first | assumption | omega) (by first | assumption | omega) (by first | assumption | omega) (by first | assumption | omega) (by first | assumption | omega)) (cwV 2 hts gX6_count_X6_unlike rfl rfl rfl (by decide +kernel) ⟨Nat.le_of_ble_eq_true rfl, Nat.le_of_ble_eq_true rfl⟩) hK hP hS [1, 0] rfl rfl rfl rfl hl.1 rfl (Nat.le_of_ble_eq_true rfl) dX6_count_18 ⟨Nat.zero_le _, Nat.zero_le _⟩ (fun r18 H locs hp18 hP hS => ?_)
      rw [show r18 = _ from hp18]
      refine lv_if_eq (tgt := 28) hx hb dX6_count_21 rfl (fun b21 => ?_) (fun b21 => ?_)
      · skip
        refine lv_iconst (v := nI 0) hx hb dX6_count_28 (by decide) ?_
        refine xs_i (As := [.int (nI 0)]) (rest := [.int (nI n)]) ⟨hx, hb, hml, hown, hts⟩ (c_X6_flag_0 l G) (va_cwS 1 hts gX6_count_X6_flag rfl rfl rfl (by decide +kernel) ⟨Nat.le_of_ble_eq_true rfl, Nat.le_of_ble_eq_true rfl⟩) hP hS rfl hl.1 rfl (Nat.le_of_ble_eq_true rfl) dX6_count_29 ⟨Nat.zero_le _, Nat.zero_le _⟩ (fun r29 H locs hp29 hP hS => ?_)
        rw [show r29 = _ from hp29]
        refine xn_iadd hx hb dX6_count_32 ?_
        refine lv_istore_n (lv' := [(2, .int (nI (n + 0))), (0, .ref ko), (1, .int a), (3, .int (nI (d + 1)))]) hx hb dX6_count_33 rfl hl (by decide) rfl (fun ls hl => ?_)
        refine lv_iinc (k := 3) (v := nI (d + 1 + 1)) (lv' := [(3, .int (nI (d + 1 + 1))), (2, .int (nI (n + 0))), (0, .ref ko), (1, .int a)]) hx hb dX6_count_34 hl rfl (xn_inc (d + 1) 1) (by decide) rfl (fun ls hl => ?_)
        refine lv_goto (tgt := 4) hx hb dX6_count_37 rfl ?_
        have hl := lv_sub hl (l' := [(0, .ref ko), (1, .int a), (2, .int (nI (n + 0))), (3, .int (nI (d + 1 + 1)))]) [2, 3, 1, 0] rfl
        exact ih4 (la - (d + 1)) (by omega) (d + 1) (n + 0) ls H locs rfl (by omega) (by first | exact cntF_T (decide_eq_true b21) hn | exact cntF_N (decide_eq_false (fun q => q b21)) hn) hl hP hS
      · skip
        refine lv_iconst (v := nI 1) hx hb dX6_count_24 (by decide) ?_
        refine lv_goto (tgt := 29) hx hb dX6_count_25 rfl ?_
        refine xs_i (As := [.int (nI 1)]) (rest := [.int (nI n)]) ⟨hx, hb, hml, hown, hts⟩ (c_X6_flag_1 l G) (va_cwS 1 hts gX6_count_X6_flag rfl rfl rfl (by decide +kernel) ⟨Nat.le_of_ble_eq_true rfl, Nat.le_of_ble_eq_true rfl⟩) hP hS rfl hl.1 rfl (Nat.le_of_ble_eq_true rfl) dX6_count_29 ⟨Nat.zero_le _, Nat.zero_le _⟩ (fun r29 H locs hp29 hP hS => ?_)
        rw [show r29 = _ from hp29]
        refine xn_iadd hx hb dX6_count_32 ?_
        refine lv_istore_n (lv' := [(2, .int (nI (n + 1))), (0, .ref ko), (1, .int a), (3, .int (nI (d + 1)))]) hx hb dX6_count_33 rfl hl (by decide) rfl (fun ls hl => ?_)
        refine lv_iinc (k := 3) (v := nI (d + 1 + 1)) (lv' := [(3, .int (nI (d + 1 + 1))), (2, .int (nI (n + 1))), (0, .ref ko), (1, .int a)]) hx hb dX6_count_34 hl rfl (xn_inc (d + 1) 1) (by decide) rfl (fun ls hl => ?_)
        refine lv_goto (tgt := 4) hx hb dX6_count_37 rfl ?_
        have hl := lv_sub hl (l' := [(0, .ref ko), (1, .int a), (2, .int (nI (n + 1))), (3, .int (nI (d + 1 + 1)))]) [2, 3, 1, 0] rfl
        exact ih4 (la - (d + 1)) (by omega) (d + 1) (n + 1) ls H locs rfl (by omega) (by first | exact cntF_T (decide_eq_true b21) hn | exact cntF_N (decide_eq_false (fun q => q b21)) hn) hl hP hS
  have hl := lv_sub hl (l' := [(0, .ref ko), (1, .int a), (2, .int (nI 0)), (3, .int (nI 1))]) [2, 3, 1, 0] rfl
  have hP := hP.sub (ws' := [iA G (ad 0) 255 S, oC ko 6 [.ref (ad 0), .ref (ad 1), .int (nI w), .int (nI h), .int (nI la), .ref (ad 2), .int (mv 0), .int (mv 1), .int (mv 2), .int (mv 3), .int (mv 4), .int (mv 5), .int (mv 6), .ref (ad 3), .int (nI tp), .int (mv 7), .int (mv 8), .int (mv 9), .int (mv 10), .int ft, .int (mv 11), .ref (ad 4), .ref (ad 5), .ref (ad 6), .ref (ad 7), .ref (ad 8), .ref (ad 9), .ref (ad 10), .int tr]]) [1, 0] rfl
  exact hL4 (la - 0) 0 0 ls ss.heap [] rfl (by omega) (by rfl) hl hP hS

abbrev w_X6_read_b (G : XG) (ko : Nat) (ad : Nat → Nat) (w h la tp : Nat) (ft tr : Int32) (mv : Nat → Int32) : va_W := [oC ko 6 [.ref (ad 0), .ref (ad 1), .int (nI w), .int (nI h), .int (nI la), .ref (ad 2), .int (mv 0), .int (mv 1), .int (mv 2), .int (mv 3), .int (mv 4), .int (mv 5), .int (mv 6), .ref (ad 3), .int (nI tp), .int (mv 7), .int (mv 8), .int (mv 9), .int (mv 10), .int ft, .int (mv 11), .ref (ad 4), .ref (ad 5), .ref (ad 6), .ref (ad 7), .ref (ad 8), .ref (ad 9), .ref (ad 10), .int tr]]
abbrev Q_X6_read_b (G : XG) (ko : Nat) (ad : Nat → Nat) (w h la tp : Nat) (ft tr : Int32) (mv : Nat → Int32) (k lane f0 n : Int32) : Array Value → State → Outcome → State → Prop := (xRi (fun r => r = (-1)))
set_option maxHeartbeats 4000000 in
set_option maxRecDepth 100000 in
theorem c_X6_read_b (l : Launch) (G : XG) (ko : Nat) (ad : Nat → Nat) (w h la tp : Nat) (ft tr : Int32) (mv : Nat → Int32) (k lane f0 n : Int32) (hbad : ¬ (inR k 4 ∧ inR lane 3 ∧ inR n 14)) : Met l yX6_read wsX6_read ({ frames := 2, cells := 0, slots := 0, locals := 46 } : Room) (va_Pc [.ref ko, .int k, .int lane, .int f0, .int n] (xRp G (w_X6_read_b G ko ad w h la tp ft tr mv))) (Q_X6_read_b G ko ad w h la tp ft tr mv k lane f0 n) 0 0 (fun _ => False) := by
  refine Met.ofW (cc := cX6_read) (maxL := 12) (ret := (some .int)) (by decide) rfl ?_
  intro pp ee ss mm aa below mt cd s₁ BB hml hv
  obtain ⟨rfl, hP, hK⟩ := hv
  have hx := BB.exec
  have hb := BB.bytes
  have hr := BB.returns
  have hts := atoms_spec (ws := wsX6_read) BB.pre
  have hown : ss.vm.findClass RX6 = some mm.cls := findClass_of_methodNamed BB.named
  have hlocks := BB.notSynchronized
  have hS : va_S (fun _ => False) ss.heap ss.heap [] := va_S.rf
  replace hP : xP G [oC ko 6 [.ref (ad 0), .ref (ad 1), .int (nI w), .int (nI h), .int (nI la), .ref (ad 2), .int (mv 0), .int (mv 1), .int (mv 2), .int (mv 3), .int (mv 4), .int (mv 5), .int (mv 6), .ref (ad 3), .int (nI tp), .int (mv 7), .int (mv 8), .int (mv 9), .int (mv 10), .int ft, .int (mv 11), .ref (ad 4), .ref (ad 5), .ref (ad 6), .ref (ad 7), .ref (ad 8), .ref (ad 9), .ref (ad 10), .int tr]] ss.heap := hP
  have hin6 : ∀ w ∈ u_ws RX6 TX6 29, w ∈ wsX6_read := fun w h => List.mem_cons_of_mem _ (List.mem_append_right _ h)
  have hl := lv_entry ([.ref ko, .int k, .int lane, .int f0, .int n]) (n := 12) (Nat.le_of_ble_eq_true rfl)
  rw [lg_entry_eq]
  generalize (lg_sl ([.ref ko, .int k, .int lane, .int f0, .int n]) ++ List.replicate (12 - (lg_sl ([.ref ko, .int k, .int lane, .int f0, .int n])).length) Slot.unset).toArray = ls at hl ⊢
  replace hl : lv_has ls 12 [(0, .ref ko), (1, .int k), (2, .int lane), (3, .int f0), (4, .int n)] := hl
  refine lv_iload_n hx hb dX6_read_0 rfl (lv_at hl 1 rfl) ?_
  refine lv_iload_n hx hb dX6_read_1 rfl (lv_at hl 2 rfl) ?_
  refine xs_i (As := [.int k, .int lane]) (rest := []) ⟨hx, hb, hml, hown, hts⟩ (c_X6_isSheet l G k lane ) (va_cwS 2 hts gX6_read_X6_isSheet rfl rfl rfl (by decide +kernel) ⟨Nat.le_of_ble_eq_true rfl, Nat.le_of_ble_eq_true rfl⟩) hP hS rfl hl.1 rfl (Nat.le_of_ble_eq_true rfl) dX6_read_2 ⟨Nat.zero_le _, Nat.zero_le _⟩ (fun r2 H locs hp2 hP hS => ?_)
  rw [show r2 = _ from hp2]
  refine xb_if_eq (tgt := 21) hx hb dX6_read_5 rfl (fun b5 => ?_) (fun b5 => ?_)
  · skip
    refine lv_iconst (v := (-1)) hx hb dX6_read_21 (by decide) ?_
    refine W.iret (v := (-1)) hx hb hr (fun t ht hW => ⟨⟨(-1), (), rfl, ?_, trivial⟩, hS.F ht⟩) hS.2.2 dX6_read_22
    rfl
  · skip
    refine lv_iload hx hb dX6_read_8 (lv_at hl 4 rfl) ?_
    refine xi_i2l hx hb dX6_read_10 ?_
    refine lv_lconst (v := lN 0) hx hb dX6_read_11 (by decide) ?_
    refine lv_ldc2 (v := lN 13) hx hb hown (hts (.constantLong RX6 269 (lN 13)) (List.mem_of_getElem? (i := 1) rfl)) dX6_read_12 ?_
    refine xs_i (As := [.long n.toInt64, .long (lN 0), .long (lN 13)]) (rest := []) ⟨hx, hb, hml, hown, hts⟩ (c_X6_in_r l G n 13 (by first | assumption | omega)) (va_cwS 3 hts gX6_read_X6_in rfl rfl rfl (by decide +kernel) ⟨Nat.le_of_ble_eq_true rfl, Nat.le_of_ble_eq_true rfl⟩) hP hS rfl hl.1 rfl (Nat.le_of_ble_eq_true rfl) dX6_read_15 ⟨Nat.zero_le _, Nat.zero_le _⟩ (fun r15 H locs hp15 hP hS => ?_)
    rw [show r15 = _ from hp15]
    refine xb_if_ne (tgt := 23) hx hb dX6_read_18 rfl (fun b18 => ?_) (fun b18 => ?_)
    · skip
      exact absurd ⟨b5.1, b5.2, b18⟩ hbad
    · skip
      refine lv_iconst (v := (-1)) hx hb dX6_read_21 (by decide) ?_
      refine W.iret (v := (-1)) hx hb hr (fun t ht hW => ⟨⟨(-1), (), rfl, ?_, trivial⟩, hS.F ht⟩) hS.2.2 dX6_read_22
      rfl

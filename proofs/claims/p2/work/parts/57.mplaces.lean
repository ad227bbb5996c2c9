abbrev w_X6_findPairs (G : XG) (ko : Nat) (ad : Nat → Nat) (w h la tp : Nat) (ft tr : Int32) (mv : Nat → Int32) (S mk : Nat → Int32) (vs pr : Nat → Int32) : va_W := [oC ko 6 [.ref (ad 0), .ref (ad 1), .int (nI w), .int (nI h), .int (nI la), .ref (ad 2), .int (mv 0), .int (mv 1), .int (mv 2), .int (mv 3), .int (mv 4), .int (mv 5), .int (mv 6), .ref (ad 3), .int (nI tp), .int (mv 7), .int (mv 8), .int (mv 9), .int (mv 10), .int ft, .int (mv 11), .ref (ad 4), .ref (ad 5), .ref (ad 6), .ref (ad 7), .ref (ad 8), .ref (ad 9), .ref (ad 10), .int tr], iA G (ad 0) 255 S, iA G (ad 4) 16 mk, iA G (ad 6) 160 vs, iA G (ad 7) 46 pr]
abbrev Q_X6_findPairs (G : XG) (sz : Nat) (ko : Nat) (ad : Nat → Nat) (w h la tp : Nat) (ft tr : Int32) (mv : Nat → Int32) (S mk : Nat → Int32) (nc : Nat) (vs pr : Nat → Int32) : Array Value → State → Outcome → State → Prop := (va_Qi (fun (r : Int32) (u : Nat × (Nat → Int32) × (Nat → Int32) × (Nat → Int32)) => r = nI u.1 ∧ (u.1 ≤ 45 ∧ ∀ s, allF (fun i => !decide (u.2.2.2 i &&& s = 0)) u.1 = plM w h la S nc s)) (xWb G sz (w_X6_findPairs G ko ad w h la tp ft tr mv S mk vs pr) (fun u : Nat × (Nat → Int32) × (Nat → Int32) × (Nat → Int32) => [oC ko 6 [.ref (ad 0), .ref (ad 1), .int (nI w), .int (nI h), .int (nI la), .ref (ad 2), .int (mv 0), .int (mv 1), .int (mv 2), .int (mv 3), .int (mv 4), .int (mv 5), .int (mv 6), .ref (ad 3), .int (nI tp), .int (mv 7), .int (mv 8), .int (mv 9), .int (mv 10), .int ft, .int (mv 11), .ref (ad 4), .ref (ad 5), .ref (ad 6), .ref (ad 7), .ref (ad 8), .ref (ad 9), .ref (ad 10), .int tr], iA G (ad 0) 255 S, iA G (ad 4) 16 u.2.1, iA G (ad 6) 160 u.2.2.1, iA G (ad 7) 46 u.2.2.2])) (va_A (w_X6_findPairs G ko ad w h la tp ft tr mv S mk vs pr) sz))
set_option maxHeartbeats 4000000 in
set_option maxRecDepth 100000 in
theorem c_X6_findPairs (l : Launch) (G : XG) (sz : Nat) (ko : Nat) (ad : Nat → Nat) (w h la tp : Nat) (ft tr : Int32) (mv : Nat → Int32) (S mk : Nat → Int32) (nc : Nat) (vs pr : Nat → Int32) (hw : 1 ≤ w) (hwb : w ≤ 16) (hhb : h ≤ 16) (hwh1 : 1 ≤ w * h) (hwh : w * h ≤ 16) (hla : la ≤ 9) (hs16 : S 16 = nI nc) (hnc : nc ≤ 10) : Met l yX6_findPairs wsX6_findPairs ({ frames := 4, cells := 0, slots := 0, locals := 89 } : Room) (va_Pc [.ref ko] (xWp G sz (w_X6_findPairs G ko ad w h la tp ft tr mv S mk vs pr))) (Q_X6_findPairs G sz ko ad w h la tp ft tr mv S mk nc vs pr) 0 0 (va_A (w_X6_findPairs G ko ad w h la tp ft tr mv S mk vs pr) sz) := by
  refine Met.ofW (cc := cX6_findPairs) (maxL := 4) (ret := (some .int)) (by decide) rfl ?_
  intro pp ee ss mm aa below mt cd s₁ BB hml hv
  obtain ⟨rfl, hsz, hP, hK, hD0⟩ := hv
  have hx := BB.exec
  have hb := BB.bytes
  have hr := BB.returns
  have hts := atoms_spec (ws := wsX6_findPairs) BB.pre
  have hown : ss.vm.findClass RX6 = some mm.cls := findClass_of_methodNamed BB.named
  have hlocks := BB.notSynchronized
  subst hsz
  have hD := hD0.self (sz := ss.heap.size)
  have hA : ∀ q : Nat, ss.heap.size ≤ q → va_A (w_X6_findPairs G ko ad w h la tp ft tr mv S mk vs pr) ss.heap.size q := fun q h => Or.inr h
  have hS : va_S (va_A (w_X6_findPairs G ko ad w h la tp ft tr mv S mk vs pr) ss.heap.size) ss.heap ss.heap [] := va_S.rf
  replace hD : va_D (va_A (w_X6_findPairs G ko ad w h la tp ft tr mv S mk vs pr) ss.heap.size) [oC ko 6 [.ref (ad 0), .ref (ad 1), .int (nI w), .int (nI h), .int (nI la), .ref (ad 2), .int (mv 0), .int (mv 1), .int (mv 2), .int (mv 3), .int (mv 4), .int (mv 5), .int (mv 6), .ref (ad 3), .int (nI tp), .int (mv 7), .int (mv 8), .int (mv 9), .int (mv 10), .int ft, .int (mv 11), .ref (ad 4), .ref (ad 5), .ref (ad 6), .ref (ad 7), .ref (ad 8), .ref (ad 9), .ref (ad 10), .int tr], iA G (ad 0) 255 S, iA G (ad 4) 16 mk, iA G (ad 6) 160 vs, iA G (ad 7) 46 pr] := hD
  replace hP : xP G [oC ko 6 [.ref (ad 0), .ref (ad 1), .int (nI w), .int (nI h), .int (nI la), .ref (ad 2), .int (mv 0), .int (mv 1), .int (mv 2), .int (mv 3), .int (mv 4), .int (mv 5), .int (mv 6), .ref (ad 3), .int (nI tp), .int (mv 7), .int (mv 8), .int (mv 9), .int (mv 10), .int ft, .int (mv 11), .ref (ad 4), .ref (ad 5), .ref (ad 6), .ref (ad 7), .ref (ad 8), .ref (ad 9), .ref (ad 10), .int tr], iA G (ad 0) 255 S, iA G (ad 4) 16 mk, iA G (ad 6) 160 vs, iA G (ad 7) 46 pr] ss.heap := hP
  have hin6 : ∀ w ∈ u_ws RX6 TX6 29, w ∈ wsX6_findPairs := fun w h => List.mem_cons_of_mem _ (List.mem_append_right _ h)
  have hl := lv_entry ([.ref ko]) (n := 4) (Nat.le_of_ble_eq_true rfl)
  rw [lg_entry_eq]
  generalize (lg_sl ([.ref ko]) ++ List.replicate (4 - (lg_sl ([.ref ko])).length) Slot.unset).toArray = ls at hl ⊢
  replace hl : lv_has ls 4 [(0, .ref ko)] := hl
  refine lv_iconst (v := nI 0) hx hb dX6_findPairs_0 (by decide) ?_
  refine lv_istore_n (lv' := [(1, .int (nI 0)), (0, .ref ko)]) hx hb dX6_findPairs_1 rfl hl (by decide) rfl (fun ls hl => ?_)
  refine lv_aload_n hx hb dX6_findPairs_2 rfl (lv_at hl 1 rfl) ?_
  refine xw_v (As := []) (rest := []) (wr := [iA G (ad 7) 46 pr]) ⟨hx, hb, hml, hown, hts⟩ (c_X6_findViews l G ss.heap.size ko ad w h la tp ft tr mv S mk nc vs (by first | assumption | omega) (by first | assumption | omega) (by first | assumption | omega) (by first | assumption | omega) (by first | assumption | omega) (by first | assumption | omega) (by first | assumption | omega) (by first | assumption | omega)) (cwV 0 hts gX6_findPairs_X6_findViews rfl rfl rfl (by decide +kernel) ⟨Nat.le_of_ble_eq_true rfl, Nat.le_of_ble_eq_true rfl⟩) hK hP hD hS hA [0, 1, 2, 3] [4] rfl rfl (by decide) (by decide) (by decide) rfl rfl rfl hl.1 rfl (Nat.le_of_ble_eq_true rfl) dX6_findPairs_3 ⟨Nat.le_of_ble_eq_true rfl, Nat.le_of_ble_eq_true rfl⟩ (fun u H locs hp3 hP hD hS => ?_)
  obtain ⟨mk2_3, vs2_3⟩ := u
  try dsimp only at hp3 hP hD
  have he3 := hp3
  replace hP : xP G [iA G (ad 7) 46 pr, oC ko 6 [.ref (ad 0), .ref (ad 1), .int (nI w), .int (nI h), .int (nI la), .ref (ad 2), .int (mv 0), .int (mv 1), .int (mv 2), .int (mv 3), .int (mv 4), .int (mv 5), .int (mv 6), .ref (ad 3), .int (nI tp), .int (mv 7), .int (mv 8), .int (mv 9), .int (mv 10), .int ft, .int (mv 11), .ref (ad 4), .ref (ad 5), .ref (ad 6), .ref (ad 7), .ref (ad 8), .ref (ad 9), .ref (ad 10), .int tr], iA G (ad 0) 255 S, iA G (ad 4) 16 mk2_3, iA G (ad 6) 160 vs2_3] H := hP
  replace hD : va_D (va_A (w_X6_findPairs G ko ad w h la tp ft tr mv S mk vs pr) ss.heap.size) [iA G (ad 7) 46 pr, oC ko 6 [.ref (ad 0), .ref (ad 1), .int (nI w), .int (nI h), .int (nI la), .ref (ad 2), .int (mv 0), .int (mv 1), .int (mv 2), .int (mv 3), .int (mv 4), .int (mv 5), .int (mv 6), .ref (ad 3), .int (nI tp), .int (mv 7), .int (mv 8), .int (mv 9), .int (mv 10), .int ft, .int (mv 11), .ref (ad 4), .ref (ad 5), .ref (ad 6), .ref (ad 7), .ref (ad 8), .ref (ad 9), .ref (ad 10), .int tr], iA G (ad 0) 255 S, iA G (ad 4) 16 mk2_3, iA G (ad 6) 160 vs2_3] := hD
  refine lv_iconst (v := nI 0) hx hb dX6_findPairs_6 (by decide) ?_
  refine lv_istore_n (lv' := [(2, .int (nI 0)), (1, .int (nI 0)), (0, .ref ko)]) hx hb dX6_findPairs_7 rfl hl (by decide) rfl (fun ls hl => ?_)
  have hL8 : ∀ k : Nat, ∀ (d : Nat) (n : Nat) (pr3 : Nat → Int32) (ls : Array Slot) (H : Heap) (locs : List Loc), la + 1 - d = k → (d ≤ la + 1) → (n ≤ trN d) → (∀ s, allF (fun i => !decide (pr3 i &&& s = 0)) n = allF (fun d => allF (fun e => pairM w h S nc d e s) d) d) → lv_has ls 4 [(0, .ref ko), (1, .int (nI n)), (2, .int (nI d))] → xP G [iA G (ad 0) 255 S, iA G (ad 4) 16 mk2_3, iA G (ad 6) 160 vs2_3, iA G (ad 7) 46 pr3, oC ko 6 [.ref (ad 0), .ref (ad 1), .int (nI w), .int (nI h), .int (nI la), .ref (ad 2), .int (mv 0), .int (mv 1), .int (mv 2), .int (mv 3), .int (mv 4), .int (mv 5), .int (mv 6), .ref (ad 3), .int (nI tp), .int (mv 7), .int (mv 8), .int (mv 9), .int (mv 10), .int ft, .int (mv 11), .ref (ad 4), .ref (ad 5), .ref (ad 6), .ref (ad 7), .ref (ad 8), .ref (ad 9), .ref (ad 10), .int tr]] H → va_D (va_A (w_X6_findPairs G ko ad w h la tp ft tr mv S mk vs pr) ss.heap.size) [iA G (ad 0) 255 S, iA G (ad 4) 16 mk2_3, iA G (ad 6) 160 vs2_3, iA G (ad 7) 46 pr3, oC ko 6 [.ref (ad 0), .ref (ad 1), .int (nI w), .int (nI h), .int (nI la), .ref (ad 2), .int (mv 0), .int (mv 1), .int (mv 2), .int (mv 3), .int (mv 4), .int (mv 5), .int (mv 6), .ref (ad 3), .int (nI tp), .int (mv 7), .int (mv 8), .int (mv 9), .int (mv 10), .int ft, .int (mv 11), .ref (ad 4), .ref (ad 5), .ref (ad 6), .ref (ad 7), .ref (ad 8), .ref (ad 9), .ref (ad 10), .int tr]] → va_S (va_A (w_X6_findPairs G ko ad w h la tp ft tr mv S mk vs pr) ss.heap.size) ss.heap H locs → W pp l ee ({ frames := 4, cells := 0, slots := 0, locals := 89 } : Room) ss mm ([.ref ko] : List Value).toArray below mt cd H locs 0 0 (MQ below (Q_X6_findPairs G ss.heap.size ko ad w h la tp ft tr mv S mk nc vs pr) ([.ref ko] : List Value).toArray ss 0 0 (va_A (w_X6_findPairs G ko ad w h la tp ft tr mv S mk vs pr) ss.heap.size)) (F0 mm 8 ls []) := by
    intro k
    induction k using Nat.strongRecOn with
    | _ k ih8 =>
    intro d n pr3 ls H locs hm8 hd hn hp hl hP hD hS
    have htl := trN_le (d := d) (by omega)
    refine lv_iload_n hx hb dX6_findPairs_8 rfl (lv_at hl 2 rfl) ?_
    refine lv_aload_n hx hb dX6_findPairs_9 rfl (lv_at hl 0 rfl) ?_
    refine va_get (D := G.1) (ci := 6) (v := .int (nI la)) (C := RX6) (T := TX6) (N := 29) hx hb hts hin6 hown hK.1 hP 4 rfl rfl 4 (by decide) (hts (.fieldLink RX6 78 "BackLensesModel" "last" "I") (List.mem_of_getElem? (i := 1) rfl)) (fun _ h9 => h9) rfl dX6_findPairs_10 ?_
    refine xn_icmp_gt (tgt := 67) hx hb (by omega) (by omega) dX6_findPairs_13 rfl (fun b13 => ?_) (fun b13 => ?_)
    · skip
      refine lv_iload_n hx hb dX6_findPairs_67 rfl (lv_at hl 1 rfl) ?_
      have hP := hP.sub (ws' := [oC ko 6 [.ref (ad 0), .ref (ad 1), .int (nI w), .int (nI h), .int (nI la), .ref (ad 2), .int (mv 0), .int (mv 1), .int (mv 2), .int (mv 3), .int (mv 4), .int (mv 5), .int (mv 6), .ref (ad 3), .int (nI tp), .int (mv 7), .int (mv 8), .int (mv 9), .int (mv 10), .int ft, .int (mv 11), .ref (ad 4), .ref (ad 5), .ref (ad 6), .ref (ad 7), .ref (ad 8), .ref (ad 9), .ref (ad 10), .int tr], iA G (ad 0) 255 S, iA G (ad 4) 16 mk2_3, iA G (ad 6) 160 vs2_3, iA G (ad 7) 46 pr3]) [4, 0, 1, 2, 3] rfl
      have hD := hD.sub (ws' := [oC ko 6 [.ref (ad 0), .ref (ad 1), .int (nI w), .int (nI h), .int (nI la), .ref (ad 2), .int (mv 0), .int (mv 1), .int (mv 2), .int (mv 3), .int (mv 4), .int (mv 5), .int (mv 6), .ref (ad 3), .int (nI tp), .int (mv 7), .int (mv 8), .int (mv 9), .int (mv 10), .int ft, .int (mv 11), .ref (ad 4), .ref (ad 5), .ref (ad 6), .ref (ad 7), .ref (ad 8), .ref (ad 9), .ref (ad 10), .int tr], iA G (ad 0) 255 S, iA G (ad 4) 16 mk2_3, iA G (ad 6) 160 vs2_3, iA G (ad 7) 46 pr3]) [4, 0, 1, 2, 3] (by decide) rfl
      refine W.iret (v := nI n) hx hb hr (fun t ht hW => ⟨⟨nI n, (n, mk2_3, vs2_3, pr3), rfl, ?_, by rw [ht]; exact hP, hD⟩, hS.F ht⟩) hS.2.2 dX6_findPairs_68
      try dsimp only
      refine ⟨rfl, by omega, fun s => ?_⟩; rw [hp s, show d = la + 1 by omega]; rfl
    · skip
      refine lv_iconst (v := nI 0) hx hb dX6_findPairs_16 (by decide) ?_
      refine lv_istore_n (lv' := [(3, .int (nI 0)), (0, .ref ko), (1, .int (nI n)), (2, .int (nI d))]) hx hb dX6_findPairs_17 rfl hl (by decide) rfl (fun ls hl => ?_)
      have hL18 : ∀ k : Nat, ∀ (e : Nat) (n4 : Nat) (pr4 : Nat → Int32) (ls : Array Slot) (H : Heap) (locs : List Loc), d - e = k → (e ≤ d) → (n4 ≤ trN d + e) → (∀ s, allF (fun i => !decide (pr4 i &&& s = 0)) n4 = (allF (fun d => allF (fun e => pairM w h S nc d e s) d) d && allF (fun e => pairM w h S nc d e s) e)) → lv_has ls 4 [(0, .ref ko), (1, .int (nI n4)), (2, .int (nI d)), (3, .int (nI e))] → xP G [iA G (ad 0) 255 S, iA G (ad 4) 16 mk2_3, iA G (ad 6) 160 vs2_3, iA G (ad 7) 46 pr4, oC ko 6 [.ref (ad 0), .ref (ad 1), .int (nI w), .int (nI h), .int (nI la), .ref (ad 2), .int (mv 0), .int (mv 1), .int (mv 2), .int (mv 3), .int (mv 4), .int (mv 5), .int (mv 6), .ref (ad 3), .int (nI tp), .int (mv 7), .int (mv 8), .int (mv 9), .int (mv 10), .int ft, .int (mv 11), .ref (ad 4), .ref (ad 5), .ref (ad 6), .ref (ad 7), .ref (ad 8), .ref (ad 9), .ref (ad 10), .int tr]] H → va_D (va_A (w_X6_findPairs G ko ad w h la tp ft tr mv S mk vs pr) ss.heap.size) [iA G (ad 0) 255 S, iA G (ad 4) 16 mk2_3, iA G (ad 6) 160 vs2_3, iA G (ad 7) 46 pr4, oC ko 6 [.ref (ad 0), .ref (ad 1), .int (nI w), .int (nI h), .int (nI la), .ref (ad 2), .int (mv 0), .int (mv 1), .int (mv 2), .int (mv 3), .int (mv 4), .int (mv 5), .int (mv 6), .ref (ad 3), .int (nI tp), .int (mv 7), .int (mv 8), .int (mv 9), .int (mv 10), .int ft, .int (mv 11), .ref (ad 4), .ref (ad 5), .ref (ad 6), .ref (ad 7), .ref (ad 8), .ref (ad 9), .ref (ad 10), .int tr]] → va_S (va_A (w_X6_findPairs G ko ad w h la tp ft tr mv S mk vs pr) ss.heap.size) ss.heap H locs → W pp l ee ({ frames := 4, cells := 0, slots := 0, locals := 89 } : Room) ss mm ([.ref ko] : List Value).toArray below mt cd H locs 0 0 (MQ below (Q_X6_findPairs G ss.heap.size ko ad w h la tp ft tr mv S mk nc vs pr) ([.ref ko] : List Value).toArray ss 0 0 (va_A (w_X6_findPairs G ko ad w h la tp ft tr mv S mk vs pr) ss.heap.size)) (F0 mm 18 ls []) := by
        intro k
        induction k using Nat.strongRecOn with
        | _ k ih18 =>
        intro e n4 pr4 ls H locs hm18 hei hn4 hp4 hl hP hD hS
        refine lv_iload_n hx hb dX6_findPairs_18 rfl (lv_at hl 3 rfl) ?_
        refine lv_iload_n hx hb dX6_findPairs_19 rfl (lv_at hl 2 rfl) ?_
        refine xn_icmp_ge (tgt := 61) hx hb (by omega) (by omega) dX6_findPairs_20 rfl (fun b20 => ?_) (fun b20 => ?_)
        · skip
          refine lv_iinc (k := 2) (v := nI (d + 1)) (lv' := [(2, .int (nI (d + 1))), (0, .ref ko), (1, .int (nI n4)), (3, .int (nI e))]) hx hb dX6_findPairs_61 hl rfl (xn_inc d 1) (by decide) rfl (fun ls hl => ?_)
          refine lv_goto (tgt := 8) hx hb dX6_findPairs_64 rfl ?_
          have hl := lv_sub hl (l' := [(0, .ref ko), (1, .int (nI n4)), (2, .int (nI (d + 1)))]) [1, 2, 0] rfl
          exact ih8 (la + 1 - (d + 1)) (by omega) (d + 1) n4 pr4 ls H locs rfl (by omega) (by rw [trN]; omega) (by intro s; rw [allF.eq_2 _ d, hp4 s, show e = d by omega]) hl hP hD hS
        · skip
          have htri := trN_lt (d := d) (e := e) (by omega) (by omega)
          refine lv_aload_n hx hb dX6_findPairs_23 rfl (lv_at hl 0 rfl) ?_
          refine va_get (D := G.1) (ci := 6) (v := .ref (ad 7)) (C := RX6) (T := TX6) (N := 29) hx hb hts hin6 hown hK.1 hP 4 rfl rfl 24 (by decide) (hts (.fieldLink RX6 32 "BackLensesModel" "pairs" "[I") (List.mem_of_getElem? (i := 2) rfl)) (fun _ h9 => h9) rfl dX6_findPairs_24 ?_
          refine lv_iload_n hx hb dX6_findPairs_27 rfl (lv_at hl 1 rfl) ?_
          refine lv_aload_n hx hb dX6_findPairs_28 rfl (lv_at hl 0 rfl) ?_
          refine lv_iload_n hx hb dX6_findPairs_29 rfl (lv_at hl 2 rfl) ?_
          refine lv_iload_n hx hb dX6_findPairs_30 rfl (lv_at hl 3 rfl) ?_
          refine xr_i (As := [.int (nI d), .int (nI e)]) (rest := [.int (nI n4), .ref (ad 7)]) ⟨hx, hb, hml, hown, hts⟩ (c_X6_apartOf l G ko ad w h la tp ft tr mv S vs2_3 nc d e (by first | assumption | omega) (by first | assumption | omega) (by first | assumption | omega) (by first | assumption | omega) (by first | assumption | omega) (by first | assumption | omega) (by first | assumption | omega) (by first | assumption | omega) (by first | assumption | omega) (by first | assumption | omega) (by first | assumption | omega)) (cwV 2 hts gX6_findPairs_X6_apartOf rfl rfl rfl (by decide +kernel) ⟨Nat.le_of_ble_eq_true rfl, Nat.le_of_ble_eq_true rfl⟩) hK hP hS [4, 0, 2] rfl rfl rfl rfl hl.1 rfl (Nat.le_of_ble_eq_true rfl) dX6_findPairs_31 ⟨Nat.zero_le _, Nat.zero_le _⟩ (fun r31 H locs hp31 hP hS => ?_)
          rw [show r31 = _ from hp31]
          refine xn_iast hx hb hK hP hD hS 3 rfl (by omega) (by omega) dX6_findPairs_34 (fun H locs hP hD hS => ?_)
          replace hP : xP G [iA G (ad 0) 255 S, iA G (ad 4) 16 mk2_3, iA G (ad 6) 160 vs2_3, iA G (ad 7) 46 (upd pr4 n4 (apM w h S nc d e)), oC ko 6 [.ref (ad 0), .ref (ad 1), .int (nI w), .int (nI h), .int (nI la), .ref (ad 2), .int (mv 0), .int (mv 1), .int (mv 2), .int (mv 3), .int (mv 4), .int (mv 5), .int (mv 6), .ref (ad 3), .int (nI tp), .int (mv 7), .int (mv 8), .int (mv 9), .int (mv 10), .int ft, .int (mv 11), .ref (ad 4), .ref (ad 5), .ref (ad 6), .ref (ad 7), .ref (ad 8), .ref (ad 9), .ref (ad 10), .int tr]] H := hP
          replace hD : va_D (va_A (w_X6_findPairs G ko ad w h la tp ft tr mv S mk vs pr) ss.heap.size) [iA G (ad 0) 255 S, iA G (ad 4) 16 mk2_3, iA G (ad 6) 160 vs2_3, iA G (ad 7) 46 (upd pr4 n4 (apM w h S nc d e)), oC ko 6 [.ref (ad 0), .ref (ad 1), .int (nI w), .int (nI h), .int (nI la), .ref (ad 2), .int (mv 0), .int (mv 1), .int (mv 2), .int (mv 3), .int (mv 4), .int (mv 5), .int (mv 6), .ref (ad 3), .int (nI tp), .int (mv 7), .int (mv 8), .int (mv 9), .int (mv 10), .int ft, .int (mv 11), .ref (ad 4), .ref (ad 5), .ref (ad 6), .ref (ad 7), .ref (ad 8), .ref (ad 9), .ref (ad 10), .int tr]] := hD
          refine lv_iload_n hx hb dX6_findPairs_35 rfl (lv_at hl 1 rfl) ?_
          refine lv_aload_n hx hb dX6_findPairs_36 rfl (lv_at hl 0 rfl) ?_
          refine va_get (D := G.1) (ci := 6) (v := .ref (ad 7)) (C := RX6) (T := TX6) (N := 29) hx hb hts hin6 hown hK.1 hP 4 rfl rfl 24 (by decide) (hts (.fieldLink RX6 32 "BackLensesModel" "pairs" "[I") (List.mem_of_getElem? (i := 2) rfl)) (fun _ h9 => h9) rfl dX6_findPairs_37 ?_
          refine lv_iload_n hx hb dX6_findPairs_40 rfl (lv_at hl 1 rfl) ?_
          refine xn_iald hx hb hK hP 3 rfl (by omega) (by omega) dX6_findPairs_41 ?_
          refine xn_top upd_eq ?_
          refine lv_if_eq (tgt := 49) hx hb dX6_findPairs_42 rfl (fun b42 => ?_) (fun b42 => ?_)
          · skip
            refine lv_iconst (v := nI 0) hx hb dX6_findPairs_49 (by decide) ?_
            refine xs_i (As := [.int (nI 0)]) (rest := [.int (nI n4)]) ⟨hx, hb, hml, hown, hts⟩ (c_X6_flag_0 l G) (va_cwS 1 hts gX6_findPairs_X6_flag rfl rfl rfl (by decide +kernel) ⟨Nat.le_of_ble_eq_true rfl, Nat.le_of_ble_eq_true rfl⟩) hP hS rfl hl.1 rfl (Nat.le_of_ble_eq_true rfl) dX6_findPairs_50 ⟨Nat.zero_le _, Nat.zero_le _⟩ (fun r50 H locs hp50 hP hS => ?_)
            rw [show r50 = _ from hp50]
            refine xn_iadd hx hb dX6_findPairs_53 ?_
            refine lv_istore_n (lv' := [(1, .int (nI (n4 + 0))), (0, .ref ko), (2, .int (nI d)), (3, .int (nI e))]) hx hb dX6_findPairs_54 rfl hl (by decide) rfl (fun ls hl => ?_)
            refine lv_iinc (k := 3) (v := nI (e + 1)) (lv' := [(3, .int (nI (e + 1))), (1, .int (nI (n4 + 0))), (0, .ref ko), (2, .int (nI d))]) hx hb dX6_findPairs_55 hl rfl (xn_inc e 1) (by decide) rfl (fun ls hl => ?_)
            refine lv_goto (tgt := 18) hx hb dX6_findPairs_58 rfl ?_
            have hl := lv_sub hl (l' := [(0, .ref ko), (1, .int (nI (n4 + 0))), (2, .int (nI d)), (3, .int (nI (e + 1)))]) [2, 1, 3, 0] rfl
            exact ih18 (d - (e + 1)) (by omega) (e + 1) (n4 + 0) (upd pr4 n4 (apM w h S nc d e)) ls H locs rfl (by omega) (by omega) (by first | exact pm_skip b42 hp4 | exact pm_add b42 hp4) hl hP hD hS
          · skip
            refine lv_iconst (v := nI 1) hx hb dX6_findPairs_45 (by decide) ?_
            refine lv_goto (tgt := 50) hx hb dX6_findPairs_46 rfl ?_
            refine xs_i (As := [.int (nI 1)]) (rest := [.int (nI n4)]) ⟨hx, hb, hml, hown, hts⟩ (c_X6_flag_1 l G) (va_cwS 1 hts gX6_findPairs_X6_flag rfl rfl rfl (by decide +kernel) ⟨Nat.le_of_ble_eq_true rfl, Nat.le_of_ble_eq_true rfl⟩) hP hS rfl hl.1 rfl (Nat.le_of_ble_eq_true rfl) dX6_findPairs_50 ⟨Nat.zero_le _, Nat.zero_le _⟩ (fun r50 H locs hp50 hP hS => ?_)
            rw [show r50 = _ from hp50]
            refine xn_iadd hx hb dX6_findPairs_53 ?_
            refine lv_istore_n (lv' := [(1, .int (nI (n4 + 1))), (0, .ref ko), (2, .int (nI d)), (3, .int (nI e))]) hx hb dX6_findPairs_54 rfl hl (by decide) rfl (fun ls hl => ?_)
            refine lv_iinc (k := 3) (v := nI (e + 1)) (lv' := [(3, .int (nI (e + 1))), (1, .int (nI (n4 + 1))), (0, .ref ko), (2, .int (nI d))]) hx hb dX6_findPairs_55 hl rfl (xn_inc e 1) (by decide) rfl (fun ls hl => ?_)
            refine lv_goto (tgt := 18) hx hb dX6_findPairs_58 rfl ?_
            have hl := lv_sub hl (l' := [(0, .ref ko), (1, .int (nI (n4 + 1))), (2, .int (nI d)), (3, .int (nI (e + 1)))]) [2, 1, 3, 0] rfl
            exact ih18 (d - (e + 1)) (by omega) (e + 1) (n4 + 1) (upd pr4 n4 (apM w h S nc d e)) ls H locs rfl (by omega) (by omega) (by first | exact pm_skip b42 hp4 | exact pm_add b42 hp4) hl hP hD hS
      have hl := lv_sub hl (l' := [(0, .ref ko), (1, .int (nI n)), (2, .int (nI d)), (3, .int (nI 0))]) [1, 2, 3, 0] rfl
      exact hL18 (d - 0) 0 n pr3 ls H locs rfl (by omega) (by omega) (by intro s; rw [hp s]; exact (Bool.and_true _).symm) hl hP hD hS
  have hl := lv_sub hl (l' := [(0, .ref ko), (1, .int (nI 0)), (2, .int (nI 0))]) [2, 1, 0] rfl
  have hP := hP.sub (ws' := [iA G (ad 0) 255 S, iA G (ad 4) 16 mk2_3, iA G (ad 6) 160 vs2_3, iA G (ad 7) 46 pr, oC ko 6 [.ref (ad 0), .ref (ad 1), .int (nI w), .int (nI h), .int (nI la), .ref (ad 2), .int (mv 0), .int (mv 1), .int (mv 2), .int (mv 3), .int (mv 4), .int (mv 5), .int (mv 6), .ref (ad 3), .int (nI tp), .int (mv 7), .int (mv 8), .int (mv 9), .int (mv 10), .int ft, .int (mv 11), .ref (ad 4), .ref (ad 5), .ref (ad 6), .ref (ad 7), .ref (ad 8), .ref (ad 9), .ref (ad 10), .int tr]]) [2, 3, 4, 0, 1] rfl
  have hD := hD.sub (ws' := [iA G (ad 0) 255 S, iA G (ad 4) 16 mk2_3, iA G (ad 6) 160 vs2_3, iA G (ad 7) 46 pr, oC ko 6 [.ref (ad 0), .ref (ad 1), .int (nI w), .int (nI h), .int (nI la), .ref (ad 2), .int (mv 0), .int (mv 1), .int (mv 2), .int (mv 3), .int (mv 4), .int (mv 5), .int (mv 6), .ref (ad 3), .int (nI tp), .int (mv 7), .int (mv 8), .int (mv 9), .int (mv 10), .int ft, .int (mv 11), .ref (ad 4), .ref (ad 5), .ref (ad 6), .ref (ad 7), .ref (ad 8), .ref (ad 9), .ref (ad 10), .int tr]]) [2, 3, 4, 0, 1] (by decide) rfl
  exact hL8 (la + 1 - 0) 0 0 pr ls H locs rfl (by omega) (by exact Nat.le_refl _) (by intro s; rfl) hl hP hD hS

abbrev w_X6_places (G : XG) (ko : Nat) (ad : Nat → Nat) (w h la tp : Nat) (ft tr : Int32) (mv : Nat → Int32) (S mk : Nat → Int32) (vs pr : Nat → Int32) : va_W := [oC ko 6 [.ref (ad 0), .ref (ad 1), .int (nI w), .int (nI h), .int (nI la), .ref (ad 2), .int (mv 0), .int (mv 1), .int (mv 2), .int (mv 3), .int (mv 4), .int (mv 5), .int (mv 6), .ref (ad 3), .int (nI tp), .int (mv 7), .int (mv 8), .int (mv 9), .int (mv 10), .int ft, .int (mv 11), .ref (ad 4), .ref (ad 5), .ref (ad 6), .ref (ad 7), .ref (ad 8), .ref (ad 9), .ref (ad 10), .int tr], iA G (ad 0) 255 S, iA G (ad 4) 16 mk, iA G (ad 6) 160 vs, iA G (ad 7) 46 pr]
abbrev Q_X6_places (G : XG) (sz : Nat) (ko : Nat) (ad : Nat → Nat) (w h la tp : Nat) (ft tr : Int32) (mv : Nat → Int32) (S mk : Nat → Int32) (nc : Nat) (vs pr : Nat → Int32) (a : Int32) : Array Value → State → Outcome → State → Prop := (va_Qi (fun (r : Int32) (u : (Nat → Int32) × (Nat → Int32) × (Nat → Int32)) => r = (if inR a 2 then (if a = 0 then (swF (plM w h la S nc) (2 ^ (w * h))).1 else (swF (plM w h la S nc) (2 ^ (w * h))).2) else (-1))) (xWb G sz (w_X6_places G ko ad w h la tp ft tr mv S mk vs pr) (fun u : (Nat → Int32) × (Nat → Int32) × (Nat → Int32) => [oC ko 6 [.ref (ad 0), .ref (ad 1), .int (nI w), .int (nI h), .int (nI la), .ref (ad 2), .int (mv 0), .int (mv 1), .int (mv 2), .int (mv 3), .int (mv 4), .int (mv 5), .int (mv 6), .ref (ad 3), .int (nI tp), .int (mv 7), .int (mv 8), .int (mv 9), .int (mv 10), .int ft, .int (mv 11), .ref (ad 4), .ref (ad 5), .ref (ad 6), .ref (ad 7), .ref (ad 8), .ref (ad 9), .ref (ad 10), .int tr], iA G (ad 0) 255 S, iA G (ad 4) 16 u.1, iA G (ad 6) 160 u.2.1, iA G (ad 7) 46 u.2.2])) (va_A (w_X6_places G ko ad w h la tp ft tr mv S mk vs pr) sz))
set_option maxHeartbeats 4000000 in
set_option maxRecDepth 100000 in
theorem c_X6_places (l : Launch) (G : XG) (sz : Nat) (ko : Nat) (ad : Nat → Nat) (w h la tp : Nat) (ft tr : Int32) (mv : Nat → Int32) (S mk : Nat → Int32) (nc : Nat) (vs pr : Nat → Int32) (a : Int32) (hw : 1 ≤ w) (hwb : w ≤ 16) (hhb : h ≤ 16) (hwh1 : 1 ≤ w * h) (hwh : w * h ≤ 16) (hla : la ≤ 9) (hs16 : S 16 = nI nc) (hnc : nc ≤ 10) : Met l yX6_places wsX6_places ({ frames := 5, cells := 0, slots := 0, locals := 112 } : Room) (va_Pc [.ref ko, .int a] (xWp G sz (w_X6_places G ko ad w h la tp ft tr mv S mk vs pr))) (Q_X6_places G sz ko ad w h la tp ft tr mv S mk nc vs pr a) 0 0 (va_A (w_X6_places G ko ad w h la tp ft tr mv S mk vs pr) sz) := by
  refine Met.ofW (cc := cX6_places) (maxL := 9) (ret := (some .int)) (by decide) rfl ?_
  intro pp ee ss mm aa below mt cd s₁ BB hml hv
  obtain ⟨rfl, hsz, hP, hK, hD0⟩ := hv
  have hx := BB.exec
  have hb := BB.bytes
  have hr := BB.returns
  have hts := atoms_spec (ws := wsX6_places) BB.pre
  have hown : ss.vm.findClass RX6 = some mm.cls := findClass_of_methodNamed BB.named
  have hlocks := BB.notSynchronized
  subst hsz
  have hD := hD0.self (sz := ss.heap.size)
  have hA : ∀ q : Nat, ss.heap.size ≤ q → va_A (w_X6_places G ko ad w h la tp ft tr mv S mk vs pr) ss.heap.size q := fun q h => Or.inr h
  have hS : va_S (va_A (w_X6_places G ko ad w h la tp ft tr mv S mk vs pr) ss.heap.size) ss.heap ss.heap [] := va_S.rf
  replace hD : va_D (va_A (w_X6_places G ko ad w h la tp ft tr mv S mk vs pr) ss.heap.size) [oC ko 6 [.ref (ad 0), .ref (ad 1), .int (nI w), .int (nI h), .int (nI la), .ref (ad 2), .int (mv 0), .int (mv 1), .int (mv 2), .int (mv 3), .int (mv 4), .int (mv 5), .int (mv 6), .ref (ad 3), .int (nI tp), .int (mv 7), .int (mv 8), .int (mv 9), .int (mv 10), .int ft, .int (mv 11), .ref (ad 4), .ref (ad 5), .ref (ad 6), .ref (ad 7), .ref (ad 8), .ref (ad 9), .ref (ad 10), .int tr], iA G (ad 0) 255 S, iA G (ad 4) 16 mk, iA G (ad 6) 160 vs, iA G (ad 7) 46 pr] := hD
  replace hP : xP G [oC ko 6 [.ref (ad 0), .ref (ad 1), .int (nI w), .int (nI h), .int (nI la), .ref (ad 2), .int (mv 0), .int (mv 1), .int (mv 2), .int (mv 3), .int (mv 4), .int (mv 5), .int (mv 6), .ref (ad 3), .int (nI tp), .int (mv 7), .int (mv 8), .int (mv 9), .int (mv 10), .int ft, .int (mv 11), .ref (ad 4), .ref (ad 5), .ref (ad 6), .ref (ad 7), .ref (ad 8), .ref (ad 9), .ref (ad 10), .int tr], iA G (ad 0) 255 S, iA G (ad 4) 16 mk, iA G (ad 6) 160 vs, iA G (ad 7) 46 pr] ss.heap := hP
  have hin6 : ∀ w ∈ u_ws RX6 TX6 29, w ∈ wsX6_places := fun w h => List.mem_cons_of_mem _ (List.mem_append_right _ h)
  have hl := lv_entry ([.ref ko, .int a]) (n := 9) (Nat.le_of_ble_eq_true rfl)
  rw [lg_entry_eq]
  generalize (lg_sl ([.ref ko, .int a]) ++ List.replicate (9 - (lg_sl ([.ref ko, .int a])).length) Slot.unset).toArray = ls at hl ⊢
  replace hl : lv_has ls 9 [(0, .ref ko), (1, .int a)] := hl
  refine lv_iload_n hx hb dX6_places_0 rfl (lv_at hl 1 rfl) ?_
  refine xs_i (As := [.int a]) (rest := []) ⟨hx, hb, hml, hown, hts⟩ (c_X6_isPart l G a ) (va_cwS 1 hts gX6_places_X6_isPart rfl rfl rfl (by decide +kernel) ⟨Nat.le_of_ble_eq_true rfl, Nat.le_of_ble_eq_true rfl⟩) hP hS rfl hl.1 rfl (Nat.le_of_ble_eq_true rfl) dX6_places_1 ⟨Nat.zero_le _, Nat.zero_le _⟩ (fun r1 H locs hp1 hP hS => ?_)
  rw [show r1 = _ from hp1]
  refine xb_if_ne (tgt := 9) hx hb dX6_places_4 rfl (fun b4 => ?_) (fun b4 => ?_)
  · skip
    obtain ⟨hp1, hp2, hp3⟩ := xs_pow hwh
    refine lv_aload_n hx hb dX6_places_9 rfl (lv_at hl 0 rfl) ?_
    refine xw_i (As := []) (rest := []) (wr := []) ⟨hx, hb, hml, hown, hts⟩ (c_X6_findPairs l G H.size ko ad w h la tp ft tr mv S mk nc vs pr (by first | assumption | omega) (by first | assumption | omega) (by first | assumption | omega) (by first | assumption | omega) (by first | assumption | omega) (by first | assumption | omega) (by first | assumption | omega) (by first | assumption | omega)) (cwV 0 hts gX6_places_X6_findPairs rfl rfl rfl (by decide +kernel) ⟨Nat.le_of_ble_eq_true rfl, Nat.le_of_ble_eq_true rfl⟩) hK hP hD hS hA [0, 1, 2, 3, 4] [] rfl rfl (by decide) (by decide) (by decide) rfl rfl rfl hl.1 rfl (Nat.le_of_ble_eq_true rfl) dX6_places_10 ⟨Nat.le_of_ble_eq_true rfl, Nat.le_of_ble_eq_true rfl⟩ (fun r10 u H locs hp10 hP hD hS => ?_)
    obtain ⟨nn_10, mk2_10, vs2_10, pr2_10⟩ := u
    try dsimp only at hp10 hP hD
    obtain ⟨rfl, he10⟩ := hp10
    replace hP : xP G [oC ko 6 [.ref (ad 0), .ref (ad 1), .int (nI w), .int (nI h), .int (nI la), .ref (ad 2), .int (mv 0), .int (mv 1), .int (mv 2), .int (mv 3), .int (mv 4), .int (mv 5), .int (mv 6), .ref (ad 3), .int (nI tp), .int (mv 7), .int (mv 8), .int (mv 9), .int (mv 10), .int ft, .int (mv 11), .ref (ad 4), .ref (ad 5), .ref (ad 6), .ref (ad 7), .ref (ad 8), .ref (ad 9), .ref (ad 10), .int tr], iA G (ad 0) 255 S, iA G (ad 4) 16 mk2_10, iA G (ad 6) 160 vs2_10, iA G (ad 7) 46 pr2_10] H := hP
    replace hD : va_D (va_A (w_X6_places G ko ad w h la tp ft tr mv S mk vs pr) ss.heap.size) [oC ko 6 [.ref (ad 0), .ref (ad 1), .int (nI w), .int (nI h), .int (nI la), .ref (ad 2), .int (mv 0), .int (mv 1), .int (mv 2), .int (mv 3), .int (mv 4), .int (mv 5), .int (mv 6), .ref (ad 3), .int (nI tp), .int (mv 7), .int (mv 8), .int (mv 9), .int (mv 10), .int ft, .int (mv 11), .ref (ad 4), .ref (ad 5), .ref (ad 6), .ref (ad 7), .ref (ad 8), .ref (ad 9), .ref (ad 10), .int tr], iA G (ad 0) 255 S, iA G (ad 4) 16 mk2_10, iA G (ad 6) 160 vs2_10, iA G (ad 7) 46 pr2_10] := hD
    refine lv_istore_n (lv' := [(2, .int (nI nn_10)), (0, .ref ko), (1, .int a)]) hx hb dX6_places_13 rfl hl (by decide) rfl (fun ls hl => ?_)
    refine lv_ldc (v := nI 1000000) hx hb hown (hts (.constant RX6 246 (nI 1000000)) (List.mem_of_getElem? (i := 1) rfl)) dX6_places_14 ?_
    refine lv_istore_n (lv' := [(3, .int (nI 1000000)), (2, .int (nI nn_10)), (0, .ref ko), (1, .int a)]) hx hb dX6_places_16 rfl hl (by decide) rfl (fun ls hl => ?_)
    refine lv_iconst (v := nI 0) hx hb dX6_places_17 (by decide) ?_
    refine lv_istore (lv' := [(4, .int (nI 0)), (3, .int (nI 1000000)), (2, .int (nI nn_10)), (0, .ref ko), (1, .int a)]) hx hb dX6_places_18 hl (by decide) rfl (fun ls hl => ?_)
    refine lv_iconst (v := nI 0) hx hb dX6_places_20 (by decide) ?_
    refine lv_istore (lv' := [(5, .int (nI 0)), (4, .int (nI 0)), (3, .int (nI 1000000)), (2, .int (nI nn_10)), (0, .ref ko), (1, .int a)]) hx hb dX6_places_21 hl (by decide) rfl (fun ls hl => ?_)
    have hL23 : ∀ k : Nat, ∀ (s : Nat) (fw : Int32) (fo : Int32) (ls : Array Slot) (H : Heap) (locs : List Loc), 2 ^ (w * h) - s = k → (s ≤ 2 ^ (w * h)) → ((fw, fo) = swF (fun s => allF (fun i => !decide (pr2_10 i &&& s = 0)) nn_10) s) → lv_has ls 9 [(0, .ref ko), (1, .int a), (2, .int (nI nn_10)), (3, .int fw), (4, .int fo), (5, .int (nI s))] → xP G [iA G (ad 0) 255 S, iA G (ad 4) 16 mk2_10, iA G (ad 6) 160 vs2_10, iA G (ad 7) 46 pr2_10, oC ko 6 [.ref (ad 0), .ref (ad 1), .int (nI w), .int (nI h), .int (nI la), .ref (ad 2), .int (mv 0), .int (mv 1), .int (mv 2), .int (mv 3), .int (mv 4), .int (mv 5), .int (mv 6), .ref (ad 3), .int (nI tp), .int (mv 7), .int (mv 8), .int (mv 9), .int (mv 10), .int ft, .int (mv 11), .ref (ad 4), .ref (ad 5), .ref (ad 6), .ref (ad 7), .ref (ad 8), .ref (ad 9), .ref (ad 10), .int tr]] H → va_D (va_A (w_X6_places G ko ad w h la tp ft tr mv S mk vs pr) ss.heap.size) [iA G (ad 0) 255 S, iA G (ad 4) 16 mk2_10, iA G (ad 6) 160 vs2_10, iA G (ad 7) 46 pr2_10, oC ko 6 [.ref (ad 0), .ref (ad 1), .int (nI w), .int (nI h), .int (nI la), .ref (ad 2), .int (mv 0), .int (mv 1), .int (mv 2), .int (mv 3), .int (mv 4), .int (mv 5), .int (mv 6), .ref (ad 3), .int (nI tp), .int (mv 7), .int (mv 8), .int (mv 9), .int (mv 10), .int ft, .int (mv 11), .ref (ad 4), .ref (ad 5), .ref (ad 6), .ref (ad 7), .ref (ad 8), .ref (ad 9), .ref (ad 10), .int tr]] → va_S (va_A (w_X6_places G ko ad w h la tp ft tr mv S mk vs pr) ss.heap.size) ss.heap H locs → W pp l ee ({ frames := 5, cells := 0, slots := 0, locals := 112 } : Room) ss mm ([.ref ko, .int a] : List Value).toArray below mt cd H locs 0 0 (MQ below (Q_X6_places G ss.heap.size ko ad w h la tp ft tr mv S mk nc vs pr a) ([.ref ko, .int a] : List Value).toArray ss 0 0 (va_A (w_X6_places G ko ad w h la tp ft tr mv S mk vs pr) ss.heap.size)) (F0 mm 23 ls []) := by
      intro k
      induction k using Nat.strongRecOn with
      | _ k ih23 =>
      intro s fw fo ls H locs hm23 hsi hsw hl hP hD hS
      refine lv_iload hx hb dX6_places_23 (lv_at hl 5 rfl) ?_
      refine lv_iconst (v := nI 1) hx hb dX6_places_25 (by decide) ?_
      refine lv_aload_n hx hb dX6_places_26 rfl (lv_at hl 0 rfl) ?_
      refine xr_i (As := []) (rest := [.int (nI 1), .int (nI s)]) ⟨hx, hb, hml, hown, hts⟩ (c_X6_cellsNow l G ko ad w h la tp ft tr mv ) (cwV 0 hts gX6_places_X6_cellsNow rfl rfl rfl (by decide +kernel) ⟨Nat.le_of_ble_eq_true rfl, Nat.le_of_ble_eq_true rfl⟩) hK hP hS [4] rfl rfl rfl rfl hl.1 rfl (Nat.le_of_ble_eq_true rfl) dX6_places_27 ⟨Nat.zero_le _, Nat.zero_le _⟩ (fun r27 H locs hp27 hP hS => ?_)
      rw [show r27 = _ from hp27]
      refine lv_ishl hx hb dX6_places_30 ?_
      refine xn_top hp1 ?_
      refine xn_icmp_ge (tgt := 126) hx hb (by omega) (by omega) dX6_places_31 rfl (fun b31 => ?_) (fun b31 => ?_)
      · skip
        refine lv_iload_n hx hb dX6_places_126 rfl (lv_at hl 1 rfl) ?_
        refine lv_if_ne (tgt := 134) hx hb dX6_places_127 rfl (fun b127 => ?_) (fun b127 => ?_)
        · skip
          refine lv_iload hx hb dX6_places_134 (lv_at hl 4 rfl) ?_
          have hP := hP.sub (ws' := [oC ko 6 [.ref (ad 0), .ref (ad 1), .int (nI w), .int (nI h), .int (nI la), .ref (ad 2), .int (mv 0), .int (mv 1), .int (mv 2), .int (mv 3), .int (mv 4), .int (mv 5), .int (mv 6), .ref (ad 3), .int (nI tp), .int (mv 7), .int (mv 8), .int (mv 9), .int (mv 10), .int ft, .int (mv 11), .ref (ad 4), .ref (ad 5), .ref (ad 6), .ref (ad 7), .ref (ad 8), .ref (ad 9), .ref (ad 10), .int tr], iA G (ad 0) 255 S, iA G (ad 4) 16 mk2_10, iA G (ad 6) 160 vs2_10, iA G (ad 7) 46 pr2_10]) [4, 0, 1, 2, 3] rfl
          have hD := hD.sub (ws' := [oC ko 6 [.ref (ad 0), .ref (ad 1), .int (nI w), .int (nI h), .int (nI la), .ref (ad 2), .int (mv 0), .int (mv 1), .int (mv 2), .int (mv 3), .int (mv 4), .int (mv 5), .int (mv 6), .ref (ad 3), .int (nI tp), .int (mv 7), .int (mv 8), .int (mv 9), .int (mv 10), .int ft, .int (mv 11), .ref (ad 4), .ref (ad 5), .ref (ad 6), .ref (ad 7), .ref (ad 8), .ref (ad 9), .ref (ad 10), .int tr], iA G (ad 0) 255 S, iA G (ad 4) 16 mk2_10, iA G (ad 6) 160 vs2_10, iA G (ad 7) 46 pr2_10]) [4, 0, 1, 2, 3] (by decide) rfl
          refine W.iret (v := fo) hx hb hr (fun t ht hW => ⟨⟨fo, (mk2_10, vs2_10, pr2_10), rfl, ?_, by rw [ht]; exact hP, hD⟩, hS.F ht⟩) hS.2.2 dX6_places_136
          try dsimp only
          first | exact (if_neg b4).symm | (have hsc := swF_congr (2 ^ (w * h)) (P := (fun s => allF (fun i => !decide (pr2_10 i &&& s = 0)) nn_10)) (P' := plM w h la S nc) he10.2; rw [if_pos b4, ← hsc, show swF (fun s => allF (fun i => !decide (pr2_10 i &&& s = 0)) nn_10) (2 ^ (w * h)) = (fw, fo) from (by rw [hsw, show s = 2 ^ (w * h) by omega])]; first | exact (if_pos b127).symm | exact (if_neg b127).symm)
        · skip
          refine lv_iload_n hx hb dX6_places_130 rfl (lv_at hl 3 rfl) ?_
          refine lv_goto (tgt := 136) hx hb dX6_places_131 rfl ?_
          have hP := hP.sub (ws' := [oC ko 6 [.ref (ad 0), .ref (ad 1), .int (nI w), .int (nI h), .int (nI la), .ref (ad 2), .int (mv 0), .int (mv 1), .int (mv 2), .int (mv 3), .int (mv 4), .int (mv 5), .int (mv 6), .ref (ad 3), .int (nI tp), .int (mv 7), .int (mv 8), .int (mv 9), .int (mv 10), .int ft, .int (mv 11), .ref (ad 4), .ref (ad 5), .ref (ad 6), .ref (ad 7), .ref (ad 8), .ref (ad 9), .ref (ad 10), .int tr], iA G (ad 0) 255 S, iA G (ad 4) 16 mk2_10, iA G (ad 6) 160 vs2_10, iA G (ad 7) 46 pr2_10]) [4, 0, 1, 2, 3] rfl
          have hD := hD.sub (ws' := [oC ko 6 [.ref (ad 0), .ref (ad 1), .int (nI w), .int (nI h), .int (nI la), .ref (ad 2), .int (mv 0), .int (mv 1), .int (mv 2), .int (mv 3), .int (mv 4), .int (mv 5), .int (mv 6), .ref (ad 3), .int (nI tp), .int (mv 7), .int (mv 8), .int (mv 9), .int (mv 10), .int ft, .int (mv 11), .ref (ad 4), .ref (ad 5), .ref (ad 6), .ref (ad 7), .ref (ad 8), .ref (ad 9), .ref (ad 10), .int tr], iA G (ad 0) 255 S, iA G (ad 4) 16 mk2_10, iA G (ad 6) 160 vs2_10, iA G (ad 7) 46 pr2_10]) [4, 0, 1, 2, 3] (by decide) rfl
          refine W.iret (v := fw) hx hb hr (fun t ht hW => ⟨⟨fw, (mk2_10, vs2_10, pr2_10), rfl, ?_, by rw [ht]; exact hP, hD⟩, hS.F ht⟩) hS.2.2 dX6_places_136
          try dsimp only
          first | exact (if_neg b4).symm | (have hsc := swF_congr (2 ^ (w * h)) (P := (fun s => allF (fun i => !decide (pr2_10 i &&& s = 0)) nn_10)) (P' := plM w h la S nc) he10.2; rw [if_pos b4, ← hsc, show swF (fun s => allF (fun i => !decide (pr2_10 i &&& s = 0)) nn_10) (2 ^ (w * h)) = (fw, fo) from (by rw [hsw, show s = 2 ^ (w * h) by omega])]; first | exact (if_pos b127).symm | exact (if_neg b127).symm)
      · skip
        refine lv_iload hx hb dX6_places_34 (lv_at hl 5 rfl) ?_
        refine xs_i (As := [.int (nI s)]) (rest := []) ⟨hx, hb, hml, hown, hts⟩ (c_X6_bitsOf l G (nI s) ) (va_cwS 1 hts gX6_places_X6_bitsOf rfl rfl rfl (by decide +kernel) ⟨Nat.le_of_ble_eq_true rfl, Nat.le_of_ble_eq_true rfl⟩) hP hS rfl hl.1 rfl (Nat.le_of_ble_eq_true rfl) dX6_places_36 ⟨Nat.zero_le _, Nat.zero_le _⟩ (fun r36 H locs hp36 hP hS => ?_)
        rw [show r36 = _ from hp36]
        refine lv_istore (lv' := [(6, .int (bcM (nI s) 16)), (0, .ref ko), (1, .int a), (2, .int (nI nn_10)), (3, .int fw), (4, .int fo), (5, .int (nI s))]) hx hb dX6_places_39 hl (by decide) rfl (fun ls hl => ?_)
        refine lv_iload hx hb dX6_places_41 (lv_at hl 0 rfl) ?_
        refine lv_iload_n hx hb dX6_places_43 rfl (lv_at hl 4 rfl) ?_
        refine xi_icmp_ge (tgt := 51) hx hb dX6_places_44 rfl (fun b44 => ?_) (fun b44 => ?_)
        · skip
          refine lv_iconst (v := nI 0) hx hb dX6_places_51 (by decide) ?_
          refine lv_istore (lv' := [(7, .int (nI 0)), (6, .int (bcM (nI s) 16)), (0, .ref ko), (1, .int a), (2, .int (nI nn_10)), (3, .int fw), (4, .int fo), (5, .int (nI s))]) hx hb dX6_places_52 hl (by decide) rfl (fun ls hl => ?_)
          refine lv_iconst (v := nI 0) hx hb dX6_places_54 (by decide) ?_
          refine lv_istore (lv' := [(8, .int (nI 0)), (7, .int (nI 0)), (6, .int (bcM (nI s) 16)), (0, .ref ko), (1, .int a), (2, .int (nI nn_10)), (3, .int fw), (4, .int fo), (5, .int (nI s))]) hx hb dX6_places_55 hl (by decide) rfl (fun ls hl => ?_)
          have hL57 : ∀ k : Nat, ∀ (k1 : Nat) (iv1 : Int32) (ls : Array Slot) (H : Heap) (locs : List Loc), nn_10 - k1 = k → (k1 ≤ nn_10) → (iv1 = xb ((bcM (nI s) 16).toInt < fw.toInt ∧ allF (fun i => !decide (pr2_10 i &&& nI s = 0)) k1 = true)) → lv_has ls 9 [(0, .ref ko), (1, .int a), (2, .int (nI nn_10)), (3, .int fw), (4, .int fo), (5, .int (nI s)), (6, .int (bcM (nI s) 16)), (7, .int iv1), (8, .int (nI k1))] → xP G [iA G (ad 0) 255 S, iA G (ad 4) 16 mk2_10, iA G (ad 6) 160 vs2_10, iA G (ad 7) 46 pr2_10, oC ko 6 [.ref (ad 0), .ref (ad 1), .int (nI w), .int (nI h), .int (nI la), .ref (ad 2), .int (mv 0), .int (mv 1), .int (mv 2), .int (mv 3), .int (mv 4), .int (mv 5), .int (mv 6), .ref (ad 3), .int (nI tp), .int (mv 7), .int (mv 8), .int (mv 9), .int (mv 10), .int ft, .int (mv 11), .ref (ad 4), .ref (ad 5), .ref (ad 6), .ref (ad 7), .ref (ad 8), .ref (ad 9), .ref (ad 10), .int tr]] H → va_D (va_A (w_X6_places G ko ad w h la tp ft tr mv S mk vs pr) ss.heap.size) [iA G (ad 0) 255 S, iA G (ad 4) 16 mk2_10, iA G (ad 6) 160 vs2_10, iA G (ad 7) 46 pr2_10, oC ko 6 [.ref (ad 0), .ref (ad 1), .int (nI w), .int (nI h), .int (nI la), .ref (ad 2), .int (mv 0), .int (mv 1), .int (mv 2), .int (mv 3), .int (mv 4), .int (mv 5), .int (mv 6), .ref (ad 3), .int (nI tp), .int (mv 7), .int (mv 8), .int (mv 9), .int (mv 10), .int ft, .int (mv 11), .ref (ad 4), .ref (ad 5), .ref (ad 6), .ref (ad 7), .ref (ad 8), .ref (ad 9), .ref (ad 10), .int tr]] → va_S (va_A (w_X6_places G ko ad w h la tp ft tr mv S mk vs pr) ss.heap.size) ss.heap H locs → W pp l ee ({ frames := 5, cells := 0, slots := 0, locals := 112 } : Room) ss mm ([.ref ko, .int a] : List Value).toArray below mt cd H locs 0 0 (MQ below (Q_X6_places G ss.heap.size ko ad w h la tp ft tr mv S mk nc vs pr a) ([.ref ko, .int a] : List Value).toArray ss 0 0 (va_A (w_X6_places G ko ad w h la tp ft tr mv S mk vs pr) ss.heap.size)) (F0 mm 57 ls []) := by
            intro k
            induction k using Nat.strongRecOn with
            | _ k ih57 =>
            intro k1 iv1 ls H locs hm57 hk1 hiv hl hP hD hS
            refine lv_iload hx hb dX6_places_57 (lv_at hl 8 rfl) ?_
            refine lv_iload_n hx hb dX6_places_59 rfl (lv_at hl 2 rfl) ?_
            refine xn_icmp_ge (tgt := 94) hx hb (by omega) (by omega) dX6_places_60 rfl (fun b60 => ?_) (fun b60 => ?_)
            · skip
              have hsum : (iv1 = 0 ∧ ((¬ (bcM (nI s) 16).toInt < fw.toInt) ∨ ((fun s => allF (fun i => !decide (pr2_10 i &&& s = 0)) nn_10)) (nI s) = false)) ∨ (¬ iv1 = 0 ∧ (bcM (nI s) 16).toInt < fw.toInt ∧ ((fun s => allF (fun i => !decide (pr2_10 i &&& s = 0)) nn_10)) (nI s) = true) := (by by_cases hq : (bcM (nI s) 16).toInt < fw.toInt; (by_cases hq2 : allF (fun i => !decide (pr2_10 i &&& nI s = 0)) k1 = true; (rw [hiv, xb_t ⟨hq, hq2⟩]; refine Or.inr ⟨by decide, hq, ?_⟩; first | (rw [show k1 = nn_10 by omega] at hq2; exact hq2) | (rw [hiv, xb_t ⟨hq, hq2⟩] at b65; exact absurd b65 (by decide))); (rw [hiv, xb_f (fun q => hq2 q.2)]; exact Or.inl ⟨by decide, Or.inr (allF_false (i := k1) (by omega) (Bool.eq_false_iff.mpr hq2))⟩)); (rw [hiv, xb_f (fun q => hq q.1)]; exact Or.inl ⟨by decide, Or.inl hq⟩))
              refine lv_iload hx hb dX6_places_94 (lv_at hl 7 rfl) ?_
              refine lv_if_eq (tgt := 104) hx hb dX6_places_96 rfl (fun b96 => ?_) (fun b96 => ?_)
              · skip
                have hlt : ¬ (bcM (nI s) 16).toInt < fw.toInt ∨ ((fun s => allF (fun i => !decide (pr2_10 i &&& s = 0)) nn_10)) (nI s) = false := (hsum.resolve_right (fun q => q.1 b96)).2
                refine lv_iload hx hb dX6_places_104 (lv_at hl 4 rfl) ?_
                refine lv_istore (lv' := [(4, .int fo), (0, .ref ko), (1, .int a), (2, .int (nI nn_10)), (3, .int fw), (5, .int (nI s)), (6, .int (bcM (nI s) 16)), (7, .int iv1), (8, .int (nI k1))]) hx hb dX6_places_106 hl (by decide) rfl (fun ls hl => ?_)
                refine lv_iload hx hb dX6_places_108 (lv_at hl 7 rfl) ?_
                refine lv_if_eq (tgt := 118) hx hb dX6_places_110 rfl (fun b110 => ?_) (fun b110 => ?_)
                · skip
                  refine lv_iload_n hx hb dX6_places_118 rfl (lv_at hl 4 rfl) ?_
                  refine lv_istore_n (lv' := [(3, .int fw), (4, .int fo), (0, .ref ko), (1, .int a), (2, .int (nI nn_10)), (5, .int (nI s)), (6, .int (bcM (nI s) 16)), (7, .int iv1), (8, .int (nI k1))]) hx hb dX6_places_119 rfl hl (by decide) rfl (fun ls hl => ?_)
                  refine lv_iinc (k := 5) (v := nI (s + 1)) (lv' := [(5, .int (nI (s + 1))), (3, .int fw), (4, .int fo), (0, .ref ko), (1, .int a), (2, .int (nI nn_10)), (6, .int (bcM (nI s) 16)), (7, .int iv1), (8, .int (nI k1))]) hx hb dX6_places_120 hl rfl (xn_inc s 1) (by decide) rfl (fun ls hl => ?_)
                  refine lv_goto (tgt := 23) hx hb dX6_places_123 rfl ?_
                  have hl := lv_sub hl (l' := [(0, .ref ko), (1, .int a), (2, .int (nI nn_10)), (3, .int fw), (4, .int fo), (5, .int (nI (s + 1)))]) [3, 4, 5, 1, 2, 0] rfl
                  exact ih23 (2 ^ (w * h) - (s + 1)) (by omega) (s + 1) fw fo ls H locs rfl (by omega) (by first | exact swF_y hsw hlt hall | (rcases hlt with q | q; exact swF_n1 hsw q; exact swF_n2 hsw q)) hl hP hD hS
                · skip
                  exact absurd b96 b110
              · skip
                obtain ⟨-, hlt, hall⟩ := hsum.resolve_left (fun q => b96 q.1)
                refine lv_iload hx hb dX6_places_99 (lv_at hl 5 rfl) ?_
                refine lv_goto (tgt := 106) hx hb dX6_places_101 rfl ?_
                refine lv_istore (lv' := [(4, .int (nI s)), (0, .ref ko), (1, .int a), (2, .int (nI nn_10)), (3, .int fw), (5, .int (nI s)), (6, .int (bcM (nI s) 16)), (7, .int iv1), (8, .int (nI k1))]) hx hb dX6_places_106 hl (by decide) rfl (fun ls hl => ?_)
                refine lv_iload hx hb dX6_places_108 (lv_at hl 7 rfl) ?_
                refine lv_if_eq (tgt := 118) hx hb dX6_places_110 rfl (fun b110 => ?_) (fun b110 => ?_)
                · skip
                  exact absurd b110 b96
                · skip
                  refine lv_iload hx hb dX6_places_113 (lv_at hl 6 rfl) ?_
                  refine lv_goto (tgt := 119) hx hb dX6_places_115 rfl ?_
                  refine lv_istore_n (lv' := [(3, .int (bcM (nI s) 16)), (4, .int (nI s)), (0, .ref ko), (1, .int a), (2, .int (nI nn_10)), (5, .int (nI s)), (6, .int (bcM (nI s) 16)), (7, .int iv1), (8, .int (nI k1))]) hx hb dX6_places_119 rfl hl (by decide) rfl (fun ls hl => ?_)
                  refine lv_iinc (k := 5) (v := nI (s + 1)) (lv' := [(5, .int (nI (s + 1))), (3, .int (bcM (nI s) 16)), (4, .int (nI s)), (0, .ref ko), (1, .int a), (2, .int (nI nn_10)), (6, .int (bcM (nI s) 16)), (7, .int iv1), (8, .int (nI k1))]) hx hb dX6_places_120 hl rfl (xn_inc s 1) (by decide) rfl (fun ls hl => ?_)
                  refine lv_goto (tgt := 23) hx hb dX6_places_123 rfl ?_
                  have hl := lv_sub hl (l' := [(0, .ref ko), (1, .int a), (2, .int (nI nn_10)), (3, .int (bcM (nI s) 16)), (4, .int (nI s)), (5, .int (nI (s + 1)))]) [3, 4, 5, 1, 2, 0] rfl
                  exact ih23 (2 ^ (w * h) - (s + 1)) (by omega) (s + 1) (bcM (nI s) 16) (nI s) ls H locs rfl (by omega) (by first | exact swF_y hsw hlt hall | (rcases hlt with q | q; exact swF_n1 hsw q; exact swF_n2 hsw q)) hl hP hD hS
            · skip
              refine lv_iload hx hb dX6_places_63 (lv_at hl 7 rfl) ?_
              refine lv_if_eq (tgt := 94) hx hb dX6_places_65 rfl (fun b65 => ?_) (fun b65 => ?_)
              · skip
                have hsum : (iv1 = 0 ∧ ((¬ (bcM (nI s) 16).toInt < fw.toInt) ∨ ((fun s => allF (fun i => !decide (pr2_10 i &&& s = 0)) nn_10)) (nI s) = false)) ∨ (¬ iv1 = 0 ∧ (bcM (nI s) 16).toInt < fw.toInt ∧ ((fun s => allF (fun i => !decide (pr2_10 i &&& s = 0)) nn_10)) (nI s) = true) := (by by_cases hq : (bcM (nI s) 16).toInt < fw.toInt; (by_cases hq2 : allF (fun i => !decide (pr2_10 i &&& nI s = 0)) k1 = true; (rw [hiv, xb_t ⟨hq, hq2⟩]; refine Or.inr ⟨by decide, hq, ?_⟩; first | (rw [show k1 = nn_10 by omega] at hq2; exact hq2) | (rw [hiv, xb_t ⟨hq, hq2⟩] at b65; exact absurd b65 (by decide))); (rw [hiv, xb_f (fun q => hq2 q.2)]; exact Or.inl ⟨by decide, Or.inr (allF_false (i := k1) (by omega) (Bool.eq_false_iff.mpr hq2))⟩)); (rw [hiv, xb_f (fun q => hq q.1)]; exact Or.inl ⟨by decide, Or.inl hq⟩))
                refine lv_iload hx hb dX6_places_94 (lv_at hl 7 rfl) ?_
                refine lv_if_eq (tgt := 104) hx hb dX6_places_96 rfl (fun b96 => ?_) (fun b96 => ?_)
                · skip
                  have hlt : ¬ (bcM (nI s) 16).toInt < fw.toInt ∨ ((fun s => allF (fun i => !decide (pr2_10 i &&& s = 0)) nn_10)) (nI s) = false := (hsum.resolve_right (fun q => q.1 b96)).2
                  refine lv_iload hx hb dX6_places_104 (lv_at hl 4 rfl) ?_
                  refine lv_istore (lv' := [(4, .int fo), (0, .ref ko), (1, .int a), (2, .int (nI nn_10)), (3, .int fw), (5, .int (nI s)), (6, .int (bcM (nI s) 16)), (7, .int iv1), (8, .int (nI k1))]) hx hb dX6_places_106 hl (by decide) rfl (fun ls hl => ?_)
                  refine lv_iload hx hb dX6_places_108 (lv_at hl 7 rfl) ?_
                  refine lv_if_eq (tgt := 118) hx hb dX6_places_110 rfl (fun b110 => ?_) (fun b110 => ?_)
                  · skip
                    refine lv_iload_n hx hb dX6_places_118 rfl (lv_at hl 4 rfl) ?_
                    refine lv_istore_n (lv' := [(3, .int fw), (4, .int fo), (0, .ref ko), (1, .int a), (2, .int (nI nn_10)), (5, .int (nI s)), (6, .int (bcM (nI s) 16)), (7, .int iv1), (8, .int (nI k1))]) hx hb dX6_places_119 rfl hl (by decide) rfl (fun ls hl => ?_)
                    refine lv_iinc (k := 5) (v := nI (s + 1)) (lv' := [(5, .int (nI (s + 1))), (3, .int fw), (4, .int fo), (0, .ref ko), (1, .int a), (2, .int (nI nn_10)), (6, .int (bcM (nI s) 16)), (7, .int iv1), (8, .int (nI k1))]) hx hb dX6_places_120 hl rfl (xn_inc s 1) (by decide) rfl (fun ls hl => ?_)
                    refine lv_goto (tgt := 23) hx hb dX6_places_123 rfl ?_
                    have hl := lv_sub hl (l' := [(0, .ref ko), (1, .int a), (2, .int (nI nn_10)), (3, .int fw), (4, .int fo), (5, .int (nI (s + 1)))]) [3, 4, 5, 1, 2, 0] rfl
                    exact ih23 (2 ^ (w * h) - (s + 1)) (by omega) (s + 1) fw fo ls H locs rfl (by omega) (by first | exact swF_y hsw hlt hall | (rcases hlt with q | q; exact swF_n1 hsw q; exact swF_n2 hsw q)) hl hP hD hS
                  · skip
                    exact absurd b96 b110
                · skip
                  obtain ⟨-, hlt, hall⟩ := hsum.resolve_left (fun q => b96 q.1)
                  refine lv_iload hx hb dX6_places_99 (lv_at hl 5 rfl) ?_
                  refine lv_goto (tgt := 106) hx hb dX6_places_101 rfl ?_
                  refine lv_istore (lv' := [(4, .int (nI s)), (0, .ref ko), (1, .int a), (2, .int (nI nn_10)), (3, .int fw), (5, .int (nI s)), (6, .int (bcM (nI s) 16)), (7, .int iv1), (8, .int (nI k1))]) hx hb dX6_places_106 hl (by decide) rfl (fun ls hl => ?_)
                  refine lv_iload hx hb dX6_places_108 (lv_at hl 7 rfl) ?_
                  refine lv_if_eq (tgt := 118) hx hb dX6_places_110 rfl (fun b110 => ?_) (fun b110 => ?_)
                  · skip
                    exact absurd b110 b96
                  · skip
                    refine lv_iload hx hb dX6_places_113 (lv_at hl 6 rfl) ?_
                    refine lv_goto (tgt := 119) hx hb dX6_places_115 rfl ?_
                    refine lv_istore_n (lv' := [(3, .int (bcM (nI s) 16)), (4, .int (nI s)), (0, .ref ko), (1, .int a), (2, .int (nI nn_10)), (5, .int (nI s)), (6, .int (bcM (nI s) 16)), (7, .int iv1), (8, .int (nI k1))]) hx hb dX6_places_119 rfl hl (by decide) rfl (fun ls hl => ?_)
                    refine lv_iinc (k := 5) (v := nI (s + 1)) (lv' := [(5, .int (nI (s + 1))), (3, .int (bcM (nI s) 16)), (4, .int (nI s)), (0, .ref ko), (1, .int a), (2, .int (nI nn_10)), (6, .int (bcM (nI s) 16)), (7, .int iv1), (8, .int (nI k1))]) hx hb dX6_places_120 hl rfl (xn_inc s 1) (by decide) rfl (fun ls hl => ?_)
                    refine lv_goto (tgt := 23) hx hb dX6_places_123 rfl ?_
                    have hl := lv_sub hl (l' := [(0, .ref ko), (1, .int a), (2, .int (nI nn_10)), (3, .int (bcM (nI s) 16)), (4, .int (nI s)), (5, .int (nI (s + 1)))]) [3, 4, 5, 1, 2, 0] rfl
                    exact ih23 (2 ^ (w * h) - (s + 1)) (by omega) (s + 1) (bcM (nI s) 16) (nI s) ls H locs rfl (by omega) (by first | exact swF_y hsw hlt hall | (rcases hlt with q | q; exact swF_n1 hsw q; exact swF_n2 hsw q)) hl hP hD hS
              · skip
                have hiv2 : (bcM (nI s) 16).toInt < fw.toInt ∧ allF (fun i => !decide (pr2_10 i &&& nI s = 0)) k1 = true := (by rw [hiv] at b65; exact Decidable.not_not.mp (fun q => b65 (xb_0.mpr q)))
                refine lv_aload_n hx hb dX6_places_68 rfl (lv_at hl 0 rfl) ?_
                refine va_get (D := G.1) (ci := 6) (v := .ref (ad 7)) (C := RX6) (T := TX6) (N := 29) hx hb hts hin6 hown hK.1 hP 4 rfl rfl 24 (by decide) (hts (.fieldLink RX6 32 "BackLensesModel" "pairs" "[I") (List.mem_of_getElem? (i := 2) rfl)) (fun _ h9 => h9) rfl dX6_places_69 ?_
                refine lv_iload hx hb dX6_places_72 (lv_at hl 8 rfl) ?_
                refine xn_iald hx hb hK hP 3 rfl (by omega) (by omega) dX6_places_74 ?_
                refine lv_iload hx hb dX6_places_75 (lv_at hl 5 rfl) ?_
                refine lv_iand hx hb dX6_places_77 ?_
                refine lv_if_eq (tgt := 85) hx hb dX6_places_78 rfl (fun b78 => ?_) (fun b78 => ?_)
                · skip
                  refine lv_iconst (v := nI 0) hx hb dX6_places_85 (by decide) ?_
                  refine lv_istore (lv' := [(7, .int (nI 0)), (0, .ref ko), (1, .int a), (2, .int (nI nn_10)), (3, .int fw), (4, .int fo), (5, .int (nI s)), (6, .int (bcM (nI s) 16)), (8, .int (nI k1))]) hx hb dX6_places_86 hl (by decide) rfl (fun ls hl => ?_)
                  refine lv_iinc (k := 8) (v := nI (k1 + 1)) (lv' := [(8, .int (nI (k1 + 1))), (7, .int (nI 0)), (0, .ref ko), (1, .int a), (2, .int (nI nn_10)), (3, .int fw), (4, .int fo), (5, .int (nI s)), (6, .int (bcM (nI s) 16))]) hx hb dX6_places_88 hl rfl (xn_inc k1 1) (by decide) rfl (fun ls hl => ?_)
                  refine lv_goto (tgt := 57) hx hb dX6_places_91 rfl ?_
                  have hl := lv_sub hl (l' := [(0, .ref ko), (1, .int a), (2, .int (nI nn_10)), (3, .int fw), (4, .int fo), (5, .int (nI s)), (6, .int (bcM (nI s) 16)), (7, .int (nI 0)), (8, .int (nI (k1 + 1)))]) [2, 3, 4, 5, 6, 7, 8, 1, 0] rfl
                  exact ih57 (nn_10 - (k1 + 1)) (by omega) (k1 + 1) (nI 0) ls H locs rfl (by omega) (by first | exact (xb_t ⟨hiv2.1, by rw [allF, hiv2.2, decide_eq_false b78]; rfl⟩).symm | exact (xb_f (fun q => by have q2 := q.2; rw [allF, decide_eq_true b78, Bool.not_true, Bool.and_false] at q2; cases q2)).symm) hl hP hD hS
                · skip
                  refine lv_iconst (v := nI 1) hx hb dX6_places_81 (by decide) ?_
                  refine lv_goto (tgt := 86) hx hb dX6_places_82 rfl ?_
                  refine lv_istore (lv' := [(7, .int (nI 1)), (0, .ref ko), (1, .int a), (2, .int (nI nn_10)), (3, .int fw), (4, .int fo), (5, .int (nI s)), (6, .int (bcM (nI s) 16)), (8, .int (nI k1))]) hx hb dX6_places_86 hl (by decide) rfl (fun ls hl => ?_)
                  refine lv_iinc (k := 8) (v := nI (k1 + 1)) (lv' := [(8, .int (nI (k1 + 1))), (7, .int (nI 1)), (0, .ref ko), (1, .int a), (2, .int (nI nn_10)), (3, .int fw), (4, .int fo), (5, .int (nI s)), (6, .int (bcM (nI s) 16))]) hx hb dX6_places_88 hl rfl (xn_inc k1 1) (by decide) rfl (fun ls hl => ?_)
                  refine lv_goto (tgt := 57) hx hb dX6_places_91 rfl ?_
                  have hl := lv_sub hl (l' := [(0, .ref ko), (1, .int a), (2, .int (nI nn_10)), (3, .int fw), (4, .int fo), (5, .int (nI s)), (6, .int (bcM (nI s) 16)), (7, .int (nI 1)), (8, .int (nI (k1 + 1)))]) [2, 3, 4, 5, 6, 7, 8, 1, 0] rfl
                  exact ih57 (nn_10 - (k1 + 1)) (by omega) (k1 + 1) (nI 1) ls H locs rfl (by omega) (by first | exact (xb_t ⟨hiv2.1, by rw [allF, hiv2.2, decide_eq_false b78]; rfl⟩).symm | exact (xb_f (fun q => by have q2 := q.2; rw [allF, decide_eq_true b78, Bool.not_true, Bool.and_false] at q2; cases q2)).symm) hl hP hD hS
          have hl := lv_sub hl (l' := [(0, .ref ko), (1, .int a), (2, .int (nI nn_10)), (3, .int fw), (4, .int fo), (5, .int (nI s)), (6, .int (bcM (nI s) 16)), (7, .int (nI 0)), (8, .int (nI 0))]) [3, 4, 5, 6, 7, 8, 2, 1, 0] rfl
          exact hL57 (nn_10 - 0) 0 (nI 0) ls H locs rfl (by omega) (by first | exact (xb_f (fun q => absurd q.1 (by omega))).symm | exact (xb_t ⟨by omega, rfl⟩).symm) hl hP hD hS
        · skip
          refine lv_iconst (v := nI 1) hx hb dX6_places_47 (by decide) ?_
          refine lv_goto (tgt := 52) hx hb dX6_places_48 rfl ?_
          refine lv_istore (lv' := [(7, .int (nI 1)), (6, .int (bcM (nI s) 16)), (0, .ref ko), (1, .int a), (2, .int (nI nn_10)), (3, .int fw), (4, .int fo), (5, .int (nI s))]) hx hb dX6_places_52 hl (by decide) rfl (fun ls hl => ?_)
          refine lv_iconst (v := nI 0) hx hb dX6_places_54 (by decide) ?_
          refine lv_istore (lv' := [(8, .int (nI 0)), (7, .int (nI 1)), (6, .int (bcM (nI s) 16)), (0, .ref ko), (1, .int a), (2, .int (nI nn_10)), (3, .int fw), (4, .int fo), (5, .int (nI s))]) hx hb dX6_places_55 hl (by decide) rfl (fun ls hl => ?_)
          have hL57 : ∀ k : Nat, ∀ (k1 : Nat) (iv1 : Int32) (ls : Array Slot) (H : Heap) (locs : List Loc), nn_10 - k1 = k → (k1 ≤ nn_10) → (iv1 = xb ((bcM (nI s) 16).toInt < fw.toInt ∧ allF (fun i => !decide (pr2_10 i &&& nI s = 0)) k1 = true)) → lv_has ls 9 [(0, .ref ko), (1, .int a), (2, .int (nI nn_10)), (3, .int fw), (4, .int fo), (5, .int (nI s)), (6, .int (bcM (nI s) 16)), (7, .int iv1), (8, .int (nI k1))] → xP G [iA G (ad 0) 255 S, iA G (ad 4) 16 mk2_10, iA G (ad 6) 160 vs2_10, iA G (ad 7) 46 pr2_10, oC ko 6 [.ref (ad 0), .ref (ad 1), .int (nI w), .int (nI h), .int (nI la), .ref (ad 2), .int (mv 0), .int (mv 1), .int (mv 2), .int (mv 3), .int (mv 4), .int (mv 5), .int (mv 6), .ref (ad 3), .int (nI tp), .int (mv 7), .int (mv 8), .int (mv 9), .int (mv 10), .int ft, .int (mv 11), .ref (ad 4), .ref (ad 5), .ref (ad 6), .ref (ad 7), .ref (ad 8), .ref (ad 9), .ref (ad 10), .int tr]] H → va_D (va_A (w_X6_places G ko ad w h la tp ft tr mv S mk vs pr) ss.heap.size) [iA G (ad 0) 255 S, iA G (ad 4) 16 mk2_10, iA G (ad 6) 160 vs2_10, iA G (ad 7) 46 pr2_10, oC ko 6 [.ref (ad 0), .ref (ad 1), .int (nI w), .int (nI h), .int (nI la), .ref (ad 2), .int (mv 0), .int (mv 1), .int (mv 2), .int (mv 3), .int (mv 4), .int (mv 5), .int (mv 6), .ref (ad 3), .int (nI tp), .int (mv 7), .int (mv 8), .int (mv 9), .int (mv 10), .int ft, .int (mv 11), .ref (ad 4), .ref (ad 5), .ref (ad 6), .ref (ad 7), .ref (ad 8), .ref (ad 9), .ref (ad 10), .int tr]] → va_S (va_A (w_X6_places G ko ad w h la tp ft tr mv S mk vs pr) ss.heap.size) ss.heap H locs → W pp l ee ({ frames := 5, cells := 0, slots := 0, locals := 112 } : Room) ss mm ([.ref ko, .int a] : List Value).toArray below mt cd H locs 0 0 (MQ below (Q_X6_places G ss.heap.size ko ad w h la tp ft tr mv S mk nc vs pr a) ([.ref ko, .int a] : List Value).toArray ss 0 0 (va_A (w_X6_places G ko ad w h la tp ft tr mv S mk vs pr) ss.heap.size)) (F0 mm 57 ls []) := by
            intro k
            induction k using Nat.strongRecOn with
            | _ k ih57 =>
            intro k1 iv1 ls H locs hm57 hk1 hiv hl hP hD hS
            refine lv_iload hx hb dX6_places_57 (lv_at hl 8 rfl) ?_
            refine lv_iload_n hx hb dX6_places_59 rfl (lv_at hl 2 rfl) ?_
            refine xn_icmp_ge (tgt := 94) hx hb (by omega) (by omega) dX6_places_60 rfl (fun b60 => ?_) (fun b60 => ?_)
            · skip
              have hsum : (iv1 = 0 ∧ ((¬ (bcM (nI s) 16).toInt < fw.toInt) ∨ ((fun s => allF (fun i => !decide (pr2_10 i &&& s = 0)) nn_10)) (nI s) = false)) ∨ (¬ iv1 = 0 ∧ (bcM (nI s) 16).toInt < fw.toInt ∧ ((fun s => allF (fun i => !decide (pr2_10 i &&& s = 0)) nn_10)) (nI s) = true) := (by by_cases hq : (bcM (nI s) 16).toInt < fw.toInt; (by_cases hq2 : allF (fun i => !decide (pr2_10 i &&& nI s = 0)) k1 = true; (rw [hiv, xb_t ⟨hq, hq2⟩]; refine Or.inr ⟨by decide, hq, ?_⟩; first | (rw [show k1 = nn_10 by omega] at hq2; exact hq2) | (rw [hiv, xb_t ⟨hq, hq2⟩] at b65; exact absurd b65 (by decide))); (rw [hiv, xb_f (fun q => hq2 q.2)]; exact Or.inl ⟨by decide, Or.inr (allF_false (i := k1) (by omega) (Bool.eq_false_iff.mpr hq2))⟩)); (rw [hiv, xb_f (fun q => hq q.1)]; exact Or.inl ⟨by decide, Or.inl hq⟩))
              refine lv_iload hx hb dX6_places_94 (lv_at hl 7 rfl) ?_
              refine lv_if_eq (tgt := 104) hx hb dX6_places_96 rfl (fun b96 => ?_) (fun b96 => ?_)
              · skip
                have hlt : ¬ (bcM (nI s) 16).toInt < fw.toInt ∨ ((fun s => allF (fun i => !decide (pr2_10 i &&& s = 0)) nn_10)) (nI s) = false := (hsum.resolve_right (fun q => q.1 b96)).2
                refine lv_iload hx hb dX6_places_104 (lv_at hl 4 rfl) ?_
                refine lv_istore (lv' := [(4, .int fo), (0, .ref ko), (1, .int a), (2, .int (nI nn_10)), (3, .int fw), (5, .int (nI s)), (6, .int (bcM (nI s) 16)), (7, .int iv1), (8, .int (nI k1))]) hx hb dX6_places_106 hl (by decide) rfl (fun ls hl => ?_)
                refine lv_iload hx hb dX6_places_108 (lv_at hl 7 rfl) ?_
                refine lv_if_eq (tgt := 118) hx hb dX6_places_110 rfl (fun b110 => ?_) (fun b110 => ?_)
                · skip
                  refine lv_iload_n hx hb dX6_places_118 rfl (lv_at hl 4 rfl) ?_
                  refine lv_istore_n (lv' := [(3, .int fw), (4, .int fo), (0, .ref ko), (1, .int a), (2, .int (nI nn_10)), (5, .int (nI s)), (6, .int (bcM (nI s) 16)), (7, .int iv1), (8, .int (nI k1))]) hx hb dX6_places_119 rfl hl (by decide) rfl (fun ls hl => ?_)
                  refine lv_iinc (k := 5) (v := nI (s + 1)) (lv' := [(5, .int (nI (s + 1))), (3, .int fw), (4, .int fo), (0, .ref ko), (1, .int a), (2, .int (nI nn_10)), (6, .int (bcM (nI s) 16)), (7, .int iv1), (8, .int (nI k1))]) hx hb dX6_places_120 hl rfl (xn_inc s 1) (by decide) rfl (fun ls hl => ?_)
                  refine lv_goto (tgt := 23) hx hb dX6_places_123 rfl ?_
                  have hl := lv_sub hl (l' := [(0, .ref ko), (1, .int a), (2, .int (nI nn_10)), (3, .int fw), (4, .int fo), (5, .int (nI (s + 1)))]) [3, 4, 5, 1, 2, 0] rfl
                  exact ih23 (2 ^ (w * h) - (s + 1)) (by omega) (s + 1) fw fo ls H locs rfl (by omega) (by first | exact swF_y hsw hlt hall | (rcases hlt with q | q; exact swF_n1 hsw q; exact swF_n2 hsw q)) hl hP hD hS
                · skip
                  exact absurd b96 b110
              · skip
                obtain ⟨-, hlt, hall⟩ := hsum.resolve_left (fun q => b96 q.1)
                refine lv_iload hx hb dX6_places_99 (lv_at hl 5 rfl) ?_
                refine lv_goto (tgt := 106) hx hb dX6_places_101 rfl ?_
                refine lv_istore (lv' := [(4, .int (nI s)), (0, .ref ko), (1, .int a), (2, .int (nI nn_10)), (3, .int fw), (5, .int (nI s)), (6, .int (bcM (nI s) 16)), (7, .int iv1), (8, .int (nI k1))]) hx hb dX6_places_106 hl (by decide) rfl (fun ls hl => ?_)
                refine lv_iload hx hb dX6_places_108 (lv_at hl 7 rfl) ?_
                refine lv_if_eq (tgt := 118) hx hb dX6_places_110 rfl (fun b110 => ?_) (fun b110 => ?_)
                · skip
                  exact absurd b110 b96
                · skip
                  refine lv_iload hx hb dX6_places_113 (lv_at hl 6 rfl) ?_
                  refine lv_goto (tgt := 119) hx hb dX6_places_115 rfl ?_
                  refine lv_istore_n (lv' := [(3, .int (bcM (nI s) 16)), (4, .int (nI s)), (0, .ref ko), (1, .int a), (2, .int (nI nn_10)), (5, .int (nI s)), (6, .int (bcM (nI s) 16)), (7, .int iv1), (8, .int (nI k1))]) hx hb dX6_places_119 rfl hl (by decide) rfl (fun ls hl => ?_)
                  refine lv_iinc (k := 5) (v := nI (s + 1)) (lv' := [(5, .int (nI (s + 1))), (3, .int (bcM (nI s) 16)), (4, .int (nI s)), (0, .ref ko), (1, .int a), (2, .int (nI nn_10)), (6, .int (bcM (nI s) 16)), (7, .int iv1), (8, .int (nI k1))]) hx hb dX6_places_120 hl rfl (xn_inc s 1) (by decide) rfl (fun ls hl => ?_)
                  refine lv_goto (tgt := 23) hx hb dX6_places_123 rfl ?_
                  have hl := lv_sub hl (l' := [(0, .ref ko), (1, .int a), (2, .int (nI nn_10)), (3, .int (bcM (nI s) 16)), (4, .int (nI s)), (5, .int (nI (s + 1)))]) [3, 4, 5, 1, 2, 0] rfl
                  exact ih23 (2 ^ (w * h) - (s + 1)) (by omega) (s + 1) (bcM (nI s) 16) (nI s) ls H locs rfl (by omega) (by first | exact swF_y hsw hlt hall | (rcases hlt with q | q; exact swF_n1 hsw q; exact swF_n2 hsw q)) hl hP hD hS
            · skip
              refine lv_iload hx hb dX6_places_63 (lv_at hl 7 rfl) ?_
              refine lv_if_eq (tgt := 94) hx hb dX6_places_65 rfl (fun b65 => ?_) (fun b65 => ?_)
              · skip
                have hsum : (iv1 = 0 ∧ ((¬ (bcM (nI s) 16).toInt < fw.toInt) ∨ ((fun s => allF (fun i => !decide (pr2_10 i &&& s = 0)) nn_10)) (nI s) = false)) ∨ (¬ iv1 = 0 ∧ (bcM (nI s) 16).toInt < fw.toInt ∧ ((fun s => allF (fun i => !decide (pr2_10 i &&& s = 0)) nn_10)) (nI s) = true) := (by by_cases hq : (bcM (nI s) 16).toInt < fw.toInt; (by_cases hq2 : allF (fun i => !decide (pr2_10 i &&& nI s = 0)) k1 = true; (rw [hiv, xb_t ⟨hq, hq2⟩]; refine Or.inr ⟨by decide, hq, ?_⟩; first | (rw [show k1 = nn_10 by omega] at hq2; exact hq2) | (rw [hiv, xb_t ⟨hq, hq2⟩] at b65; exact absurd b65 (by decide))); (rw [hiv, xb_f (fun q => hq2 q.2)]; exact Or.inl ⟨by decide, Or.inr (allF_false (i := k1) (by omega) (Bool.eq_false_iff.mpr hq2))⟩)); (rw [hiv, xb_f (fun q => hq q.1)]; exact Or.inl ⟨by decide, Or.inl hq⟩))
                refine lv_iload hx hb dX6_places_94 (lv_at hl 7 rfl) ?_
                refine lv_if_eq (tgt := 104) hx hb dX6_places_96 rfl (fun b96 => ?_) (fun b96 => ?_)
                · skip
                  have hlt : ¬ (bcM (nI s) 16).toInt < fw.toInt ∨ ((fun s => allF (fun i => !decide (pr2_10 i &&& s = 0)) nn_10)) (nI s) = false := (hsum.resolve_right (fun q => q.1 b96)).2
                  refine lv_iload hx hb dX6_places_104 (lv_at hl 4 rfl) ?_
                  refine lv_istore (lv' := [(4, .int fo), (0, .ref ko), (1, .int a), (2, .int (nI nn_10)), (3, .int fw), (5, .int (nI s)), (6, .int (bcM (nI s) 16)), (7, .int iv1), (8, .int (nI k1))]) hx hb dX6_places_106 hl (by decide) rfl (fun ls hl => ?_)
                  refine lv_iload hx hb dX6_places_108 (lv_at hl 7 rfl) ?_
                  refine lv_if_eq (tgt := 118) hx hb dX6_places_110 rfl (fun b110 => ?_) (fun b110 => ?_)
                  · skip
                    refine lv_iload_n hx hb dX6_places_118 rfl (lv_at hl 4 rfl) ?_
                    refine lv_istore_n (lv' := [(3, .int fw), (4, .int fo), (0, .ref ko), (1, .int a), (2, .int (nI nn_10)), (5, .int (nI s)), (6, .int (bcM (nI s) 16)), (7, .int iv1), (8, .int (nI k1))]) hx hb dX6_places_119 rfl hl (by decide) rfl (fun ls hl => ?_)
                    refine lv_iinc (k := 5) (v := nI (s + 1)) (lv' := [(5, .int (nI (s + 1))), (3, .int fw), (4, .int fo), (0, .ref ko), (1, .int a), (2, .int (nI nn_10)), (6, .int (bcM (nI s) 16)), (7, .int iv1), (8, .int (nI k1))]) hx hb dX6_places_120 hl rfl (xn_inc s 1) (by decide) rfl (fun ls hl => ?_)
                    refine lv_goto (tgt := 23) hx hb dX6_places_123 rfl ?_
                    have hl := lv_sub hl (l' := [(0, .ref ko), (1, .int a), (2, .int (nI nn_10)), (3, .int fw), (4, .int fo), (5, .int (nI (s + 1)))]) [3, 4, 5, 1, 2, 0] rfl
                    exact ih23 (2 ^ (w * h) - (s + 1)) (by omega) (s + 1) fw fo ls H locs rfl (by omega) (by first | exact swF_y hsw hlt hall | (rcases hlt with q | q; exact swF_n1 hsw q; exact swF_n2 hsw q)) hl hP hD hS
                  · skip
                    exact absurd b96 b110
                · skip
                  obtain ⟨-, hlt, hall⟩ := hsum.resolve_left (fun q => b96 q.1)
                  refine lv_iload hx hb dX6_places_99 (lv_at hl 5 rfl) ?_
                  refine lv_goto (tgt := 106) hx hb dX6_places_101 rfl ?_
                  refine lv_istore (lv' := [(4, .int (nI s)), (0, .ref ko), (1, .int a), (2, .int (nI nn_10)), (3, .int fw), (5, .int (nI s)), (6, .int (bcM (nI s) 16)), (7, .int iv1), (8, .int (nI k1))]) hx hb dX6_places_106 hl (by decide) rfl (fun ls hl => ?_)
                  refine lv_iload hx hb dX6_places_108 (lv_at hl 7 rfl) ?_
                  refine lv_if_eq (tgt := 118) hx hb dX6_places_110 rfl (fun b110 => ?_) (fun b110 => ?_)
                  · skip
                    exact absurd b110 b96
                  · skip
                    refine lv_iload hx hb dX6_places_113 (lv_at hl 6 rfl) ?_
                    refine lv_goto (tgt := 119) hx hb dX6_places_115 rfl ?_
                    refine lv_istore_n (lv' := [(3, .int (bcM (nI s) 16)), (4, .int (nI s)), (0, .ref ko), (1, .int a), (2, .int (nI nn_10)), (5, .int (nI s)), (6, .int (bcM (nI s) 16)), (7, .int iv1), (8, .int (nI k1))]) hx hb dX6_places_119 rfl hl (by decide) rfl (fun ls hl => ?_)
                    refine lv_iinc (k := 5) (v := nI (s + 1)) (lv' := [(5, .int (nI (s + 1))), (3, .int (bcM (nI s) 16)), (4, .int (nI s)), (0, .ref ko), (1, .int a), (2, .int (nI nn_10)), (6, .int (bcM (nI s) 16)), (7, .int iv1), (8, .int (nI k1))]) hx hb dX6_places_120 hl rfl (xn_inc s 1) (by decide) rfl (fun ls hl => ?_)
                    refine lv_goto (tgt := 23) hx hb dX6_places_123 rfl ?_
                    have hl := lv_sub hl (l' := [(0, .ref ko), (1, .int a), (2, .int (nI nn_10)), (3, .int (bcM (nI s) 16)), (4, .int (nI s)), (5, .int (nI (s + 1)))]) [3, 4, 5, 1, 2, 0] rfl
                    exact ih23 (2 ^ (w * h) - (s + 1)) (by omega) (s + 1) (bcM (nI s) 16) (nI s) ls H locs rfl (by omega) (by first | exact swF_y hsw hlt hall | (rcases hlt with q | q; exact swF_n1 hsw q; exact swF_n2 hsw q)) hl hP hD hS
              · skip
                have hiv2 : (bcM (nI s) 16).toInt < fw.toInt ∧ allF (fun i => !decide (pr2_10 i &&& nI s = 0)) k1 = true := (by rw [hiv] at b65; exact Decidable.not_not.mp (fun q => b65 (xb_0.mpr q)))
                refine lv_aload_n hx hb dX6_places_68 rfl (lv_at hl 0 rfl) ?_
                refine va_get (D := G.1) (ci := 6) (v := .ref (ad 7)) (C := RX6) (T := TX6) (N := 29) hx hb hts hin6 hown hK.1 hP 4 rfl rfl 24 (by decide) (hts (.fieldLink RX6 32 "BackLensesModel" "pairs" "[I") (List.mem_of_getElem? (i := 2) rfl)) (fun _ h9 => h9) rfl dX6_places_69 ?_
                refine lv_iload hx hb dX6_places_72 (lv_at hl 8 rfl) ?_
                refine xn_iald hx hb hK hP 3 rfl (by omega) (by omega) dX6_places_74 ?_
                refine lv_iload hx hb dX6_places_75 (lv_at hl 5 rfl) ?_
                refine lv_iand hx hb dX6_places_77 ?_
                refine lv_if_eq (tgt := 85) hx hb dX6_places_78 rfl (fun b78 => ?_) (fun b78 => ?_)
                · skip
                  refine lv_iconst (v := nI 0) hx hb dX6_places_85 (by decide) ?_
                  refine lv_istore (lv' := [(7, .int (nI 0)), (0, .ref ko), (1, .int a), (2, .int (nI nn_10)), (3, .int fw), (4, .int fo), (5, .int (nI s)), (6, .int (bcM (nI s) 16)), (8, .int (nI k1))]) hx hb dX6_places_86 hl (by decide) rfl (fun ls hl => ?_)
                  refine lv_iinc (k := 8) (v := nI (k1 + 1)) (lv' := [(8, .int (nI (k1 + 1))), (7, .int (nI 0)), (0, .ref ko), (1, .int a), (2, .int (nI nn_10)), (3, .int fw), (4, .int fo), (5, .int (nI s)), (6, .int (bcM (nI s) 16))]) hx hb dX6_places_88 hl rfl (xn_inc k1 1) (by decide) rfl (fun ls hl => ?_)
                  refine lv_goto (tgt := 57) hx hb dX6_places_91 rfl ?_
                  have hl := lv_sub hl (l' := [(0, .ref ko), (1, .int a), (2, .int (nI nn_10)), (3, .int fw), (4, .int fo), (5, .int (nI s)), (6, .int (bcM (nI s) 16)), (7, .int (nI 0)), (8, .int (nI (k1 + 1)))]) [2, 3, 4, 5, 6, 7, 8, 1, 0] rfl
                  exact ih57 (nn_10 - (k1 + 1)) (by omega) (k1 + 1) (nI 0) ls H locs rfl (by omega) (by first | exact (xb_t ⟨hiv2.1, by rw [allF, hiv2.2, decide_eq_false b78]; rfl⟩).symm | exact (xb_f (fun q => by have q2 := q.2; rw [allF, decide_eq_true b78, Bool.not_true, Bool.and_false] at q2; cases q2)).symm) hl hP hD hS
                · skip
                  refine lv_iconst (v := nI 1) hx hb dX6_places_81 (by decide) ?_
                  refine lv_goto (tgt := 86) hx hb dX6_places_82 rfl ?_
                  refine lv_istore (lv' := [(7, .int (nI 1)), (0, .ref ko), (1, .int a), (2, .int (nI nn_10)), (3, .int fw), (4, .int fo), (5, .int (nI s)), (6, .int (bcM (nI s) 16)), (8, .int (nI k1))]) hx hb dX6_places_86 hl (by decide) rfl (fun ls hl => ?_)
                  refine lv_iinc (k := 8) (v := nI (k1 + 1)) (lv' := [(8, .int (nI (k1 + 1))), (7, .int (nI 1)), (0, .ref ko), (1, .int a), (2, .int (nI nn_10)), (3, .int fw), (4, .int fo), (5, .int (nI s)), (6, .int (bcM (nI s) 16))]) hx hb dX6_places_88 hl rfl (xn_inc k1 1) (by decide) rfl (fun ls hl => ?_)
                  refine lv_goto (tgt := 57) hx hb dX6_places_91 rfl ?_
                  have hl := lv_sub hl (l' := [(0, .ref ko), (1, .int a), (2, .int (nI nn_10)), (3, .int fw), (4, .int fo), (5, .int (nI s)), (6, .int (bcM (nI s) 16)), (7, .int (nI 1)), (8, .int (nI (k1 + 1)))]) [2, 3, 4, 5, 6, 7, 8, 1, 0] rfl
                  exact ih57 (nn_10 - (k1 + 1)) (by omega) (k1 + 1) (nI 1) ls H locs rfl (by omega) (by first | exact (xb_t ⟨hiv2.1, by rw [allF, hiv2.2, decide_eq_false b78]; rfl⟩).symm | exact (xb_f (fun q => by have q2 := q.2; rw [allF, decide_eq_true b78, Bool.not_true, Bool.and_false] at q2; cases q2)).symm) hl hP hD hS
          have hl := lv_sub hl (l' := [(0, .ref ko), (1, .int a), (2, .int (nI nn_10)), (3, .int fw), (4, .int fo), (5, .int (nI s)), (6, .int (bcM (nI s) 16)), (7, .int (nI 1)), (8, .int (nI 0))]) [3, 4, 5, 6, 7, 8, 2, 1, 0] rfl
          exact hL57 (nn_10 - 0) 0 (nI 1) ls H locs rfl (by omega) (by first | exact (xb_f (fun q => absurd q.1 (by omega))).symm | exact (xb_t ⟨by omega, rfl⟩).symm) hl hP hD hS
    have hl := lv_sub hl (l' := [(0, .ref ko), (1, .int a), (2, .int (nI nn_10)), (3, .int (nI 1000000)), (4, .int (nI 0)), (5, .int (nI 0))]) [4, 5, 3, 2, 1, 0] rfl
    have hP := hP.sub (ws' := [iA G (ad 0) 255 S, iA G (ad 4) 16 mk2_10, iA G (ad 6) 160 vs2_10, iA G (ad 7) 46 pr2_10, oC ko 6 [.ref (ad 0), .ref (ad 1), .int (nI w), .int (nI h), .int (nI la), .ref (ad 2), .int (mv 0), .int (mv 1), .int (mv 2), .int (mv 3), .int (mv 4), .int (mv 5), .int (mv 6), .ref (ad 3), .int (nI tp), .int (mv 7), .int (mv 8), .int (mv 9), .int (mv 10), .int ft, .int (mv 11), .ref (ad 4), .ref (ad 5), .ref (ad 6), .ref (ad 7), .ref (ad 8), .ref (ad 9), .ref (ad 10), .int tr]]) [1, 2, 3, 4, 0] rfl
    have hD := hD.sub (ws' := [iA G (ad 0) 255 S, iA G (ad 4) 16 mk2_10, iA G (ad 6) 160 vs2_10, iA G (ad 7) 46 pr2_10, oC ko 6 [.ref (ad 0), .ref (ad 1), .int (nI w), .int (nI h), .int (nI la), .ref (ad 2), .int (mv 0), .int (mv 1), .int (mv 2), .int (mv 3), .int (mv 4), .int (mv 5), .int (mv 6), .ref (ad 3), .int (nI tp), .int (mv 7), .int (mv 8), .int (mv 9), .int (mv 10), .int ft, .int (mv 11), .ref (ad 4), .ref (ad 5), .ref (ad 6), .ref (ad 7), .ref (ad 8), .ref (ad 9), .ref (ad 10), .int tr]]) [1, 2, 3, 4, 0] (by decide) rfl
    exact hL23 (2 ^ (w * h) - 0) 0 (nI 1000000) (nI 0) ls H locs rfl (by omega) (by rfl) hl hP hD hS
  · skip
    refine lv_iconst (v := (-1)) hx hb dX6_places_7 (by decide) ?_
    have hP := hP.sub (ws' := [oC ko 6 [.ref (ad 0), .ref (ad 1), .int (nI w), .int (nI h), .int (nI la), .ref (ad 2), .int (mv 0), .int (mv 1), .int (mv 2), .int (mv 3), .int (mv 4), .int (mv 5), .int (mv 6), .ref (ad 3), .int (nI tp), .int (mv 7), .int (mv 8), .int (mv 9), .int (mv 10), .int ft, .int (mv 11), .ref (ad 4), .ref (ad 5), .ref (ad 6), .ref (ad 7), .ref (ad 8), .ref (ad 9), .ref (ad 10), .int tr], iA G (ad 0) 255 S, iA G (ad 4) 16 mk, iA G (ad 6) 160 vs, iA G (ad 7) 46 pr]) [0, 1, 2, 3, 4] rfl
    have hD := hD.sub (ws' := [oC ko 6 [.ref (ad 0), .ref (ad 1), .int (nI w), .int (nI h), .int (nI la), .ref (ad 2), .int (mv 0), .int (mv 1), .int (mv 2), .int (mv 3), .int (mv 4), .int (mv 5), .int (mv 6), .ref (ad 3), .int (nI tp), .int (mv 7), .int (mv 8), .int (mv 9), .int (mv 10), .int ft, .int (mv 11), .ref (ad 4), .ref (ad 5), .ref (ad 6), .ref (ad 7), .ref (ad 8), .ref (ad 9), .ref (ad 10), .int tr], iA G (ad 0) 255 S, iA G (ad 4) 16 mk, iA G (ad 6) 160 vs, iA G (ad 7) 46 pr]) [0, 1, 2, 3, 4] (by decide) rfl
    refine W.iret (v := (-1)) hx hb hr (fun t ht hW => ⟨⟨(-1), (mk, vs, pr), rfl, ?_, by rw [ht]; exact hP, hD⟩, hS.F ht⟩) hS.2.2 dX6_places_8
    try dsimp only
    first | exact (if_neg b4).symm | (have hsc := swF_congr (2 ^ (w * h)) (P := (fun s => allF (fun i => !decide (pr2_10 i &&& s = 0)) nn_10)) (P' := plM w h la S nc) he10.2; rw [if_pos b4, ← hsc, show swF (fun s => allF (fun i => !decide (pr2_10 i &&& s = 0)) nn_10) (2 ^ (w * h)) = (fw, fo) from (by rw [hsw, show s = 2 ^ (w * h) by omega])]; first | exact (if_pos b127).symm | exact (if_neg b127).symm)

abbrev w_X6_drift (G : XG) (ko : Nat) (ad : Nat → Nat) (w h la tp : Nat) (ft tr : Int32) (mv : Nat → Int32) (S mk : Nat → Int32) : va_W := [oC ko 6 [.ref (ad 0), .ref (ad 1), .int (nI w), .int (nI h), .int (nI la), .ref (ad 2), .int (mv 0), .int (mv 1), .int (mv 2), .int (mv 3), .int (mv 4), .int (mv 5), .int (mv 6), .ref (ad 3), .int (nI tp), .int (mv 7), .int (mv 8), .int (mv 9), .int (mv 10), .int ft, .int (mv 11), .ref (ad 4), .ref (ad 5), .ref (ad 6), .ref (ad 7), .ref (ad 8), .ref (ad 9), .ref (ad 10), .int tr], iA G (ad 0) 255 S, iA G (ad 4) 16 mk]
abbrev Q_X6_drift (G : XG) (sz : Nat) (ko : Nat) (ad : Nat → Nat) (w h la tp : Nat) (ft tr : Int32) (mv : Nat → Int32) (S mk : Nat → Int32) (nc : Nat) (seed n a : Int32) : Array Value → State → Outcome → State → Prop := (va_Qi (fun (r : Int32) (u : (Nat → Int32)) => r = (if (1 ≤ n.toInt ∧ n.toInt ≤ 60) ∧ inR a 2 then (if a = 0 then xbits (fun c => decide ((drF (w * h) (tn n) seed (fun c => mkM S nc c la)) c = nI 0)) (w * h) else sgF w h (drF (w * h) (tn n) seed (fun c => mkM S nc c la)) 0) else (-1))) (xWb G sz (w_X6_drift G ko ad w h la tp ft tr mv S mk) (fun u : (Nat → Int32) => [oC ko 6 [.ref (ad 0), .ref (ad 1), .int (nI w), .int (nI h), .int (nI la), .ref (ad 2), .int (mv 0), .int (mv 1), .int (mv 2), .int (mv 3), .int (mv 4), .int (mv 5), .int (mv 6), .ref (ad 3), .int (nI tp), .int (mv 7), .int (mv 8), .int (mv 9), .int (mv 10), .int ft, .int (mv 11), .ref (ad 4), .ref (ad 5), .ref (ad 6), .ref (ad 7), .ref (ad 8), .ref (ad 9), .ref (ad 10), .int tr], iA G (ad 0) 255 S, iA G (ad 4) 16 u])) (va_A (w_X6_drift G ko ad w h la tp ft tr mv S mk) sz))
set_option maxHeartbeats 4000000 in
set_option maxRecDepth 100000 in
theorem c_X6_drift (l : Launch) (G : XG) (sz : Nat) (ko : Nat) (ad : Nat → Nat) (w h la tp : Nat) (ft tr : Int32) (mv : Nat → Int32) (S mk : Nat → Int32) (nc : Nat) (seed n a : Int32) (hw : 1 ≤ w) (hwb : w ≤ 16) (hhb : h ≤ 16) (hwh1 : 1 ≤ w * h) (hwh : w * h ≤ 16) (hla : la ≤ 9) (hs16 : S 16 = nI nc) (hnc : nc ≤ 10) : Met l yX6_drift wsX6_drift ({ frames := 3, cells := 0, slots := 0, locals := 67 } : Room) (va_Pc [.ref ko, .int seed, .int n, .int a] (xWp G sz (w_X6_drift G ko ad w h la tp ft tr mv S mk))) (Q_X6_drift G sz ko ad w h la tp ft tr mv S mk nc seed n a) 0 0 (va_A (w_X6_drift G ko ad w h la tp ft tr mv S mk) sz) := by
  refine Met.ofW (cc := cX6_drift) (maxL := 7) (ret := (some .int)) (by decide) rfl ?_
  intro pp ee ss mm aa below mt cd s₁ BB hml hv
  obtain ⟨rfl, hsz, hP, hK, hD0⟩ := hv
  have hx := BB.exec
  have hb := BB.bytes
  have hr := BB.returns
  have hts := atoms_spec (ws := wsX6_drift) BB.pre
  have hown : ss.vm.findClass RX6 = some mm.cls := findClass_of_methodNamed BB.named
  have hlocks := BB.notSynchronized
  subst hsz
  have hD := hD0.self (sz := ss.heap.size)
  have hA : ∀ q : Nat, ss.heap.size ≤ q → va_A (w_X6_drift G ko ad w h la tp ft tr mv S mk) ss.heap.size q := fun q h => Or.inr h
  have hS : va_S (va_A (w_X6_drift G ko ad w h la tp ft tr mv S mk) ss.heap.size) ss.heap ss.heap [] := va_S.rf
  replace hD : va_D (va_A (w_X6_drift G ko ad w h la tp ft tr mv S mk) ss.heap.size) [oC ko 6 [.ref (ad 0), .ref (ad 1), .int (nI w), .int (nI h), .int (nI la), .ref (ad 2), .int (mv 0), .int (mv 1), .int (mv 2), .int (mv 3), .int (mv 4), .int (mv 5), .int (mv 6), .ref (ad 3), .int (nI tp), .int (mv 7), .int (mv 8), .int (mv 9), .int (mv 10), .int ft, .int (mv 11), .ref (ad 4), .ref (ad 5), .ref (ad 6), .ref (ad 7), .ref (ad 8), .ref (ad 9), .ref (ad 10), .int tr], iA G (ad 0) 255 S, iA G (ad 4) 16 mk] := hD
  replace hP : xP G [oC ko 6 [.ref (ad 0), .ref (ad 1), .int (nI w), .int (nI h), .int (nI la), .ref (ad 2), .int (mv 0), .int (mv 1), .int (mv 2), .int (mv 3), .int (mv 4), .int (mv 5), .int (mv 6), .ref (ad 3), .int (nI tp), .int (mv 7), .int (mv 8), .int (mv 9), .int (mv 10), .int ft, .int (mv 11), .ref (ad 4), .ref (ad 5), .ref (ad 6), .ref (ad 7), .ref (ad 8), .ref (ad 9), .ref (ad 10), .int tr], iA G (ad 0) 255 S, iA G (ad 4) 16 mk] ss.heap := hP
  have hin6 : ∀ w ∈ u_ws RX6 TX6 29, w ∈ wsX6_drift := fun w h => List.mem_cons_of_mem _ (List.mem_append_right _ h)
  have hl := lv_entry ([.ref ko, .int seed, .int n, .int a]) (n := 7) (Nat.le_of_ble_eq_true rfl)
  rw [lg_entry_eq]
  generalize (lg_sl ([.ref ko, .int seed, .int n, .int a]) ++ List.replicate (7 - (lg_sl ([.ref ko, .int seed, .int n, .int a])).length) Slot.unset).toArray = ls at hl ⊢
  replace hl : lv_has ls 7 [(0, .ref ko), (1, .int seed), (2, .int n), (3, .int a)] := hl
  refine lv_iload_n hx hb dX6_drift_0 rfl (lv_at hl 2 rfl) ?_
  refine xi_i2l hx hb dX6_drift_1 ?_
  refine lv_lconst (v := lN 1) hx hb dX6_drift_2 (by decide) ?_
  refine lv_ldc2 (v := lN 60) hx hb hown (hts (.constantLong RX6 256 (lN 60)) (List.mem_of_getElem? (i := 1) rfl)) dX6_drift_3 ?_
  refine xs_i (As := [.long n.toInt64, .long (lN 1), .long (lN 60)]) (rest := []) ⟨hx, hb, hml, hown, hts⟩ (c_X6_in l G n.toInt64 (lN 1) (lN 60) ) (va_cwS 3 hts gX6_drift_X6_in rfl rfl rfl (by decide +kernel) ⟨Nat.le_of_ble_eq_true rfl, Nat.le_of_ble_eq_true rfl⟩) hP hS rfl hl.1 rfl (Nat.le_of_ble_eq_true rfl) dX6_drift_6 ⟨Nat.zero_le _, Nat.zero_le _⟩ (fun r6 H locs hp6 hP hS => ?_)
  rw [show r6 = _ from hp6]
  refine xb_if_eq (tgt := 19) hx hb dX6_drift_9 rfl (fun b9 => ?_) (fun b9 => ?_)
  · skip
    have b9 : ¬ (1 ≤ n.toInt ∧ n.toInt ≤ 60) := (fun q => b9 (by rw [i64_toInt, lN_toInt' (by omega), lN_toInt' (by omega)]; omega))
    refine lv_iconst (v := (-1)) hx hb dX6_drift_19 (by decide) ?_
    have hP := hP.sub (ws' := [oC ko 6 [.ref (ad 0), .ref (ad 1), .int (nI w), .int (nI h), .int (nI la), .ref (ad 2), .int (mv 0), .int (mv 1), .int (mv 2), .int (mv 3), .int (mv 4), .int (mv 5), .int (mv 6), .ref (ad 3), .int (nI tp), .int (mv 7), .int (mv 8), .int (mv 9), .int (mv 10), .int ft, .int (mv 11), .ref (ad 4), .ref (ad 5), .ref (ad 6), .ref (ad 7), .ref (ad 8), .ref (ad 9), .ref (ad 10), .int tr], iA G (ad 0) 255 S, iA G (ad 4) 16 mk]) [0, 1, 2] rfl
    have hD := hD.sub (ws' := [oC ko 6 [.ref (ad 0), .ref (ad 1), .int (nI w), .int (nI h), .int (nI la), .ref (ad 2), .int (mv 0), .int (mv 1), .int (mv 2), .int (mv 3), .int (mv 4), .int (mv 5), .int (mv 6), .ref (ad 3), .int (nI tp), .int (mv 7), .int (mv 8), .int (mv 9), .int (mv 10), .int ft, .int (mv 11), .ref (ad 4), .ref (ad 5), .ref (ad 6), .ref (ad 7), .ref (ad 8), .ref (ad 9), .ref (ad 10), .int tr], iA G (ad 0) 255 S, iA G (ad 4) 16 mk]) [0, 1, 2] (by decide) rfl
    refine W.iret (v := (-1)) hx hb hr (fun t ht hW => ⟨⟨(-1), (mk), rfl, ?_, by rw [ht]; exact hP, hD⟩, hS.F ht⟩) hS.2.2 dX6_drift_20
    first | exact (if_neg (fun q => b9 q.1)).symm | exact (if_neg (fun q => b16 q.2)).symm | (have hrow : ∀ c, c < 16 → mk3 c = drF (w * h) n0 seed (fun c => mkM S nc c la) c := fun c q => (by rw [hdr c q, show n0 - i = 0 by omega, drF]); rw [if_pos ⟨by omega, b16⟩, tn_nI (by omega)]; first | (rw [if_pos b154, hbits, show c = w * h by omega]; exact xbits_congr _ (fun c q => by rw [← hrow c (by omega)])) | (rw [if_neg b154]; exact sgF_congr (by omega) (by omega) (fun c q => hrow c (by omega))))
  · skip
    have b9 : 1 ≤ n.toInt ∧ n.toInt ≤ 60 := (by rw [i64_toInt, lN_toInt' (by omega), lN_toInt' (by omega)] at b9; omega)
    refine lv_iload_n hx hb dX6_drift_12 rfl (lv_at hl 3 rfl) ?_
    refine xs_i (As := [.int a]) (rest := []) ⟨hx, hb, hml, hown, hts⟩ (c_X6_isPart l G a ) (va_cwS 1 hts gX6_drift_X6_isPart rfl rfl rfl (by decide +kernel) ⟨Nat.le_of_ble_eq_true rfl, Nat.le_of_ble_eq_true rfl⟩) hP hS rfl hl.1 rfl (Nat.le_of_ble_eq_true rfl) dX6_drift_13 ⟨Nat.zero_le _, Nat.zero_le _⟩ (fun r13 H locs hp13 hP hS => ?_)
    rw [show r13 = _ from hp13]
    refine xb_if_ne (tgt := 21) hx hb dX6_drift_16 rfl (fun b16 => ?_) (fun b16 => ?_)
    · skip
      have hnn : inR n 61 := (by unfold inR; omega)
      obtain ⟨n0, hn0, rfl⟩ := inR_nat hnn
      have hn1 := nI_toInt (n := n0) (by omega)
      refine lv_aload_n hx hb dX6_drift_21 rfl (lv_at hl 0 rfl) ?_
      refine lv_aload_n hx hb dX6_drift_22 rfl (lv_at hl 0 rfl) ?_
      refine va_get (D := G.1) (ci := 6) (v := .int (nI la)) (C := RX6) (T := TX6) (N := 29) hx hb hts hin6 hown hK.1 hP 0 rfl rfl 4 (by decide) (hts (.fieldLink RX6 78 "BackLensesModel" "last" "I") (List.mem_of_getElem? (i := 2) rfl)) (fun _ h9 => h9) rfl dX6_drift_23 ?_
      refine xw_v (As := [.int (nI la)]) (rest := []) (wr := []) ⟨hx, hb, hml, hown, hts⟩ (c_X6_shiftTo l G H.size ko ad w h la tp ft tr mv S mk nc la (by first | assumption | omega) (by first | assumption | omega) (by first | assumption | omega)) (cwV 1 hts gX6_drift_X6_shiftTo rfl rfl rfl (by decide +kernel) ⟨Nat.le_of_ble_eq_true rfl, Nat.le_of_ble_eq_true rfl⟩) hK hP hD hS hA [0, 1, 2] [] rfl rfl (by decide) (by decide) (by decide) rfl rfl rfl hl.1 rfl (Nat.le_of_ble_eq_true rfl) dX6_drift_26 ⟨Nat.le_of_ble_eq_true rfl, Nat.le_of_ble_eq_true rfl⟩ (fun u H locs hp26 hP hD hS => ?_)
      obtain ⟨mk2_26, rfl⟩ : ∃ z, z = u := ⟨_, rfl⟩
      try dsimp only at hp26 hP hD
      have he26 := hp26
      replace hP : xP G [oC ko 6 [.ref (ad 0), .ref (ad 1), .int (nI w), .int (nI h), .int (nI la), .ref (ad 2), .int (mv 0), .int (mv 1), .int (mv 2), .int (mv 3), .int (mv 4), .int (mv 5), .int (mv 6), .ref (ad 3), .int (nI tp), .int (mv 7), .int (mv 8), .int (mv 9), .int (mv 10), .int ft, .int (mv 11), .ref (ad 4), .ref (ad 5), .ref (ad 6), .ref (ad 7), .ref (ad 8), .ref (ad 9), .ref (ad 10), .int tr], iA G (ad 0) 255 S, iA G (ad 4) 16 mk2_26] H := hP
      replace hD : va_D (va_A (w_X6_drift G ko ad w h la tp ft tr mv S mk) ss.heap.size) [oC ko 6 [.ref (ad 0), .ref (ad 1), .int (nI w), .int (nI h), .int (nI la), .ref (ad 2), .int (mv 0), .int (mv 1), .int (mv 2), .int (mv 3), .int (mv 4), .int (mv 5), .int (mv 6), .ref (ad 3), .int (nI tp), .int (mv 7), .int (mv 8), .int (mv 9), .int (mv 10), .int ft, .int (mv 11), .ref (ad 4), .ref (ad 5), .ref (ad 6), .ref (ad 7), .ref (ad 8), .ref (ad 9), .ref (ad 10), .int tr], iA G (ad 0) 255 S, iA G (ad 4) 16 mk2_26] := hD
      refine lv_iload_n hx hb dX6_drift_29 rfl (lv_at hl 1 rfl) ?_
      refine lv_istore (lv' := [(4, .int seed), (0, .ref ko), (1, .int seed), (2, .int (nI n0)), (3, .int a)]) hx hb dX6_drift_30 hl (by decide) rfl (fun ls hl => ?_)
      refine lv_iconst (v := nI 0) hx hb dX6_drift_32 (by decide) ?_
      refine lv_istore (lv' := [(5, .int (nI 0)), (4, .int seed), (0, .ref ko), (1, .int seed), (2, .int (nI n0)), (3, .int a)]) hx hb dX6_drift_33 hl (by decide) rfl (fun ls hl => ?_)
      have hL35 : ∀ k : Nat, ∀ (i : Nat) (s : Int32) (mk3 : Nat → Int32) (ls : Array Slot) (H : Heap) (locs : List Loc), n0 - i = k → (i ≤ n0) → (∀ c, c < 16 → drF (w * h) n0 seed (fun c => mkM S nc c la) c = drF (w * h) (n0 - i) s mk3 c) → lv_has ls 7 [(0, .ref ko), (1, .int seed), (2, .int (nI n0)), (3, .int a), (4, .int s), (5, .int (nI i))] → xP G [iA G (ad 0) 255 S, iA G (ad 4) 16 mk3, oC ko 6 [.ref (ad 0), .ref (ad 1), .int (nI w), .int (nI h), .int (nI la), .ref (ad 2), .int (mv 0), .int (mv 1), .int (mv 2), .int (mv 3), .int (mv 4), .int (mv 5), .int (mv 6), .ref (ad 3), .int (nI tp), .int (mv 7), .int (mv 8), .int (mv 9), .int (mv 10), .int ft, .int (mv 11), .ref (ad 4), .ref (ad 5), .ref (ad 6), .ref (ad 7), .ref (ad 8), .ref (ad 9), .ref (ad 10), .int tr]] H → va_D (va_A (w_X6_drift G ko ad w h la tp ft tr mv S mk) ss.heap.size) [iA G (ad 0) 255 S, iA G (ad 4) 16 mk3, oC ko 6 [.ref (ad 0), .ref (ad 1), .int (nI w), .int (nI h), .int (nI la), .ref (ad 2), .int (mv 0), .int (mv 1), .int (mv 2), .int (mv 3), .int (mv 4), .int (mv 5), .int (mv 6), .ref (ad 3), .int (nI tp), .int (mv 7), .int (mv 8), .int (mv 9), .int (mv 10), .int ft, .int (mv 11), .ref (ad 4), .ref (ad 5), .ref (ad 6), .ref (ad 7), .ref (ad 8), .ref (ad 9), .ref (ad 10), .int tr]] → va_S (va_A (w_X6_drift G ko ad w h la tp ft tr mv S mk) ss.heap.size) ss.heap H locs → W pp l ee ({ frames := 3, cells := 0, slots := 0, locals := 67 } : Room) ss mm ([.ref ko, .int seed, .int (nI n0), .int a] : List Value).toArray below mt cd H locs 0 0 (MQ below (Q_X6_drift G ss.heap.size ko ad w h la tp ft tr mv S mk nc seed (nI n0) a) ([.ref ko, .int seed, .int (nI n0), .int a] : List Value).toArray ss 0 0 (va_A (w_X6_drift G ko ad w h la tp ft tr mv S mk) ss.heap.size)) (F0 mm 35 ls []) := by
        intro k
        induction k using Nat.strongRecOn with
        | _ k ih35 =>
        intro i s mk3 ls H locs hm35 hi hdr hl hP hD hS
        refine lv_iload hx hb dX6_drift_35 (lv_at hl 5 rfl) ?_
        refine lv_iload_n hx hb dX6_drift_37 rfl (lv_at hl 2 rfl) ?_
        refine xn_icmp_ge (tgt := 106) hx hb (by omega) (by omega) dX6_drift_38 rfl (fun b38 => ?_) (fun b38 => ?_)
        · skip
          refine lv_iconst (v := nI 0) hx hb dX6_drift_106 (by decide) ?_
          refine lv_istore (lv' := [(5, .int (nI 0)), (0, .ref ko), (1, .int seed), (2, .int (nI n0)), (3, .int a), (4, .int s)]) hx hb dX6_drift_107 hl (by decide) rfl (fun ls hl => ?_)
          refine lv_iconst (v := nI 0) hx hb dX6_drift_109 (by decide) ?_
          refine lv_istore (lv' := [(6, .int (nI 0)), (5, .int (nI 0)), (0, .ref ko), (1, .int seed), (2, .int (nI n0)), (3, .int a), (4, .int s)]) hx hb dX6_drift_110 hl (by decide) rfl (fun ls hl => ?_)
          have hL112 : ∀ k : Nat, ∀ (c : Nat) (bits : Int32) (ls : Array Slot) (H : Heap) (locs : List Loc), w * h - c = k → (c ≤ w * h) → (bits = xbits (fun c => decide (mk3 c = nI 0)) c) → lv_has ls 7 [(0, .ref ko), (1, .int seed), (2, .int (nI n0)), (3, .int a), (4, .int s), (5, .int bits), (6, .int (nI c))] → xP G [iA G (ad 0) 255 S, iA G (ad 4) 16 mk3, oC ko 6 [.ref (ad 0), .ref (ad 1), .int (nI w), .int (nI h), .int (nI la), .ref (ad 2), .int (mv 0), .int (mv 1), .int (mv 2), .int (mv 3), .int (mv 4), .int (mv 5), .int (mv 6), .ref (ad 3), .int (nI tp), .int (mv 7), .int (mv 8), .int (mv 9), .int (mv 10), .int ft, .int (mv 11), .ref (ad 4), .ref (ad 5), .ref (ad 6), .ref (ad 7), .ref (ad 8), .ref (ad 9), .ref (ad 10), .int tr]] H → va_D (va_A (w_X6_drift G ko ad w h la tp ft tr mv S mk) ss.heap.size) [iA G (ad 0) 255 S, iA G (ad 4) 16 mk3, oC ko 6 [.ref (ad 0), .ref (ad 1), .int (nI w), .int (nI h), .int (nI la), .ref (ad 2), .int (mv 0), .int (mv 1), .int (mv 2), .int (mv 3), .int (mv 4), .int (mv 5), .int (mv 6), .ref (ad 3), .int (nI tp), .int (mv 7), .int (mv 8), .int (mv 9), .int (mv 10), .int ft, .int (mv 11), .ref (ad 4), .ref (ad 5), .ref (ad 6), .ref (ad 7), .ref (ad 8), .ref (ad 9), .ref (ad 10), .int tr]] → va_S (va_A (w_X6_drift G ko ad w h la tp ft tr mv S mk) ss.heap.size) ss.heap H locs → W pp l ee ({ frames := 3, cells := 0, slots := 0, locals := 67 } : Room) ss mm ([.ref ko, .int seed, .int (nI n0), .int a] : List Value).toArray below mt cd H locs 0 0 (MQ below (Q_X6_drift G ss.heap.size ko ad w h la tp ft tr mv S mk nc seed (nI n0) a) ([.ref ko, .int seed, .int (nI n0), .int a] : List Value).toArray ss 0 0 (va_A (w_X6_drift G ko ad w h la tp ft tr mv S mk) ss.heap.size)) (F0 mm 112 ls []) := by
            intro k
            induction k using Nat.strongRecOn with
            | _ k ih112 =>
            intro c bits ls H locs hm112 hci hbits hl hP hD hS
            refine lv_iload hx hb dX6_drift_112 (lv_at hl 6 rfl) ?_
            refine lv_aload_n hx hb dX6_drift_114 rfl (lv_at hl 0 rfl) ?_
            refine xr_i (As := []) (rest := [.int (nI c)]) ⟨hx, hb, hml, hown, hts⟩ (c_X6_cellsNow l G ko ad w h la tp ft tr mv ) (cwV 0 hts gX6_drift_X6_cellsNow rfl rfl rfl (by decide +kernel) ⟨Nat.le_of_ble_eq_true rfl, Nat.le_of_ble_eq_true rfl⟩) hK hP hS [2] rfl rfl rfl rfl hl.1 rfl (Nat.le_of_ble_eq_true rfl) dX6_drift_115 ⟨Nat.zero_le _, Nat.zero_le _⟩ (fun r115 H locs hp115 hP hS => ?_)
            rw [show r115 = _ from hp115]
            refine xn_icmp_ge (tgt := 153) hx hb (by omega) (by omega) dX6_drift_118 rfl (fun b118 => ?_) (fun b118 => ?_)
            · skip
              refine lv_iload_n hx hb dX6_drift_153 rfl (lv_at hl 3 rfl) ?_
              refine lv_if_ne (tgt := 162) hx hb dX6_drift_154 rfl (fun b154 => ?_) (fun b154 => ?_)
              · skip
                refine lv_aload_n hx hb dX6_drift_162 rfl (lv_at hl 0 rfl) ?_
                refine lv_iconst (v := nI 0) hx hb dX6_drift_163 (by decide) ?_
                refine xr_i (As := [.int (nI 0)]) (rest := []) ⟨hx, hb, hml, hown, hts⟩ (c_X6_sight l G ko ad w h la tp ft tr mv mk3 0 (by first | assumption | omega) (by first | assumption | omega) (by first | assumption | omega) (by first | assumption | omega) (by first | assumption | omega)) (cwV 1 hts gX6_drift_X6_sight rfl rfl rfl (by decide +kernel) ⟨Nat.le_of_ble_eq_true rfl, Nat.le_of_ble_eq_true rfl⟩) hK hP hS [2, 1] rfl rfl rfl rfl hl.1 rfl (Nat.le_of_ble_eq_true rfl) dX6_drift_164 ⟨Nat.zero_le _, Nat.zero_le _⟩ (fun r164 H locs hp164 hP hS => ?_)
                rw [show r164 = _ from hp164]
                have hP := hP.sub (ws' := [oC ko 6 [.ref (ad 0), .ref (ad 1), .int (nI w), .int (nI h), .int (nI la), .ref (ad 2), .int (mv 0), .int (mv 1), .int (mv 2), .int (mv 3), .int (mv 4), .int (mv 5), .int (mv 6), .ref (ad 3), .int (nI tp), .int (mv 7), .int (mv 8), .int (mv 9), .int (mv 10), .int ft, .int (mv 11), .ref (ad 4), .ref (ad 5), .ref (ad 6), .ref (ad 7), .ref (ad 8), .ref (ad 9), .ref (ad 10), .int tr], iA G (ad 0) 255 S, iA G (ad 4) 16 mk3]) [2, 0, 1] rfl
                have hD := hD.sub (ws' := [oC ko 6 [.ref (ad 0), .ref (ad 1), .int (nI w), .int (nI h), .int (nI la), .ref (ad 2), .int (mv 0), .int (mv 1), .int (mv 2), .int (mv 3), .int (mv 4), .int (mv 5), .int (mv 6), .ref (ad 3), .int (nI tp), .int (mv 7), .int (mv 8), .int (mv 9), .int (mv 10), .int ft, .int (mv 11), .ref (ad 4), .ref (ad 5), .ref (ad 6), .ref (ad 7), .ref (ad 8), .ref (ad 9), .ref (ad 10), .int tr], iA G (ad 0) 255 S, iA G (ad 4) 16 mk3]) [2, 0, 1] (by decide) rfl
                refine W.iret (v := sgF w h mk3 0) hx hb hr (fun t ht hW => ⟨⟨sgF w h mk3 0, (mk3), rfl, ?_, by rw [ht]; exact hP, hD⟩, hS.F ht⟩) hS.2.2 dX6_drift_167
                first | exact (if_neg (fun q => b9 q.1)).symm | exact (if_neg (fun q => b16 q.2)).symm | (have hrow : ∀ c, c < 16 → mk3 c = drF (w * h) n0 seed (fun c => mkM S nc c la) c := fun c q => (by rw [hdr c q, show n0 - i = 0 by omega, drF]); rw [if_pos ⟨by omega, b16⟩, tn_nI (by omega)]; first | (rw [if_pos b154, hbits, show c = w * h by omega]; exact xbits_congr _ (fun c q => by rw [← hrow c (by omega)])) | (rw [if_neg b154]; exact sgF_congr (by omega) (by omega) (fun c q => hrow c (by omega))))
              · skip
                refine lv_iload hx hb dX6_drift_157 (lv_at hl 5 rfl) ?_
                refine lv_goto (tgt := 167) hx hb dX6_drift_159 rfl ?_
                have hP := hP.sub (ws' := [oC ko 6 [.ref (ad 0), .ref (ad 1), .int (nI w), .int (nI h), .int (nI la), .ref (ad 2), .int (mv 0), .int (mv 1), .int (mv 2), .int (mv 3), .int (mv 4), .int (mv 5), .int (mv 6), .ref (ad 3), .int (nI tp), .int (mv 7), .int (mv 8), .int (mv 9), .int (mv 10), .int ft, .int (mv 11), .ref (ad 4), .ref (ad 5), .ref (ad 6), .ref (ad 7), .ref (ad 8), .ref (ad 9), .ref (ad 10), .int tr], iA G (ad 0) 255 S, iA G (ad 4) 16 mk3]) [2, 0, 1] rfl
                have hD := hD.sub (ws' := [oC ko 6 [.ref (ad 0), .ref (ad 1), .int (nI w), .int (nI h), .int (nI la), .ref (ad 2), .int (mv 0), .int (mv 1), .int (mv 2), .int (mv 3), .int (mv 4), .int (mv 5), .int (mv 6), .ref (ad 3), .int (nI tp), .int (mv 7), .int (mv 8), .int (mv 9), .int (mv 10), .int ft, .int (mv 11), .ref (ad 4), .ref (ad 5), .ref (ad 6), .ref (ad 7), .ref (ad 8), .ref (ad 9), .ref (ad 10), .int tr], iA G (ad 0) 255 S, iA G (ad 4) 16 mk3]) [2, 0, 1] (by decide) rfl
                refine W.iret (v := bits) hx hb hr (fun t ht hW => ⟨⟨bits, (mk3), rfl, ?_, by rw [ht]; exact hP, hD⟩, hS.F ht⟩) hS.2.2 dX6_drift_167
                first | exact (if_neg (fun q => b9 q.1)).symm | exact (if_neg (fun q => b16 q.2)).symm | (have hrow : ∀ c, c < 16 → mk3 c = drF (w * h) n0 seed (fun c => mkM S nc c la) c := fun c q => (by rw [hdr c q, show n0 - i = 0 by omega, drF]); rw [if_pos ⟨by omega, b16⟩, tn_nI (by omega)]; first | (rw [if_pos b154, hbits, show c = w * h by omega]; exact xbits_congr _ (fun c q => by rw [← hrow c (by omega)])) | (rw [if_neg b154]; exact sgF_congr (by omega) (by omega) (fun c q => hrow c (by omega))))
            · skip
              refine lv_iload hx hb dX6_drift_121 (lv_at hl 5 rfl) ?_
              refine lv_aload_n hx hb dX6_drift_123 rfl (lv_at hl 0 rfl) ?_
              refine va_get (D := G.1) (ci := 6) (v := .ref (ad 4)) (C := RX6) (T := TX6) (N := 29) hx hb hts hin6 hown hK.1 hP 2 rfl rfl 21 (by decide) (hts (.fieldLink RX6 23 "BackLensesModel" "marks" "[I") (List.mem_of_getElem? (i := 4) rfl)) (fun _ h9 => h9) rfl dX6_drift_124 ?_
              refine lv_iload hx hb dX6_drift_127 (lv_at hl 6 rfl) ?_
              refine xn_iald hx hb hK hP 1 rfl (by omega) (by omega) dX6_drift_129 ?_
              refine lv_if_ne (tgt := 137) hx hb dX6_drift_130 rfl (fun b130 => ?_) (fun b130 => ?_)
              · skip
                refine lv_iconst (v := nI 0) hx hb dX6_drift_137 (by decide) ?_
                refine xs_i (As := [.int (nI 0)]) (rest := [.int bits]) ⟨hx, hb, hml, hown, hts⟩ (c_X6_flag_0 l G) (va_cwS 1 hts gX6_drift_X6_flag rfl rfl rfl (by decide +kernel) ⟨Nat.le_of_ble_eq_true rfl, Nat.le_of_ble_eq_true rfl⟩) hP hS rfl hl.1 rfl (Nat.le_of_ble_eq_true rfl) dX6_drift_138 ⟨Nat.zero_le _, Nat.zero_le _⟩ (fun r138 H locs hp138 hP hS => ?_)
                rw [show r138 = _ from hp138]
                refine lv_iload hx hb dX6_drift_141 (lv_at hl 6 rfl) ?_
                refine lv_ishl hx hb dX6_drift_143 ?_
                refine lv_ior hx hb dX6_drift_144 ?_
                refine lv_istore (lv' := [(5, .int (bits ||| ((nI 0) <<< ((nI c) &&& 31)))), (0, .ref ko), (1, .int seed), (2, .int (nI n0)), (3, .int a), (4, .int s), (6, .int (nI c))]) hx hb dX6_drift_145 hl (by decide) rfl (fun ls hl => ?_)
                refine lv_iinc (k := 6) (v := nI (c + 1)) (lv' := [(6, .int (nI (c + 1))), (5, .int (bits ||| ((nI 0) <<< ((nI c) &&& 31)))), (0, .ref ko), (1, .int seed), (2, .int (nI n0)), (3, .int a), (4, .int s)]) hx hb dX6_drift_147 hl rfl (xn_inc c 1) (by decide) rfl (fun ls hl => ?_)
                refine lv_goto (tgt := 112) hx hb dX6_drift_150 rfl ?_
                have hl := lv_sub hl (l' := [(0, .ref ko), (1, .int seed), (2, .int (nI n0)), (3, .int a), (4, .int s), (5, .int (bits ||| ((nI 0) <<< ((nI c) &&& 31)))), (6, .int (nI (c + 1)))]) [2, 3, 4, 5, 6, 1, 0] rfl
                exact ih112 (w * h - (c + 1)) (by omega) (c + 1) (bits ||| ((nI 0) <<< ((nI c) &&& 31))) ls H locs rfl (by omega) (by first | exact xbits_T (decide_eq_true b130) hbits | exact xbits_Z (decide_eq_false b130) hbits) hl hP hD hS
              · skip
                refine lv_iconst (v := nI 1) hx hb dX6_drift_133 (by decide) ?_
                refine lv_goto (tgt := 138) hx hb dX6_drift_134 rfl ?_
                refine xs_i (As := [.int (nI 1)]) (rest := [.int bits]) ⟨hx, hb, hml, hown, hts⟩ (c_X6_flag_1 l G) (va_cwS 1 hts gX6_drift_X6_flag rfl rfl rfl (by decide +kernel) ⟨Nat.le_of_ble_eq_true rfl, Nat.le_of_ble_eq_true rfl⟩) hP hS rfl hl.1 rfl (Nat.le_of_ble_eq_true rfl) dX6_drift_138 ⟨Nat.zero_le _, Nat.zero_le _⟩ (fun r138 H locs hp138 hP hS => ?_)
                rw [show r138 = _ from hp138]
                refine lv_iload hx hb dX6_drift_141 (lv_at hl 6 rfl) ?_
                refine lv_ishl hx hb dX6_drift_143 ?_
                refine lv_ior hx hb dX6_drift_144 ?_
                refine lv_istore (lv' := [(5, .int (bits ||| ((nI 1) <<< ((nI c) &&& 31)))), (0, .ref ko), (1, .int seed), (2, .int (nI n0)), (3, .int a), (4, .int s), (6, .int (nI c))]) hx hb dX6_drift_145 hl (by decide) rfl (fun ls hl => ?_)
                refine lv_iinc (k := 6) (v := nI (c + 1)) (lv' := [(6, .int (nI (c + 1))), (5, .int (bits ||| ((nI 1) <<< ((nI c) &&& 31)))), (0, .ref ko), (1, .int seed), (2, .int (nI n0)), (3, .int a), (4, .int s)]) hx hb dX6_drift_147 hl rfl (xn_inc c 1) (by decide) rfl (fun ls hl => ?_)
                refine lv_goto (tgt := 112) hx hb dX6_drift_150 rfl ?_
                have hl := lv_sub hl (l' := [(0, .ref ko), (1, .int seed), (2, .int (nI n0)), (3, .int a), (4, .int s), (5, .int (bits ||| ((nI 1) <<< ((nI c) &&& 31)))), (6, .int (nI (c + 1)))]) [2, 3, 4, 5, 6, 1, 0] rfl
                exact ih112 (w * h - (c + 1)) (by omega) (c + 1) (bits ||| ((nI 1) <<< ((nI c) &&& 31))) ls H locs rfl (by omega) (by first | exact xbits_T (decide_eq_true b130) hbits | exact xbits_Z (decide_eq_false b130) hbits) hl hP hD hS
          have hl := lv_sub hl (l' := [(0, .ref ko), (1, .int seed), (2, .int (nI n0)), (3, .int a), (4, .int s), (5, .int (nI 0)), (6, .int (nI 0))]) [2, 3, 4, 5, 6, 1, 0] rfl
          exact hL112 (w * h - 0) 0 (nI 0) ls H locs rfl (by omega) (by rfl) hl hP hD hS
        · skip
          refine lv_iload hx hb dX6_drift_41 (lv_at hl 4 rfl) ?_
          refine lv_ldcw (v := nI 1103515245) hx hb hown (hts (.constant RX6 258 (nI 1103515245)) (List.mem_of_getElem? (i := 3) rfl)) dX6_drift_43 ?_
          refine lv_imul hx hb dX6_drift_46 ?_
          refine lv_sipush (v := nI 12345) hx hb dX6_drift_47 (by decide) ?_
          refine lv_iadd hx hb dX6_drift_50 ?_
          refine xn_top (y := nxD s) rfl ?_
          refine lv_istore (lv' := [(4, .int (nxD s)), (0, .ref ko), (1, .int seed), (2, .int (nI n0)), (3, .int a), (5, .int (nI i))]) hx hb dX6_drift_51 hl (by decide) rfl (fun ls hl => ?_)
          refine lv_iload hx hb dX6_drift_53 (lv_at hl 0 rfl) ?_
          refine lv_bipush (v := nI 16) hx hb dX6_drift_55 (by decide) ?_
          refine lv_ishr hx hb dX6_drift_57 ?_
          refine lv_sipush (v := nI 32767) hx hb dX6_drift_58 (by decide) ?_
          refine lv_iand hx hb dX6_drift_61 ?_
          have hdl := drw_lt (nxD s)
          have hdm := Nat.mod_lt (drw (nxD s)) (show 0 < w * h by omega)
          refine xn_top (drw_s (nxD s)) ?_
          refine lv_aload_n hx hb dX6_drift_62 rfl (lv_at hl 1 rfl) ?_
          refine xr_i (As := []) (rest := [.int (nI (drw (nxD s)))]) ⟨hx, hb, hml, hown, hts⟩ (c_X6_cellsNow l G ko ad w h la tp ft tr mv ) (cwV 0 hts gX6_drift_X6_cellsNow rfl rfl rfl (by decide +kernel) ⟨Nat.le_of_ble_eq_true rfl, Nat.le_of_ble_eq_true rfl⟩) hK hP hS [2] rfl rfl rfl rfl hl.1 rfl (Nat.le_of_ble_eq_true rfl) dX6_drift_63 ⟨Nat.zero_le _, Nat.zero_le _⟩ (fun r63 H locs hp63 hP hS => ?_)
          rw [show r63 = _ from hp63]
          refine xn_irem hx hb (by omega) (by omega) (by omega) dX6_drift_66 ?_
          refine lv_istore (lv' := [(6, .int (nI ((drw (nxD s)) % (w * h)))), (4, .int (nxD s)), (0, .ref ko), (1, .int seed), (2, .int (nI n0)), (3, .int a), (5, .int (nI i))]) hx hb dX6_drift_67 hl (by decide) rfl (fun ls hl => ?_)
          refine lv_iload hx hb dX6_drift_69 (lv_at hl 1 rfl) ?_
          refine lv_ldcw (v := nI 1103515245) hx hb hown (hts (.constant RX6 258 (nI 1103515245)) (List.mem_of_getElem? (i := 3) rfl)) dX6_drift_71 ?_
          refine lv_imul hx hb dX6_drift_74 ?_
          refine lv_sipush (v := nI 12345) hx hb dX6_drift_75 (by decide) ?_
          refine lv_iadd hx hb dX6_drift_78 ?_
          refine xn_top (y := nxD (nxD s)) rfl ?_
          refine lv_istore (lv' := [(4, .int (nxD (nxD s))), (6, .int (nI ((drw (nxD s)) % (w * h)))), (0, .ref ko), (1, .int seed), (2, .int (nI n0)), (3, .int a), (5, .int (nI i))]) hx hb dX6_drift_79 hl (by decide) rfl (fun ls hl => ?_)
          refine lv_aload_n hx hb dX6_drift_81 rfl (lv_at hl 2 rfl) ?_
          refine va_get (D := G.1) (ci := 6) (v := .ref (ad 4)) (C := RX6) (T := TX6) (N := 29) hx hb hts hin6 hown hK.1 hP 2 rfl rfl 21 (by decide) (hts (.fieldLink RX6 23 "BackLensesModel" "marks" "[I") (List.mem_of_getElem? (i := 4) rfl)) (fun _ h9 => h9) rfl dX6_drift_82 ?_
          refine lv_iload hx hb dX6_drift_85 (lv_at hl 1 rfl) ?_
          refine lv_iload hx hb dX6_drift_87 (lv_at hl 0 rfl) ?_
          refine lv_bipush (v := nI 16) hx hb dX6_drift_89 (by decide) ?_
          refine lv_ishr hx hb dX6_drift_91 ?_
          refine lv_sipush (v := nI 32767) hx hb dX6_drift_92 (by decide) ?_
          refine lv_iand hx hb dX6_drift_95 ?_
          have hdl2 := drw_lt (nxD (nxD s))
          refine xn_top (drw_s (nxD (nxD s))) ?_
          refine lv_bipush (v := nI 6) hx hb dX6_drift_96 (by decide) ?_
          refine xn_irem hx hb (by omega) (by omega) (by omega) dX6_drift_98 ?_
          refine xn_iast hx hb hK hP hD hS 1 rfl (by omega) (by omega) dX6_drift_99 (fun H locs hP hD hS => ?_)
          replace hP : xP G [iA G (ad 0) 255 S, iA G (ad 4) 16 (upd mk3 ((drw (nxD s)) % (w * h)) (nI ((drw (nxD (nxD s))) % 6))), oC ko 6 [.ref (ad 0), .ref (ad 1), .int (nI w), .int (nI h), .int (nI la), .ref (ad 2), .int (mv 0), .int (mv 1), .int (mv 2), .int (mv 3), .int (mv 4), .int (mv 5), .int (mv 6), .ref (ad 3), .int (nI tp), .int (mv 7), .int (mv 8), .int (mv 9), .int (mv 10), .int ft, .int (mv 11), .ref (ad 4), .ref (ad 5), .ref (ad 6), .ref (ad 7), .ref (ad 8), .ref (ad 9), .ref (ad 10), .int tr]] H := hP
          replace hD : va_D (va_A (w_X6_drift G ko ad w h la tp ft tr mv S mk) ss.heap.size) [iA G (ad 0) 255 S, iA G (ad 4) 16 (upd mk3 ((drw (nxD s)) % (w * h)) (nI ((drw (nxD (nxD s))) % 6))), oC ko 6 [.ref (ad 0), .ref (ad 1), .int (nI w), .int (nI h), .int (nI la), .ref (ad 2), .int (mv 0), .int (mv 1), .int (mv 2), .int (mv 3), .int (mv 4), .int (mv 5), .int (mv 6), .ref (ad 3), .int (nI tp), .int (mv 7), .int (mv 8), .int (mv 9), .int (mv 10), .int ft, .int (mv 11), .ref (ad 4), .ref (ad 5), .ref (ad 6), .ref (ad 7), .ref (ad 8), .ref (ad 9), .ref (ad 10), .int tr]] := hD
          refine lv_iinc (k := 6) (v := nI (i + 1)) (lv' := [(5, .int (nI (i + 1))), (4, .int (nxD (nxD s))), (6, .int (nI ((drw (nxD s)) % (w * h)))), (0, .ref ko), (1, .int seed), (2, .int (nI n0)), (3, .int a)]) hx hb dX6_drift_100 hl rfl (xn_inc i 1) (by decide) rfl (fun ls hl => ?_)
          refine lv_goto (tgt := 35) hx hb dX6_drift_103 rfl ?_
          have hl := lv_sub hl (l' := [(0, .ref ko), (1, .int seed), (2, .int (nI n0)), (3, .int a), (4, .int (nxD (nxD s))), (5, .int (nI (i + 1)))]) [3, 4, 5, 6, 1, 0] rfl
          exact ih35 (n0 - (i + 1)) (by omega) (i + 1) (nxD (nxD s)) (upd mk3 ((drw (nxD s)) % (w * h)) (nI ((drw (nxD (nxD s))) % 6))) ls H locs rfl (by omega) (by intro c hc; rw [hdr c hc, show n0 - i = (n0 - (i + 1)) + 1 by omega, drF]) hl hP hD hS
      have hl := lv_sub hl (l' := [(0, .ref ko), (1, .int seed), (2, .int (nI n0)), (3, .int a), (4, .int seed), (5, .int (nI 0))]) [2, 3, 4, 5, 1, 0] rfl
      have hP := hP.sub (ws' := [iA G (ad 0) 255 S, iA G (ad 4) 16 mk2_26, oC ko 6 [.ref (ad 0), .ref (ad 1), .int (nI w), .int (nI h), .int (nI la), .ref (ad 2), .int (mv 0), .int (mv 1), .int (mv 2), .int (mv 3), .int (mv 4), .int (mv 5), .int (mv 6), .ref (ad 3), .int (nI tp), .int (mv 7), .int (mv 8), .int (mv 9), .int (mv 10), .int ft, .int (mv 11), .ref (ad 4), .ref (ad 5), .ref (ad 6), .ref (ad 7), .ref (ad 8), .ref (ad 9), .ref (ad 10), .int tr]]) [1, 2, 0] rfl
      have hD := hD.sub (ws' := [iA G (ad 0) 255 S, iA G (ad 4) 16 mk2_26, oC ko 6 [.ref (ad 0), .ref (ad 1), .int (nI w), .int (nI h), .int (nI la), .ref (ad 2), .int (mv 0), .int (mv 1), .int (mv 2), .int (mv 3), .int (mv 4), .int (mv 5), .int (mv 6), .ref (ad 3), .int (nI tp), .int (mv 7), .int (mv 8), .int (mv 9), .int (mv 10), .int ft, .int (mv 11), .ref (ad 4), .ref (ad 5), .ref (ad 6), .ref (ad 7), .ref (ad 8), .ref (ad 9), .ref (ad 10), .int tr]]) [1, 2, 0] (by decide) rfl
      exact hL35 (n0 - 0) 0 seed mk2_26 ls H locs rfl (by omega) (by intro c hc; exact drF_congr _ _ (fun c hc => (he26 c hc).symm) c hc) hl hP hD hS
    · skip
      refine lv_iconst (v := (-1)) hx hb dX6_drift_19 (by decide) ?_
      have hP := hP.sub (ws' := [oC ko 6 [.ref (ad 0), .ref (ad 1), .int (nI w), .int (nI h), .int (nI la), .ref (ad 2), .int (mv 0), .int (mv 1), .int (mv 2), .int (mv 3), .int (mv 4), .int (mv 5), .int (mv 6), .ref (ad 3), .int (nI tp), .int (mv 7), .int (mv 8), .int (mv 9), .int (mv 10), .int ft, .int (mv 11), .ref (ad 4), .ref (ad 5), .ref (ad 6), .ref (ad 7), .ref (ad 8), .ref (ad 9), .ref (ad 10), .int tr], iA G (ad 0) 255 S, iA G (ad 4) 16 mk]) [0, 1, 2] rfl
      have hD := hD.sub (ws' := [oC ko 6 [.ref (ad 0), .ref (ad 1), .int (nI w), .int (nI h), .int (nI la), .ref (ad 2), .int (mv 0), .int (mv 1), .int (mv 2), .int (mv 3), .int (mv 4), .int (mv 5), .int (mv 6), .ref (ad 3), .int (nI tp), .int (mv 7), .int (mv 8), .int (mv 9), .int (mv 10), .int ft, .int (mv 11), .ref (ad 4), .ref (ad 5), .ref (ad 6), .ref (ad 7), .ref (ad 8), .ref (ad 9), .ref (ad 10), .int tr], iA G (ad 0) 255 S, iA G (ad 4) 16 mk]) [0, 1, 2] (by decide) rfl
      refine W.iret (v := (-1)) hx hb hr (fun t ht hW => ⟨⟨(-1), (mk), rfl, ?_, by rw [ht]; exact hP, hD⟩, hS.F ht⟩) hS.2.2 dX6_drift_20
      first | exact (if_neg (fun q => b9 q.1)).symm | exact (if_neg (fun q => b16 q.2)).symm | (have hrow : ∀ c, c < 16 → mk3 c = drF (w * h) n0 seed (fun c => mkM S nc c la) c := fun c q => (by rw [hdr c q, show n0 - i = 0 by omega, drF]); rw [if_pos ⟨by omega, b16⟩, tn_nI (by omega)]; first | (rw [if_pos b154, hbits, show c = w * h by omega]; exact xbits_congr _ (fun c q => by rw [← hrow c (by omega)])) | (rw [if_neg b154]; exact sgF_congr (by omega) (by omega) (fun c q => hrow c (by omega))))

abbrev w_X6_since (G : XG) (ko : Nat) (ad : Nat → Nat) (w h la tp : Nat) (ft tr : Int32) (mv : Nat → Int32) (S : Nat → Int32) : va_W := [oC ko 6 [.ref (ad 0), .ref (ad 1), .int (nI w), .int (nI h), .int (nI la), .ref (ad 2), .int (mv 0), .int (mv 1), .int (mv 2), .int (mv 3), .int (mv 4), .int (mv 5), .int (mv 6), .ref (ad 3), .int (nI tp), .int (mv 7), .int (mv 8), .int (mv 9), .int (mv 10), .int ft, .int (mv 11), .ref (ad 4), .ref (ad 5), .ref (ad 6), .ref (ad 7), .ref (ad 8), .ref (ad 9), .ref (ad 10), .int tr], iA G (ad 0) 255 S]
abbrev Q_X6_since (G : XG) (ko : Nat) (ad : Nat → Nat) (w h la tp : Nat) (ft tr : Int32) (mv : Nat → Int32) (S : Nat → Int32) (nc : Nat) (c d a : Int32) : Array Value → State → Outcome → State → Prop := (xRi (fun r => r = (if inR c (w * h) ∧ inR d (la + 1) ∧ inR a 2 then (if a = 0 then nI (sinDn (fun e => decide (mkM S nc (tn c) e = mkM S nc (tn c) (tn d))) (tn d)) else nI (sinUp (fun e => decide (mkM S nc (tn c) e = mkM S nc (tn c) (tn d))) (la - tn d) (tn d))) else (-1))))
set_option maxHeartbeats 4000000 in
set_option maxRecDepth 100000 in
theorem c_X6_since (l : Launch) (G : XG) (ko : Nat) (ad : Nat → Nat) (w h la tp : Nat) (ft tr : Int32) (mv : Nat → Int32) (S : Nat → Int32) (nc : Nat) (c d a : Int32) (hw : 1 ≤ w) (hwb : w ≤ 16) (hhb : h ≤ 16) (hwh1 : 1 ≤ w * h) (hwh : w * h ≤ 16) (hla : la ≤ 9) (hs16 : S 16 = nI nc) (hnc : nc ≤ 10) : Met l yX6_since wsX6_since ({ frames := 2, cells := 0, slots := 0, locals := 46 } : Room) (va_Pc [.ref ko, .int c, .int d, .int a] (xRp G (w_X6_since G ko ad w h la tp ft tr mv S))) (Q_X6_since G ko ad w h la tp ft tr mv S nc c d a) 0 0 (fun _ => False) := by
  refine Met.ofW (cc := cX6_since) (maxL := 6) (ret := (some .int)) (by decide) rfl ?_
  intro pp ee ss mm aa below mt cd s₁ BB hml hv
  obtain ⟨rfl, hP, hK⟩ := hv
  have hx := BB.exec
  have hb := BB.bytes
  have hr := BB.returns
  have hts := atoms_spec (ws := wsX6_since) BB.pre
  have hown : ss.vm.findClass RX6 = some mm.cls := findClass_of_methodNamed BB.named
  have hlocks := BB.notSynchronized
  have hS : va_S (fun _ => False) ss.heap ss.heap [] := va_S.rf
  replace hP : xP G [oC ko 6 [.ref (ad 0), .ref (ad 1), .int (nI w), .int (nI h), .int (nI la), .ref (ad 2), .int (mv 0), .int (mv 1), .int (mv 2), .int (mv 3), .int (mv 4), .int (mv 5), .int (mv 6), .ref (ad 3), .int (nI tp), .int (mv 7), .int (mv 8), .int (mv 9), .int (mv 10), .int ft, .int (mv 11), .ref (ad 4), .ref (ad 5), .ref (ad 6), .ref (ad 7), .ref (ad 8), .ref (ad 9), .ref (ad 10), .int tr], iA G (ad 0) 255 S] ss.heap := hP
  have hin6 : ∀ w ∈ u_ws RX6 TX6 29, w ∈ wsX6_since := fun w h => List.mem_cons_of_mem _ (List.mem_append_right _ h)
  have hl := lv_entry ([.ref ko, .int c, .int d, .int a]) (n := 6) (Nat.le_of_ble_eq_true rfl)
  rw [lg_entry_eq]
  generalize (lg_sl ([.ref ko, .int c, .int d, .int a]) ++ List.replicate (6 - (lg_sl ([.ref ko, .int c, .int d, .int a])).length) Slot.unset).toArray = ls at hl ⊢
  replace hl : lv_has ls 6 [(0, .ref ko), (1, .int c), (2, .int d), (3, .int a)] := hl
  refine lv_aload_n hx hb dX6_since_0 rfl (lv_at hl 0 rfl) ?_
  refine lv_iload_n hx hb dX6_since_1 rfl (lv_at hl 1 rfl) ?_
  refine xr_i (As := [.int c]) (rest := []) ⟨hx, hb, hml, hown, hts⟩ (c_X6_isCell l G ko ad w h la tp ft tr mv c (by first | assumption | omega) (by first | assumption | omega)) (cwV 1 hts gX6_since_X6_isCell rfl rfl rfl (by decide +kernel) ⟨Nat.le_of_ble_eq_true rfl, Nat.le_of_ble_eq_true rfl⟩) hK hP hS [0] rfl rfl rfl rfl hl.1 rfl (Nat.le_of_ble_eq_true rfl) dX6_since_2 ⟨Nat.zero_le _, Nat.zero_le _⟩ (fun r2 H locs hp2 hP hS => ?_)
  rw [show r2 = _ from hp2]
  refine xb_if_eq (tgt := 23) hx hb dX6_since_5 rfl (fun b5 => ?_) (fun b5 => ?_)
  · skip
    refine lv_iconst (v := (-1)) hx hb dX6_since_23 (by decide) ?_
    refine W.iret (v := (-1)) hx hb hr (fun t ht hW => ⟨⟨(-1), (), rfl, ?_, trivial⟩, hS.F ht⟩) hS.2.2 dX6_since_24
    first | exact (if_neg (fun q => b5 q.1)).symm | exact (if_neg (fun q => b13 q.2.1)).symm | exact (if_neg (fun q => b20 q.2.2)).symm | (have hok : inR (nI c0) (w * h) ∧ inR (nI d0) (la + 1) ∧ inR a 2 := ⟨inR_nI hc0 (by omega), inR_nI hd0 (by omega), b20⟩; rw [if_pos hok, tn_nI (by omega), tn_nI (by omega)]; first | (rw [if_pos b26, hsin]; first | (rw [hrz]; rfl) | (obtain ⟨r2, rfl⟩ : ∃ z, rc = z + 1 := ⟨rc - 1, by omega⟩; rw [sinDn]; exact congrArg nI (if_neg (fun q => b67 (of_decide_eq_true q))).symm)) | (rw [if_neg b26, hsin]; first | (rw [hrz, Nat.sub_self]; rfl) | (rw [show la - rc = (la - (rc + 1)) + 1 by omega, sinUp, if_neg (by rw [decide_eq_false b67]; decide)])))
  · skip
    refine lv_aload_n hx hb dX6_since_8 rfl (lv_at hl 0 rfl) ?_
    refine lv_iload_n hx hb dX6_since_9 rfl (lv_at hl 2 rfl) ?_
    refine xr_i (As := [.int d]) (rest := []) ⟨hx, hb, hml, hown, hts⟩ (c_X6_isDay l G ko ad w h la tp ft tr mv d (by first | assumption | omega)) (cwV 1 hts gX6_since_X6_isDay rfl rfl rfl (by decide +kernel) ⟨Nat.le_of_ble_eq_true rfl, Nat.le_of_ble_eq_true rfl⟩) hK hP hS [0] rfl rfl rfl rfl hl.1 rfl (Nat.le_of_ble_eq_true rfl) dX6_since_10 ⟨Nat.zero_le _, Nat.zero_le _⟩ (fun r10 H locs hp10 hP hS => ?_)
    rw [show r10 = _ from hp10]
    refine xb_if_eq (tgt := 23) hx hb dX6_since_13 rfl (fun b13 => ?_) (fun b13 => ?_)
    · skip
      refine lv_iconst (v := (-1)) hx hb dX6_since_23 (by decide) ?_
      refine W.iret (v := (-1)) hx hb hr (fun t ht hW => ⟨⟨(-1), (), rfl, ?_, trivial⟩, hS.F ht⟩) hS.2.2 dX6_since_24
      first | exact (if_neg (fun q => b5 q.1)).symm | exact (if_neg (fun q => b13 q.2.1)).symm | exact (if_neg (fun q => b20 q.2.2)).symm | (have hok : inR (nI c0) (w * h) ∧ inR (nI d0) (la + 1) ∧ inR a 2 := ⟨inR_nI hc0 (by omega), inR_nI hd0 (by omega), b20⟩; rw [if_pos hok, tn_nI (by omega), tn_nI (by omega)]; first | (rw [if_pos b26, hsin]; first | (rw [hrz]; rfl) | (obtain ⟨r2, rfl⟩ : ∃ z, rc = z + 1 := ⟨rc - 1, by omega⟩; rw [sinDn]; exact congrArg nI (if_neg (fun q => b67 (of_decide_eq_true q))).symm)) | (rw [if_neg b26, hsin]; first | (rw [hrz, Nat.sub_self]; rfl) | (rw [show la - rc = (la - (rc + 1)) + 1 by omega, sinUp, if_neg (by rw [decide_eq_false b67]; decide)])))
    · skip
      refine lv_iload_n hx hb dX6_since_16 rfl (lv_at hl 3 rfl) ?_
      refine xs_i (As := [.int a]) (rest := []) ⟨hx, hb, hml, hown, hts⟩ (c_X6_isPart l G a ) (va_cwS 1 hts gX6_since_X6_isPart rfl rfl rfl (by decide +kernel) ⟨Nat.le_of_ble_eq_true rfl, Nat.le_of_ble_eq_true rfl⟩) hP hS rfl hl.1 rfl (Nat.le_of_ble_eq_true rfl) dX6_since_17 ⟨Nat.zero_le _, Nat.zero_le _⟩ (fun r17 H locs hp17 hP hS => ?_)
      rw [show r17 = _ from hp17]
      refine xb_if_ne (tgt := 25) hx hb dX6_since_20 rfl (fun b20 => ?_) (fun b20 => ?_)
      · skip
        obtain ⟨c0, hc0, rfl⟩ := inR_nat b5
        obtain ⟨d0, hd0, rfl⟩ := inR_nat b13
        refine lv_iload_n hx hb dX6_since_25 rfl (lv_at hl 3 rfl) ?_
        refine lv_if_ne (tgt := 33) hx hb dX6_since_26 rfl (fun b26 => ?_) (fun b26 => ?_)
        · skip
          refine lv_iconst (v := nI 1) hx hb dX6_since_33 (by decide) ?_
          refine lv_istore (lv' := [(4, .int (nI 1)), (0, .ref ko), (1, .int (nI c0)), (2, .int (nI d0)), (3, .int a)]) hx hb dX6_since_34 hl (by decide) rfl (fun ls hl => ?_)
          refine lv_iload_n hx hb dX6_since_36 rfl (lv_at hl 3 rfl) ?_
          refine lv_istore (lv' := [(5, .int (nI d0)), (4, .int (nI 1)), (0, .ref ko), (1, .int (nI c0)), (2, .int (nI d0)), (3, .int a)]) hx hb dX6_since_37 hl (by decide) rfl (fun ls hl => ?_)
          have hL39 : ∀ k : Nat, ∀ (rc : Nat) (ls : Array Slot) (H : Heap) (locs : List Loc), la - rc = k → (rc ≤ la) → (sinUp (fun e => decide (mkM S nc c0 e = mkM S nc c0 d0)) (la - d0) d0 = sinUp (fun e => decide (mkM S nc c0 e = mkM S nc c0 d0)) (la - rc) rc) → lv_has ls 6 [(0, .ref ko), (1, .int (nI c0)), (2, .int (nI d0)), (3, .int a), (4, .int (nI 1)), (5, .int (nI rc))] → xP G [iA G (ad 0) 255 S, oC ko 6 [.ref (ad 0), .ref (ad 1), .int (nI w), .int (nI h), .int (nI la), .ref (ad 2), .int (mv 0), .int (mv 1), .int (mv 2), .int (mv 3), .int (mv 4), .int (mv 5), .int (mv 6), .ref (ad 3), .int (nI tp), .int (mv 7), .int (mv 8), .int (mv 9), .int (mv 10), .int ft, .int (mv 11), .ref (ad 4), .ref (ad 5), .ref (ad 6), .ref (ad 7), .ref (ad 8), .ref (ad 9), .ref (ad 10), .int tr]] H → va_S (fun _ => False) ss.heap H locs → W pp l ee ({ frames := 2, cells := 0, slots := 0, locals := 46 } : Room) ss mm ([.ref ko, .int (nI c0), .int (nI d0), .int a] : List Value).toArray below mt cd H locs 0 0 (MQ below (Q_X6_since G ko ad w h la tp ft tr mv S nc (nI c0) (nI d0) a) ([.ref ko, .int (nI c0), .int (nI d0), .int a] : List Value).toArray ss 0 0 (fun _ => False)) (F0 mm 39 ls []) := by
            intro k
            induction k using Nat.strongRecOn with
            | _ k ih39 =>
            intro rc ls H locs hm39 hrc hsin hl hP hS
            refine lv_aload_n hx hb dX6_since_39 rfl (lv_at hl 0 rfl) ?_
            refine lv_iload hx hb dX6_since_40 (lv_at hl 5 rfl) ?_
            refine lv_iload hx hb dX6_since_42 (lv_at hl 4 rfl) ?_
            refine xn_iadd hx hb dX6_since_44 ?_
            refine xr_i (As := [.int (nI (rc + 1))]) (rest := []) ⟨hx, hb, hml, hown, hts⟩ (c_X6_isDay l G ko ad w h la tp ft tr mv (nI (rc + 1)) (by first | assumption | omega)) (cwV 1 hts gX6_since_X6_isDay rfl rfl rfl (by decide +kernel) ⟨Nat.le_of_ble_eq_true rfl, Nat.le_of_ble_eq_true rfl⟩) hK hP hS [1] rfl rfl rfl rfl hl.1 rfl (Nat.le_of_ble_eq_true rfl) dX6_since_45 ⟨Nat.zero_le _, Nat.zero_le _⟩ (fun r45 H locs hp45 hP hS => ?_)
            rw [show r45 = _ from hp45]
            refine xb_if_eq (tgt := 80) hx hb dX6_since_48 rfl (fun b48 => ?_) (fun b48 => ?_)
            · skip
              have hrz : rc = la := (by rcases Nat.lt_or_ge rc la with q | q; (exfalso; apply b48; exact inR_nI (by omega) (by omega)); omega)
              refine lv_iload hx hb dX6_since_80 (lv_at hl 5 rfl) ?_
              refine W.iret (v := nI rc) hx hb hr (fun t ht hW => ⟨⟨nI rc, (), rfl, ?_, trivial⟩, hS.F ht⟩) hS.2.2 dX6_since_82
              first | exact (if_neg (fun q => b5 q.1)).symm | exact (if_neg (fun q => b13 q.2.1)).symm | exact (if_neg (fun q => b20 q.2.2)).symm | (have hok : inR (nI c0) (w * h) ∧ inR (nI d0) (la + 1) ∧ inR a 2 := ⟨inR_nI hc0 (by omega), inR_nI hd0 (by omega), b20⟩; rw [if_pos hok, tn_nI (by omega), tn_nI (by omega)]; first | (rw [if_pos b26, hsin]; first | (rw [hrz]; rfl) | (obtain ⟨r2, rfl⟩ : ∃ z, rc = z + 1 := ⟨rc - 1, by omega⟩; rw [sinDn]; exact congrArg nI (if_neg (fun q => b67 (of_decide_eq_true q))).symm)) | (rw [if_neg b26, hsin]; first | (rw [hrz, Nat.sub_self]; rfl) | (rw [show la - rc = (la - (rc + 1)) + 1 by omega, sinUp, if_neg (by rw [decide_eq_false b67]; decide)])))
            · skip
              have hr1 : rc + 1 ≤ la := (by have q := (inR_iff (k := rc + 1) (by omega)).mp b48; omega)
              refine lv_aload_n hx hb dX6_since_51 rfl (lv_at hl 0 rfl) ?_
              refine lv_iload_n hx hb dX6_since_52 rfl (lv_at hl 1 rfl) ?_
              refine lv_iload hx hb dX6_since_53 (lv_at hl 5 rfl) ?_
              refine lv_iload hx hb dX6_since_55 (lv_at hl 4 rfl) ?_
              refine xn_iadd hx hb dX6_since_57 ?_
              refine xr_i (As := [.int (nI c0), .int (nI (rc + 1))]) (rest := []) ⟨hx, hb, hml, hown, hts⟩ (c_X6_markOf l G ko ad w h la tp ft tr mv S nc c0 (rc + 1) (by first | assumption | omega) (by first | assumption | omega) (by first | assumption | omega) (by first | assumption | omega)) (cwV 2 hts gX6_since_X6_markOf rfl rfl rfl (by decide +kernel) ⟨Nat.le_of_ble_eq_true rfl, Nat.le_of_ble_eq_true rfl⟩) hK hP hS [1, 0] rfl rfl rfl rfl hl.1 rfl (Nat.le_of_ble_eq_true rfl) dX6_since_58 ⟨Nat.zero_le _, Nat.zero_le _⟩ (fun r58 H locs hp58 hP hS => ?_)
              rw [show r58 = _ from hp58]
              refine lv_aload_n hx hb dX6_since_61 rfl (lv_at hl 0 rfl) ?_
              refine lv_iload_n hx hb dX6_since_62 rfl (lv_at hl 1 rfl) ?_
              refine lv_iload_n hx hb dX6_since_63 rfl (lv_at hl 2 rfl) ?_
              refine xr_i (As := [.int (nI c0), .int (nI d0)]) (rest := [.int (mkM S nc c0 (rc + 1))]) ⟨hx, hb, hml, hown, hts⟩ (c_X6_markOf l G ko ad w h la tp ft tr mv S nc c0 d0 (by first | assumption | omega) (by first | assumption | omega) (by first | assumption | omega) (by first | assumption | omega)) (cwV 2 hts gX6_since_X6_markOf rfl rfl rfl (by decide +kernel) ⟨Nat.le_of_ble_eq_true rfl, Nat.le_of_ble_eq_true rfl⟩) hK hP hS [1, 0] rfl rfl rfl rfl hl.1 rfl (Nat.le_of_ble_eq_true rfl) dX6_since_64 ⟨Nat.zero_le _, Nat.zero_le _⟩ (fun r64 H locs hp64 hP hS => ?_)
              rw [show r64 = _ from hp64]
              refine lv_icmp_ne (tgt := 80) hx hb dX6_since_67 rfl (fun b67 => ?_) (fun b67 => ?_)
              · skip
                refine lv_iload hx hb dX6_since_80 (lv_at hl 5 rfl) ?_
                refine W.iret (v := nI rc) hx hb hr (fun t ht hW => ⟨⟨nI rc, (), rfl, ?_, trivial⟩, hS.F ht⟩) hS.2.2 dX6_since_82
                first | exact (if_neg (fun q => b5 q.1)).symm | exact (if_neg (fun q => b13 q.2.1)).symm | exact (if_neg (fun q => b20 q.2.2)).symm | (have hok : inR (nI c0) (w * h) ∧ inR (nI d0) (la + 1) ∧ inR a 2 := ⟨inR_nI hc0 (by omega), inR_nI hd0 (by omega), b20⟩; rw [if_pos hok, tn_nI (by omega), tn_nI (by omega)]; first | (rw [if_pos b26, hsin]; first | (rw [hrz]; rfl) | (obtain ⟨r2, rfl⟩ : ∃ z, rc = z + 1 := ⟨rc - 1, by omega⟩; rw [sinDn]; exact congrArg nI (if_neg (fun q => b67 (of_decide_eq_true q))).symm)) | (rw [if_neg b26, hsin]; first | (rw [hrz, Nat.sub_self]; rfl) | (rw [show la - rc = (la - (rc + 1)) + 1 by omega, sinUp, if_neg (by rw [decide_eq_false b67]; decide)])))
              · skip
                refine lv_iload hx hb dX6_since_70 (lv_at hl 5 rfl) ?_
                refine lv_iload hx hb dX6_since_72 (lv_at hl 4 rfl) ?_
                refine xn_iadd hx hb dX6_since_74 ?_
                refine lv_istore (lv' := [(5, .int (nI (rc + 1))), (0, .ref ko), (1, .int (nI c0)), (2, .int (nI d0)), (3, .int a), (4, .int (nI 1))]) hx hb dX6_since_75 hl (by decide) rfl (fun ls hl => ?_)
                refine lv_goto (tgt := 39) hx hb dX6_since_77 rfl ?_
                have hl := lv_sub hl (l' := [(0, .ref ko), (1, .int (nI c0)), (2, .int (nI d0)), (3, .int a), (4, .int (nI 1)), (5, .int (nI (rc + 1)))]) [1, 2, 3, 4, 5, 0] rfl
                exact ih39 (la - (rc + 1)) (by omega) (rc + 1) ls H locs rfl (by omega) (by rw [hsin, show la - rc = (la - (rc + 1)) + 1 by omega, sinUp, if_pos (decide_eq_true b67)]) hl hP hS
          have hl := lv_sub hl (l' := [(0, .ref ko), (1, .int (nI c0)), (2, .int (nI d0)), (3, .int a), (4, .int (nI 1)), (5, .int (nI d0))]) [2, 3, 4, 5, 1, 0] rfl
          have hP := hP.sub (ws' := [iA G (ad 0) 255 S, oC ko 6 [.ref (ad 0), .ref (ad 1), .int (nI w), .int (nI h), .int (nI la), .ref (ad 2), .int (mv 0), .int (mv 1), .int (mv 2), .int (mv 3), .int (mv 4), .int (mv 5), .int (mv 6), .ref (ad 3), .int (nI tp), .int (mv 7), .int (mv 8), .int (mv 9), .int (mv 10), .int ft, .int (mv 11), .ref (ad 4), .ref (ad 5), .ref (ad 6), .ref (ad 7), .ref (ad 8), .ref (ad 9), .ref (ad 10), .int tr]]) [1, 0] rfl
          exact hL39 (la - d0) d0 ls H locs rfl (by omega) (by rfl) hl hP hS
        · skip
          refine lv_iconst (v := (-1)) hx hb dX6_since_29 (by decide) ?_
          refine lv_goto (tgt := 34) hx hb dX6_since_30 rfl ?_
          refine lv_istore (lv' := [(4, .int (-1)), (0, .ref ko), (1, .int (nI c0)), (2, .int (nI d0)), (3, .int a)]) hx hb dX6_since_34 hl (by decide) rfl (fun ls hl => ?_)
          refine lv_iload_n hx hb dX6_since_36 rfl (lv_at hl 3 rfl) ?_
          refine lv_istore (lv' := [(5, .int (nI d0)), (4, .int (-1)), (0, .ref ko), (1, .int (nI c0)), (2, .int (nI d0)), (3, .int a)]) hx hb dX6_since_37 hl (by decide) rfl (fun ls hl => ?_)
          have hL39 : ∀ k : Nat, ∀ (rc : Nat) (ls : Array Slot) (H : Heap) (locs : List Loc), rc = k → (rc ≤ la) → (sinDn (fun e => decide (mkM S nc c0 e = mkM S nc c0 d0)) d0 = sinDn (fun e => decide (mkM S nc c0 e = mkM S nc c0 d0)) rc) → lv_has ls 6 [(0, .ref ko), (1, .int (nI c0)), (2, .int (nI d0)), (3, .int a), (4, .int (-1)), (5, .int (nI rc))] → xP G [iA G (ad 0) 255 S, oC ko 6 [.ref (ad 0), .ref (ad 1), .int (nI w), .int (nI h), .int (nI la), .ref (ad 2), .int (mv 0), .int (mv 1), .int (mv 2), .int (mv 3), .int (mv 4), .int (mv 5), .int (mv 6), .ref (ad 3), .int (nI tp), .int (mv 7), .int (mv 8), .int (mv 9), .int (mv 10), .int ft, .int (mv 11), .ref (ad 4), .ref (ad 5), .ref (ad 6), .ref (ad 7), .ref (ad 8), .ref (ad 9), .ref (ad 10), .int tr]] H → va_S (fun _ => False) ss.heap H locs → W pp l ee ({ frames := 2, cells := 0, slots := 0, locals := 46 } : Room) ss mm ([.ref ko, .int (nI c0), .int (nI d0), .int a] : List Value).toArray below mt cd H locs 0 0 (MQ below (Q_X6_since G ko ad w h la tp ft tr mv S nc (nI c0) (nI d0) a) ([.ref ko, .int (nI c0), .int (nI d0), .int a] : List Value).toArray ss 0 0 (fun _ => False)) (F0 mm 39 ls []) := by
            intro k
            induction k using Nat.strongRecOn with
            | _ k ih39 =>
            intro rc ls H locs hm39 hrc hsin hl hP hS
            refine lv_aload_n hx hb dX6_since_39 rfl (lv_at hl 0 rfl) ?_
            refine lv_iload hx hb dX6_since_40 (lv_at hl 5 rfl) ?_
            refine lv_iload hx hb dX6_since_42 (lv_at hl 4 rfl) ?_
            refine lv_iadd hx hb dX6_since_44 ?_
            refine xr_i (As := [.int ((nI rc) + (-1))]) (rest := []) ⟨hx, hb, hml, hown, hts⟩ (c_X6_isDay l G ko ad w h la tp ft tr mv ((nI rc) + (-1)) (by first | assumption | omega)) (cwV 1 hts gX6_since_X6_isDay rfl rfl rfl (by decide +kernel) ⟨Nat.le_of_ble_eq_true rfl, Nat.le_of_ble_eq_true rfl⟩) hK hP hS [1] rfl rfl rfl rfl hl.1 rfl (Nat.le_of_ble_eq_true rfl) dX6_since_45 ⟨Nat.zero_le _, Nat.zero_le _⟩ (fun r45 H locs hp45 hP hS => ?_)
            rw [show r45 = _ from hp45]
            refine xb_if_eq (tgt := 80) hx hb dX6_since_48 rfl (fun b48 => ?_) (fun b48 => ?_)
            · skip
              have hrz : rc = 0 := (by rcases Nat.eq_zero_or_pos rc with q | q; exact q; exfalso; apply b48; rw [sb_m1 q]; exact inR_nI (by omega) (by omega))
              refine lv_iload hx hb dX6_since_80 (lv_at hl 5 rfl) ?_
              refine W.iret (v := nI rc) hx hb hr (fun t ht hW => ⟨⟨nI rc, (), rfl, ?_, trivial⟩, hS.F ht⟩) hS.2.2 dX6_since_82
              first | exact (if_neg (fun q => b5 q.1)).symm | exact (if_neg (fun q => b13 q.2.1)).symm | exact (if_neg (fun q => b20 q.2.2)).symm | (have hok : inR (nI c0) (w * h) ∧ inR (nI d0) (la + 1) ∧ inR a 2 := ⟨inR_nI hc0 (by omega), inR_nI hd0 (by omega), b20⟩; rw [if_pos hok, tn_nI (by omega), tn_nI (by omega)]; first | (rw [if_pos b26, hsin]; first | (rw [hrz]; rfl) | (obtain ⟨r2, rfl⟩ : ∃ z, rc = z + 1 := ⟨rc - 1, by omega⟩; rw [sinDn]; exact congrArg nI (if_neg (fun q => b67 (of_decide_eq_true q))).symm)) | (rw [if_neg b26, hsin]; first | (rw [hrz, Nat.sub_self]; rfl) | (rw [show la - rc = (la - (rc + 1)) + 1 by omega, sinUp, if_neg (by rw [decide_eq_false b67]; decide)])))
            · skip
              have hr1 : 0 < rc := (by unfold inR at b48; rw [dn_toInt (by omega)] at b48; omega)
              refine lv_aload_n hx hb dX6_since_51 rfl (lv_at hl 0 rfl) ?_
              refine lv_iload_n hx hb dX6_since_52 rfl (lv_at hl 1 rfl) ?_
              refine lv_iload hx hb dX6_since_53 (lv_at hl 5 rfl) ?_
              refine lv_iload hx hb dX6_since_55 (lv_at hl 4 rfl) ?_
              refine lv_iadd hx hb dX6_since_57 ?_
              refine xn_top (sb_m1 hr1) ?_
              refine xr_i (As := [.int (nI c0), .int (nI (rc - 1))]) (rest := []) ⟨hx, hb, hml, hown, hts⟩ (c_X6_markOf l G ko ad w h la tp ft tr mv S nc c0 (rc - 1) (by first | assumption | omega) (by first | assumption | omega) (by first | assumption | omega) (by first | assumption | omega)) (cwV 2 hts gX6_since_X6_markOf rfl rfl rfl (by decide +kernel) ⟨Nat.le_of_ble_eq_true rfl, Nat.le_of_ble_eq_true rfl⟩) hK hP hS [1, 0] rfl rfl rfl rfl hl.1 rfl (Nat.le_of_ble_eq_true rfl) dX6_since_58 ⟨Nat.zero_le _, Nat.zero_le _⟩ (fun r58 H locs hp58 hP hS => ?_)
              rw [show r58 = _ from hp58]
              refine lv_aload_n hx hb dX6_since_61 rfl (lv_at hl 0 rfl) ?_
              refine lv_iload_n hx hb dX6_since_62 rfl (lv_at hl 1 rfl) ?_
              refine lv_iload_n hx hb dX6_since_63 rfl (lv_at hl 2 rfl) ?_
              refine xr_i (As := [.int (nI c0), .int (nI d0)]) (rest := [.int (mkM S nc c0 (rc - 1))]) ⟨hx, hb, hml, hown, hts⟩ (c_X6_markOf l G ko ad w h la tp ft tr mv S nc c0 d0 (by first | assumption | omega) (by first | assumption | omega) (by first | assumption | omega) (by first | assumption | omega)) (cwV 2 hts gX6_since_X6_markOf rfl rfl rfl (by decide +kernel) ⟨Nat.le_of_ble_eq_true rfl, Nat.le_of_ble_eq_true rfl⟩) hK hP hS [1, 0] rfl rfl rfl rfl hl.1 rfl (Nat.le_of_ble_eq_true rfl) dX6_since_64 ⟨Nat.zero_le _, Nat.zero_le _⟩ (fun r64 H locs hp64 hP hS => ?_)
              rw [show r64 = _ from hp64]
              refine lv_icmp_ne (tgt := 80) hx hb dX6_since_67 rfl (fun b67 => ?_) (fun b67 => ?_)
              · skip
                refine lv_iload hx hb dX6_since_80 (lv_at hl 5 rfl) ?_
                refine W.iret (v := nI rc) hx hb hr (fun t ht hW => ⟨⟨nI rc, (), rfl, ?_, trivial⟩, hS.F ht⟩) hS.2.2 dX6_since_82
                first | exact (if_neg (fun q => b5 q.1)).symm | exact (if_neg (fun q => b13 q.2.1)).symm | exact (if_neg (fun q => b20 q.2.2)).symm | (have hok : inR (nI c0) (w * h) ∧ inR (nI d0) (la + 1) ∧ inR a 2 := ⟨inR_nI hc0 (by omega), inR_nI hd0 (by omega), b20⟩; rw [if_pos hok, tn_nI (by omega), tn_nI (by omega)]; first | (rw [if_pos b26, hsin]; first | (rw [hrz]; rfl) | (obtain ⟨r2, rfl⟩ : ∃ z, rc = z + 1 := ⟨rc - 1, by omega⟩; rw [sinDn]; exact congrArg nI (if_neg (fun q => b67 (of_decide_eq_true q))).symm)) | (rw [if_neg b26, hsin]; first | (rw [hrz, Nat.sub_self]; rfl) | (rw [show la - rc = (la - (rc + 1)) + 1 by omega, sinUp, if_neg (by rw [decide_eq_false b67]; decide)])))
              · skip
                refine lv_iload hx hb dX6_since_70 (lv_at hl 5 rfl) ?_
                refine lv_iload hx hb dX6_since_72 (lv_at hl 4 rfl) ?_
                refine lv_iadd hx hb dX6_since_74 ?_
                refine xn_top (sb_m1 hr1) ?_
                refine lv_istore (lv' := [(5, .int (nI (rc - 1))), (0, .ref ko), (1, .int (nI c0)), (2, .int (nI d0)), (3, .int a), (4, .int (-1))]) hx hb dX6_since_75 hl (by decide) rfl (fun ls hl => ?_)
                refine lv_goto (tgt := 39) hx hb dX6_since_77 rfl ?_
                have hl := lv_sub hl (l' := [(0, .ref ko), (1, .int (nI c0)), (2, .int (nI d0)), (3, .int a), (4, .int (-1)), (5, .int (nI (rc - 1)))]) [1, 2, 3, 4, 5, 0] rfl
                exact ih39 (rc - 1) (by omega) (rc - 1) ls H locs rfl (by omega) (by have hpe : (fun e => decide (mkM S nc c0 e = mkM S nc c0 d0)) (rc - 1) = true := decide_eq_true b67; rw [hsin]; obtain ⟨r2, rfl⟩ : ∃ z, rc = z + 1 := ⟨rc - 1, by omega⟩; rw [sinDn]; exact if_pos hpe) hl hP hS
          have hl := lv_sub hl (l' := [(0, .ref ko), (1, .int (nI c0)), (2, .int (nI d0)), (3, .int a), (4, .int (-1)), (5, .int (nI d0))]) [2, 3, 4, 5, 1, 0] rfl
          have hP := hP.sub (ws' := [iA G (ad 0) 255 S, oC ko 6 [.ref (ad 0), .ref (ad 1), .int (nI w), .int (nI h), .int (nI la), .ref (ad 2), .int (mv 0), .int (mv 1), .int (mv 2), .int (mv 3), .int (mv 4), .int (mv 5), .int (mv 6), .ref (ad 3), .int (nI tp), .int (mv 7), .int (mv 8), .int (mv 9), .int (mv 10), .int ft, .int (mv 11), .ref (ad 4), .ref (ad 5), .ref (ad 6), .ref (ad 7), .ref (ad 8), .ref (ad 9), .ref (ad 10), .int tr]]) [1, 0] rfl
          exact hL39 d0 d0 ls H locs rfl (by omega) (by rfl) hl hP hS
      · skip
        refine lv_iconst (v := (-1)) hx hb dX6_since_23 (by decide) ?_
        refine W.iret (v := (-1)) hx hb hr (fun t ht hW => ⟨⟨(-1), (), rfl, ?_, trivial⟩, hS.F ht⟩) hS.2.2 dX6_since_24
        first | exact (if_neg (fun q => b5 q.1)).symm | exact (if_neg (fun q => b13 q.2.1)).symm | exact (if_neg (fun q => b20 q.2.2)).symm | (have hok : inR (nI c0) (w * h) ∧ inR (nI d0) (la + 1) ∧ inR a 2 := ⟨inR_nI hc0 (by omega), inR_nI hd0 (by omega), b20⟩; rw [if_pos hok, tn_nI (by omega), tn_nI (by omega)]; first | (rw [if_pos b26, hsin]; first | (rw [hrz]; rfl) | (obtain ⟨r2, rfl⟩ : ∃ z, rc = z + 1 := ⟨rc - 1, by omega⟩; rw [sinDn]; exact congrArg nI (if_neg (fun q => b67 (of_decide_eq_true q))).symm)) | (rw [if_neg b26, hsin]; first | (rw [hrz, Nat.sub_self]; rfl) | (rw [show la - rc = (la - (rc + 1)) + 1 by omega, sinUp, if_neg (by rw [decide_eq_false b67]; decide)])))

abbrev w_X6_copies (G : XG) (ko : Nat) (ad : Nat → Nat) (w h la tp : Nat) (ft tr : Int32) (mv : Nat → Int32) (S : Nat → Int32) : va_W := [oC ko 6 [.ref (ad 0), .ref (ad 1), .int (nI w), .int (nI h), .int (nI la), .ref (ad 2), .int (mv 0), .int (mv 1), .int (mv 2), .int (mv 3), .int (mv 4), .int (mv 5), .int (mv 6), .ref (ad 3), .int (nI tp), .int (mv 7), .int (mv 8), .int (mv 9), .int (mv 10), .int ft, .int (mv 11), .ref (ad 4), .ref (ad 5), .ref (ad 6), .ref (ad 7), .ref (ad 8), .ref (ad 9), .ref (ad 10), .int tr], iA G (ad 0) 255 S]
abbrev Q_X6_copies (G : XG) (sz : Nat) (ko : Nat) (ad : Nat → Nat) (w h la tp : Nat) (ft tr : Int32) (mv : Nat → Int32) (S : Nat → Int32) (to of : Nat) : Array Value → State → Outcome → State → Prop := (va_Qv (fun (u : (Nat → Int32)) => ((∀ k, k < 85 → u (to + k) = S (of + k)) ∧ ∀ j, (j < to ∨ to + 85 ≤ j) → u j = S j)) (xWb G sz (w_X6_copies G ko ad w h la tp ft tr mv S) (fun u : (Nat → Int32) => [oC ko 6 [.ref (ad 0), .ref (ad 1), .int (nI w), .int (nI h), .int (nI la), .ref (ad 2), .int (mv 0), .int (mv 1), .int (mv 2), .int (mv 3), .int (mv 4), .int (mv 5), .int (mv 6), .ref (ad 3), .int (nI tp), .int (mv 7), .int (mv 8), .int (mv 9), .int (mv 10), .int ft, .int (mv 11), .ref (ad 4), .ref (ad 5), .ref (ad 6), .ref (ad 7), .ref (ad 8), .ref (ad 9), .ref (ad 10), .int tr], iA G (ad 0) 255 u])) (va_A (w_X6_copies G ko ad w h la tp ft tr mv S) sz))
set_option maxHeartbeats 4000000 in
set_option maxRecDepth 100000 in
theorem c_X6_copies (l : Launch) (G : XG) (sz : Nat) (ko : Nat) (ad : Nat → Nat) (w h la tp : Nat) (ft tr : Int32) (mv : Nat → Int32) (S : Nat → Int32) (to of : Nat) (hto : to + 85 ≤ 255) (hof : of + 85 ≤ 255) (hdis : to + 85 ≤ of ∨ of + 85 ≤ to) : Met l yX6_copies wsX6_copies ({ frames := 0, cells := 0, slots := 0, locals := 0 } : Room) (va_Pc [.ref ko, .int (nI to), .int (nI of)] (xWp G sz (w_X6_copies G ko ad w h la tp ft tr mv S))) (Q_X6_copies G sz ko ad w h la tp ft tr mv S to of) 0 0 (va_A (w_X6_copies G ko ad w h la tp ft tr mv S) sz) := by
  refine Met.ofW (cc := cX6_copies) (maxL := 4) (ret := none) (by decide) rfl ?_
  intro pp ee ss mm aa below mt cd s₁ BB hml hv
  obtain ⟨rfl, hsz, hP, hK, hD0⟩ := hv
  have hx := BB.exec
  have hb := BB.bytes
  have hr := BB.returns
  have hts := atoms_spec (ws := wsX6_copies) BB.pre
  have hown : ss.vm.findClass RX6 = some mm.cls := findClass_of_methodNamed BB.named
  have hlocks := BB.notSynchronized
  subst hsz
  have hD := hD0.self (sz := ss.heap.size)
  have hA : ∀ q : Nat, ss.heap.size ≤ q → va_A (w_X6_copies G ko ad w h la tp ft tr mv S) ss.heap.size q := fun q h => Or.inr h
  have hS : va_S (va_A (w_X6_copies G ko ad w h la tp ft tr mv S) ss.heap.size) ss.heap ss.heap [] := va_S.rf
  replace hD : va_D (va_A (w_X6_copies G ko ad w h la tp ft tr mv S) ss.heap.size) [oC ko 6 [.ref (ad 0), .ref (ad 1), .int (nI w), .int (nI h), .int (nI la), .ref (ad 2), .int (mv 0), .int (mv 1), .int (mv 2), .int (mv 3), .int (mv 4), .int (mv 5), .int (mv 6), .ref (ad 3), .int (nI tp), .int (mv 7), .int (mv 8), .int (mv 9), .int (mv 10), .int ft, .int (mv 11), .ref (ad 4), .ref (ad 5), .ref (ad 6), .ref (ad 7), .ref (ad 8), .ref (ad 9), .ref (ad 10), .int tr], iA G (ad 0) 255 S] := hD
  replace hP : xP G [oC ko 6 [.ref (ad 0), .ref (ad 1), .int (nI w), .int (nI h), .int (nI la), .ref (ad 2), .int (mv 0), .int (mv 1), .int (mv 2), .int (mv 3), .int (mv 4), .int (mv 5), .int (mv 6), .ref (ad 3), .int (nI tp), .int (mv 7), .int (mv 8), .int (mv 9), .int (mv 10), .int ft, .int (mv 11), .ref (ad 4), .ref (ad 5), .ref (ad 6), .ref (ad 7), .ref (ad 8), .ref (ad 9), .ref (ad 10), .int tr], iA G (ad 0) 255 S] ss.heap := hP
  have hin6 : ∀ w ∈ u_ws RX6 TX6 29, w ∈ wsX6_copies := fun w h => List.mem_cons_of_mem _ (List.mem_append_right _ h)
  have hl := lv_entry ([.ref ko, .int (nI to), .int (nI of)]) (n := 4) (Nat.le_of_ble_eq_true rfl)
  rw [lg_entry_eq]
  generalize (lg_sl ([.ref ko, .int (nI to), .int (nI of)]) ++ List.replicate (4 - (lg_sl ([.ref ko, .int (nI to), .int (nI of)])).length) Slot.unset).toArray = ls at hl ⊢
  replace hl : lv_has ls 4 [(0, .ref ko), (1, .int (nI to)), (2, .int (nI of))] := hl
  refine lv_iconst (v := nI 0) hx hb dX6_copies_0 (by decide) ?_
  refine lv_istore_n (lv' := [(3, .int (nI 0)), (0, .ref ko), (1, .int (nI to)), (2, .int (nI of))]) hx hb dX6_copies_1 rfl hl (by decide) rfl (fun ls hl => ?_)
  have hL2 : ∀ k : Nat, ∀ (k1 : Nat) (S3 : Nat → Int32) (ls : Array Slot) (H : Heap) (locs : List Loc), 85 - k1 = k → (k1 ≤ 85) → (∀ k, k < k1 → S3 (to + k) = S (of + k)) → (∀ j, (j < to ∨ to + k1 ≤ j) → S3 j = S j) → lv_has ls 4 [(0, .ref ko), (1, .int (nI to)), (2, .int (nI of)), (3, .int (nI k1))] → xP G [iA G (ad 0) 255 S3, oC ko 6 [.ref (ad 0), .ref (ad 1), .int (nI w), .int (nI h), .int (nI la), .ref (ad 2), .int (mv 0), .int (mv 1), .int (mv 2), .int (mv 3), .int (mv 4), .int (mv 5), .int (mv 6), .ref (ad 3), .int (nI tp), .int (mv 7), .int (mv 8), .int (mv 9), .int (mv 10), .int ft, .int (mv 11), .ref (ad 4), .ref (ad 5), .ref (ad 6), .ref (ad 7), .ref (ad 8), .ref (ad 9), .ref (ad 10), .int tr]] H → va_D (va_A (w_X6_copies G ko ad w h la tp ft tr mv S) ss.heap.size) [iA G (ad 0) 255 S3, oC ko 6 [.ref (ad 0), .ref (ad 1), .int (nI w), .int (nI h), .int (nI la), .ref (ad 2), .int (mv 0), .int (mv 1), .int (mv 2), .int (mv 3), .int (mv 4), .int (mv 5), .int (mv 6), .ref (ad 3), .int (nI tp), .int (mv 7), .int (mv 8), .int (mv 9), .int (mv 10), .int ft, .int (mv 11), .ref (ad 4), .ref (ad 5), .ref (ad 6), .ref (ad 7), .ref (ad 8), .ref (ad 9), .ref (ad 10), .int tr]] → va_S (va_A (w_X6_copies G ko ad w h la tp ft tr mv S) ss.heap.size) ss.heap H locs → W pp l ee ({ frames := 0, cells := 0, slots := 0, locals := 0 } : Room) ss mm ([.ref ko, .int (nI to), .int (nI of)] : List Value).toArray below mt cd H locs 0 0 (MQ below (Q_X6_copies G ss.heap.size ko ad w h la tp ft tr mv S to of) ([.ref ko, .int (nI to), .int (nI of)] : List Value).toArray ss 0 0 (va_A (w_X6_copies G ko ad w h la tp ft tr mv S) ss.heap.size)) (F0 mm 2 ls []) := by
    intro k
    induction k using Nat.strongRecOn with
    | _ k ih2 =>
    intro k1 S3 ls H locs hm2 hk1 hc1 hc2 hl hP hD hS
    refine lv_iload_n hx hb dX6_copies_2 rfl (lv_at hl 3 rfl) ?_
    refine lv_bipush (v := nI 85) hx hb dX6_copies_3 (by decide) ?_
    refine xn_icmp_ge (tgt := 30) hx hb (by omega) (by omega) dX6_copies_5 rfl (fun b5 => ?_) (fun b5 => ?_)
    · skip
      have hP := hP.sub (ws' := [oC ko 6 [.ref (ad 0), .ref (ad 1), .int (nI w), .int (nI h), .int (nI la), .ref (ad 2), .int (mv 0), .int (mv 1), .int (mv 2), .int (mv 3), .int (mv 4), .int (mv 5), .int (mv 6), .ref (ad 3), .int (nI tp), .int (mv 7), .int (mv 8), .int (mv 9), .int (mv 10), .int ft, .int (mv 11), .ref (ad 4), .ref (ad 5), .ref (ad 6), .ref (ad 7), .ref (ad 8), .ref (ad 9), .ref (ad 10), .int tr], iA G (ad 0) 255 S3]) [1, 0] rfl
      have hD := hD.sub (ws' := [oC ko 6 [.ref (ad 0), .ref (ad 1), .int (nI w), .int (nI h), .int (nI la), .ref (ad 2), .int (mv 0), .int (mv 1), .int (mv 2), .int (mv 3), .int (mv 4), .int (mv 5), .int (mv 6), .ref (ad 3), .int (nI tp), .int (mv 7), .int (mv 8), .int (mv 9), .int (mv 10), .int ft, .int (mv 11), .ref (ad 4), .ref (ad 5), .ref (ad 6), .ref (ad 7), .ref (ad 8), .ref (ad 9), .ref (ad 10), .int tr], iA G (ad 0) 255 S3]) [1, 0] (by decide) rfl
      refine W.vret hx hb hr (fun t ht hW => ⟨⟨(S3), rfl, ?_, by rw [ht]; exact hP, hD⟩, hS.F ht⟩) hS.2.2 dX6_copies_30
      exact ⟨fun k hk => hc1 k (by omega), fun j hj => hc2 j (by omega)⟩
    · skip
      refine lv_aload_n hx hb dX6_copies_8 rfl (lv_at hl 0 rfl) ?_
      refine va_get (D := G.1) (ci := 6) (v := .ref (ad 0)) (C := RX6) (T := TX6) (N := 29) hx hb hts hin6 hown hK.1 hP 1 rfl rfl 0 (by decide) (hts (.fieldLink RX6 7 "BackLensesModel" "st" "[I") (List.mem_of_getElem? (i := 1) rfl)) (fun _ h9 => h9) rfl dX6_copies_9 ?_
      refine lv_iload_n hx hb dX6_copies_12 rfl (lv_at hl 1 rfl) ?_
      refine lv_iload_n hx hb dX6_copies_13 rfl (lv_at hl 3 rfl) ?_
      refine xn_iadd hx hb dX6_copies_14 ?_
      refine lv_aload_n hx hb dX6_copies_15 rfl (lv_at hl 0 rfl) ?_
      refine va_get (D := G.1) (ci := 6) (v := .ref (ad 0)) (C := RX6) (T := TX6) (N := 29) hx hb hts hin6 hown hK.1 hP 1 rfl rfl 0 (by decide) (hts (.fieldLink RX6 7 "BackLensesModel" "st" "[I") (List.mem_of_getElem? (i := 1) rfl)) (fun _ h9 => h9) rfl dX6_copies_16 ?_
      refine lv_iload_n hx hb dX6_copies_19 rfl (lv_at hl 2 rfl) ?_
      refine lv_iload_n hx hb dX6_copies_20 rfl (lv_at hl 3 rfl) ?_
      refine xn_iadd hx hb dX6_copies_21 ?_
      refine xn_iald hx hb hK hP 0 rfl (by omega) (by omega) dX6_copies_22 ?_
      refine xn_iast hx hb hK hP hD hS 0 rfl (by omega) (by omega) dX6_copies_23 (fun H locs hP hD hS => ?_)
      replace hP : xP G [iA G (ad 0) 255 (upd S3 (to + k1) (S3 (of + k1))), oC ko 6 [.ref (ad 0), .ref (ad 1), .int (nI w), .int (nI h), .int (nI la), .ref (ad 2), .int (mv 0), .int (mv 1), .int (mv 2), .int (mv 3), .int (mv 4), .int (mv 5), .int (mv 6), .ref (ad 3), .int (nI tp), .int (mv 7), .int (mv 8), .int (mv 9), .int (mv 10), .int ft, .int (mv 11), .ref (ad 4), .ref (ad 5), .ref (ad 6), .ref (ad 7), .ref (ad 8), .ref (ad 9), .ref (ad 10), .int tr]] H := hP
      replace hD : va_D (va_A (w_X6_copies G ko ad w h la tp ft tr mv S) ss.heap.size) [iA G (ad 0) 255 (upd S3 (to + k1) (S3 (of + k1))), oC ko 6 [.ref (ad 0), .ref (ad 1), .int (nI w), .int (nI h), .int (nI la), .ref (ad 2), .int (mv 0), .int (mv 1), .int (mv 2), .int (mv 3), .int (mv 4), .int (mv 5), .int (mv 6), .ref (ad 3), .int (nI tp), .int (mv 7), .int (mv 8), .int (mv 9), .int (mv 10), .int ft, .int (mv 11), .ref (ad 4), .ref (ad 5), .ref (ad 6), .ref (ad 7), .ref (ad 8), .ref (ad 9), .ref (ad 10), .int tr]] := hD
      refine lv_iinc (k := 3) (v := nI (k1 + 1)) (lv' := [(3, .int (nI (k1 + 1))), (0, .ref ko), (1, .int (nI to)), (2, .int (nI of))]) hx hb dX6_copies_24 hl rfl (xn_inc k1 1) (by decide) rfl (fun ls hl => ?_)
      refine lv_goto (tgt := 2) hx hb dX6_copies_27 rfl ?_
      have hl := lv_sub hl (l' := [(0, .ref ko), (1, .int (nI to)), (2, .int (nI of)), (3, .int (nI (k1 + 1)))]) [1, 2, 3, 0] rfl
      exact ih2 (85 - (k1 + 1)) (by omega) (k1 + 1) (upd S3 (to + k1) (S3 (of + k1))) ls H locs rfl (by omega) (by intro k hk; by_cases hq : k = k1; (subst hq; rw [upd_eq]; exact hc2 _ (by omega)); (rw [upd_ne (by omega)]; exact hc1 k (by omega))) (by intro j hj; rw [upd_ne (by omega)]; exact hc2 j (by omega)) hl hP hD hS
  have hl := lv_sub hl (l' := [(0, .ref ko), (1, .int (nI to)), (2, .int (nI of)), (3, .int (nI 0))]) [1, 2, 3, 0] rfl
  have hP := hP.sub (ws' := [iA G (ad 0) 255 S, oC ko 6 [.ref (ad 0), .ref (ad 1), .int (nI w), .int (nI h), .int (nI la), .ref (ad 2), .int (mv 0), .int (mv 1), .int (mv 2), .int (mv 3), .int (mv 4), .int (mv 5), .int (mv 6), .ref (ad 3), .int (nI tp), .int (mv 7), .int (mv 8), .int (mv 9), .int (mv 10), .int ft, .int (mv 11), .ref (ad 4), .ref (ad 5), .ref (ad 6), .ref (ad 7), .ref (ad 8), .ref (ad 9), .ref (ad 10), .int tr]]) [1, 0] rfl
  have hD := hD.sub (ws' := [iA G (ad 0) 255 S, oC ko 6 [.ref (ad 0), .ref (ad 1), .int (nI w), .int (nI h), .int (nI la), .ref (ad 2), .int (mv 0), .int (mv 1), .int (mv 2), .int (mv 3), .int (mv 4), .int (mv 5), .int (mv 6), .ref (ad 3), .int (nI tp), .int (mv 7), .int (mv 8), .int (mv 9), .int (mv 10), .int ft, .int (mv 11), .ref (ad 4), .ref (ad 5), .ref (ad 6), .ref (ad 7), .ref (ad 8), .ref (ad 9), .ref (ad 10), .int tr]]) [1, 0] (by decide) rfl
  exact hL2 (85 - 0) 0 S ls ss.heap [] rfl (by omega) (by intro k hk; omega) (by intro j hj; rfl) hl hP hD hS

abbrev w_X6_mean (G : XG) (ko : Nat) (ad : Nat → Nat) (w h la tp : Nat) (ft tr : Int32) (mv : Nat → Int32) (S mk : Nat → Int32) : va_W := [oC ko 6 [.ref (ad 0), .ref (ad 1), .int (nI w), .int (nI h), .int (nI la), .ref (ad 2), .int (mv 0), .int (mv 1), .int (mv 2), .int (mv 3), .int (mv 4), .int (mv 5), .int (mv 6), .ref (ad 3), .int (nI tp), .int (mv 7), .int (mv 8), .int (mv 9), .int (mv 10), .int ft, .int (mv 11), .ref (ad 4), .ref (ad 5), .ref (ad 6), .ref (ad 7), .ref (ad 8), .ref (ad 9), .ref (ad 10), .int tr], iA G (ad 0) 255 S, iA G (ad 4) 16 mk]
abbrev Q_X6_mean (G : XG) (sz : Nat) (ko : Nat) (ad : Nat → Nat) (w h la tp : Nat) (ft tr : Int32) (mv : Nat → Int32) (S mk : Nat → Int32) (nc : Nat) (nl : Nat) (v x a : Int32) : Array Value → State → Outcome → State → Prop := (va_Ql (fun (r : Int64) (u : (Nat → Int32)) => r = (if inR v 11 ∧ inR x (w * h) ∧ inR a 2 then (if a = 0 then lN ((suN (fun c => (10 ^ (cntF (fun l => bitB (shM w h S nc l (tn x)) c) nl) - tn v ^ (cntF (fun l => bitB (shM w h S nc l (tn x)) c) nl)) * 10 ^ (6 - (cntF (fun l => bitB (shM w h S nc l (tn x)) c) nl))) (w * h)) / Nat.gcd (1000000) (suN (fun c => (10 ^ (cntF (fun l => bitB (shM w h S nc l (tn x)) c) nl) - tn v ^ (cntF (fun l => bitB (shM w h S nc l (tn x)) c) nl)) * 10 ^ (6 - (cntF (fun l => bitB (shM w h S nc l (tn x)) c) nl))) (w * h))) else lN ((1000000) / Nat.gcd (1000000) (suN (fun c => (10 ^ (cntF (fun l => bitB (shM w h S nc l (tn x)) c) nl) - tn v ^ (cntF (fun l => bitB (shM w h S nc l (tn x)) c) nl)) * 10 ^ (6 - (cntF (fun l => bitB (shM w h S nc l (tn x)) c) nl))) (w * h)))) else (-1))) (xWb G sz (w_X6_mean G ko ad w h la tp ft tr mv S mk) (fun u : (Nat → Int32) => [oC ko 6 [.ref (ad 0), .ref (ad 1), .int (nI w), .int (nI h), .int (nI la), .ref (ad 2), .int (mv 0), .int (mv 1), .int (mv 2), .int (mv 3), .int (mv 4), .int (mv 5), .int (mv 6), .ref (ad 3), .int (nI tp), .int (mv 7), .int (mv 8), .int (mv 9), .int (mv 10), .int ft, .int (mv 11), .ref (ad 4), .ref (ad 5), .ref (ad 6), .ref (ad 7), .ref (ad 8), .ref (ad 9), .ref (ad 10), .int tr], iA G (ad 0) 255 S, iA G (ad 4) 16 u])) (va_A (w_X6_mean G ko ad w h la tp ft tr mv S mk) sz))
set_option maxHeartbeats 4000000 in
set_option maxRecDepth 100000 in
theorem c_X6_mean (l : Launch) (G : XG) (sz : Nat) (ko : Nat) (ad : Nat → Nat) (w h la tp : Nat) (ft tr : Int32) (mv : Nat → Int32) (S mk : Nat → Int32) (nc : Nat) (nl : Nat) (v x a : Int32) (hw : 1 ≤ w) (hwb : w ≤ 16) (hhb : h ≤ 16) (hwh1 : 1 ≤ w * h) (hwh : w * h ≤ 16) (hla : la ≤ 9) (hs16 : S 16 = nI nc) (hnc : nc ≤ 10) (hs47 : S 47 = nI nl) (hnl : nl ≤ 6) (hlens : ∀ i, i < nl → inR (S (48 + 2 * i)) (la + 1)) : Met l yX6_mean wsX6_mean ({ frames := 6, cells := 0, slots := 0, locals := 135 } : Room) (va_Pc [.ref ko, .int v, .int x, .int a] (xWp G sz (w_X6_mean G ko ad w h la tp ft tr mv S mk))) (Q_X6_mean G sz ko ad w h la tp ft tr mv S mk nc nl v x a) 0 0 (va_A (w_X6_mean G ko ad w h la tp ft tr mv S mk) sz) := by
  refine Met.ofW (cc := cX6_mean) (maxL := 8) (ret := (some .long)) (by decide) rfl ?_
  intro pp ee ss mm aa below mt cd s₁ BB hml hv
  obtain ⟨rfl, hsz, hP, hK, hD0⟩ := hv
  have hx := BB.exec
  have hb := BB.bytes
  have hr := BB.returns
  have hts := atoms_spec (ws := wsX6_mean) BB.pre
  have hown : ss.vm.findClass RX6 = some mm.cls := findClass_of_methodNamed BB.named
  have hlocks := BB.notSynchronized
  subst hsz
  have hD := hD0.self (sz := ss.heap.size)
  have hA : ∀ q : Nat, ss.heap.size ≤ q → va_A (w_X6_mean G ko ad w h la tp ft tr mv S mk) ss.heap.size q := fun q h => Or.inr h
  have hS : va_S (va_A (w_X6_mean G ko ad w h la tp ft tr mv S mk) ss.heap.size) ss.heap ss.heap [] := va_S.rf
  replace hD : va_D (va_A (w_X6_mean G ko ad w h la tp ft tr mv S mk) ss.heap.size) [oC ko 6 [.ref (ad 0), .ref (ad 1), .int (nI w), .int (nI h), .int (nI la), .ref (ad 2), .int (mv 0), .int (mv 1), .int (mv 2), .int (mv 3), .int (mv 4), .int (mv 5), .int (mv 6), .ref (ad 3), .int (nI tp), .int (mv 7), .int (mv 8), .int (mv 9), .int (mv 10), .int ft, .int (mv 11), .ref (ad 4), .ref (ad 5), .ref (ad 6), .ref (ad 7), .ref (ad 8), .ref (ad 9), .ref (ad 10), .int tr], iA G (ad 0) 255 S, iA G (ad 4) 16 mk] := hD
  replace hP : xP G [oC ko 6 [.ref (ad 0), .ref (ad 1), .int (nI w), .int (nI h), .int (nI la), .ref (ad 2), .int (mv 0), .int (mv 1), .int (mv 2), .int (mv 3), .int (mv 4), .int (mv 5), .int (mv 6), .ref (ad 3), .int (nI tp), .int (mv 7), .int (mv 8), .int (mv 9), .int (mv 10), .int ft, .int (mv 11), .ref (ad 4), .ref (ad 5), .ref (ad 6), .ref (ad 7), .ref (ad 8), .ref (ad 9), .ref (ad 10), .int tr], iA G (ad 0) 255 S, iA G (ad 4) 16 mk] ss.heap := hP
  have hin6 : ∀ w ∈ u_ws RX6 TX6 29, w ∈ wsX6_mean := fun w h => List.mem_cons_of_mem _ (List.mem_append_right _ h)
  have hl := lv_entry ([.ref ko, .int v, .int x, .int a]) (n := 8) (Nat.le_of_ble_eq_true rfl)
  rw [lg_entry_eq]
  generalize (lg_sl ([.ref ko, .int v, .int x, .int a]) ++ List.replicate (8 - (lg_sl ([.ref ko, .int v, .int x, .int a])).length) Slot.unset).toArray = ls at hl ⊢
  replace hl : lv_has ls 8 [(0, .ref ko), (1, .int v), (2, .int x), (3, .int a)] := hl
  refine lv_iload_n hx hb dX6_mean_0 rfl (lv_at hl 1 rfl) ?_
  refine xi_i2l hx hb dX6_mean_1 ?_
  refine lv_lconst (v := lN 0) hx hb dX6_mean_2 (by decide) ?_
  refine lv_ldc2 (v := lN 10) hx hb hown (hts (.constantLong RX6 247 (lN 10)) (List.mem_of_getElem? (i := 1) rfl)) dX6_mean_3 ?_
  refine xs_i (As := [.long v.toInt64, .long (lN 0), .long (lN 10)]) (rest := []) ⟨hx, hb, hml, hown, hts⟩ (c_X6_in_r l G v 10 (by first | assumption | omega)) (va_cwS 3 hts gX6_mean_X6_in rfl rfl rfl (by decide +kernel) ⟨Nat.le_of_ble_eq_true rfl, Nat.le_of_ble_eq_true rfl⟩) hP hS rfl hl.1 rfl (Nat.le_of_ble_eq_true rfl) dX6_mean_6 ⟨Nat.zero_le _, Nat.zero_le _⟩ (fun r6 H locs hp6 hP hS => ?_)
  rw [show r6 = _ from hp6]
  refine xb_if_eq (tgt := 27) hx hb dX6_mean_9 rfl (fun b9 => ?_) (fun b9 => ?_)
  · skip
    refine lv_ldc2 (v := (-1)) hx hb hown (hts (.constantLong RX6 229 ((-1))) (List.mem_of_getElem? (i := 2) rfl)) dX6_mean_27 ?_
    have hP := hP.sub (ws' := [oC ko 6 [.ref (ad 0), .ref (ad 1), .int (nI w), .int (nI h), .int (nI la), .ref (ad 2), .int (mv 0), .int (mv 1), .int (mv 2), .int (mv 3), .int (mv 4), .int (mv 5), .int (mv 6), .ref (ad 3), .int (nI tp), .int (mv 7), .int (mv 8), .int (mv 9), .int (mv 10), .int ft, .int (mv 11), .ref (ad 4), .ref (ad 5), .ref (ad 6), .ref (ad 7), .ref (ad 8), .ref (ad 9), .ref (ad 10), .int tr], iA G (ad 0) 255 S, iA G (ad 4) 16 mk]) [0, 1, 2] rfl
    have hD := hD.sub (ws' := [oC ko 6 [.ref (ad 0), .ref (ad 1), .int (nI w), .int (nI h), .int (nI la), .ref (ad 2), .int (mv 0), .int (mv 1), .int (mv 2), .int (mv 3), .int (mv 4), .int (mv 5), .int (mv 6), .ref (ad 3), .int (nI tp), .int (mv 7), .int (mv 8), .int (mv 9), .int (mv 10), .int ft, .int (mv 11), .ref (ad 4), .ref (ad 5), .ref (ad 6), .ref (ad 7), .ref (ad 8), .ref (ad 9), .ref (ad 10), .int tr], iA G (ad 0) 255 S, iA G (ad 4) 16 mk]) [0, 1, 2] (by decide) rfl
    refine W.lret (v := (-1)) hx hb hr (fun t ht hW => ⟨⟨(-1), (mk), rfl, ?_, by rw [ht]; exact hP, hD⟩, hS.F ht⟩) hS.2.2 dX6_mean_30
    first | exact (if_neg (fun q => b9 q.1)).symm | exact (if_neg (fun q => b17 q.2.1)).symm | exact (if_neg (fun q => b24 q.2.2)).symm | (rw [if_pos ⟨inR_nI hv0 (by omega), inR_nI hx0 (by omega), b24⟩, tn_nI (by omega), tn_nI (by omega), hsm, show c = w * h by omega])
  · skip
    refine lv_aload_n hx hb dX6_mean_12 rfl (lv_at hl 0 rfl) ?_
    refine lv_iload_n hx hb dX6_mean_13 rfl (lv_at hl 2 rfl) ?_
    refine xr_i (As := [.int x]) (rest := []) ⟨hx, hb, hml, hown, hts⟩ (c_X6_isCell l G ko ad w h la tp ft tr mv x (by first | assumption | omega) (by first | assumption | omega)) (cwV 1 hts gX6_mean_X6_isCell rfl rfl rfl (by decide +kernel) ⟨Nat.le_of_ble_eq_true rfl, Nat.le_of_ble_eq_true rfl⟩) hK hP hS [0] rfl rfl rfl rfl hl.1 rfl (Nat.le_of_ble_eq_true rfl) dX6_mean_14 ⟨Nat.zero_le _, Nat.zero_le _⟩ (fun r14 H locs hp14 hP hS => ?_)
    rw [show r14 = _ from hp14]
    refine xb_if_eq (tgt := 27) hx hb dX6_mean_17 rfl (fun b17 => ?_) (fun b17 => ?_)
    · skip
      refine lv_ldc2 (v := (-1)) hx hb hown (hts (.constantLong RX6 229 ((-1))) (List.mem_of_getElem? (i := 2) rfl)) dX6_mean_27 ?_
      have hP := hP.sub (ws' := [oC ko 6 [.ref (ad 0), .ref (ad 1), .int (nI w), .int (nI h), .int (nI la), .ref (ad 2), .int (mv 0), .int (mv 1), .int (mv 2), .int (mv 3), .int (mv 4), .int (mv 5), .int (mv 6), .ref (ad 3), .int (nI tp), .int (mv 7), .int (mv 8), .int (mv 9), .int (mv 10), .int ft, .int (mv 11), .ref (ad 4), .ref (ad 5), .ref (ad 6), .ref (ad 7), .ref (ad 8), .ref (ad 9), .ref (ad 10), .int tr], iA G (ad 0) 255 S, iA G (ad 4) 16 mk]) [0, 1, 2] rfl
      have hD := hD.sub (ws' := [oC ko 6 [.ref (ad 0), .ref (ad 1), .int (nI w), .int (nI h), .int (nI la), .ref (ad 2), .int (mv 0), .int (mv 1), .int (mv 2), .int (mv 3), .int (mv 4), .int (mv 5), .int (mv 6), .ref (ad 3), .int (nI tp), .int (mv 7), .int (mv 8), .int (mv 9), .int (mv 10), .int ft, .int (mv 11), .ref (ad 4), .ref (ad 5), .ref (ad 6), .ref (ad 7), .ref (ad 8), .ref (ad 9), .ref (ad 10), .int tr], iA G (ad 0) 255 S, iA G (ad 4) 16 mk]) [0, 1, 2] (by decide) rfl
      refine W.lret (v := (-1)) hx hb hr (fun t ht hW => ⟨⟨(-1), (mk), rfl, ?_, by rw [ht]; exact hP, hD⟩, hS.F ht⟩) hS.2.2 dX6_mean_30
      first | exact (if_neg (fun q => b9 q.1)).symm | exact (if_neg (fun q => b17 q.2.1)).symm | exact (if_neg (fun q => b24 q.2.2)).symm | (rw [if_pos ⟨inR_nI hv0 (by omega), inR_nI hx0 (by omega), b24⟩, tn_nI (by omega), tn_nI (by omega), hsm, show c = w * h by omega])
    · skip
      refine lv_iload_n hx hb dX6_mean_20 rfl (lv_at hl 3 rfl) ?_
      refine xs_i (As := [.int a]) (rest := []) ⟨hx, hb, hml, hown, hts⟩ (c_X6_isPart l G a ) (va_cwS 1 hts gX6_mean_X6_isPart rfl rfl rfl (by decide +kernel) ⟨Nat.le_of_ble_eq_true rfl, Nat.le_of_ble_eq_true rfl⟩) hP hS rfl hl.1 rfl (Nat.le_of_ble_eq_true rfl) dX6_mean_21 ⟨Nat.zero_le _, Nat.zero_le _⟩ (fun r21 H locs hp21 hP hS => ?_)
      rw [show r21 = _ from hp21]
      refine xb_if_ne (tgt := 31) hx hb dX6_mean_24 rfl (fun b24 => ?_) (fun b24 => ?_)
      · skip
        obtain ⟨v0, hv0, rfl⟩ := inR_nat b9
        obtain ⟨x0, hx0, rfl⟩ := inR_nat b17
        refine lv_lconst (v := lN 0) hx hb dX6_mean_31 (by decide) ?_
        refine lv_lstore (lv' := [(4, .long (lN 0)), (0, .ref ko), (1, .int (nI v0)), (2, .int (nI x0)), (3, .int a)]) hx hb dX6_mean_32 hl (by decide) rfl (fun ls hl => ?_)
        refine lv_iconst (v := nI 0) hx hb dX6_mean_34 (by decide) ?_
        refine lv_istore (lv' := [(6, .int (nI 0)), (4, .long (lN 0)), (0, .ref ko), (1, .int (nI v0)), (2, .int (nI x0)), (3, .int a)]) hx hb dX6_mean_35 hl (by decide) rfl (fun ls hl => ?_)
        have hL37 : ∀ k : Nat, ∀ (c : Nat) (sm : Nat) (mk3 : Nat → Int32) (ls : Array Slot) (H : Heap) (locs : List Loc), w * h - c = k → (c ≤ w * h) → (sm = suN (fun c => (10 ^ (cntF (fun l => bitB (shM w h S nc l x0) c) nl) - v0 ^ (cntF (fun l => bitB (shM w h S nc l x0) c) nl)) * 10 ^ (6 - (cntF (fun l => bitB (shM w h S nc l x0) c) nl))) c) → (sm ≤ c * 1000000) → lv_has ls 8 [(0, .ref ko), (1, .int (nI v0)), (2, .int (nI x0)), (3, .int a), (4, .long (lN sm)), (6, .int (nI c))] → xP G [iA G (ad 0) 255 S, iA G (ad 4) 16 mk3, oC ko 6 [.ref (ad 0), .ref (ad 1), .int (nI w), .int (nI h), .int (nI la), .ref (ad 2), .int (mv 0), .int (mv 1), .int (mv 2), .int (mv 3), .int (mv 4), .int (mv 5), .int (mv 6), .ref (ad 3), .int (nI tp), .int (mv 7), .int (mv 8), .int (mv 9), .int (mv 10), .int ft, .int (mv 11), .ref (ad 4), .ref (ad 5), .ref (ad 6), .ref (ad 7), .ref (ad 8), .ref (ad 9), .ref (ad 10), .int tr]] H → va_D (va_A (w_X6_mean G ko ad w h la tp ft tr mv S mk) ss.heap.size) [iA G (ad 0) 255 S, iA G (ad 4) 16 mk3, oC ko 6 [.ref (ad 0), .ref (ad 1), .int (nI w), .int (nI h), .int (nI la), .ref (ad 2), .int (mv 0), .int (mv 1), .int (mv 2), .int (mv 3), .int (mv 4), .int (mv 5), .int (mv 6), .ref (ad 3), .int (nI tp), .int (mv 7), .int (mv 8), .int (mv 9), .int (mv 10), .int ft, .int (mv 11), .ref (ad 4), .ref (ad 5), .ref (ad 6), .ref (ad 7), .ref (ad 8), .ref (ad 9), .ref (ad 10), .int tr]] → va_S (va_A (w_X6_mean G ko ad w h la tp ft tr mv S mk) ss.heap.size) ss.heap H locs → W pp l ee ({ frames := 6, cells := 0, slots := 0, locals := 135 } : Room) ss mm ([.ref ko, .int (nI v0), .int (nI x0), .int a] : List Value).toArray below mt cd H locs 0 0 (MQ below (Q_X6_mean G ss.heap.size ko ad w h la tp ft tr mv S mk nc nl (nI v0) (nI x0) a) ([.ref ko, .int (nI v0), .int (nI x0), .int a] : List Value).toArray ss 0 0 (va_A (w_X6_mean G ko ad w h la tp ft tr mv S mk) ss.heap.size)) (F0 mm 37 ls []) := by
          intro k
          induction k using Nat.strongRecOn with
          | _ k ih37 =>
          intro c sm mk3 ls H locs hm37 hci hsm hsl hl hP hD hS
          refine lv_iload hx hb dX6_mean_37 (lv_at hl 5 rfl) ?_
          refine lv_aload_n hx hb dX6_mean_39 rfl (lv_at hl 0 rfl) ?_
          refine xr_i (As := []) (rest := [.int (nI c)]) ⟨hx, hb, hml, hown, hts⟩ (c_X6_cellsNow l G ko ad w h la tp ft tr mv ) (cwV 0 hts gX6_mean_X6_cellsNow rfl rfl rfl (by decide +kernel) ⟨Nat.le_of_ble_eq_true rfl, Nat.le_of_ble_eq_true rfl⟩) hK hP hS [2] rfl rfl rfl rfl hl.1 rfl (Nat.le_of_ble_eq_true rfl) dX6_mean_40 ⟨Nat.zero_le _, Nat.zero_le _⟩ (fun r40 H locs hp40 hP hS => ?_)
          rw [show r40 = _ from hp40]
          refine xn_icmp_ge (tgt := 91) hx hb (by omega) (by omega) dX6_mean_43 rfl (fun b43 => ?_) (fun b43 => ?_)
          · skip
            refine lv_lload hx hb dX6_mean_91 (lv_at hl 4 rfl) ?_
            refine lv_bipush (v := nI 10) hx hb dX6_mean_93 (by decide) ?_
            refine lv_bipush (v := nI 6) hx hb dX6_mean_95 (by decide) ?_
            refine xs_l (As := [.int (nI 10), .int (nI 6)]) (rest := [.long (lN sm)]) ⟨hx, hb, hml, hown, hts⟩ (c_X6_power l G 10 6 (by first | assumption | omega) (by first | assumption | omega)) (va_cwS 2 hts gX6_mean_X6_power rfl rfl rfl (by decide +kernel) ⟨Nat.le_of_ble_eq_true rfl, Nat.le_of_ble_eq_true rfl⟩) hP hS rfl hl.1 rfl (Nat.le_of_ble_eq_true rfl) dX6_mean_97 ⟨Nat.zero_le _, Nat.zero_le _⟩ (fun r97 H locs hp97 hP hS => ?_)
            rw [show r97 = _ from hp97]
            have hcm : c * 1000000 ≤ 16 * 1000000 := Nat.mul_le_mul_right _ (by omega)
            refine xl_top (y := lN 1000000) (by rfl) ?_
            refine lv_iload_n hx hb dX6_mean_100 rfl (lv_at hl 3 rfl) ?_
            refine xs_l (As := [.long (lN sm), .long (lN 1000000), .int a]) (rest := []) ⟨hx, hb, hml, hown, hts⟩ (c_X6_told l G sm 1000000 a (by first | assumption | omega) (by first | assumption | omega) (by first | assumption | omega)) (va_cwS 3 hts gX6_mean_X6_told rfl rfl rfl (by decide +kernel) ⟨Nat.le_of_ble_eq_true rfl, Nat.le_of_ble_eq_true rfl⟩) hP hS rfl hl.1 rfl (Nat.le_of_ble_eq_true rfl) dX6_mean_101 ⟨Nat.zero_le _, Nat.zero_le _⟩ (fun r101 H locs hp101 hP hS => ?_)
            rw [show r101 = _ from hp101]
            have hP := hP.sub (ws' := [oC ko 6 [.ref (ad 0), .ref (ad 1), .int (nI w), .int (nI h), .int (nI la), .ref (ad 2), .int (mv 0), .int (mv 1), .int (mv 2), .int (mv 3), .int (mv 4), .int (mv 5), .int (mv 6), .ref (ad 3), .int (nI tp), .int (mv 7), .int (mv 8), .int (mv 9), .int (mv 10), .int ft, .int (mv 11), .ref (ad 4), .ref (ad 5), .ref (ad 6), .ref (ad 7), .ref (ad 8), .ref (ad 9), .ref (ad 10), .int tr], iA G (ad 0) 255 S, iA G (ad 4) 16 mk3]) [2, 0, 1] rfl
            have hD := hD.sub (ws' := [oC ko 6 [.ref (ad 0), .ref (ad 1), .int (nI w), .int (nI h), .int (nI la), .ref (ad 2), .int (mv 0), .int (mv 1), .int (mv 2), .int (mv 3), .int (mv 4), .int (mv 5), .int (mv 6), .ref (ad 3), .int (nI tp), .int (mv 7), .int (mv 8), .int (mv 9), .int (mv 10), .int ft, .int (mv 11), .ref (ad 4), .ref (ad 5), .ref (ad 6), .ref (ad 7), .ref (ad 8), .ref (ad 9), .ref (ad 10), .int tr], iA G (ad 0) 255 S, iA G (ad 4) 16 mk3]) [2, 0, 1] (by decide) rfl
            refine W.lret (v := (if a = 0 then lN (sm / Nat.gcd 1000000 sm) else lN (1000000 / Nat.gcd 1000000 sm))) hx hb hr (fun t ht hW => ⟨⟨(if a = 0 then lN (sm / Nat.gcd 1000000 sm) else lN (1000000 / Nat.gcd 1000000 sm)), (mk3), rfl, ?_, by rw [ht]; exact hP, hD⟩, hS.F ht⟩) hS.2.2 dX6_mean_104
            first | exact (if_neg (fun q => b9 q.1)).symm | exact (if_neg (fun q => b17 q.2.1)).symm | exact (if_neg (fun q => b24 q.2.2)).symm | (rw [if_pos ⟨inR_nI hv0 (by omega), inR_nI hx0 (by omega), b24⟩, tn_nI (by omega), tn_nI (by omega), hsm, show c = w * h by omega])
          · skip
            refine lv_aload_n hx hb dX6_mean_46 rfl (lv_at hl 0 rfl) ?_
            refine lv_iload_n hx hb dX6_mean_47 rfl (lv_at hl 2 rfl) ?_
            refine lv_iload hx hb dX6_mean_48 (lv_at hl 5 rfl) ?_
            refine xw_i (As := [.int (nI x0), .int (nI c)]) (rest := []) (wr := []) ⟨hx, hb, hml, hown, hts⟩ (c_X6_showersOf l G H.size ko ad w h la tp ft tr mv S mk3 nc nl x0 c (by first | assumption | omega) (by first | assumption | omega) (by first | assumption | omega) (by first | assumption | omega) (by first | assumption | omega) (by first | assumption | omega) (by first | assumption | omega) (by first | assumption | omega) (by first | assumption | omega) (by first | assumption | omega) (by first | assumption | omega) (by first | assumption | omega) (by first | assumption | omega)) (cwV 2 hts gX6_mean_X6_showersOf rfl rfl rfl (by decide +kernel) ⟨Nat.le_of_ble_eq_true rfl, Nat.le_of_ble_eq_true rfl⟩) hK hP hD hS hA [2, 0, 1] [] rfl rfl (by decide) (by decide) (by decide) rfl rfl rfl hl.1 rfl (Nat.le_of_ble_eq_true rfl) dX6_mean_50 ⟨Nat.le_of_ble_eq_true rfl, Nat.le_of_ble_eq_true rfl⟩ (fun r50 u H locs hp50 hP hD hS => ?_)
            obtain ⟨mk2_50, rfl⟩ : ∃ z, z = u := ⟨_, rfl⟩
            try dsimp only at hp50 hP hD
            obtain rfl := hp50
            replace hP : xP G [oC ko 6 [.ref (ad 0), .ref (ad 1), .int (nI w), .int (nI h), .int (nI la), .ref (ad 2), .int (mv 0), .int (mv 1), .int (mv 2), .int (mv 3), .int (mv 4), .int (mv 5), .int (mv 6), .ref (ad 3), .int (nI tp), .int (mv 7), .int (mv 8), .int (mv 9), .int (mv 10), .int ft, .int (mv 11), .ref (ad 4), .ref (ad 5), .ref (ad 6), .ref (ad 7), .ref (ad 8), .ref (ad 9), .ref (ad 10), .int tr], iA G (ad 0) 255 S, iA G (ad 4) 16 mk2_50] H := hP
            replace hD : va_D (va_A (w_X6_mean G ko ad w h la tp ft tr mv S mk) ss.heap.size) [oC ko 6 [.ref (ad 0), .ref (ad 1), .int (nI w), .int (nI h), .int (nI la), .ref (ad 2), .int (mv 0), .int (mv 1), .int (mv 2), .int (mv 3), .int (mv 4), .int (mv 5), .int (mv 6), .ref (ad 3), .int (nI tp), .int (mv 7), .int (mv 8), .int (mv 9), .int (mv 10), .int ft, .int (mv 11), .ref (ad 4), .ref (ad 5), .ref (ad 6), .ref (ad 7), .ref (ad 8), .ref (ad 9), .ref (ad 10), .int tr], iA G (ad 0) 255 S, iA G (ad 4) 16 mk2_50] := hD
            have hcl := cntF_le (fun l => bitB (shM w h S nc l x0) c) nl
            have hpl := Nat.pow_le_pow_left (show v0 ≤ 10 by omega) (cntF (fun l => bitB (shM w h S nc l x0) c) nl)
            refine lv_istore (lv' := [(7, .int (nI (cntF (fun l => bitB (shM w h S nc l x0) c) nl))), (0, .ref ko), (1, .int (nI v0)), (2, .int (nI x0)), (3, .int a), (4, .long (lN sm)), (6, .int (nI c))]) hx hb dX6_mean_53 hl (by decide) rfl (fun ls hl => ?_)
            refine lv_lload hx hb dX6_mean_55 (lv_at hl 5 rfl) ?_
            refine lv_bipush (v := nI 10) hx hb dX6_mean_57 (by decide) ?_
            refine lv_iload hx hb dX6_mean_59 (lv_at hl 0 rfl) ?_
            refine xs_l (As := [.int (nI 10), .int (nI (cntF (fun l => bitB (shM w h S nc l x0) c) nl))]) (rest := [.long (lN sm)]) ⟨hx, hb, hml, hown, hts⟩ (c_X6_power l G 10 (cntF (fun l => bitB (shM w h S nc l x0) c) nl) (by first | assumption | omega) (by first | assumption | omega)) (va_cwS 2 hts gX6_mean_X6_power rfl rfl rfl (by decide +kernel) ⟨Nat.le_of_ble_eq_true rfl, Nat.le_of_ble_eq_true rfl⟩) hP hS rfl hl.1 rfl (Nat.le_of_ble_eq_true rfl) dX6_mean_61 ⟨Nat.zero_le _, Nat.zero_le _⟩ (fun r61 H locs hp61 hP hS => ?_)
            rw [show r61 = _ from hp61]
            refine lv_iload_n hx hb dX6_mean_64 rfl (lv_at hl 2 rfl) ?_
            refine lv_iload hx hb dX6_mean_65 (lv_at hl 0 rfl) ?_
            refine xs_l (As := [.int (nI v0), .int (nI (cntF (fun l => bitB (shM w h S nc l x0) c) nl))]) (rest := [.long (lN (10 ^ (cntF (fun l => bitB (shM w h S nc l x0) c) nl))), .long (lN sm)]) ⟨hx, hb, hml, hown, hts⟩ (c_X6_power l G v0 (cntF (fun l => bitB (shM w h S nc l x0) c) nl) (by first | assumption | omega) (by first | assumption | omega)) (va_cwS 2 hts gX6_mean_X6_power rfl rfl rfl (by decide +kernel) ⟨Nat.le_of_ble_eq_true rfl, Nat.le_of_ble_eq_true rfl⟩) hP hS rfl hl.1 rfl (Nat.le_of_ble_eq_true rfl) dX6_mean_67 ⟨Nat.zero_le _, Nat.zero_le _⟩ (fun r67 H locs hp67 hP hS => ?_)
            rw [show r67 = _ from hp67]
            refine lv_lsub hx hb dX6_mean_70 ?_
            refine xl_top (lN_sub (by omega)) ?_
            refine lv_bipush (v := nI 10) hx hb dX6_mean_71 (by decide) ?_
            refine lv_bipush (v := nI 6) hx hb dX6_mean_73 (by decide) ?_
            refine lv_iload hx hb dX6_mean_75 (lv_at hl 0 rfl) ?_
            refine xn_isub hx hb (by omega) dX6_mean_77 ?_
            refine xs_l (As := [.int (nI 10), .int (nI (6 - (cntF (fun l => bitB (shM w h S nc l x0) c) nl)))]) (rest := [.long (lN ((10 ^ (cntF (fun l => bitB (shM w h S nc l x0) c) nl)) - (v0 ^ (cntF (fun l => bitB (shM w h S nc l x0) c) nl)))), .long (lN sm)]) ⟨hx, hb, hml, hown, hts⟩ (c_X6_power l G 10 (6 - (cntF (fun l => bitB (shM w h S nc l x0) c) nl)) (by first | assumption | omega) (by first | assumption | omega)) (va_cwS 2 hts gX6_mean_X6_power rfl rfl rfl (by decide +kernel) ⟨Nat.le_of_ble_eq_true rfl, Nat.le_of_ble_eq_true rfl⟩) hP hS rfl hl.1 rfl (Nat.le_of_ble_eq_true rfl) dX6_mean_78 ⟨Nat.zero_le _, Nat.zero_le _⟩ (fun r78 H locs hp78 hP hS => ?_)
            rw [show r78 = _ from hp78]
            refine lv_lmul hx hb dX6_mean_81 ?_
            refine xl_top (lN_mul _ _) ?_
            refine lv_ladd hx hb dX6_mean_82 ?_
            refine xl_top (lN_add _ _) ?_
            refine lv_lstore (lv' := [(4, .long (lN (sm + (((10 ^ (cntF (fun l => bitB (shM w h S nc l x0) c) nl)) - (v0 ^ (cntF (fun l => bitB (shM w h S nc l x0) c) nl))) * (10 ^ (6 - (cntF (fun l => bitB (shM w h S nc l x0) c) nl))))))), (7, .int (nI (cntF (fun l => bitB (shM w h S nc l x0) c) nl))), (0, .ref ko), (1, .int (nI v0)), (2, .int (nI x0)), (3, .int a), (6, .int (nI c))]) hx hb dX6_mean_83 hl (by decide) rfl (fun ls hl => ?_)
            refine lv_iinc (k := 6) (v := nI (c + 1)) (lv' := [(6, .int (nI (c + 1))), (4, .long (lN (sm + (((10 ^ (cntF (fun l => bitB (shM w h S nc l x0) c) nl)) - (v0 ^ (cntF (fun l => bitB (shM w h S nc l x0) c) nl))) * (10 ^ (6 - (cntF (fun l => bitB (shM w h S nc l x0) c) nl))))))), (7, .int (nI (cntF (fun l => bitB (shM w h S nc l x0) c) nl))), (0, .ref ko), (1, .int (nI v0)), (2, .int (nI x0)), (3, .int a)]) hx hb dX6_mean_85 hl rfl (xn_inc c 1) (by decide) rfl (fun ls hl => ?_)
            refine lv_goto (tgt := 37) hx hb dX6_mean_88 rfl ?_
            have hl := lv_sub hl (l' := [(0, .ref ko), (1, .int (nI v0)), (2, .int (nI x0)), (3, .int a), (4, .long (lN (sm + (((10 ^ (cntF (fun l => bitB (shM w h S nc l x0) c) nl)) - (v0 ^ (cntF (fun l => bitB (shM w h S nc l x0) c) nl))) * (10 ^ (6 - (cntF (fun l => bitB (shM w h S nc l x0) c) nl))))))), (6, .int (nI (c + 1)))]) [3, 4, 5, 6, 1, 0] rfl
            have hP := hP.sub (ws' := [iA G (ad 0) 255 S, iA G (ad 4) 16 mk2_50, oC ko 6 [.ref (ad 0), .ref (ad 1), .int (nI w), .int (nI h), .int (nI la), .ref (ad 2), .int (mv 0), .int (mv 1), .int (mv 2), .int (mv 3), .int (mv 4), .int (mv 5), .int (mv 6), .ref (ad 3), .int (nI tp), .int (mv 7), .int (mv 8), .int (mv 9), .int (mv 10), .int ft, .int (mv 11), .ref (ad 4), .ref (ad 5), .ref (ad 6), .ref (ad 7), .ref (ad 8), .ref (ad 9), .ref (ad 10), .int tr]]) [1, 2, 0] rfl
            have hD := hD.sub (ws' := [iA G (ad 0) 255 S, iA G (ad 4) 16 mk2_50, oC ko 6 [.ref (ad 0), .ref (ad 1), .int (nI w), .int (nI h), .int (nI la), .ref (ad 2), .int (mv 0), .int (mv 1), .int (mv 2), .int (mv 3), .int (mv 4), .int (mv 5), .int (mv 6), .ref (ad 3), .int (nI tp), .int (mv 7), .int (mv 8), .int (mv 9), .int (mv 10), .int ft, .int (mv 11), .ref (ad 4), .ref (ad 5), .ref (ad 6), .ref (ad 7), .ref (ad 8), .ref (ad 9), .ref (ad 10), .int tr]]) [1, 2, 0] (by decide) rfl
            exact ih37 (w * h - (c + 1)) (by omega) (c + 1) (sm + (((10 ^ (cntF (fun l => bitB (shM w h S nc l x0) c) nl)) - (v0 ^ (cntF (fun l => bitB (shM w h S nc l x0) c) nl))) * (10 ^ (6 - (cntF (fun l => bitB (shM w h S nc l x0) c) nl))))) mk2_50 ls H locs rfl (by omega) (by rw [hsm]; rfl) (by rw [Nat.succ_mul]; have hpm := Nat.mul_le_mul (show 10 ^ (cntF (fun l => bitB (shM w h S nc l x0) c) nl) - v0 ^ (cntF (fun l => bitB (shM w h S nc l x0) c) nl) ≤ 10 ^ (cntF (fun l => bitB (shM w h S nc l x0) c) nl) from Nat.sub_le _ _) (Nat.le_refl (10 ^ (6 - (cntF (fun l => bitB (shM w h S nc l x0) c) nl)))); rw [← Nat.pow_add, show cntF (fun l => bitB (shM w h S nc l x0) c) nl + (6 - (cntF (fun l => bitB (shM w h S nc l x0) c) nl)) = 6 by omega] at hpm; omega) hl hP hD hS
        have hl := lv_sub hl (l' := [(0, .ref ko), (1, .int (nI v0)), (2, .int (nI x0)), (3, .int a), (4, .long (lN 0)), (6, .int (nI 0))]) [2, 3, 4, 5, 1, 0] rfl
        have hP := hP.sub (ws' := [iA G (ad 0) 255 S, iA G (ad 4) 16 mk, oC ko 6 [.ref (ad 0), .ref (ad 1), .int (nI w), .int (nI h), .int (nI la), .ref (ad 2), .int (mv 0), .int (mv 1), .int (mv 2), .int (mv 3), .int (mv 4), .int (mv 5), .int (mv 6), .ref (ad 3), .int (nI tp), .int (mv 7), .int (mv 8), .int (mv 9), .int (mv 10), .int ft, .int (mv 11), .ref (ad 4), .ref (ad 5), .ref (ad 6), .ref (ad 7), .ref (ad 8), .ref (ad 9), .ref (ad 10), .int tr]]) [1, 2, 0] rfl
        have hD := hD.sub (ws' := [iA G (ad 0) 255 S, iA G (ad 4) 16 mk, oC ko 6 [.ref (ad 0), .ref (ad 1), .int (nI w), .int (nI h), .int (nI la), .ref (ad 2), .int (mv 0), .int (mv 1), .int (mv 2), .int (mv 3), .int (mv 4), .int (mv 5), .int (mv 6), .ref (ad 3), .int (nI tp), .int (mv 7), .int (mv 8), .int (mv 9), .int (mv 10), .int ft, .int (mv 11), .ref (ad 4), .ref (ad 5), .ref (ad 6), .ref (ad 7), .ref (ad 8), .ref (ad 9), .ref (ad 10), .int tr]]) [1, 2, 0] (by decide) rfl
        exact hL37 (w * h - 0) 0 0 mk ls H locs rfl (by omega) (by rfl) (by omega) hl hP hD hS
      · skip
        refine lv_ldc2 (v := (-1)) hx hb hown (hts (.constantLong RX6 229 ((-1))) (List.mem_of_getElem? (i := 2) rfl)) dX6_mean_27 ?_
        have hP := hP.sub (ws' := [oC ko 6 [.ref (ad 0), .ref (ad 1), .int (nI w), .int (nI h), .int (nI la), .ref (ad 2), .int (mv 0), .int (mv 1), .int (mv 2), .int (mv 3), .int (mv 4), .int (mv 5), .int (mv 6), .ref (ad 3), .int (nI tp), .int (mv 7), .int (mv 8), .int (mv 9), .int (mv 10), .int ft, .int (mv 11), .ref (ad 4), .ref (ad 5), .ref (ad 6), .ref (ad 7), .ref (ad 8), .ref (ad 9), .ref (ad 10), .int tr], iA G (ad 0) 255 S, iA G (ad 4) 16 mk]) [0, 1, 2] rfl
        have hD := hD.sub (ws' := [oC ko 6 [.ref (ad 0), .ref (ad 1), .int (nI w), .int (nI h), .int (nI la), .ref (ad 2), .int (mv 0), .int (mv 1), .int (mv 2), .int (mv 3), .int (mv 4), .int (mv 5), .int (mv 6), .ref (ad 3), .int (nI tp), .int (mv 7), .int (mv 8), .int (mv 9), .int (mv 10), .int ft, .int (mv 11), .ref (ad 4), .ref (ad 5), .ref (ad 6), .ref (ad 7), .ref (ad 8), .ref (ad 9), .ref (ad 10), .int tr], iA G (ad 0) 255 S, iA G (ad 4) 16 mk]) [0, 1, 2] (by decide) rfl
        refine W.lret (v := (-1)) hx hb hr (fun t ht hW => ⟨⟨(-1), (mk), rfl, ?_, by rw [ht]; exact hP, hD⟩, hS.F ht⟩) hS.2.2 dX6_mean_30
        first | exact (if_neg (fun q => b9 q.1)).symm | exact (if_neg (fun q => b17 q.2.1)).symm | exact (if_neg (fun q => b24 q.2.2)).symm | (rw [if_pos ⟨inR_nI hv0 (by omega), inR_nI hx0 (by omega), b24⟩, tn_nI (by omega), tn_nI (by omega), hsm, show c = w * h by omega])

abbrev w_X6_likely (G : XG) (ko : Nat) (ad : Nat → Nat) (w h la tp : Nat) (ft tr : Int32) (mv : Nat → Int32) (S mk : Nat → Int32) : va_W := [oC ko 6 [.ref (ad 0), .ref (ad 1), .int (nI w), .int (nI h), .int (nI la), .ref (ad 2), .int (mv 0), .int (mv 1), .int (mv 2), .int (mv 3), .int (mv 4), .int (mv 5), .int (mv 6), .ref (ad 3), .int (nI tp), .int (mv 7), .int (mv 8), .int (mv 9), .int (mv 10), .int ft, .int (mv 11), .ref (ad 4), .ref (ad 5), .ref (ad 6), .ref (ad 7), .ref (ad 8), .ref (ad 9), .ref (ad 10), .int tr], iA G (ad 0) 255 S, iA G (ad 4) 16 mk]
abbrev Q_X6_likely (G : XG) (sz : Nat) (ko : Nat) (ad : Nat → Nat) (w h la tp : Nat) (ft tr : Int32) (mv : Nat → Int32) (S mk : Nat → Int32) (nc : Nat) (ns : Nat) (c m a : Int32) : Array Value → State → Outcome → State → Prop := (va_Ql (fun (r : Int64) (u : (Nat → Int32)) => r = (if inR c (w * h) ∧ inR m 6 ∧ inR a 2 then (if dyM w h la S nc ns = 0 then (-4) else (if a = 0 then lN ((cntF (fun d => decide ((dyM w h la S nc ns >>> (nI d &&& 31)) &&& nI 1 = nI 1) && decide (mkM S nc (tn c) d = m)) (la + 1)) / Nat.gcd (cntF (fun k => bitB (dyM w h la S nc ns) k) 16) (cntF (fun d => decide ((dyM w h la S nc ns >>> (nI d &&& 31)) &&& nI 1 = nI 1) && decide (mkM S nc (tn c) d = m)) (la + 1))) else lN ((cntF (fun k => bitB (dyM w h la S nc ns) k) 16) / Nat.gcd (cntF (fun k => bitB (dyM w h la S nc ns) k) 16) (cntF (fun d => decide ((dyM w h la S nc ns >>> (nI d &&& 31)) &&& nI 1 = nI 1) && decide (mkM S nc (tn c) d = m)) (la + 1))))) else (-1))) (xWb G sz (w_X6_likely G ko ad w h la tp ft tr mv S mk) (fun u : (Nat → Int32) => [oC ko 6 [.ref (ad 0), .ref (ad 1), .int (nI w), .int (nI h), .int (nI la), .ref (ad 2), .int (mv 0), .int (mv 1), .int (mv 2), .int (mv 3), .int (mv 4), .int (mv 5), .int (mv 6), .ref (ad 3), .int (nI tp), .int (mv 7), .int (mv 8), .int (mv 9), .int (mv 10), .int ft, .int (mv 11), .ref (ad 4), .ref (ad 5), .ref (ad 6), .ref (ad 7), .ref (ad 8), .ref (ad 9), .ref (ad 10), .int tr], iA G (ad 0) 255 S, iA G (ad 4) 16 u])) (va_A (w_X6_likely G ko ad w h la tp ft tr mv S mk) sz))
set_option maxHeartbeats 4000000 in
set_option maxRecDepth 100000 in
theorem c_X6_likely (l : Launch) (G : XG) (sz : Nat) (ko : Nat) (ad : Nat → Nat) (w h la tp : Nat) (ft tr : Int32) (mv : Nat → Int32) (S mk : Nat → Int32) (nc : Nat) (ns : Nat) (c m a : Int32) (hw : 1 ≤ w) (hwb : w ≤ 16) (hhb : h ≤ 16) (hwh1 : 1 ≤ w * h) (hwh : w * h ≤ 16) (hla : la ≤ 9) (hs16 : S 16 = nI nc) (hnc : nc ≤ 10) (hs60 : S 60 = nI ns) (hns : ns ≤ 8) (hshown : ∀ i, i < ns → inR (S (61 + 3 * i)) (w * h) ∧ inR (S (61 + 3 * i + 1)) (w * h)) : Met l yX6_likely wsX6_likely ({ frames := 6, cells := 0, slots := 0, locals := 135 } : Room) (va_Pc [.ref ko, .int c, .int m, .int a] (xWp G sz (w_X6_likely G ko ad w h la tp ft tr mv S mk))) (Q_X6_likely G sz ko ad w h la tp ft tr mv S mk nc ns c m a) 0 0 (va_A (w_X6_likely G ko ad w h la tp ft tr mv S mk) sz) := by
  refine Met.ofW (cc := cX6_likely) (maxL := 7) (ret := (some .long)) (by decide) rfl ?_
  intro pp ee ss mm aa below mt cd s₁ BB hml hv
  obtain ⟨rfl, hsz, hP, hK, hD0⟩ := hv
  have hx := BB.exec
  have hb := BB.bytes
  have hr := BB.returns
  have hts := atoms_spec (ws := wsX6_likely) BB.pre
  have hown : ss.vm.findClass RX6 = some mm.cls := findClass_of_methodNamed BB.named
  have hlocks := BB.notSynchronized
  subst hsz
  have hD := hD0.self (sz := ss.heap.size)
  have hA : ∀ q : Nat, ss.heap.size ≤ q → va_A (w_X6_likely G ko ad w h la tp ft tr mv S mk) ss.heap.size q := fun q h => Or.inr h
  have hS : va_S (va_A (w_X6_likely G ko ad w h la tp ft tr mv S mk) ss.heap.size) ss.heap ss.heap [] := va_S.rf
  replace hD : va_D (va_A (w_X6_likely G ko ad w h la tp ft tr mv S mk) ss.heap.size) [oC ko 6 [.ref (ad 0), .ref (ad 1), .int (nI w), .int (nI h), .int (nI la), .ref (ad 2), .int (mv 0), .int (mv 1), .int (mv 2), .int (mv 3), .int (mv 4), .int (mv 5), .int (mv 6), .ref (ad 3), .int (nI tp), .int (mv 7), .int (mv 8), .int (mv 9), .int (mv 10), .int ft, .int (mv 11), .ref (ad 4), .ref (ad 5), .ref (ad 6), .ref (ad 7), .ref (ad 8), .ref (ad 9), .ref (ad 10), .int tr], iA G (ad 0) 255 S, iA G (ad 4) 16 mk] := hD
  replace hP : xP G [oC ko 6 [.ref (ad 0), .ref (ad 1), .int (nI w), .int (nI h), .int (nI la), .ref (ad 2), .int (mv 0), .int (mv 1), .int (mv 2), .int (mv 3), .int (mv 4), .int (mv 5), .int (mv 6), .ref (ad 3), .int (nI tp), .int (mv 7), .int (mv 8), .int (mv 9), .int (mv 10), .int ft, .int (mv 11), .ref (ad 4), .ref (ad 5), .ref (ad 6), .ref (ad 7), .ref (ad 8), .ref (ad 9), .ref (ad 10), .int tr], iA G (ad 0) 255 S, iA G (ad 4) 16 mk] ss.heap := hP
  have hin6 : ∀ w ∈ u_ws RX6 TX6 29, w ∈ wsX6_likely := fun w h => List.mem_cons_of_mem _ (List.mem_append_right _ h)
  have hl := lv_entry ([.ref ko, .int c, .int m, .int a]) (n := 7) (Nat.le_of_ble_eq_true rfl)
  rw [lg_entry_eq]
  generalize (lg_sl ([.ref ko, .int c, .int m, .int a]) ++ List.replicate (7 - (lg_sl ([.ref ko, .int c, .int m, .int a])).length) Slot.unset).toArray = ls at hl ⊢
  replace hl : lv_has ls 7 [(0, .ref ko), (1, .int c), (2, .int m), (3, .int a)] := hl
  refine lv_aload_n hx hb dX6_likely_0 rfl (lv_at hl 0 rfl) ?_
  refine lv_iload_n hx hb dX6_likely_1 rfl (lv_at hl 1 rfl) ?_
  refine xr_i (As := [.int c]) (rest := []) ⟨hx, hb, hml, hown, hts⟩ (c_X6_isCell l G ko ad w h la tp ft tr mv c (by first | assumption | omega) (by first | assumption | omega)) (cwV 1 hts gX6_likely_X6_isCell rfl rfl rfl (by decide +kernel) ⟨Nat.le_of_ble_eq_true rfl, Nat.le_of_ble_eq_true rfl⟩) hK hP hS [0] rfl rfl rfl rfl hl.1 rfl (Nat.le_of_ble_eq_true rfl) dX6_likely_2 ⟨Nat.zero_le _, Nat.zero_le _⟩ (fun r2 H locs hp2 hP hS => ?_)
  rw [show r2 = _ from hp2]
  refine xb_if_eq (tgt := 22) hx hb dX6_likely_5 rfl (fun b5 => ?_) (fun b5 => ?_)
  · skip
    refine lv_ldc2 (v := (-1)) hx hb hown (hts (.constantLong RX6 229 ((-1))) (List.mem_of_getElem? (i := 1) rfl)) dX6_likely_22 ?_
    have hP := hP.sub (ws' := [oC ko 6 [.ref (ad 0), .ref (ad 1), .int (nI w), .int (nI h), .int (nI la), .ref (ad 2), .int (mv 0), .int (mv 1), .int (mv 2), .int (mv 3), .int (mv 4), .int (mv 5), .int (mv 6), .ref (ad 3), .int (nI tp), .int (mv 7), .int (mv 8), .int (mv 9), .int (mv 10), .int ft, .int (mv 11), .ref (ad 4), .ref (ad 5), .ref (ad 6), .ref (ad 7), .ref (ad 8), .ref (ad 9), .ref (ad 10), .int tr], iA G (ad 0) 255 S, iA G (ad 4) 16 mk]) [0, 1, 2] rfl
    have hD := hD.sub (ws' := [oC ko 6 [.ref (ad 0), .ref (ad 1), .int (nI w), .int (nI h), .int (nI la), .ref (ad 2), .int (mv 0), .int (mv 1), .int (mv 2), .int (mv 3), .int (mv 4), .int (mv 5), .int (mv 6), .ref (ad 3), .int (nI tp), .int (mv 7), .int (mv 8), .int (mv 9), .int (mv 10), .int ft, .int (mv 11), .ref (ad 4), .ref (ad 5), .ref (ad 6), .ref (ad 7), .ref (ad 8), .ref (ad 9), .ref (ad 10), .int tr], iA G (ad 0) 255 S, iA G (ad 4) 16 mk]) [0, 1, 2] (by decide) rfl
    refine W.lret (v := (-1)) hx hb hr (fun t ht hW => ⟨⟨(-1), (mk), rfl, ?_, by rw [ht]; exact hP, hD⟩, hS.F ht⟩) hS.2.2 dX6_likely_25
    first | exact (if_neg (fun q => b5 q.1)).symm | exact (if_neg (fun q => b12 q.2.1)).symm | exact (if_neg (fun q => b19 q.2.2)).symm | (rw [if_pos ⟨inR_nI hc0 (by omega), b12, b19⟩]; first | exact (if_pos b34).symm | (rw [if_neg b34, tn_nI (by omega), hn, show d = la + 1 by omega]))
  · skip
    refine lv_iload_n hx hb dX6_likely_8 rfl (lv_at hl 2 rfl) ?_
    refine xs_i (As := [.int m]) (rest := []) ⟨hx, hb, hml, hown, hts⟩ (c_X6_isMark l G m ) (va_cwS 1 hts gX6_likely_X6_isMark rfl rfl rfl (by decide +kernel) ⟨Nat.le_of_ble_eq_true rfl, Nat.le_of_ble_eq_true rfl⟩) hP hS rfl hl.1 rfl (Nat.le_of_ble_eq_true rfl) dX6_likely_9 ⟨Nat.zero_le _, Nat.zero_le _⟩ (fun r9 H locs hp9 hP hS => ?_)
    rw [show r9 = _ from hp9]
    refine xb_if_eq (tgt := 22) hx hb dX6_likely_12 rfl (fun b12 => ?_) (fun b12 => ?_)
    · skip
      refine lv_ldc2 (v := (-1)) hx hb hown (hts (.constantLong RX6 229 ((-1))) (List.mem_of_getElem? (i := 1) rfl)) dX6_likely_22 ?_
      have hP := hP.sub (ws' := [oC ko 6 [.ref (ad 0), .ref (ad 1), .int (nI w), .int (nI h), .int (nI la), .ref (ad 2), .int (mv 0), .int (mv 1), .int (mv 2), .int (mv 3), .int (mv 4), .int (mv 5), .int (mv 6), .ref (ad 3), .int (nI tp), .int (mv 7), .int (mv 8), .int (mv 9), .int (mv 10), .int ft, .int (mv 11), .ref (ad 4), .ref (ad 5), .ref (ad 6), .ref (ad 7), .ref (ad 8), .ref (ad 9), .ref (ad 10), .int tr], iA G (ad 0) 255 S, iA G (ad 4) 16 mk]) [0, 1, 2] rfl
      have hD := hD.sub (ws' := [oC ko 6 [.ref (ad 0), .ref (ad 1), .int (nI w), .int (nI h), .int (nI la), .ref (ad 2), .int (mv 0), .int (mv 1), .int (mv 2), .int (mv 3), .int (mv 4), .int (mv 5), .int (mv 6), .ref (ad 3), .int (nI tp), .int (mv 7), .int (mv 8), .int (mv 9), .int (mv 10), .int ft, .int (mv 11), .ref (ad 4), .ref (ad 5), .ref (ad 6), .ref (ad 7), .ref (ad 8), .ref (ad 9), .ref (ad 10), .int tr], iA G (ad 0) 255 S, iA G (ad 4) 16 mk]) [0, 1, 2] (by decide) rfl
      refine W.lret (v := (-1)) hx hb hr (fun t ht hW => ⟨⟨(-1), (mk), rfl, ?_, by rw [ht]; exact hP, hD⟩, hS.F ht⟩) hS.2.2 dX6_likely_25
      first | exact (if_neg (fun q => b5 q.1)).symm | exact (if_neg (fun q => b12 q.2.1)).symm | exact (if_neg (fun q => b19 q.2.2)).symm | (rw [if_pos ⟨inR_nI hc0 (by omega), b12, b19⟩]; first | exact (if_pos b34).symm | (rw [if_neg b34, tn_nI (by omega), hn, show d = la + 1 by omega]))
    · skip
      refine lv_iload_n hx hb dX6_likely_15 rfl (lv_at hl 3 rfl) ?_
      refine xs_i (As := [.int a]) (rest := []) ⟨hx, hb, hml, hown, hts⟩ (c_X6_isPart l G a ) (va_cwS 1 hts gX6_likely_X6_isPart rfl rfl rfl (by decide +kernel) ⟨Nat.le_of_ble_eq_true rfl, Nat.le_of_ble_eq_true rfl⟩) hP hS rfl hl.1 rfl (Nat.le_of_ble_eq_true rfl) dX6_likely_16 ⟨Nat.zero_le _, Nat.zero_le _⟩ (fun r16 H locs hp16 hP hS => ?_)
      rw [show r16 = _ from hp16]
      refine xb_if_ne (tgt := 26) hx hb dX6_likely_19 rfl (fun b19 => ?_) (fun b19 => ?_)
      · skip
        obtain ⟨c0, hc0, rfl⟩ := inR_nat b5
        refine lv_aload_n hx hb dX6_likely_26 rfl (lv_at hl 0 rfl) ?_
        refine xw_i (As := []) (rest := []) (wr := []) ⟨hx, hb, hml, hown, hts⟩ (c_X6_days l G H.size ko ad w h la tp ft tr mv S mk nc ns (by first | assumption | omega) (by first | assumption | omega) (by first | assumption | omega) (by first | assumption | omega) (by first | assumption | omega) (by first | assumption | omega) (by first | assumption | omega) (by first | assumption | omega) (by first | assumption | omega) (by first | assumption | omega) (by first | assumption | omega)) (cwV 0 hts gX6_likely_X6_days rfl rfl rfl (by decide +kernel) ⟨Nat.le_of_ble_eq_true rfl, Nat.le_of_ble_eq_true rfl⟩) hK hP hD hS hA [0, 1, 2] [] rfl rfl (by decide) (by decide) (by decide) rfl rfl rfl hl.1 rfl (Nat.le_of_ble_eq_true rfl) dX6_likely_27 ⟨Nat.le_of_ble_eq_true rfl, Nat.le_of_ble_eq_true rfl⟩ (fun r27 u H locs hp27 hP hD hS => ?_)
        obtain ⟨mk2_27, rfl⟩ : ∃ z, z = u := ⟨_, rfl⟩
        try dsimp only at hp27 hP hD
        obtain rfl := hp27
        replace hP : xP G [oC ko 6 [.ref (ad 0), .ref (ad 1), .int (nI w), .int (nI h), .int (nI la), .ref (ad 2), .int (mv 0), .int (mv 1), .int (mv 2), .int (mv 3), .int (mv 4), .int (mv 5), .int (mv 6), .ref (ad 3), .int (nI tp), .int (mv 7), .int (mv 8), .int (mv 9), .int (mv 10), .int ft, .int (mv 11), .ref (ad 4), .ref (ad 5), .ref (ad 6), .ref (ad 7), .ref (ad 8), .ref (ad 9), .ref (ad 10), .int tr], iA G (ad 0) 255 S, iA G (ad 4) 16 mk2_27] H := hP
        replace hD : va_D (va_A (w_X6_likely G ko ad w h la tp ft tr mv S mk) ss.heap.size) [oC ko 6 [.ref (ad 0), .ref (ad 1), .int (nI w), .int (nI h), .int (nI la), .ref (ad 2), .int (mv 0), .int (mv 1), .int (mv 2), .int (mv 3), .int (mv 4), .int (mv 5), .int (mv 6), .ref (ad 3), .int (nI tp), .int (mv 7), .int (mv 8), .int (mv 9), .int (mv 10), .int ft, .int (mv 11), .ref (ad 4), .ref (ad 5), .ref (ad 6), .ref (ad 7), .ref (ad 8), .ref (ad 9), .ref (ad 10), .int tr], iA G (ad 0) 255 S, iA G (ad 4) 16 mk2_27] := hD
        refine lv_istore (lv' := [(4, .int (dyM w h la S nc ns)), (0, .ref ko), (1, .int (nI c0)), (2, .int m), (3, .int a)]) hx hb dX6_likely_30 hl (by decide) rfl (fun ls hl => ?_)
        refine lv_iload hx hb dX6_likely_32 (lv_at hl 0 rfl) ?_
        refine lv_if_ne (tgt := 41) hx hb dX6_likely_34 rfl (fun b34 => ?_) (fun b34 => ?_)
        · skip
          refine lv_iconst (v := nI 0) hx hb dX6_likely_41 (by decide) ?_
          refine lv_istore (lv' := [(5, .int (nI 0)), (4, .int (dyM w h la S nc ns)), (0, .ref ko), (1, .int (nI c0)), (2, .int m), (3, .int a)]) hx hb dX6_likely_42 hl (by decide) rfl (fun ls hl => ?_)
          refine lv_iconst (v := nI 0) hx hb dX6_likely_44 (by decide) ?_
          refine lv_istore (lv' := [(6, .int (nI 0)), (5, .int (nI 0)), (4, .int (dyM w h la S nc ns)), (0, .ref ko), (1, .int (nI c0)), (2, .int m), (3, .int a)]) hx hb dX6_likely_45 hl (by decide) rfl (fun ls hl => ?_)
          have hL47 : ∀ k : Nat, ∀ (d : Nat) (n : Nat) (ls : Array Slot) (H : Heap) (locs : List Loc), la + 1 - d = k → (d ≤ la + 1) → (n = cntF (fun d => decide ((dyM w h la S nc ns >>> (nI d &&& 31)) &&& nI 1 = nI 1) && decide (mkM S nc c0 d = m)) d) → lv_has ls 7 [(0, .ref ko), (1, .int (nI c0)), (2, .int m), (3, .int a), (4, .int (dyM w h la S nc ns)), (5, .int (nI n)), (6, .int (nI d))] → xP G [iA G (ad 0) 255 S, iA G (ad 4) 16 mk2_27, oC ko 6 [.ref (ad 0), .ref (ad 1), .int (nI w), .int (nI h), .int (nI la), .ref (ad 2), .int (mv 0), .int (mv 1), .int (mv 2), .int (mv 3), .int (mv 4), .int (mv 5), .int (mv 6), .ref (ad 3), .int (nI tp), .int (mv 7), .int (mv 8), .int (mv 9), .int (mv 10), .int ft, .int (mv 11), .ref (ad 4), .ref (ad 5), .ref (ad 6), .ref (ad 7), .ref (ad 8), .ref (ad 9), .ref (ad 10), .int tr]] H → va_D (va_A (w_X6_likely G ko ad w h la tp ft tr mv S mk) ss.heap.size) [iA G (ad 0) 255 S, iA G (ad 4) 16 mk2_27, oC ko 6 [.ref (ad 0), .ref (ad 1), .int (nI w), .int (nI h), .int (nI la), .ref (ad 2), .int (mv 0), .int (mv 1), .int (mv 2), .int (mv 3), .int (mv 4), .int (mv 5), .int (mv 6), .ref (ad 3), .int (nI tp), .int (mv 7), .int (mv 8), .int (mv 9), .int (mv 10), .int ft, .int (mv 11), .ref (ad 4), .ref (ad 5), .ref (ad 6), .ref (ad 7), .ref (ad 8), .ref (ad 9), .ref (ad 10), .int tr]] → va_S (va_A (w_X6_likely G ko ad w h la tp ft tr mv S mk) ss.heap.size) ss.heap H locs → W pp l ee ({ frames := 6, cells := 0, slots := 0, locals := 135 } : Room) ss mm ([.ref ko, .int (nI c0), .int m, .int a] : List Value).toArray below mt cd H locs 0 0 (MQ below (Q_X6_likely G ss.heap.size ko ad w h la tp ft tr mv S mk nc ns (nI c0) m a) ([.ref ko, .int (nI c0), .int m, .int a] : List Value).toArray ss 0 0 (va_A (w_X6_likely G ko ad w h la tp ft tr mv S mk) ss.heap.size)) (F0 mm 47 ls []) := by
            intro k
            induction k using Nat.strongRecOn with
            | _ k ih47 =>
            intro d n ls H locs hm47 hd hn hl hP hD hS
            have hcl := cntF_le (fun d => decide ((dyM w h la S nc ns >>> (nI d &&& 31)) &&& nI 1 = nI 1) && decide (mkM S nc c0 d = m)) d
            refine lv_iload hx hb dX6_likely_47 (lv_at hl 6 rfl) ?_
            refine lv_aload_n hx hb dX6_likely_49 rfl (lv_at hl 0 rfl) ?_
            refine va_get (D := G.1) (ci := 6) (v := .int (nI la)) (C := RX6) (T := TX6) (N := 29) hx hb hts hin6 hown hK.1 hP 2 rfl rfl 4 (by decide) (hts (.fieldLink RX6 78 "BackLensesModel" "last" "I") (List.mem_of_getElem? (i := 3) rfl)) (fun _ h9 => h9) rfl dX6_likely_50 ?_
            refine xn_icmp_gt (tgt := 97) hx hb (by omega) (by omega) dX6_likely_53 rfl (fun b53 => ?_) (fun b53 => ?_)
            · skip
              refine lv_iload hx hb dX6_likely_97 (lv_at hl 5 rfl) ?_
              refine xn_i2l hx hb (by omega) dX6_likely_99 ?_
              refine lv_iload hx hb dX6_likely_100 (lv_at hl 4 rfl) ?_
              refine xs_i (As := [.int (dyM w h la S nc ns)]) (rest := [.long (lN n)]) ⟨hx, hb, hml, hown, hts⟩ (c_X6_bitsOf l G (dyM w h la S nc ns) ) (va_cwS 1 hts gX6_likely_X6_bitsOf rfl rfl rfl (by decide +kernel) ⟨Nat.le_of_ble_eq_true rfl, Nat.le_of_ble_eq_true rfl⟩) hP hS rfl hl.1 rfl (Nat.le_of_ble_eq_true rfl) dX6_likely_102 ⟨Nat.zero_le _, Nat.zero_le _⟩ (fun r102 H locs hp102 hP hS => ?_)
              rw [show r102 = _ from hp102]
              have hpc := xbits_pos (p := fun d => allF (fitM w h S nc d) ns) (n := la + 1) (by omega) b34
              have hpc2 := cntF_le (fun k => bitB (dyM w h la S nc ns) k) 16
              refine xn_top (y := nI (cntF (fun k => bitB (dyM w h la S nc ns) k) 16)) (bcM_cnt _ 16) ?_
              refine xn_i2l hx hb (by omega) dX6_likely_105 ?_
              refine lv_iload_n hx hb dX6_likely_106 rfl (lv_at hl 3 rfl) ?_
              refine xs_l (As := [.long (lN n), .long (lN (cntF (fun k => bitB (dyM w h la S nc ns) k) 16)), .int a]) (rest := []) ⟨hx, hb, hml, hown, hts⟩ (c_X6_told l G n (cntF (fun k => bitB (dyM w h la S nc ns) k) 16) a (by first | assumption | omega) (by first | assumption | omega) (by first | assumption | omega)) (va_cwS 3 hts gX6_likely_X6_told rfl rfl rfl (by decide +kernel) ⟨Nat.le_of_ble_eq_true rfl, Nat.le_of_ble_eq_true rfl⟩) hP hS rfl hl.1 rfl (Nat.le_of_ble_eq_true rfl) dX6_likely_107 ⟨Nat.zero_le _, Nat.zero_le _⟩ (fun r107 H locs hp107 hP hS => ?_)
              rw [show r107 = _ from hp107]
              have hP := hP.sub (ws' := [oC ko 6 [.ref (ad 0), .ref (ad 1), .int (nI w), .int (nI h), .int (nI la), .ref (ad 2), .int (mv 0), .int (mv 1), .int (mv 2), .int (mv 3), .int (mv 4), .int (mv 5), .int (mv 6), .ref (ad 3), .int (nI tp), .int (mv 7), .int (mv 8), .int (mv 9), .int (mv 10), .int ft, .int (mv 11), .ref (ad 4), .ref (ad 5), .ref (ad 6), .ref (ad 7), .ref (ad 8), .ref (ad 9), .ref (ad 10), .int tr], iA G (ad 0) 255 S, iA G (ad 4) 16 mk2_27]) [2, 0, 1] rfl
              have hD := hD.sub (ws' := [oC ko 6 [.ref (ad 0), .ref (ad 1), .int (nI w), .int (nI h), .int (nI la), .ref (ad 2), .int (mv 0), .int (mv 1), .int (mv 2), .int (mv 3), .int (mv 4), .int (mv 5), .int (mv 6), .ref (ad 3), .int (nI tp), .int (mv 7), .int (mv 8), .int (mv 9), .int (mv 10), .int ft, .int (mv 11), .ref (ad 4), .ref (ad 5), .ref (ad 6), .ref (ad 7), .ref (ad 8), .ref (ad 9), .ref (ad 10), .int tr], iA G (ad 0) 255 S, iA G (ad 4) 16 mk2_27]) [2, 0, 1] (by decide) rfl
              refine W.lret (v := (if a = 0 then lN (n / Nat.gcd (cntF (fun k => bitB (dyM w h la S nc ns) k) 16) n) else lN ((cntF (fun k => bitB (dyM w h la S nc ns) k) 16) / Nat.gcd (cntF (fun k => bitB (dyM w h la S nc ns) k) 16) n))) hx hb hr (fun t ht hW => ⟨⟨(if a = 0 then lN (n / Nat.gcd (cntF (fun k => bitB (dyM w h la S nc ns) k) 16) n) else lN ((cntF (fun k => bitB (dyM w h la S nc ns) k) 16) / Nat.gcd (cntF (fun k => bitB (dyM w h la S nc ns) k) 16) n)), (mk2_27), rfl, ?_, by rw [ht]; exact hP, hD⟩, hS.F ht⟩) hS.2.2 dX6_likely_110
              first | exact (if_neg (fun q => b5 q.1)).symm | exact (if_neg (fun q => b12 q.2.1)).symm | exact (if_neg (fun q => b19 q.2.2)).symm | (rw [if_pos ⟨inR_nI hc0 (by omega), b12, b19⟩]; first | exact (if_pos b34).symm | (rw [if_neg b34, tn_nI (by omega), hn, show d = la + 1 by omega]))
            · skip
              refine lv_iload hx hb dX6_likely_56 (lv_at hl 5 rfl) ?_
              refine lv_iload hx hb dX6_likely_58 (lv_at hl 4 rfl) ?_
              refine lv_iload hx hb dX6_likely_60 (lv_at hl 6 rfl) ?_
              refine lv_ishr hx hb dX6_likely_62 ?_
              refine lv_iconst (v := nI 1) hx hb dX6_likely_63 (by decide) ?_
              refine lv_iand hx hb dX6_likely_64 ?_
              refine lv_iconst (v := nI 1) hx hb dX6_likely_65 (by decide) ?_
              refine lv_icmp_ne (tgt := 84) hx hb dX6_likely_66 rfl (fun b66 => ?_) (fun b66 => ?_)
              · skip
                refine lv_iconst (v := nI 0) hx hb dX6_likely_84 (by decide) ?_
                refine xs_i (As := [.int (nI 0)]) (rest := [.int (nI n)]) ⟨hx, hb, hml, hown, hts⟩ (c_X6_flag_0 l G) (va_cwS 1 hts gX6_likely_X6_flag rfl rfl rfl (by decide +kernel) ⟨Nat.le_of_ble_eq_true rfl, Nat.le_of_ble_eq_true rfl⟩) hP hS rfl hl.1 rfl (Nat.le_of_ble_eq_true rfl) dX6_likely_85 ⟨Nat.zero_le _, Nat.zero_le _⟩ (fun r85 H locs hp85 hP hS => ?_)
                rw [show r85 = _ from hp85]
                refine xn_iadd hx hb dX6_likely_88 ?_
                refine lv_istore (lv' := [(5, .int (nI (n + 0))), (0, .ref ko), (1, .int (nI c0)), (2, .int m), (3, .int a), (4, .int (dyM w h la S nc ns)), (6, .int (nI d))]) hx hb dX6_likely_89 hl (by decide) rfl (fun ls hl => ?_)
                refine lv_iinc (k := 6) (v := nI (d + 1)) (lv' := [(6, .int (nI (d + 1))), (5, .int (nI (n + 0))), (0, .ref ko), (1, .int (nI c0)), (2, .int m), (3, .int a), (4, .int (dyM w h la S nc ns))]) hx hb dX6_likely_91 hl rfl (xn_inc d 1) (by decide) rfl (fun ls hl => ?_)
                refine lv_goto (tgt := 47) hx hb dX6_likely_94 rfl ?_
                have hl := lv_sub hl (l' := [(0, .ref ko), (1, .int (nI c0)), (2, .int m), (3, .int a), (4, .int (dyM w h la S nc ns)), (5, .int (nI (n + 0))), (6, .int (nI (d + 1)))]) [2, 3, 4, 5, 6, 1, 0] rfl
                exact ih47 (la + 1 - (d + 1)) (by omega) (d + 1) (n + 0) ls H locs rfl (by omega) (by first | exact cntF_N (by simp only [decide_eq_false b66, Bool.false_and]) hn | exact cntF_N (by simp only [decide_eq_false b77, Bool.and_false]) hn | exact cntF_T (by simp only [decide_eq_true b66, decide_eq_true b77]; rfl) hn) hl hP hD hS
              · skip
                refine lv_aload_n hx hb dX6_likely_69 rfl (lv_at hl 0 rfl) ?_
                refine lv_iload_n hx hb dX6_likely_70 rfl (lv_at hl 1 rfl) ?_
                refine lv_iload hx hb dX6_likely_71 (lv_at hl 6 rfl) ?_
                refine xr_i (As := [.int (nI c0), .int (nI d)]) (rest := [.int (nI n)]) ⟨hx, hb, hml, hown, hts⟩ (c_X6_markOf l G ko ad w h la tp ft tr mv S nc c0 d (by first | assumption | omega) (by first | assumption | omega) (by first | assumption | omega) (by first | assumption | omega)) (cwV 2 hts gX6_likely_X6_markOf rfl rfl rfl (by decide +kernel) ⟨Nat.le_of_ble_eq_true rfl, Nat.le_of_ble_eq_true rfl⟩) hK hP hS [2, 0] rfl rfl rfl rfl hl.1 rfl (Nat.le_of_ble_eq_true rfl) dX6_likely_73 ⟨Nat.zero_le _, Nat.zero_le _⟩ (fun r73 H locs hp73 hP hS => ?_)
                rw [show r73 = _ from hp73]
                refine lv_iload_n hx hb dX6_likely_76 rfl (lv_at hl 2 rfl) ?_
                refine lv_icmp_ne (tgt := 84) hx hb dX6_likely_77 rfl (fun b77 => ?_) (fun b77 => ?_)
                · skip
                  refine lv_iconst (v := nI 0) hx hb dX6_likely_84 (by decide) ?_
                  refine xs_i (As := [.int (nI 0)]) (rest := [.int (nI n)]) ⟨hx, hb, hml, hown, hts⟩ (c_X6_flag_0 l G) (va_cwS 1 hts gX6_likely_X6_flag rfl rfl rfl (by decide +kernel) ⟨Nat.le_of_ble_eq_true rfl, Nat.le_of_ble_eq_true rfl⟩) hP hS rfl hl.1 rfl (Nat.le_of_ble_eq_true rfl) dX6_likely_85 ⟨Nat.zero_le _, Nat.zero_le _⟩ (fun r85 H locs hp85 hP hS => ?_)
                  rw [show r85 = _ from hp85]
                  refine xn_iadd hx hb dX6_likely_88 ?_
                  refine lv_istore (lv' := [(5, .int (nI (n + 0))), (0, .ref ko), (1, .int (nI c0)), (2, .int m), (3, .int a), (4, .int (dyM w h la S nc ns)), (6, .int (nI d))]) hx hb dX6_likely_89 hl (by decide) rfl (fun ls hl => ?_)
                  refine lv_iinc (k := 6) (v := nI (d + 1)) (lv' := [(6, .int (nI (d + 1))), (5, .int (nI (n + 0))), (0, .ref ko), (1, .int (nI c0)), (2, .int m), (3, .int a), (4, .int (dyM w h la S nc ns))]) hx hb dX6_likely_91 hl rfl (xn_inc d 1) (by decide) rfl (fun ls hl => ?_)
                  refine lv_goto (tgt := 47) hx hb dX6_likely_94 rfl ?_
                  have hl := lv_sub hl (l' := [(0, .ref ko), (1, .int (nI c0)), (2, .int m), (3, .int a), (4, .int (dyM w h la S nc ns)), (5, .int (nI (n + 0))), (6, .int (nI (d + 1)))]) [2, 3, 4, 5, 6, 1, 0] rfl
                  exact ih47 (la + 1 - (d + 1)) (by omega) (d + 1) (n + 0) ls H locs rfl (by omega) (by first | exact cntF_N (by simp only [decide_eq_false b66, Bool.false_and]) hn | exact cntF_N (by simp only [decide_eq_false b77, Bool.and_false]) hn | exact cntF_T (by simp only [decide_eq_true b66, decide_eq_true b77]; rfl) hn) hl hP hD hS
                · skip
                  refine lv_iconst (v := nI 1) hx hb dX6_likely_80 (by decide) ?_
                  refine lv_goto (tgt := 85) hx hb dX6_likely_81 rfl ?_
                  refine xs_i (As := [.int (nI 1)]) (rest := [.int (nI n)]) ⟨hx, hb, hml, hown, hts⟩ (c_X6_flag_1 l G) (va_cwS 1 hts gX6_likely_X6_flag rfl rfl rfl (by decide +kernel) ⟨Nat.le_of_ble_eq_true rfl, Nat.le_of_ble_eq_true rfl⟩) hP hS rfl hl.1 rfl (Nat.le_of_ble_eq_true rfl) dX6_likely_85 ⟨Nat.zero_le _, Nat.zero_le _⟩ (fun r85 H locs hp85 hP hS => ?_)
                  rw [show r85 = _ from hp85]
                  refine xn_iadd hx hb dX6_likely_88 ?_
                  refine lv_istore (lv' := [(5, .int (nI (n + 1))), (0, .ref ko), (1, .int (nI c0)), (2, .int m), (3, .int a), (4, .int (dyM w h la S nc ns)), (6, .int (nI d))]) hx hb dX6_likely_89 hl (by decide) rfl (fun ls hl => ?_)
                  refine lv_iinc (k := 6) (v := nI (d + 1)) (lv' := [(6, .int (nI (d + 1))), (5, .int (nI (n + 1))), (0, .ref ko), (1, .int (nI c0)), (2, .int m), (3, .int a), (4, .int (dyM w h la S nc ns))]) hx hb dX6_likely_91 hl rfl (xn_inc d 1) (by decide) rfl (fun ls hl => ?_)
                  refine lv_goto (tgt := 47) hx hb dX6_likely_94 rfl ?_
                  have hl := lv_sub hl (l' := [(0, .ref ko), (1, .int (nI c0)), (2, .int m), (3, .int a), (4, .int (dyM w h la S nc ns)), (5, .int (nI (n + 1))), (6, .int (nI (d + 1)))]) [2, 3, 4, 5, 6, 1, 0] rfl
                  exact ih47 (la + 1 - (d + 1)) (by omega) (d + 1) (n + 1) ls H locs rfl (by omega) (by first | exact cntF_N (by simp only [decide_eq_false b66, Bool.false_and]) hn | exact cntF_N (by simp only [decide_eq_false b77, Bool.and_false]) hn | exact cntF_T (by simp only [decide_eq_true b66, decide_eq_true b77]; rfl) hn) hl hP hD hS
          have hl := lv_sub hl (l' := [(0, .ref ko), (1, .int (nI c0)), (2, .int m), (3, .int a), (4, .int (dyM w h la S nc ns)), (5, .int (nI 0)), (6, .int (nI 0))]) [3, 4, 5, 6, 2, 1, 0] rfl
          have hP := hP.sub (ws' := [iA G (ad 0) 255 S, iA G (ad 4) 16 mk2_27, oC ko 6 [.ref (ad 0), .ref (ad 1), .int (nI w), .int (nI h), .int (nI la), .ref (ad 2), .int (mv 0), .int (mv 1), .int (mv 2), .int (mv 3), .int (mv 4), .int (mv 5), .int (mv 6), .ref (ad 3), .int (nI tp), .int (mv 7), .int (mv 8), .int (mv 9), .int (mv 10), .int ft, .int (mv 11), .ref (ad 4), .ref (ad 5), .ref (ad 6), .ref (ad 7), .ref (ad 8), .ref (ad 9), .ref (ad 10), .int tr]]) [1, 2, 0] rfl
          have hD := hD.sub (ws' := [iA G (ad 0) 255 S, iA G (ad 4) 16 mk2_27, oC ko 6 [.ref (ad 0), .ref (ad 1), .int (nI w), .int (nI h), .int (nI la), .ref (ad 2), .int (mv 0), .int (mv 1), .int (mv 2), .int (mv 3), .int (mv 4), .int (mv 5), .int (mv 6), .ref (ad 3), .int (nI tp), .int (mv 7), .int (mv 8), .int (mv 9), .int (mv 10), .int ft, .int (mv 11), .ref (ad 4), .ref (ad 5), .ref (ad 6), .ref (ad 7), .ref (ad 8), .ref (ad 9), .ref (ad 10), .int tr]]) [1, 2, 0] (by decide) rfl
          exact hL47 (la + 1 - 0) 0 0 ls H locs rfl (by omega) (by rfl) hl hP hD hS
        · skip
          refine lv_ldc2 (v := (-4)) hx hb hown (hts (.constantLong RX6 231 ((-4))) (List.mem_of_getElem? (i := 2) rfl)) dX6_likely_37 ?_
          have hP := hP.sub (ws' := [oC ko 6 [.ref (ad 0), .ref (ad 1), .int (nI w), .int (nI h), .int (nI la), .ref (ad 2), .int (mv 0), .int (mv 1), .int (mv 2), .int (mv 3), .int (mv 4), .int (mv 5), .int (mv 6), .ref (ad 3), .int (nI tp), .int (mv 7), .int (mv 8), .int (mv 9), .int (mv 10), .int ft, .int (mv 11), .ref (ad 4), .ref (ad 5), .ref (ad 6), .ref (ad 7), .ref (ad 8), .ref (ad 9), .ref (ad 10), .int tr], iA G (ad 0) 255 S, iA G (ad 4) 16 mk2_27]) [0, 1, 2] rfl
          have hD := hD.sub (ws' := [oC ko 6 [.ref (ad 0), .ref (ad 1), .int (nI w), .int (nI h), .int (nI la), .ref (ad 2), .int (mv 0), .int (mv 1), .int (mv 2), .int (mv 3), .int (mv 4), .int (mv 5), .int (mv 6), .ref (ad 3), .int (nI tp), .int (mv 7), .int (mv 8), .int (mv 9), .int (mv 10), .int ft, .int (mv 11), .ref (ad 4), .ref (ad 5), .ref (ad 6), .ref (ad 7), .ref (ad 8), .ref (ad 9), .ref (ad 10), .int tr], iA G (ad 0) 255 S, iA G (ad 4) 16 mk2_27]) [0, 1, 2] (by decide) rfl
          refine W.lret (v := (-4)) hx hb hr (fun t ht hW => ⟨⟨(-4), (mk2_27), rfl, ?_, by rw [ht]; exact hP, hD⟩, hS.F ht⟩) hS.2.2 dX6_likely_40
          first | exact (if_neg (fun q => b5 q.1)).symm | exact (if_neg (fun q => b12 q.2.1)).symm | exact (if_neg (fun q => b19 q.2.2)).symm | (rw [if_pos ⟨inR_nI hc0 (by omega), b12, b19⟩]; first | exact (if_pos b34).symm | (rw [if_neg b34, tn_nI (by omega), hn, show d = la + 1 by omega]))
      · skip
        refine lv_ldc2 (v := (-1)) hx hb hown (hts (.constantLong RX6 229 ((-1))) (List.mem_of_getElem? (i := 1) rfl)) dX6_likely_22 ?_
        have hP := hP.sub (ws' := [oC ko 6 [.ref (ad 0), .ref (ad 1), .int (nI w), .int (nI h), .int (nI la), .ref (ad 2), .int (mv 0), .int (mv 1), .int (mv 2), .int (mv 3), .int (mv 4), .int (mv 5), .int (mv 6), .ref (ad 3), .int (nI tp), .int (mv 7), .int (mv 8), .int (mv 9), .int (mv 10), .int ft, .int (mv 11), .ref (ad 4), .ref (ad 5), .ref (ad 6), .ref (ad 7), .ref (ad 8), .ref (ad 9), .ref (ad 10), .int tr], iA G (ad 0) 255 S, iA G (ad 4) 16 mk]) [0, 1, 2] rfl
        have hD := hD.sub (ws' := [oC ko 6 [.ref (ad 0), .ref (ad 1), .int (nI w), .int (nI h), .int (nI la), .ref (ad 2), .int (mv 0), .int (mv 1), .int (mv 2), .int (mv 3), .int (mv 4), .int (mv 5), .int (mv 6), .ref (ad 3), .int (nI tp), .int (mv 7), .int (mv 8), .int (mv 9), .int (mv 10), .int ft, .int (mv 11), .ref (ad 4), .ref (ad 5), .ref (ad 6), .ref (ad 7), .ref (ad 8), .ref (ad 9), .ref (ad 10), .int tr], iA G (ad 0) 255 S, iA G (ad 4) 16 mk]) [0, 1, 2] (by decide) rfl
        refine W.lret (v := (-1)) hx hb hr (fun t ht hW => ⟨⟨(-1), (mk), rfl, ?_, by rw [ht]; exact hP, hD⟩, hS.F ht⟩) hS.2.2 dX6_likely_25
        first | exact (if_neg (fun q => b5 q.1)).symm | exact (if_neg (fun q => b12 q.2.1)).symm | exact (if_neg (fun q => b19 q.2.2)).symm | (rw [if_pos ⟨inR_nI hc0 (by omega), b12, b19⟩]; first | exact (if_pos b34).symm | (rw [if_neg b34, tn_nI (by omega), hn, show d = la + 1 by omega]))

abbrev w_X6_could (G : XG) (ko : Nat) (ad : Nat → Nat) (w h la tp : Nat) (ft tr : Int32) (mv : Nat → Int32) (S mk : Nat → Int32) : va_W := [oC ko 6 [.ref (ad 0), .ref (ad 1), .int (nI w), .int (nI h), .int (nI la), .ref (ad 2), .int (mv 0), .int (mv 1), .int (mv 2), .int (mv 3), .int (mv 4), .int (mv 5), .int (mv 6), .ref (ad 3), .int (nI tp), .int (mv 7), .int (mv 8), .int (mv 9), .int (mv 10), .int ft, .int (mv 11), .ref (ad 4), .ref (ad 5), .ref (ad 6), .ref (ad 7), .ref (ad 8), .ref (ad 9), .ref (ad 10), .int tr], iA G (ad 0) 255 S, iA G (ad 4) 16 mk]
abbrev Q_X6_could (G : XG) (sz : Nat) (ko : Nat) (ad : Nat → Nat) (w h la tp : Nat) (ft tr : Int32) (mv : Nat → Int32) (S mk : Nat → Int32) (nc : Nat) (nl ns : Nat) : Array Value → State → Outcome → State → Prop := (va_Qi (fun (r : Int32) (u : (Nat → Int32)) => r = orF (fun l => ((dyM w h la S nc ns >>> (S (48 + 2 * l) &&& 31)) &&& nI 1) <<< (nI l &&& 31)) nl) (xWb G sz (w_X6_could G ko ad w h la tp ft tr mv S mk) (fun u : (Nat → Int32) => [oC ko 6 [.ref (ad 0), .ref (ad 1), .int (nI w), .int (nI h), .int (nI la), .ref (ad 2), .int (mv 0), .int (mv 1), .int (mv 2), .int (mv 3), .int (mv 4), .int (mv 5), .int (mv 6), .ref (ad 3), .int (nI tp), .int (mv 7), .int (mv 8), .int (mv 9), .int (mv 10), .int ft, .int (mv 11), .ref (ad 4), .ref (ad 5), .ref (ad 6), .ref (ad 7), .ref (ad 8), .ref (ad 9), .ref (ad 10), .int tr], iA G (ad 0) 255 S, iA G (ad 4) 16 u])) (va_A (w_X6_could G ko ad w h la tp ft tr mv S mk) sz))
set_option maxHeartbeats 4000000 in
set_option maxRecDepth 100000 in
theorem c_X6_could (l : Launch) (G : XG) (sz : Nat) (ko : Nat) (ad : Nat → Nat) (w h la tp : Nat) (ft tr : Int32) (mv : Nat → Int32) (S mk : Nat → Int32) (nc : Nat) (nl ns : Nat) (hw : 1 ≤ w) (hwb : w ≤ 16) (hhb : h ≤ 16) (hwh1 : 1 ≤ w * h) (hwh : w * h ≤ 16) (hla : la ≤ 9) (hs16 : S 16 = nI nc) (hnc : nc ≤ 10) (hs47 : S 47 = nI nl) (hnl : nl ≤ 6) (hs60 : S 60 = nI ns) (hns : ns ≤ 8) (hshown : ∀ i, i < ns → inR (S (61 + 3 * i)) (w * h) ∧ inR (S (61 + 3 * i + 1)) (w * h)) : Met l yX6_could wsX6_could ({ frames := 6, cells := 0, slots := 0, locals := 135 } : Room) (va_Pc [.ref ko] (xWp G sz (w_X6_could G ko ad w h la tp ft tr mv S mk))) (Q_X6_could G sz ko ad w h la tp ft tr mv S mk nc nl ns) 0 0 (va_A (w_X6_could G ko ad w h la tp ft tr mv S mk) sz) := by
  refine Met.ofW (cc := cX6_could) (maxL := 3) (ret := (some .int)) (by decide) rfl ?_
  intro pp ee ss mm aa below mt cd s₁ BB hml hv
  obtain ⟨rfl, hsz, hP, hK, hD0⟩ := hv
  have hx := BB.exec
  have hb := BB.bytes
  have hr := BB.returns
  have hts := atoms_spec (ws := wsX6_could) BB.pre
  have hown : ss.vm.findClass RX6 = some mm.cls := findClass_of_methodNamed BB.named
  have hlocks := BB.notSynchronized
  subst hsz
  have hD := hD0.self (sz := ss.heap.size)
  have hA : ∀ q : Nat, ss.heap.size ≤ q → va_A (w_X6_could G ko ad w h la tp ft tr mv S mk) ss.heap.size q := fun q h => Or.inr h
  have hS : va_S (va_A (w_X6_could G ko ad w h la tp ft tr mv S mk) ss.heap.size) ss.heap ss.heap [] := va_S.rf
  replace hD : va_D (va_A (w_X6_could G ko ad w h la tp ft tr mv S mk) ss.heap.size) [oC ko 6 [.ref (ad 0), .ref (ad 1), .int (nI w), .int (nI h), .int (nI la), .ref (ad 2), .int (mv 0), .int (mv 1), .int (mv 2), .int (mv 3), .int (mv 4), .int (mv 5), .int (mv 6), .ref (ad 3), .int (nI tp), .int (mv 7), .int (mv 8), .int (mv 9), .int (mv 10), .int ft, .int (mv 11), .ref (ad 4), .ref (ad 5), .ref (ad 6), .ref (ad 7), .ref (ad 8), .ref (ad 9), .ref (ad 10), .int tr], iA G (ad 0) 255 S, iA G (ad 4) 16 mk] := hD
  replace hP : xP G [oC ko 6 [.ref (ad 0), .ref (ad 1), .int (nI w), .int (nI h), .int (nI la), .ref (ad 2), .int (mv 0), .int (mv 1), .int (mv 2), .int (mv 3), .int (mv 4), .int (mv 5), .int (mv 6), .ref (ad 3), .int (nI tp), .int (mv 7), .int (mv 8), .int (mv 9), .int (mv 10), .int ft, .int (mv 11), .ref (ad 4), .ref (ad 5), .ref (ad 6), .ref (ad 7), .ref (ad 8), .ref (ad 9), .ref (ad 10), .int tr], iA G (ad 0) 255 S, iA G (ad 4) 16 mk] ss.heap := hP
  have hin6 : ∀ w ∈ u_ws RX6 TX6 29, w ∈ wsX6_could := fun w h => List.mem_cons_of_mem _ (List.mem_append_right _ h)
  have hl := lv_entry ([.ref ko]) (n := 3) (Nat.le_of_ble_eq_true rfl)
  rw [lg_entry_eq]
  generalize (lg_sl ([.ref ko]) ++ List.replicate (3 - (lg_sl ([.ref ko])).length) Slot.unset).toArray = ls at hl ⊢
  replace hl : lv_has ls 3 [(0, .ref ko)] := hl
  refine lv_iconst (v := nI 0) hx hb dX6_could_0 (by decide) ?_
  refine lv_istore_n (lv' := [(1, .int (nI 0)), (0, .ref ko)]) hx hb dX6_could_1 rfl hl (by decide) rfl (fun ls hl => ?_)
  refine lv_iconst (v := nI 0) hx hb dX6_could_2 (by decide) ?_
  refine lv_istore_n (lv' := [(2, .int (nI 0)), (1, .int (nI 0)), (0, .ref ko)]) hx hb dX6_could_3 rfl hl (by decide) rfl (fun ls hl => ?_)
  have hL4 : ∀ k : Nat, ∀ (i : Nat) (bits : Int32) (mk3 : Nat → Int32) (ls : Array Slot) (H : Heap) (locs : List Loc), nl - i = k → (i ≤ nl) → (bits = orF (fun l => ((dyM w h la S nc ns >>> (S (48 + 2 * l) &&& 31)) &&& nI 1) <<< (nI l &&& 31)) i) → lv_has ls 3 [(0, .ref ko), (1, .int bits), (2, .int (nI i))] → xP G [iA G (ad 0) 255 S, iA G (ad 4) 16 mk3, oC ko 6 [.ref (ad 0), .ref (ad 1), .int (nI w), .int (nI h), .int (nI la), .ref (ad 2), .int (mv 0), .int (mv 1), .int (mv 2), .int (mv 3), .int (mv 4), .int (mv 5), .int (mv 6), .ref (ad 3), .int (nI tp), .int (mv 7), .int (mv 8), .int (mv 9), .int (mv 10), .int ft, .int (mv 11), .ref (ad 4), .ref (ad 5), .ref (ad 6), .ref (ad 7), .ref (ad 8), .ref (ad 9), .ref (ad 10), .int tr]] H → va_D (va_A (w_X6_could G ko ad w h la tp ft tr mv S mk) ss.heap.size) [iA G (ad 0) 255 S, iA G (ad 4) 16 mk3, oC ko 6 [.ref (ad 0), .ref (ad 1), .int (nI w), .int (nI h), .int (nI la), .ref (ad 2), .int (mv 0), .int (mv 1), .int (mv 2), .int (mv 3), .int (mv 4), .int (mv 5), .int (mv 6), .ref (ad 3), .int (nI tp), .int (mv 7), .int (mv 8), .int (mv 9), .int (mv 10), .int ft, .int (mv 11), .ref (ad 4), .ref (ad 5), .ref (ad 6), .ref (ad 7), .ref (ad 8), .ref (ad 9), .ref (ad 10), .int tr]] → va_S (va_A (w_X6_could G ko ad w h la tp ft tr mv S mk) ss.heap.size) ss.heap H locs → W pp l ee ({ frames := 6, cells := 0, slots := 0, locals := 135 } : Room) ss mm ([.ref ko] : List Value).toArray below mt cd H locs 0 0 (MQ below (Q_X6_could G ss.heap.size ko ad w h la tp ft tr mv S mk nc nl ns) ([.ref ko] : List Value).toArray ss 0 0 (va_A (w_X6_could G ko ad w h la tp ft tr mv S mk) ss.heap.size)) (F0 mm 4 ls []) := by
    intro k
    induction k using Nat.strongRecOn with
    | _ k ih4 =>
    intro i bits mk3 ls H locs hm4 hi hbits hl hP hD hS
    refine lv_iload_n hx hb dX6_could_4 rfl (lv_at hl 2 rfl) ?_
    refine lv_aload_n hx hb dX6_could_5 rfl (lv_at hl 0 rfl) ?_
    refine va_get (D := G.1) (ci := 6) (v := .ref (ad 0)) (C := RX6) (T := TX6) (N := 29) hx hb hts hin6 hown hK.1 hP 2 rfl rfl 0 (by decide) (hts (.fieldLink RX6 7 "BackLensesModel" "st" "[I") (List.mem_of_getElem? (i := 1) rfl)) (fun _ h9 => h9) rfl dX6_could_6 ?_
    refine lv_bipush (v := nI 47) hx hb dX6_could_9 (by decide) ?_
    refine xn_iald hx hb hK hP 0 rfl (by omega) (by omega) dX6_could_11 ?_
    refine xn_top (y := nI nl) (by exact hs47) ?_
    refine xn_icmp_ge (tgt := 44) hx hb (by omega) (by omega) dX6_could_12 rfl (fun b12 => ?_) (fun b12 => ?_)
    · skip
      refine lv_iload_n hx hb dX6_could_44 rfl (lv_at hl 1 rfl) ?_
      have hP := hP.sub (ws' := [oC ko 6 [.ref (ad 0), .ref (ad 1), .int (nI w), .int (nI h), .int (nI la), .ref (ad 2), .int (mv 0), .int (mv 1), .int (mv 2), .int (mv 3), .int (mv 4), .int (mv 5), .int (mv 6), .ref (ad 3), .int (nI tp), .int (mv 7), .int (mv 8), .int (mv 9), .int (mv 10), .int ft, .int (mv 11), .ref (ad 4), .ref (ad 5), .ref (ad 6), .ref (ad 7), .ref (ad 8), .ref (ad 9), .ref (ad 10), .int tr], iA G (ad 0) 255 S, iA G (ad 4) 16 mk3]) [2, 0, 1] rfl
      have hD := hD.sub (ws' := [oC ko 6 [.ref (ad 0), .ref (ad 1), .int (nI w), .int (nI h), .int (nI la), .ref (ad 2), .int (mv 0), .int (mv 1), .int (mv 2), .int (mv 3), .int (mv 4), .int (mv 5), .int (mv 6), .ref (ad 3), .int (nI tp), .int (mv 7), .int (mv 8), .int (mv 9), .int (mv 10), .int ft, .int (mv 11), .ref (ad 4), .ref (ad 5), .ref (ad 6), .ref (ad 7), .ref (ad 8), .ref (ad 9), .ref (ad 10), .int tr], iA G (ad 0) 255 S, iA G (ad 4) 16 mk3]) [2, 0, 1] (by decide) rfl
      refine W.iret (v := bits) hx hb hr (fun t ht hW => ⟨⟨bits, (mk3), rfl, ?_, by rw [ht]; exact hP, hD⟩, hS.F ht⟩) hS.2.2 dX6_could_45
      rw [hbits, show i = nl by omega]
    · skip
      refine lv_iload_n hx hb dX6_could_15 rfl (lv_at hl 1 rfl) ?_
      refine lv_aload_n hx hb dX6_could_16 rfl (lv_at hl 0 rfl) ?_
      refine xw_i (As := []) (rest := [.int bits]) (wr := []) ⟨hx, hb, hml, hown, hts⟩ (c_X6_days l G H.size ko ad w h la tp ft tr mv S mk3 nc ns (by first | assumption | omega) (by first | assumption | omega) (by first | assumption | omega) (by first | assumption | omega) (by first | assumption | omega) (by first | assumption | omega) (by first | assumption | omega) (by first | assumption | omega) (by first | assumption | omega) (by first | assumption | omega) (by first | assumption | omega)) (cwV 0 hts gX6_could_X6_days rfl rfl rfl (by decide +kernel) ⟨Nat.le_of_ble_eq_true rfl, Nat.le_of_ble_eq_true rfl⟩) hK hP hD hS hA [2, 0, 1] [] rfl rfl (by decide) (by decide) (by decide) rfl rfl rfl hl.1 rfl (Nat.le_of_ble_eq_true rfl) dX6_could_17 ⟨Nat.le_of_ble_eq_true rfl, Nat.le_of_ble_eq_true rfl⟩ (fun r17 u H locs hp17 hP hD hS => ?_)
      obtain ⟨mk2_17, rfl⟩ : ∃ z, z = u := ⟨_, rfl⟩
      try dsimp only at hp17 hP hD
      obtain rfl := hp17
      replace hP : xP G [oC ko 6 [.ref (ad 0), .ref (ad 1), .int (nI w), .int (nI h), .int (nI la), .ref (ad 2), .int (mv 0), .int (mv 1), .int (mv 2), .int (mv 3), .int (mv 4), .int (mv 5), .int (mv 6), .ref (ad 3), .int (nI tp), .int (mv 7), .int (mv 8), .int (mv 9), .int (mv 10), .int ft, .int (mv 11), .ref (ad 4), .ref (ad 5), .ref (ad 6), .ref (ad 7), .ref (ad 8), .ref (ad 9), .ref (ad 10), .int tr], iA G (ad 0) 255 S, iA G (ad 4) 16 mk2_17] H := hP
      replace hD : va_D (va_A (w_X6_could G ko ad w h la tp ft tr mv S mk) ss.heap.size) [oC ko 6 [.ref (ad 0), .ref (ad 1), .int (nI w), .int (nI h), .int (nI la), .ref (ad 2), .int (mv 0), .int (mv 1), .int (mv 2), .int (mv 3), .int (mv 4), .int (mv 5), .int (mv 6), .ref (ad 3), .int (nI tp), .int (mv 7), .int (mv 8), .int (mv 9), .int (mv 10), .int ft, .int (mv 11), .ref (ad 4), .ref (ad 5), .ref (ad 6), .ref (ad 7), .ref (ad 8), .ref (ad 9), .ref (ad 10), .int tr], iA G (ad 0) 255 S, iA G (ad 4) 16 mk2_17] := hD
      refine lv_aload_n hx hb dX6_could_20 rfl (lv_at hl 0 rfl) ?_
      refine va_get (D := G.1) (ci := 6) (v := .ref (ad 0)) (C := RX6) (T := TX6) (N := 29) hx hb hts hin6 hown hK.1 hP 0 rfl rfl 0 (by decide) (hts (.fieldLink RX6 7 "BackLensesModel" "st" "[I") (List.mem_of_getElem? (i := 1) rfl)) (fun _ h9 => h9) rfl dX6_could_21 ?_
      refine lv_bipush (v := nI 48) hx hb dX6_could_24 (by decide) ?_
      refine lv_iconst (v := nI 2) hx hb dX6_could_26 (by decide) ?_
      refine lv_iload_n hx hb dX6_could_27 rfl (lv_at hl 2 rfl) ?_
      refine xn_imul hx hb dX6_could_28 ?_
      refine xn_iadd hx hb dX6_could_29 ?_
      refine xn_iald hx hb hK hP 1 rfl (by omega) (by omega) dX6_could_30 ?_
      refine lv_ishr hx hb dX6_could_31 ?_
      refine lv_iconst (v := nI 1) hx hb dX6_could_32 (by decide) ?_
      refine lv_iand hx hb dX6_could_33 ?_
      refine lv_iload_n hx hb dX6_could_34 rfl (lv_at hl 2 rfl) ?_
      refine lv_ishl hx hb dX6_could_35 ?_
      refine lv_ior hx hb dX6_could_36 ?_
      refine lv_istore_n (lv' := [(1, .int (bits ||| ((((dyM w h la S nc ns) >>> ((S (48 + (2 * i))) &&& 31)) &&& (nI 1)) <<< ((nI i) &&& 31)))), (0, .ref ko), (2, .int (nI i))]) hx hb dX6_could_37 rfl hl (by decide) rfl (fun ls hl => ?_)
      refine lv_iinc (k := 2) (v := nI (i + 1)) (lv' := [(2, .int (nI (i + 1))), (1, .int (bits ||| ((((dyM w h la S nc ns) >>> ((S (48 + (2 * i))) &&& 31)) &&& (nI 1)) <<< ((nI i) &&& 31)))), (0, .ref ko)]) hx hb dX6_could_38 hl rfl (xn_inc i 1) (by decide) rfl (fun ls hl => ?_)
      refine lv_goto (tgt := 4) hx hb dX6_could_41 rfl ?_
      have hl := lv_sub hl (l' := [(0, .ref ko), (1, .int (bits ||| ((((dyM w h la S nc ns) >>> ((S (48 + (2 * i))) &&& 31)) &&& (nI 1)) <<< ((nI i) &&& 31)))), (2, .int (nI (i + 1)))]) [2, 1, 0] rfl
      have hP := hP.sub (ws' := [iA G (ad 0) 255 S, iA G (ad 4) 16 mk2_17, oC ko 6 [.ref (ad 0), .ref (ad 1), .int (nI w), .int (nI h), .int (nI la), .ref (ad 2), .int (mv 0), .int (mv 1), .int (mv 2), .int (mv 3), .int (mv 4), .int (mv 5), .int (mv 6), .ref (ad 3), .int (nI tp), .int (mv 7), .int (mv 8), .int (mv 9), .int (mv 10), .int ft, .int (mv 11), .ref (ad 4), .ref (ad 5), .ref (ad 6), .ref (ad 7), .ref (ad 8), .ref (ad 9), .ref (ad 10), .int tr]]) [1, 2, 0] rfl
      have hD := hD.sub (ws' := [iA G (ad 0) 255 S, iA G (ad 4) 16 mk2_17, oC ko 6 [.ref (ad 0), .ref (ad 1), .int (nI w), .int (nI h), .int (nI la), .ref (ad 2), .int (mv 0), .int (mv 1), .int (mv 2), .int (mv 3), .int (mv 4), .int (mv 5), .int (mv 6), .ref (ad 3), .int (nI tp), .int (mv 7), .int (mv 8), .int (mv 9), .int (mv 10), .int ft, .int (mv 11), .ref (ad 4), .ref (ad 5), .ref (ad 6), .ref (ad 7), .ref (ad 8), .ref (ad 9), .ref (ad 10), .int tr]]) [1, 2, 0] (by decide) rfl
      exact ih4 (nl - (i + 1)) (by omega) (i + 1) (bits ||| ((((dyM w h la S nc ns) >>> ((S (48 + (2 * i))) &&& 31)) &&& (nI 1)) <<< ((nI i) &&& 31))) mk2_17 ls H locs rfl (by omega) (by rw [hbits]; rfl) hl hP hD hS
  have hl := lv_sub hl (l' := [(0, .ref ko), (1, .int (nI 0)), (2, .int (nI 0))]) [2, 1, 0] rfl
  have hP := hP.sub (ws' := [iA G (ad 0) 255 S, iA G (ad 4) 16 mk, oC ko 6 [.ref (ad 0), .ref (ad 1), .int (nI w), .int (nI h), .int (nI la), .ref (ad 2), .int (mv 0), .int (mv 1), .int (mv 2), .int (mv 3), .int (mv 4), .int (mv 5), .int (mv 6), .ref (ad 3), .int (nI tp), .int (mv 7), .int (mv 8), .int (mv 9), .int (mv 10), .int ft, .int (mv 11), .ref (ad 4), .ref (ad 5), .ref (ad 6), .ref (ad 7), .ref (ad 8), .ref (ad 9), .ref (ad 10), .int tr]]) [1, 2, 0] rfl
  have hD := hD.sub (ws' := [iA G (ad 0) 255 S, iA G (ad 4) 16 mk, oC ko 6 [.ref (ad 0), .ref (ad 1), .int (nI w), .int (nI h), .int (nI la), .ref (ad 2), .int (mv 0), .int (mv 1), .int (mv 2), .int (mv 3), .int (mv 4), .int (mv 5), .int (mv 6), .ref (ad 3), .int (nI tp), .int (mv 7), .int (mv 8), .int (mv 9), .int (mv 10), .int ft, .int (mv 11), .ref (ad 4), .ref (ad 5), .ref (ad 6), .ref (ad 7), .ref (ad 8), .ref (ad 9), .ref (ad 10), .int tr]]) [1, 2, 0] (by decide) rfl
  exact hL4 (nl - 0) 0 (nI 0) mk ls ss.heap [] rfl (by omega) (by rfl) hl hP hD hS

abbrev w_X6_findViews (G : XG) (ko : Nat) (ad : Nat → Nat) (w h la tp : Nat) (ft tr : Int32) (mv : Nat → Int32) (S mk : Nat → Int32) (vs : Nat → Int32) : va_W := [oC ko 6 [.ref (ad 0), .ref (ad 1), .int (nI w), .int (nI h), .int (nI la), .ref (ad 2), .int (mv 0), .int (mv 1), .int (mv 2), .int (mv 3), .int (mv 4), .int (mv 5), .int (mv 6), .ref (ad 3), .int (nI tp), .int (mv 7), .int (mv 8), .int (mv 9), .int (mv 10), .int ft, .int (mv 11), .ref (ad 4), .ref (ad 5), .ref (ad 6), .ref (ad 7), .ref (ad 8), .ref (ad 9), .ref (ad 10), .int tr], iA G (ad 0) 255 S, iA G (ad 4) 16 mk, iA G (ad 6) 160 vs]
abbrev Q_X6_findViews (G : XG) (sz : Nat) (ko : Nat) (ad : Nat → Nat) (w h la tp : Nat) (ft tr : Int32) (mv : Nat → Int32) (S mk : Nat → Int32) (nc : Nat) (vs : Nat → Int32) : Array Value → State → Outcome → State → Prop := (va_Qv (fun (u : (Nat → Int32) × (Nat → Int32)) => (∀ d2 x, d2 < la + 1 → x < w * h → u.2 (16 * d2 + x) = sgM w h S nc x d2)) (xWb G sz (w_X6_findViews G ko ad w h la tp ft tr mv S mk vs) (fun u : (Nat → Int32) × (Nat → Int32) => [oC ko 6 [.ref (ad 0), .ref (ad 1), .int (nI w), .int (nI h), .int (nI la), .ref (ad 2), .int (mv 0), .int (mv 1), .int (mv 2), .int (mv 3), .int (mv 4), .int (mv 5), .int (mv 6), .ref (ad 3), .int (nI tp), .int (mv 7), .int (mv 8), .int (mv 9), .int (mv 10), .int ft, .int (mv 11), .ref (ad 4), .ref (ad 5), .ref (ad 6), .ref (ad 7), .ref (ad 8), .ref (ad 9), .ref (ad 10), .int tr], iA G (ad 0) 255 S, iA G (ad 4) 16 u.1, iA G (ad 6) 160 u.2])) (va_A (w_X6_findViews G ko ad w h la tp ft tr mv S mk vs) sz))
set_option maxHeartbeats 4000000 in
set_option maxRecDepth 100000 in
theorem c_X6_findViews (l : Launch) (G : XG) (sz : Nat) (ko : Nat) (ad : Nat → Nat) (w h la tp : Nat) (ft tr : Int32) (mv : Nat → Int32) (S mk : Nat → Int32) (nc : Nat) (vs : Nat → Int32) (hw : 1 ≤ w) (hwb : w ≤ 16) (hhb : h ≤ 16) (hwh1 : 1 ≤ w * h) (hwh : w * h ≤ 16) (hla : la ≤ 9) (hs16 : S 16 = nI nc) (hnc : nc ≤ 10) : Met l yX6_findViews wsX6_findViews ({ frames := 3, cells := 0, slots := 0, locals := 67 } : Room) (va_Pc [.ref ko] (xWp G sz (w_X6_findViews G ko ad w h la tp ft tr mv S mk vs))) (Q_X6_findViews G sz ko ad w h la tp ft tr mv S mk nc vs) 0 0 (va_A (w_X6_findViews G ko ad w h la tp ft tr mv S mk vs) sz) := by
  refine Met.ofW (cc := cX6_findViews) (maxL := 3) (ret := none) (by decide) rfl ?_
  intro pp ee ss mm aa below mt cd s₁ BB hml hv
  obtain ⟨rfl, hsz, hP, hK, hD0⟩ := hv
  have hx := BB.exec
  have hb := BB.bytes
  have hr := BB.returns
  have hts := atoms_spec (ws := wsX6_findViews) BB.pre
  have hown : ss.vm.findClass RX6 = some mm.cls := findClass_of_methodNamed BB.named
  have hlocks := BB.notSynchronized
  subst hsz
  have hD := hD0.self (sz := ss.heap.size)
  have hA : ∀ q : Nat, ss.heap.size ≤ q → va_A (w_X6_findViews G ko ad w h la tp ft tr mv S mk vs) ss.heap.size q := fun q h => Or.inr h
  have hS : va_S (va_A (w_X6_findViews G ko ad w h la tp ft tr mv S mk vs) ss.heap.size) ss.heap ss.heap [] := va_S.rf
  replace hD : va_D (va_A (w_X6_findViews G ko ad w h la tp ft tr mv S mk vs) ss.heap.size) [oC ko 6 [.ref (ad 0), .ref (ad 1), .int (nI w), .int (nI h), .int (nI la), .ref (ad 2), .int (mv 0), .int (mv 1), .int (mv 2), .int (mv 3), .int (mv 4), .int (mv 5), .int (mv 6), .ref (ad 3), .int (nI tp), .int (mv 7), .int (mv 8), .int (mv 9), .int (mv 10), .int ft, .int (mv 11), .ref (ad 4), .ref (ad 5), .ref (ad 6), .ref (ad 7), .ref (ad 8), .ref (ad 9), .ref (ad 10), .int tr], iA G (ad 0) 255 S, iA G (ad 4) 16 mk, iA G (ad 6) 160 vs] := hD
  replace hP : xP G [oC ko 6 [.ref (ad 0), .ref (ad 1), .int (nI w), .int (nI h), .int (nI la), .ref (ad 2), .int (mv 0), .int (mv 1), .int (mv 2), .int (mv 3), .int (mv 4), .int (mv 5), .int (mv 6), .ref (ad 3), .int (nI tp), .int (mv 7), .int (mv 8), .int (mv 9), .int (mv 10), .int ft, .int (mv 11), .ref (ad 4), .ref (ad 5), .ref (ad 6), .ref (ad 7), .ref (ad 8), .ref (ad 9), .ref (ad 10), .int tr], iA G (ad 0) 255 S, iA G (ad 4) 16 mk, iA G (ad 6) 160 vs] ss.heap := hP
  have hin6 : ∀ w ∈ u_ws RX6 TX6 29, w ∈ wsX6_findViews := fun w h => List.mem_cons_of_mem _ (List.mem_append_right _ h)
  have hl := lv_entry ([.ref ko]) (n := 3) (Nat.le_of_ble_eq_true rfl)
  rw [lg_entry_eq]
  generalize (lg_sl ([.ref ko]) ++ List.replicate (3 - (lg_sl ([.ref ko])).length) Slot.unset).toArray = ls at hl ⊢
  replace hl : lv_has ls 3 [(0, .ref ko)] := hl
  refine lv_iconst (v := nI 0) hx hb dX6_findViews_0 (by decide) ?_
  refine lv_istore_n (lv' := [(1, .int (nI 0)), (0, .ref ko)]) hx hb dX6_findViews_1 rfl hl (by decide) rfl (fun ls hl => ?_)
  have hL2 : ∀ k : Nat, ∀ (d : Nat) (mk3 : Nat → Int32) (vs3 : Nat → Int32) (ls : Array Slot) (H : Heap) (locs : List Loc), la + 1 - d = k → (d ≤ la + 1) → (∀ d2 x, d2 < d → x < w * h → vs3 (16 * d2 + x) = sgM w h S nc x d2) → lv_has ls 3 [(0, .ref ko), (1, .int (nI d))] → xP G [iA G (ad 0) 255 S, iA G (ad 4) 16 mk3, iA G (ad 6) 160 vs3, oC ko 6 [.ref (ad 0), .ref (ad 1), .int (nI w), .int (nI h), .int (nI la), .ref (ad 2), .int (mv 0), .int (mv 1), .int (mv 2), .int (mv 3), .int (mv 4), .int (mv 5), .int (mv 6), .ref (ad 3), .int (nI tp), .int (mv 7), .int (mv 8), .int (mv 9), .int (mv 10), .int ft, .int (mv 11), .ref (ad 4), .ref (ad 5), .ref (ad 6), .ref (ad 7), .ref (ad 8), .ref (ad 9), .ref (ad 10), .int tr]] H → va_D (va_A (w_X6_findViews G ko ad w h la tp ft tr mv S mk vs) ss.heap.size) [iA G (ad 0) 255 S, iA G (ad 4) 16 mk3, iA G (ad 6) 160 vs3, oC ko 6 [.ref (ad 0), .ref (ad 1), .int (nI w), .int (nI h), .int (nI la), .ref (ad 2), .int (mv 0), .int (mv 1), .int (mv 2), .int (mv 3), .int (mv 4), .int (mv 5), .int (mv 6), .ref (ad 3), .int (nI tp), .int (mv 7), .int (mv 8), .int (mv 9), .int (mv 10), .int ft, .int (mv 11), .ref (ad 4), .ref (ad 5), .ref (ad 6), .ref (ad 7), .ref (ad 8), .ref (ad 9), .ref (ad 10), .int tr]] → va_S (va_A (w_X6_findViews G ko ad w h la tp ft tr mv S mk vs) ss.heap.size) ss.heap H locs → W pp l ee ({ frames := 3, cells := 0, slots := 0, locals := 67 } : Room) ss mm ([.ref ko] : List Value).toArray below mt cd H locs 0 0 (MQ below (Q_X6_findViews G ss.heap.size ko ad w h la tp ft tr mv S mk nc vs) ([.ref ko] : List Value).toArray ss 0 0 (va_A (w_X6_findViews G ko ad w h la tp ft tr mv S mk vs) ss.heap.size)) (F0 mm 2 ls []) := by
    intro k
    induction k using Nat.strongRecOn with
    | _ k ih2 =>
    intro d mk3 vs3 ls H locs hm2 hd hvs hl hP hD hS
    refine lv_iload_n hx hb dX6_findViews_2 rfl (lv_at hl 1 rfl) ?_
    refine lv_aload_n hx hb dX6_findViews_3 rfl (lv_at hl 0 rfl) ?_
    refine va_get (D := G.1) (ci := 6) (v := .int (nI la)) (C := RX6) (T := TX6) (N := 29) hx hb hts hin6 hown hK.1 hP 3 rfl rfl 4 (by decide) (hts (.fieldLink RX6 78 "BackLensesModel" "last" "I") (List.mem_of_getElem? (i := 1) rfl)) (fun _ h9 => h9) rfl dX6_findViews_4 ?_
    refine xn_icmp_gt (tgt := 53) hx hb (by omega) (by omega) dX6_findViews_7 rfl (fun b7 => ?_) (fun b7 => ?_)
    · skip
      have hP := hP.sub (ws' := [oC ko 6 [.ref (ad 0), .ref (ad 1), .int (nI w), .int (nI h), .int (nI la), .ref (ad 2), .int (mv 0), .int (mv 1), .int (mv 2), .int (mv 3), .int (mv 4), .int (mv 5), .int (mv 6), .ref (ad 3), .int (nI tp), .int (mv 7), .int (mv 8), .int (mv 9), .int (mv 10), .int ft, .int (mv 11), .ref (ad 4), .ref (ad 5), .ref (ad 6), .ref (ad 7), .ref (ad 8), .ref (ad 9), .ref (ad 10), .int tr], iA G (ad 0) 255 S, iA G (ad 4) 16 mk3, iA G (ad 6) 160 vs3]) [3, 0, 1, 2] rfl
      have hD := hD.sub (ws' := [oC ko 6 [.ref (ad 0), .ref (ad 1), .int (nI w), .int (nI h), .int (nI la), .ref (ad 2), .int (mv 0), .int (mv 1), .int (mv 2), .int (mv 3), .int (mv 4), .int (mv 5), .int (mv 6), .ref (ad 3), .int (nI tp), .int (mv 7), .int (mv 8), .int (mv 9), .int (mv 10), .int ft, .int (mv 11), .ref (ad 4), .ref (ad 5), .ref (ad 6), .ref (ad 7), .ref (ad 8), .ref (ad 9), .ref (ad 10), .int tr], iA G (ad 0) 255 S, iA G (ad 4) 16 mk3, iA G (ad 6) 160 vs3]) [3, 0, 1, 2] (by decide) rfl
      refine W.vret hx hb hr (fun t ht hW => ⟨⟨(mk3, vs3), rfl, ?_, by rw [ht]; exact hP, hD⟩, hS.F ht⟩) hS.2.2 dX6_findViews_53
      try dsimp only
      intro d2 x2 q1 q2; exact hvs d2 x2 (by omega) q2
    · skip
      refine lv_aload_n hx hb dX6_findViews_10 rfl (lv_at hl 0 rfl) ?_
      refine lv_iload_n hx hb dX6_findViews_11 rfl (lv_at hl 1 rfl) ?_
      refine xw_v (As := [.int (nI d)]) (rest := []) (wr := [iA G (ad 6) 160 vs3]) ⟨hx, hb, hml, hown, hts⟩ (c_X6_shiftTo l G H.size ko ad w h la tp ft tr mv S mk3 nc d (by first | assumption | omega) (by first | assumption | omega) (by first | assumption | omega)) (cwV 1 hts gX6_findViews_X6_shiftTo rfl rfl rfl (by decide +kernel) ⟨Nat.le_of_ble_eq_true rfl, Nat.le_of_ble_eq_true rfl⟩) hK hP hD hS hA [3, 0, 1] [2] rfl rfl (by decide) (by decide) (by decide) rfl rfl rfl hl.1 rfl (Nat.le_of_ble_eq_true rfl) dX6_findViews_12 ⟨Nat.le_of_ble_eq_true rfl, Nat.le_of_ble_eq_true rfl⟩ (fun u H locs hp12 hP hD hS => ?_)
      obtain ⟨mk2_12, rfl⟩ : ∃ z, z = u := ⟨_, rfl⟩
      try dsimp only at hp12 hP hD
      have he12 := hp12
      replace hP : xP G [iA G (ad 6) 160 vs3, oC ko 6 [.ref (ad 0), .ref (ad 1), .int (nI w), .int (nI h), .int (nI la), .ref (ad 2), .int (mv 0), .int (mv 1), .int (mv 2), .int (mv 3), .int (mv 4), .int (mv 5), .int (mv 6), .ref (ad 3), .int (nI tp), .int (mv 7), .int (mv 8), .int (mv 9), .int (mv 10), .int ft, .int (mv 11), .ref (ad 4), .ref (ad 5), .ref (ad 6), .ref (ad 7), .ref (ad 8), .ref (ad 9), .ref (ad 10), .int tr], iA G (ad 0) 255 S, iA G (ad 4) 16 mk2_12] H := hP
      replace hD : va_D (va_A (w_X6_findViews G ko ad w h la tp ft tr mv S mk vs) ss.heap.size) [iA G (ad 6) 160 vs3, oC ko 6 [.ref (ad 0), .ref (ad 1), .int (nI w), .int (nI h), .int (nI la), .ref (ad 2), .int (mv 0), .int (mv 1), .int (mv 2), .int (mv 3), .int (mv 4), .int (mv 5), .int (mv 6), .ref (ad 3), .int (nI tp), .int (mv 7), .int (mv 8), .int (mv 9), .int (mv 10), .int ft, .int (mv 11), .ref (ad 4), .ref (ad 5), .ref (ad 6), .ref (ad 7), .ref (ad 8), .ref (ad 9), .ref (ad 10), .int tr], iA G (ad 0) 255 S, iA G (ad 4) 16 mk2_12] := hD
      refine lv_iconst (v := nI 0) hx hb dX6_findViews_15 (by decide) ?_
      refine lv_istore_n (lv' := [(2, .int (nI 0)), (0, .ref ko), (1, .int (nI d))]) hx hb dX6_findViews_16 rfl hl (by decide) rfl (fun ls hl => ?_)
      have hL17 : ∀ k : Nat, ∀ (x : Nat) (vs4 : Nat → Int32) (ls : Array Slot) (H : Heap) (locs : List Loc), w * h - x = k → (x ≤ w * h) → (∀ d2 x, d2 < d → x < w * h → vs4 (16 * d2 + x) = sgM w h S nc x d2) → (∀ x2, x2 < x → vs4 (16 * d + x2) = sgM w h S nc x2 d) → lv_has ls 3 [(0, .ref ko), (1, .int (nI d)), (2, .int (nI x))] → xP G [iA G (ad 0) 255 S, iA G (ad 4) 16 mk2_12, iA G (ad 6) 160 vs4, oC ko 6 [.ref (ad 0), .ref (ad 1), .int (nI w), .int (nI h), .int (nI la), .ref (ad 2), .int (mv 0), .int (mv 1), .int (mv 2), .int (mv 3), .int (mv 4), .int (mv 5), .int (mv 6), .ref (ad 3), .int (nI tp), .int (mv 7), .int (mv 8), .int (mv 9), .int (mv 10), .int ft, .int (mv 11), .ref (ad 4), .ref (ad 5), .ref (ad 6), .ref (ad 7), .ref (ad 8), .ref (ad 9), .ref (ad 10), .int tr]] H → va_D (va_A (w_X6_findViews G ko ad w h la tp ft tr mv S mk vs) ss.heap.size) [iA G (ad 0) 255 S, iA G (ad 4) 16 mk2_12, iA G (ad 6) 160 vs4, oC ko 6 [.ref (ad 0), .ref (ad 1), .int (nI w), .int (nI h), .int (nI la), .ref (ad 2), .int (mv 0), .int (mv 1), .int (mv 2), .int (mv 3), .int (mv 4), .int (mv 5), .int (mv 6), .ref (ad 3), .int (nI tp), .int (mv 7), .int (mv 8), .int (mv 9), .int (mv 10), .int ft, .int (mv 11), .ref (ad 4), .ref (ad 5), .ref (ad 6), .ref (ad 7), .ref (ad 8), .ref (ad 9), .ref (ad 10), .int tr]] → va_S (va_A (w_X6_findViews G ko ad w h la tp ft tr mv S mk vs) ss.heap.size) ss.heap H locs → W pp l ee ({ frames := 3, cells := 0, slots := 0, locals := 67 } : Room) ss mm ([.ref ko] : List Value).toArray below mt cd H locs 0 0 (MQ below (Q_X6_findViews G ss.heap.size ko ad w h la tp ft tr mv S mk nc vs) ([.ref ko] : List Value).toArray ss 0 0 (va_A (w_X6_findViews G ko ad w h la tp ft tr mv S mk vs) ss.heap.size)) (F0 mm 17 ls []) := by
        intro k
        induction k using Nat.strongRecOn with
        | _ k ih17 =>
        intro x vs4 ls H locs hm17 hxi hvs4 hrow hl hP hD hS
        refine lv_iload_n hx hb dX6_findViews_17 rfl (lv_at hl 2 rfl) ?_
        refine lv_aload_n hx hb dX6_findViews_18 rfl (lv_at hl 0 rfl) ?_
        refine xr_i (As := []) (rest := [.int (nI x)]) ⟨hx, hb, hml, hown, hts⟩ (c_X6_cellsNow l G ko ad w h la tp ft tr mv ) (cwV 0 hts gX6_findViews_X6_cellsNow rfl rfl rfl (by decide +kernel) ⟨Nat.le_of_ble_eq_true rfl, Nat.le_of_ble_eq_true rfl⟩) hK hP hS [3] rfl rfl rfl rfl hl.1 rfl (Nat.le_of_ble_eq_true rfl) dX6_findViews_19 ⟨Nat.zero_le _, Nat.zero_le _⟩ (fun r19 H locs hp19 hP hS => ?_)
        rw [show r19 = _ from hp19]
        refine xn_icmp_ge (tgt := 47) hx hb (by omega) (by omega) dX6_findViews_22 rfl (fun b22 => ?_) (fun b22 => ?_)
        · skip
          refine lv_iinc (k := 1) (v := nI (d + 1)) (lv' := [(1, .int (nI (d + 1))), (0, .ref ko), (2, .int (nI x))]) hx hb dX6_findViews_47 hl rfl (xn_inc d 1) (by decide) rfl (fun ls hl => ?_)
          refine lv_goto (tgt := 2) hx hb dX6_findViews_50 rfl ?_
          have hl := lv_sub hl (l' := [(0, .ref ko), (1, .int (nI (d + 1)))]) [1, 0] rfl
          exact ih2 (la + 1 - (d + 1)) (by omega) (d + 1) mk2_12 vs4 ls H locs rfl (by omega) (by intro d2 x2 q1 q2; by_cases q3 : d2 = d; (subst q3; exact hrow x2 (by omega)); exact hvs4 d2 x2 (by omega) q2) hl hP hD hS
        · skip
          refine lv_aload_n hx hb dX6_findViews_25 rfl (lv_at hl 0 rfl) ?_
          refine va_get (D := G.1) (ci := 6) (v := .ref (ad 6)) (C := RX6) (T := TX6) (N := 29) hx hb hts hin6 hown hK.1 hP 3 rfl rfl 23 (by decide) (hts (.fieldLink RX6 29 "BackLensesModel" "views" "[I") (List.mem_of_getElem? (i := 2) rfl)) (fun _ h9 => h9) rfl dX6_findViews_26 ?_
          refine lv_bipush (v := nI 16) hx hb dX6_findViews_29 (by decide) ?_
          refine lv_iload_n hx hb dX6_findViews_31 rfl (lv_at hl 1 rfl) ?_
          refine xn_imul hx hb dX6_findViews_32 ?_
          refine lv_iload_n hx hb dX6_findViews_33 rfl (lv_at hl 2 rfl) ?_
          refine xn_iadd hx hb dX6_findViews_34 ?_
          refine lv_aload_n hx hb dX6_findViews_35 rfl (lv_at hl 0 rfl) ?_
          refine lv_iload_n hx hb dX6_findViews_36 rfl (lv_at hl 2 rfl) ?_
          refine xr_i (As := [.int (nI x)]) (rest := [.int (nI ((16 * d) + x)), .ref (ad 6)]) ⟨hx, hb, hml, hown, hts⟩ (c_X6_sight l G ko ad w h la tp ft tr mv mk2_12 x (by first | assumption | omega) (by first | assumption | omega) (by first | assumption | omega) (by first | assumption | omega) (by first | assumption | omega)) (cwV 1 hts gX6_findViews_X6_sight rfl rfl rfl (by decide +kernel) ⟨Nat.le_of_ble_eq_true rfl, Nat.le_of_ble_eq_true rfl⟩) hK hP hS [3, 1] rfl rfl rfl rfl hl.1 rfl (Nat.le_of_ble_eq_true rfl) dX6_findViews_37 ⟨Nat.zero_le _, Nat.zero_le _⟩ (fun r37 H locs hp37 hP hS => ?_)
          rw [show r37 = _ from hp37]
          refine xn_iast hx hb hK hP hD hS 2 rfl (by omega) (by omega) dX6_findViews_40 (fun H locs hP hD hS => ?_)
          replace hP : xP G [iA G (ad 0) 255 S, iA G (ad 4) 16 mk2_12, iA G (ad 6) 160 (upd vs4 ((16 * d) + x) (sgF w h mk2_12 x)), oC ko 6 [.ref (ad 0), .ref (ad 1), .int (nI w), .int (nI h), .int (nI la), .ref (ad 2), .int (mv 0), .int (mv 1), .int (mv 2), .int (mv 3), .int (mv 4), .int (mv 5), .int (mv 6), .ref (ad 3), .int (nI tp), .int (mv 7), .int (mv 8), .int (mv 9), .int (mv 10), .int ft, .int (mv 11), .ref (ad 4), .ref (ad 5), .ref (ad 6), .ref (ad 7), .ref (ad 8), .ref (ad 9), .ref (ad 10), .int tr]] H := hP
          replace hD : va_D (va_A (w_X6_findViews G ko ad w h la tp ft tr mv S mk vs) ss.heap.size) [iA G (ad 0) 255 S, iA G (ad 4) 16 mk2_12, iA G (ad 6) 160 (upd vs4 ((16 * d) + x) (sgF w h mk2_12 x)), oC ko 6 [.ref (ad 0), .ref (ad 1), .int (nI w), .int (nI h), .int (nI la), .ref (ad 2), .int (mv 0), .int (mv 1), .int (mv 2), .int (mv 3), .int (mv 4), .int (mv 5), .int (mv 6), .ref (ad 3), .int (nI tp), .int (mv 7), .int (mv 8), .int (mv 9), .int (mv 10), .int ft, .int (mv 11), .ref (ad 4), .ref (ad 5), .ref (ad 6), .ref (ad 7), .ref (ad 8), .ref (ad 9), .ref (ad 10), .int tr]] := hD
          refine lv_iinc (k := 2) (v := nI (x + 1)) (lv' := [(2, .int (nI (x + 1))), (0, .ref ko), (1, .int (nI d))]) hx hb dX6_findViews_41 hl rfl (xn_inc x 1) (by decide) rfl (fun ls hl => ?_)
          refine lv_goto (tgt := 17) hx hb dX6_findViews_44 rfl ?_
          have hl := lv_sub hl (l' := [(0, .ref ko), (1, .int (nI d)), (2, .int (nI (x + 1)))]) [1, 2, 0] rfl
          exact ih17 (w * h - (x + 1)) (by omega) (x + 1) (upd vs4 ((16 * d) + x) (sgF w h mk2_12 x)) ls H locs rfl (by omega) (by intro d2 x2 q1 q2; rw [upd_ne (by omega)]; exact hvs4 d2 x2 q1 q2) (by intro x2 q1; by_cases q3 : x2 = x; (subst q3; rw [upd_eq]; exact sgF_congr (by omega) (by omega) (fun c q => he12 c (by omega))); (rw [upd_ne (by omega)]; exact hrow x2 (by omega))) hl hP hD hS
      have hl := lv_sub hl (l' := [(0, .ref ko), (1, .int (nI d)), (2, .int (nI 0))]) [1, 2, 0] rfl
      have hP := hP.sub (ws' := [iA G (ad 0) 255 S, iA G (ad 4) 16 mk2_12, iA G (ad 6) 160 vs3, oC ko 6 [.ref (ad 0), .ref (ad 1), .int (nI w), .int (nI h), .int (nI la), .ref (ad 2), .int (mv 0), .int (mv 1), .int (mv 2), .int (mv 3), .int (mv 4), .int (mv 5), .int (mv 6), .ref (ad 3), .int (nI tp), .int (mv 7), .int (mv 8), .int (mv 9), .int (mv 10), .int ft, .int (mv 11), .ref (ad 4), .ref (ad 5), .ref (ad 6), .ref (ad 7), .ref (ad 8), .ref (ad 9), .ref (ad 10), .int tr]]) [2, 3, 0, 1] rfl
      have hD := hD.sub (ws' := [iA G (ad 0) 255 S, iA G (ad 4) 16 mk2_12, iA G (ad 6) 160 vs3, oC ko 6 [.ref (ad 0), .ref (ad 1), .int (nI w), .int (nI h), .int (nI la), .ref (ad 2), .int (mv 0), .int (mv 1), .int (mv 2), .int (mv 3), .int (mv 4), .int (mv 5), .int (mv 6), .ref (ad 3), .int (nI tp), .int (mv 7), .int (mv 8), .int (mv 9), .int (mv 10), .int ft, .int (mv 11), .ref (ad 4), .ref (ad 5), .ref (ad 6), .ref (ad 7), .ref (ad 8), .ref (ad 9), .ref (ad 10), .int tr]]) [2, 3, 0, 1] (by decide) rfl
      exact hL17 (w * h - 0) 0 vs3 ls H locs rfl (by omega) (by exact hvs) (by intro x2 q; omega) hl hP hD hS
  have hl := lv_sub hl (l' := [(0, .ref ko), (1, .int (nI 0))]) [1, 0] rfl
  have hP := hP.sub (ws' := [iA G (ad 0) 255 S, iA G (ad 4) 16 mk, iA G (ad 6) 160 vs, oC ko 6 [.ref (ad 0), .ref (ad 1), .int (nI w), .int (nI h), .int (nI la), .ref (ad 2), .int (mv 0), .int (mv 1), .int (mv 2), .int (mv 3), .int (mv 4), .int (mv 5), .int (mv 6), .ref (ad 3), .int (nI tp), .int (mv 7), .int (mv 8), .int (mv 9), .int (mv 10), .int ft, .int (mv 11), .ref (ad 4), .ref (ad 5), .ref (ad 6), .ref (ad 7), .ref (ad 8), .ref (ad 9), .ref (ad 10), .int tr]]) [1, 2, 3, 0] rfl
  have hD := hD.sub (ws' := [iA G (ad 0) 255 S, iA G (ad 4) 16 mk, iA G (ad 6) 160 vs, oC ko 6 [.ref (ad 0), .ref (ad 1), .int (nI w), .int (nI h), .int (nI la), .ref (ad 2), .int (mv 0), .int (mv 1), .int (mv 2), .int (mv 3), .int (mv 4), .int (mv 5), .int (mv 6), .ref (ad 3), .int (nI tp), .int (mv 7), .int (mv 8), .int (mv 9), .int (mv 10), .int ft, .int (mv 11), .ref (ad 4), .ref (ad 5), .ref (ad 6), .ref (ad 7), .ref (ad 8), .ref (ad 9), .ref (ad 10), .int tr]]) [1, 2, 3, 0] (by decide) rfl
  exact hL2 (la + 1 - 0) 0 mk vs ls ss.heap [] rfl (by omega) (by intro d2 x q1; omega) hl hP hD hS

abbrev w_X6_apartOf (G : XG) (ko : Nat) (ad : Nat → Nat) (w h la tp : Nat) (ft tr : Int32) (mv : Nat → Int32) (S vs : Nat → Int32) : va_W := [oC ko 6 [.ref (ad 0), .ref (ad 1), .int (nI w), .int (nI h), .int (nI la), .ref (ad 2), .int (mv 0), .int (mv 1), .int (mv 2), .int (mv 3), .int (mv 4), .int (mv 5), .int (mv 6), .ref (ad 3), .int (nI tp), .int (mv 7), .int (mv 8), .int (mv 9), .int (mv 10), .int ft, .int (mv 11), .ref (ad 4), .ref (ad 5), .ref (ad 6), .ref (ad 7), .ref (ad 8), .ref (ad 9), .ref (ad 10), .int tr], iA G (ad 0) 255 S, iA G (ad 6) 160 vs]
abbrev Q_X6_apartOf (G : XG) (ko : Nat) (ad : Nat → Nat) (w h la tp : Nat) (ft tr : Int32) (mv : Nat → Int32) (S vs : Nat → Int32) (nc d e : Nat) : Array Value → State → Outcome → State → Prop := (xRi (fun r => r = apM w h S nc d e))
set_option maxHeartbeats 4000000 in
set_option maxRecDepth 100000 in
theorem c_X6_apartOf (l : Launch) (G : XG) (ko : Nat) (ad : Nat → Nat) (w h la tp : Nat) (ft tr : Int32) (mv : Nat → Int32) (S vs : Nat → Int32) (nc d e : Nat) (hw : 1 ≤ w) (hwb : w ≤ 16) (hhb : h ≤ 16) (hwh1 : 1 ≤ w * h) (hwh : w * h ≤ 16) (hla : la ≤ 9) (hs16 : S 16 = nI nc) (hnc : nc ≤ 10) (hd : d ≤ la) (he : e ≤ la) (hvs : ∀ d2 x, d2 < la + 1 → x < w * h → vs (16 * d2 + x) = sgM w h S nc x d2) : Met l yX6_apartOf wsX6_apartOf ({ frames := 2, cells := 0, slots := 0, locals := 51 } : Room) (va_Pc [.ref ko, .int (nI d), .int (nI e)] (xRp G (w_X6_apartOf G ko ad w h la tp ft tr mv S vs))) (Q_X6_apartOf G ko ad w h la tp ft tr mv S vs nc d e) 0 0 (fun _ => False) := by
  refine Met.ofW (cc := cX6_apartOf) (maxL := 8) (ret := (some .int)) (by decide) rfl ?_
  intro pp ee ss mm aa below mt cd s₁ BB hml hv
  obtain ⟨rfl, hP, hK⟩ := hv
  have hx := BB.exec
  have hb := BB.bytes
  have hr := BB.returns
  have hts := atoms_spec (ws := wsX6_apartOf) BB.pre
  have hown : ss.vm.findClass RX6 = some mm.cls := findClass_of_methodNamed BB.named
  have hlocks := BB.notSynchronized
  have hS : va_S (fun _ => False) ss.heap ss.heap [] := va_S.rf
  replace hP : xP G [oC ko 6 [.ref (ad 0), .ref (ad 1), .int (nI w), .int (nI h), .int (nI la), .ref (ad 2), .int (mv 0), .int (mv 1), .int (mv 2), .int (mv 3), .int (mv 4), .int (mv 5), .int (mv 6), .ref (ad 3), .int (nI tp), .int (mv 7), .int (mv 8), .int (mv 9), .int (mv 10), .int ft, .int (mv 11), .ref (ad 4), .ref (ad 5), .ref (ad 6), .ref (ad 7), .ref (ad 8), .ref (ad 9), .ref (ad 10), .int tr], iA G (ad 0) 255 S, iA G (ad 6) 160 vs] ss.heap := hP
  have hin6 : ∀ w ∈ u_ws RX6 TX6 29, w ∈ wsX6_apartOf := fun w h => List.mem_cons_of_mem _ (List.mem_append_right _ h)
  have hl := lv_entry ([.ref ko, .int (nI d), .int (nI e)]) (n := 8) (Nat.le_of_ble_eq_true rfl)
  rw [lg_entry_eq]
  generalize (lg_sl ([.ref ko, .int (nI d), .int (nI e)]) ++ List.replicate (8 - (lg_sl ([.ref ko, .int (nI d), .int (nI e)])).length) Slot.unset).toArray = ls at hl ⊢
  replace hl : lv_has ls 8 [(0, .ref ko), (1, .int (nI d)), (2, .int (nI e))] := hl
  refine lv_iconst (v := nI 0) hx hb dX6_apartOf_0 (by decide) ?_
  refine lv_istore_n (lv' := [(3, .int (nI 0)), (0, .ref ko), (1, .int (nI d)), (2, .int (nI e))]) hx hb dX6_apartOf_1 rfl hl (by decide) rfl (fun ls hl => ?_)
  refine lv_aload_n hx hb dX6_apartOf_2 rfl (lv_at hl 1 rfl) ?_
  refine lv_iload_n hx hb dX6_apartOf_3 rfl (lv_at hl 2 rfl) ?_
  refine lv_iload_n hx hb dX6_apartOf_4 rfl (lv_at hl 3 rfl) ?_
  refine xr_i (As := [.int (nI d), .int (nI e)]) (rest := []) ⟨hx, hb, hml, hown, hts⟩ (c_X6_unlike l G ko ad w h la tp ft tr mv S nc d e (by first | assumption | omega) (by first | assumption | omega) (by first | assumption | omega) (by first | assumption | omega) (by first | assumption | omega) (by first | assumption | omega) (by first | assumption | omega) (by first | assumption | omega) (by first | assumption | omega) (by first | assumption | omega)) (cwV 2 hts gX6_apartOf_X6_unlike rfl rfl rfl (by decide +kernel) ⟨Nat.le_of_ble_eq_true rfl, Nat.le_of_ble_eq_true rfl⟩) hK hP hS [0, 1] rfl rfl rfl rfl hl.1 rfl (Nat.le_of_ble_eq_true rfl) dX6_apartOf_5 ⟨Nat.zero_le _, Nat.zero_le _⟩ (fun r5 H locs hp5 hP hS => ?_)
  rw [show r5 = _ from hp5]
  refine lv_istore (lv' := [(4, .int (unM w h S nc d e)), (3, .int (nI 0)), (0, .ref ko), (1, .int (nI d)), (2, .int (nI e))]) hx hb dX6_apartOf_8 hl (by decide) rfl (fun ls hl => ?_)
  refine lv_iconst (v := nI 0) hx hb dX6_apartOf_10 (by decide) ?_
  refine lv_istore (lv' := [(5, .int (nI 0)), (4, .int (unM w h S nc d e)), (3, .int (nI 0)), (0, .ref ko), (1, .int (nI d)), (2, .int (nI e))]) hx hb dX6_apartOf_11 hl (by decide) rfl (fun ls hl => ?_)
  have hL13 : ∀ k : Nat, ∀ (x : Nat) (bits : Int32) (ls : Array Slot) (H : Heap) (locs : List Loc), w * h - x = k → (x ≤ w * h) → (bits = xbits (fun x => !decide (vs (16 * d + x) = vs (16 * e + x)) || !decide (vs (16 * d + x) &&& unM w h S nc d e = 0)) x) → lv_has ls 8 [(0, .ref ko), (1, .int (nI d)), (2, .int (nI e)), (3, .int bits), (4, .int (unM w h S nc d e)), (5, .int (nI x))] → xP G [iA G (ad 0) 255 S, iA G (ad 6) 160 vs, oC ko 6 [.ref (ad 0), .ref (ad 1), .int (nI w), .int (nI h), .int (nI la), .ref (ad 2), .int (mv 0), .int (mv 1), .int (mv 2), .int (mv 3), .int (mv 4), .int (mv 5), .int (mv 6), .ref (ad 3), .int (nI tp), .int (mv 7), .int (mv 8), .int (mv 9), .int (mv 10), .int ft, .int (mv 11), .ref (ad 4), .ref (ad 5), .ref (ad 6), .ref (ad 7), .ref (ad 8), .ref (ad 9), .ref (ad 10), .int tr]] H → va_S (fun _ => False) ss.heap H locs → W pp l ee ({ frames := 2, cells := 0, slots := 0, locals := 51 } : Room) ss mm ([.ref ko, .int (nI d), .int (nI e)] : List Value).toArray below mt cd H locs 0 0 (MQ below (Q_X6_apartOf G ko ad w h la tp ft tr mv S vs nc d e) ([.ref ko, .int (nI d), .int (nI e)] : List Value).toArray ss 0 0 (fun _ => False)) (F0 mm 13 ls []) := by
    intro k
    induction k using Nat.strongRecOn with
    | _ k ih13 =>
    intro x bits ls H locs hm13 hxi hbits hl hP hS
    refine lv_iload hx hb dX6_apartOf_13 (lv_at hl 5 rfl) ?_
    refine lv_aload_n hx hb dX6_apartOf_15 rfl (lv_at hl 0 rfl) ?_
    refine xr_i (As := []) (rest := [.int (nI x)]) ⟨hx, hb, hml, hown, hts⟩ (c_X6_cellsNow l G ko ad w h la tp ft tr mv ) (cwV 0 hts gX6_apartOf_X6_cellsNow rfl rfl rfl (by decide +kernel) ⟨Nat.le_of_ble_eq_true rfl, Nat.le_of_ble_eq_true rfl⟩) hK hP hS [2] rfl rfl rfl rfl hl.1 rfl (Nat.le_of_ble_eq_true rfl) dX6_apartOf_16 ⟨Nat.zero_le _, Nat.zero_le _⟩ (fun r16 H locs hp16 hP hS => ?_)
    rw [show r16 = _ from hp16]
    refine xn_icmp_ge (tgt := 85) hx hb (by omega) (by omega) dX6_apartOf_19 rfl (fun b19 => ?_) (fun b19 => ?_)
    · skip
      refine lv_iload_n hx hb dX6_apartOf_85 rfl (lv_at hl 3 rfl) ?_
      refine W.iret (v := bits) hx hb hr (fun t ht hW => ⟨⟨bits, (), rfl, ?_, trivial⟩, hS.F ht⟩) hS.2.2 dX6_apartOf_86
      rw [hbits, show x = w * h by omega]; exact xbits_congr _ (fun x q => by rw [hvs d x (by omega) q, hvs e x (by omega) q])
    · skip
      refine lv_aload_n hx hb dX6_apartOf_22 rfl (lv_at hl 0 rfl) ?_
      refine va_get (D := G.1) (ci := 6) (v := .ref (ad 6)) (C := RX6) (T := TX6) (N := 29) hx hb hts hin6 hown hK.1 hP 2 rfl rfl 23 (by decide) (hts (.fieldLink RX6 29 "BackLensesModel" "views" "[I") (List.mem_of_getElem? (i := 1) rfl)) (fun _ h9 => h9) rfl dX6_apartOf_23 ?_
      refine lv_bipush (v := nI 16) hx hb dX6_apartOf_26 (by decide) ?_
      refine lv_iload_n hx hb dX6_apartOf_28 rfl (lv_at hl 1 rfl) ?_
      refine xn_imul hx hb dX6_apartOf_29 ?_
      refine lv_iload hx hb dX6_apartOf_30 (lv_at hl 5 rfl) ?_
      refine xn_iadd hx hb dX6_apartOf_32 ?_
      refine xn_iald hx hb hK hP 1 rfl (by omega) (by omega) dX6_apartOf_33 ?_
      refine lv_istore (lv' := [(6, .int (vs ((16 * d) + x))), (0, .ref ko), (1, .int (nI d)), (2, .int (nI e)), (3, .int bits), (4, .int (unM w h S nc d e)), (5, .int (nI x))]) hx hb dX6_apartOf_34 hl (by decide) rfl (fun ls hl => ?_)
      refine lv_aload_n hx hb dX6_apartOf_36 rfl (lv_at hl 1 rfl) ?_
      refine va_get (D := G.1) (ci := 6) (v := .ref (ad 6)) (C := RX6) (T := TX6) (N := 29) hx hb hts hin6 hown hK.1 hP 2 rfl rfl 23 (by decide) (hts (.fieldLink RX6 29 "BackLensesModel" "views" "[I") (List.mem_of_getElem? (i := 1) rfl)) (fun _ h9 => h9) rfl dX6_apartOf_37 ?_
      refine lv_bipush (v := nI 16) hx hb dX6_apartOf_40 (by decide) ?_
      refine lv_iload_n hx hb dX6_apartOf_42 rfl (lv_at hl 3 rfl) ?_
      refine xn_imul hx hb dX6_apartOf_43 ?_
      refine lv_iload hx hb dX6_apartOf_44 (lv_at hl 6 rfl) ?_
      refine xn_iadd hx hb dX6_apartOf_46 ?_
      refine xn_iald hx hb hK hP 1 rfl (by omega) (by omega) dX6_apartOf_47 ?_
      refine lv_istore (lv' := [(7, .int (vs ((16 * e) + x))), (6, .int (vs ((16 * d) + x))), (0, .ref ko), (1, .int (nI d)), (2, .int (nI e)), (3, .int bits), (4, .int (unM w h S nc d e)), (5, .int (nI x))]) hx hb dX6_apartOf_48 hl (by decide) rfl (fun ls hl => ?_)
      refine lv_iload_n hx hb dX6_apartOf_50 rfl (lv_at hl 5 rfl) ?_
      refine lv_iload hx hb dX6_apartOf_51 (lv_at hl 1 rfl) ?_
      refine lv_iload hx hb dX6_apartOf_53 (lv_at hl 0 rfl) ?_
      refine lv_icmp_ne (tgt := 66) hx hb dX6_apartOf_55 rfl (fun b55 => ?_) (fun b55 => ?_)
      · skip
        refine lv_iconst (v := nI 1) hx hb dX6_apartOf_66 (by decide) ?_
        refine lv_goto (tgt := 71) hx hb dX6_apartOf_67 rfl ?_
        refine xs_i (As := [.int (nI 1)]) (rest := [.int bits]) ⟨hx, hb, hml, hown, hts⟩ (c_X6_flag_1 l G) (va_cwS 1 hts gX6_apartOf_X6_flag rfl rfl rfl (by decide +kernel) ⟨Nat.le_of_ble_eq_true rfl, Nat.le_of_ble_eq_true rfl⟩) hP hS rfl hl.1 rfl (Nat.le_of_ble_eq_true rfl) dX6_apartOf_71 ⟨Nat.zero_le _, Nat.zero_le _⟩ (fun r71 H locs hp71 hP hS => ?_)
        rw [show r71 = _ from hp71]
        refine lv_iload hx hb dX6_apartOf_74 (lv_at hl 7 rfl) ?_
        refine lv_ishl hx hb dX6_apartOf_76 ?_
        refine lv_ior hx hb dX6_apartOf_77 ?_
        refine lv_istore_n (lv' := [(3, .int (bits ||| ((nI 1) <<< ((nI x) &&& 31)))), (7, .int (vs ((16 * e) + x))), (6, .int (vs ((16 * d) + x))), (0, .ref ko), (1, .int (nI d)), (2, .int (nI e)), (4, .int (unM w h S nc d e)), (5, .int (nI x))]) hx hb dX6_apartOf_78 rfl hl (by decide) rfl (fun ls hl => ?_)
        refine lv_iinc (k := 7) (v := nI (x + 1)) (lv' := [(5, .int (nI (x + 1))), (3, .int (bits ||| ((nI 1) <<< ((nI x) &&& 31)))), (7, .int (vs ((16 * e) + x))), (6, .int (vs ((16 * d) + x))), (0, .ref ko), (1, .int (nI d)), (2, .int (nI e)), (4, .int (unM w h S nc d e))]) hx hb dX6_apartOf_79 hl rfl (xn_inc x 1) (by decide) rfl (fun ls hl => ?_)
        refine lv_goto (tgt := 13) hx hb dX6_apartOf_82 rfl ?_
        have hl := lv_sub hl (l' := [(0, .ref ko), (1, .int (nI d)), (2, .int (nI e)), (3, .int (bits ||| ((nI 1) <<< ((nI x) &&& 31)))), (4, .int (unM w h S nc d e)), (5, .int (nI (x + 1)))]) [4, 5, 6, 1, 7, 0] rfl
        exact ih13 (w * h - (x + 1)) (by omega) (x + 1) (bits ||| ((nI 1) <<< ((nI x) &&& 31))) ls H locs rfl (by omega) (by first | exact xbits_Z (by simp only [decide_eq_true b55, decide_eq_true b63]; rfl) hbits | exact xbits_T (by simp only [decide_eq_false b63]; simp) hbits | exact xbits_T (by simp only [decide_eq_false b55]; simp) hbits) hl hP hS
      · skip
        refine lv_iload hx hb dX6_apartOf_58 (lv_at hl 1 rfl) ?_
        refine lv_iload hx hb dX6_apartOf_60 (lv_at hl 6 rfl) ?_
        refine lv_iand hx hb dX6_apartOf_62 ?_
        refine lv_if_eq (tgt := 70) hx hb dX6_apartOf_63 rfl (fun b63 => ?_) (fun b63 => ?_)
        · skip
          refine lv_iconst (v := nI 0) hx hb dX6_apartOf_70 (by decide) ?_
          refine xs_i (As := [.int (nI 0)]) (rest := [.int bits]) ⟨hx, hb, hml, hown, hts⟩ (c_X6_flag_0 l G) (va_cwS 1 hts gX6_apartOf_X6_flag rfl rfl rfl (by decide +kernel) ⟨Nat.le_of_ble_eq_true rfl, Nat.le_of_ble_eq_true rfl⟩) hP hS rfl hl.1 rfl (Nat.le_of_ble_eq_true rfl) dX6_apartOf_71 ⟨Nat.zero_le _, Nat.zero_le _⟩ (fun r71 H locs hp71 hP hS => ?_)
          rw [show r71 = _ from hp71]
          refine lv_iload hx hb dX6_apartOf_74 (lv_at hl 7 rfl) ?_
          refine lv_ishl hx hb dX6_apartOf_76 ?_
          refine lv_ior hx hb dX6_apartOf_77 ?_
          refine lv_istore_n (lv' := [(3, .int (bits ||| ((nI 0) <<< ((nI x) &&& 31)))), (7, .int (vs ((16 * e) + x))), (6, .int (vs ((16 * d) + x))), (0, .ref ko), (1, .int (nI d)), (2, .int (nI e)), (4, .int (unM w h S nc d e)), (5, .int (nI x))]) hx hb dX6_apartOf_78 rfl hl (by decide) rfl (fun ls hl => ?_)
          refine lv_iinc (k := 7) (v := nI (x + 1)) (lv' := [(5, .int (nI (x + 1))), (3, .int (bits ||| ((nI 0) <<< ((nI x) &&& 31)))), (7, .int (vs ((16 * e) + x))), (6, .int (vs ((16 * d) + x))), (0, .ref ko), (1, .int (nI d)), (2, .int (nI e)), (4, .int (unM w h S nc d e))]) hx hb dX6_apartOf_79 hl rfl (xn_inc x 1) (by decide) rfl (fun ls hl => ?_)
          refine lv_goto (tgt := 13) hx hb dX6_apartOf_82 rfl ?_
          have hl := lv_sub hl (l' := [(0, .ref ko), (1, .int (nI d)), (2, .int (nI e)), (3, .int (bits ||| ((nI 0) <<< ((nI x) &&& 31)))), (4, .int (unM w h S nc d e)), (5, .int (nI (x + 1)))]) [4, 5, 6, 1, 7, 0] rfl
          exact ih13 (w * h - (x + 1)) (by omega) (x + 1) (bits ||| ((nI 0) <<< ((nI x) &&& 31))) ls H locs rfl (by omega) (by first | exact xbits_Z (by simp only [decide_eq_true b55, decide_eq_true b63]; rfl) hbits | exact xbits_T (by simp only [decide_eq_false b63]; simp) hbits | exact xbits_T (by simp only [decide_eq_false b55]; simp) hbits) hl hP hS
        · skip
          refine lv_iconst (v := nI 1) hx hb dX6_apartOf_66 (by decide) ?_
          refine lv_goto (tgt := 71) hx hb dX6_apartOf_67 rfl ?_
          refine xs_i (As := [.int (nI 1)]) (rest := [.int bits]) ⟨hx, hb, hml, hown, hts⟩ (c_X6_flag_1 l G) (va_cwS 1 hts gX6_apartOf_X6_flag rfl rfl rfl (by decide +kernel) ⟨Nat.le_of_ble_eq_true rfl, Nat.le_of_ble_eq_true rfl⟩) hP hS rfl hl.1 rfl (Nat.le_of_ble_eq_true rfl) dX6_apartOf_71 ⟨Nat.zero_le _, Nat.zero_le _⟩ (fun r71 H locs hp71 hP hS => ?_)
          rw [show r71 = _ from hp71]
          refine lv_iload hx hb dX6_apartOf_74 (lv_at hl 7 rfl) ?_
          refine lv_ishl hx hb dX6_apartOf_76 ?_
          refine lv_ior hx hb dX6_apartOf_77 ?_
          refine lv_istore_n (lv' := [(3, .int (bits ||| ((nI 1) <<< ((nI x) &&& 31)))), (7, .int (vs ((16 * e) + x))), (6, .int (vs ((16 * d) + x))), (0, .ref ko), (1, .int (nI d)), (2, .int (nI e)), (4, .int (unM w h S nc d e)), (5, .int (nI x))]) hx hb dX6_apartOf_78 rfl hl (by decide) rfl (fun ls hl => ?_)
          refine lv_iinc (k := 7) (v := nI (x + 1)) (lv' := [(5, .int (nI (x + 1))), (3, .int (bits ||| ((nI 1) <<< ((nI x) &&& 31)))), (7, .int (vs ((16 * e) + x))), (6, .int (vs ((16 * d) + x))), (0, .ref ko), (1, .int (nI d)), (2, .int (nI e)), (4, .int (unM w h S nc d e))]) hx hb dX6_apartOf_79 hl rfl (xn_inc x 1) (by decide) rfl (fun ls hl => ?_)
          refine lv_goto (tgt := 13) hx hb dX6_apartOf_82 rfl ?_
          have hl := lv_sub hl (l' := [(0, .ref ko), (1, .int (nI d)), (2, .int (nI e)), (3, .int (bits ||| ((nI 1) <<< ((nI x) &&& 31)))), (4, .int (unM w h S nc d e)), (5, .int (nI (x + 1)))]) [4, 5, 6, 1, 7, 0] rfl
          exact ih13 (w * h - (x + 1)) (by omega) (x + 1) (bits ||| ((nI 1) <<< ((nI x) &&& 31))) ls H locs rfl (by omega) (by first | exact xbits_Z (by simp only [decide_eq_true b55, decide_eq_true b63]; rfl) hbits | exact xbits_T (by simp only [decide_eq_false b63]; simp) hbits | exact xbits_T (by simp only [decide_eq_false b55]; simp) hbits) hl hP hS
  have hl := lv_sub hl (l' := [(0, .ref ko), (1, .int (nI d)), (2, .int (nI e)), (3, .int (nI 0)), (4, .int (unM w h S nc d e)), (5, .int (nI 0))]) [3, 4, 5, 2, 1, 0] rfl
  have hP := hP.sub (ws' := [iA G (ad 0) 255 S, iA G (ad 6) 160 vs, oC ko 6 [.ref (ad 0), .ref (ad 1), .int (nI w), .int (nI h), .int (nI la), .ref (ad 2), .int (mv 0), .int (mv 1), .int (mv 2), .int (mv 3), .int (mv 4), .int (mv 5), .int (mv 6), .ref (ad 3), .int (nI tp), .int (mv 7), .int (mv 8), .int (mv 9), .int (mv 10), .int ft, .int (mv 11), .ref (ad 4), .ref (ad 5), .ref (ad 6), .ref (ad 7), .ref (ad 8), .ref (ad 9), .ref (ad 10), .int tr]]) [1, 2, 0] rfl
  exact hL13 (w * h - 0) 0 (nI 0) ls H locs rfl (by omega) (by rfl) hl hP hS

abbrev w_X6_apart (G : XG) (ko : Nat) (ad : Nat → Nat) (w h la tp : Nat) (ft tr : Int32) (mv : Nat → Int32) (S mk : Nat → Int32) (vs : Nat → Int32) : va_W := [oC ko 6 [.ref (ad 0), .ref (ad 1), .int (nI w), .int (nI h), .int (nI la), .ref (ad 2), .int (mv 0), .int (mv 1), .int (mv 2), .int (mv 3), .int (mv 4), .int (mv 5), .int (mv 6), .ref (ad 3), .int (nI tp), .int (mv 7), .int (mv 8), .int (mv 9), .int (mv 10), .int ft, .int (mv 11), .ref (ad 4), .ref (ad 5), .ref (ad 6), .ref (ad 7), .ref (ad 8), .ref (ad 9), .ref (ad 10), .int tr], iA G (ad 0) 255 S, iA G (ad 4) 16 mk, iA G (ad 6) 160 vs]
abbrev Q_X6_apart (G : XG) (sz : Nat) (ko : Nat) (ad : Nat → Nat) (w h la tp : Nat) (ft tr : Int32) (mv : Nat → Int32) (S mk : Nat → Int32) (nc : Nat) (vs : Nat → Int32) (d e : Int32) : Array Value → State → Outcome → State → Prop := (va_Qi (fun (r : Int32) (u : (Nat → Int32) × (Nat → Int32)) => r = (if inR d (la + 1) ∧ inR e (la + 1) then apM w h S nc (tn d) (tn e) else (-1))) (xWb G sz (w_X6_apart G ko ad w h la tp ft tr mv S mk vs) (fun u : (Nat → Int32) × (Nat → Int32) => [oC ko 6 [.ref (ad 0), .ref (ad 1), .int (nI w), .int (nI h), .int (nI la), .ref (ad 2), .int (mv 0), .int (mv 1), .int (mv 2), .int (mv 3), .int (mv 4), .int (mv 5), .int (mv 6), .ref (ad 3), .int (nI tp), .int (mv 7), .int (mv 8), .int (mv 9), .int (mv 10), .int ft, .int (mv 11), .ref (ad 4), .ref (ad 5), .ref (ad 6), .ref (ad 7), .ref (ad 8), .ref (ad 9), .ref (ad 10), .int tr], iA G (ad 0) 255 S, iA G (ad 4) 16 u.1, iA G (ad 6) 160 u.2])) (va_A (w_X6_apart G ko ad w h la tp ft tr mv S mk vs) sz))
set_option maxHeartbeats 4000000 in
set_option maxRecDepth 100000 in
theorem c_X6_apart (l : Launch) (G : XG) (sz : Nat) (ko : Nat) (ad : Nat → Nat) (w h la tp : Nat) (ft tr : Int32) (mv : Nat → Int32) (S mk : Nat → Int32) (nc : Nat) (vs : Nat → Int32) (d e : Int32) (hw : 1 ≤ w) (hwb : w ≤ 16) (hhb : h ≤ 16) (hwh1 : 1 ≤ w * h) (hwh : w * h ≤ 16) (hla : la ≤ 9) (hs16 : S 16 = nI nc) (hnc : nc ≤ 10) : Met l yX6_apart wsX6_apart ({ frames := 4, cells := 0, slots := 0, locals := 89 } : Room) (va_Pc [.ref ko, .int d, .int e] (xWp G sz (w_X6_apart G ko ad w h la tp ft tr mv S mk vs))) (Q_X6_apart G sz ko ad w h la tp ft tr mv S mk nc vs d e) 0 0 (va_A (w_X6_apart G ko ad w h la tp ft tr mv S mk vs) sz) := by
  refine Met.ofW (cc := cX6_apart) (maxL := 3) (ret := (some .int)) (by decide) rfl ?_
  intro pp ee ss mm aa below mt cd s₁ BB hml hv
  obtain ⟨rfl, hsz, hP, hK, hD0⟩ := hv
  have hx := BB.exec
  have hb := BB.bytes
  have hr := BB.returns
  have hts := atoms_spec (ws := wsX6_apart) BB.pre
  have hown : ss.vm.findClass RX6 = some mm.cls := findClass_of_methodNamed BB.named
  have hlocks := BB.notSynchronized
  subst hsz
  have hD := hD0.self (sz := ss.heap.size)
  have hA : ∀ q : Nat, ss.heap.size ≤ q → va_A (w_X6_apart G ko ad w h la tp ft tr mv S mk vs) ss.heap.size q := fun q h => Or.inr h
  have hS : va_S (va_A (w_X6_apart G ko ad w h la tp ft tr mv S mk vs) ss.heap.size) ss.heap ss.heap [] := va_S.rf
  replace hD : va_D (va_A (w_X6_apart G ko ad w h la tp ft tr mv S mk vs) ss.heap.size) [oC ko 6 [.ref (ad 0), .ref (ad 1), .int (nI w), .int (nI h), .int (nI la), .ref (ad 2), .int (mv 0), .int (mv 1), .int (mv 2), .int (mv 3), .int (mv 4), .int (mv 5), .int (mv 6), .ref (ad 3), .int (nI tp), .int (mv 7), .int (mv 8), .int (mv 9), .int (mv 10), .int ft, .int (mv 11), .ref (ad 4), .ref (ad 5), .ref (ad 6), .ref (ad 7), .ref (ad 8), .ref (ad 9), .ref (ad 10), .int tr], iA G (ad 0) 255 S, iA G (ad 4) 16 mk, iA G (ad 6) 160 vs] := hD
  replace hP : xP G [oC ko 6 [.ref (ad 0), .ref (ad 1), .int (nI w), .int (nI h), .int (nI la), .ref (ad 2), .int (mv 0), .int (mv 1), .int (mv 2), .int (mv 3), .int (mv 4), .int (mv 5), .int (mv 6), .ref (ad 3), .int (nI tp), .int (mv 7), .int (mv 8), .int (mv 9), .int (mv 10), .int ft, .int (mv 11), .ref (ad 4), .ref (ad 5), .ref (ad 6), .ref (ad 7), .ref (ad 8), .ref (ad 9), .ref (ad 10), .int tr], iA G (ad 0) 255 S, iA G (ad 4) 16 mk, iA G (ad 6) 160 vs] ss.heap := hP
  have hin6 : ∀ w ∈ u_ws RX6 TX6 29, w ∈ wsX6_apart := fun w h => List.mem_cons_of_mem _ (List.mem_append_right _ h)
  have hl := lv_entry ([.ref ko, .int d, .int e]) (n := 3) (Nat.le_of_ble_eq_true rfl)
  rw [lg_entry_eq]
  generalize (lg_sl ([.ref ko, .int d, .int e]) ++ List.replicate (3 - (lg_sl ([.ref ko, .int d, .int e])).length) Slot.unset).toArray = ls at hl ⊢
  replace hl : lv_has ls 3 [(0, .ref ko), (1, .int d), (2, .int e)] := hl
  refine lv_aload_n hx hb dX6_apart_0 rfl (lv_at hl 0 rfl) ?_
  refine lv_iload_n hx hb dX6_apart_1 rfl (lv_at hl 1 rfl) ?_
  refine xr_i (As := [.int d]) (rest := []) ⟨hx, hb, hml, hown, hts⟩ (c_X6_isDay l G ko ad w h la tp ft tr mv d (by first | assumption | omega)) (cwV 1 hts gX6_apart_X6_isDay rfl rfl rfl (by decide +kernel) ⟨Nat.le_of_ble_eq_true rfl, Nat.le_of_ble_eq_true rfl⟩) hK hP hS [0] rfl rfl rfl rfl hl.1 rfl (Nat.le_of_ble_eq_true rfl) dX6_apart_2 ⟨Nat.zero_le _, Nat.zero_le _⟩ (fun r2 H locs hp2 hP hS => ?_)
  rw [show r2 = _ from hp2]
  refine xb_if_eq (tgt := 16) hx hb dX6_apart_5 rfl (fun b5 => ?_) (fun b5 => ?_)
  · skip
    refine lv_iconst (v := (-1)) hx hb dX6_apart_16 (by decide) ?_
    have hP := hP.sub (ws' := [oC ko 6 [.ref (ad 0), .ref (ad 1), .int (nI w), .int (nI h), .int (nI la), .ref (ad 2), .int (mv 0), .int (mv 1), .int (mv 2), .int (mv 3), .int (mv 4), .int (mv 5), .int (mv 6), .ref (ad 3), .int (nI tp), .int (mv 7), .int (mv 8), .int (mv 9), .int (mv 10), .int ft, .int (mv 11), .ref (ad 4), .ref (ad 5), .ref (ad 6), .ref (ad 7), .ref (ad 8), .ref (ad 9), .ref (ad 10), .int tr], iA G (ad 0) 255 S, iA G (ad 4) 16 mk, iA G (ad 6) 160 vs]) [0, 1, 2, 3] rfl
    have hD := hD.sub (ws' := [oC ko 6 [.ref (ad 0), .ref (ad 1), .int (nI w), .int (nI h), .int (nI la), .ref (ad 2), .int (mv 0), .int (mv 1), .int (mv 2), .int (mv 3), .int (mv 4), .int (mv 5), .int (mv 6), .ref (ad 3), .int (nI tp), .int (mv 7), .int (mv 8), .int (mv 9), .int (mv 10), .int ft, .int (mv 11), .ref (ad 4), .ref (ad 5), .ref (ad 6), .ref (ad 7), .ref (ad 8), .ref (ad 9), .ref (ad 10), .int tr], iA G (ad 0) 255 S, iA G (ad 4) 16 mk, iA G (ad 6) 160 vs]) [0, 1, 2, 3] (by decide) rfl
    refine W.iret (v := (-1)) hx hb hr (fun t ht hW => ⟨⟨(-1), (mk, vs), rfl, ?_, by rw [ht]; exact hP, hD⟩, hS.F ht⟩) hS.2.2 dX6_apart_17
    try dsimp only
    first | exact (if_neg (fun q => b5 q.1)).symm | exact (if_neg (fun q => b13 q.2)).symm | (rw [if_pos ⟨inR_nI hd0 (by omega), inR_nI he0 (by omega)⟩, tn_nI (by omega), tn_nI (by omega)])
  · skip
    refine lv_aload_n hx hb dX6_apart_8 rfl (lv_at hl 0 rfl) ?_
    refine lv_iload_n hx hb dX6_apart_9 rfl (lv_at hl 2 rfl) ?_
    refine xr_i (As := [.int e]) (rest := []) ⟨hx, hb, hml, hown, hts⟩ (c_X6_isDay l G ko ad w h la tp ft tr mv e (by first | assumption | omega)) (cwV 1 hts gX6_apart_X6_isDay rfl rfl rfl (by decide +kernel) ⟨Nat.le_of_ble_eq_true rfl, Nat.le_of_ble_eq_true rfl⟩) hK hP hS [0] rfl rfl rfl rfl hl.1 rfl (Nat.le_of_ble_eq_true rfl) dX6_apart_10 ⟨Nat.zero_le _, Nat.zero_le _⟩ (fun r10 H locs hp10 hP hS => ?_)
    rw [show r10 = _ from hp10]
    refine xb_if_ne (tgt := 18) hx hb dX6_apart_13 rfl (fun b13 => ?_) (fun b13 => ?_)
    · skip
      obtain ⟨d0, hd0, rfl⟩ := inR_nat b5
      obtain ⟨e0, he0, rfl⟩ := inR_nat b13
      refine lv_aload_n hx hb dX6_apart_18 rfl (lv_at hl 0 rfl) ?_
      refine xw_v (As := []) (rest := []) (wr := []) ⟨hx, hb, hml, hown, hts⟩ (c_X6_findViews l G H.size ko ad w h la tp ft tr mv S mk nc vs (by first | assumption | omega) (by first | assumption | omega) (by first | assumption | omega) (by first | assumption | omega) (by first | assumption | omega) (by first | assumption | omega) (by first | assumption | omega) (by first | assumption | omega)) (cwV 0 hts gX6_apart_X6_findViews rfl rfl rfl (by decide +kernel) ⟨Nat.le_of_ble_eq_true rfl, Nat.le_of_ble_eq_true rfl⟩) hK hP hD hS hA [0, 1, 2, 3] [] rfl rfl (by decide) (by decide) (by decide) rfl rfl rfl hl.1 rfl (Nat.le_of_ble_eq_true rfl) dX6_apart_19 ⟨Nat.le_of_ble_eq_true rfl, Nat.le_of_ble_eq_true rfl⟩ (fun u H locs hp19 hP hD hS => ?_)
      obtain ⟨mk2_19, vs2_19⟩ := u
      try dsimp only at hp19 hP hD
      have he19 := hp19
      replace hP : xP G [oC ko 6 [.ref (ad 0), .ref (ad 1), .int (nI w), .int (nI h), .int (nI la), .ref (ad 2), .int (mv 0), .int (mv 1), .int (mv 2), .int (mv 3), .int (mv 4), .int (mv 5), .int (mv 6), .ref (ad 3), .int (nI tp), .int (mv 7), .int (mv 8), .int (mv 9), .int (mv 10), .int ft, .int (mv 11), .ref (ad 4), .ref (ad 5), .ref (ad 6), .ref (ad 7), .ref (ad 8), .ref (ad 9), .ref (ad 10), .int tr], iA G (ad 0) 255 S, iA G (ad 4) 16 mk2_19, iA G (ad 6) 160 vs2_19] H := hP
      replace hD : va_D (va_A (w_X6_apart G ko ad w h la tp ft tr mv S mk vs) ss.heap.size) [oC ko 6 [.ref (ad 0), .ref (ad 1), .int (nI w), .int (nI h), .int (nI la), .ref (ad 2), .int (mv 0), .int (mv 1), .int (mv 2), .int (mv 3), .int (mv 4), .int (mv 5), .int (mv 6), .ref (ad 3), .int (nI tp), .int (mv 7), .int (mv 8), .int (mv 9), .int (mv 10), .int ft, .int (mv 11), .ref (ad 4), .ref (ad 5), .ref (ad 6), .ref (ad 7), .ref (ad 8), .ref (ad 9), .ref (ad 10), .int tr], iA G (ad 0) 255 S, iA G (ad 4) 16 mk2_19, iA G (ad 6) 160 vs2_19] := hD
      refine lv_aload_n hx hb dX6_apart_22 rfl (lv_at hl 0 rfl) ?_
      refine lv_iload_n hx hb dX6_apart_23 rfl (lv_at hl 1 rfl) ?_
      refine lv_iload_n hx hb dX6_apart_24 rfl (lv_at hl 2 rfl) ?_
      refine xr_i (As := [.int (nI d0), .int (nI e0)]) (rest := []) ⟨hx, hb, hml, hown, hts⟩ (c_X6_apartOf l G ko ad w h la tp ft tr mv S vs2_19 nc d0 e0 (by first | assumption | omega) (by first | assumption | omega) (by first | assumption | omega) (by first | assumption | omega) (by first | assumption | omega) (by first | assumption | omega) (by first | assumption | omega) (by first | assumption | omega) (by first | assumption | omega) (by first | assumption | omega) (by first | assumption | omega)) (cwV 2 hts gX6_apart_X6_apartOf rfl rfl rfl (by decide +kernel) ⟨Nat.le_of_ble_eq_true rfl, Nat.le_of_ble_eq_true rfl⟩) hK hP hS [0, 1, 3] rfl rfl rfl rfl hl.1 rfl (Nat.le_of_ble_eq_true rfl) dX6_apart_25 ⟨Nat.zero_le _, Nat.zero_le _⟩ (fun r25 H locs hp25 hP hS => ?_)
      rw [show r25 = _ from hp25]
      have hP := hP.sub (ws' := [oC ko 6 [.ref (ad 0), .ref (ad 1), .int (nI w), .int (nI h), .int (nI la), .ref (ad 2), .int (mv 0), .int (mv 1), .int (mv 2), .int (mv 3), .int (mv 4), .int (mv 5), .int (mv 6), .ref (ad 3), .int (nI tp), .int (mv 7), .int (mv 8), .int (mv 9), .int (mv 10), .int ft, .int (mv 11), .ref (ad 4), .ref (ad 5), .ref (ad 6), .ref (ad 7), .ref (ad 8), .ref (ad 9), .ref (ad 10), .int tr], iA G (ad 0) 255 S, iA G (ad 4) 16 mk2_19, iA G (ad 6) 160 vs2_19]) [0, 1, 2, 3] rfl
      have hD := hD.sub (ws' := [oC ko 6 [.ref (ad 0), .ref (ad 1), .int (nI w), .int (nI h), .int (nI la), .ref (ad 2), .int (mv 0), .int (mv 1), .int (mv 2), .int (mv 3), .int (mv 4), .int (mv 5), .int (mv 6), .ref (ad 3), .int (nI tp), .int (mv 7), .int (mv 8), .int (mv 9), .int (mv 10), .int ft, .int (mv 11), .ref (ad 4), .ref (ad 5), .ref (ad 6), .ref (ad 7), .ref (ad 8), .ref (ad 9), .ref (ad 10), .int tr], iA G (ad 0) 255 S, iA G (ad 4) 16 mk2_19, iA G (ad 6) 160 vs2_19]) [0, 1, 2, 3] (by decide) rfl
      refine W.iret (v := apM w h S nc d0 e0) hx hb hr (fun t ht hW => ⟨⟨apM w h S nc d0 e0, (mk2_19, vs2_19), rfl, ?_, by rw [ht]; exact hP, hD⟩, hS.F ht⟩) hS.2.2 dX6_apart_28
      try dsimp only
      first | exact (if_neg (fun q => b5 q.1)).symm | exact (if_neg (fun q => b13 q.2)).symm | (rw [if_pos ⟨inR_nI hd0 (by omega), inR_nI he0 (by omega)⟩, tn_nI (by omega), tn_nI (by omega)])
    · skip
      refine lv_iconst (v := (-1)) hx hb dX6_apart_16 (by decide) ?_
      have hP := hP.sub (ws' := [oC ko 6 [.ref (ad 0), .ref (ad 1), .int (nI w), .int (nI h), .int (nI la), .ref (ad 2), .int (mv 0), .int (mv 1), .int (mv 2), .int (mv 3), .int (mv 4), .int (mv 5), .int (mv 6), .ref (ad 3), .int (nI tp), .int (mv 7), .int (mv 8), .int (mv 9), .int (mv 10), .int ft, .int (mv 11), .ref (ad 4), .ref (ad 5), .ref (ad 6), .ref (ad 7), .ref (ad 8), .ref (ad 9), .ref (ad 10), .int tr], iA G (ad 0) 255 S, iA G (ad 4) 16 mk, iA G (ad 6) 160 vs]) [0, 1, 2, 3] rfl
      have hD := hD.sub (ws' := [oC ko 6 [.ref (ad 0), .ref (ad 1), .int (nI w), .int (nI h), .int (nI la), .ref (ad 2), .int (mv 0), .int (mv 1), .int (mv 2), .int (mv 3), .int (mv 4), .int (mv 5), .int (mv 6), .ref (ad 3), .int (nI tp), .int (mv 7), .int (mv 8), .int (mv 9), .int (mv 10), .int ft, .int (mv 11), .ref (ad 4), .ref (ad 5), .ref (ad 6), .ref (ad 7), .ref (ad 8), .ref (ad 9), .ref (ad 10), .int tr], iA G (ad 0) 255 S, iA G (ad 4) 16 mk, iA G (ad 6) 160 vs]) [0, 1, 2, 3] (by decide) rfl
      refine W.iret (v := (-1)) hx hb hr (fun t ht hW => ⟨⟨(-1), (mk, vs), rfl, ?_, by rw [ht]; exact hP, hD⟩, hS.F ht⟩) hS.2.2 dX6_apart_17
      try dsimp only
      first | exact (if_neg (fun q => b5 q.1)).symm | exact (if_neg (fun q => b13 q.2)).symm | (rw [if_pos ⟨inR_nI hd0 (by omega), inR_nI he0 (by omega)⟩, tn_nI (by omega), tn_nI (by omega)])

abbrev w_X6_hide (G : XG) (ko : Nat) (ad : Nat → Nat) (w h la tp : Nat) (ft tr : Int32) (mv : Nat → Int32) (S mk : Nat → Int32) : va_W := [oC ko 6 [.ref (ad 0), .ref (ad 1), .int (nI w), .int (nI h), .int (nI la), .ref (ad 2), .int (mv 0), .int (mv 1), .int (mv 2), .int (mv 3), .int (mv 4), .int (mv 5), .int (mv 6), .ref (ad 3), .int (nI tp), .int (mv 7), .int (mv 8), .int (mv 9), .int (mv 10), .int ft, .int (mv 11), .ref (ad 4), .ref (ad 5), .ref (ad 6), .ref (ad 7), .ref (ad 8), .ref (ad 9), .ref (ad 10), .int tr], iA G (ad 0) 255 S, iA G (ad 4) 16 mk]
abbrev Q_X6_hide (G : XG) (sz : Nat) (ko : Nat) (ad : Nat → Nat) (w h la tp : Nat) (ft tr : Int32) (mv : Nat → Int32) (S mk : Nat → Int32) (nc : Nat) (nl : Nat) (x : Int32) : Array Value → State → Outcome → State → Prop := (va_Qi (fun (r : Int32) (u : (Nat → Int32)) => r = (if inR x (w * h) then (if nl = 0 then (-2) else anF (fun l => sgM w h S nc (tn x) (tn (S (48 + 2 * l)))) (nI 1 <<< (nI (w * h) &&& 31) - nI 1) nl) else (-1))) (xWb G sz (w_X6_hide G ko ad w h la tp ft tr mv S mk) (fun u : (Nat → Int32) => [oC ko 6 [.ref (ad 0), .ref (ad 1), .int (nI w), .int (nI h), .int (nI la), .ref (ad 2), .int (mv 0), .int (mv 1), .int (mv 2), .int (mv 3), .int (mv 4), .int (mv 5), .int (mv 6), .ref (ad 3), .int (nI tp), .int (mv 7), .int (mv 8), .int (mv 9), .int (mv 10), .int ft, .int (mv 11), .ref (ad 4), .ref (ad 5), .ref (ad 6), .ref (ad 7), .ref (ad 8), .ref (ad 9), .ref (ad 10), .int tr], iA G (ad 0) 255 S, iA G (ad 4) 16 u])) (va_A (w_X6_hide G ko ad w h la tp ft tr mv S mk) sz))
set_option maxHeartbeats 4000000 in
set_option maxRecDepth 100000 in
theorem c_X6_hide (l : Launch) (G : XG) (sz : Nat) (ko : Nat) (ad : Nat → Nat) (w h la tp : Nat) (ft tr : Int32) (mv : Nat → Int32) (S mk : Nat → Int32) (nc : Nat) (nl : Nat) (x : Int32) (hw : 1 ≤ w) (hwb : w ≤ 16) (hhb : h ≤ 16) (hwh1 : 1 ≤ w * h) (hwh : w * h ≤ 16) (hla : la ≤ 9) (hs16 : S 16 = nI nc) (hnc : nc ≤ 10) (hs47 : S 47 = nI nl) (hnl : nl ≤ 6) (hlens : ∀ i, i < nl → inR (S (48 + 2 * i)) (la + 1)) : Met l yX6_hide wsX6_hide ({ frames := 4, cells := 0, slots := 0, locals := 89 } : Room) (va_Pc [.ref ko, .int x] (xWp G sz (w_X6_hide G ko ad w h la tp ft tr mv S mk))) (Q_X6_hide G sz ko ad w h la tp ft tr mv S mk nc nl x) 0 0 (va_A (w_X6_hide G ko ad w h la tp ft tr mv S mk) sz) := by
  refine Met.ofW (cc := cX6_hide) (maxL := 4) (ret := (some .int)) (by decide) rfl ?_
  intro pp ee ss mm aa below mt cd s₁ BB hml hv
  obtain ⟨rfl, hsz, hP, hK, hD0⟩ := hv
  have hx := BB.exec
  have hb := BB.bytes
  have hr := BB.returns
  have hts := atoms_spec (ws := wsX6_hide) BB.pre
  have hown : ss.vm.findClass RX6 = some mm.cls := findClass_of_methodNamed BB.named
  have hlocks := BB.notSynchronized
  subst hsz
  have hD := hD0.self (sz := ss.heap.size)
  have hA : ∀ q : Nat, ss.heap.size ≤ q → va_A (w_X6_hide G ko ad w h la tp ft tr mv S mk) ss.heap.size q := fun q h => Or.inr h
  have hS : va_S (va_A (w_X6_hide G ko ad w h la tp ft tr mv S mk) ss.heap.size) ss.heap ss.heap [] := va_S.rf
  replace hD : va_D (va_A (w_X6_hide G ko ad w h la tp ft tr mv S mk) ss.heap.size) [oC ko 6 [.ref (ad 0), .ref (ad 1), .int (nI w), .int (nI h), .int (nI la), .ref (ad 2), .int (mv 0), .int (mv 1), .int (mv 2), .int (mv 3), .int (mv 4), .int (mv 5), .int (mv 6), .ref (ad 3), .int (nI tp), .int (mv 7), .int (mv 8), .int (mv 9), .int (mv 10), .int ft, .int (mv 11), .ref (ad 4), .ref (ad 5), .ref (ad 6), .ref (ad 7), .ref (ad 8), .ref (ad 9), .ref (ad 10), .int tr], iA G (ad 0) 255 S, iA G (ad 4) 16 mk] := hD
  replace hP : xP G [oC ko 6 [.ref (ad 0), .ref (ad 1), .int (nI w), .int (nI h), .int (nI la), .ref (ad 2), .int (mv 0), .int (mv 1), .int (mv 2), .int (mv 3), .int (mv 4), .int (mv 5), .int (mv 6), .ref (ad 3), .int (nI tp), .int (mv 7), .int (mv 8), .int (mv 9), .int (mv 10), .int ft, .int (mv 11), .ref (ad 4), .ref (ad 5), .ref (ad 6), .ref (ad 7), .ref (ad 8), .ref (ad 9), .ref (ad 10), .int tr], iA G (ad 0) 255 S, iA G (ad 4) 16 mk] ss.heap := hP
  have hin6 : ∀ w ∈ u_ws RX6 TX6 29, w ∈ wsX6_hide := fun w h => List.mem_cons_of_mem _ (List.mem_append_right _ h)
  have hl := lv_entry ([.ref ko, .int x]) (n := 4) (Nat.le_of_ble_eq_true rfl)
  rw [lg_entry_eq]
  generalize (lg_sl ([.ref ko, .int x]) ++ List.replicate (4 - (lg_sl ([.ref ko, .int x])).length) Slot.unset).toArray = ls at hl ⊢
  replace hl : lv_has ls 4 [(0, .ref ko), (1, .int x)] := hl
  refine lv_aload_n hx hb dX6_hide_0 rfl (lv_at hl 0 rfl) ?_
  refine lv_iload_n hx hb dX6_hide_1 rfl (lv_at hl 1 rfl) ?_
  refine xr_i (As := [.int x]) (rest := []) ⟨hx, hb, hml, hown, hts⟩ (c_X6_isCell l G ko ad w h la tp ft tr mv x (by first | assumption | omega) (by first | assumption | omega)) (cwV 1 hts gX6_hide_X6_isCell rfl rfl rfl (by decide +kernel) ⟨Nat.le_of_ble_eq_true rfl, Nat.le_of_ble_eq_true rfl⟩) hK hP hS [0] rfl rfl rfl rfl hl.1 rfl (Nat.le_of_ble_eq_true rfl) dX6_hide_2 ⟨Nat.zero_le _, Nat.zero_le _⟩ (fun r2 H locs hp2 hP hS => ?_)
  rw [show r2 = _ from hp2]
  refine xb_if_ne (tgt := 10) hx hb dX6_hide_5 rfl (fun b5 => ?_) (fun b5 => ?_)
  · skip
    obtain ⟨x0, hx0, rfl⟩ := inR_nat b5
    refine lv_aload_n hx hb dX6_hide_10 rfl (lv_at hl 0 rfl) ?_
    refine va_get (D := G.1) (ci := 6) (v := .ref (ad 0)) (C := RX6) (T := TX6) (N := 29) hx hb hts hin6 hown hK.1 hP 0 rfl rfl 0 (by decide) (hts (.fieldLink RX6 7 "BackLensesModel" "st" "[I") (List.mem_of_getElem? (i := 1) rfl)) (fun _ h9 => h9) rfl dX6_hide_11 ?_
    refine lv_bipush (v := nI 47) hx hb dX6_hide_14 (by decide) ?_
    refine xn_iald hx hb hK hP 1 rfl (by omega) (by omega) dX6_hide_16 ?_
    refine xn_top (y := nI nl) (by exact hs47) ?_
    refine xn_if_ne (tgt := 23) hx hb (by omega) dX6_hide_17 rfl (fun b17 => ?_) (fun b17 => ?_)
    · skip
      refine lv_iconst (v := nI 1) hx hb dX6_hide_23 (by decide) ?_
      refine lv_aload_n hx hb dX6_hide_24 rfl (lv_at hl 0 rfl) ?_
      refine xr_i (As := []) (rest := [.int (nI 1)]) ⟨hx, hb, hml, hown, hts⟩ (c_X6_cellsNow l G ko ad w h la tp ft tr mv ) (cwV 0 hts gX6_hide_X6_cellsNow rfl rfl rfl (by decide +kernel) ⟨Nat.le_of_ble_eq_true rfl, Nat.le_of_ble_eq_true rfl⟩) hK hP hS [0] rfl rfl rfl rfl hl.1 rfl (Nat.le_of_ble_eq_true rfl) dX6_hide_25 ⟨Nat.zero_le _, Nat.zero_le _⟩ (fun r25 H locs hp25 hP hS => ?_)
      rw [show r25 = _ from hp25]
      refine lv_ishl hx hb dX6_hide_28 ?_
      refine lv_iconst (v := nI 1) hx hb dX6_hide_29 (by decide) ?_
      refine lv_isub hx hb dX6_hide_30 ?_
      refine lv_istore_n (lv' := [(2, .int (((nI 1) <<< ((nI (w * h)) &&& 31)) - (nI 1))), (0, .ref ko), (1, .int (nI x0))]) hx hb dX6_hide_31 rfl hl (by decide) rfl (fun ls hl => ?_)
      refine lv_iconst (v := nI 0) hx hb dX6_hide_32 (by decide) ?_
      refine lv_istore_n (lv' := [(3, .int (nI 0)), (2, .int (((nI 1) <<< ((nI (w * h)) &&& 31)) - (nI 1))), (0, .ref ko), (1, .int (nI x0))]) hx hb dX6_hide_33 rfl hl (by decide) rfl (fun ls hl => ?_)
      have hL34 : ∀ k : Nat, ∀ (i : Nat) (bits : Int32) (mk3 : Nat → Int32) (ls : Array Slot) (H : Heap) (locs : List Loc), nl - i = k → (i ≤ nl) → (bits = anF (fun l => sgM w h S nc x0 (tn (S (48 + 2 * l)))) (nI 1 <<< (nI (w * h) &&& 31) - nI 1) i) → lv_has ls 4 [(0, .ref ko), (1, .int (nI x0)), (2, .int bits), (3, .int (nI i))] → xP G [iA G (ad 0) 255 S, iA G (ad 4) 16 mk3, oC ko 6 [.ref (ad 0), .ref (ad 1), .int (nI w), .int (nI h), .int (nI la), .ref (ad 2), .int (mv 0), .int (mv 1), .int (mv 2), .int (mv 3), .int (mv 4), .int (mv 5), .int (mv 6), .ref (ad 3), .int (nI tp), .int (mv 7), .int (mv 8), .int (mv 9), .int (mv 10), .int ft, .int (mv 11), .ref (ad 4), .ref (ad 5), .ref (ad 6), .ref (ad 7), .ref (ad 8), .ref (ad 9), .ref (ad 10), .int tr]] H → va_D (va_A (w_X6_hide G ko ad w h la tp ft tr mv S mk) ss.heap.size) [iA G (ad 0) 255 S, iA G (ad 4) 16 mk3, oC ko 6 [.ref (ad 0), .ref (ad 1), .int (nI w), .int (nI h), .int (nI la), .ref (ad 2), .int (mv 0), .int (mv 1), .int (mv 2), .int (mv 3), .int (mv 4), .int (mv 5), .int (mv 6), .ref (ad 3), .int (nI tp), .int (mv 7), .int (mv 8), .int (mv 9), .int (mv 10), .int ft, .int (mv 11), .ref (ad 4), .ref (ad 5), .ref (ad 6), .ref (ad 7), .ref (ad 8), .ref (ad 9), .ref (ad 10), .int tr]] → va_S (va_A (w_X6_hide G ko ad w h la tp ft tr mv S mk) ss.heap.size) ss.heap H locs → W pp l ee ({ frames := 4, cells := 0, slots := 0, locals := 89 } : Room) ss mm ([.ref ko, .int (nI x0)] : List Value).toArray below mt cd H locs 0 0 (MQ below (Q_X6_hide G ss.heap.size ko ad w h la tp ft tr mv S mk nc nl (nI x0)) ([.ref ko, .int (nI x0)] : List Value).toArray ss 0 0 (va_A (w_X6_hide G ko ad w h la tp ft tr mv S mk) ss.heap.size)) (F0 mm 34 ls []) := by
        intro k
        induction k using Nat.strongRecOn with
        | _ k ih34 =>
        intro i bits mk3 ls H locs hm34 hi hbits hl hP hD hS
        refine lv_iload_n hx hb dX6_hide_34 rfl (lv_at hl 3 rfl) ?_
        refine lv_aload_n hx hb dX6_hide_35 rfl (lv_at hl 0 rfl) ?_
        refine va_get (D := G.1) (ci := 6) (v := .ref (ad 0)) (C := RX6) (T := TX6) (N := 29) hx hb hts hin6 hown hK.1 hP 2 rfl rfl 0 (by decide) (hts (.fieldLink RX6 7 "BackLensesModel" "st" "[I") (List.mem_of_getElem? (i := 1) rfl)) (fun _ h9 => h9) rfl dX6_hide_36 ?_
        refine lv_bipush (v := nI 47) hx hb dX6_hide_39 (by decide) ?_
        refine xn_iald hx hb hK hP 0 rfl (by omega) (by omega) dX6_hide_41 ?_
        refine xn_top (y := nI nl) (by exact hs47) ?_
        refine xn_icmp_ge (tgt := 72) hx hb (by omega) (by omega) dX6_hide_42 rfl (fun b42 => ?_) (fun b42 => ?_)
        · skip
          refine lv_iload_n hx hb dX6_hide_72 rfl (lv_at hl 2 rfl) ?_
          have hP := hP.sub (ws' := [oC ko 6 [.ref (ad 0), .ref (ad 1), .int (nI w), .int (nI h), .int (nI la), .ref (ad 2), .int (mv 0), .int (mv 1), .int (mv 2), .int (mv 3), .int (mv 4), .int (mv 5), .int (mv 6), .ref (ad 3), .int (nI tp), .int (mv 7), .int (mv 8), .int (mv 9), .int (mv 10), .int ft, .int (mv 11), .ref (ad 4), .ref (ad 5), .ref (ad 6), .ref (ad 7), .ref (ad 8), .ref (ad 9), .ref (ad 10), .int tr], iA G (ad 0) 255 S, iA G (ad 4) 16 mk3]) [2, 0, 1] rfl
          have hD := hD.sub (ws' := [oC ko 6 [.ref (ad 0), .ref (ad 1), .int (nI w), .int (nI h), .int (nI la), .ref (ad 2), .int (mv 0), .int (mv 1), .int (mv 2), .int (mv 3), .int (mv 4), .int (mv 5), .int (mv 6), .ref (ad 3), .int (nI tp), .int (mv 7), .int (mv 8), .int (mv 9), .int (mv 10), .int ft, .int (mv 11), .ref (ad 4), .ref (ad 5), .ref (ad 6), .ref (ad 7), .ref (ad 8), .ref (ad 9), .ref (ad 10), .int tr], iA G (ad 0) 255 S, iA G (ad 4) 16 mk3]) [2, 0, 1] (by decide) rfl
          refine W.iret (v := bits) hx hb hr (fun t ht hW => ⟨⟨bits, (mk3), rfl, ?_, by rw [ht]; exact hP, hD⟩, hS.F ht⟩) hS.2.2 dX6_hide_73
          first | exact (if_neg b5).symm | exact (by rw [if_pos (inR_nI hx0 (by omega)), if_pos b17]) | (rw [if_pos (inR_nI hx0 (by omega)), if_neg b17, tn_nI (by omega), hbits, show i = nl by omega])
        · skip
          refine lv_iload_n hx hb dX6_hide_45 rfl (lv_at hl 2 rfl) ?_
          refine lv_aload_n hx hb dX6_hide_46 rfl (lv_at hl 0 rfl) ?_
          refine lv_iload_n hx hb dX6_hide_47 rfl (lv_at hl 1 rfl) ?_
          refine lv_aload_n hx hb dX6_hide_48 rfl (lv_at hl 0 rfl) ?_
          refine va_get (D := G.1) (ci := 6) (v := .ref (ad 0)) (C := RX6) (T := TX6) (N := 29) hx hb hts hin6 hown hK.1 hP 2 rfl rfl 0 (by decide) (hts (.fieldLink RX6 7 "BackLensesModel" "st" "[I") (List.mem_of_getElem? (i := 1) rfl)) (fun _ h9 => h9) rfl dX6_hide_49 ?_
          refine lv_bipush (v := nI 48) hx hb dX6_hide_52 (by decide) ?_
          refine lv_iconst (v := nI 2) hx hb dX6_hide_54 (by decide) ?_
          refine lv_iload_n hx hb dX6_hide_55 rfl (lv_at hl 3 rfl) ?_
          refine xn_imul hx hb dX6_hide_56 ?_
          refine xn_iadd hx hb dX6_hide_57 ?_
          refine xn_iald hx hb hK hP 0 rfl (by omega) (by omega) dX6_hide_58 ?_
          obtain ⟨d0, hd0, ed0⟩ := inR_nat (hlens i (by omega))
          refine xn_top ed0 ?_
          refine xw_i (As := [.int (nI x0), .int (nI d0)]) (rest := [.int bits]) (wr := []) ⟨hx, hb, hml, hown, hts⟩ (c_X6_sightOn l G H.size ko ad w h la tp ft tr mv S mk3 nc x0 d0 (by first | assumption | omega) (by first | assumption | omega) (by first | assumption | omega) (by first | assumption | omega) (by first | assumption | omega) (by first | assumption | omega) (by first | assumption | omega) (by first | assumption | omega) (by first | assumption | omega) (by first | assumption | omega)) (cwV 2 hts gX6_hide_X6_sightOn rfl rfl rfl (by decide +kernel) ⟨Nat.le_of_ble_eq_true rfl, Nat.le_of_ble_eq_true rfl⟩) hK hP hD hS hA [2, 0, 1] [] rfl rfl (by decide) (by decide) (by decide) rfl rfl rfl hl.1 rfl (Nat.le_of_ble_eq_true rfl) dX6_hide_59 ⟨Nat.le_of_ble_eq_true rfl, Nat.le_of_ble_eq_true rfl⟩ (fun r59 u H locs hp59 hP hD hS => ?_)
          obtain ⟨mk2_59, rfl⟩ : ∃ z, z = u := ⟨_, rfl⟩
          try dsimp only at hp59 hP hD
          obtain rfl := hp59
          replace hP : xP G [oC ko 6 [.ref (ad 0), .ref (ad 1), .int (nI w), .int (nI h), .int (nI la), .ref (ad 2), .int (mv 0), .int (mv 1), .int (mv 2), .int (mv 3), .int (mv 4), .int (mv 5), .int (mv 6), .ref (ad 3), .int (nI tp), .int (mv 7), .int (mv 8), .int (mv 9), .int (mv 10), .int ft, .int (mv 11), .ref (ad 4), .ref (ad 5), .ref (ad 6), .ref (ad 7), .ref (ad 8), .ref (ad 9), .ref (ad 10), .int tr], iA G (ad 0) 255 S, iA G (ad 4) 16 mk2_59] H := hP
          replace hD : va_D (va_A (w_X6_hide G ko ad w h la tp ft tr mv S mk) ss.heap.size) [oC ko 6 [.ref (ad 0), .ref (ad 1), .int (nI w), .int (nI h), .int (nI la), .ref (ad 2), .int (mv 0), .int (mv 1), .int (mv 2), .int (mv 3), .int (mv 4), .int (mv 5), .int (mv 6), .ref (ad 3), .int (nI tp), .int (mv 7), .int (mv 8), .int (mv 9), .int (mv 10), .int ft, .int (mv 11), .ref (ad 4), .ref (ad 5), .ref (ad 6), .ref (ad 7), .ref (ad 8), .ref (ad 9), .ref (ad 10), .int tr], iA G (ad 0) 255 S, iA G (ad 4) 16 mk2_59] := hD
          refine lv_iconst (v := (-1)) hx hb dX6_hide_62 (by decide) ?_
          refine lv_ixor hx hb dX6_hide_63 ?_
          refine lv_iand hx hb dX6_hide_64 ?_
          refine lv_istore_n (lv' := [(2, .int (bits &&& ((sgM w h S nc x0 d0) ^^^ (-1)))), (0, .ref ko), (1, .int (nI x0)), (3, .int (nI i))]) hx hb dX6_hide_65 rfl hl (by decide) rfl (fun ls hl => ?_)
          refine lv_iinc (k := 3) (v := nI (i + 1)) (lv' := [(3, .int (nI (i + 1))), (2, .int (bits &&& ((sgM w h S nc x0 d0) ^^^ (-1)))), (0, .ref ko), (1, .int (nI x0))]) hx hb dX6_hide_66 hl rfl (xn_inc i 1) (by decide) rfl (fun ls hl => ?_)
          refine lv_goto (tgt := 34) hx hb dX6_hide_69 rfl ?_
          have hl := lv_sub hl (l' := [(0, .ref ko), (1, .int (nI x0)), (2, .int (bits &&& ((sgM w h S nc x0 d0) ^^^ (-1)))), (3, .int (nI (i + 1)))]) [2, 3, 1, 0] rfl
          have hP := hP.sub (ws' := [iA G (ad 0) 255 S, iA G (ad 4) 16 mk2_59, oC ko 6 [.ref (ad 0), .ref (ad 1), .int (nI w), .int (nI h), .int (nI la), .ref (ad 2), .int (mv 0), .int (mv 1), .int (mv 2), .int (mv 3), .int (mv 4), .int (mv 5), .int (mv 6), .ref (ad 3), .int (nI tp), .int (mv 7), .int (mv 8), .int (mv 9), .int (mv 10), .int ft, .int (mv 11), .ref (ad 4), .ref (ad 5), .ref (ad 6), .ref (ad 7), .ref (ad 8), .ref (ad 9), .ref (ad 10), .int tr]]) [1, 2, 0] rfl
          have hD := hD.sub (ws' := [iA G (ad 0) 255 S, iA G (ad 4) 16 mk2_59, oC ko 6 [.ref (ad 0), .ref (ad 1), .int (nI w), .int (nI h), .int (nI la), .ref (ad 2), .int (mv 0), .int (mv 1), .int (mv 2), .int (mv 3), .int (mv 4), .int (mv 5), .int (mv 6), .ref (ad 3), .int (nI tp), .int (mv 7), .int (mv 8), .int (mv 9), .int (mv 10), .int ft, .int (mv 11), .ref (ad 4), .ref (ad 5), .ref (ad 6), .ref (ad 7), .ref (ad 8), .ref (ad 9), .ref (ad 10), .int tr]]) [1, 2, 0] (by decide) rfl
          exact ih34 (nl - (i + 1)) (by omega) (i + 1) (bits &&& ((sgM w h S nc x0 d0) ^^^ (-1))) mk2_59 ls H locs rfl (by omega) (by rw [hbits, anF, ed0, tn_nI (by omega)]) hl hP hD hS
      have hl := lv_sub hl (l' := [(0, .ref ko), (1, .int (nI x0)), (2, .int (((nI 1) <<< ((nI (w * h)) &&& 31)) - (nI 1))), (3, .int (nI 0))]) [2, 3, 1, 0] rfl
      have hP := hP.sub (ws' := [iA G (ad 0) 255 S, iA G (ad 4) 16 mk, oC ko 6 [.ref (ad 0), .ref (ad 1), .int (nI w), .int (nI h), .int (nI la), .ref (ad 2), .int (mv 0), .int (mv 1), .int (mv 2), .int (mv 3), .int (mv 4), .int (mv 5), .int (mv 6), .ref (ad 3), .int (nI tp), .int (mv 7), .int (mv 8), .int (mv 9), .int (mv 10), .int ft, .int (mv 11), .ref (ad 4), .ref (ad 5), .ref (ad 6), .ref (ad 7), .ref (ad 8), .ref (ad 9), .ref (ad 10), .int tr]]) [1, 2, 0] rfl
      have hD := hD.sub (ws' := [iA G (ad 0) 255 S, iA G (ad 4) 16 mk, oC ko 6 [.ref (ad 0), .ref (ad 1), .int (nI w), .int (nI h), .int (nI la), .ref (ad 2), .int (mv 0), .int (mv 1), .int (mv 2), .int (mv 3), .int (mv 4), .int (mv 5), .int (mv 6), .ref (ad 3), .int (nI tp), .int (mv 7), .int (mv 8), .int (mv 9), .int (mv 10), .int ft, .int (mv 11), .ref (ad 4), .ref (ad 5), .ref (ad 6), .ref (ad 7), .ref (ad 8), .ref (ad 9), .ref (ad 10), .int tr]]) [1, 2, 0] (by decide) rfl
      exact hL34 (nl - 0) 0 (((nI 1) <<< ((nI (w * h)) &&& 31)) - (nI 1)) mk ls H locs rfl (by omega) (by rfl) hl hP hD hS
    · skip
      refine lv_bipush (v := (-2)) hx hb dX6_hide_20 (by decide) ?_
      have hP := hP.sub (ws' := [oC ko 6 [.ref (ad 0), .ref (ad 1), .int (nI w), .int (nI h), .int (nI la), .ref (ad 2), .int (mv 0), .int (mv 1), .int (mv 2), .int (mv 3), .int (mv 4), .int (mv 5), .int (mv 6), .ref (ad 3), .int (nI tp), .int (mv 7), .int (mv 8), .int (mv 9), .int (mv 10), .int ft, .int (mv 11), .ref (ad 4), .ref (ad 5), .ref (ad 6), .ref (ad 7), .ref (ad 8), .ref (ad 9), .ref (ad 10), .int tr], iA G (ad 0) 255 S, iA G (ad 4) 16 mk]) [0, 1, 2] rfl
      have hD := hD.sub (ws' := [oC ko 6 [.ref (ad 0), .ref (ad 1), .int (nI w), .int (nI h), .int (nI la), .ref (ad 2), .int (mv 0), .int (mv 1), .int (mv 2), .int (mv 3), .int (mv 4), .int (mv 5), .int (mv 6), .ref (ad 3), .int (nI tp), .int (mv 7), .int (mv 8), .int (mv 9), .int (mv 10), .int ft, .int (mv 11), .ref (ad 4), .ref (ad 5), .ref (ad 6), .ref (ad 7), .ref (ad 8), .ref (ad 9), .ref (ad 10), .int tr], iA G (ad 0) 255 S, iA G (ad 4) 16 mk]) [0, 1, 2] (by decide) rfl
      refine W.iret (v := (-2)) hx hb hr (fun t ht hW => ⟨⟨(-2), (mk), rfl, ?_, by rw [ht]; exact hP, hD⟩, hS.F ht⟩) hS.2.2 dX6_hide_22
      first | exact (if_neg b5).symm | exact (by rw [if_pos (inR_nI hx0 (by omega)), if_pos b17]) | (rw [if_pos (inR_nI hx0 (by omega)), if_neg b17, tn_nI (by omega), hbits, show i = nl by omega])
  · skip
    refine lv_iconst (v := (-1)) hx hb dX6_hide_8 (by decide) ?_
    have hP := hP.sub (ws' := [oC ko 6 [.ref (ad 0), .ref (ad 1), .int (nI w), .int (nI h), .int (nI la), .ref (ad 2), .int (mv 0), .int (mv 1), .int (mv 2), .int (mv 3), .int (mv 4), .int (mv 5), .int (mv 6), .ref (ad 3), .int (nI tp), .int (mv 7), .int (mv 8), .int (mv 9), .int (mv 10), .int ft, .int (mv 11), .ref (ad 4), .ref (ad 5), .ref (ad 6), .ref (ad 7), .ref (ad 8), .ref (ad 9), .ref (ad 10), .int tr], iA G (ad 0) 255 S, iA G (ad 4) 16 mk]) [0, 1, 2] rfl
    have hD := hD.sub (ws' := [oC ko 6 [.ref (ad 0), .ref (ad 1), .int (nI w), .int (nI h), .int (nI la), .ref (ad 2), .int (mv 0), .int (mv 1), .int (mv 2), .int (mv 3), .int (mv 4), .int (mv 5), .int (mv 6), .ref (ad 3), .int (nI tp), .int (mv 7), .int (mv 8), .int (mv 9), .int (mv 10), .int ft, .int (mv 11), .ref (ad 4), .ref (ad 5), .ref (ad 6), .ref (ad 7), .ref (ad 8), .ref (ad 9), .ref (ad 10), .int tr], iA G (ad 0) 255 S, iA G (ad 4) 16 mk]) [0, 1, 2] (by decide) rfl
    refine W.iret (v := (-1)) hx hb hr (fun t ht hW => ⟨⟨(-1), (mk), rfl, ?_, by rw [ht]; exact hP, hD⟩, hS.F ht⟩) hS.2.2 dX6_hide_9
    first | exact (if_neg b5).symm | exact (by rw [if_pos (inR_nI hx0 (by omega)), if_pos b17]) | (rw [if_pos (inR_nI hx0 (by omega)), if_neg b17, tn_nI (by omega), hbits, show i = nl by omega])
